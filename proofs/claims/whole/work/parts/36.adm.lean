/-! Admissions -/
abbrev Rw : Type := List (Int64 × Nat)
def tot (rs : Rw) : Nat := (rs.map (fun q => q.2)).sum
theorem tot_c (q : Int64 × Nat) (rs : Rw) : tot (q :: rs) = q.2 + tot rs := by simp [tot]
theorem tot_a (rs rs' : Rw) : tot (rs ++ rs') = tot rs + tot rs' := by simp [tot]
/-- the rows lie in the ring from f on -/
def AdR (I : T2) (J : T3) (f : Nat) (rs : Rw) : Prop := I 19 2 = nI f ∧ f < 512 ∧ I 19 3 = nI rs.length ∧ rs.length ≤ 512 ∧ ∀ (i : Nat) (q : Int64 × Nat), rs[i]? = some q → J 20 ((f + i) % 512) = q.1 ∧ I 21 ((f + i) % 512) = nI q.2
def FrA (I I' : T2) : Prop := ∀ o, o ≠ 19 → o ≠ 21 → I' o = I o
def FrJ (J J' : T3) : Prop := ∀ o, o ≠ 20 → J' o = J o
section AD
variable {d : Nat} {I : T2} {J : T3}
theorem sp_adBegin : Mt d mX0_begin [.ref 19] I J (RV (up2 (up2 (up2 I 19 2 0) 19 3 0) 19 4 0) J) := by
  refine Mt.of (by decide +kernel) (Nat.le_of_ble_eq_true rfl) ?_
  refine BX0_begin_0  ?_
  exact RX0_begin_15  (Nat.zero_le _) ⟨_, rfl, ⟨rfl, rfl, rfl⟩⟩
theorem sp_row {f i : Nat} (h : I 19 2 = nI f) (hf : f < 512) (hi : i < 2 ^ 30) : Mt d mX0_row [.ref 19, .int (nI i)] I J (RI (nI ((f + i) % 512)) I J) := by
  refine Mt.of (by decide +kernel) (Nat.le_of_ble_eq_true rfl) ?_
  refine BX0_row_0 ?_
  rw [h, nI_add, rem_512 (by omega)]
  exact RX0_row_10 (Nat.zero_le _) ⟨_, rfl, rfl, rfl, rfl⟩
theorem AdR.hd {f : Nat} {q : Int64 × Nat} {rs : Rw} (h : AdR I J f (q :: rs)) : J 20 f = q.1 ∧ I 21 f = nI q.2 := by
  have h1 := h.2.2.2.2 0 q rfl
  rw [show (f + 0) % 512 = f by have := h.2.1; omega] at h1
  exact h1
/-- the front row gives n of its admissions away -/
def foR (n : Nat) (rs : Rw) : Rw := match rs with
  | [] => []
  | q :: r => if q.2 ≤ n then r else (q.1, q.2 - n) :: r
set_option maxHeartbeats 1000000 in
theorem sp_forgetO {f n T : Nat} {q : Int64 × Nat} {rs : Rw} (h : AdR I J f (q :: rs)) (hT : I 19 4 = nI T) (hc : q.2 ≤ T) (hT2 : T < 2 ^ 30) (hn : n < 2 ^ 30) : Mt (d + 1) mX0_forgetOldest [.ref 19, .int (nI n)] I J (fun v I' J' => v = none ∧ (∃ f', AdR I' J f' (foR n (q :: rs))) ∧ I' 19 4 = nI (T - min n q.2) ∧ FrA I I' ∧ J' = J) := by
  obtain ⟨h1, h2, h3, h4, h5⟩ := id h
  obtain ⟨k1, k2⟩ := h.hd
  have hl : (q :: rs).length = rs.length + 1 := rfl
  refine Mt.of (by decide +kernel) (Nat.le_of_ble_eq_true rfl) ?_
  refine BX0_forgetOldest_0 (by rw [h1]; exact vp_in_nI h2 (by decide)) ?_
  rw [h1, nI_clamp (by omega), k2]
  refine CX0_forgetOldest_10 (sp_min (nI n) (nI q.2)) (Nat.zero_le _) (fun v I1 J1 q1 => ?_)
  obtain ⟨rfl, rfl, rfl⟩ := q1
  rw [min_nI (by omega) (by omega)]
  have hm : min n q.2 ≤ q.2 := Nat.min_le_right _ _
  refine BX0_forgetOldest_13 (by rw [h1]; exact vp_in_nI h2 (by decide)) (by rw [up2_k _ _ _ (by decide), up2_o _ _ _ _ (by decide), h1]; exact vp_in_nI h2 (by decide)) ?_
  have e1 : up2 (up2 I 21 (I 19 2).toNatClampNeg (I 21 (I 19 2).toNatClampNeg - nI (min n q.2))) 19 4 (up2 I 21 (I 19 2).toNatClampNeg (I 21 (I 19 2).toNatClampNeg - nI (min n q.2)) 19 4 - nI (min n q.2)) = up2 (up2 I 21 f (nI (q.2 - min n q.2))) 19 4 (nI (T - min n q.2)) := by
    rw [h1, nI_clamp (by omega), k2, pk_sub hm, up2_o _ _ _ _ (by decide), hT, pk_sub (by omega)]
  rw [e1]
  have e2 : up2 (up2 I 21 f (nI (q.2 - min n q.2))) 19 4 (nI (T - min n q.2)) 19 2 = nI f := by rw [up2_k _ _ _ (by decide), up2_o _ _ _ _ (by decide), h1]
  rw [e2, nI_clamp (by omega), up2_o _ _ _ _ (by decide), up2_s]
  have fr : FrA I (up2 (up2 I 21 f (nI (q.2 - min n q.2))) 19 4 (nI (T - min n q.2))) := fun o o1 o2 => by rw [up2_ne _ _ _ o1, up2_ne _ _ _ o2]
  refine IX0_forgetOldest_46 (fun c => ?_) (fun c => ?_)
  · refine RX0_forgetOldest_68 (Nat.zero_le _) ⟨_, rfl, rfl, ⟨f, ?_⟩, by rw [up2_s], fr, rfl⟩
    have hlt : n < q.2 := by
      refine Nat.lt_of_not_le fun hle => c ?_
      rw [Nat.min_eq_right hle, Nat.sub_self]; rfl
    rw [Nat.min_eq_left (by omega)]
    show AdR _ _ _ (if q.2 ≤ n then rs else (q.1, q.2 - n) :: rs)
    rw [if_neg (by omega)]
    refine ⟨by rw [up2_k _ _ _ (by decide), up2_o _ _ _ _ (by decide), h1], h2, by rw [up2_k _ _ _ (by decide), up2_o _ _ _ _ (by decide), h3]; rfl, h4, fun i p hp => ?_⟩
    rw [up2_o _ _ _ _ (by decide), up2_v]
    cases i with
    | zero =>
      cases hp
      rw [show (f + 0) % 512 = f by omega, if_pos ⟨rfl, rfl⟩]
      exact ⟨k1, rfl⟩
    | succ i =>
      have hp' : rs[i]? = some p := hp
      have hi : i < rs.length := (List.getElem?_eq_some_iff.mp hp').1
      rw [if_neg (by intro z; have := z.2; rw [hl] at h4; omega)]
      exact h5 (i + 1) p hp
  · have hle : q.2 ≤ n := by
      refine Nat.le_of_not_lt fun hlt => c (fun z => ?_)
      have := (nI_eq (a := q.2 - min n q.2) (b := 0) (by omega) (by decide)).mp z
      rw [Nat.min_eq_left (by omega)] at this
      omega
    refine BX0_forgetOldest_49 ?_
    refine CX0_forgetOldest_52 (sp_row (f := f) (i := 1) (by rw [up2_k _ _ _ (by decide), up2_o _ _ _ _ (by decide), h1]) h2 (by decide)) (Nat.zero_le _) (fun v I1 J1 q1 => ?_)
    obtain ⟨rfl, rfl, rfl⟩ := q1
    refine BX0_forgetOldest_55 ?_
    refine RX0_forgetOldest_68 (Nat.zero_le _) ⟨_, rfl, rfl, ⟨(f + 1) % 512, ?_⟩, ?_, ?_, rfl⟩
    · show AdR _ _ _ (if q.2 ≤ n then rs else (q.1, q.2 - n) :: rs)
      rw [if_pos hle]
      refine ⟨by rw [up2_k _ _ _ (by decide), up2_s], Nat.mod_lt _ (by decide), ?_, by omega, fun i p hp => ?_⟩
      · rw [up2_s, up2_k _ _ _ (by decide), up2_k _ _ _ (by decide), up2_o _ _ _ _ (by decide), h3, hl, nI_pred]
      · have hi : i < rs.length := (List.getElem?_eq_some_iff.mp hp).1
        have e3 : ((f + 1) % 512 + i) % 512 = (f + (i + 1)) % 512 := by omega
        rw [e3, up2_o _ _ _ _ (by decide), up2_o _ _ _ _ (by decide), up2_o _ _ _ _ (by decide), up2_v, if_neg (by intro z; have := z.2; rw [hl] at h4; omega)]
        exact h5 (i + 1) p hp
    · rw [up2_k _ _ _ (by decide), up2_k _ _ _ (by decide), up2_s]
    · intro o o1 o2
      rw [up2_ne _ _ _ o1, up2_ne _ _ _ o1, fr o o1 o2]
theorem sp_openRow {f : Nat} {rs : Rw} (h : AdR I J f rs) (hl : rs.length < 512) (t : Int64) : Mt (d + 1) mX0_openRow [.ref 19, .long t] I J (fun v I' J' => v = none ∧ AdR I' J' f (rs ++ [(t, 0)]) ∧ I' 19 4 = I 19 4 ∧ FrA I I' ∧ FrJ J J') := by
  obtain ⟨h1, h2, h3, h4, h5⟩ := id h
  refine Mt.of (by decide +kernel) (Nat.le_of_ble_eq_true rfl) ?_
  refine BX0_openRow_0 ?_
  refine IX0_openRow_7 (fun c => ?_) (fun c => absurd (show I 19 3 < 512 by rw [h3]; exact nI_lt (b := 512) hl (by decide)) c)
  refine BX0_openRow_23 ?_
  rw [up2_s, h3, nI_1, nI_pred]
  have g1 : up2 I 19 3 (nI (rs.length + 1)) 19 2 = nI f := by rw [up2_k _ _ _ (by decide), h1]
  have hm : (f + rs.length) % 512 < 512 := Nat.mod_lt _ (by decide)
  refine CX0_openRow_44 (sp_row (f := f) (i := rs.length) g1 h2 (by omega)) (Nat.zero_le _) (fun v I1 J1 q1 => ?_)
  obtain ⟨rfl, rfl, rfl⟩ := q1
  refine BX0_openRow_47 (by decide) (vp_in_nI hm (by decide)) ?_
  rw [up2_s, nI_pred, nI_clamp (by omega)]
  refine CX0_openRow_60 (sp_row (f := f) (i := rs.length) g1 h2 (by omega)) (Nat.zero_le _) (fun v I1 J1 q1 => ?_)
  obtain ⟨rfl, rfl, rfl⟩ := q1
  refine BX0_openRow_63 (by decide) (vp_in_nI hm (by decide)) ?_
  rw [nI_clamp (by omega)]
  refine RX0_openRow_65 (Nat.zero_le _) ⟨_, rfl, rfl, ⟨?_, h2, ?_, ?_, fun i p hp => ?_⟩, ?_, ?_, ?_⟩
  · rw [up2_o _ _ _ _ (by decide)]; exact g1
  · rw [up2_o _ _ _ _ (by decide), up2_s, List.length_append]; rfl
  · rw [List.length_append]; show _ + 1 ≤ _; omega
  · rw [up3_v, up2_v, up2_o _ _ _ _ (by decide)]
    by_cases hi : i < rs.length
    · rw [List.getElem?_append_left hi] at hp
      rw [if_neg (by intro z; have := z.2; omega), if_neg (by intro z; have := z.2; omega)]
      exact h5 i p hp
    · have hi2 := (List.getElem?_eq_some_iff.mp hp).1
      rw [List.length_append] at hi2
      have hi3 : i = rs.length := by have : i < rs.length + 1 := hi2; omega
      subst hi3
      rw [List.getElem?_append_right (Nat.le_refl _), Nat.sub_self] at hp
      cases hp
      rw [if_pos ⟨rfl, rfl⟩, if_pos ⟨rfl, rfl⟩]
      exact ⟨rfl, rfl⟩
  · rw [up2_o _ _ _ _ (by decide), up2_k _ _ _ (by decide)]
  · intro o o1 o2; rw [up2_ne _ _ _ o2, up2_ne _ _ _ o1]
  · intro o o1
    funext j
    rw [up3_v, if_neg (fun z => o1 z.1)]
/-- the admissions one by one -/
def exR (rs : Rw) : List Int64 := rs.flatMap (fun q => List.replicate q.2 q.1)
theorem exR_c (q : Int64 × Nat) (rs : Rw) : exR (q :: rs) = List.replicate q.2 q.1 ++ exR rs := rfl
theorem exR_a (rs rs' : Rw) : exR (rs ++ rs') = exR rs ++ exR rs' := List.flatMap_append
theorem exR_l : ∀ rs : Rw, (exR rs).length = tot rs
  | [] => rfl
  | q :: r => by rw [exR_c, List.length_append, List.length_replicate, exR_l r, tot_c]
theorem foR_l (n : Nat) (rs : Rw) : (foR n rs).length ≤ rs.length := by
  cases rs with
  | nil => exact Nat.le_refl _
  | cons q r =>
    show (if q.2 ≤ n then r else (q.1, q.2 - n) :: r).length ≤ r.length + 1
    by_cases h : q.2 ≤ n
    · rw [if_pos h]; omega
    · rw [if_neg h]; exact Nat.le_refl _
theorem foR_e (n : Nat) (q : Int64 × Nat) (rs : Rw) : exR (foR n (q :: rs)) = (exR (q :: rs)).drop (min n q.2) := by
  show exR (if q.2 ≤ n then rs else (q.1, q.2 - n) :: rs) = _
  by_cases h : q.2 ≤ n
  · rw [if_pos h, exR_c, Nat.min_eq_right h, List.drop_left' (by rw [List.length_replicate])]
  · rw [if_neg h, exR_c, exR_c, Nat.min_eq_left (by omega), List.drop_append_of_le_length (by rw [List.length_replicate]; omega), List.drop_replicate]
theorem foR_t (n : Nat) (q : Int64 × Nat) (rs : Rw) : tot (foR n (q :: rs)) = tot (q :: rs) - min n q.2 := by
  rw [← exR_l, foR_e, List.length_drop, exR_l]
theorem foR_p (n : Nat) (rs : Rw) (h : ∀ q ∈ rs, 0 < q.2) : ∀ q ∈ foR n rs, 0 < q.2 := by
  cases rs with
  | nil => exact h
  | cons q r =>
    show ∀ p ∈ (if q.2 ≤ n then r else (q.1, q.2 - n) :: r), 0 < p.2
    by_cases c : q.2 ≤ n
    · rw [if_pos c]; exact fun p hp => h p (List.mem_cons_of_mem _ hp)
    · rw [if_neg c]
      intro p hp
      cases List.mem_cons.mp hp with
      | inl e => rw [e]; show 0 < q.2 - n; omega
      | inr e => exact h p (List.mem_cons_of_mem _ e)
/-- the rows and their total -/
def AdC (I : T2) (J : T3) (rs : Rw) : Prop := (∃ f, AdR I J f rs) ∧ I 19 4 = nI (tot rs) ∧ ∀ q ∈ rs, 0 < q.2
def adP (I : T2) (J : T3) (rs : Rw) (t : Int64) (n : Nat) : Option Value → T2 → T3 → Prop := fun v I' J' => v = none ∧ FrA I I' ∧ FrJ J J' ∧ ∃ rs', AdC I' J' rs' ∧ exR rs' = (exR rs ++ List.replicate n t).drop (tot rs + n - 2000) ∧ rs'.length ≤ rs.length + 1
/-- the last row takes n more -/
theorem AdR.last {f c n : Nat} {t : Int64} {rs : Rw} (h : AdR I J f (rs ++ [(t, c)])) (T : Int32) : AdR (up2 (up2 I 21 ((f + rs.length) % 512) (nI (c + n))) 19 4 T) J f (rs ++ [(t, c + n)]) := by
  obtain ⟨h1, h2, h3, h4, h5⟩ := id h
  have hl : (rs ++ [(t, c + n)]).length = (rs ++ [(t, c)]).length := by rw [List.length_append, List.length_append]; rfl
  have hl2 : (rs ++ [(t, c)]).length = rs.length + 1 := by rw [List.length_append]; rfl
  refine ⟨by rw [up2_k _ _ _ (by decide), up2_o _ _ _ _ (by decide), h1], h2, by rw [up2_k _ _ _ (by decide), up2_o _ _ _ _ (by decide), h3, hl], by omega, fun i p hp => ?_⟩
  rw [up2_o _ _ _ _ (by decide), up2_v]
  by_cases hi : i < rs.length
  · rw [if_neg (by intro z; have := z.2; omega)]
    rw [List.getElem?_append_left hi] at hp
    exact h5 i p (by rw [List.getElem?_append_left hi]; exact hp)
  · have hi2 := (List.getElem?_eq_some_iff.mp hp).1
    have hi3 : i = rs.length := by omega
    subst hi3
    rw [List.getElem?_append_right (Nat.le_refl _), Nat.sub_self] at hp
    cases hp
    rw [if_pos ⟨rfl, rfl⟩]
    exact ⟨(h5 rs.length (t, c) (by rw [List.getElem?_append_right (Nat.le_refl _), Nat.sub_self]; rfl)).1, rfl⟩
/-- the loop that forgets -/
theorem ad_trim {t : Int64} {x : Int32} {I0 : T2} {J0 : T3} {rs0 : Rw} {n : Nat} : ∀ q k : Nat, k + q = 512 → ∀ (I : T2) (rs : Rw), AdC I J rs → rs.length ≤ q → rs.length ≤ rs0.length + 1 → tot rs ≤ 10000 → FrA I0 I → FrJ J0 J → (∃ e, exR rs = (exR rs0 ++ List.replicate n t).drop e ∧ e ≤ tot rs0 + n - 2000 ∧ tot rs + e = tot rs0 + n) → Ev (d + 2) 0 0 (fun _ => 0) mX0_add 64 [some (.ref 19), some (.long t), none, some (.int x), some (.int (nI k))] [] I J 0 (fun o I' J' _ => ∃ w, o = .inl w ∧ adP I0 J0 rs0 t n w I' J') := by
  intro q
  have fin : ∀ (I : T2) (rs : Rw), AdC I J rs → rs.length ≤ rs0.length + 1 → tot rs ≤ 2000 → FrA I0 I → FrJ J0 J → (∃ e, exR rs = (exR rs0 ++ List.replicate n t).drop e ∧ e ≤ tot rs0 + n - 2000 ∧ tot rs + e = tot rs0 + n) → adP I0 J0 rs0 t n none I J := by
    intro I rs ha hl ht f1 f2 he
    obtain ⟨e, e1, e2, e3⟩ := he
    exact ⟨rfl, f1, f2, rs, ha, by rw [e1, show e = tot rs0 + n - 2000 by omega], hl⟩
  induction q with
  | zero =>
    intro k hk I rs ha hq hl ht f1 f2 he
    have hrs : rs = [] := List.length_eq_zero_iff.mp (by omega)
    refine BX0_add_64 ?_
    refine IX0_add_69 (fun c => ?_) (fun c => absurd (show (512 : Int32) ≤ nI k from nI_le (a := 512) (by omega) (by omega)) c)
    exact RX0_add_100 (Nat.zero_le _) ⟨_, rfl, fin I rs ha hl (by rw [hrs]; exact Nat.zero_le _) f1 f2 he⟩
  | succ q ih =>
    intro k hk I rs ha hq hl ht f1 f2 he
    refine BX0_add_64 ?_
    refine IX0_add_69 (fun c => absurd c (show ¬ (512 : Int32) ≤ nI k from nI_ge (b := 512) (by omega) (by decide))) (fun c => ?_)
    refine BX0_add_72 ?_
    obtain ⟨⟨f, a1⟩, a2, a3⟩ := id ha
    rw [a2]
    refine IX0_add_79 (fun c => ?_) (fun c => ?_)
    · have c' := (nI_leI (a := tot rs) (b := 2000) (by omega) (by decide)).mp c
      exact RX0_add_100 (Nat.zero_le _) ⟨_, rfl, fin I rs ha hl c' f1 f2 he⟩
    · have c' : 2000 < tot rs := Nat.lt_of_not_le fun z => c (nI_le (b := 2000) z (by decide))
      refine BX0_add_82 ?_
      rw [a2, show nI (tot rs) - 2000 = nI (tot rs - 2000) from pk_sub (b := 2000) (by omega)]
      cases rs with
      | nil => exact absurd c' (by decide)
      | cons p rs =>
        have hp0 : 0 < p.2 := a3 p (List.mem_cons_self)
        have ht2 := tot_c p rs
        refine CX0_add_91 (sp_forgetO (n := tot (p :: rs) - 2000) a1 a2 (by omega) (by omega) (by omega)) (Nat.zero_le _) (fun v I1 J1 q1 => ?_)
        obtain ⟨rfl, b1, b2, b3, rfl⟩ := q1
        refine BX0_add_94 ?_
        rw [nI_1]
        obtain ⟨e, e1, e2, e3⟩ := he
        have hm : min (tot (p :: rs) - 2000) p.2 ≤ tot (p :: rs) - 2000 := Nat.min_le_left _ _
        have hmp : 0 < min (tot (p :: rs) - 2000) p.2 := Nat.lt_min.mpr ⟨by omega, hp0⟩
        by_cases hc : p.2 ≤ tot (p :: rs) - 2000
        · have hfo : foR (tot (p :: rs) - 2000) (p :: rs) = rs := if_pos hc
          refine ih (k + 1) (by omega) I1 (foR (tot (p :: rs) - 2000) (p :: rs)) ⟨b1, by rw [b2, foR_t], foR_p _ _ a3⟩ (by rw [hfo]; exact Nat.le_of_succ_le_succ hq) (Nat.le_trans (foR_l _ _) hl) (by rw [foR_t]; omega) (fun o o1 o2 => by rw [b3 o o1 o2, f1 o o1 o2]) f2 ⟨e + min (tot (p :: rs) - 2000) p.2, ?_, by omega, by rw [foR_t]; omega⟩
          rw [foR_e, e1, List.drop_drop]
        · have hmm : min (tot (p :: rs) - 2000) p.2 = tot (p :: rs) - 2000 := Nat.min_eq_left (by omega)
          have ha' : AdC I1 J1 (foR (tot (p :: rs) - 2000) (p :: rs)) := ⟨b1, by rw [b2, foR_t], foR_p _ _ a3⟩
          have f1' : FrA I0 I1 := fun o o1 o2 => by rw [b3 o o1 o2, f1 o o1 o2]
          have ht3 : tot (foR (tot (p :: rs) - 2000) (p :: rs)) = 2000 := by rw [foR_t, hmm]; omega
          have fi := fin I1 (foR (tot (p :: rs) - 2000) (p :: rs)) ha' (Nat.le_trans (foR_l _ _) hl) (by omega) f1' f2 ⟨e + min (tot (p :: rs) - 2000) p.2, by rw [foR_e, e1, List.drop_drop], by omega, by rw [foR_t]; omega⟩
          refine BX0_add_64 ?_
          refine IX0_add_69 (fun c => RX0_add_100 (Nat.zero_le _) ⟨_, rfl, fi⟩) (fun c => ?_)
          refine BX0_add_72 ?_
          rw [ha'.2.1, ht3]
          exact IX0_add_79 (fun c => RX0_add_100 (Nat.zero_le _) ⟨_, rfl, fi⟩) (fun c => absurd (nI_le (a := 2000) (b := 2000) (by decide) (by decide)) c)
/-- from 32 on: the last row is of this tick -/
theorem ad_mid {f c n : Nat} {t : Int64} {I0 : T2} {J0 : T3} {rs0 rs : Rw} (h : AdR I J f (rs ++ [(t, c)])) (hT : I 19 4 = nI (tot rs + c)) (hp : ∀ q ∈ rs, 0 < q.2) (hn : 0 < n) (hn2 : n ≤ 1000) (ht0 : tot rs0 ≤ 2000) (hl : rs.length ≤ rs0.length) (he : exR rs0 = exR (rs ++ [(t, c)])) (f1 : FrA I0 I) (f2 : FrJ J0 J) : Ev (d + 2) 0 0 (fun _ => 0) mX0_add 32 [some (.ref 19), some (.long t), none, some (.int (nI n)), none] [] I J 0 (fun o I' J' _ => ∃ w, o = .inl w ∧ adP I0 J0 rs0 t n w I' J') := by
  obtain ⟨h1, h2, h3, h4, h5⟩ := id h
  have hl2 : (rs ++ [(t, c)]).length = rs.length + 1 := by rw [List.length_append]; rfl
  have hm : (f + rs.length) % 512 < 512 := Nat.mod_lt _ (by decide)
  have htt : tot rs0 = tot rs + c := by
    rw [← exR_l, he, exR_l, tot_a]
    show tot rs + (c + 0) = _
    omega
  refine BX0_add_32 ?_
  rw [h3, hl2, nI_pred]
  refine CX0_add_43 (sp_row (f := f) (i := rs.length) h1 h2 (by omega)) (Nat.zero_le _) (fun v I1 J1 q1 => ?_)
  obtain ⟨rfl, rfl, rfl⟩ := q1
  refine BX0_add_46 (by decide) (vp_in_nI hm (by decide)) ?_
  rw [nI_clamp (by omega), (h5 rs.length (t, c) (by rw [List.getElem?_append_right (Nat.le_refl _), Nat.sub_self]; rfl)).2, up2_o _ _ _ _ (by decide), hT, nI_add, nI_add]
  refine ad_trim (rs0 := rs0) (n := n) 512 0 rfl _ (rs ++ [(t, c + n)]) ⟨⟨f, h.last _⟩, ?_, ?_⟩ ?_ ?_ ?_ ?_ f2 ⟨0, ?_, Nat.zero_le _, ?_⟩
  · rw [up2_s, tot_a]
    show nI (tot rs + c + n) = nI (tot rs + (c + n + 0))
    congr 1
    omega
  · intro q hq
    cases List.mem_append.mp hq with
    | inl e => exact hp q e
    | inr e =>
      rw [List.mem_singleton.mp e]
      show 0 < c + n
      omega
  · rw [List.length_append]; show _ + 1 ≤ _; omega
  · rw [List.length_append]; show _ + 1 ≤ _; omega
  · rw [tot_a]; show tot rs + (c + n + 0) ≤ _; omega
  · intro o o1 o2; rw [up2_ne _ _ _ o1, up2_ne _ _ _ o2, f1 o o1 o2]
  · rw [List.drop_zero, he, exR_a, exR_a, List.append_assoc]
    show _ ++ (List.replicate (c + n) t ++ []) = _ ++ ((List.replicate c t ++ []) ++ List.replicate n t)
    rw [List.append_nil, List.append_nil, List.replicate_append_replicate]
  · rw [tot_a]; show tot rs + (c + n + 0) + 0 = _; omega
theorem sp_add {n : Nat} {rs : Rw} {t : Int64} (h : AdC I J rs) (hl : rs.length < 512) (ht : tot rs ≤ 2000) (hn : 0 < n) (hn2 : n ≤ 1000) : Mt (d + 2) mX0_add [.ref 19, .long t, .int (nI n)] I J (adP I J rs t n) := by
  obtain ⟨⟨f, a1⟩, a2, a3⟩ := id h
  obtain ⟨h1, h2, h3, h4, h5⟩ := id a1
  refine Mt.of (by decide +kernel) (Nat.le_of_ble_eq_true rfl) ?_
  have opn : Ev (d + 2) 0 0 (fun _ => 0) mX0_add 27 [some (.ref 19), some (.long t), none, some (.int (nI n)), none] [] I J 0 (fun o I' J' _ => ∃ w, o = .inl w ∧ adP I J rs t n w I' J') := by
    refine BX0_add_27 ?_
    refine CX0_add_29 (sp_openRow a1 hl t) (Nat.zero_le _) (fun v I1 J1 q1 => ?_)
    obtain ⟨rfl, b1, b2, b3, b4⟩ := q1
    refine ad_mid b1 (by rw [b2, a2]; rfl) a3 hn hn2 ht (Nat.le_refl _) ?_ b3 b4
    rw [exR_a]
    exact (List.append_nil _).symm
  refine BX0_add_0 ?_
  refine IX0_add_4 (fun c => opn) (fun c => ?_)
  have hne : rs ≠ [] := fun z => c (by rw [h3, z]; rfl)
  obtain ⟨ri, p, rfl⟩ : ∃ ri p, rs = ri ++ [p] := ⟨rs.dropLast, rs.getLast hne, (List.dropLast_concat_getLast hne).symm⟩
  have hl2 : (ri ++ [p]).length = ri.length + 1 := by rw [List.length_append]; rfl
  have hm : (f + ri.length) % 512 < 512 := Nat.mod_lt _ (by decide)
  refine BX0_add_7 ?_
  rw [h3, hl2, nI_pred]
  refine CX0_add_18 (sp_row (f := f) (i := ri.length) h1 h2 (by omega)) (Nat.zero_le _) (fun v I1 J1 q1 => ?_)
  obtain ⟨rfl, rfl, rfl⟩ := q1
  refine BX0_add_21 (by decide) (vp_in_nI hm (by decide)) ?_
  rw [nI_clamp (by omega), (h5 ri.length p (by rw [List.getElem?_append_right (Nat.le_refl _), Nat.sub_self]; rfl)).1]
  refine IX0_add_24 (fun c2 => ?_) (fun c2 => opn)
  have c3 := (lg_eq0 _ _).mp c2
  obtain ⟨pt, pc⟩ := p
  have c4 : pt = t := c3
  subst c4
  refine ad_mid (c := pc) (rs := ri) a1 (by rw [a2, tot_a]; rfl) (fun q hq => a3 q (List.mem_append_left _ hq)) hn hn2 ht (by omega) rfl (fun _ _ _ => rfl) (fun _ _ => rfl)
end AD

