/-! Admissions -/
abbrev Rw : Type := List (Int64 × Nat)
def tot (rs : Rw) : Nat := (rs.map (fun q => q.2)).sum
theorem tot_c (q : Int64 × Nat) (rs : Rw) : tot (q :: rs) = q.2 + tot rs := by simp [tot]
theorem tot_a (rs rs' : Rw) : tot (rs ++ rs') = tot rs + tot rs' := by simp [tot]
/-- the rows lie in the ring from f on -/
def AdR (I : T2) (J : T3) (f : Nat) (rs : Rw) : Prop := I 19 2 = nI f ∧ f < 512 ∧ I 19 3 = nI rs.length ∧ rs.length ≤ 512 ∧ ∀ (i : Nat) (q : Int64 × Nat), rs[i]? = some q → J 20 ((f + i) % 512) = q.1 ∧ I 21 ((f + i) % 512) = nI q.2
def FrA (I I' : T2) : Prop := ∀ o, o ≠ 19 → o ≠ 21 → I' o = I o
def FrJ (J J' : T3) : Prop := ∀ o, o ≠ 20 → J' o = J o
section AD
variable {d : Nat} {I : T2} {J : T3}
theorem sp_adBegin : Mt d mX0_begin [.ref 19] I J (RV (up2 (up2 (up2 I 19 2 0) 19 3 0) 19 4 0) J) := by
  refine Mt.of (by decide +kernel) (Nat.le_of_ble_eq_true rfl) ?_
  refine BX0_begin_0  ?_
  exact RX0_begin_15  (Nat.zero_le _) ⟨_, rfl, ⟨rfl, rfl, rfl⟩⟩
theorem sp_row {f i : Nat} (h : I 19 2 = nI f) (hf : f < 512) (hi : i < 2 ^ 30) : Mt d mX0_row [.ref 19, .int (nI i)] I J (RI (nI ((f + i) % 512)) I J) := by
  refine Mt.of (by decide +kernel) (Nat.le_of_ble_eq_true rfl) ?_
  refine BX0_row_0 ?_
  rw [h, nI_add, rem_512 (by omega)]
  exact RX0_row_10 (Nat.zero_le _) ⟨_, rfl, rfl, rfl, rfl⟩
theorem AdR.hd {f : Nat} {q : Int64 × Nat} {rs : Rw} (h : AdR I J f (q :: rs)) : J 20 f = q.1 ∧ I 21 f = nI q.2 := by
  have h1 := h.2.2.2.2 0 q rfl
  rw [show (f + 0) % 512 = f by have := h.2.1; omega] at h1
  exact h1
/-- the front row gives n of its admissions away -/
def foR (n : Nat) (rs : Rw) : Rw := match rs with
  | [] => []
  | q :: r => if q.2 ≤ n then r else (q.1, q.2 - n) :: r
set_option maxHeartbeats 1000000 in
theorem sp_forgetO {f n T : Nat} {q : Int64 × Nat} {rs : Rw} (h : AdR I J f (q :: rs)) (hT : I 19 4 = nI T) (hc : q.2 ≤ T) (hT2 : T < 2 ^ 30) (hn : n < 2 ^ 30) : Mt (d + 1) mX0_forgetOldest [.ref 19, .int (nI n)] I J (fun v I' J' => v = none ∧ (∃ f', AdR I' J f' (foR n (q :: rs))) ∧ I' 19 4 = nI (T - min n q.2) ∧ FrA I I' ∧ J' = J) := by
  obtain ⟨h1, h2, h3, h4, h5⟩ := id h
  obtain ⟨k1, k2⟩ := h.hd
  have hl : (q :: rs).length = rs.length + 1 := rfl
  refine Mt.of (by decide +kernel) (Nat.le_of_ble_eq_true rfl) ?_
  refine BX0_forgetOldest_0 (by rw [h1]; exact vp_in_nI h2 (by decide)) ?_
  rw [h1, nI_clamp (by omega), k2]
  refine CX0_forgetOldest_10 (sp_min (nI n) (nI q.2)) (Nat.zero_le _) (fun v I1 J1 q1 => ?_)
  obtain ⟨rfl, rfl, rfl⟩ := q1
  rw [min_nI (by omega) (by omega)]
  have hm : min n q.2 ≤ q.2 := Nat.min_le_right _ _
  refine BX0_forgetOldest_13 (by rw [h1]; exact vp_in_nI h2 (by decide)) (by rw [up2_k _ _ _ (by decide), up2_o _ _ _ _ (by decide), h1]; exact vp_in_nI h2 (by decide)) ?_
  have e1 : up2 (up2 I 21 (I 19 2).toNatClampNeg (I 21 (I 19 2).toNatClampNeg - nI (min n q.2))) 19 4 (up2 I 21 (I 19 2).toNatClampNeg (I 21 (I 19 2).toNatClampNeg - nI (min n q.2)) 19 4 - nI (min n q.2)) = up2 (up2 I 21 f (nI (q.2 - min n q.2))) 19 4 (nI (T - min n q.2)) := by
    rw [h1, nI_clamp (by omega), k2, pk_sub hm, up2_o _ _ _ _ (by decide), hT, pk_sub (by omega)]
  rw [e1]
  have e2 : up2 (up2 I 21 f (nI (q.2 - min n q.2))) 19 4 (nI (T - min n q.2)) 19 2 = nI f := by rw [up2_k _ _ _ (by decide), up2_o _ _ _ _ (by decide), h1]
  rw [e2, nI_clamp (by omega), up2_o _ _ _ _ (by decide), up2_s]
  have fr : FrA I (up2 (up2 I 21 f (nI (q.2 - min n q.2))) 19 4 (nI (T - min n q.2))) := fun o o1 o2 => by rw [up2_ne _ _ _ o1, up2_ne _ _ _ o2]
  refine IX0_forgetOldest_46 (fun c => ?_) (fun c => ?_)
  · refine RX0_forgetOldest_68 (Nat.zero_le _) ⟨_, rfl, rfl, ⟨f, ?_⟩, by rw [up2_s], fr, rfl⟩
    have hlt : n < q.2 := by
      refine Nat.lt_of_not_le fun hle => c ?_
      rw [Nat.min_eq_right hle, Nat.sub_self]; rfl
    rw [Nat.min_eq_left (by omega)]
    show AdR _ _ _ (if q.2 ≤ n then rs else (q.1, q.2 - n) :: rs)
    rw [if_neg (by omega)]
    refine ⟨by rw [up2_k _ _ _ (by decide), up2_o _ _ _ _ (by decide), h1], h2, by rw [up2_k _ _ _ (by decide), up2_o _ _ _ _ (by decide), h3]; rfl, h4, fun i p hp => ?_⟩
    rw [up2_o _ _ _ _ (by decide), up2_v]
    cases i with
    | zero =>
      cases hp
      rw [show (f + 0) % 512 = f by omega, if_pos ⟨rfl, rfl⟩]
      exact ⟨k1, rfl⟩
    | succ i =>
      have hp' : rs[i]? = some p := hp
      have hi : i < rs.length := (List.getElem?_eq_some_iff.mp hp').1
      rw [if_neg (by intro z; have := z.2; rw [hl] at h4; omega)]
      exact h5 (i + 1) p hp
  · have hle : q.2 ≤ n := by
      refine Nat.le_of_not_lt fun hlt => c (fun z => ?_)
      have := (nI_eq (a := q.2 - min n q.2) (b := 0) (by omega) (by decide)).mp z
      rw [Nat.min_eq_left (by omega)] at this
      omega
    refine BX0_forgetOldest_49 ?_
    refine CX0_forgetOldest_52 (sp_row (f := f) (i := 1) (by rw [up2_k _ _ _ (by decide), up2_o _ _ _ _ (by decide), h1]) h2 (by decide)) (Nat.zero_le _) (fun v I1 J1 q1 => ?_)
    obtain ⟨rfl, rfl, rfl⟩ := q1
    refine BX0_forgetOldest_55 ?_
    refine RX0_forgetOldest_68 (Nat.zero_le _) ⟨_, rfl, rfl, ⟨(f + 1) % 512, ?_⟩, ?_, ?_, rfl⟩
    · show AdR _ _ _ (if q.2 ≤ n then rs else (q.1, q.2 - n) :: rs)
      rw [if_pos hle]
      refine ⟨by rw [up2_k _ _ _ (by decide), up2_s], Nat.mod_lt _ (by decide), ?_, by omega, fun i p hp => ?_⟩
      · rw [up2_s, up2_k _ _ _ (by decide), up2_k _ _ _ (by decide), up2_o _ _ _ _ (by decide), h3, hl, nI_pred]
      · have hi : i < rs.length := (List.getElem?_eq_some_iff.mp hp).1
        have e3 : ((f + 1) % 512 + i) % 512 = (f + (i + 1)) % 512 := by omega
        rw [e3, up2_o _ _ _ _ (by decide), up2_o _ _ _ _ (by decide), up2_o _ _ _ _ (by decide), up2_v, if_neg (by intro z; have := z.2; rw [hl] at h4; omega)]
        exact h5 (i + 1) p hp
    · rw [up2_k _ _ _ (by decide), up2_k _ _ _ (by decide), up2_s]
    · intro o o1 o2
      rw [up2_ne _ _ _ o1, up2_ne _ _ _ o1, fr o o1 o2]
end AD

