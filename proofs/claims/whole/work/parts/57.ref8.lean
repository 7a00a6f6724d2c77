/-! the reference: admissions -/
def TmR (I : T2) (J : T3) (ts : List Int64) : Prop := I 136 27 = nI ts.length ∧ ts.length ≤ 2000 ∧ ∀ (i : Nat) (v : Int64), ts[i]? = some v → J 153 i = v
section RF8
variable {d : Nat} {I : T2} {J : T3} {G x : Nat}
theorem up3_o {o a : Nat} (k j : Nat) (v : Int64) (h : a ≠ o) : up3 J o k v a j = J a j := by rw [up3_v, if_neg (fun z => h z.1)]
def rmbP (I : T2) (J : T3) (ts : List Int64) : Option Value → T2 → T3 → Prop := fun v I' J' => v = none ∧ (∀ o i, ¬ (o = 136 ∧ i = 27) → I' o i = I o i) ∧ (∀ o, o ≠ 153 → J' o = J o) ∧ TmR I' J' ((ts ++ [J 136 5]).drop (ts.length + 1 - 2000))
theorem rmb_end {ts : List Int64} {I1 : T2} {J1 : T3} {ts0 : List Int64} (h : TmR I1 J1 ts) (hl : ts.length < 2000) (hI : ∀ o i, ¬ (o = 136 ∧ i = 27) → I1 o i = I o i) (hJ : ∀ o, o ≠ 153 → J1 o = J o) (he : (ts0 ++ [J 136 5]).drop (ts0.length + 1 - 2000) = ts ++ [J 136 5]) : Ev d 0 0 (fun _ => 0) mX7_remember 51 [some (.ref 136), none] [] I1 J1 0 (fun o I' J' _ => ∃ v, o = .inl v ∧ rmbP I J ts0 v I' J') := by
  obtain ⟨h1, h2, h3⟩ := h
  refine BX7_remember_51 (by rw [h1]; exact vp_in_nI hl (by decide)) ?_
  rw [h1, nI_clamp (by omega), nI_1]
  refine RX7_remember_74 (Nat.zero_le _) ⟨_, rfl, rfl, fun o i hn => ?_, fun o ho => ?_, ?_⟩
  · rw [up2_v, if_neg hn, hI o i hn]
  · funext j
    rw [up3_v, if_neg (fun z => ho z.1), hJ o ho]
  · rw [he]
    refine ⟨by rw [up2_s, List.length_append]; rfl, by rw [List.length_append]; show ts.length + 1 ≤ 2000; omega, fun i v hv => ?_⟩
    rw [up3_v]
    by_cases c : i = ts.length
    · subst c
      rw [List.getElem?_append_right (Nat.le_refl _), Nat.sub_self] at hv
      cases hv
      rw [if_pos ⟨rfl, rfl⟩, hJ 136 (by decide)]
    · rw [if_neg (fun z => c z.2)]
      have hi := (List.getElem?_eq_some_iff.mp hv).1
      rw [List.length_append] at hi
      have hi2 : i < ts.length + 1 := hi
      rw [List.getElem?_append_left (by omega)] at hv
      exact h3 i v hv
theorem sm_remember {ts : List Int64} (h : TmR I J ts) : Mt d mX7_remember [.ref 136] I J (rmbP I J ts) := by
  obtain ⟨h1, h2, h3⟩ := id h
  refine Mt.of (by decide +kernel) (Nat.le_of_ble_eq_true rfl) ?_
  refine BX7_remember_0 ?_
  rw [h1]
  by_cases c : ts.length < 2000
  · refine IX7_remember_7 (fun _ => ?_) (fun z => absurd (fun y => absurd ((nI_eq (b := 2000) (by omega) (by decide)).mp y) (by omega)) z)
    exact rmb_end h c (fun _ _ _ => rfl) (fun _ _ => rfl) (by rw [show ts.length + 1 - 2000 = 0 by omega]; rfl)
  · have hl : ts.length = 2000 := by omega
    refine IX7_remember_7 (fun z => absurd (by rw [hl]; rfl) z) (fun _ => ?_)
    refine BX7_remember_10 ?_
    have key : ∀ q k : Nat, k + q = 1999 → ∀ J1 : T3, (∀ o, o ≠ 153 → J1 o = J o) → (∀ j, J1 153 j = if j < k then J 153 (j + 1) else J 153 j) → Ev d 0 0 (fun _ => 0) mX7_remember 12 [some (.ref 136), some (.int (nI k))] [] I J1 0 (fun o I' J' _ => ∃ v, o = .inl v ∧ rmbP I J ts v I' J') := by
      intro q
      induction q with
      | zero =>
        intro k hk J1 f1 f2
        refine BX7_remember_12 ?_
        rw [nI_1]
        refine IX7_remember_18 (fun _ => ?_) (fun z => absurd (show (2000 : Int32) ≤ nI (k + 1) from nI_le (a := 2000) (by omega) (by omega)) z)
        refine BX7_remember_41 ?_
        rw [h1, hl, show nI 2000 - 1 = nI 1999 from by decide]
        refine Ev.weak (ls' := [some (.ref 136), none]) ⟨Or.inr rfl, Or.inl rfl, trivial⟩ ?_
        have e1 : (ts.drop 1).length = 1999 := by rw [List.length_drop, hl]
        refine rmb_end (ts := ts.drop 1) ⟨by rw [up2_s, e1], by omega, fun i v hv => ?_⟩ (by omega) (fun o i hn => by rw [up2_v, if_neg hn]) f1 ?_
        · rw [List.getElem?_drop] at hv
          have hi := (List.getElem?_eq_some_iff.mp hv).1
          rw [f2, if_pos (by omega), Nat.add_comm i 1]
          exact h3 (1 + i) v hv
        · rw [hl, List.drop_append_of_le_length (by omega)]
      | succ q ih =>
        intro k hk J1 f1 f2
        refine BX7_remember_12 ?_
        rw [nI_1]
        refine IX7_remember_18 (fun z => absurd z (show ¬ (2000 : Int32) ≤ nI (k + 1) from nI_ge (b := 2000) (by omega) (by decide))) (fun _ => ?_)
        refine BX7_remember_21 (by rw [nI_1]; exact vp_in_nI (by omega) (by decide)) (vp_in_nI (by omega) (by decide)) ?_
        rw [nI_1, nI_clamp (by omega), nI_clamp (by omega)]
        refine ih (k + 1) (by omega) _ (fun o ho => ?_) (fun j => ?_)
        · funext j
          rw [up3_v, if_neg (fun z => ho z.1), f1 o ho]
        · have fk : J1 153 (k + 1) = J 153 (k + 1) := by rw [f2, if_neg (by omega)]
          rw [up3_v, fk, f2 j]
          by_cases c2 : j = k
          · rw [if_pos ⟨rfl, c2⟩, if_pos (by omega), c2]
          · rw [if_neg (fun z => c2 z.2)]
            by_cases c3 : j < k
            · rw [if_pos c3, if_pos (by omega)]
            · rw [if_neg c3, if_neg (by omega)]
    exact key 1999 0 rfl J (fun _ _ => rfl) (fun j => by rw [if_neg (Nat.not_lt_zero _)])
/-- stored when k were admitted -/
def stK (h t p k : Nat) : Nat := min h (t + (p + k - t + 15) / 16 * 16)
theorem stK_0 {h t p : Nat} (h1 : p ≤ t) (h2 : t ≤ h) : stK h t p 0 = t := by
  unfold stK
  rw [show p + 0 - t = 0 by omega]
  exact Nat.min_eq_right h2
theorem stK_ge {h t p k : Nat} (h2 : p + k ≤ h) : p + k ≤ stK h t p k := by
  unfold stK
  exact Nat.le_min.mpr ⟨h2, by omega⟩
theorem stK_le (h t p k : Nat) : stK h t p k ≤ h := Nat.min_le_left _ _
theorem stK_e {h t p k : Nat} (h1 : p ≤ t) (h2 : t ≤ h) (h3 : p + k < h) (he : p + k = stK h t p k) : stK h t p (k + 1) = stK h t p k + min (h - stK h t p k) 16 := by
  unfold stK at he ⊢
  by_cases c : h ≤ t + (p + k - t + 15) / 16 * 16
  · rw [Nat.min_eq_left c] at he; omega
  · have m1 : min h (t + (p + k - t + 15) / 16 * 16) = t + (p + k - t + 15) / 16 * 16 := Nat.min_eq_right (by omega)
    rw [m1] at he ⊢
    by_cases c2 : h ≤ t + (p + (k + 1) - t + 15) / 16 * 16
    · rw [Nat.min_eq_left c2]
      rw [Nat.min_eq_left (by omega)]
      omega
    · rw [Nat.min_eq_right (by omega), Nat.min_eq_right (by omega)]
      omega
theorem stK_n {h t p k : Nat} (h1 : p ≤ t) (h2 : t ≤ h) (h3 : p + k < h) (he : p + k < stK h t p k) : stK h t p (k + 1) = stK h t p k := by
  unfold stK at he ⊢
  have e := Nat.min_le_right h (t + (p + k - t + 15) / 16 * 16)
  rw [show (p + (k + 1) - t + 15) / 16 = (p + k - t + 15) / 16 by omega]
def AmS (I I1 : T2) (a wd p st k : Nat) : Prop := (∀ o i, ¬ (o = 145 ∧ i = a) → ¬ (o = 146 ∧ i = a) → ¬ (o = 152 ∧ i = wd ∧ wd < 200) → ¬ (o = 136 ∧ i = 27) → I1 o i = I o i) ∧ I1 145 a = nI (p + k) ∧ I1 146 a = nI st ∧ (wd < 200 → I1 152 wd = I 152 wd + nI k)
def amM (I : T2) (J : T3) (ts : List Int64) (a wd q h p t : Nat) : Option Value → T2 → T3 → Prop := fun v I' J' => v = some (.int (nI (adN q h p))) ∧ AmS (tw I 0) I' a wd p (stK h t p (adN q h p)) (adN q h p) ∧ (∀ o, o ≠ 153 → J' o = J o) ∧ TmR I' J' ((ts ++ List.replicate (adN q h p) (J 136 5)).drop (ts.length + adN q h p - 2000))
theorem drop_more {ts : List Int64} {k : Nat} (t : Int64) (hl : ts.length ≤ 2000) : ((ts ++ List.replicate k t).drop (ts.length + k - 2000) ++ [t]).drop (((ts ++ List.replicate k t).drop (ts.length + k - 2000)).length + 1 - 2000) = (ts ++ List.replicate (k + 1) t).drop (ts.length + (k + 1) - 2000) := by
  have e1 : ((ts ++ List.replicate k t).drop (ts.length + k - 2000)).length = ts.length + k - (ts.length + k - 2000) := by rw [List.length_drop, List.length_append, List.length_replicate]
  have e2 : ts ++ List.replicate (k + 1) t = (ts ++ List.replicate k t) ++ [t] := by
    rw [List.replicate_succ', List.append_assoc]
  rw [e1, e2]
  by_cases c : ts.length + k < 2000
  · rw [show ts.length + k - 2000 = 0 by omega, show ts.length + k - 0 + 1 - 2000 = 0 by omega, show ts.length + (k + 1) - 2000 = 0 by omega]
    rfl
  · rw [show ts.length + k - (ts.length + k - 2000) + 1 - 2000 = 1 by omega, show ts.length + (k + 1) - 2000 = (ts.length + k - 2000) + 1 by omega, ← List.drop_drop, List.drop_append_of_le_length (l₂ := [t]) (i := ts.length + k - 2000) (by rw [List.length_append, List.length_replicate]; omega)]
set_option maxHeartbeats 2000000 in
theorem sm_admit (hG : I 136 4 = nI G) (hG8 : G ≤ 8) (hx : x < G) {wd q h p t : Nat} {ts : List Int64} (hq1 : 1 ≤ q) (hq2 : q ≤ 1000) (hu : I 143 x = 0) (hw : I 142 x = nI wd) (hwd : wd < 2 ^ 30) (hh : I 144 (3 * x + 1) = nI h) (hp : I 145 (3 * x + 1) = nI p) (ht : I 146 (3 * x + 1) = nI t) (hpt : p ≤ t) (hth : t ≤ h) (hb : h < 2 ^ 30) (hts : TmR I J ts) : Mt (d + 1) mX7_admit [.ref 136, .int (nI x), .int (nI q)] I J (amM I J ts (3 * x + 1) wd q h p t) := by
  refine Mt.of (by decide +kernel) (Nat.le_of_ble_eq_true rfl) ?_
  refine BX7_admit_0 ?_
  refine CX7_admit_3 (sm_isGate hG hG8 hx) (Nat.zero_le _) (fun v I1 J1 q1 => ?_)
  obtain ⟨rfl, rfl, rfl⟩ := q1
  refine IX7_admit_6 (fun _ => ?_) (fun z => absurd (by decide) z)
  refine BX7_admit_13 ?_
  refine IX7_admit_15 (fun z => absurd z (nI_nlt (b := 1) hq1 (by omega))) (fun _ => ?_)
  refine BX7_admit_18 ?_
  refine IX7_admit_22 (fun _ => ?_) (fun z => absurd (nI_le (b := 1000) hq2 (by decide)) z)
  refine BX7_admit_29 (vp_in_nI (show x < 8 by omega) (by decide)) ?_
  rw [nI_clamp (by omega)]
  refine IX7_admit_35 (fun _ => ?_) (fun z => absurd hu z)
  refine BX7_admit_42 ?_
  refine BX7_admit_43 ?_
  refine IX7_admit_50 (fun _ => ?_) (fun z => absurd (by rw [up2_s]; decide) z)
  refine BX7_admit_55 ?_
  rw [mul3', nI_1]
  have hle : adN q h p ≤ q := Nat.min_le_left _ _
  have hle2 : adN q h p ≤ h - p := Nat.min_le_right _ _
  have hl2 := hts.2.1
  have key : ∀ r k : Nat, k + r = adN q h p → ∀ (I1 : T2) (J1 : T3), AmS (tw I 0) I1 (3 * x + 1) wd p (stK h t p k) k → (∀ o, o ≠ 153 → J1 o = J o) → TmR I1 J1 ((ts ++ List.replicate k (J 136 5)).drop (ts.length + k - 2000)) → Ev (d + 1) 0 0 (fun _ => 0) mX7_admit 67 [some (.ref 136), some (.int (nI x)), some (.int (nI q)), some (.int (nI (3 * x + 1))), some (.int (nI k)), some (.int (nI k)), none] [] I1 J1 0 (fun o I' J' _ => ∃ v, o = .inl v ∧ amM I J ts (3 * x + 1) wd q h p t v I' J') := by
    intro r
    induction r with
    | zero =>
      intro k hk I1 J1 a1 a2 a3
      have hka : k = adN q h p := by omega
      have fin : Ev (d + 1) 0 0 (fun _ => 0) mX7_admit 195 [some (.ref 136), some (.int (nI x)), some (.int (nI q)), some (.int (nI (3 * x + 1))), some (.int (nI k)), some (.int (nI k)), none] [] I1 J1 0 (fun o I' J' _ => ∃ v, o = .inl v ∧ amM I J ts (3 * x + 1) wd q h p t v I' J') := by
        refine BX7_admit_195 ?_
        subst hka
        exact RX7_admit_197 (Nat.zero_le _) ⟨_, rfl, rfl, a1, a2, a3⟩
      refine BX7_admit_67 ?_
      refine IX7_admit_70 (fun _ => fin) (fun c => ?_)
      have ckq : k < q := Nat.lt_of_not_le fun z => c (nI_le z (by omega))
      refine BX7_admit_73 (vp_in_nI (by omega) (by decide)) ?_
      have e144 : I1 144 (3 * x + 1) = nI h := by rw [a1.1 144 _ (by omega) (by omega) (by omega) (by omega), tw_o 0 (by decide), hh]
      rw [nI_clamp (by omega), a1.2.1, e144]
      refine IX7_admit_85 (fun _ => fin) (fun c2 => absurd (nI_le ?_ (by omega)) c2)
      have : adN q h p = min q (h - p) := rfl
      by_cases c3 : q ≤ h - p
      · rw [Nat.min_eq_left c3] at this; omega
      · rw [Nat.min_eq_right (by omega)] at this; omega
    | succ r ih =>
      intro k hk I1 J1 a1 a2 a3
      have hkh : p + k < h := by omega
      refine BX7_admit_67 ?_
      refine IX7_admit_70 (fun z => absurd z (nI_ge (by omega) (by omega))) (fun _ => ?_)
      refine BX7_admit_73 (vp_in_nI (by omega) (by decide)) ?_
      have e144 : I1 144 (3 * x + 1) = nI h := by rw [a1.1 144 _ (by omega) (by omega) (by omega) (by omega), tw_o 0 (by decide), hh]
      have e142 : I1 142 x = nI wd := by rw [a1.1 142 _ (by omega) (by omega) (by omega) (by omega), tw_o 0 (by decide), hw]
      rw [nI_clamp (by omega), a1.2.1, e144]
      refine IX7_admit_85 (fun z => absurd z (nI_ge (by omega) (by omega))) (fun _ => ?_)
      refine BX7_admit_88 (vp_in_nI (by omega) (by decide)) ?_
      rw [nI_clamp (by omega), a1.2.1, a1.2.2.1]
      have sge := stK_ge (t := t) (show p + k ≤ h by omega)
      have sle := stK_le h t p k
      have sle1 := stK_le h t p (k + 1)
      -- behind the storing
      have rest : ∀ (x6 : Option Value) (I2 : T2), (∀ o i, ¬ (o = 146 ∧ i = 3 * x + 1) → I2 o i = I1 o i) → I2 146 (3 * x + 1) = nI (stK h t p (k + 1)) → Ev (d + 1) 0 0 (fun _ => 0) mX7_admit 145 [some (.ref 136), some (.int (nI x)), some (.int (nI q)), some (.int (nI (3 * x + 1))), some (.int (nI k)), some (.int (nI k)), none] [] I2 J1 0 (fun o I' J' _ => ∃ v, o = .inl v ∧ amM I J ts (3 * x + 1) wd q h p t v I' J') := by
        intro x6 I2 b1 b2
        refine BX7_admit_145 (vp_in_nI (by omega) (by decide)) (vp_in_nI (by omega) (by decide)) ?_
        rw [nI_clamp (by omega), nI_clamp (by omega), b1 145 _ (by omega), a1.2.1, nI_1, nI_1, up2_o _ _ _ _ (show 142 ≠ 145 by decide), b1 142 _ (by omega), e142]
        have tail : ∀ I3 : T2, (∀ o i, ¬ (o = 146 ∧ i = 3 * x + 1) → ¬ (o = 145 ∧ i = 3 * x + 1) → ¬ (o = 152 ∧ i = wd ∧ wd < 200) → I3 o i = I1 o i) → I3 146 (3 * x + 1) = nI (stK h t p (k + 1)) → I3 145 (3 * x + 1) = nI (p + k + 1) → (wd < 200 → I3 152 wd = I1 152 wd + 1) → Ev (d + 1) 0 0 (fun _ => 0) mX7_admit 185 [some (.ref 136), some (.int (nI x)), some (.int (nI q)), some (.int (nI (3 * x + 1))), some (.int (nI (k + 1))), some (.int (nI k)), none] [] I3 J1 0 (fun o I' J' _ => ∃ v, o = .inl v ∧ amM I J ts (3 * x + 1) wd q h p t v I' J') := by
          intro I3 c1 c2 c3 c4
          refine BX7_admit_185 ?_
          have e27 : I3 136 27 = I1 136 27 := c1 136 27 (by omega) (by omega) (by omega)
          refine CX7_admit_186 (sm_remember ⟨by rw [e27]; exact a3.1, a3.2⟩) (Nat.zero_le _) (fun v I4 J4 q4 => ?_)
          obtain ⟨rfl, f1, f2, f3⟩ := q4
          rw [a2 136 (by decide), drop_more (J 136 5) hl2] at f3
          refine BX7_admit_189 ?_
          rw [nI_1]
          refine ih (k + 1) (by omega) I4 J4 ⟨fun o i g1 g2 g3 g4 => ?_, ?_, ?_, fun hw2 => ?_⟩ (fun o ho => by rw [f2 o ho, a2 o ho]) f3
          · rw [f1 o i g4, c1 o i g2 g1 g3, a1.1 o i g1 g2 g3 g4]
          · rw [f1 145 _ (by omega), c3]; rfl
          · rw [f1 146 _ (by omega), c2]
          · rw [f1 152 _ (by omega), c4 hw2, a1.2.2.2 hw2, Int32.add_assoc, nI_1]
        by_cases cw : wd < 200
        · refine IX7_admit_167 (fun z => absurd z (nI_ge (b := 200) cw (by decide))) (fun _ => ?_)
          have e142b : up2 I2 145 (3 * x + 1) (nI (p + k + 1)) 142 x = nI wd := by rw [up2_o _ _ _ _ (by decide), b1 142 _ (by omega), e142]
          refine BX7_admit_170 (vp_in_nI (by omega) (by decide)) (by rw [nI_clamp (by omega), e142b]; exact vp_in_nI cw (by decide)) ?_
          rw [nI_clamp (by omega), e142b, nI_clamp (by omega)]
          refine tail _ (fun o i g1 g2 g3 => ?_) ?_ ?_ (fun _ => ?_)
          · rw [up2_v, if_neg (fun z => g3 ⟨z.1, z.2, cw⟩), up2_v, if_neg g2, b1 o i g1]
          · rw [up2_o _ _ _ _ (by decide), up2_o _ _ _ _ (by decide), b2]
          · rw [up2_o _ _ _ _ (by decide), up2_s]
          · rw [up2_s, up2_o _ _ _ _ (by decide), b1 152 _ (by omega)]
        · refine IX7_admit_167 (fun _ => ?_) (fun z => absurd (nI_le (a := 200) (by omega) (by omega)) z)
          refine tail _ (fun o i g1 g2 g3 => ?_) ?_ ?_ (fun hw2 => absurd hw2 cw)
          · rw [up2_v, if_neg g2, b1 o i g1]
          · rw [up2_o _ _ _ _ (by decide), b2]
          · rw [up2_s]
      refine IX7_admit_100 (fun c => ?_) (fun c => ?_)
      · have c' : p + k ≠ stK h t p k := fun z => c (by rw [← z])
        refine rest none I1 (fun _ _ _ => rfl) ?_
        rw [a1.2.2.1, stK_n hpt hth hkh (by omega)]
      · have c' : p + k = stK h t p k := (nI_eq (by omega) (by omega)).mp (Classical.not_not.mp c)
        have se := stK_e hpt hth hkh c'
        refine BX7_admit_103 (vp_in_nI (by omega) (by decide)) ?_
        rw [nI_clamp (by omega), a1.2.2.1, e144, pk_sub sle]
        have fin : ∀ m : Nat, m = min (h - stK h t p k) 16 → Ev (d + 1) 0 0 (fun _ => 0) mX7_admit 143 [some (.ref 136), some (.int (nI x)), some (.int (nI q)), some (.int (nI (3 * x + 1))), some (.int (nI k)), some (.int (nI k)), some (.int (nI (h - stK h t p k)))] [.int (nI m), .int (nI (stK h t p k)), .int (nI (3 * x + 1)), .ref 146] I1 J1 0 (fun o I' J' _ => ∃ v, o = .inl v ∧ amM I J ts (3 * x + 1) wd q h p t v I' J') := fun m hm => by
          refine BX7_admit_143 (by decide) (vp_in_nI (show 3 * x + 1 < 24 by omega) (by decide)) ?_
          rw [nI_clamp (by omega), nI_add, hm, ← se]
          refine Ev.weak (ls' := [some (.ref 136), some (.int (nI x)), some (.int (nI q)), some (.int (nI (3 * x + 1))), some (.int (nI k)), some (.int (nI k)), none]) ⟨Or.inr rfl, Or.inr rfl, Or.inr rfl, Or.inr rfl, Or.inr rfl, Or.inr rfl, Or.inl rfl, trivial⟩ ?_
          exact rest none _ (fun o i g => by rw [up2_v, if_neg g]) (by rw [up2_s])
        refine IX7_admit_133 (fun c2 => ?_) (fun c2 => ?_)
        · have := (nI_leI (b := 16) (by omega) (by decide)).mp c2
          refine BX7_admit_141 ?_
          exact fin _ (by rw [Nat.min_eq_left this])
        · have c3 : 16 < h - stK h t p k := Nat.lt_of_not_le fun z => c2 (nI_le (b := 16) z (by decide))
          refine BX7_admit_136 ?_
          exact fin 16 (by rw [Nat.min_eq_right (by omega)])
  refine key (adN q h p) 0 (Nat.zero_add _) (tw I 0) J ⟨fun _ _ _ _ _ _ => rfl, ?_, ?_, fun _ => ?_⟩ (fun _ _ => rfl) ?_
  · rw [tw_o 0 (by decide), hp]; rfl
  · rw [tw_o 0 (by decide), ht, stK_0 hpt hth]
  · exact (show tw I 0 152 wd = tw I 0 152 wd + 0 by rw [Int32.add_zero])
  · rw [show ts.length + 0 - 2000 = 0 by omega]
    show TmR _ _ (ts ++ [])
    rw [List.append_nil]
    exact ⟨by rw [tw_k 0 (by decide)]; exact hts.1, hts.2⟩
theorem sm_admitB {x q : Int32} (hx : x < 0 ∨ I 136 4 ≤ x) : Mt (d + 1) mX7_admit [.ref 136, .int x, .int q] I J (RI 0 (tw I 1) J) := by
  refine Mt.of (by decide +kernel) (Nat.le_of_ble_eq_true rfl) ?_
  refine BX7_admit_0  ?_
  refine CX7_admit_3 (sm_isGate0 hx) (Nat.zero_le _) (fun v3 I3 J3 q3 => ?_)
  obtain ⟨rfl, rfl, rfl⟩ := q3
  refine IX7_admit_6 (fun c6 => absurd c6 (fun z => z rfl)) (fun c6 => ?_)
  refine BX7_admit_9  ?_
  refine BX7_admit_43  ?_
  refine IX7_admit_50 (fun c50 => absurd c50 (by rw [up2_s]; decide)) (fun c50 => ?_)
  refine BX7_admit_53  ?_
  exact RX7_admit_54  (Nat.zero_le _) ⟨_, rfl, ⟨rfl, rfl, rfl⟩⟩
theorem sm_admitA (hG : I 136 4 = nI G) (hG8 : G ≤ 8) (hx : x < G) {q : Int32} (h : q < 1 ∨ ¬ q ≤ 1000) : Mt (d + 1) mX7_admit [.ref 136, .int (nI x), .int q] I J (RI 0 (tw I 2) J) := by
  refine Mt.of (by decide +kernel) (Nat.le_of_ble_eq_true rfl) ?_
  refine BX7_admit_0  ?_
  refine CX7_admit_3 (sm_isGate hG hG8 hx) (Nat.zero_le _) (fun v3 I3 J3 q3 => ?_)
  obtain ⟨rfl, rfl, rfl⟩ := q3
  refine IX7_admit_6 (fun c6 => ?_) (fun c6 => absurd c6 (fun z => z (by decide)))
  refine BX7_admit_13  ?_
  refine IX7_admit_15 (fun c15 => ?_) (fun c15 => ?_)
  · skip
    refine BX7_admit_25  ?_
    refine BX7_admit_43  ?_
    refine IX7_admit_50 (fun c50 => absurd c50 (by rw [up2_s]; decide)) (fun c50 => ?_)
    refine BX7_admit_53  ?_
    exact RX7_admit_54  (Nat.zero_le _) ⟨_, rfl, ⟨rfl, rfl, rfl⟩⟩
  · skip
    refine BX7_admit_18  ?_
    refine IX7_admit_22 (fun c22 => absurd c22 (fun z => h.elim (fun y => c15 y) (fun y => y z))) (fun c22 => ?_)
    refine BX7_admit_25  ?_
    refine BX7_admit_43  ?_
    refine IX7_admit_50 (fun c50 => absurd c50 (by rw [up2_s]; decide)) (fun c50 => ?_)
    refine BX7_admit_53  ?_
    exact RX7_admit_54  (Nat.zero_le _) ⟨_, rfl, ⟨rfl, rfl, rfl⟩⟩
theorem sm_admitS (hG : I 136 4 = nI G) (hG8 : G ≤ 8) (hx : x < G) {q : Int32} (h1 : ¬ q < 1) (h2 : q ≤ 1000) (hu : ¬ I 143 x = 0) : Mt (d + 1) mX7_admit [.ref 136, .int (nI x), .int q] I J (RI 0 (tw I 3) J) := by
  refine Mt.of (by decide +kernel) (Nat.le_of_ble_eq_true rfl) ?_
  refine BX7_admit_0  ?_
  refine CX7_admit_3 (sm_isGate hG hG8 hx) (Nat.zero_le _) (fun v3 I3 J3 q3 => ?_)
  obtain ⟨rfl, rfl, rfl⟩ := q3
  refine IX7_admit_6 (fun c6 => ?_) (fun c6 => absurd c6 (fun z => z (by decide)))
  refine BX7_admit_13  ?_
  refine IX7_admit_15 (fun c15 => absurd c15 h1) (fun c15 => ?_)
  refine BX7_admit_18  ?_
  refine IX7_admit_22 (fun c22 => ?_) (fun c22 => absurd c22 (fun z => z h2))
  refine BX7_admit_29 (vp_in_nI (show x < 8 by omega) (by decide)) ?_
  refine IX7_admit_35 (fun c35 => absurd c35 (fun z => hu (by rw [nI_clamp (by omega)] at z; exact z))) (fun c35 => ?_)
  refine BX7_admit_38  ?_
  refine BX7_admit_43  ?_
  refine IX7_admit_50 (fun c50 => absurd c50 (by rw [up2_s]; decide)) (fun c50 => ?_)
  refine BX7_admit_53  ?_
  exact RX7_admit_54  (Nat.zero_le _) ⟨_, rfl, ⟨rfl, rfl, rfl⟩⟩
end RF8

