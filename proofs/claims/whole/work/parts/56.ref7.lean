/-! the reference: begin, setup, count, admissions -/
def czM (I : T2) (S : Nat → Bool) (k o i : Nat) : Int32 := if S o = true ∧ i < k then 0 else I o i
theorem cz_0 (I : T2) (S : Nat → Bool) (o i : Nat) : czM I S 0 o i = I o i := if_neg (fun z => absurd z.2 (Nat.not_lt_zero _))
theorem cz_s {I I1 I' : T2} {S : Nat → Bool} {k : Nat} (h : ∀ o i, I1 o i = czM I S k o i) (h' : ∀ o i, I' o i = if S o = true ∧ i = k then 0 else I1 o i) : ∀ o i, I' o i = czM I S (k + 1) o i := fun o i => by
  rw [h', h]
  unfold czM
  by_cases c : S o = true ∧ i = k
  · rw [if_pos c, if_pos ⟨c.1, by omega⟩]
  · rw [if_neg c]
    by_cases c2 : S o = true ∧ i < k
    · rw [if_pos c2, if_pos ⟨c2.1, by omega⟩]
    · rw [if_neg c2, if_neg (fun z => c2 ⟨z.1, by
        have := z.2
        by_cases c3 : i = k
        · exact absurd ⟨z.1, c3⟩ c
        · omega⟩)]
def sA (o : Nat) : Bool := o == 138 || o == 139 || o == 144 || o == 145 || o == 146
def sB (o : Nat) : Bool := o == 140 || o == 142 || o == 143
def sC (o : Nat) : Bool := o == 148 || o == 149 || o == 150
def sD (o : Nat) : Bool := o == 152
theorem sA_i (o : Nat) : sA o = true ↔ o = 138 ∨ o = 139 ∨ o = 144 ∨ o = 145 ∨ o = 146 := by simp [sA, or_assoc]
theorem sB_i (o : Nat) : sB o = true ↔ o = 140 ∨ o = 142 ∨ o = 143 := by simp [sB, or_assoc]
theorem sC_i (o : Nat) : sC o = true ↔ o = 148 ∨ o = 149 ∨ o = 150 := by simp [sC, or_assoc]
theorem sD_i (o : Nat) : sD o = true ↔ o = 152 := by simp [sD]
section RF7
variable {d : Nat} {I : T2} {J : T3} {G x : Nat}
theorem u3_z (a b c k o i : Nat) : up2 (up2 (up2 I a k 0) b k 0) c k 0 o i = if (o = a ∨ o = b ∨ o = c) ∧ i = k then 0 else I o i := by
  rw [up2_v, up2_v, up2_v]
  by_cases e : i = k
  · by_cases e1 : o = c
    · rw [if_pos ⟨e1, e⟩, if_pos ⟨Or.inr (Or.inr e1), e⟩]
    · rw [if_neg (fun z => e1 z.1)]
      by_cases e2 : o = b
      · rw [if_pos ⟨e2, e⟩, if_pos ⟨Or.inr (Or.inl e2), e⟩]
      · rw [if_neg (fun z => e2 z.1)]
        by_cases e3 : o = a
        · rw [if_pos ⟨e3, e⟩, if_pos ⟨Or.inl e3, e⟩]
        · rw [if_neg (fun z => e3 z.1), if_neg (fun z => z.1.elim e3 (fun y => y.elim e2 e1))]
  · rw [if_neg (fun z => e z.2), if_neg (fun z => e z.2), if_neg (fun z => e z.2), if_neg (fun z => e z.2)]
/-- the reference's state at the beginning -/
def b0M (I : T2) (l w e g : Int32) : T2 := up2 (up2 (up2 (up2 (up2 (up2 (up2 (up2 (up2 (up2 I 136 1 l) 136 2 w) 136 3 e) 136 4 g) 136 6 0) 136 7 0) 136 8 0) 137 0 0) 137 1 l) 137 2 l
def bgM (I : T2) (J : T3) (l w e g : Int32) : Option Value → T2 → T3 → Prop := fun v I' J' => v = none ∧ (∀ o i, I' o i = if o = 136 ∧ (i = 24 ∨ i = 27) then 0 else if sD o = true ∧ i < 200 then 0 else if sC o = true ∧ i < 16 then 0 else if sB o = true ∧ i < 8 then 0 else if sA o = true ∧ i < 24 then 0 else b0M I l w e g o i) ∧ ∀ o i, J' o i = if o = 141 ∧ i < 8 then e.toInt64 else up3 J 136 5 e.toInt64 o i
set_option maxHeartbeats 2000000 in
theorem sm_begin {l w e g : Int32} (hw : ¬ w.toInt64 = 0) (hz : (e.toInt64 / w.toInt64).toInt32 = 0) : Mt d mX7_begin [.ref 136, .int l, .int w, .int e, .int g] I J (bgM I J l w e g) := by
  refine Mt.of (by decide +kernel) (Nat.le_of_ble_eq_true rfl) ?_
  refine BX7_begin_0 hw ?_
  have eJ : up3 J 136 5 e.toInt64 136 5 = e.toInt64 := by rw [up3_v, if_pos ⟨rfl, rfl⟩]
  rw [eJ, hz, up2_s]
  refine IX7_begin_58 (fun _ => ?_) (fun z => absurd (by decide) z)
  refine BX7_begin_65 ?_
  refine BX7_begin_66 (by decide) (vp_in_nI (show 0 < 3 by decide) (by decide)) (vp_in_nI (show 1 < 3 by decide) (by decide)) (vp_in_nI (show 2 < 3 by decide) (by decide)) ?_
  rw [t6_0, t6_1, t6_2]
  show Ev d 0 0 (fun _ => 0) mX7_begin 84 [some (.ref 136), some (.int l), some (.int w), some (.int e), some (.int g), some (.int (nI 0))] [] (b0M I l w e g) (up3 J 136 5 e.toInt64) 0 _
  generalize hJ1 : up3 J 136 5 e.toInt64 = J1 at *
  generalize hB : b0M I l w e g = B
  -- the last loop
  have L4 : ∀ q k : Nat, k + q = 200 → ∀ (B3 I1 : T2) (J2 : T3), (∀ o i, J2 o i = if o = 141 ∧ i < 8 then e.toInt64 else J1 o i) → (∀ o i, B3 o i = if o = 136 ∧ i = 24 then 0 else if sC o = true ∧ i < 16 then 0 else if sB o = true ∧ i < 8 then 0 else if sA o = true ∧ i < 24 then 0 else B o i) → (∀ o i, I1 o i = czM B3 sD k o i) → Ev d 0 0 (fun _ => 0) mX7_begin 239 [some (.ref 136), some (.int l), some (.int w), some (.int e), some (.int g), some (.int (nI k))] [] I1 J2 0 (fun o I' J' _ => ∃ v, o = .inl v ∧ bgM I J l w e g v I' J') := by
    intro q
    induction q with
    | zero =>
      intro k hk B3 I1 J2 hJ hB3 h1
      refine BX7_begin_239 ?_
      refine IX7_begin_244 (fun _ => ?_) (fun z => absurd (show (200 : Int32) ≤ nI k from nI_le (a := 200) (by omega) (by omega)) z)
      refine BX7_begin_261 ?_
      refine RX7_begin_266 (Nat.zero_le _) ⟨_, rfl, rfl, fun o i => ?_, fun o i => by rw [hJ, hJ1]⟩
      rw [up2_v, h1, hB]
      unfold czM
      rw [hB3, show k = 200 by omega]
      by_cases c27 : o = 136 ∧ i = 27
      · rw [if_pos c27, if_pos (show o = 136 ∧ (i = 24 ∨ i = 27) from ⟨c27.1, Or.inr c27.2⟩)]
      · rw [if_neg c27]
        by_cases cD : sD o = true ∧ i < 200
        · have : o = 152 := (sD_i o).mp cD.1
          rw [if_pos cD, if_neg (show ¬ (o = 136 ∧ (i = 24 ∨ i = 27)) from fun z => by omega), if_pos cD]
        · rw [if_neg cD]
          by_cases c24 : o = 136 ∧ i = 24
          · rw [if_pos c24, if_pos (show o = 136 ∧ (i = 24 ∨ i = 27) from ⟨c24.1, Or.inl c24.2⟩)]
          · rw [if_neg c24, if_neg (show ¬ (o = 136 ∧ (i = 24 ∨ i = 27)) from fun z => z.2.elim (fun y => c24 ⟨z.1, y⟩) (fun y => c27 ⟨z.1, y⟩)), if_neg cD]
    | succ q ih =>
      intro k hk B3 I1 J2 hJ hB3 h1
      refine BX7_begin_239 ?_
      refine IX7_begin_244 (fun z => absurd z (show ¬ (200 : Int32) ≤ nI k from nI_ge (b := 200) (by omega) (by decide))) (fun _ => ?_)
      refine BX7_begin_247 (vp_in_nI (by omega) (by decide)) ?_
      rw [nI_clamp (by omega), nI_1]
      refine ih (k + 1) (by omega) B3 _ J2 hJ hB3 (cz_s h1 (fun o i => ?_))
      rw [up2_v]
      by_cases c : o = 152 ∧ i = k
      · rw [if_pos c, if_pos ⟨(sD_i o).mpr c.1, c.2⟩]
      · rw [if_neg c, if_neg (fun z => c ⟨(sD_i o).mp z.1, z.2⟩)]
  have L3 : ∀ q k : Nat, k + q = 16 → ∀ (B2 I1 : T2) (J2 : T3), (∀ o i, J2 o i = if o = 141 ∧ i < 8 then e.toInt64 else J1 o i) → (∀ o i, B2 o i = if sB o = true ∧ i < 8 then 0 else if sA o = true ∧ i < 24 then 0 else B o i) → (∀ o i, I1 o i = czM B2 sC k o i) → Ev d 0 0 (fun _ => 0) mX7_begin 194 [some (.ref 136), some (.int l), some (.int w), some (.int e), some (.int g), some (.int (nI k))] [] I1 J2 0 (fun o I' J' _ => ∃ v, o = .inl v ∧ bgM I J l w e g v I' J') := by
    intro q
    induction q with
    | zero =>
      intro k hk B2 I1 J2 hJ hB2 h1
      refine BX7_begin_194 ?_
      refine IX7_begin_198 (fun _ => ?_) (fun z => absurd (show (16 : Int32) ≤ nI k from nI_le (a := 16) (by omega) (by omega)) z)
      refine BX7_begin_231 ?_
      refine L4 200 0 rfl _ _ J2 hJ (fun o i => ?_) (fun o i => (cz_0 _ _ o i).symm)
      rw [up2_v, h1]
      unfold czM
      rw [hB2, show k = 16 by omega]
    | succ q ih =>
      intro k hk B2 I1 J2 hJ hB2 h1
      refine BX7_begin_194 ?_
      refine IX7_begin_198 (fun z => absurd z (show ¬ (16 : Int32) ≤ nI k from nI_ge (b := 16) (by omega) (by decide))) (fun _ => ?_)
      refine BX7_begin_201 (vp_in_nI (by omega) (by decide)) ?_
      rw [nI_clamp (by omega), nI_1]
      refine ih (k + 1) (by omega) B2 _ J2 hJ hB2 (cz_s h1 (fun o i => ?_))
      rw [u3_z]
      by_cases c : (o = 148 ∨ o = 149 ∨ o = 150) ∧ i = k
      · rw [if_pos c, if_pos ⟨(sC_i o).mpr c.1, c.2⟩]
      · rw [if_neg c, if_neg (fun z => c ⟨(sC_i o).mp z.1, z.2⟩)]
  have L2 : ∀ q k : Nat, k + q = 8 → ∀ (B1 I1 : T2) (J2 : T3), (∀ o i, J2 o i = if o = 141 ∧ i < k then e.toInt64 else J1 o i) → (∀ o i, B1 o i = if sA o = true ∧ i < 24 then 0 else B o i) → (∀ o i, I1 o i = czM B1 sB k o i) → Ev d 0 0 (fun _ => 0) mX7_begin 140 [some (.ref 136), some (.int l), some (.int w), some (.int e), some (.int g), some (.int (nI k))] [] I1 J2 0 (fun o I' J' _ => ∃ v, o = .inl v ∧ bgM I J l w e g v I' J') := by
    intro q
    induction q with
    | zero =>
      intro k hk B1 I1 J2 hJ hB1 h1
      refine BX7_begin_140 ?_
      refine IX7_begin_144 (fun _ => ?_) (fun z => absurd (show (8 : Int32) ≤ nI k from nI_le (a := 8) (by omega) (by omega)) z)
      refine BX7_begin_191 ?_
      have hk8 : k = 8 := by omega
      subst hk8
      refine L3 16 0 rfl I1 I1 J2 hJ (fun o i => ?_) (fun o i => (cz_0 _ _ o i).symm)
      rw [h1]
      unfold czM
      rw [hB1]
    | succ q ih =>
      intro k hk B1 I1 J2 hJ hB1 h1
      refine BX7_begin_140 ?_
      refine IX7_begin_144 (fun z => absurd z (show ¬ (8 : Int32) ≤ nI k from nI_ge (b := 8) (by omega) (by decide))) (fun _ => ?_)
      refine BX7_begin_147 (vp_in_nI (by omega) (by decide)) ?_
      have e8 : up2 I1 140 k 0 136 8 = 0 := by
        rw [up2_o _ _ _ _ (by decide), h1]
        unfold czM
        rw [if_neg (fun z => absurd z.1 (by decide : ¬ sB 136 = true)), hB1, if_neg (fun z => absurd z.1 (by decide : ¬ sA 136 = true)), ← hB]
        unfold b0M
        rw [up2_o _ _ _ _ (by decide), up2_o _ _ _ _ (by decide), up2_o _ _ _ _ (by decide), up2_s]
      have eT : J2 136 5 = e.toInt64 := by rw [hJ, if_neg (fun z => absurd z.1 (by decide))]; exact eJ
      rw [nI_clamp (by omega), nI_1, e8, eT]
      refine ih (k + 1) (by omega) B1 _ _ (fun o i => ?_) hB1 (cz_s h1 (fun o i => ?_))
      · rw [up3_v, hJ]
        by_cases c : o = 141 ∧ i = k
        · rw [if_pos c, if_pos ⟨c.1, by omega⟩]
        · rw [if_neg c]
          by_cases c2 : o = 141 ∧ i < k
          · rw [if_pos c2, if_pos ⟨c2.1, by omega⟩]
          · rw [if_neg c2, if_neg (fun z => c2 ⟨z.1, by
              have := z.2
              by_cases c3 : i = k
              · exact absurd ⟨z.1, c3⟩ c
              · omega⟩)]
      · rw [u3_z]
        by_cases c : (o = 140 ∨ o = 142 ∨ o = 143) ∧ i = k
        · rw [if_pos c, if_pos ⟨(sB_i o).mpr c.1, c.2⟩]
        · rw [if_neg c, if_neg (fun z => c ⟨(sB_i o).mp z.1, z.2⟩)]
  have L1 : ∀ q k : Nat, k + q = 24 → ∀ (I1 : T2), (∀ o i, I1 o i = czM B sA k o i) → Ev d 0 0 (fun _ => 0) mX7_begin 84 [some (.ref 136), some (.int l), some (.int w), some (.int e), some (.int g), some (.int (nI k))] [] I1 J1 0 (fun o I' J' _ => ∃ v, o = .inl v ∧ bgM I J l w e g v I' J') := by
    intro q
    induction q with
    | zero =>
      intro k hk I1 h1
      refine BX7_begin_84 ?_
      refine IX7_begin_88 (fun _ => ?_) (fun z => absurd (show (24 : Int32) ≤ nI k from nI_le (a := 24) (by omega) (by omega)) z)
      refine BX7_begin_137 ?_
      have hk8 : k = 24 := by omega
      subst hk8
      exact L2 8 0 rfl I1 I1 J1 (fun o i => by rw [if_neg (fun z => absurd z.2 (Nat.not_lt_zero _))]) h1 (fun o i => (cz_0 _ _ o i).symm)
    | succ q ih =>
      intro k hk I1 h1
      refine BX7_begin_84 ?_
      refine IX7_begin_88 (fun z => absurd z (show ¬ (24 : Int32) ≤ nI k from nI_ge (b := 24) (by omega) (by decide))) (fun _ => ?_)
      refine BX7_begin_91 (vp_in_nI (by omega) (by decide)) ?_
      rw [nI_clamp (by omega), nI_1]
      refine ih (k + 1) (by omega) _ (cz_s h1 (fun o i => ?_))
      rw [u3_z, up2_v, up2_v]
      by_cases c : i = k
      · by_cases c1 : o = 144 ∨ o = 145 ∨ o = 146
        · rw [if_pos ⟨c1, c⟩, if_pos ⟨(sA_i o).mpr (by omega), c⟩]
        · rw [if_neg (fun z => c1 z.1)]
          by_cases c2 : o = 139
          · rw [if_pos ⟨c2, c⟩, if_pos ⟨(sA_i o).mpr (by omega), c⟩]
          · rw [if_neg (fun z => c2 z.1)]
            by_cases c3 : o = 138
            · rw [if_pos ⟨c3, c⟩, if_pos ⟨(sA_i o).mpr (by omega), c⟩]
            · rw [if_neg (fun z => c3 z.1), if_neg (fun z => by have := (sA_i o).mp z.1; omega)]
      · rw [if_neg (fun z => c z.2), if_neg (fun z => c z.2), if_neg (fun z => c z.2), if_neg (fun z => c z.2)]
  exact L1 24 0 rfl B (fun o i => (cz_0 _ _ o i).symm)
theorem sm_setupT {l w e g : Int32} (h : ¬ okS l w e g) : Mt (d + 1) mX7_setup [.ref 136, .int l, .int w, .int e, .int g] I J (RV (tw I 1) J) := by
  refine Mt.of (by decide +kernel) (Nat.le_of_ble_eq_true rfl) ?_
  refine BX7_setup_0  ?_
  refine IX7_setup_3 (fun c3 => ?_) (fun c3 => ?_)
  · skip
    refine BX7_setup_57  ?_
    refine BX7_setup_58  ?_
    refine IX7_setup_65 (fun c65 => ?_) (fun c65 => absurd c65 (fun z => z (by rw [up2_s]; decide)))
    exact RX7_setup_77  (Nat.zero_le _) ⟨_, rfl, ⟨rfl, rfl, rfl⟩⟩
  · skip
    refine BX7_setup_6  ?_
    refine IX7_setup_9 (fun c9 => ?_) (fun c9 => ?_)
    · skip
      refine BX7_setup_57  ?_
      refine BX7_setup_58  ?_
      refine IX7_setup_65 (fun c65 => ?_) (fun c65 => absurd c65 (fun z => z (by rw [up2_s]; decide)))
      exact RX7_setup_77  (Nat.zero_le _) ⟨_, rfl, ⟨rfl, rfl, rfl⟩⟩
    · skip
      refine BX7_setup_12  ?_
      refine IX7_setup_14 (fun c14 => ?_) (fun c14 => ?_)
      · skip
        refine BX7_setup_57  ?_
        refine BX7_setup_58  ?_
        refine IX7_setup_65 (fun c65 => ?_) (fun c65 => absurd c65 (fun z => z (by rw [up2_s]; decide)))
        exact RX7_setup_77  (Nat.zero_le _) ⟨_, rfl, ⟨rfl, rfl, rfl⟩⟩
      · skip
        refine BX7_setup_17  ?_
        refine IX7_setup_21 (fun c21 => ?_) (fun c21 => ?_)
        · skip
          refine BX7_setup_57  ?_
          refine BX7_setup_58  ?_
          refine IX7_setup_65 (fun c65 => ?_) (fun c65 => absurd c65 (fun z => z (by rw [up2_s]; decide)))
          exact RX7_setup_77  (Nat.zero_le _) ⟨_, rfl, ⟨rfl, rfl, rfl⟩⟩
        · skip
          refine BX7_setup_24  ?_
          refine IX7_setup_25 (fun c25 => ?_) (fun c25 => ?_)
          · skip
            refine BX7_setup_57  ?_
            refine BX7_setup_58  ?_
            refine IX7_setup_65 (fun c65 => ?_) (fun c65 => absurd c65 (fun z => z (by rw [up2_s]; decide)))
            exact RX7_setup_77  (Nat.zero_le _) ⟨_, rfl, ⟨rfl, rfl, rfl⟩⟩
          · skip
            refine BX7_setup_28  ?_
            refine IX7_setup_37 (fun c37 => ?_) (fun c37 => ?_)
            · skip
              refine BX7_setup_57  ?_
              refine BX7_setup_58  ?_
              refine IX7_setup_65 (fun c65 => ?_) (fun c65 => absurd c65 (fun z => z (by rw [up2_s]; decide)))
              exact RX7_setup_77  (Nat.zero_le _) ⟨_, rfl, ⟨rfl, rfl, rfl⟩⟩
            · skip
              refine BX7_setup_40  ?_
              refine IX7_setup_43 (fun c43 => ?_) (fun c43 => ?_)
              · skip
                refine BX7_setup_57  ?_
                refine BX7_setup_58  ?_
                refine IX7_setup_65 (fun c65 => ?_) (fun c65 => absurd c65 (fun z => z (by rw [up2_s]; decide)))
                exact RX7_setup_77  (Nat.zero_le _) ⟨_, rfl, ⟨rfl, rfl, rfl⟩⟩
              · skip
                refine BX7_setup_46  ?_
                refine IX7_setup_50 (fun c50 => ?_) (fun c50 => absurd c50 (fun z => h ⟨c3, Int32.not_lt.mp c9, c14, Int32.not_lt.mp c21, c25, Classical.not_not.mp (fun y => c37 ((lg_ge0 _ _).mpr y)), c43, Int32.not_lt.mp z⟩))
                refine BX7_setup_57  ?_
                refine BX7_setup_58  ?_
                refine IX7_setup_65 (fun c65 => ?_) (fun c65 => absurd c65 (fun z => z (by rw [up2_s]; decide)))
                exact RX7_setup_77  (Nat.zero_le _) ⟨_, rfl, ⟨rfl, rfl, rfl⟩⟩
theorem sm_setup {l w e g : Int32} (h : okS l w e g) (hw : ¬ w.toInt64 = 0) (hz : (e.toInt64 / w.toInt64).toInt32 = 0) : Mt (d + 1) mX7_setup [.ref 136, .int l, .int w, .int e, .int g] I J (bgM (tw I 0) J l w e g) := by
  obtain ⟨h1, h2, h3, h4, h5, h6, h7, h8⟩ := h
  refine Mt.of (by decide +kernel) (Nat.le_of_ble_eq_true rfl) ?_
  refine BX7_setup_0  ?_
  refine IX7_setup_3 (fun c3 => absurd c3 h1) (fun c3 => ?_)
  refine BX7_setup_6  ?_
  refine IX7_setup_9 (fun c9 => absurd c9 (Int32.not_lt.mpr h2)) (fun c9 => ?_)
  refine BX7_setup_12  ?_
  refine IX7_setup_14 (fun c14 => absurd c14 h3) (fun c14 => ?_)
  refine BX7_setup_17  ?_
  refine IX7_setup_21 (fun c21 => absurd c21 (Int32.not_lt.mpr h4)) (fun c21 => ?_)
  refine BX7_setup_24  ?_
  refine IX7_setup_25 (fun c25 => absurd c25 h5) (fun c25 => ?_)
  refine BX7_setup_28  ?_
  refine IX7_setup_37 (fun c37 => absurd c37 (fun z => (lg_ge0 _ _).mp z h6)) (fun c37 => ?_)
  refine BX7_setup_40  ?_
  refine IX7_setup_43 (fun c43 => absurd c43 h7) (fun c43 => ?_)
  refine BX7_setup_46  ?_
  refine IX7_setup_50 (fun c50 => absurd c50 (Int32.not_lt.mpr h8)) (fun c50 => ?_)
  refine BX7_setup_53  ?_
  refine BX7_setup_58  ?_
  refine IX7_setup_65 (fun c65 => absurd c65 (fun z => z (by rw [up2_s]))) (fun c65 => ?_)
  refine BX7_setup_68  ?_
  refine CX7_setup_74 (sm_begin hw hz) (Nat.zero_le _) (fun v74 I74 J74 q74 => ?_)
  obtain ⟨rfl, q, qJ⟩ := q74
  exact RX7_setup_77  (Nat.zero_le _) ⟨_, rfl, ⟨rfl, q, qJ⟩⟩
def cnM (I : T2) : Nat → Nat := cnR (I 138)
theorem sm_countT {w : Int32} (h : w < 0 ∨ ¬ w ≤ 3) : Mt d mX7_count [.ref 136, .int w] I J (RI 0 (tw I 1) J) := by
  refine Mt.of (by decide +kernel) (Nat.le_of_ble_eq_true rfl) ?_
  refine BX7_count_0  ?_
  refine IX7_count_2 (fun c2 => ?_) (fun c2 => ?_)
  · skip
    refine BX7_count_14  ?_
    refine BX7_count_15  ?_
    refine IX7_count_22 (fun c22 => absurd c22 (by rw [up2_s]; decide)) (fun c22 => ?_)
    refine BX7_count_25  ?_
    exact RX7_count_26  (Nat.zero_le _) ⟨_, rfl, ⟨rfl, rfl, rfl⟩⟩
  · skip
    refine BX7_count_5  ?_
    refine IX7_count_7 (fun c7 => ?_) (fun c7 => absurd c7 (fun z => h.elim (fun y => c2 y) (fun y => y (Int32.not_lt.mp z))))
    refine BX7_count_14  ?_
    refine BX7_count_15  ?_
    refine IX7_count_22 (fun c22 => absurd c22 (by rw [up2_s]; decide)) (fun c22 => ?_)
    refine BX7_count_25  ?_
    exact RX7_count_26  (Nat.zero_le _) ⟨_, rfl, ⟨rfl, rfl, rfl⟩⟩
theorem sm_count {w : Nat} (hw : w ≤ 3) : Mt d mX7_count [.ref 136, .int (nI w)] I J (RI (if w = 0 then I 136 24 else if w = 1 then (J 136 5 &&& 2147483647).toInt32 else if w = 2 then I 136 4 else nI (cnR (I 138) 24)) (tw I 0) J) := by
  refine Mt.of (by decide +kernel) (Nat.le_of_ble_eq_true rfl) ?_
  refine BX7_count_0 ?_
  refine IX7_count_2 (fun z => absurd z (nI_pos (by omega))) (fun _ => ?_)
  refine BX7_count_5 ?_
  refine IX7_count_7 (fun z => absurd z (nI_nlt (a := 3) hw (by decide))) (fun _ => ?_)
  refine BX7_count_10 ?_
  refine BX7_count_15 ?_
  refine IX7_count_22 (fun _ => ?_) (fun z => absurd (by rw [up2_s]; decide) z)
  refine BX7_count_27 ?_
  have e138 : tw I 0 138 = I 138 := tw_o 0 (by decide)
  have key : ∀ q k : Nat, k + q = 24 → Ev d 0 0 (fun _ => 0) mX7_count 31 [some (.ref 136), some (.int (nI w)), some (.int (nI (cnR (I 138) k))), some (.int (nI k))] [] (tw I 0) J 0 (fun o I' J' _ => ∃ v, o = .inl v ∧ RI (if w = 0 then I 136 24 else if w = 1 then (J 136 5 &&& 2147483647).toInt32 else if w = 2 then I 136 4 else nI (cnR (I 138) 24)) (tw I 0) J v I' J') := by
    intro q
    induction q with
    | zero =>
      intro k hk
      have hk24 : k = 24 := by omega
      subst hk24
      refine BX7_count_31 ?_
      refine IX7_count_34 (fun _ => ?_) (fun z => absurd (by decide) z)
      refine BX7_count_60 ?_
      by_cases w0 : w = 0
      · subst w0
        refine IX7_count_61 (fun z => absurd rfl z) (fun _ => ?_)
        refine BX7_count_64 ?_
        rw [tw_k 0 (by decide)]
        exact RX7_count_101 (Nat.zero_le _) ⟨_, rfl, rfl, rfl, rfl⟩
      rw [if_neg w0]
      refine IX7_count_61 (fun _ => ?_) (fun z => absurd (nI_ne0 (by omega) (by omega)) z)
      refine BX7_count_71 ?_
      by_cases w1 : w = 1
      · subst w1
        refine IX7_count_73 (fun z => absurd rfl z) (fun _ => ?_)
        refine BX7_count_76 ?_
        exact RX7_count_101 (Nat.zero_le _) ⟨_, rfl, rfl, rfl, rfl⟩
      rw [if_neg w1]
      refine IX7_count_73 (fun _ => ?_) (fun z => absurd (fun y => w1 ((nI_eq (b := 1) (by omega) (by decide)).mp y)) z)
      refine BX7_count_88 ?_
      by_cases w2 : w = 2
      · subst w2
        refine IX7_count_90 (fun z => absurd rfl z) (fun _ => ?_)
        refine BX7_count_93 ?_
        rw [tw_k 0 (by decide)]
        exact RX7_count_101 (Nat.zero_le _) ⟨_, rfl, rfl, rfl, rfl⟩
      rw [if_neg w2]
      refine IX7_count_90 (fun _ => ?_) (fun z => absurd (fun y => w2 ((nI_eq (b := 2) (by omega) (by decide)).mp y)) z)
      refine BX7_count_100 ?_
      exact RX7_count_101 (Nat.zero_le _) ⟨_, rfl, rfl, rfl, rfl⟩
    | succ q ih =>
      intro k hk
      refine BX7_count_31 ?_
      refine IX7_count_34 (fun z => absurd z (show ¬ (24 : Int32) ≤ nI k from nI_ge (b := 24) (by omega) (by decide))) (fun _ => ?_)
      refine BX7_count_37 (vp_in_nI (by omega) (by decide)) ?_
      rw [nI_clamp (by omega), e138]
      have es : cnR (I 138) (k + 1) = cnR (I 138) k + (if 0 < I 138 k then 1 else 0) := rfl
      refine IX7_count_43 (fun c => ?_) (fun c => ?_)
      · have es0 : cnR (I 138) (k + 1) = cnR (I 138) k := by rw [es, if_neg (Int32.not_lt.mpr c)]; rfl
        refine BX7_count_52 ?_
        refine BX7_count_53 ?_
        rw [nI_1, ← es0]
        exact ih (k + 1) (by omega)
      · rw [if_pos (Int32.not_le.mp c)] at es
        refine BX7_count_46 ?_
        refine BX7_count_53 ?_
        rw [nI_1, nI_1, ← es]
        exact ih (k + 1) (by omega)
  exact key 24 0 rfl
end RF7

