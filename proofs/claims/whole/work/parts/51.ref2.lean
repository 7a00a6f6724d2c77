/-! the reference: refusals, reads, small changes -/
abbrev tw (I : T2) (v : Int32) : T2 := up2 I 136 0 v
section RF2
variable {d : Nat} {I : T2} {J : T3} {G x : Nat}
theorem tw_0 (v : Int32) : tw I v 136 0 = v := by unfold tw; rw [up2_s]
theorem tw_k {j : Nat} (v : Int32) (h : j ≠ 0) : tw I v 136 j = I 136 j := up2_k _ _ _ h
theorem tw_o {o : Nat} (v : Int32) (h : o ≠ 136) : tw I v o = I o := up2_ne _ _ _ h
theorem sm_rule {x : Int32} (h : ¬ x < 0) (h2 : x ≤ 2) : Mt d mX7_rule [.ref 136, .int x] I J (RV (up2 (tw I 0) 136 6 x) J) := by
  refine Mt.of (by decide +kernel) (Nat.le_of_ble_eq_true rfl) ?_
  refine BX7_rule_0  ?_
  refine IX7_rule_2 (fun c2 => absurd c2 h) (fun c2 => ?_)
  refine BX7_rule_5  ?_
  refine IX7_rule_7 (fun c7 => absurd c7 (Int32.not_lt.mpr h2)) (fun c7 => ?_)
  refine BX7_rule_10  ?_
  refine BX7_rule_15  ?_
  refine IX7_rule_23 (fun c23 => ?_) (fun c23 => absurd c23 (fun z => z (by rw [up2_s]; decide)))
  refine BX7_rule_33  ?_
  refine BX7_rule_34  ?_
  exact RX7_rule_37  (Nat.zero_le _) ⟨_, rfl, ⟨rfl, rfl, rfl⟩⟩
theorem sm_ruleT {x : Int32} (h : x < 0 ∨ ¬ x ≤ 2) : Mt d mX7_rule [.ref 136, .int x] I J (RV (up2 (tw I 1) 136 6 (I 136 6)) J) := by
  refine Mt.of (by decide +kernel) (Nat.le_of_ble_eq_true rfl) ?_
  have fin : Ev d 0 0 (fun _ => 0) mX7_rule 14 [some (.ref 136), some (.int x)] [.ref 136] I J 0 (fun o I' J' _ => ∃ w, o = .inl w ∧ RV (up2 (tw I 1) 136 6 (I 136 6)) J w I' J') := by
    refine BX7_rule_14 ?_
    refine BX7_rule_15 ?_
    refine IX7_rule_23 (fun z => absurd z (by rw [up2_s]; decide)) (fun _ => ?_)
    refine BX7_rule_26 ?_
    rw [up2_k _ _ _ (by decide)]
    refine BX7_rule_34 ?_
    exact RX7_rule_37 (Nat.zero_le _) ⟨_, rfl, rfl, rfl, rfl⟩
  refine BX7_rule_0 ?_
  refine IX7_rule_2 (fun _ => fin) (fun c => ?_)
  refine BX7_rule_5 ?_
  exact IX7_rule_7 (fun _ => fin) (fun c2 => absurd (h.elim (fun y => absurd y c) id) (fun z => z (Int32.not_lt.mp c2)))
theorem sm_crash (hG : I 136 4 = nI G) (hG8 : G ≤ 8) (hx : x < G) (hu : I 143 x = 0) : Mt (d + 1) mX7_crash [.ref 136, .int (nI x)] I J (RV (up2 (tw I 0) 143 x 1) J) := by
  refine Mt.of (by decide +kernel) (Nat.le_of_ble_eq_true rfl) ?_
  refine BX7_crash_0 ?_
  refine CX7_crash_3 (sm_isGate hG hG8 hx) (Nat.zero_le _) (fun v I1 J1 q1 => ?_)
  obtain ⟨rfl, rfl, rfl⟩ := q1
  refine IX7_crash_6 (fun _ => ?_) (fun c => absurd (by decide) c)
  refine BX7_crash_13 (vp_in_nI (by omega) (by decide)) ?_
  rw [nI_clamp (by omega), hu]
  refine IX7_crash_19 (fun _ => ?_) (fun c => absurd rfl c)
  refine BX7_crash_26 ?_
  refine BX7_crash_27 ?_
  refine IX7_crash_34 (fun c => absurd (by rw [up2_s]) c) (fun _ => ?_)
  refine BX7_crash_37 (vp_in_nI (by omega) (by decide)) ?_
  rw [nI_clamp (by omega)]
  exact RX7_crash_44 (Nat.zero_le _) ⟨_, rfl, rfl, rfl, rfl⟩
theorem sm_crashT (hG : I 136 4 = nI G) (hG8 : G ≤ 8) (hx : x < G) (hu : ¬ I 143 x = 0) : Mt (d + 1) mX7_crash [.ref 136, .int (nI x)] I J (RV (tw I 2) J) := by
  refine Mt.of (by decide +kernel) (Nat.le_of_ble_eq_true rfl) ?_
  refine BX7_crash_0 ?_
  refine CX7_crash_3 (sm_isGate hG hG8 hx) (Nat.zero_le _) (fun v I1 J1 q1 => ?_)
  obtain ⟨rfl, rfl, rfl⟩ := q1
  refine IX7_crash_6 (fun _ => ?_) (fun c => absurd (by decide) c)
  refine BX7_crash_13 (vp_in_nI (by omega) (by decide)) ?_
  rw [nI_clamp (by omega)]
  refine IX7_crash_19 (fun c => absurd c hu) (fun _ => ?_)
  refine BX7_crash_22 ?_
  refine BX7_crash_27 ?_
  refine IX7_crash_34 (fun _ => ?_) (fun c => absurd (by rw [up2_s]; decide) c)
  exact RX7_crash_44 (Nat.zero_le _) ⟨_, rfl, rfl, rfl, rfl⟩
theorem sm_crashB {x : Int32} (hx : x < 0 ∨ I 136 4 ≤ x) : Mt (d + 1) mX7_crash [.ref 136, .int x] I J (RV (tw I 1) J) := by
  refine Mt.of (by decide +kernel) (Nat.le_of_ble_eq_true rfl) ?_
  refine BX7_crash_0  ?_
  refine CX7_crash_3 (sm_isGate0 hx) (Nat.zero_le _) (fun v3 I3 J3 q3 => ?_)
  obtain ⟨rfl, rfl, rfl⟩ := q3
  refine IX7_crash_6 (fun c6 => absurd c6 (fun z => z rfl)) (fun c6 => ?_)
  refine BX7_crash_9  ?_
  refine BX7_crash_27  ?_
  refine IX7_crash_34 (fun c34 => ?_) (fun c34 => absurd c34 (fun z => z (by rw [up2_s]; decide)))
  exact RX7_crash_44  (Nat.zero_le _) ⟨_, rfl, ⟨rfl, rfl, rfl⟩⟩
theorem sm_restartB {x : Int32} (hx : x < 0 ∨ I 136 4 ≤ x) : Mt (d + 1) mX7_restart [.ref 136, .int x] I J (RI 0 (tw I 1) J) := by
  refine Mt.of (by decide +kernel) (Nat.le_of_ble_eq_true rfl) ?_
  refine BX7_restart_0  ?_
  refine CX7_restart_3 (sm_isGate0 hx) (Nat.zero_le _) (fun v3 I3 J3 q3 => ?_)
  obtain ⟨rfl, rfl, rfl⟩ := q3
  refine IX7_restart_6 (fun c6 => ?_) (fun c6 => absurd c6 (fun z => z rfl))
  refine BX7_restart_13  ?_
  refine BX7_restart_14  ?_
  refine IX7_restart_21 (fun c21 => ?_) (fun c21 => absurd c21 (fun z => z (by rw [up2_s]; decide)))
  refine BX7_restart_33  ?_
  exact RX7_restart_34 (by first | exact Or.inl rfl | exact Or.inr rfl) (Nat.zero_le _) ⟨_, rfl, ⟨rfl, rfl, rfl⟩⟩
theorem sm_restart0 (hG : I 136 4 = nI G) (hG8 : G ≤ 8) (hx : x < G) (hu : I 143 x = 0) : Mt (d + 1) mX7_restart [.ref 136, .int (nI x)] I J (RI 0 (tw I 0) J) := by
  refine Mt.of (by decide +kernel) (Nat.le_of_ble_eq_true rfl) ?_
  refine BX7_restart_0  ?_
  refine CX7_restart_3 (sm_isGate hG hG8 hx) (Nat.zero_le _) (fun v3 I3 J3 q3 => ?_)
  obtain ⟨rfl, rfl, rfl⟩ := q3
  refine IX7_restart_6 (fun c6 => absurd c6 (by decide)) (fun c6 => ?_)
  refine BX7_restart_9  ?_
  refine BX7_restart_14  ?_
  refine IX7_restart_21 (fun c21 => absurd c21 (by rw [up2_s]; decide)) (fun c21 => ?_)
  refine BX7_restart_24 (vp_in_nI (show x < 8 by omega) (by decide)) ?_
  refine IX7_restart_30 (fun c30 => absurd c30 (fun z => z (by rw [nI_clamp (by omega), up2_o _ _ _ _ (by decide)]; exact hu))) (fun c30 => ?_)
  refine BX7_restart_33  ?_
  exact RX7_restart_34 (by first | exact Or.inl rfl | exact Or.inr rfl) (Nat.zero_le _) ⟨_, rfl, ⟨rfl, rfl, rfl⟩⟩
/-- spent as stored, in the first k of a gate's three -/
def rsM (I : T2) (x : Nat) : Nat → T2
  | 0 => I
  | k + 1 => up2 (rsM I x k) 145 (3 * x + k) (I 146 (3 * x + k))
theorem rsM_o {o : Nat} (h : o ≠ 145) : ∀ k, rsM I x k o = I o
  | 0 => rfl
  | k + 1 => by
    show up2 _ _ _ _ o = _
    rw [up2_ne _ _ _ h, rsM_o h k]
theorem sm_restart1 (hG : I 136 4 = nI G) (hG8 : G ≤ 8) (hx : x < G) (hu : ¬ I 143 x = 0) : Mt (d + 1) mX7_restart [.ref 136, .int (nI x)] I J (RI 1 (rsM (up2 (tw I 0) 143 x 0) x 3) J) := by
  refine Mt.of (by decide +kernel) (Nat.le_of_ble_eq_true rfl) ?_
  refine BX7_restart_0 ?_
  refine CX7_restart_3 (sm_isGate hG hG8 hx) (Nat.zero_le _) (fun v I1 J1 q1 => ?_)
  obtain ⟨rfl, rfl, rfl⟩ := q1
  refine IX7_restart_6 (fun c => absurd c (by decide)) (fun _ => ?_)
  refine BX7_restart_9 ?_
  refine BX7_restart_14 ?_
  refine IX7_restart_21 (fun c => absurd c (by rw [up2_s]; decide)) (fun _ => ?_)
  refine BX7_restart_24 (vp_in_nI (by omega) (by decide)) ?_
  rw [nI_clamp (by omega)]
  refine IX7_restart_30 (fun _ => ?_) (fun c => absurd (by rw [up2_o _ _ _ _ (by decide)]; exact hu) c)
  refine BX7_restart_35 (vp_in_nI (by omega) (by decide)) ?_
  rw [nI_clamp (by omega), mul3']
  have key : ∀ q k : Nat, k + q = 3 → Ev (d + 1) 0 0 (fun _ => 0) mX7_restart 46 [some (.ref 136), some (.int (nI x)), some (.int (nI (3 * x + k)))] [] (rsM (up2 (tw I 0) 143 x 0) x k) J 0 (fun o I' J' _ => ∃ w, o = .inl w ∧ RI 1 (rsM (up2 (tw I 0) 143 x 0) x 3) J w I' J') := by
    intro q
    induction q with
    | zero =>
      intro k hk
      have hk3 : k = 3 := by omega
      subst hk3
      refine BX7_restart_46 ?_
      rw [mul3', nI_3]
      refine IX7_restart_52 (fun _ => ?_) (fun c => absurd (nI_le (by omega) (by omega)) c)
      refine BX7_restart_73  ?_
      exact RX7_restart_74 (by first | exact Or.inl rfl | exact Or.inr rfl) (Nat.zero_le _) ⟨_, rfl, ⟨rfl, rfl, rfl⟩⟩
    | succ q ih =>
      intro k hk
      refine BX7_restart_46 ?_
      rw [mul3', nI_3]
      refine IX7_restart_52 (fun c => absurd c (nI_ge (by omega) (by omega))) (fun _ => ?_)
      refine BX7_restart_55 (vp_in_nI (by omega) (by decide)) ?_
      rw [nI_clamp (by omega), nI_1, rsM_o (by decide)]
      exact ih (k + 1) (by omega)
  exact key 3 0 rfl
/-- the first k wants gone -/
def wzM (I : T2) : Nat → T2
  | 0 => I
  | k + 1 => up2 (wzM I k) 138 k 0
theorem sm_desk0 {b : Int32} (hb : b = 0 ∨ b = 1) (h : b = 0) : Mt d mX7_desk [.ref 136, .int b] I J (RI (if I 136 7 = b then 0 else 1) (up2 (tw I 0) 136 7 b) J) := by
  subst h
  refine Mt.of (by decide +kernel) (Nat.le_of_ble_eq_true rfl) ?_
  refine BX7_desk_0 ?_
  rw [up2_k _ _ _ (by decide)]
  refine IX7_desk_10 (fun c => ?_) (fun c => ?_)
  · rw [if_pos c]
    refine BX7_desk_17 ?_
    refine BX7_desk_18 hb ?_
    refine BX7_desk_26 ?_
    refine IX7_desk_27 (fun _ => ?_) (fun z => absurd rfl z)
    refine BX7_desk_49  ?_
    exact RX7_desk_50 (by first | exact Or.inl rfl | exact Or.inr rfl) (Nat.zero_le _) ⟨_, rfl, ⟨rfl, rfl, rfl⟩⟩
  · rw [if_neg c]
    refine BX7_desk_13 ?_
    refine BX7_desk_18 hb ?_
    refine BX7_desk_26 ?_
    refine IX7_desk_27 (fun _ => ?_) (fun z => absurd rfl z)
    refine BX7_desk_49  ?_
    exact RX7_desk_50 (by first | exact Or.inl rfl | exact Or.inr rfl) (Nat.zero_le _) ⟨_, rfl, ⟨rfl, rfl, rfl⟩⟩
theorem sm_desk1 : Mt d mX7_desk [.ref 136, .int 1] I J (RI (if I 136 7 = 1 then 0 else 1) (wzM (up2 (tw I 0) 136 7 1) 24) J) := by
  refine Mt.of (by decide +kernel) (Nat.le_of_ble_eq_true rfl) ?_
  refine BX7_desk_0 ?_
  rw [up2_k _ _ _ (by decide)]
  have key : ∀ (r : Int32), (r = 0 ∨ r = 1) → ∀ q k : Nat, k + q = 24 → Ev d 0 0 (fun _ => 0) mX7_desk 26 [some (.ref 136), some (.int 1), some (.int r), some (.int (nI k))] [] (wzM (up2 (tw I 0) 136 7 1) k) J 0 (fun o I' J' _ => ∃ w, o = .inl w ∧ RI r (wzM (up2 (tw I 0) 136 7 1) 24) J w I' J') := by
    intro r hr q
    induction q with
    | zero =>
      intro k hk
      have hk3 : k = 24 := by omega
      subst hk3
      refine BX7_desk_26 ?_
      refine IX7_desk_27 (fun z => absurd z (by decide)) (fun _ => ?_)
      refine BX7_desk_30 ?_
      refine IX7_desk_33 (fun _ => ?_) (fun c => absurd (by decide) c)
      refine BX7_desk_49  ?_
      exact RX7_desk_50 hr (Nat.zero_le _) ⟨_, rfl, ⟨rfl, rfl, rfl⟩⟩
    | succ q ih =>
      intro k hk
      refine BX7_desk_26 ?_
      refine IX7_desk_27 (fun z => absurd z (by decide)) (fun _ => ?_)
      refine BX7_desk_30 ?_
      refine IX7_desk_33 (fun c => absurd c (show ¬ (24 : Int32) ≤ nI k from nI_ge (b := 24) (by omega) (by decide))) (fun _ => ?_)
      refine BX7_desk_36 (vp_in_nI (by omega) (by decide)) ?_
      rw [nI_clamp (by omega), nI_1]
      exact ih (k + 1) (by omega)
  refine IX7_desk_10 (fun c => ?_) (fun c => ?_)
  · rw [if_pos c]
    refine BX7_desk_17 ?_
    refine BX7_desk_18 (Or.inr rfl) ?_
    exact key 0 (Or.inl rfl) 24 0 rfl
  · rw [if_neg c]
    refine BX7_desk_13 ?_
    refine BX7_desk_18 (Or.inr rfl) ?_
    exact key 1 (Or.inr rfl) 24 0 rfl
theorem sm_there0 {w : Int32} (h : whI w (I 136 8) = -1) : Mt (d + 1) mX7_there [.ref 136, .int w] I J (RI 0 (tw I 0) J) := by
  refine Mt.of (by decide +kernel) (Nat.le_of_ble_eq_true rfl) ?_
  refine BX7_there_0 ?_
  rw [up2_k _ _ _ (by decide)]
  refine CX7_there_10 (sm_which _ _) (Nat.zero_le _) (fun v I1 J1 q1 => ?_)
  obtain ⟨rfl, rfl, rfl⟩ := q1
  rw [h]
  refine BX7_there_13  ?_
  refine IX7_there_15 (fun c15 => absurd c15 (by decide)) (fun c15 => ?_)
  refine BX7_there_18  ?_
  exact RX7_there_28  (Nat.zero_le _) ⟨_, rfl, ⟨rfl, rfl, rfl⟩⟩
theorem sm_there1 {w : Int32} {k : Nat} (h : whI w (I 136 8) = nI k) (hk : k < 3) : Mt (d + 1) mX7_there [.ref 136, .int w] I J (RI (I 137 k) (tw I 0) J) := by
  refine Mt.of (by decide +kernel) (Nat.le_of_ble_eq_true rfl) ?_
  refine BX7_there_0 ?_
  rw [up2_k _ _ _ (by decide)]
  refine CX7_there_10 (sm_which _ _) (Nat.zero_le _) (fun v I1 J1 q1 => ?_)
  obtain ⟨rfl, rfl, rfl⟩ := q1
  rw [h]
  refine BX7_there_13 ?_
  refine IX7_there_15 (fun _ => ?_) (fun c => absurd (nI_pos' (by omega)) c)
  refine BX7_there_22 (vp_in_nI hk (by decide)) ?_
  rw [nI_clamp (by omega), up2_o _ _ _ _ (by decide)]
  exact RX7_there_28 (Nat.zero_le _) ⟨_, rfl, rfl, rfl, rfl⟩
theorem sm_used (w : Int32) : Mt d mX7_used [.ref 136, .int w] I J (RI (if w < 0 then 0 else if 200 ≤ w then 0 else I 152 w.toNatClampNeg) (tw I 0) J) := by
  refine Mt.of (by decide +kernel) (Nat.le_of_ble_eq_true rfl) ?_
  refine BX7_used_0 ?_
  refine IX7_used_6 (fun c => ?_) (fun c => ?_)
  · rw [if_pos c]
    refine BX7_used_25  ?_
    exact RX7_used_26  (Nat.zero_le _) ⟨_, rfl, ⟨rfl, rfl, rfl⟩⟩
  · rw [if_neg c]
    refine BX7_used_9 ?_
    refine IX7_used_13 (fun c2 => ?_) (fun c2 => ?_)
    · rw [if_pos c2]
      refine BX7_used_25  ?_
      exact RX7_used_26  (Nat.zero_le _) ⟨_, rfl, ⟨rfl, rfl, rfl⟩⟩
    · rw [if_neg c2]
      obtain ⟨j, j1, rfl⟩ := nI_of c
      have j2 : j < 200 := Nat.lt_of_not_le fun z => c2 (nI_le (a := 200) z j1)
      refine BX7_used_16 (vp_in_nI j2 (by decide)) ?_
      rw [up2_o _ _ _ _ (by decide)]
      exact RX7_used_26 (Nat.zero_le _) ⟨_, rfl, rfl, rfl, rfl⟩
theorem sm_letterB {x w : Int32} (hx : x < 0 ∨ I 136 24 ≤ x) : Mt (d + 1) mX7_letter [.ref 136, .int x, .int w] I J (RI 0 (tw I 1) J) := by
  refine Mt.of (by decide +kernel) (Nat.le_of_ble_eq_true rfl) ?_
  refine BX7_letter_0  ?_
  refine CX7_letter_3 (sm_isLetter0 hx) (Nat.zero_le _) (fun v3 I3 J3 q3 => ?_)
  obtain ⟨rfl, rfl, rfl⟩ := q3
  refine IX7_letter_6 (fun c6 => absurd c6 (fun z => z rfl)) (fun c6 => ?_)
  refine BX7_letter_9  ?_
  refine BX7_letter_27  ?_
  refine IX7_letter_34 (fun c34 => absurd c34 (by rw [up2_s]; decide)) (fun c34 => ?_)
  refine BX7_letter_37  ?_
  exact RX7_letter_52  (Nat.zero_le _) ⟨_, rfl, ⟨rfl, rfl, rfl⟩⟩
theorem sm_letterT {n : Nat} (hn : I 136 24 = nI n) (hn2 : n ≤ 200) (hx : x < n) {w : Int32} (hw : w < 0 ∨ ¬ w < 6) : Mt (d + 1) mX7_letter [.ref 136, .int (nI x), .int w] I J (RI 0 (tw I 2) J) := by
  refine Mt.of (by decide +kernel) (Nat.le_of_ble_eq_true rfl) ?_
  have h5 : ¬ w < 0 → ¬ w ≤ 5 := fun a b => hw.elim a (fun z => z (by
    rw [Int32.le_iff_toInt_le] at b
    rw [Int32.lt_iff_toInt_lt]
    have e1 : (5 : Int32).toInt = 5 := by decide
    have e2 : (6 : Int32).toInt = 6 := by decide
    omega))
  refine BX7_letter_0  ?_
  refine CX7_letter_3 (sm_isLetter hn hn2 hx) (Nat.zero_le _) (fun v3 I3 J3 q3 => ?_)
  obtain ⟨rfl, rfl, rfl⟩ := q3
  refine IX7_letter_6 (fun c6 => ?_) (fun c6 => absurd c6 (fun z => z (by decide)))
  refine BX7_letter_13  ?_
  refine IX7_letter_14 (fun c14 => ?_) (fun c14 => ?_)
  · skip
    refine BX7_letter_22  ?_
    refine BX7_letter_27  ?_
    refine IX7_letter_34 (fun c34 => absurd c34 (by rw [up2_s]; decide)) (fun c34 => ?_)
    refine BX7_letter_37  ?_
    exact RX7_letter_52  (Nat.zero_le _) ⟨_, rfl, ⟨rfl, rfl, rfl⟩⟩
  · skip
    refine BX7_letter_17  ?_
    refine IX7_letter_19 (fun c19 => absurd c19 (h5 c14)) (fun c19 => ?_)
    refine BX7_letter_22  ?_
    refine BX7_letter_27  ?_
    refine IX7_letter_34 (fun c34 => absurd c34 (by rw [up2_s]; decide)) (fun c34 => ?_)
    refine BX7_letter_37  ?_
    exact RX7_letter_52  (Nat.zero_le _) ⟨_, rfl, ⟨rfl, rfl, rfl⟩⟩
theorem sm_letter {n w : Nat} (hn : I 136 24 = nI n) (hn2 : n ≤ 200) (hx : x < n) (hw : w < 6) : Mt (d + 1) mX7_letter [.ref 136, .int (nI x), .int (nI w)] I J (RI (I 151 (6 * x + w)) (tw I 0) J) := by
  refine Mt.of (by decide +kernel) (Nat.le_of_ble_eq_true rfl) ?_
  have e : (6 * nI x + nI w).toNatClampNeg = 6 * x + w := by rw [mul6', nI_add, nI_clamp (by omega)]
  have e2 : tw I 0 151 = I 151 := tw_o 0 (by decide)
  rw [← e, ← e2]
  refine BX7_letter_0  ?_
  refine CX7_letter_3 (sm_isLetter hn hn2 hx) (Nat.zero_le _) (fun v3 I3 J3 q3 => ?_)
  obtain ⟨rfl, rfl, rfl⟩ := q3
  refine IX7_letter_6 (fun c6 => ?_) (fun c6 => absurd c6 (fun z => z (by decide)))
  refine BX7_letter_13  ?_
  refine IX7_letter_14 (fun c14 => absurd c14 (nI_pos (by omega))) (fun c14 => ?_)
  refine BX7_letter_17  ?_
  refine IX7_letter_19 (fun c19 => ?_) (fun c19 => absurd c19 (fun z => z (nI_le (b := 5) (by omega) (by decide))))
  refine BX7_letter_26  ?_
  refine BX7_letter_27  ?_
  refine IX7_letter_34 (fun c34 => ?_) (fun c34 => absurd c34 (fun z => z (by rw [up2_s]; decide)))
  refine BX7_letter_41 (by rw [mul6', nI_add]; exact vp_in_nI (show 6 * x + w < 1200 by omega) (by decide)) ?_
  exact RX7_letter_52  (Nat.zero_le _) ⟨_, rfl, ⟨rfl, rfl, rfl⟩⟩
theorem sm_aboutB {x w : Int32} (hx : x < 0 ∨ I 136 4 ≤ x) : Mt (d + 1) mX7_about [.ref 136, .int x, .int w] I J (RJ1 0 (tw I 1) J) := by
  refine Mt.of (by decide +kernel) (Nat.le_of_ble_eq_true rfl) ?_
  refine BX7_about_0  ?_
  refine CX7_about_3 (sm_isGate0 hx) (Nat.zero_le _) (fun v3 I3 J3 q3 => ?_)
  obtain ⟨rfl, rfl, rfl⟩ := q3
  refine IX7_about_6 (fun c6 => absurd c6 (fun z => z rfl)) (fun c6 => ?_)
  refine BX7_about_9  ?_
  refine BX7_about_27  ?_
  refine IX7_about_34 (fun c34 => absurd c34 (by rw [up2_s]; decide)) (fun c34 => ?_)
  refine BX7_about_37  ?_
  exact RX7_about_38  (Nat.zero_le _) ⟨_, rfl, ⟨rfl, rfl, rfl⟩⟩
theorem sm_aboutT (hG : I 136 4 = nI G) (hG8 : G ≤ 8) (hx : x < G) {w : Int32} (hw : w < 0 ∨ ¬ w ≤ 2) : Mt (d + 1) mX7_about [.ref 136, .int (nI x), .int w] I J (RJ1 0 (tw I 2) J) := by
  refine Mt.of (by decide +kernel) (Nat.le_of_ble_eq_true rfl) ?_
  refine BX7_about_0  ?_
  refine CX7_about_3 (sm_isGate hG hG8 hx) (Nat.zero_le _) (fun v3 I3 J3 q3 => ?_)
  obtain ⟨rfl, rfl, rfl⟩ := q3
  refine IX7_about_6 (fun c6 => ?_) (fun c6 => absurd c6 (fun z => z (by decide)))
  refine BX7_about_13  ?_
  refine IX7_about_14 (fun c14 => ?_) (fun c14 => ?_)
  · skip
    refine BX7_about_22  ?_
    refine BX7_about_27  ?_
    refine IX7_about_34 (fun c34 => absurd c34 (by rw [up2_s]; decide)) (fun c34 => ?_)
    refine BX7_about_37  ?_
    exact RX7_about_38  (Nat.zero_le _) ⟨_, rfl, ⟨rfl, rfl, rfl⟩⟩
  · skip
    refine BX7_about_17  ?_
    refine IX7_about_19 (fun c19 => absurd c19 (fun z => hw.elim (fun y => c14 y) (fun y => y z))) (fun c19 => ?_)
    refine BX7_about_22  ?_
    refine BX7_about_27  ?_
    refine IX7_about_34 (fun c34 => absurd c34 (by rw [up2_s]; decide)) (fun c34 => ?_)
    refine BX7_about_37  ?_
    exact RX7_about_38  (Nat.zero_le _) ⟨_, rfl, ⟨rfl, rfl, rfl⟩⟩
theorem sm_about0 (hG : I 136 4 = nI G) (hG8 : G ≤ 8) (hx : x < G) : Mt (d + 1) mX7_about [.ref 136, .int (nI x), .int 0] I J (RJ1 (J 141 x) (tw I 0) J) := by
  refine Mt.of (by decide +kernel) (Nat.le_of_ble_eq_true rfl) ?_
  rw [show J 141 x = J 141 (nI x).toNatClampNeg by rw [nI_clamp (by omega)]]
  refine BX7_about_0  ?_
  refine CX7_about_3 (sm_isGate hG hG8 hx) (Nat.zero_le _) (fun v3 I3 J3 q3 => ?_)
  obtain ⟨rfl, rfl, rfl⟩ := q3
  refine IX7_about_6 (fun c6 => ?_) (fun c6 => absurd c6 (fun z => z (by decide)))
  refine BX7_about_13  ?_
  refine IX7_about_14 (fun c14 => absurd c14 (by decide)) (fun c14 => ?_)
  refine BX7_about_17  ?_
  refine IX7_about_19 (fun c19 => ?_) (fun c19 => absurd c19 (fun z => z (by decide)))
  refine BX7_about_26  ?_
  refine BX7_about_27  ?_
  refine IX7_about_34 (fun c34 => ?_) (fun c34 => absurd c34 (fun z => z (by rw [up2_s]; decide)))
  refine BX7_about_39  ?_
  refine IX7_about_40 (fun c40 => absurd c40 (fun z => z rfl)) (fun c40 => ?_)
  refine BX7_about_43 (vp_in_nI (show x < 8 by omega) (by decide)) ?_
  exact RX7_about_81  (Nat.zero_le _) ⟨_, rfl, ⟨rfl, rfl, rfl⟩⟩
theorem sm_about1 (hG : I 136 4 = nI G) (hG8 : G ≤ 8) (hx : x < G) : Mt (d + 1) mX7_about [.ref 136, .int (nI x), .int 1] I J (RJ1 (I 142 x).toInt64 (tw I 0) J) := by
  refine Mt.of (by decide +kernel) (Nat.le_of_ble_eq_true rfl) ?_
  rw [show I 142 x = tw I 0 142 (nI x).toNatClampNeg by rw [nI_clamp (by omega), tw_o 0 (by decide)]]
  refine BX7_about_0  ?_
  refine CX7_about_3 (sm_isGate hG hG8 hx) (Nat.zero_le _) (fun v3 I3 J3 q3 => ?_)
  obtain ⟨rfl, rfl, rfl⟩ := q3
  refine IX7_about_6 (fun c6 => ?_) (fun c6 => absurd c6 (fun z => z (by decide)))
  refine BX7_about_13  ?_
  refine IX7_about_14 (fun c14 => absurd c14 (by decide)) (fun c14 => ?_)
  refine BX7_about_17  ?_
  refine IX7_about_19 (fun c19 => ?_) (fun c19 => absurd c19 (fun z => z (by decide)))
  refine BX7_about_26  ?_
  refine BX7_about_27  ?_
  refine IX7_about_34 (fun c34 => ?_) (fun c34 => absurd c34 (fun z => z (by rw [up2_s]; decide)))
  refine BX7_about_39  ?_
  refine IX7_about_40 (fun c40 => ?_) (fun c40 => absurd c40 (fun z => z (by decide)))
  refine BX7_about_52  ?_
  refine IX7_about_54 (fun c54 => absurd c54 (fun z => z rfl)) (fun c54 => ?_)
  refine BX7_about_57 (vp_in_nI (show x < 8 by omega) (by decide)) ?_
  exact RX7_about_81  (Nat.zero_le _) ⟨_, rfl, ⟨rfl, rfl, rfl⟩⟩
theorem sm_about2 (hG : I 136 4 = nI G) (hG8 : G ≤ 8) (hx : x < G) : Mt (d + 1) mX7_about [.ref 136, .int (nI x), .int 2] I J (RJ1 (if I 143 x = 0 then 1 else 0) (tw I 0) J) := by
  refine Mt.of (by decide +kernel) (Nat.le_of_ble_eq_true rfl) ?_
  rw [show I 143 x = tw I 0 143 (nI x).toNatClampNeg by rw [nI_clamp (by omega), tw_o 0 (by decide)]]
  refine BX7_about_0 ?_
  refine CX7_about_3 (sm_isGate hG hG8 hx) (Nat.zero_le _) (fun v I1 J1 q1 => ?_)
  obtain ⟨rfl, rfl, rfl⟩ := q1
  refine IX7_about_6 (fun _ => ?_) (fun z => absurd (by decide) z)
  refine BX7_about_13 ?_
  refine IX7_about_14 (fun z => absurd z (by decide)) (fun _ => ?_)
  refine BX7_about_17 ?_
  refine IX7_about_19 (fun _ => ?_) (fun z => absurd (by decide) z)
  refine BX7_about_26 ?_
  refine BX7_about_27 ?_
  refine IX7_about_34 (fun _ => ?_) (fun z => absurd (by rw [up2_s]; decide) z)
  refine BX7_about_39 ?_
  refine IX7_about_40 (fun _ => ?_) (fun z => absurd (by decide) z)
  refine BX7_about_52 ?_
  refine IX7_about_54 (fun _ => ?_) (fun z => absurd (by decide) z)
  refine BX7_about_67 (vp_in_nI (show x < 8 by omega) (by decide)) ?_
  refine IX7_about_73 (fun c => ?_) (fun c => ?_)
  · rw [if_pos c]
    refine BX7_about_80  ?_
    exact RX7_about_81  (Nat.zero_le _) ⟨_, rfl, ⟨rfl, rfl, rfl⟩⟩
  · rw [if_neg c]
    refine BX7_about_76  ?_
    exact RX7_about_81  (Nat.zero_le _) ⟨_, rfl, ⟨rfl, rfl, rfl⟩⟩
theorem sm_hasB {x w k : Int32} (hx : x < 0 ∨ I 136 4 ≤ x) : Mt (d + 1) mX7_has [.ref 136, .int x, .int w, .int k] I J (RI 0 (tw I 1) J) := by
  refine Mt.of (by decide +kernel) (Nat.le_of_ble_eq_true rfl) ?_
  refine BX7_has_0  ?_
  refine CX7_has_3 (sm_isGate0 hx) (Nat.zero_le _) (fun v3 I3 J3 q3 => ?_)
  obtain ⟨rfl, rfl, rfl⟩ := q3
  refine IX7_has_6 (fun c6 => absurd c6 (fun z => z rfl)) (fun c6 => ?_)
  refine BX7_has_9  ?_
  refine BX7_has_27  ?_
  refine IX7_has_34 (fun c34 => absurd c34 (by rw [up2_s]; decide)) (fun c34 => ?_)
  refine BX7_has_37  ?_
  refine BX7_has_51  ?_
  refine IX7_has_55 (fun c55 => absurd c55 (by decide)) (fun c55 => ?_)
  refine BX7_has_58  ?_
  exact RX7_has_59  (Nat.zero_le _) ⟨_, rfl, ⟨rfl, rfl, rfl⟩⟩
theorem sm_hasT (hG : I 136 4 = nI G) (hG8 : G ≤ 8) (hx : x < G) {w k : Int32} (hk : k < 0 ∨ ¬ k ≤ 2) : Mt (d + 1) mX7_has [.ref 136, .int (nI x), .int w, .int k] I J (RI 0 (tw I 2) J) := by
  refine Mt.of (by decide +kernel) (Nat.le_of_ble_eq_true rfl) ?_
  refine BX7_has_0  ?_
  refine CX7_has_3 (sm_isGate hG hG8 hx) (Nat.zero_le _) (fun v3 I3 J3 q3 => ?_)
  obtain ⟨rfl, rfl, rfl⟩ := q3
  refine IX7_has_6 (fun c6 => ?_) (fun c6 => absurd c6 (fun z => z (by decide)))
  refine BX7_has_13  ?_
  refine IX7_has_14 (fun c14 => ?_) (fun c14 => ?_)
  · skip
    refine BX7_has_22  ?_
    refine BX7_has_27  ?_
    refine IX7_has_34 (fun c34 => absurd c34 (by rw [up2_s]; decide)) (fun c34 => ?_)
    refine BX7_has_37  ?_
    refine BX7_has_51  ?_
    refine IX7_has_55 (fun c55 => absurd c55 (by decide)) (fun c55 => ?_)
    refine BX7_has_58  ?_
    exact RX7_has_59  (Nat.zero_le _) ⟨_, rfl, ⟨rfl, rfl, rfl⟩⟩
  · skip
    refine BX7_has_17  ?_
    refine IX7_has_19 (fun c19 => absurd c19 (fun z => hk.elim (fun y => c14 y) (fun y => y z))) (fun c19 => ?_)
    refine BX7_has_22  ?_
    refine BX7_has_27  ?_
    refine IX7_has_34 (fun c34 => absurd c34 (by rw [up2_s]; decide)) (fun c34 => ?_)
    refine BX7_has_37  ?_
    refine BX7_has_51  ?_
    refine IX7_has_55 (fun c55 => absurd c55 (by decide)) (fun c55 => ?_)
    refine BX7_has_58  ?_
    exact RX7_has_59  (Nat.zero_le _) ⟨_, rfl, ⟨rfl, rfl, rfl⟩⟩
theorem sm_has0 (hG : I 136 4 = nI G) (hG8 : G ≤ 8) (hx : x < G) {w : Int32} {k : Nat} (hk : k < 3) (h : whI w (I 142 x) = -1) : Mt (d + 1) mX7_has [.ref 136, .int (nI x), .int w, .int (nI k)] I J (RI 0 (tw I 0) J) := by
  refine Mt.of (by decide +kernel) (Nat.le_of_ble_eq_true rfl) ?_
  have e : tw I 0 142 (nI x).toNatClampNeg = I 142 x := by rw [nI_clamp (by omega), tw_o 0 (by decide)]
  have h' : whI w (tw I 0 142 (nI x).toNatClampNeg) = -1 := by rw [e]; exact h
  refine BX7_has_0  ?_
  refine CX7_has_3 (sm_isGate hG hG8 hx) (Nat.zero_le _) (fun v3 I3 J3 q3 => ?_)
  obtain ⟨rfl, rfl, rfl⟩ := q3
  refine IX7_has_6 (fun c6 => ?_) (fun c6 => absurd c6 (fun z => z (by decide)))
  refine BX7_has_13  ?_
  refine IX7_has_14 (fun c14 => absurd c14 (nI_pos (by omega))) (fun c14 => ?_)
  refine BX7_has_17  ?_
  refine IX7_has_19 (fun c19 => ?_) (fun c19 => absurd c19 (fun z => z (nI_le (b := 2) (by omega) (by decide))))
  refine BX7_has_26  ?_
  refine BX7_has_27  ?_
  refine IX7_has_34 (fun c34 => ?_) (fun c34 => absurd c34 (fun z => z (by rw [up2_s]; decide)))
  refine BX7_has_41 (vp_in_nI (show x < 8 by omega) (by decide)) ?_
  refine CX7_has_48 (sm_which _ _) (Nat.zero_le _) (fun v48 I48 J48 q48 => ?_)
  obtain ⟨rfl, rfl, rfl⟩ := q48
  refine BX7_has_51  ?_
  refine IX7_has_55 (fun c55 => absurd c55 (by rw [h']; decide)) (fun c55 => ?_)
  refine BX7_has_58  ?_
  exact RX7_has_59  (Nat.zero_le _) ⟨_, rfl, ⟨rfl, rfl, rfl⟩⟩
theorem sm_has1 (hG : I 136 4 = nI G) (hG8 : G ≤ 8) (hx : x < G) {w : Int32} {k j : Nat} (hk : k < 3) (h : whI w (I 142 x) = nI j) (hj : j < 3) : Mt (d + 1) mX7_has [.ref 136, .int (nI x), .int w, .int (nI k)] I J (RI (I (144 + k) (3 * x + j)) (tw I 0) J) := by
  refine Mt.of (by decide +kernel) (Nat.le_of_ble_eq_true rfl) ?_
  refine BX7_has_0 ?_
  refine CX7_has_3 (sm_isGate hG hG8 hx) (Nat.zero_le _) (fun v I1 J1 q1 => ?_)
  obtain ⟨rfl, rfl, rfl⟩ := q1
  refine IX7_has_6 (fun _ => ?_) (fun z => absurd (by decide) z)
  refine BX7_has_13 ?_
  refine IX7_has_14 (fun z => absurd z (nI_pos (by omega))) (fun _ => ?_)
  refine BX7_has_17 ?_
  refine IX7_has_19 (fun _ => ?_) (fun z => absurd (nI_le (b := 2) (by omega) (by decide)) z)
  refine BX7_has_26 ?_
  refine BX7_has_27 ?_
  refine IX7_has_34 (fun _ => ?_) (fun z => absurd (by rw [up2_s]; decide) z)
  refine BX7_has_41 (vp_in_nI (show x < 8 by omega) (by decide)) ?_
  rw [nI_clamp (by omega), up2_o _ _ _ _ (by decide)]
  refine CX7_has_48 (sm_which _ _) (Nat.zero_le _) (fun v I1 J1 q1 => ?_)
  obtain ⟨rfl, rfl, rfl⟩ := q1
  rw [h]
  refine BX7_has_51 ?_
  refine IX7_has_55 (fun _ => ?_) (fun z => absurd (nI_pos' (by omega)) z)
  refine BX7_has_60 ?_
  have g : vp_in (3 * nI x + nI j) 24 := by rw [mul3', nI_add]; exact vp_in_nI (by omega) (by decide)
  by_cases k0 : k = 0
  · subst k0
    refine IX7_has_61 (fun z => absurd rfl z) (fun _ => ?_)
    refine BX7_has_64 g ?_
    rw [mul3', nI_add, nI_clamp (by omega), up2_o _ _ _ _ (by decide)]
    exact RX7_has_108 (Nat.zero_le _) ⟨_, rfl, rfl, rfl, rfl⟩
  · refine IX7_has_61 (fun _ => ?_) (fun z => absurd (nI_ne0 (by omega) (by omega)) z)
    refine BX7_has_78 ?_
    by_cases k1 : k = 1
    · subst k1
      refine IX7_has_80 (fun z => absurd rfl z) (fun _ => ?_)
      refine BX7_has_83 g ?_
      rw [mul3', nI_add, nI_clamp (by omega), up2_o _ _ _ _ (by decide)]
      exact RX7_has_108 (Nat.zero_le _) ⟨_, rfl, rfl, rfl, rfl⟩
    · have k2 : k = 2 := by omega
      subst k2
      refine IX7_has_80 (fun _ => ?_) (fun z => absurd (by decide) z)
      refine BX7_has_97 g ?_
      rw [mul3', nI_add, nI_clamp (by omega), up2_o _ _ _ _ (by decide)]
      exact RX7_has_108 (Nat.zero_le _) ⟨_, rfl, rfl, rfl, rfl⟩
end RF2

