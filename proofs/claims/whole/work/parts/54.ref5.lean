/-! the reference: back, deliver, error, pass -/
section RF5
variable {d : Nat} {I : T2} {J : T3} {G x : Nat}
def rtM (I : T2) (x : Nat) (w q : Int32) : Prop := ¬ whI w (I 142 x) = -1 ∧ ¬ q < 1 ∧ q ≤ I 144 (3 * x + (whI w (I 142 x)).toNatClampNeg) - I 146 (3 * x + (whI w (I 142 x)).toNatClampNeg)
/-- up to where it is known whether the call is right -/
theorem bk_mid (hG : I 136 4 = nI G) (hG8 : G ≤ 8) (hx : x < G) {w q r : Int32} (hr : (rtM I x w q ∧ r = 1) ∨ (¬ rtM I x w q ∧ r = 0)) {Φ : Out → T2 → T3 → Nat → Prop} (K : Ev (d + 1) 0 0 (fun _ => 0) mX7_back 66 [some (.ref 136), some (.int (nI x)), some (.int w), some (.int q), some (.int (whI w (I 142 x))), none] [.int r] I J 0 Φ) : Ev (d + 1) 0 0 (fun _ => 0) mX7_back 0 [some (.ref 136), some (.int (nI x)), some (.int w), some (.int q), none, none] [] I J 0 Φ := by
  refine BX7_back_0 ?_
  refine CX7_back_2 (sm_isGate hG hG8 hx) (Nat.zero_le _) (fun v I1 J1 q1 => ?_)
  obtain ⟨rfl, rfl, rfl⟩ := q1
  refine IX7_back_5 (fun z => absurd z (by decide)) (fun _ => ?_)
  refine BX7_back_8 (vp_in_nI (by omega) (by decide)) ?_
  rw [nI_clamp (by omega)]
  refine CX7_back_15 (sm_which _ _) (Nat.zero_le _) (fun v I1 J1 q1 => ?_)
  obtain ⟨rfl, rfl, rfl⟩ := q1
  refine BX7_back_18 ?_
  refine BX7_back_22 ?_
  have no : ¬ rtM I x w q → Ev (d + 1) 0 0 (fun _ => 0) mX7_back 65 [some (.ref 136), some (.int (nI x)), some (.int w), some (.int q), some (.int (whI w (I 142 x))), none] [] I J 0 Φ := fun h => by
    refine BX7_back_65 ?_
    have : r = 0 := hr.elim (fun z => absurd z.1 h) (fun z => z.2)
    subst this
    exact K
  by_cases cw : whI w (I 142 x) = -1
  · have h : ¬ rtM I x w q := fun z => z.1 cw
    have := no h
    rw [cw] at this ⊢
    exact IX7_back_26 (fun _ => this) (fun z => absurd (by decide) z)
  · obtain ⟨j, j1, j2⟩ := wh_in cw
    have hrt : rtM I x w q ↔ ¬ q < 1 ∧ q ≤ I 144 (3 * x + j) - I 146 (3 * x + j) := by
      unfold rtM
      rw [j2, nI_clamp (by omega)]
      exact ⟨fun z => z.2, fun z => ⟨by rw [← j2]; exact cw, z⟩⟩
    rw [j2] at no K ⊢
    refine IX7_back_26 (fun z => absurd z (nI_pos (by omega))) (fun _ => ?_)
    refine BX7_back_29 ?_
    refine IX7_back_31 (fun c => no (fun z => (hrt.mp z).1 c)) (fun c => ?_)
    refine BX7_back_34 (by rw [mul3', nI_add]; exact vp_in_nI (by omega) (by decide)) ?_
    rw [mul3', nI_add, nI_clamp (by omega)]
    refine IX7_back_58 (fun c2 => no (fun z => absurd c2 (Int32.not_lt.mpr (hrt.mp z).2))) (fun c2 => ?_)
    refine BX7_back_61 ?_
    have : r = 1 := hr.elim (fun z => z.2) (fun z => absurd (hrt.mpr ⟨c, Int32.not_lt.mp c2⟩) z.1)
    subst this
    exact K
theorem sm_backB {x w q : Int32} (hx : x < 0 ∨ I 136 4 ≤ x) : Mt (d + 1) mX7_back [.ref 136, .int x, .int w, .int q] I J (RV (tw I 1) J) := by
  refine Mt.of (by decide +kernel) (Nat.le_of_ble_eq_true rfl) ?_
  refine BX7_back_0  ?_
  refine CX7_back_2 (sm_isGate0 hx) (Nat.zero_le _) (fun v2 I2 J2 q2 => ?_)
  obtain ⟨rfl, rfl, rfl⟩ := q2
  refine IX7_back_5 (fun c5 => ?_) (fun c5 => absurd c5 (fun z => z rfl))
  refine BX7_back_21  ?_
  refine BX7_back_22  ?_
  refine IX7_back_26 (fun c26 => ?_) (fun c26 => absurd c26 (fun z => z (by decide)))
  refine BX7_back_65  ?_
  refine BX7_back_66  ?_
  refine CX7_back_71 (sm_isGate0 hx) (Nat.zero_le _) (fun v71 I71 J71 q71 => ?_)
  obtain ⟨rfl, rfl, rfl⟩ := q71
  refine IX7_back_74 (fun c74 => absurd c74 (fun z => z rfl)) (fun c74 => ?_)
  refine BX7_back_77  ?_
  refine BX7_back_116  ?_
  refine IX7_back_123 (fun c123 => ?_) (fun c123 => absurd c123 (fun z => z (by rw [up2_s]; decide)))
  exact RX7_back_151  (Nat.zero_le _) ⟨_, rfl, ⟨rfl, rfl, rfl⟩⟩
theorem sm_backS (hG : I 136 4 = nI G) (hG8 : G ≤ 8) (hx : x < G) {w q : Int32} (hu : ¬ I 143 x = 0) : Mt (d + 1) mX7_back [.ref 136, .int (nI x), .int w, .int q] I J (RV (tw I 2) J) := by
  refine Mt.of (by decide +kernel) (Nat.le_of_ble_eq_true rfl) ?_
  have fin : ∀ r : Int32, Ev (d + 1) 0 0 (fun _ => 0) mX7_back 66 [some (.ref 136), some (.int (nI x)), some (.int w), some (.int q), some (.int (whI w (I 142 x))), none] [.int r] I J 0 (fun o I' J' _ => ∃ v, o = .inl v ∧ RV (tw I 2) J v I' J') := fun r => by
    refine BX7_back_66  ?_
    refine CX7_back_71 (sm_isGate hG hG8 hx) (Nat.zero_le _) (fun v71 I71 J71 q71 => ?_)
    obtain ⟨rfl, rfl, rfl⟩ := q71
    refine IX7_back_74 (fun c74 => ?_) (fun c74 => absurd c74 (fun z => z (by decide)))
    refine BX7_back_81 (vp_in_nI (show x < 8 by omega) (by decide)) ?_
    refine IX7_back_87 (fun c87 => absurd c87 (fun z => hu (by rw [nI_clamp (by omega)] at z; exact z))) (fun c87 => ?_)
    refine BX7_back_90  ?_
    refine BX7_back_116  ?_
    refine IX7_back_123 (fun c123 => ?_) (fun c123 => absurd c123 (fun z => z (by rw [up2_s]; decide)))
    exact RX7_back_151  (Nat.zero_le _) ⟨_, rfl, ⟨rfl, rfl, rfl⟩⟩
  by_cases c : rtM I x w q
  · exact bk_mid hG hG8 hx (Or.inl ⟨c, rfl⟩) (fin 1)
  · exact bk_mid hG hG8 hx (Or.inr ⟨c, rfl⟩) (fin 0)
theorem sm_backA (hG : I 136 4 = nI G) (hG8 : G ≤ 8) (hx : x < G) {w q : Int32} (hu : I 143 x = 0) (h : ¬ rtM I x w q) : Mt (d + 1) mX7_back [.ref 136, .int (nI x), .int w, .int q] I J (RV (tw I 3) J) := by
  refine Mt.of (by decide +kernel) (Nat.le_of_ble_eq_true rfl) ?_
  refine bk_mid hG hG8 hx (Or.inr ⟨h, rfl⟩) ?_
  refine BX7_back_66  ?_
  refine CX7_back_71 (sm_isGate hG hG8 hx) (Nat.zero_le _) (fun v71 I71 J71 q71 => ?_)
  obtain ⟨rfl, rfl, rfl⟩ := q71
  refine IX7_back_74 (fun c74 => ?_) (fun c74 => absurd c74 (fun z => z (by decide)))
  refine BX7_back_81 (vp_in_nI (show x < 8 by omega) (by decide)) ?_
  refine IX7_back_87 (fun c87 => ?_) (fun c87 => absurd c87 (fun z => z (by rw [nI_clamp (by omega)]; exact hu)))
  refine BX7_back_94  ?_
  refine IX7_back_96 (fun c96 => absurd c96 (fun z => z rfl)) (fun c96 => ?_)
  refine BX7_back_99  ?_
  refine BX7_back_116  ?_
  refine IX7_back_123 (fun c123 => ?_) (fun c123 => absurd c123 (fun z => z (by rw [up2_s]; decide)))
  exact RX7_back_151  (Nat.zero_le _) ⟨_, rfl, ⟨rfl, rfl, rfl⟩⟩
theorem sm_backU (hG : I 136 4 = nI G) (hG8 : G ≤ 8) (hx : x < G) {w q : Int32} (hu : I 143 x = 0) (h : rtM I x w q) (ho : ¬ I 148 x < 50) : Mt (d + 1) mX7_back [.ref 136, .int (nI x), .int w, .int q] I J (RV (tw I 4) J) := by
  refine Mt.of (by decide +kernel) (Nat.le_of_ble_eq_true rfl) ?_
  have hc : csM I x = 0 := if_neg ho
  refine bk_mid hG hG8 hx (Or.inl ⟨h, rfl⟩) ?_
  refine BX7_back_66  ?_
  refine CX7_back_71 (sm_isGate hG hG8 hx) (Nat.zero_le _) (fun v71 I71 J71 q71 => ?_)
  obtain ⟨rfl, rfl, rfl⟩ := q71
  refine IX7_back_74 (fun c74 => ?_) (fun c74 => absurd c74 (fun z => z (by decide)))
  refine BX7_back_81 (vp_in_nI (show x < 8 by omega) (by decide)) ?_
  refine IX7_back_87 (fun c87 => ?_) (fun c87 => absurd c87 (fun z => z (by rw [nI_clamp (by omega)]; exact hu)))
  refine BX7_back_94  ?_
  refine IX7_back_96 (fun c96 => ?_) (fun c96 => absurd c96 (fun z => z (by decide)))
  refine BX7_back_103  ?_
  refine CX7_back_105 (sm_canSend (show x < 16 by omega)) (Nat.zero_le _) (fun v105 I105 J105 q105 => ?_)
  obtain ⟨rfl, rfl, rfl⟩ := q105
  refine IX7_back_108 (fun c108 => absurd c108 (fun z => z hc)) (fun c108 => ?_)
  refine BX7_back_111  ?_
  refine BX7_back_116  ?_
  refine IX7_back_123 (fun c123 => ?_) (fun c123 => absurd c123 (fun z => z (by rw [up2_s]; decide)))
  exact RX7_back_151  (Nat.zero_le _) ⟨_, rfl, ⟨rfl, rfl, rfl⟩⟩
theorem sm_back (hm : MOk I) (hG : I 136 4 = nI G) (hG8 : G ≤ 8) (hx : x < G) {w q : Int32} {j : Nat} (hu : I 143 x = 0) (h : rtM I x w q) (hj : whI w (I 142 x) = nI j) (hj3 : j < 3) (ho : I 148 x < 50) : Mt (d + 2) mX7_back [.ref 136, .int (nI x), .int w, .int q] I J (RV (sM (up2 (tw I 0) 144 (3 * x + j) (I 144 (3 * x + j) - q)) x 1 (nI x) w q 0) J) := by
  obtain ⟨⟨n, n1, n2⟩, hl⟩ := id hm
  obtain ⟨⟨s, s1, s2⟩, k, k1, k2⟩ := hl x (by omega)
  have hk50 : k < 50 := by
    rw [k2] at ho
    exact (nI_ltI (b := 50) (by omega) (by decide)).mp ho
  refine Mt.of (by decide +kernel) (Nat.le_of_ble_eq_true rfl) ?_
  have hc : csM I x = 1 := if_pos ho
  refine bk_mid hG hG8 hx (Or.inl ⟨h, rfl⟩) ?_
  rw [hj]
  refine BX7_back_66 ?_
  refine CX7_back_71 (sm_isGate hG hG8 hx) (Nat.zero_le _) (fun v I1 J1 q1 => ?_)
  obtain ⟨rfl, rfl, rfl⟩ := q1
  refine IX7_back_74 (fun _ => ?_) (fun z => absurd (by decide) z)
  refine BX7_back_81 (vp_in_nI (show x < 8 by omega) (by decide)) ?_
  rw [nI_clamp (by omega)]
  refine IX7_back_87 (fun _ => ?_) (fun z => absurd hu z)
  refine BX7_back_94 ?_
  refine IX7_back_96 (fun _ => ?_) (fun z => absurd (by decide) z)
  refine BX7_back_103 ?_
  refine CX7_back_105 (sm_canSend (show x < 16 by omega)) (Nat.zero_le _) (fun v I1 J1 q1 => ?_)
  obtain ⟨rfl, rfl, rfl⟩ := q1
  rw [hc]
  refine IX7_back_108 (fun _ => ?_) (fun z => absurd (by decide) z)
  refine BX7_back_115 ?_
  refine BX7_back_116 ?_
  refine IX7_back_123 (fun z => absurd (by rw [up2_s]) z) (fun _ => ?_)
  refine BX7_back_126 (by rw [mul3', nI_add]; exact vp_in_nI (by omega) (by decide)) ?_
  rw [mul3', nI_add, nI_clamp (by omega), up2_o _ _ _ _ (show 144 ≠ 136 by decide)]
  refine CX7_back_148 (sm_send' (n := n) (s := s) (k := k) (by rw [up2_o _ _ _ _ (by decide), up2_k _ _ _ (by decide)]; exact n2) n1 (by omega) (by rw [up2_o _ _ _ _ (by decide), up2_o _ _ _ _ (by decide)]; exact s2) (by omega) (by rw [up2_o _ _ _ _ (by decide), up2_o _ _ _ _ (by decide)]; exact k2) hk50 _ _ _ _ _) (Nat.zero_le _) (fun v I1 J1 q1 => ?_)
  obtain ⟨rfl, rfl, rfl⟩ := q1
  exact RX7_back_151 (Nat.zero_le _) ⟨_, rfl, rfl, rfl, rfl⟩
theorem sm_deliverB {x : Int32} (hx : x < 0 ∨ I 136 24 ≤ x) : Mt (d + 1) mX7_deliver [.ref 136, .int x] I J (RI 0 (tw I 1) J) := by
  refine Mt.of (by decide +kernel) (Nat.le_of_ble_eq_true rfl) ?_
  refine BX7_deliver_0  ?_
  refine CX7_deliver_3 (sm_isLetter0 hx) (Nat.zero_le _) (fun v3 I3 J3 q3 => ?_)
  obtain ⟨rfl, rfl, rfl⟩ := q3
  refine IX7_deliver_6 (fun c6 => ?_) (fun c6 => absurd c6 (fun z => z rfl))
  refine BX7_deliver_13  ?_
  refine BX7_deliver_14  ?_
  refine IX7_deliver_21 (fun c21 => absurd c21 (by rw [up2_s]; decide)) (fun c21 => ?_)
  refine BX7_deliver_24  ?_
  exact RX7_deliver_33  (Nat.zero_le _) ⟨_, rfl, ⟨rfl, rfl, rfl⟩⟩
theorem sm_deliver {n i so : Nat} (hm : MOk I) (hn : I 136 24 = nI n) (hn2 : n ≤ 200) (hi : i < n) (hso : I 151 (6 * i) = nI so) (hso5 : so < 5) (hg : I 151 (6 * i + 1) = nI x) (hx : x < 8) : Mt (d + 4) mX7_deliver [.ref 136, .int (nI i)] I J (RI (cmM (tw I 0) i).1 (cmM (tw I 0) i).2 J) := by
  refine Mt.of (by decide +kernel) (Nat.le_of_ble_eq_true rfl) ?_
  have hm' : MOk (tw I 0) := MOk_e hm (tw_k 0 (by decide)) (tw_o 0 (by decide)) (tw_o 0 (by decide))
  refine BX7_deliver_0  ?_
  refine CX7_deliver_3 (sm_isLetter hn hn2 hi) (Nat.zero_le _) (fun v3 I3 J3 q3 => ?_)
  obtain ⟨rfl, rfl, rfl⟩ := q3
  refine IX7_deliver_6 (fun c6 => absurd c6 (by decide)) (fun c6 => ?_)
  refine BX7_deliver_9  ?_
  refine BX7_deliver_14  ?_
  refine IX7_deliver_21 (fun c21 => ?_) (fun c21 => absurd c21 (fun z => z (by rw [up2_s]; decide)))
  refine BX7_deliver_28  ?_
  refine CX7_deliver_30 (sm_come hm' (by rw [up2_k _ _ _ (by decide)]; exact hn) hn2 hi (by rw [up2_o _ _ _ _ (by decide)]; exact hso) hso5 (by rw [up2_o _ _ _ _ (by decide)]; exact hg) hx) (Nat.zero_le _) (fun v30 I30 J30 q30 => ?_)
  obtain ⟨rfl, rfl, rfl⟩ := q30
  exact RX7_deliver_33  (Nat.zero_le _) ⟨_, rfl, ⟨rfl, rfl, rfl⟩⟩
theorem sm_delAll {n : Nat} (hn : n ≤ 1000) (P : Nat → T2 → Prop) (h0 : P 0 (tw I 0)) (hsz : ∀ k I1, P k I1 → I1 136 0 = 0 ∧ ∃ m, m ≤ 200 ∧ I1 136 24 = nI m) (hst : ∀ k I1, P k I1 → I1 136 24 ≠ 0 → Mt (d + 3) mX7_come [.ref 136, .int (nI 0)] I1 J (fun v I' J' => (∃ r, v = some (.int r)) ∧ P (k + 1) I' ∧ J = J')) : Mt (d + 4) mX7_deliverAll [.ref 136, .int (nI n)] I J (fun v I' J' => J = J' ∧ ∃ k, k ≤ n ∧ v = some (.int (nI k)) ∧ P k I' ∧ (k = n ∨ I' 136 24 = 0)) := by
  refine Mt.of (by decide +kernel) (Nat.le_of_ble_eq_true rfl) ?_
  refine BX7_deliverAll_0 ?_
  refine IX7_deliverAll_2 (fun c => absurd c (nI_pos (by omega))) (fun c => ?_)
  refine BX7_deliverAll_5 ?_
  refine IX7_deliverAll_9 (fun c => absurd c (nI_nlt (a := 1000) hn (by decide))) (fun c => ?_)
  refine BX7_deliverAll_12 ?_
  refine BX7_deliverAll_17 ?_
  have key : ∀ q k : Nat, k + q = n → ∀ I1 : T2, P k I1 → Ev (d + 4) 0 0 (fun _ => 0) mX7_deliverAll 22 [some (.ref 136), some (.int (nI n)), some (.int (nI k))] [] I1 J 0 (fun o I' J' _ => ∃ w, o = .inl w ∧ J = J' ∧ ∃ k, k ≤ n ∧ w = some (.int (nI k)) ∧ P k I' ∧ (k = n ∨ I' 136 24 = 0)) := by
    intro q
    induction q with
    | zero =>
      intro k hk I1 hp
      obtain ⟨m0, m, m1, m2⟩ := hsz k I1 hp
      refine BX7_deliverAll_22 ?_
      rw [m0]
      refine IX7_deliverAll_26 (fun z => absurd rfl z) (fun _ => ?_)
      refine BX7_deliverAll_29 ?_
      refine IX7_deliverAll_31 (fun c => ?_) (fun c => absurd (nI_le (by omega) (by omega)) c)
      refine BX7_deliverAll_53 ?_
      exact RX7_deliverAll_54 (Nat.zero_le _) ⟨_, rfl, rfl, k, by omega, rfl, hp, Or.inl (by omega)⟩
    | succ q ih =>
      intro k hk I1 hp
      obtain ⟨m0, m, m1, m2⟩ := hsz k I1 hp
      refine BX7_deliverAll_22 ?_
      rw [m0]
      refine IX7_deliverAll_26 (fun z => absurd rfl z) (fun _ => ?_)
      refine BX7_deliverAll_29 ?_
      refine IX7_deliverAll_31 (fun c => absurd c (nI_ge (by omega) (by omega))) (fun c => ?_)
      refine BX7_deliverAll_34 ?_
      refine IX7_deliverAll_38 (fun c => ?_) (fun c => ?_)
      · rw [m2] at c
        have cz := (nI_leI (a := m) (b := 0) (by omega) (by decide)).mp c
        refine BX7_deliverAll_53 ?_
        exact RX7_deliverAll_54 (Nat.zero_le _) ⟨_, rfl, rfl, k, by omega, rfl, hp, Or.inr (by rw [m2, show m = 0 by omega]; rfl)⟩
      · refine BX7_deliverAll_41 ?_
        refine CX7_deliverAll_43 (hst k I1 hp (fun z => c (by rw [z]; decide))) (Nat.zero_le _) (fun v I2 J2 q2 => ?_)
        obtain ⟨⟨r, rfl⟩, q3, rfl⟩ := q2
        refine BX7_deliverAll_46 ?_
        rw [nI_1]
        exact ih (k + 1) (by omega) I2 q3
  exact key n 0 (Nat.zero_add _) _ h0
theorem sm_delAllT {x : Int32} (h : x < 0 ∨ ¬ x ≤ 1000) : Mt (d + 1) mX7_deliverAll [.ref 136, .int x] I J (RI 0 (tw I 1) J) := by
  refine Mt.of (by decide +kernel) (Nat.le_of_ble_eq_true rfl) ?_
  refine BX7_deliverAll_0  ?_
  refine IX7_deliverAll_2 (fun c2 => ?_) (fun c2 => ?_)
  · skip
    refine BX7_deliverAll_16  ?_
    refine BX7_deliverAll_17  ?_
    refine BX7_deliverAll_22  ?_
    refine IX7_deliverAll_26 (fun c26 => ?_) (fun c26 => absurd c26 (fun z => z (by rw [up2_s]; decide)))
    refine BX7_deliverAll_53  ?_
    exact RX7_deliverAll_54  (Nat.zero_le _) ⟨_, rfl, ⟨rfl, rfl, rfl⟩⟩
  · skip
    refine BX7_deliverAll_5  ?_
    refine IX7_deliverAll_9 (fun c9 => ?_) (fun c9 => absurd c9 (fun z => h.elim (fun y => c2 y) (fun y => y (Int32.not_lt.mp z))))
    refine BX7_deliverAll_16  ?_
    refine BX7_deliverAll_17  ?_
    refine BX7_deliverAll_22  ?_
    refine IX7_deliverAll_26 (fun c26 => ?_) (fun c26 => absurd c26 (fun z => z (by rw [up2_s]; decide)))
    refine BX7_deliverAll_53  ?_
    exact RX7_deliverAll_54  (Nat.zero_le _) ⟨_, rfl, ⟨rfl, rfl, rfl⟩⟩
theorem sm_errorB {x e : Int32} (hx : x < 0 ∨ I 136 4 ≤ x) : Mt (d + 2) mX7_error [.ref 136, .int x, .int e] I J (RV (tw I 1) J) := by
  refine Mt.of (by decide +kernel) (Nat.le_of_ble_eq_true rfl) ?_
  refine BX7_error_0  ?_
  refine CX7_error_3 (sm_isGate0 hx) (Nat.zero_le _) (fun v3 I3 J3 q3 => ?_)
  obtain ⟨rfl, rfl, rfl⟩ := q3
  refine IX7_error_6 (fun c6 => absurd c6 (fun z => z rfl)) (fun c6 => ?_)
  refine BX7_error_9  ?_
  refine BX7_error_35  ?_
  refine IX7_error_42 (fun c42 => ?_) (fun c42 => absurd c42 (fun z => z (by rw [up2_s]; decide)))
  exact RX7_error_57  (Nat.zero_le _) ⟨_, rfl, ⟨rfl, rfl, rfl⟩⟩
theorem sm_errorT (hG : I 136 4 = nI G) (hG8 : G ≤ 8) (hx : x < G) {e : Int32} (h : e < -(I 136 3) ∨ ¬ e ≤ I 136 3) : Mt (d + 2) mX7_error [.ref 136, .int (nI x), .int e] I J (RV (tw I 2) J) := by
  refine Mt.of (by decide +kernel) (Nat.le_of_ble_eq_true rfl) ?_
  refine BX7_error_0  ?_
  refine CX7_error_3 (sm_isGate hG hG8 hx) (Nat.zero_le _) (fun v3 I3 J3 q3 => ?_)
  obtain ⟨rfl, rfl, rfl⟩ := q3
  refine IX7_error_6 (fun c6 => ?_) (fun c6 => absurd c6 (fun z => z (by decide)))
  refine BX7_error_13  ?_
  refine IX7_error_19 (fun c19 => ?_) (fun c19 => ?_)
  · skip
    refine BX7_error_30  ?_
    refine BX7_error_35  ?_
    refine IX7_error_42 (fun c42 => ?_) (fun c42 => absurd c42 (fun z => z (by rw [up2_s]; decide)))
    exact RX7_error_57  (Nat.zero_le _) ⟨_, rfl, ⟨rfl, rfl, rfl⟩⟩
  · skip
    refine BX7_error_22  ?_
    refine IX7_error_27 (fun c27 => absurd c27 (fun z => h.elim (fun y => c19 y) (fun y => y z))) (fun c27 => ?_)
    refine BX7_error_30  ?_
    refine BX7_error_35  ?_
    refine IX7_error_42 (fun c42 => ?_) (fun c42 => absurd c42 (fun z => z (by rw [up2_s]; decide)))
    exact RX7_error_57  (Nat.zero_le _) ⟨_, rfl, ⟨rfl, rfl, rfl⟩⟩
def erM (I : T2) (x : Nat) (e : Int32) : T2 := up2 (tw I 0) 140 x e
theorem sm_error (hG : I 136 4 = nI G) (hG8 : G ≤ 8) (hx : x < G) {e : Int32} {wd nx : Nat} (h1 : ¬ e < -(I 136 3)) (h2 : e ≤ I 136 3) (hl : ¬ (I 136 2).toInt64 = 0) (hw : I 142 x = nI wd) (hn : (clM (erM I x e) J x / (I 136 2).toInt64).toInt32 = nI nx) (hle : wd ≤ nx) (hnx : nx < 2 ^ 30) : Mt (d + 2) mX7_error [.ref 136, .int (nI x), .int e] I J (RV (tiM (erM I x e) x (nx - wd) (nI nx)) (up3 J 141 x (clM (erM I x e) J x))) := by
  refine Mt.of (by decide +kernel) (Nat.le_of_ble_eq_true rfl) ?_
  refine BX7_error_0 ?_
  refine CX7_error_3 (sm_isGate hG hG8 hx) (Nat.zero_le _) (fun v I1 J1 q1 => ?_)
  obtain ⟨rfl, rfl, rfl⟩ := q1
  refine IX7_error_6 (fun _ => ?_) (fun z => absurd (by decide) z)
  refine BX7_error_13 ?_
  refine IX7_error_19 (fun z => absurd z h1) (fun _ => ?_)
  refine BX7_error_22 ?_
  refine IX7_error_27 (fun _ => ?_) (fun z => absurd h2 z)
  refine BX7_error_34 ?_
  refine BX7_error_35 ?_
  refine IX7_error_42 (fun z => absurd (by rw [up2_s]) z) (fun _ => ?_)
  refine BX7_error_45 (vp_in_nI (show x < 8 by omega) (by decide)) ?_
  rw [nI_clamp (by omega)]
  have e136 : erM I x e 136 2 = I 136 2 := by unfold erM; rw [up2_o _ _ _ _ (by decide), tw_k 0 (by decide)]
  have e142 : erM I x e 142 x = nI wd := by unfold erM; rw [up2_o _ _ _ _ (by decide), tw_o 0 (by decide)]; exact hw
  refine CX7_error_54 (sm_tick (I := erM I x e) (by omega) (by rw [e136]; exact hl) e142 (by rw [e136]; exact hn) hle hnx) (Nat.zero_le _) (fun v I1 J1 q1 => ?_)
  obtain ⟨rfl, rfl, rfl⟩ := q1
  exact RX7_error_57 (Nat.zero_le _) ⟨_, rfl, rfl, rfl, rfl⟩
theorem sm_passT {x : Int32} (h : x < 0 ∨ ¬ x ≤ 1000000) : Mt (d + 2) mX7_pass [.ref 136, .int x] I J (RV (tw I 1) J) := by
  refine Mt.of (by decide +kernel) (Nat.le_of_ble_eq_true rfl) ?_
  refine BX7_pass_0  ?_
  refine IX7_pass_2 (fun c2 => ?_) (fun c2 => ?_)
  · skip
    refine BX7_pass_15  ?_
    refine BX7_pass_16  ?_
    refine IX7_pass_23 (fun c23 => absurd c23 (by rw [up2_s]; decide)) (fun c23 => ?_)
    exact RX7_pass_26  (Nat.zero_le _) ⟨_, rfl, ⟨rfl, rfl, rfl⟩⟩
  · skip
    refine BX7_pass_5  ?_
    refine IX7_pass_8 (fun c8 => ?_) (fun c8 => absurd c8 (fun z => h.elim (fun y => c2 y) (fun y => y (Int32.not_lt.mp z))))
    refine BX7_pass_15  ?_
    refine BX7_pass_16  ?_
    refine IX7_pass_23 (fun c23 => absurd c23 (by rw [up2_s]; decide)) (fun c23 => ?_)
    exact RX7_pass_26  (Nat.zero_le _) ⟨_, rfl, ⟨rfl, rfl, rfl⟩⟩
end RF5

