/-! QuotaDesk's own: refusals and what only reads -/
abbrev eIA : String := "java/lang/IllegalArgumentException"
abbrev eIB : String := "java/lang/IndexOutOfBoundsException"
abbrev eIS : String := "java/lang/IllegalStateException"
abbrev eUO : String := "java/lang/UnsupportedOperationException"
/-- the place of gate x -/
abbrev gP (x : Nat) : Nat := 24 + 14 * x
theorem v6_0 : vp_in (0 : Int32) 6 := vp_in_nI (show 0 < 6 by decide) (by decide)
theorem v6_1 : vp_in (1 : Int32) 6 := vp_in_nI (show 1 < 6 by decide) (by decide)
theorem v6_2 : vp_in (2 : Int32) 6 := vp_in_nI (show 2 < 6 by decide) (by decide)
theorem v6_3 : vp_in (3 : Int32) 6 := vp_in_nI (show 3 < 6 by decide) (by decide)
theorem v6_4 : vp_in (4 : Int32) 6 := vp_in_nI (show 4 < 6 by decide) (by decide)
theorem v6_5 : vp_in (5 : Int32) 6 := vp_in_nI (show 5 < 6 by decide) (by decide)
theorem t6_0 : (0 : Int32).toNatClampNeg = 0 := by decide
theorem t6_1 : (1 : Int32).toNatClampNeg = 1 := by decide
theorem t6_2 : (2 : Int32).toNatClampNeg = 2 := by decide
theorem t6_3 : (3 : Int32).toNatClampNeg = 3 := by decide
theorem t6_4 : (4 : Int32).toNatClampNeg = 4 := by decide
theorem t6_5 : (5 : Int32).toNatClampNeg = 5 := by decide
section DK
variable {d : Nat} {I : T2} {J : T3}
theorem sp_gateAt {G x : Nat} (hG : I 0 7 = nI G) (hG8 : G ≤ 8) (hx : x < G) : Mt d mX6_gateAt [.ref 0, .int (nI x)] I J (fun v I' J' => v = some (.ref (gP x)) ∧ I = I' ∧ J = J') := by
  refine Mt.of (by decide +kernel) (Nat.le_of_ble_eq_true rfl) ?_
  refine BX6_gateAt_0 ?_
  refine IX6_gateAt_1 (fun c => absurd c (nI_pos (by omega))) (fun c => ?_)
  refine BX6_gateAt_4 ?_
  refine IX6_gateAt_9 (fun c => ?_) (fun c => absurd (by rw [hG]; exact nI_lt hx (by omega)) c)
  refine BX6_gateAt_20 (vp_in_nI (by omega) (by decide)) ?_
  rw [nI_clamp (by omega)]
  exact RX6_gateAt_26 (Nat.zero_le _) ⟨_, rfl, rfl, rfl, rfl⟩
theorem sp_gateAtT {x : Int32} (hx : x < 0 ∨ I 0 7 ≤ x) : Mth (d + 3) mX6_gateAt [.ref 0, .int x] I J eIB := by
  refine Mth.of (by decide +kernel) (Nat.le_of_ble_eq_true rfl) ?_
  refine BX6_gateAt_0  ?_
  refine IX6_gateAt_1 (fun c1 => ?_) (fun c1 => ?_)
  · skip
    exact TX6_gateAt_12 (by omega) (Nat.le_refl _) ⟨rfl, rfl, rfl⟩
  · skip
    refine BX6_gateAt_4  ?_
    refine IX6_gateAt_9 (fun c9 => absurd c9 (fun z => hx.elim (fun y => c1 y) (fun y => absurd z (Int32.not_lt.mpr y)))) (fun c9 => ?_)
    exact TX6_gateAt_12 (by omega) (Nat.le_refl _) ⟨rfl, rfl, rfl⟩
theorem sp_mustHave {n i : Nat} (hn : I 12 2 = nI n) (hn2 : n ≤ 200) (hi : i < n) : Mt d mX6_mustHaveLetter [.ref 0, .int (nI i)] I J (RV I J) := by
  refine Mt.of (by decide +kernel) (Nat.le_of_ble_eq_true rfl) ?_
  refine BX6_mustHaveLetter_0  ?_
  refine IX6_mustHaveLetter_1 (fun c1 => absurd c1 (nI_pos (by omega))) (fun c1 => ?_)
  refine BX6_mustHaveLetter_4  ?_
  refine IX6_mustHaveLetter_12 (fun c12 => ?_) (fun c12 => absurd c12 (fun z => z (by rw [hn]; exact nI_lt hi (by omega))))
  exact RX6_mustHaveLetter_23  (Nat.zero_le _) ⟨_, rfl, ⟨rfl, rfl, rfl⟩⟩
theorem sp_mustHaveT {x : Int32} (hx : x < 0 ∨ I 12 2 ≤ x) : Mth (d + 3) mX6_mustHaveLetter [.ref 0, .int x] I J eIB := by
  refine Mth.of (by decide +kernel) (Nat.le_of_ble_eq_true rfl) ?_
  refine BX6_mustHaveLetter_0  ?_
  refine IX6_mustHaveLetter_1 (fun c1 => ?_) (fun c1 => ?_)
  · skip
    exact TX6_mustHaveLetter_15 (by omega) (Nat.le_refl _) ⟨rfl, rfl, rfl⟩
  · skip
    refine BX6_mustHaveLetter_4  ?_
    refine IX6_mustHaveLetter_12 (fun c12 => absurd c12 (fun z => hx.elim (fun y => c1 y) (fun y => absurd z (Int32.not_lt.mpr y)))) (fun c12 => ?_)
    exact TX6_mustHaveLetter_15 (by omega) (Nat.le_refl _) ⟨rfl, rfl, rfl⟩
theorem sp_up {x : Int32} (hx : ¬ x = 0) : Mt d mX6_mustBeUp [.int x] I J (RV I J) := by
  refine Mt.of (by decide +kernel) (Nat.le_of_ble_eq_true rfl) ?_
  refine BX6_mustBeUp_0  ?_
  refine IX6_mustBeUp_1 (fun c1 => ?_) (fun c1 => absurd c1 (fun z => z hx))
  exact RX6_mustBeUp_12  (Nat.zero_le _) ⟨_, rfl, ⟨rfl, rfl, rfl⟩⟩
theorem sp_upT : Mth (d + 3) mX6_mustBeUp [.int 0] I J eIS := by
  refine Mth.of (by decide +kernel) (Nat.le_of_ble_eq_true rfl) ?_
  refine BX6_mustBeUp_0  ?_
  refine IX6_mustBeUp_1 (fun c1 => absurd c1 (fun z => z rfl)) (fun c1 => ?_)
  exact TX6_mustBeUp_4 (by omega) (Nat.le_refl _) ⟨rfl, rfl, rfl⟩
theorem sp_open {a : Nat} (hk : kd a = 5) (h : I a 5 - I a 6 < 50) : Mt (d + 1) mX6_mustBeOpen [.ref a] I J (RV I J) := by
  refine Mt.of (by decide +kernel) (Nat.le_of_ble_eq_true rfl) ?_
  refine BX6_mustBeOpen_0  ?_
  refine CX6_mustBeOpen_1 (by assumption) (sp_isShut hk) (Nat.zero_le _) (fun v1 I1 J1 q1 => ?_)
  obtain ⟨rfl, rfl, rfl⟩ := q1
  refine IX6_mustBeOpen_4 (fun c4 => ?_) (fun c4 => absurd c4 (fun z => z (if_pos h)))
  exact RX6_mustBeOpen_15  (Nat.zero_le _) ⟨_, rfl, ⟨rfl, rfl, rfl⟩⟩
theorem sp_openT {a : Nat} (hk : kd a = 5) (h : ¬ I a 5 - I a 6 < 50) : Mth (d + 3) mX6_mustBeOpen [.ref a] I J eUO := by
  refine Mth.of (by decide +kernel) (Nat.le_of_ble_eq_true rfl) ?_
  refine BX6_mustBeOpen_0 ?_
  refine CX6_mustBeOpen_1 hk (sp_isShut hk) (Nat.zero_le _) (fun v I1 J1 q1 => ?_)
  obtain ⟨rfl, rfl, rfl⟩ := q1
  have e : shC I a = 1 := if_neg h
  rw [e]
  refine IX6_mustBeOpen_4 (fun c4 => absurd c4 (by decide)) (fun c4 => ?_)
  exact TX6_mustBeOpen_7 (by omega) (Nat.le_refl _) ⟨rfl, rfl, rfl⟩
theorem sp_rule {x : Int32} (h : ¬ x < 0) (h2 : x ≤ 2) : Mt d mX6_rule [.ref 0, .int x] I J (RV (up2 I 2 5 x) J) := by
  refine Mt.of (by decide +kernel) (Nat.le_of_ble_eq_true rfl) ?_
  refine BX6_rule_0  ?_
  refine IX6_rule_1 (fun c1 => absurd c1 h) (fun c1 => ?_)
  refine BX6_rule_4  ?_
  refine IX6_rule_6 (fun c6 => ?_) (fun c6 => absurd c6 (fun z => z h2))
  refine BX6_rule_17  ?_
  exact RX6_rule_25  (Nat.zero_le _) ⟨_, rfl, ⟨rfl, rfl, rfl⟩⟩
theorem sp_ruleT {x : Int32} (h : x < 0 ∨ ¬ x ≤ 2) : Mth (d + 3) mX6_rule [.ref 0, .int x] I J eIA := by
  refine Mth.of (by decide +kernel) (Nat.le_of_ble_eq_true rfl) ?_
  refine BX6_rule_0  ?_
  refine IX6_rule_1 (fun c1 => ?_) (fun c1 => ?_)
  · skip
    exact TX6_rule_9 (by omega) (Nat.le_refl _) ⟨rfl, rfl, rfl⟩
  · skip
    refine BX6_rule_4  ?_
    refine IX6_rule_6 (fun c6 => absurd c6 (fun z => h.elim (fun y => c1 y) (fun y => y z))) (fun c6 => ?_)
    exact TX6_rule_9 (by omega) (Nat.le_refl _) ⟨rfl, rfl, rfl⟩
variable {G x : Nat}
theorem sp_crash (hG : I 0 7 = nI G) (hG8 : G ≤ 8) (hx : x < G) (hu : ¬ I (gP x) 8 = 0) : Mt (d + 1) mX6_crash [.ref 0, .int (nI x)] I J (RV (up2 I (gP x) 8 0) J) := by
  refine Mt.of (by decide +kernel) (Nat.le_of_ble_eq_true rfl) ?_
  have hk : kd (gP x) = 1 := kgt (by omega)
  refine BX6_crash_0  ?_
  refine CX6_crash_2 (sp_gateAt hG hG8 hx) (Nat.zero_le _) (fun v2 I2 J2 q2 => ?_)
  obtain ⟨rfl, rfl, rfl⟩ := q2
  refine BX6_crash_5 (by assumption) ?_
  refine CX6_crash_10 (sp_up hu) (Nat.zero_le _) (fun v10 I10 J10 q10 => ?_)
  obtain ⟨rfl, rfl, rfl⟩ := q10
  refine BX6_crash_13 (by assumption) ?_
  exact RX6_crash_18  (Nat.zero_le _) ⟨_, rfl, ⟨rfl, rfl, rfl⟩⟩
theorem sp_crashT (hG : I 0 7 = nI G) (hG8 : G ≤ 8) (hx : x < G) (hu : I (gP x) 8 = 0) : Mth (d + 4) mX6_crash [.ref 0, .int (nI x)] I J eIS := by
  refine Mth.of (by decide +kernel) (Nat.le_of_ble_eq_true rfl) ?_
  have hk : kd (gP x) = 1 := kgt (by omega)
  refine BX6_crash_0 ?_
  refine CX6_crash_2 (sp_gateAt hG hG8 hx) (Nat.zero_le _) (fun v I1 J1 q1 => ?_)
  obtain ⟨rfl, rfl, rfl⟩ := q1
  refine BX6_crash_5 hk ?_
  rw [hu]
  exact XX6_crash_10 sp_upT (Nat.le_refl _) ⟨rfl, rfl, rfl⟩
theorem sp_crashB {x : Int32} (hx : x < 0 ∨ I 0 7 ≤ x) : Mth (d + 4) mX6_crash [.ref 0, .int x] I J eIB := by
  refine Mth.of (by decide +kernel) (Nat.le_of_ble_eq_true rfl) ?_
  refine BX6_crash_0  ?_
  exact XX6_crash_2 (sp_gateAtT hx) (Nat.le_refl _) ⟨rfl, rfl, rfl⟩
theorem sp_restart0 (hG : I 0 7 = nI G) (hG8 : G ≤ 8) (hx : x < G) (hu : ¬ I (gP x) 8 = 0) : Mt (d + 1) mX6_restart [.ref 0, .int (nI x)] I J (RI 0 I J) := by
  refine Mt.of (by decide +kernel) (Nat.le_of_ble_eq_true rfl) ?_
  have hk : kd (gP x) = 1 := kgt (by omega)
  refine BX6_restart_0  ?_
  refine CX6_restart_2 (sp_gateAt hG hG8 hx) (Nat.zero_le _) (fun v2 I2 J2 q2 => ?_)
  obtain ⟨rfl, rfl, rfl⟩ := q2
  refine BX6_restart_5 (by assumption) ?_
  refine IX6_restart_10 (fun c10 => absurd c10 hu) (fun c10 => ?_)
  refine BX6_restart_13  ?_
  exact RX6_restart_14 (by first | exact Or.inl rfl | exact Or.inr rfl) (Nat.zero_le _) ⟨_, rfl, ⟨rfl, rfl, rfl⟩⟩
theorem sp_restart1 (hG : I 0 7 = nI G) (hG8 : G ≤ 8) (hx : x < G) (hu : I (gP x) 8 = 0) : Mt (d + 1) mX6_restart [.ref 0, .int (nI x)] I J (RI 1 (cuC I (gP x)) J) := by
  refine Mt.of (by decide +kernel) (Nat.le_of_ble_eq_true rfl) ?_
  have hk : kd (gP x) = 1 := kgt (by omega)
  refine BX6_restart_0  ?_
  refine CX6_restart_2 (sp_gateAt hG hG8 hx) (Nat.zero_le _) (fun v2 I2 J2 q2 => ?_)
  obtain ⟨rfl, rfl, rfl⟩ := q2
  refine BX6_restart_5 (by assumption) ?_
  refine IX6_restart_10 (fun c10 => ?_) (fun c10 => absurd c10 (fun z => z hu))
  refine BX6_restart_15  ?_
  refine CX6_restart_16 (by assumption) (sp_comeUp hk) (Nat.zero_le _) (fun v16 I16 J16 q16 => ?_)
  obtain ⟨rfl, rfl, rfl⟩ := q16
  refine BX6_restart_19  ?_
  exact RX6_restart_20 (by first | exact Or.inl rfl | exact Or.inr rfl) (Nat.zero_le _) ⟨_, rfl, ⟨rfl, rfl, rfl⟩⟩
theorem sp_restartB {x : Int32} (hx : x < 0 ∨ I 0 7 ≤ x) : Mth (d + 4) mX6_restart [.ref 0, .int x] I J eIB := by
  refine Mth.of (by decide +kernel) (Nat.le_of_ble_eq_true rfl) ?_
  refine BX6_restart_0  ?_
  exact XX6_restart_2 (sp_gateAtT hx) (Nat.le_refl _) ⟨rfl, rfl, rfl⟩
theorem sp_desk0 {b : Int32} (h : ¬ I 2 6 = b) : Mt (d + 2) mX6_desk [.ref 0, .int b] I J (RI 0 I J) := by
  refine Mt.of (by decide +kernel) (Nat.le_of_ble_eq_true rfl) ?_
  refine BX6_desk_0  ?_
  refine IX6_desk_8 (fun c8 => absurd c8 h) (fun c8 => ?_)
  refine BX6_desk_11  ?_
  exact RX6_desk_12 (by first | exact Or.inl rfl | exact Or.inr rfl) (Nat.zero_le _) ⟨_, rfl, ⟨rfl, rfl, rfl⟩⟩
theorem sp_desk1 (h : I 2 6 = 1) : Mt (d + 2) mX6_desk [.ref 0, .int 1] I J (RI 1 (fgC (up2 I 2 6 0) 3) J) := by
  refine Mt.of (by decide +kernel) (Nat.le_of_ble_eq_true rfl) ?_
  refine BX6_desk_0  ?_
  refine IX6_desk_8 (fun c8 => ?_) (fun c8 => absurd c8 (fun z => z h))
  refine BX6_desk_13  ?_
  refine IX6_desk_18 (fun c18 => ?_) (fun c18 => absurd c18 (fun z => z (by decide)))
  refine BX6_desk_25  ?_
  refine BX6_desk_26 (Or.inl rfl) ?_
  refine IX6_desk_30 (fun c30 => absurd c30 (by decide)) (fun c30 => ?_)
  refine BX6_desk_33  ?_
  refine CX6_desk_37 (sp_forget) (Nat.zero_le _) (fun v37 I37 J37 q37 => ?_)
  obtain ⟨rfl, rfl, rfl⟩ := q37
  refine BX6_desk_40  ?_
  exact RX6_desk_41 (by first | exact Or.inl rfl | exact Or.inr rfl) (Nat.zero_le _) ⟨_, rfl, ⟨rfl, rfl, rfl⟩⟩
theorem sp_desk2 (h : I 2 6 = 0) : Mt (d + 2) mX6_desk [.ref 0, .int 0] I J (RI 1 (up2 I 2 6 1) J) := by
  refine Mt.of (by decide +kernel) (Nat.le_of_ble_eq_true rfl) ?_
  refine BX6_desk_0  ?_
  refine IX6_desk_8 (fun c8 => ?_) (fun c8 => absurd c8 (fun z => z h))
  refine BX6_desk_13  ?_
  refine IX6_desk_18 (fun c18 => absurd c18 (fun z => z rfl)) (fun c18 => ?_)
  refine BX6_desk_21  ?_
  refine BX6_desk_26 (Or.inr rfl) ?_
  refine IX6_desk_30 (fun c30 => ?_) (fun c30 => absurd c30 (fun z => z rfl))
  refine BX6_desk_40  ?_
  exact RX6_desk_41 (by first | exact Or.inl rfl | exact Or.inr rfl) (Nat.zero_le _) ⟨_, rfl, ⟨rfl, rfl, rfl⟩⟩
theorem sp_there (w : Int32) : Mt (d + 1) mX6_there [.ref 0, .int w] I J (RI (if slI w (I 2 4) = -1 then 0 else I 3 (slI w (I 2 4)).toNatClampNeg) I J) := by
  refine Mt.of (by decide +kernel) (Nat.le_of_ble_eq_true rfl) ?_
  refine BX6_there_0  ?_
  refine CX6_there_8 (sp_slot w (I 2 4)) (Nat.zero_le _) (fun v8 I8 J8 q8 => ?_)
  obtain ⟨rfl, rfl, rfl⟩ := q8
  refine BX6_there_11  ?_
  refine IX6_there_14 (fun c14 => ?_) (fun c14 => ?_)
  · skip
    rw [if_neg c14]
    refine BX6_there_21 (sl_in _ _ c14) ?_
    exact RX6_there_30  (Nat.zero_le _) ⟨_, rfl, ⟨rfl, rfl, rfl⟩⟩
  · skip
    rw [if_pos (Classical.not_not.mp c14)]
    refine BX6_there_17  ?_
    exact RX6_there_30  (Nat.zero_le _) ⟨_, rfl, ⟨rfl, rfl, rfl⟩⟩
theorem sp_used (w : Int32) : Mt (d + 1) mX6_used [.ref 0, .int w] I J (RI (if icI w = 0 then 0 else I 22 w.toNatClampNeg) I J) := by
  refine Mt.of (by decide +kernel) (Nat.le_of_ble_eq_true rfl) ?_
  have g : ¬ icI w = 0 → vp_in w 200 := fun h => by
    unfold icI at h
    by_cases c : w < 0
    · rw [if_pos c] at h; exact absurd rfl h
    · rw [if_neg c] at h
      by_cases c2 : 200 ≤ w
      · rw [if_pos c2] at h; exact absurd rfl h
      · obtain ⟨j, j1, rfl⟩ := nI_of c
        have c3 : j < 200 := Nat.lt_of_not_le fun z => c2 (nI_le (a := 200) z j1)
        exact vp_in_nI c3 (by decide)
  refine BX6_used_0  ?_
  refine CX6_used_1 (sp_isC w) (Nat.zero_le _) (fun v1 I1 J1 q1 => ?_)
  obtain ⟨rfl, rfl, rfl⟩ := q1
  refine IX6_used_4 (fun c4 => ?_) (fun c4 => ?_)
  · skip
    rw [if_pos c4]
    refine BX6_used_16  ?_
    exact RX6_used_17  (Nat.zero_le _) ⟨_, rfl, ⟨rfl, rfl, rfl⟩⟩
  · skip
    rw [if_neg c4]
    refine BX6_used_7 (g c4) ?_
    exact RX6_used_17  (Nat.zero_le _) ⟨_, rfl, ⟨rfl, rfl, rfl⟩⟩
theorem sp_busiest {rs : Rw} (h : AdC I J rs) (ht : tot rs ≤ 2000) {x : Int32} (h1 : ¬ x < 1) (h2 : x ≤ 1000000) : Mt (d + 2) mX6_busiest [.ref 0, .int x] I J (RI (nI (mwA rs x.toInt64 rs.length).2) I J) := by
  refine Mt.of (by decide +kernel) (Nat.le_of_ble_eq_true rfl) ?_
  refine BX6_busiest_0  ?_
  refine IX6_busiest_2 (fun c2 => absurd c2 h1) (fun c2 => ?_)
  refine BX6_busiest_5  ?_
  refine IX6_busiest_8 (fun c8 => ?_) (fun c8 => absurd c8 (fun z => z h2))
  refine BX6_busiest_19  ?_
  refine CX6_busiest_24 (sp_most h ht x) (Nat.zero_le _) (fun v24 I24 J24 q24 => ?_)
  obtain ⟨rfl, rfl, rfl⟩ := q24
  exact RX6_busiest_27  (Nat.zero_le _) ⟨_, rfl, ⟨rfl, rfl, rfl⟩⟩
theorem sp_busiestT {x : Int32} (h : x < 1 ∨ ¬ x ≤ 1000000) : Mth (d + 3) mX6_busiest [.ref 0, .int x] I J eIA := by
  refine Mth.of (by decide +kernel) (Nat.le_of_ble_eq_true rfl) ?_
  refine BX6_busiest_0  ?_
  refine IX6_busiest_2 (fun c2 => ?_) (fun c2 => ?_)
  · skip
    exact TX6_busiest_11 (by omega) (Nat.le_refl _) ⟨rfl, rfl, rfl⟩
  · skip
    refine BX6_busiest_5  ?_
    refine IX6_busiest_8 (fun c8 => absurd c8 (fun z => h.elim (fun y => c2 y) (fun y => y z))) (fun c8 => ?_)
    exact TX6_busiest_11 (by omega) (Nat.le_refl _) ⟨rfl, rfl, rfl⟩
theorem sp_letter {f n i w : Nat} (h : PlOk I f n) (hi : i < n) (hw : w < 6) : Mt (d + 2) mX6_letter [.ref 0, .int (nI i), .int (nI w)] I J (RI (I 13 ((f + i) % 200 * 6 + w)) I J) := by
  have hn := h.2.2.2
  have e : (plA I (nI i) + nI w).toNatClampNeg = (f + i) % 200 * 6 + w := by
    rw [plA_n h (by omega), nI_add, nI_clamp (by omega)]
  rw [← e]
  refine Mt.of (by decide +kernel) (Nat.le_of_ble_eq_true rfl) ?_
  refine BX6_letter_0  ?_
  refine CX6_letter_2 (sp_mustHave h.2.1 hn hi) (Nat.zero_le _) (fun v2 I2 J2 q2 => ?_)
  obtain ⟨rfl, rfl, rfl⟩ := q2
  refine BX6_letter_5  ?_
  refine IX6_letter_6 (fun c6 => absurd c6 (nI_pos (by omega))) (fun c6 => ?_)
  refine BX6_letter_9  ?_
  refine IX6_letter_12 (fun c12 => ?_) (fun c12 => absurd c12 (fun z => z (nI_lt (b := 6) hw (by decide))))
  refine BX6_letter_23  ?_
  refine CX6_letter_29 (sp_cell (nI i) (nI w) (plA_in h (by omega) hw)) (Nat.zero_le _) (fun v29 I29 J29 q29 => ?_)
  obtain ⟨rfl, rfl, rfl⟩ := q29
  exact RX6_letter_32  (Nat.zero_le _) ⟨_, rfl, ⟨rfl, rfl, rfl⟩⟩
theorem sp_letterB {x w : Int32} (hx : x < 0 ∨ I 12 2 ≤ x) : Mth (d + 4) mX6_letter [.ref 0, .int x, .int w] I J eIB := by
  refine Mth.of (by decide +kernel) (Nat.le_of_ble_eq_true rfl) ?_
  refine BX6_letter_0  ?_
  exact XX6_letter_2 (sp_mustHaveT hx) (Nat.le_refl _) ⟨rfl, rfl, rfl⟩
theorem sp_letterT {n i : Nat} (hn : I 12 2 = nI n) (hn2 : n ≤ 200) (hi : i < n) {w : Int32} (hw : w < 0 ∨ ¬ w < 6) : Mth (d + 4) mX6_letter [.ref 0, .int (nI i), .int w] I J eIA := by
  refine Mth.of (by decide +kernel) (Nat.le_of_ble_eq_true rfl) ?_
  refine BX6_letter_0  ?_
  refine CX6_letter_2 (sp_mustHave hn hn2 hi) (Nat.zero_le _) (fun v2 I2 J2 q2 => ?_)
  obtain ⟨rfl, rfl, rfl⟩ := q2
  refine BX6_letter_5  ?_
  refine IX6_letter_6 (fun c6 => ?_) (fun c6 => ?_)
  · skip
    exact TX6_letter_15 (by omega) (Nat.le_refl _) ⟨rfl, rfl, rfl⟩
  · skip
    refine BX6_letter_9  ?_
    refine IX6_letter_12 (fun c12 => absurd c12 (fun z => hw.elim (fun y => c6 y) (fun y => y z))) (fun c12 => ?_)
    exact TX6_letter_15 (by omega) (Nat.le_refl _) ⟨rfl, rfl, rfl⟩
theorem sp_lose {f n i : Nat} (h : PlOk I f n) (hi : i < n) : Mt (d + 2) mX6_lose [.ref 0, .int (nI i)] I J (RV (remC I f n i) J) := by
  refine Mt.of (by decide +kernel) (Nat.le_of_ble_eq_true rfl) ?_
  refine BX6_lose_0  ?_
  refine CX6_lose_2 (sp_mustHave h.2.1 h.2.2.2 hi) (Nat.zero_le _) (fun v2 I2 J2 q2 => ?_)
  obtain ⟨rfl, rfl, rfl⟩ := q2
  refine BX6_lose_5  ?_
  refine CX6_lose_10 (sp_remove h hi) (Nat.zero_le _) (fun v10 I10 J10 q10 => ?_)
  obtain ⟨rfl, rfl, rfl⟩ := q10
  exact RX6_lose_13  (Nat.zero_le _) ⟨_, rfl, ⟨rfl, rfl, rfl⟩⟩
theorem sp_loseB {x : Int32} (hx : x < 0 ∨ I 12 2 ≤ x) : Mth (d + 4) mX6_lose [.ref 0, .int x] I J eIB := by
  refine Mth.of (by decide +kernel) (Nat.le_of_ble_eq_true rfl) ?_
  refine BX6_lose_0  ?_
  exact XX6_lose_2 (sp_mustHaveT hx) (Nat.le_refl _) ⟨rfl, rfl, rfl⟩
theorem cpyC_ok {f n i : Nat} (h : PlOk I f n) : PlOk (cpyC I f i) f n := ⟨by unfold cpyC; rw [upr_ne _ _ (by decide)]; exact h.1, by unfold cpyC; rw [upr_ne _ _ (by decide)]; exact h.2.1, h.2.2.1, h.2.2.2⟩
/-- the letter i's column c -/
def ltC (I : T2) (f i c : Nat) : Int32 := I 13 ((f + i) % 200 * 6 + c)
theorem cpyC_c {f i c : Nat} (hc : c < 6) : cpyC I f i 23 c = ltC I f i c := by
  unfold cpyC ltC
  rw [upr_v, if_pos rfl, pk_cpy_in (Nat.zero_le _) (by omega)]
  rfl
theorem sp_twice {f n i : Nat} (h : PlOk I f n) (hi : i < n) (hn : n < 200) : Mt (d + 2) mX6_twice [.ref 0, .int (nI i)] I J (RV (putC (cpyC I f i) (ltC I f i 0) (ltC I f i 1) (ltC I f i 2) (ltC I f i 3) (ltC I f i 4) (ltC I f i 5)) J) := by
  refine Mt.of (by decide +kernel) (Nat.le_of_ble_eq_true rfl) ?_
  have hf : (if I 12 2 < 200 then (0 : Int32) else 1) = 0 := if_pos (by rw [h.2.1]; exact nI_lt (b := 200) hn (by decide))
  refine BX6_twice_0  ?_
  refine CX6_twice_2 (sp_mustHave h.2.1 h.2.2.2 hi) (Nat.zero_le _) (fun v2 I2 J2 q2 => ?_)
  obtain ⟨rfl, rfl, rfl⟩ := q2
  refine BX6_twice_5  ?_
  refine CX6_twice_9 (sp_isFull) (Nat.zero_le _) (fun v9 I9 J9 q9 => ?_)
  obtain ⟨rfl, rfl, rfl⟩ := q9
  refine IX6_twice_12 (fun c12 => ?_) (fun c12 => absurd c12 (fun z => z hf))
  refine BX6_twice_23  ?_
  refine CX6_twice_32 (sp_copyTo h (by omega)) (Nat.zero_le _) (fun v32 I32 J32 q32 => ?_)
  obtain ⟨rfl, rfl, rfl⟩ := q32
  refine BX6_twice_35 v6_0 v6_1 v6_2 v6_3 v6_4 v6_5 ?_
  refine CX6_twice_75 (sp_put' (cpyC_ok h) _ _ _ _ _ _) (Nat.zero_le _) (fun v75 I75 J75 q75 => ?_)
  obtain ⟨rfl, rfl, rfl⟩ := q75
  exact RX6_twice_78  (Nat.zero_le _) ⟨_, rfl, ⟨rfl, rfl, rfl⟩⟩
theorem sp_twiceB {x : Int32} (hx : x < 0 ∨ I 12 2 ≤ x) : Mth (d + 4) mX6_twice [.ref 0, .int x] I J eIB := by
  refine Mth.of (by decide +kernel) (Nat.le_of_ble_eq_true rfl) ?_
  refine BX6_twice_0  ?_
  exact XX6_twice_2 (sp_mustHaveT hx) (Nat.le_refl _) ⟨rfl, rfl, rfl⟩
theorem sp_twiceT {f i : Nat} (h : PlOk I f 200) (hi : i < 200) : Mth (d + 4) mX6_twice [.ref 0, .int (nI i)] I J eIA := by
  refine Mth.of (by decide +kernel) (Nat.le_of_ble_eq_true rfl) ?_
  have hf : (if I 12 2 < 200 then (0 : Int32) else 1) = 1 := if_neg (by rw [h.2.1]; decide)
  refine BX6_twice_0  ?_
  refine CX6_twice_2 (sp_mustHave h.2.1 h.2.2.2 hi) (Nat.zero_le _) (fun v2 I2 J2 q2 => ?_)
  obtain ⟨rfl, rfl, rfl⟩ := q2
  refine BX6_twice_5  ?_
  refine CX6_twice_9 (sp_isFull) (Nat.zero_le _) (fun v9 I9 J9 q9 => ?_)
  obtain ⟨rfl, rfl, rfl⟩ := q9
  refine IX6_twice_12 (fun c12 => absurd c12 (by rw [hf]; decide)) (fun c12 => ?_)
  exact TX6_twice_15 (by omega) (Nat.le_refl _) ⟨rfl, rfl, rfl⟩
end DK

