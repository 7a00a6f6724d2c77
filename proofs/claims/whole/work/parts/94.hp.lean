/-! the helpers of the law -/
def oEq (w : Option Value) (y : Int64) : Prop := match w with
  | some (.int r) => y = r.toInt64
  | some (.long r) => y = r
  | _ => False
/-- what a helper leaves behind: a number, and the reference's call gives the same and keeps the relation -/
def Hp (out : Prop) (Mm : MD) (am : List Value) (m : Nat) : Option Value → T2 → T3 → Prop := fun v I1 J1 => ∃ k : Int32, v = some (.int k) ∧ Mt 7 Mm (.ref 136 :: am) I1 J1 (fun w I' J' => vOk Mm w ∧ I' 136 0 = k ∧ Rel (m + 1) I' J' I' J' ∧ (out → k = 0 → oEq w (J' 158 0)))
theorem exm_IB : eIB ∈ exL := by decide
theorem exm_IA : eIA ∈ exL := by decide
theorem exm_IS : eIS ∈ exL := by decide
theorem exm_UO : eUO ∈ exL := by decide
theorem v01 : vp_in (0 : Int32) 1 := vp_in_nI (show 0 < 1 by decide) (by decide)
section HP
variable {m : Nat} {I : T2} {J : T3}
theorem lhL_setup : lkH mL_setup 5 := ⟨(mw 331 (by decide +kernel) rfl), (mw 41 (by decide +kernel) rfl), by decide +kernel⟩
theorem lsL_setup : Cond.methodLink (cC 8) 91 yL_setup ∈ wAll ∧ Cond.static yL_setup ∈ wAll := ⟨(mw 329 (by decide +kernel) rfl), (mw 330 (by decide +kernel) rfl)⟩
set_option maxHeartbeats 1000000 in
theorem hp_setup (h : Rel m I J I J) (hm : m < 512) (x1 x2 x3 x4 : Int32) : Mz 7 mL_setup [.ref 0, .int x1, .int x2, .int x3, .int x4] I J (Hp False mX7_setup [.int x1, .int x2, .int x3, .int x4] m) := by
  refine Mz.of (by decide +kernel) (Nat.le_of_ble_eq_true rfl) ?_
  rcases pr_setup h hm x1 x2 x3 x4 with ⟨hc, hq⟩ | hR
  · refine BL_setup_0 ?_
    exact Ev.callVC (M := mL_setup) (N := mX6_setup) (i := 7) (n := 4) (As := [.int x1, .int x2, .int x3, .int x4]) (rest := []) (o := 0) (h := 12) (K := 1) hc dL_setup_6 lbX6_setup lV8_7 (by decide) rfl rfl (by simp only [List.map_cons, List.map_nil, Value.category, List.sum_cons, List.sum_nil]; decide) rfl rfl exm_IA (by decide +kernel) (by decide) ⟨5, 14, 1, by decide, Or.inr ⟨by decide +kernel, rfl⟩, by decide +kernel, by decide, by decide +kernel⟩ rfl (Nat.le_refl _) ⟨_, rfl, 1, rfl, hq.mono fun w I' J' y => ⟨y.1, y.2.1, y.2.2, fun _ e => absurd e (by decide)⟩⟩
  · refine BL_setup_0 ?_
    refine CL_setup_6 hR (Nat.zero_le _) (fun v I1 J1 q => ?_)
    obtain ⟨hv, q⟩ := q
    obtain rfl : v = none := hv
    refine BL_setup_9 ?_
    refine BL_setup_16 ?_
    exact RL_setup_17 (Nat.zero_le _) ⟨_, rfl, 0, rfl, (q I1 J1 ⟨rfl, fun _ _ => rfl⟩).mono fun w I' J' y => ⟨by rw [y.1]; exact rfl, y.2.1, y.2.2.2, fun e => e.elim⟩⟩
theorem lhL_pass : lkH mL_pass 2 := ⟨(mw 405 (by decide +kernel) rfl), (mw 41 (by decide +kernel) rfl), by decide +kernel⟩
theorem lsL_pass : Cond.methodLink (cC 8) 100 yL_pass ∈ wAll ∧ Cond.static yL_pass ∈ wAll := ⟨(mw 403 (by decide +kernel) rfl), (mw 404 (by decide +kernel) rfl)⟩
set_option maxHeartbeats 1000000 in
theorem hp_pass (h : Rel m I J I J) (hm : m < 512) (x1 : Int32) : Mz 7 mL_pass [.ref 0, .int x1] I J (Hp False mX7_pass [.int x1] m) := by
  refine Mz.of (by decide +kernel) (Nat.le_of_ble_eq_true rfl) ?_
  rcases pr_pass h hm x1 with ⟨hc, hq⟩ | hR
  · refine BL_pass_0 ?_
    exact Ev.callVC (M := mL_pass) (N := mX6_pass) (i := 15) (n := 1) (As := [.int x1]) (rest := []) (o := 0) (h := 8) (K := 1) hc dL_pass_2 lbX6_pass lV8_15 (by decide) rfl rfl (by simp only [List.map_cons, List.map_nil, Value.category, List.sum_cons, List.sum_nil]; decide) rfl rfl exm_IA (by decide +kernel) (by decide) ⟨2, 9, 1, by decide, Or.inl ⟨2, rfl, by decide +kernel, rfl⟩, by decide +kernel, by decide, by decide +kernel⟩ rfl (Nat.le_refl _) ⟨_, rfl, 1, rfl, hq.mono fun w I' J' y => ⟨y.1, y.2.1, y.2.2, fun _ e => absurd e (by decide)⟩⟩
  · refine BL_pass_0 ?_
    refine CL_pass_2 hR (Nat.zero_le _) (fun v I1 J1 q => ?_)
    obtain ⟨hv, q⟩ := q
    obtain rfl : v = none := hv
    refine BL_pass_5 ?_
    refine BL_pass_11 ?_
    exact RL_pass_12 (Nat.zero_le _) ⟨_, rfl, 0, rfl, (q I1 J1 ⟨rfl, fun _ _ => rfl⟩).mono fun w I' J' y => ⟨by rw [y.1]; exact rfl, y.2.1, y.2.2.2, fun e => e.elim⟩⟩
theorem lhL_error : lkH mL_error 3 := ⟨(mw 439 (by decide +kernel) rfl), (mw 41 (by decide +kernel) rfl), by decide +kernel⟩
theorem lsL_error : Cond.methodLink (cC 8) 104 yL_error ∈ wAll ∧ Cond.static yL_error ∈ wAll := ⟨(mw 437 (by decide +kernel) rfl), (mw 438 (by decide +kernel) rfl)⟩
set_option maxHeartbeats 1000000 in
theorem hp_error (h : Rel m I J I J) (hm : m < 512) (x1 x2 : Int32) : Mz 7 mL_error [.ref 0, .int x1, .int x2] I J (Hp False mX7_error [.int x1, .int x2] m) := by
  refine Mz.of (by decide +kernel) (Nat.le_of_ble_eq_true rfl) ?_
  rcases pr_error h hm x1 x2 with ⟨hc, hq⟩ | ⟨hc, hq⟩ | hR
  · refine BL_error_0 ?_
    exact Ev.callVC (M := mL_error) (N := mX6_error) (i := 19) (n := 2) (As := [.int x1, .int x2]) (rest := []) (o := 0) (h := 9) (K := 1) hc dL_error_3 lbX6_error lV8_19 (by decide) rfl rfl (by simp only [List.map_cons, List.map_nil, Value.category, List.sum_cons, List.sum_nil]; decide) rfl rfl exm_IB (by decide +kernel) (by decide) ⟨3, 10, 1, by decide, Or.inl ⟨3, rfl, by decide +kernel, rfl⟩, by decide +kernel, by decide, by decide +kernel⟩ rfl (Nat.le_refl _) ⟨_, rfl, 1, rfl, hq.mono fun w I' J' y => ⟨y.1, y.2.1, y.2.2, fun _ e => absurd e (by decide)⟩⟩
  · refine BL_error_0 ?_
    exact Ev.callVC (M := mL_error) (N := mX6_error) (i := 19) (n := 2) (As := [.int x1, .int x2]) (rest := []) (o := 0) (h := 12) (K := 2) hc dL_error_3 lbX6_error lV8_19 (by decide) rfl rfl (by simp only [List.map_cons, List.map_nil, Value.category, List.sum_cons, List.sum_nil]; decide) rfl rfl exm_IA (by decide +kernel) (by decide) ⟨3, 13, 2, by decide, Or.inl ⟨3, rfl, by decide +kernel, rfl⟩, by decide +kernel, by decide, by decide +kernel⟩ rfl (Nat.le_refl _) ⟨_, rfl, 2, rfl, hq.mono fun w I' J' y => ⟨y.1, y.2.1, y.2.2, fun _ e => absurd e (by decide)⟩⟩
  · refine BL_error_0 ?_
    refine CL_error_3 hR (Nat.zero_le _) (fun v I1 J1 q => ?_)
    obtain ⟨hv, q⟩ := q
    obtain rfl : v = none := hv
    refine BL_error_6 ?_
    refine BL_error_15 ?_
    exact RL_error_16 (Nat.zero_le _) ⟨_, rfl, 0, rfl, (q I1 J1 ⟨rfl, fun _ _ => rfl⟩).mono fun w I' J' y => ⟨by rw [y.1]; exact rfl, y.2.1, y.2.2.2, fun e => e.elim⟩⟩
theorem lhL_rule : lkH mL_rule 2 := ⟨(mw 466 (by decide +kernel) rfl), (mw 41 (by decide +kernel) rfl), by decide +kernel⟩
theorem lsL_rule : Cond.methodLink (cC 8) 108 yL_rule ∈ wAll ∧ Cond.static yL_rule ∈ wAll := ⟨(mw 464 (by decide +kernel) rfl), (mw 465 (by decide +kernel) rfl)⟩
set_option maxHeartbeats 1000000 in
theorem hp_rule (h : Rel m I J I J) (hm : m < 512) (x1 : Int32) : Mz 7 mL_rule [.ref 0, .int x1] I J (Hp False mX7_rule [.int x1] m) := by
  refine Mz.of (by decide +kernel) (Nat.le_of_ble_eq_true rfl) ?_
  rcases pr_rule h hm x1 with ⟨hc, hq⟩ | hR
  · refine BL_rule_0 ?_
    exact Ev.callVC (M := mL_rule) (N := mX6_rule) (i := 25) (n := 1) (As := [.int x1]) (rest := []) (o := 0) (h := 8) (K := 1) hc dL_rule_2 lbX6_rule lV8_25 (by decide) rfl rfl (by simp only [List.map_cons, List.map_nil, Value.category, List.sum_cons, List.sum_nil]; decide) rfl rfl exm_IA (by decide +kernel) (by decide) ⟨2, 9, 1, by decide, Or.inl ⟨2, rfl, by decide +kernel, rfl⟩, by decide +kernel, by decide, by decide +kernel⟩ rfl (Nat.le_refl _) ⟨_, rfl, 1, rfl, hq.mono fun w I' J' y => ⟨y.1, y.2.1, y.2.2, fun _ e => absurd e (by decide)⟩⟩
  · refine BL_rule_0 ?_
    refine CL_rule_2 hR (Nat.zero_le _) (fun v I1 J1 q => ?_)
    obtain ⟨hv, q⟩ := q
    obtain rfl : v = none := hv
    refine BL_rule_5 ?_
    refine BL_rule_11 ?_
    exact RL_rule_12 (Nat.zero_le _) ⟨_, rfl, 0, rfl, (q I1 J1 ⟨rfl, fun _ _ => rfl⟩).mono fun w I' J' y => ⟨by rw [y.1]; exact rfl, y.2.1, y.2.2.2, fun e => e.elim⟩⟩
theorem lhL_admit : lkH mL_admit 4 := ⟨(mw 473 (by decide +kernel) rfl), (mw 41 (by decide +kernel) rfl), by decide +kernel⟩
theorem lsL_admit : Cond.methodLink (cC 8) 111 yL_admit ∈ wAll ∧ Cond.static yL_admit ∈ wAll := ⟨(mw 471 (by decide +kernel) rfl), (mw 472 (by decide +kernel) rfl)⟩
set_option maxHeartbeats 1000000 in
theorem hp_admit (h : Rel m I J I J) (hm : m < 512) (x1 x2 : Int32) : Mz 7 mL_admit [.ref 0, .int x1, .int x2, .ref 158] I J (Hp True mX7_admit [.int x1, .int x2] m) := by
  refine Mz.of (by decide +kernel) (Nat.le_of_ble_eq_true rfl) ?_
  rcases pr_admit h hm x1 x2 with ⟨hc, hq⟩ | ⟨hc, hq⟩ | ⟨hc, hq⟩ | hR
  · refine BL_admit_0 ?_
    exact Ev.callVC (M := mL_admit) (N := mX6_admit) (i := 28) (n := 2) (As := [.int x1, .int x2]) (rest := [.int 0, .ref 158]) (o := 0) (h := 13) (K := 1) hc dL_admit_5 lbX6_admit lV8_28 (by decide) rfl rfl (by simp only [List.map_cons, List.map_nil, Value.category, List.sum_cons, List.sum_nil]; decide) rfl rfl exm_IB (by decide +kernel) (by decide) ⟨4, 15, 1, by decide, Or.inr ⟨by decide +kernel, rfl⟩, by decide +kernel, by decide, by decide +kernel⟩ rfl (Nat.le_refl _) ⟨_, rfl, 1, rfl, hq.mono fun w I' J' y => ⟨y.1, y.2.1, y.2.2, fun _ e => absurd e (by decide)⟩⟩
  · refine BL_admit_0 ?_
    exact Ev.callVC (M := mL_admit) (N := mX6_admit) (i := 28) (n := 2) (As := [.int x1, .int x2]) (rest := [.int 0, .ref 158]) (o := 0) (h := 17) (K := 2) hc dL_admit_5 lbX6_admit lV8_28 (by decide) rfl rfl (by simp only [List.map_cons, List.map_nil, Value.category, List.sum_cons, List.sum_nil]; decide) rfl rfl exm_IA (by decide +kernel) (by decide) ⟨4, 19, 2, by decide, Or.inr ⟨by decide +kernel, rfl⟩, by decide +kernel, by decide, by decide +kernel⟩ rfl (Nat.le_refl _) ⟨_, rfl, 2, rfl, hq.mono fun w I' J' y => ⟨y.1, y.2.1, y.2.2, fun _ e => absurd e (by decide)⟩⟩
  · refine BL_admit_0 ?_
    exact Ev.callVC (M := mL_admit) (N := mX6_admit) (i := 28) (n := 2) (As := [.int x1, .int x2]) (rest := [.int 0, .ref 158]) (o := 0) (h := 21) (K := 3) hc dL_admit_5 lbX6_admit lV8_28 (by decide) rfl rfl (by simp only [List.map_cons, List.map_nil, Value.category, List.sum_cons, List.sum_nil]; decide) rfl rfl exm_IS (by decide +kernel) (by decide) ⟨4, 23, 3, by decide, Or.inr ⟨by decide +kernel, rfl⟩, by decide +kernel, by decide, by decide +kernel⟩ rfl (Nat.le_refl _) ⟨_, rfl, 3, rfl, hq.mono fun w I' J' y => ⟨y.1, y.2.1, y.2.2, fun _ e => absurd e (by decide)⟩⟩
  · refine BL_admit_0 ?_
    refine CL_admit_5 hR (Nat.zero_le _) (fun v I1 J1 q => ?_)
    obtain ⟨hv, q⟩ := q
    obtain ⟨r, rfl⟩ : ∃ r : Int32, v = some (.int r) := hv
    refine BL_admit_8 v01 ?_
    rw [t6_0]
    refine BL_admit_25 ?_
    exact RL_admit_26 (Nat.zero_le _) ⟨_, rfl, 0, rfl, (q I1 _ ⟨rfl, fun o ho => up3_ne _ _ _ ho⟩).mono fun w I' J' y => ⟨by rw [y.1]; exact ⟨_, rfl⟩, y.2.1, y.2.2.2, fun _ _ => by rw [y.1, y.2.2.1, up3_v, if_pos ⟨rfl, rfl⟩]; rfl⟩⟩
theorem lhL_plead : lkH mL_plead 3 := ⟨(mw 527 (by decide +kernel) rfl), (mw 41 (by decide +kernel) rfl), by decide +kernel⟩
theorem lsL_plead : Cond.methodLink (cC 8) 115 yL_plead ∈ wAll ∧ Cond.static yL_plead ∈ wAll := ⟨(mw 525 (by decide +kernel) rfl), (mw 526 (by decide +kernel) rfl)⟩
set_option maxHeartbeats 1000000 in
theorem hp_plead (h : Rel m I J I J) (hm : m < 512) (x1 x2 : Int32) : Mz 7 mL_plead [.ref 0, .int x1, .int x2] I J (Hp False mX7_plead [.int x1, .int x2] m) := by
  refine Mz.of (by decide +kernel) (Nat.le_of_ble_eq_true rfl) ?_
  rcases pr_plead h hm x1 x2 with ⟨hc, hq⟩ | ⟨hc, hq⟩ | ⟨hc, hq⟩ | ⟨hc, hq⟩ | hR
  · refine BL_plead_0 ?_
    exact Ev.callVC (M := mL_plead) (N := mX6_plead) (i := 34) (n := 2) (As := [.int x1, .int x2]) (rest := []) (o := 0) (h := 9) (K := 1) hc dL_plead_3 lbX6_plead lV8_34 (by decide) rfl rfl (by simp only [List.map_cons, List.map_nil, Value.category, List.sum_cons, List.sum_nil]; decide) rfl rfl exm_IB (by decide +kernel) (by decide) ⟨3, 10, 1, by decide, Or.inl ⟨3, rfl, by decide +kernel, rfl⟩, by decide +kernel, by decide, by decide +kernel⟩ rfl (Nat.le_refl _) ⟨_, rfl, 1, rfl, hq.mono fun w I' J' y => ⟨y.1, y.2.1, y.2.2, fun _ e => absurd e (by decide)⟩⟩
  · refine BL_plead_0 ?_
    exact Ev.callVC (M := mL_plead) (N := mX6_plead) (i := 34) (n := 2) (As := [.int x1, .int x2]) (rest := []) (o := 0) (h := 12) (K := 2) hc dL_plead_3 lbX6_plead lV8_34 (by decide) rfl rfl (by simp only [List.map_cons, List.map_nil, Value.category, List.sum_cons, List.sum_nil]; decide) rfl rfl exm_IA (by decide +kernel) (by decide) ⟨3, 13, 2, by decide, Or.inl ⟨3, rfl, by decide +kernel, rfl⟩, by decide +kernel, by decide, by decide +kernel⟩ rfl (Nat.le_refl _) ⟨_, rfl, 2, rfl, hq.mono fun w I' J' y => ⟨y.1, y.2.1, y.2.2, fun _ e => absurd e (by decide)⟩⟩
  · refine BL_plead_0 ?_
    exact Ev.callVC (M := mL_plead) (N := mX6_plead) (i := 34) (n := 2) (As := [.int x1, .int x2]) (rest := []) (o := 0) (h := 15) (K := 3) hc dL_plead_3 lbX6_plead lV8_34 (by decide) rfl rfl (by simp only [List.map_cons, List.map_nil, Value.category, List.sum_cons, List.sum_nil]; decide) rfl rfl exm_IS (by decide +kernel) (by decide) ⟨3, 16, 3, by decide, Or.inl ⟨3, rfl, by decide +kernel, rfl⟩, by decide +kernel, by decide, by decide +kernel⟩ rfl (Nat.le_refl _) ⟨_, rfl, 3, rfl, hq.mono fun w I' J' y => ⟨y.1, y.2.1, y.2.2, fun _ e => absurd e (by decide)⟩⟩
  · refine BL_plead_0 ?_
    exact Ev.callVC (M := mL_plead) (N := mX6_plead) (i := 34) (n := 2) (As := [.int x1, .int x2]) (rest := []) (o := 0) (h := 18) (K := 4) hc dL_plead_3 lbX6_plead lV8_34 (by decide) rfl rfl (by simp only [List.map_cons, List.map_nil, Value.category, List.sum_cons, List.sum_nil]; decide) rfl rfl exm_UO (by decide +kernel) (by decide) ⟨3, 19, 4, by decide, Or.inl ⟨3, rfl, by decide +kernel, rfl⟩, by decide +kernel, by decide, by decide +kernel⟩ rfl (Nat.le_refl _) ⟨_, rfl, 4, rfl, hq.mono fun w I' J' y => ⟨y.1, y.2.1, y.2.2, fun _ e => absurd e (by decide)⟩⟩
  · refine BL_plead_0 ?_
    refine CL_plead_3 hR (Nat.zero_le _) (fun v I1 J1 q => ?_)
    obtain ⟨hv, q⟩ := q
    obtain rfl : v = none := hv
    refine BL_plead_6 ?_
    refine BL_plead_21 ?_
    exact RL_plead_22 (Nat.zero_le _) ⟨_, rfl, 0, rfl, (q I1 J1 ⟨rfl, fun _ _ => rfl⟩).mono fun w I' J' y => ⟨by rw [y.1]; exact rfl, y.2.1, y.2.2.2, fun e => e.elim⟩⟩
theorem lhL_back : lkH mL_back 4 := ⟨(mw 570 (by decide +kernel) rfl), (mw 41 (by decide +kernel) rfl), by decide +kernel⟩
theorem lsL_back : Cond.methodLink (cC 8) 118 yL_back ∈ wAll ∧ Cond.static yL_back ∈ wAll := ⟨(mw 568 (by decide +kernel) rfl), (mw 569 (by decide +kernel) rfl)⟩
set_option maxHeartbeats 1000000 in
theorem hp_back (h : Rel m I J I J) (hm : m < 512) (x1 x2 x3 : Int32) : Mz 7 mL_back [.ref 0, .int x1, .int x2, .int x3] I J (Hp False mX7_back [.int x1, .int x2, .int x3] m) := by
  refine Mz.of (by decide +kernel) (Nat.le_of_ble_eq_true rfl) ?_
  rcases pr_back h hm x1 x2 x3 with ⟨hc, hq⟩ | ⟨hc, hq⟩ | ⟨hc, hq⟩ | ⟨hc, hq⟩ | hR
  · refine BL_back_0 ?_
    exact Ev.callVC (M := mL_back) (N := mX6_back) (i := 39) (n := 3) (As := [.int x1, .int x2, .int x3]) (rest := []) (o := 0) (h := 10) (K := 1) hc dL_back_4 lbX6_back lV8_39 (by decide) rfl rfl (by simp only [List.map_cons, List.map_nil, Value.category, List.sum_cons, List.sum_nil]; decide) rfl rfl exm_IB (by decide +kernel) (by decide) ⟨4, 12, 1, by decide, Or.inr ⟨by decide +kernel, rfl⟩, by decide +kernel, by decide, by decide +kernel⟩ rfl (Nat.le_refl _) ⟨_, rfl, 1, rfl, hq.mono fun w I' J' y => ⟨y.1, y.2.1, y.2.2, fun _ e => absurd e (by decide)⟩⟩
  · refine BL_back_0 ?_
    exact Ev.callVC (M := mL_back) (N := mX6_back) (i := 39) (n := 3) (As := [.int x1, .int x2, .int x3]) (rest := []) (o := 0) (h := 14) (K := 2) hc dL_back_4 lbX6_back lV8_39 (by decide) rfl rfl (by simp only [List.map_cons, List.map_nil, Value.category, List.sum_cons, List.sum_nil]; decide) rfl rfl exm_IS (by decide +kernel) (by decide) ⟨4, 16, 2, by decide, Or.inr ⟨by decide +kernel, rfl⟩, by decide +kernel, by decide, by decide +kernel⟩ rfl (Nat.le_refl _) ⟨_, rfl, 2, rfl, hq.mono fun w I' J' y => ⟨y.1, y.2.1, y.2.2, fun _ e => absurd e (by decide)⟩⟩
  · refine BL_back_0 ?_
    exact Ev.callVC (M := mL_back) (N := mX6_back) (i := 39) (n := 3) (As := [.int x1, .int x2, .int x3]) (rest := []) (o := 0) (h := 18) (K := 3) hc dL_back_4 lbX6_back lV8_39 (by decide) rfl rfl (by simp only [List.map_cons, List.map_nil, Value.category, List.sum_cons, List.sum_nil]; decide) rfl rfl exm_IA (by decide +kernel) (by decide) ⟨4, 20, 3, by decide, Or.inr ⟨by decide +kernel, rfl⟩, by decide +kernel, by decide, by decide +kernel⟩ rfl (Nat.le_refl _) ⟨_, rfl, 3, rfl, hq.mono fun w I' J' y => ⟨y.1, y.2.1, y.2.2, fun _ e => absurd e (by decide)⟩⟩
  · refine BL_back_0 ?_
    exact Ev.callVC (M := mL_back) (N := mX6_back) (i := 39) (n := 3) (As := [.int x1, .int x2, .int x3]) (rest := []) (o := 0) (h := 22) (K := 4) hc dL_back_4 lbX6_back lV8_39 (by decide) rfl rfl (by simp only [List.map_cons, List.map_nil, Value.category, List.sum_cons, List.sum_nil]; decide) rfl rfl exm_UO (by decide +kernel) (by decide) ⟨4, 24, 4, by decide, Or.inr ⟨by decide +kernel, rfl⟩, by decide +kernel, by decide, by decide +kernel⟩ rfl (Nat.le_refl _) ⟨_, rfl, 4, rfl, hq.mono fun w I' J' y => ⟨y.1, y.2.1, y.2.2, fun _ e => absurd e (by decide)⟩⟩
  · refine BL_back_0 ?_
    refine CL_back_4 hR (Nat.zero_le _) (fun v I1 J1 q => ?_)
    obtain ⟨hv, q⟩ := q
    obtain rfl : v = none := hv
    refine BL_back_7 ?_
    refine BL_back_26 ?_
    exact RL_back_27 (Nat.zero_le _) ⟨_, rfl, 0, rfl, (q I1 J1 ⟨rfl, fun _ _ => rfl⟩).mono fun w I' J' y => ⟨by rw [y.1]; exact rfl, y.2.1, y.2.2.2, fun e => e.elim⟩⟩
theorem lhL_split : lkH mL_split 2 := ⟨(mw 585 (by decide +kernel) rfl), (mw 41 (by decide +kernel) rfl), by decide +kernel⟩
theorem lsL_split : Cond.methodLink (cC 8) 122 yL_split ∈ wAll ∧ Cond.static yL_split ∈ wAll := ⟨(mw 583 (by decide +kernel) rfl), (mw 584 (by decide +kernel) rfl)⟩
set_option maxHeartbeats 1000000 in
theorem hp_split (h : Rel m I J I J) (hm : m < 512) : Mz 7 mL_split [.ref 0, .ref 158] I J (Hp True mX7_split [] m) := by
  refine Mz.of (by decide +kernel) (Nat.le_of_ble_eq_true rfl) ?_
  rcases pr_split h hm with ⟨hc, hq⟩ | hR
  · refine BL_split_0 ?_
    exact Ev.callVC (M := mL_split) (N := mX6_split) (i := 43) (n := 0) (As := []) (rest := [.int 0, .ref 158]) (o := 0) (h := 11) (K := 1) hc dL_split_3 lbX6_split lV8_43 (by decide) rfl rfl (by simp only [List.map_cons, List.map_nil, Value.category, List.sum_cons, List.sum_nil]; decide) rfl rfl exm_IS (by decide +kernel) (by decide) ⟨2, 12, 1, by decide, Or.inl ⟨2, rfl, by decide +kernel, rfl⟩, by decide +kernel, by decide, by decide +kernel⟩ rfl (Nat.le_refl _) ⟨_, rfl, 1, rfl, hq.mono fun w I' J' y => ⟨y.1, y.2.1, y.2.2, fun _ e => absurd e (by decide)⟩⟩
  · refine BL_split_0 ?_
    refine CL_split_3 hR (Nat.zero_le _) (fun v I1 J1 q => ?_)
    obtain ⟨hv, q⟩ := q
    obtain ⟨r, rfl⟩ : ∃ r : Int32, v = some (.int r) := hv
    refine BL_split_6 v01 ?_
    rw [t6_0]
    refine BL_split_14 ?_
    exact RL_split_15 (Nat.zero_le _) ⟨_, rfl, 0, rfl, (q I1 _ ⟨rfl, fun o ho => up3_ne _ _ _ ho⟩).mono fun w I' J' y => ⟨by rw [y.1]; exact ⟨_, rfl⟩, y.2.1, y.2.2.2, fun _ _ => by rw [y.1, y.2.2.1, up3_v, if_pos ⟨rfl, rfl⟩]; rfl⟩⟩
theorem lhL_deliver : lkH mL_deliver 3 := ⟨(mw 664 (by decide +kernel) rfl), (mw 41 (by decide +kernel) rfl), by decide +kernel⟩
theorem lsL_deliver : Cond.methodLink (cC 8) 126 yL_deliver ∈ wAll ∧ Cond.static yL_deliver ∈ wAll := ⟨(mw 662 (by decide +kernel) rfl), (mw 663 (by decide +kernel) rfl)⟩
set_option maxHeartbeats 1000000 in
theorem hp_deliver (h : Rel m I J I J) (hm : m < 512) (x1 : Int32) : Mz 7 mL_deliver [.ref 0, .int x1, .ref 158] I J (Hp True mX7_deliver [.int x1] m) := by
  refine Mz.of (by decide +kernel) (Nat.le_of_ble_eq_true rfl) ?_
  rcases pr_deliver h hm x1 with ⟨hc, hq⟩ | hR
  · refine BL_deliver_0 ?_
    exact Ev.callVC (M := mL_deliver) (N := mX6_deliver) (i := 47) (n := 1) (As := [.int x1]) (rest := [.int 0, .ref 158]) (o := 0) (h := 12) (K := 1) hc dL_deliver_4 lbX6_deliver lV8_47 (by decide) rfl rfl (by simp only [List.map_cons, List.map_nil, Value.category, List.sum_cons, List.sum_nil]; decide) rfl rfl exm_IB (by decide +kernel) (by decide) ⟨3, 13, 1, by decide, Or.inl ⟨3, rfl, by decide +kernel, rfl⟩, by decide +kernel, by decide, by decide +kernel⟩ rfl (Nat.le_refl _) ⟨_, rfl, 1, rfl, hq.mono fun w I' J' y => ⟨y.1, y.2.1, y.2.2, fun _ e => absurd e (by decide)⟩⟩
  · refine BL_deliver_0 ?_
    refine CL_deliver_4 hR (Nat.zero_le _) (fun v I1 J1 q => ?_)
    obtain ⟨hv, q⟩ := q
    obtain ⟨r, rfl⟩ : ∃ r : Int32, v = some (.int r) := hv
    refine BL_deliver_7 v01 ?_
    rw [t6_0]
    refine BL_deliver_15 ?_
    exact RL_deliver_16 (Nat.zero_le _) ⟨_, rfl, 0, rfl, (q I1 _ ⟨rfl, fun o ho => up3_ne _ _ _ ho⟩).mono fun w I' J' y => ⟨by rw [y.1]; exact ⟨_, rfl⟩, y.2.1, y.2.2.2, fun _ _ => by rw [y.1, y.2.2.1, up3_v, if_pos ⟨rfl, rfl⟩]; rfl⟩⟩
theorem lhL_deliverAll : lkH mL_deliverAll 3 := ⟨(mw 724 (by decide +kernel) rfl), (mw 41 (by decide +kernel) rfl), by decide +kernel⟩
theorem lsL_deliverAll : Cond.methodLink (cC 8) 130 yL_deliverAll ∈ wAll ∧ Cond.static yL_deliverAll ∈ wAll := ⟨(mw 722 (by decide +kernel) rfl), (mw 723 (by decide +kernel) rfl)⟩
set_option maxHeartbeats 1000000 in
theorem hp_deliverAll (h : Rel m I J I J) (hm : m < 512) (x1 : Int32) : Mz 7 mL_deliverAll [.ref 0, .int x1, .ref 158] I J (Hp True mX7_deliverAll [.int x1] m) := by
  refine Mz.of (by decide +kernel) (Nat.le_of_ble_eq_true rfl) ?_
  rcases pr_delAll h hm x1 with ⟨hc, hq⟩ | hR
  · refine BL_deliverAll_0 ?_
    exact Ev.callVC (M := mL_deliverAll) (N := mX6_deliverAll) (i := 51) (n := 1) (As := [.int x1]) (rest := [.int 0, .ref 158]) (o := 0) (h := 12) (K := 1) hc dL_deliverAll_4 lbX6_deliverAll lV8_51 (by decide) rfl rfl (by simp only [List.map_cons, List.map_nil, Value.category, List.sum_cons, List.sum_nil]; decide) rfl rfl exm_IA (by decide +kernel) (by decide) ⟨3, 13, 1, by decide, Or.inl ⟨3, rfl, by decide +kernel, rfl⟩, by decide +kernel, by decide, by decide +kernel⟩ rfl (Nat.le_refl _) ⟨_, rfl, 1, rfl, hq.mono fun w I' J' y => ⟨y.1, y.2.1, y.2.2, fun _ e => absurd e (by decide)⟩⟩
  · refine BL_deliverAll_0 ?_
    refine CL_deliverAll_4 hR (Nat.zero_le _) (fun v I1 J1 q => ?_)
    obtain ⟨hv, q⟩ := q
    obtain ⟨r, rfl⟩ : ∃ r : Int32, v = some (.int r) := hv
    refine BL_deliverAll_7 v01 ?_
    rw [t6_0]
    refine BL_deliverAll_15 ?_
    exact RL_deliverAll_16 (Nat.zero_le _) ⟨_, rfl, 0, rfl, (q I1 _ ⟨rfl, fun o ho => up3_ne _ _ _ ho⟩).mono fun w I' J' y => ⟨by rw [y.1]; exact ⟨_, rfl⟩, y.2.1, y.2.2.2, fun _ _ => by rw [y.1, y.2.2.1, up3_v, if_pos ⟨rfl, rfl⟩]; rfl⟩⟩
theorem lhL_lose : lkH mL_lose 2 := ⟨(mw 731 (by decide +kernel) rfl), (mw 41 (by decide +kernel) rfl), by decide +kernel⟩
theorem lsL_lose : Cond.methodLink (cC 8) 133 yL_lose ∈ wAll ∧ Cond.static yL_lose ∈ wAll := ⟨(mw 729 (by decide +kernel) rfl), (mw 730 (by decide +kernel) rfl)⟩
set_option maxHeartbeats 1000000 in
theorem hp_lose (h : Rel m I J I J) (hm : m < 512) (x1 : Int32) : Mz 7 mL_lose [.ref 0, .int x1] I J (Hp False mX7_lose [.int x1] m) := by
  refine Mz.of (by decide +kernel) (Nat.le_of_ble_eq_true rfl) ?_
  rcases pr_lose h hm x1 with ⟨hc, hq⟩ | hR
  · refine BL_lose_0 ?_
    exact Ev.callVC (M := mL_lose) (N := mX6_lose) (i := 54) (n := 1) (As := [.int x1]) (rest := []) (o := 0) (h := 8) (K := 1) hc dL_lose_2 lbX6_lose lV8_54 (by decide) rfl rfl (by simp only [List.map_cons, List.map_nil, Value.category, List.sum_cons, List.sum_nil]; decide) rfl rfl exm_IB (by decide +kernel) (by decide) ⟨2, 9, 1, by decide, Or.inl ⟨2, rfl, by decide +kernel, rfl⟩, by decide +kernel, by decide, by decide +kernel⟩ rfl (Nat.le_refl _) ⟨_, rfl, 1, rfl, hq.mono fun w I' J' y => ⟨y.1, y.2.1, y.2.2, fun _ e => absurd e (by decide)⟩⟩
  · refine BL_lose_0 ?_
    refine CL_lose_2 hR (Nat.zero_le _) (fun v I1 J1 q => ?_)
    obtain ⟨hv, q⟩ := q
    obtain rfl : v = none := hv
    refine BL_lose_5 ?_
    refine BL_lose_11 ?_
    exact RL_lose_12 (Nat.zero_le _) ⟨_, rfl, 0, rfl, (q I1 J1 ⟨rfl, fun _ _ => rfl⟩).mono fun w I' J' y => ⟨by rw [y.1]; exact rfl, y.2.1, y.2.2.2, fun e => e.elim⟩⟩
theorem lhL_twice : lkH mL_twice 2 := ⟨(mw 738 (by decide +kernel) rfl), (mw 41 (by decide +kernel) rfl), by decide +kernel⟩
theorem lsL_twice : Cond.methodLink (cC 8) 136 yL_twice ∈ wAll ∧ Cond.static yL_twice ∈ wAll := ⟨(mw 736 (by decide +kernel) rfl), (mw 737 (by decide +kernel) rfl)⟩
set_option maxHeartbeats 1000000 in
theorem hp_twice (h : Rel m I J I J) (hm : m < 512) (x1 : Int32) : Mz 7 mL_twice [.ref 0, .int x1] I J (Hp False mX7_twice [.int x1] m) := by
  refine Mz.of (by decide +kernel) (Nat.le_of_ble_eq_true rfl) ?_
  rcases pr_twice h hm x1 with ⟨hc, hq⟩ | ⟨hc, hq⟩ | hR
  · refine BL_twice_0 ?_
    exact Ev.callVC (M := mL_twice) (N := mX6_twice) (i := 57) (n := 1) (As := [.int x1]) (rest := []) (o := 0) (h := 8) (K := 1) hc dL_twice_2 lbX6_twice lV8_57 (by decide) rfl rfl (by simp only [List.map_cons, List.map_nil, Value.category, List.sum_cons, List.sum_nil]; decide) rfl rfl exm_IB (by decide +kernel) (by decide) ⟨2, 9, 1, by decide, Or.inl ⟨2, rfl, by decide +kernel, rfl⟩, by decide +kernel, by decide, by decide +kernel⟩ rfl (Nat.le_refl _) ⟨_, rfl, 1, rfl, hq.mono fun w I' J' y => ⟨y.1, y.2.1, y.2.2, fun _ e => absurd e (by decide)⟩⟩
  · refine BL_twice_0 ?_
    exact Ev.callVC (M := mL_twice) (N := mX6_twice) (i := 57) (n := 1) (As := [.int x1]) (rest := []) (o := 0) (h := 11) (K := 2) hc dL_twice_2 lbX6_twice lV8_57 (by decide) rfl rfl (by simp only [List.map_cons, List.map_nil, Value.category, List.sum_cons, List.sum_nil]; decide) rfl rfl exm_IA (by decide +kernel) (by decide) ⟨2, 12, 2, by decide, Or.inl ⟨2, rfl, by decide +kernel, rfl⟩, by decide +kernel, by decide, by decide +kernel⟩ rfl (Nat.le_refl _) ⟨_, rfl, 2, rfl, hq.mono fun w I' J' y => ⟨y.1, y.2.1, y.2.2, fun _ e => absurd e (by decide)⟩⟩
  · refine BL_twice_0 ?_
    refine CL_twice_2 hR (Nat.zero_le _) (fun v I1 J1 q => ?_)
    obtain ⟨hv, q⟩ := q
    obtain rfl : v = none := hv
    refine BL_twice_5 ?_
    refine BL_twice_14 ?_
    exact RL_twice_15 (Nat.zero_le _) ⟨_, rfl, 0, rfl, (q I1 J1 ⟨rfl, fun _ _ => rfl⟩).mono fun w I' J' y => ⟨by rw [y.1]; exact rfl, y.2.1, y.2.2.2, fun e => e.elim⟩⟩
theorem lhL_resend : lkH mL_resend 3 := ⟨(mw 750 (by decide +kernel) rfl), (mw 41 (by decide +kernel) rfl), by decide +kernel⟩
theorem lsL_resend : Cond.methodLink (cC 8) 139 yL_resend ∈ wAll ∧ Cond.static yL_resend ∈ wAll := ⟨(mw 748 (by decide +kernel) rfl), (mw 749 (by decide +kernel) rfl)⟩
set_option maxHeartbeats 1000000 in
theorem hp_resend (h : Rel m I J I J) (hm : m < 512) (x1 : Int32) : Mz 7 mL_resend [.ref 0, .int x1, .ref 158] I J (Hp True mX7_resend [.int x1] m) := by
  refine Mz.of (by decide +kernel) (Nat.le_of_ble_eq_true rfl) ?_
  rcases pr_resend h hm x1 with ⟨hc, hq⟩ | hR
  · refine BL_resend_0 ?_
    exact Ev.callVC (M := mL_resend) (N := mX6_resend) (i := 60) (n := 1) (As := [.int x1]) (rest := [.int 0, .ref 158]) (o := 0) (h := 12) (K := 1) hc dL_resend_4 lbX6_resend lV8_60 (by decide) rfl rfl (by simp only [List.map_cons, List.map_nil, Value.category, List.sum_cons, List.sum_nil]; decide) rfl rfl exm_IB (by decide +kernel) (by decide) ⟨3, 13, 1, by decide, Or.inl ⟨3, rfl, by decide +kernel, rfl⟩, by decide +kernel, by decide, by decide +kernel⟩ rfl (Nat.le_refl _) ⟨_, rfl, 1, rfl, hq.mono fun w I' J' y => ⟨y.1, y.2.1, y.2.2, fun _ e => absurd e (by decide)⟩⟩
  · refine BL_resend_0 ?_
    refine CL_resend_4 hR (Nat.zero_le _) (fun v I1 J1 q => ?_)
    obtain ⟨hv, q⟩ := q
    obtain ⟨r, rfl⟩ : ∃ r : Int32, v = some (.int r) := hv
    refine BL_resend_7 v01 ?_
    rw [t6_0]
    refine BL_resend_15 ?_
    exact RL_resend_16 (Nat.zero_le _) ⟨_, rfl, 0, rfl, (q I1 _ ⟨rfl, fun o ho => up3_ne _ _ _ ho⟩).mono fun w I' J' y => ⟨by rw [y.1]; exact ⟨_, rfl⟩, y.2.1, y.2.2.2, fun _ _ => by rw [y.1, y.2.2.1, up3_v, if_pos ⟨rfl, rfl⟩]; rfl⟩⟩
theorem lhL_letter : lkH mL_letter 4 := ⟨(mw 761 (by decide +kernel) rfl), (mw 41 (by decide +kernel) rfl), by decide +kernel⟩
theorem lsL_letter : Cond.methodLink (cC 8) 142 yL_letter ∈ wAll ∧ Cond.static yL_letter ∈ wAll := ⟨(mw 759 (by decide +kernel) rfl), (mw 760 (by decide +kernel) rfl)⟩
set_option maxHeartbeats 1000000 in
theorem hp_letter (h : Rel m I J I J) (hm : m < 512) (x1 x2 : Int32) : Mz 7 mL_letter [.ref 0, .int x1, .int x2, .ref 158] I J (Hp True mX7_letter [.int x1, .int x2] m) := by
  refine Mz.of (by decide +kernel) (Nat.le_of_ble_eq_true rfl) ?_
  rcases pr_letter h hm x1 x2 with ⟨hc, hq⟩ | ⟨hc, hq⟩ | hR
  · refine BL_letter_0 ?_
    exact Ev.callVC (M := mL_letter) (N := mX6_letter) (i := 63) (n := 2) (As := [.int x1, .int x2]) (rest := [.int 0, .ref 158]) (o := 0) (h := 13) (K := 1) hc dL_letter_5 lbX6_letter lV8_63 (by decide) rfl rfl (by simp only [List.map_cons, List.map_nil, Value.category, List.sum_cons, List.sum_nil]; decide) rfl rfl exm_IB (by decide +kernel) (by decide) ⟨4, 15, 1, by decide, Or.inr ⟨by decide +kernel, rfl⟩, by decide +kernel, by decide, by decide +kernel⟩ rfl (Nat.le_refl _) ⟨_, rfl, 1, rfl, hq.mono fun w I' J' y => ⟨y.1, y.2.1, y.2.2, fun _ e => absurd e (by decide)⟩⟩
  · refine BL_letter_0 ?_
    exact Ev.callVC (M := mL_letter) (N := mX6_letter) (i := 63) (n := 2) (As := [.int x1, .int x2]) (rest := [.int 0, .ref 158]) (o := 0) (h := 17) (K := 2) hc dL_letter_5 lbX6_letter lV8_63 (by decide) rfl rfl (by simp only [List.map_cons, List.map_nil, Value.category, List.sum_cons, List.sum_nil]; decide) rfl rfl exm_IA (by decide +kernel) (by decide) ⟨4, 19, 2, by decide, Or.inr ⟨by decide +kernel, rfl⟩, by decide +kernel, by decide, by decide +kernel⟩ rfl (Nat.le_refl _) ⟨_, rfl, 2, rfl, hq.mono fun w I' J' y => ⟨y.1, y.2.1, y.2.2, fun _ e => absurd e (by decide)⟩⟩
  · refine BL_letter_0 ?_
    refine CL_letter_5 hR (Nat.zero_le _) (fun v I1 J1 q => ?_)
    obtain ⟨hv, q⟩ := q
    obtain ⟨r, rfl⟩ : ∃ r : Int32, v = some (.int r) := hv
    refine BL_letter_8 v01 ?_
    rw [t6_0]
    refine BL_letter_21 ?_
    exact RL_letter_22 (Nat.zero_le _) ⟨_, rfl, 0, rfl, (q I1 _ ⟨rfl, fun o ho => up3_ne _ _ _ ho⟩).mono fun w I' J' y => ⟨by rw [y.1]; exact ⟨_, rfl⟩, y.2.1, y.2.2.2, fun _ _ => by rw [y.1, y.2.2.1, up3_v, if_pos ⟨rfl, rfl⟩]; rfl⟩⟩
theorem lhL_crash : lkH mL_crash 2 := ⟨(mw 772 (by decide +kernel) rfl), (mw 41 (by decide +kernel) rfl), by decide +kernel⟩
theorem lsL_crash : Cond.methodLink (cC 8) 145 yL_crash ∈ wAll ∧ Cond.static yL_crash ∈ wAll := ⟨(mw 770 (by decide +kernel) rfl), (mw 771 (by decide +kernel) rfl)⟩
set_option maxHeartbeats 1000000 in
theorem hp_crash (h : Rel m I J I J) (hm : m < 512) (x1 : Int32) : Mz 7 mL_crash [.ref 0, .int x1] I J (Hp False mX7_crash [.int x1] m) := by
  refine Mz.of (by decide +kernel) (Nat.le_of_ble_eq_true rfl) ?_
  rcases pr_crash h hm x1 with ⟨hc, hq⟩ | ⟨hc, hq⟩ | hR
  · refine BL_crash_0 ?_
    exact Ev.callVC (M := mL_crash) (N := mX6_crash) (i := 66) (n := 1) (As := [.int x1]) (rest := []) (o := 0) (h := 8) (K := 1) hc dL_crash_2 lbX6_crash lV8_66 (by decide) rfl rfl (by simp only [List.map_cons, List.map_nil, Value.category, List.sum_cons, List.sum_nil]; decide) rfl rfl exm_IB (by decide +kernel) (by decide) ⟨2, 9, 1, by decide, Or.inl ⟨2, rfl, by decide +kernel, rfl⟩, by decide +kernel, by decide, by decide +kernel⟩ rfl (Nat.le_refl _) ⟨_, rfl, 1, rfl, hq.mono fun w I' J' y => ⟨y.1, y.2.1, y.2.2, fun _ e => absurd e (by decide)⟩⟩
  · refine BL_crash_0 ?_
    exact Ev.callVC (M := mL_crash) (N := mX6_crash) (i := 66) (n := 1) (As := [.int x1]) (rest := []) (o := 0) (h := 11) (K := 2) hc dL_crash_2 lbX6_crash lV8_66 (by decide) rfl rfl (by simp only [List.map_cons, List.map_nil, Value.category, List.sum_cons, List.sum_nil]; decide) rfl rfl exm_IS (by decide +kernel) (by decide) ⟨2, 12, 2, by decide, Or.inl ⟨2, rfl, by decide +kernel, rfl⟩, by decide +kernel, by decide, by decide +kernel⟩ rfl (Nat.le_refl _) ⟨_, rfl, 2, rfl, hq.mono fun w I' J' y => ⟨y.1, y.2.1, y.2.2, fun _ e => absurd e (by decide)⟩⟩
  · refine BL_crash_0 ?_
    refine CL_crash_2 hR (Nat.zero_le _) (fun v I1 J1 q => ?_)
    obtain ⟨hv, q⟩ := q
    obtain rfl : v = none := hv
    refine BL_crash_5 ?_
    refine BL_crash_14 ?_
    exact RL_crash_15 (Nat.zero_le _) ⟨_, rfl, 0, rfl, (q I1 J1 ⟨rfl, fun _ _ => rfl⟩).mono fun w I' J' y => ⟨by rw [y.1]; exact rfl, y.2.1, y.2.2.2, fun e => e.elim⟩⟩
theorem lhL_restart : lkH mL_restart 3 := ⟨(mw 779 (by decide +kernel) rfl), (mw 41 (by decide +kernel) rfl), by decide +kernel⟩
theorem lsL_restart : Cond.methodLink (cC 8) 148 yL_restart ∈ wAll ∧ Cond.static yL_restart ∈ wAll := ⟨(mw 777 (by decide +kernel) rfl), (mw 778 (by decide +kernel) rfl)⟩
set_option maxHeartbeats 1000000 in
theorem hp_restart (h : Rel m I J I J) (hm : m < 512) (x1 : Int32) : Mz 7 mL_restart [.ref 0, .int x1, .ref 158] I J (Hp True mX7_restart [.int x1] m) := by
  refine Mz.of (by decide +kernel) (Nat.le_of_ble_eq_true rfl) ?_
  rcases pr_restart h hm x1 with ⟨hc, hq⟩ | hR
  · refine BL_restart_0 ?_
    exact Ev.callVC (M := mL_restart) (N := mX6_restart) (i := 69) (n := 1) (As := [.int x1]) (rest := [.int 0, .ref 158]) (o := 0) (h := 19) (K := 1) hc dL_restart_4 lbX6_restart lV8_69 (by decide) rfl rfl (by simp only [List.map_cons, List.map_nil, Value.category, List.sum_cons, List.sum_nil]; decide) rfl rfl exm_IB (by decide +kernel) (by decide) ⟨3, 20, 1, by decide, Or.inl ⟨3, rfl, by decide +kernel, rfl⟩, by decide +kernel, by decide, by decide +kernel⟩ rfl (Nat.le_refl _) ⟨_, rfl, 1, rfl, hq.mono fun w I' J' y => ⟨y.1, y.2.1, y.2.2, fun _ e => absurd e (by decide)⟩⟩
  · refine BL_restart_0 ?_
    refine CL_restart_4 hR (Nat.zero_le _) (fun v I1 J1 q => ?_)
    obtain ⟨hv, q⟩ := q
    obtain ⟨r, rfl, hr⟩ : ∃ r : Int32, v = some (.int r) ∧ (r = 0 ∨ r = 1) := hv
    rcases hr with rfl | rfl
    · refine IL_restart_7 (fun _ => ?_) (fun y => absurd rfl y)
      refine BL_restart_14 ?_
      refine BL_restart_15 v01 ?_
      rw [t6_0]
      refine BL_restart_22 ?_
      exact RL_restart_23 (Nat.zero_le _) ⟨_, rfl, 0, rfl, (q I1 _ ⟨rfl, fun o ho => up3_ne _ _ _ ho⟩).mono fun w I' J' y => ⟨by rw [y.1]; exact ⟨_, rfl, Or.inl rfl⟩, y.2.1, y.2.2.2, fun _ _ => by rw [y.1, y.2.2.1, up3_v, if_pos ⟨rfl, rfl⟩]; rfl⟩⟩
    · refine IL_restart_7 (fun y => absurd y (by decide)) (fun _ => ?_)
      refine BL_restart_10 ?_
      refine BL_restart_15 v01 ?_
      rw [t6_0]
      refine BL_restart_22 ?_
      exact RL_restart_23 (Nat.zero_le _) ⟨_, rfl, 0, rfl, (q I1 _ ⟨rfl, fun o ho => up3_ne _ _ _ ho⟩).mono fun w I' J' y => ⟨by rw [y.1]; exact ⟨_, rfl, Or.inr rfl⟩, y.2.1, y.2.2.2, fun _ _ => by rw [y.1, y.2.2.1, up3_v, if_pos ⟨rfl, rfl⟩]; rfl⟩⟩
theorem lhL_about : lkH mL_about 4 := ⟨(mw 791 (by decide +kernel) rfl), (mw 41 (by decide +kernel) rfl), by decide +kernel⟩
theorem lsL_about : Cond.methodLink (cC 8) 156 yL_about ∈ wAll ∧ Cond.static yL_about ∈ wAll := ⟨(mw 789 (by decide +kernel) rfl), (mw 790 (by decide +kernel) rfl)⟩
set_option maxHeartbeats 1000000 in
theorem hp_about (h : Rel m I J I J) (hm : m < 512) (x1 x2 : Int32) : Mz 7 mL_about [.ref 0, .int x1, .int x2, .ref 158] I J (Hp True mX7_about [.int x1, .int x2] m) := by
  refine Mz.of (by decide +kernel) (Nat.le_of_ble_eq_true rfl) ?_
  rcases pr_about h hm x1 x2 with ⟨hc, hq⟩ | ⟨hc, hq⟩ | hR
  · refine BL_about_0 ?_
    exact Ev.callVC (M := mL_about) (N := mX6_about) (i := 73) (n := 2) (As := [.int x1, .int x2]) (rest := [.int 0, .ref 158]) (o := 0) (h := 12) (K := 1) hc dL_about_5 lbX6_about lV8_73 (by decide) rfl rfl (by simp only [List.map_cons, List.map_nil, Value.category, List.sum_cons, List.sum_nil]; decide) rfl rfl exm_IB (by decide +kernel) (by decide) ⟨4, 14, 1, by decide, Or.inr ⟨by decide +kernel, rfl⟩, by decide +kernel, by decide, by decide +kernel⟩ rfl (Nat.le_refl _) ⟨_, rfl, 1, rfl, hq.mono fun w I' J' y => ⟨y.1, y.2.1, y.2.2, fun _ e => absurd e (by decide)⟩⟩
  · refine BL_about_0 ?_
    exact Ev.callVC (M := mL_about) (N := mX6_about) (i := 73) (n := 2) (As := [.int x1, .int x2]) (rest := [.int 0, .ref 158]) (o := 0) (h := 16) (K := 2) hc dL_about_5 lbX6_about lV8_73 (by decide) rfl rfl (by simp only [List.map_cons, List.map_nil, Value.category, List.sum_cons, List.sum_nil]; decide) rfl rfl exm_IA (by decide +kernel) (by decide) ⟨4, 18, 2, by decide, Or.inr ⟨by decide +kernel, rfl⟩, by decide +kernel, by decide, by decide +kernel⟩ rfl (Nat.le_refl _) ⟨_, rfl, 2, rfl, hq.mono fun w I' J' y => ⟨y.1, y.2.1, y.2.2, fun _ e => absurd e (by decide)⟩⟩
  · refine BL_about_0 ?_
    refine CL_about_5 hR (Nat.zero_le _) (fun v I1 J1 q => ?_)
    obtain ⟨hv, q⟩ := q
    obtain ⟨r, rfl⟩ : ∃ r : Int64, v = some (.long r) := hv
    refine BL_about_8 v01 ?_
    rw [t6_0]
    refine BL_about_20 ?_
    exact RL_about_21 (Nat.zero_le _) ⟨_, rfl, 0, rfl, (q I1 _ ⟨rfl, fun o ho => up3_ne _ _ _ ho⟩).mono fun w I' J' y => ⟨by rw [y.1]; exact ⟨_, rfl⟩, y.2.1, y.2.2.2, fun _ _ => by rw [y.1, y.2.2.1, up3_v, if_pos ⟨rfl, rfl⟩]; rfl⟩⟩
theorem lhL_has : lkH mL_has 5 := ⟨(mw 798 (by decide +kernel) rfl), (mw 41 (by decide +kernel) rfl), by decide +kernel⟩
theorem lsL_has : Cond.methodLink (cC 8) 159 yL_has ∈ wAll ∧ Cond.static yL_has ∈ wAll := ⟨(mw 796 (by decide +kernel) rfl), (mw 797 (by decide +kernel) rfl)⟩
set_option maxHeartbeats 1000000 in
theorem hp_has (h : Rel m I J I J) (hm : m < 512) (x1 x2 x3 : Int32) : Mz 7 mL_has [.ref 0, .int x1, .int x2, .int x3, .ref 158] I J (Hp True mX7_has [.int x1, .int x2, .int x3] m) := by
  refine Mz.of (by decide +kernel) (Nat.le_of_ble_eq_true rfl) ?_
  rcases pr_has h hm x1 x2 x3 with ⟨hc, hq⟩ | ⟨hc, hq⟩ | hR
  · refine BL_has_0 ?_
    exact Ev.callVC (M := mL_has) (N := mX6_has) (i := 77) (n := 3) (As := [.int x1, .int x2, .int x3]) (rest := [.int 0, .ref 158]) (o := 0) (h := 15) (K := 1) hc dL_has_7 lbX6_has lV8_77 (by decide) rfl rfl (by simp only [List.map_cons, List.map_nil, Value.category, List.sum_cons, List.sum_nil]; decide) rfl rfl exm_IB (by decide +kernel) (by decide) ⟨5, 17, 1, by decide, Or.inr ⟨by decide +kernel, rfl⟩, by decide +kernel, by decide, by decide +kernel⟩ rfl (Nat.le_refl _) ⟨_, rfl, 1, rfl, hq.mono fun w I' J' y => ⟨y.1, y.2.1, y.2.2, fun _ e => absurd e (by decide)⟩⟩
  · refine BL_has_0 ?_
    exact Ev.callVC (M := mL_has) (N := mX6_has) (i := 77) (n := 3) (As := [.int x1, .int x2, .int x3]) (rest := [.int 0, .ref 158]) (o := 0) (h := 19) (K := 2) hc dL_has_7 lbX6_has lV8_77 (by decide) rfl rfl (by simp only [List.map_cons, List.map_nil, Value.category, List.sum_cons, List.sum_nil]; decide) rfl rfl exm_IA (by decide +kernel) (by decide) ⟨5, 21, 2, by decide, Or.inr ⟨by decide +kernel, rfl⟩, by decide +kernel, by decide, by decide +kernel⟩ rfl (Nat.le_refl _) ⟨_, rfl, 2, rfl, hq.mono fun w I' J' y => ⟨y.1, y.2.1, y.2.2, fun _ e => absurd e (by decide)⟩⟩
  · refine BL_has_0 ?_
    refine CL_has_7 hR (Nat.zero_le _) (fun v I1 J1 q => ?_)
    obtain ⟨hv, q⟩ := q
    obtain ⟨r, rfl⟩ : ∃ r : Int32, v = some (.int r) := hv
    refine BL_has_10 v01 ?_
    rw [t6_0]
    refine BL_has_23 ?_
    exact RL_has_24 (Nat.zero_le _) ⟨_, rfl, 0, rfl, (q I1 _ ⟨rfl, fun o ho => up3_ne _ _ _ ho⟩).mono fun w I' J' y => ⟨by rw [y.1]; exact ⟨_, rfl⟩, y.2.1, y.2.2.2, fun _ _ => by rw [y.1, y.2.2.1, up3_v, if_pos ⟨rfl, rfl⟩]; rfl⟩⟩
theorem lhL_busiest : lkH mL_busiest 3 := ⟨(mw 805 (by decide +kernel) rfl), (mw 41 (by decide +kernel) rfl), by decide +kernel⟩
theorem lsL_busiest : Cond.methodLink (cC 8) 171 yL_busiest ∈ wAll ∧ Cond.static yL_busiest ∈ wAll := ⟨(mw 803 (by decide +kernel) rfl), (mw 804 (by decide +kernel) rfl)⟩
set_option maxHeartbeats 1000000 in
theorem hp_busiest (h : Rel m I J I J) (hm : m < 512) (x1 : Int32) : Mz 7 mL_busiest [.ref 0, .int x1, .ref 158] I J (Hp True mX7_busiest [.int x1] m) := by
  refine Mz.of (by decide +kernel) (Nat.le_of_ble_eq_true rfl) ?_
  rcases pr_busiest h hm x1 with ⟨hc, hq⟩ | hR
  · refine BL_busiest_0 ?_
    exact Ev.callVC (M := mL_busiest) (N := mX6_busiest) (i := 81) (n := 1) (As := [.int x1]) (rest := [.int 0, .ref 158]) (o := 0) (h := 12) (K := 1) hc dL_busiest_4 lbX6_busiest lV8_81 (by decide) rfl rfl (by simp only [List.map_cons, List.map_nil, Value.category, List.sum_cons, List.sum_nil]; decide) rfl rfl exm_IA (by decide +kernel) (by decide) ⟨3, 13, 1, by decide, Or.inl ⟨3, rfl, by decide +kernel, rfl⟩, by decide +kernel, by decide, by decide +kernel⟩ rfl (Nat.le_refl _) ⟨_, rfl, 1, rfl, hq.mono fun w I' J' y => ⟨y.1, y.2.1, y.2.2, fun _ e => absurd e (by decide)⟩⟩
  · refine BL_busiest_0 ?_
    refine CL_busiest_4 hR (Nat.zero_le _) (fun v I1 J1 q => ?_)
    obtain ⟨hv, q⟩ := q
    obtain ⟨r, rfl⟩ : ∃ r : Int32, v = some (.int r) := hv
    refine BL_busiest_7 v01 ?_
    rw [t6_0]
    refine BL_busiest_15 ?_
    exact RL_busiest_16 (Nat.zero_le _) ⟨_, rfl, 0, rfl, (q I1 _ ⟨rfl, fun o ho => up3_ne _ _ _ ho⟩).mono fun w I' J' y => ⟨by rw [y.1]; exact ⟨_, rfl⟩, y.2.1, y.2.2.2, fun _ _ => by rw [y.1, y.2.2.1, up3_v, if_pos ⟨rfl, rfl⟩]; rfl⟩⟩
theorem lhL_count : lkH mL_count 3 := ⟨(mw 817 (by decide +kernel) rfl), (mw 41 (by decide +kernel) rfl), by decide +kernel⟩
theorem lsL_count : Cond.methodLink (cC 8) 174 yL_count ∈ wAll ∧ Cond.static yL_count ∈ wAll := ⟨(mw 815 (by decide +kernel) rfl), (mw 816 (by decide +kernel) rfl)⟩
set_option maxHeartbeats 1000000 in
theorem hp_count (h : Rel m I J I J) (hm : m < 512) (x1 : Int32) : Mz 7 mL_count [.ref 0, .int x1, .ref 158] I J (Hp True mX7_count [.int x1] m) := by
  refine Mz.of (by decide +kernel) (Nat.le_of_ble_eq_true rfl) ?_
  rcases pr_count h hm x1 with ⟨hc, hq⟩ | hR
  · refine BL_count_0 ?_
    exact Ev.callVC (M := mL_count) (N := mX6_count) (i := 84) (n := 1) (As := [.int x1]) (rest := [.int 0, .ref 158]) (o := 0) (h := 12) (K := 1) hc dL_count_4 lbX6_count lV8_84 (by decide) rfl rfl (by simp only [List.map_cons, List.map_nil, Value.category, List.sum_cons, List.sum_nil]; decide) rfl rfl exm_IA (by decide +kernel) (by decide) ⟨3, 13, 1, by decide, Or.inl ⟨3, rfl, by decide +kernel, rfl⟩, by decide +kernel, by decide, by decide +kernel⟩ rfl (Nat.le_refl _) ⟨_, rfl, 1, rfl, hq.mono fun w I' J' y => ⟨y.1, y.2.1, y.2.2, fun _ e => absurd e (by decide)⟩⟩
  · refine BL_count_0 ?_
    refine CL_count_4 hR (Nat.zero_le _) (fun v I1 J1 q => ?_)
    obtain ⟨hv, q⟩ := q
    obtain ⟨r, rfl⟩ : ∃ r : Int32, v = some (.int r) := hv
    refine BL_count_7 v01 ?_
    rw [t6_0]
    refine BL_count_15 ?_
    exact RL_count_16 (Nat.zero_le _) ⟨_, rfl, 0, rfl, (q I1 _ ⟨rfl, fun o ho => up3_ne _ _ _ ho⟩).mono fun w I' J' y => ⟨by rw [y.1]; exact ⟨_, rfl⟩, y.2.1, y.2.2.2, fun _ _ => by rw [y.1, y.2.2.1, up3_v, if_pos ⟨rfl, rfl⟩]; rfl⟩⟩
end HP
