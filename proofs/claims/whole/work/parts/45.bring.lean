/-! letters that come -/
section BR
variable {d : Nat} {I : T2} {J : T3}
def grC (I : T2) (a s : Nat) (w n : Int32) : T2 := if n ≤ 0 then I else sndC (auC I w (-n)) (a + 9) s 2 w n 0
theorem auC_o {w n : Int32} {o : Nat} (h : o ≠ 3) : auC I w n o = I o := by
  unfold auC
  by_cases c : slI w (I 2 4) = -1
  · rw [if_pos c]
  · rw [if_neg c, up2_ne _ _ _ h]
theorem PlOk_e {I' : T2} {f n : Nat} (h : PlOk I f n) (e : I' 12 = I 12) : PlOk I' f n := ⟨by rw [e]; exact h.1, by rw [e]; exact h.2.1, h.2.2⟩
theorem sp_grant {a : Nat} (hk : kd a = 1) {f m s : Nat} {w n : Int32} (h : PlOk I f m) (hs : I (a + 9) 5 = nI s) (hs2 : s < 2 ^ 30) : Mt (d + 2) mX6_grant [.ref 0, .ref a, .int w, .int n] I J (RI n (grC I a s w n) J) := by
  have ha := gate_lt hk
  have hk9 := kg_9 hk
  have hP : PlOk (auC I w (-n)) f m := PlOk_e h (auC_o (by decide))
  have hS : auC I w (-n) (a + 9) 5 = nI s := by rw [auC_o (by omega)]; exact hs
  refine Mt.of (by decide +kernel) (Nat.le_of_ble_eq_true rfl) ?_
  refine BX6_grant_0 ?_
  unfold grC
  refine IX6_grant_1 (fun c => ?_) (fun c => ?_)
  · rw [if_pos c]
    refine BX6_grant_29  ?_
    exact RX6_grant_30  (Nat.zero_le _) ⟨_, rfl, ⟨rfl, rfl, rfl⟩⟩
  · rw [if_neg c]
    refine BX6_grant_4  ?_
    refine CX6_grant_11 (sp_addUnits w (-n)) (Nat.zero_le _) (fun v11 I11 J11 q11 => ?_)
    obtain ⟨rfl, rfl, rfl⟩ := q11
    refine BX6_grant_14 (by assumption) ?_
    refine CX6_grant_26 (by assumption) (sp_send hk9 hP hS hs2 _ _ _ _) (Nat.zero_le _) (fun v26 I26 J26 q26 => ?_)
    obtain ⟨rfl, rfl, rfl⟩ := q26
    refine BX6_grant_29  ?_
    exact RX6_grant_30  (Nat.zero_le _) ⟨_, rfl, ⟨rfl, rfl, rfl⟩⟩
def hpC (I : T2) (gi s : Nat) : T2 := if slI (I 23 3) (I 2 4) = -1 then I else if I 2 5 = 0 then (if shC I (gP gi + 9) = 0 then grC I (gP gi) s (I 23 3) (if I 3 (slI (I 23 3) (I 2 4)).toNatClampNeg < I 23 4 then I 3 (slI (I 23 3) (I 2 4)).toNatClampNeg else I 23 4) else I) else up2 (up2 I (4 + 1 + (slI (I 23 3) (I 2 4)).toNatClampNeg) gi (I (4 + 1 + (slI (I 23 3) (I 2 4)).toNatClampNeg) gi + I 23 4)) (8 + 1 + (slI (I 23 3) (I 2 4)).toNatClampNeg) gi (I 23 5)
set_option maxHeartbeats 1000000 in
theorem sp_hear {gi : Nat} (hg : gi < 8) (h1 : I 23 1 = nI gi) {f m s : Nat} (h : PlOk I f m) (hs : I (gP gi + 9) 5 = nI s) (hs2 : s < 2 ^ 30) : Mt (d + 3) mX6_hearPlea [.ref 0, .ref (gP gi)] I J (RV (hpC I gi s) J) := by
  have hk : kd (gP gi) = 1 := kgt hg
  have hk9 := kg_9 hk
  refine Mt.of (by decide +kernel) (Nat.le_of_ble_eq_true rfl) ?_
  refine BX6_hearPlea_0 v6_3 ?_
  rw [t6_3]
  refine CX6_hearPlea_15 (sp_slot _ _) (Nat.zero_le _) (fun v I1 J1 q1 => ?_)
  obtain ⟨rfl, rfl, rfl⟩ := q1
  refine BX6_hearPlea_18 ?_
  unfold hpC
  refine IX6_hearPlea_21 (fun cs => ?_) (fun cs => ?_)
  · have hsl := sl_in _ _ cs
    have hsl3 := vp_lt hsl
    rw [if_neg cs]
    refine BX6_hearPlea_25 ?_
    refine IX6_hearPlea_32 (fun c => ?_) (fun c => ?_)
    · rw [if_pos c]
      refine BX6_hearPlea_85 hk ?_
      refine CX6_hearPlea_89 hk9 (sp_isShut hk9) (Nat.zero_le _) (fun v I1 J1 q1 => ?_)
      obtain ⟨rfl, rfl, rfl⟩ := q1
      refine IX6_hearPlea_92 (fun c2 => ?_) (fun c2 => ?_)
      · rw [if_neg c2]
        exact RX6_hearPlea_120  (Nat.zero_le _) ⟨_, rfl, ⟨rfl, rfl, rfl⟩⟩
      · rw [if_pos (Classical.not_not.mp c2)]
        refine BX6_hearPlea_95 v6_4 hsl ?_
        rw [t6_4]
        refine CX6_hearPlea_113 (sp_min _ _) (Nat.zero_le _) (fun v I1 J1 q1 => ?_)
        obtain ⟨rfl, rfl, rfl⟩ := q1
        refine CX6_hearPlea_116 (sp_grant hk h hs hs2) (Nat.zero_le _) (fun v I1 J1 q1 => ?_)
        obtain ⟨rfl, rfl, rfl⟩ := q1
        refine BX6_hearPlea_119 ?_
        exact RX6_hearPlea_120 (Nat.zero_le _) ⟨_, rfl, rfl, rfl, rfl⟩
    · rw [if_neg c]
      have e1 : ∀ v : Int32, up2 I (4 + 1 + (slI (I 23 3) (I 2 4)).toNatClampNeg) gi v 23 = I 23 := fun v => up2_ne _ _ _ (by omega)
      refine BX6_hearPlea_35 hsl v6_1 (by rw [t6_1, h1]; exact vp_in_nI hg (by decide)) v6_4 v6_5 (by rw [t6_1, h1, nI_clamp (by omega), e1, h1]; exact vp_in_nI hg (by decide)) ?_
      rw [t6_1, t6_4, t6_5, h1, nI_clamp (by omega), e1, h1, nI_clamp (by omega)]
      exact RX6_hearPlea_120 (Nat.zero_le _) ⟨_, rfl, rfl, rfl, rfl⟩
  · rw [if_pos (Classical.not_not.mp cs)]
    exact RX6_hearPlea_24  (Nat.zero_le _) ⟨_, rfl, ⟨rfl, rfl, rfl⟩⟩
def rcC (I : T2) (u : Int32) (y : Nat) : Int32 × T2 := if u = 0 then (0, I) else (2, mkC I y (I 23 2))
theorem sp_comeR {y : Nat} (hk : kd y = 5) (u : Int32) : Mt (d + 2) mX6_comeAsReceipt [.ref 0, .int u, .ref y] I J (RI (rcC I u y).1 (rcC I u y).2 J) := by
  refine Mt.of (by decide +kernel) (Nat.le_of_ble_eq_true rfl) ?_
  refine BX6_comeAsReceipt_0 ?_
  unfold rcC
  refine IX6_comeAsReceipt_1 (fun c => ?_) (fun c => ?_)
  · rw [if_neg c]
    refine BX6_comeAsReceipt_6 v6_2 ?_
    rw [t6_2]
    refine CX6_comeAsReceipt_13 hk (sp_mark hk _) (Nat.zero_le _) (fun v I1 J1 q1 => ?_)
    obtain ⟨rfl, rfl, rfl⟩ := q1
    refine BX6_comeAsReceipt_16 ?_
    exact RX6_comeAsReceipt_17 (Nat.zero_le _) ⟨_, rfl, rfl, rfl, rfl⟩
  · rw [if_pos (Classical.not_not.mp c)]
    refine BX6_comeAsReceipt_4  ?_
    exact RX6_comeAsReceipt_5  (Nat.zero_le _) ⟨_, rfl, ⟨rfl, rfl, rfl⟩⟩
def rpC (I : T2) (y : Nat) (so : Int32) : T2 := putC I so (I y 0) (I y 7) 0 0 0
def ctgC (I : T2) (a : Nat) : Int32 × T2 := if I a 8 = 0 then (0, I) else if I 23 2 = I (a + 9) 7 + 1 then (1, rpC (asC (up2 I (a + 9) 7 (I 23 2)) a (I 23 3) (I 23 4)) (a + 9) 4) else (0, rpC I (a + 9) 4)
theorem sp_comeG {a : Nat} (hk : kd a = 1) {f m : Nat} (h : PlOk I f m) : Mt (d + 2) mX6_comeToGate [.ref 0, .ref a] I J (RI (ctgC I a).1 (ctgC I a).2 J) := by
  have ha := gate_lt hk
  have hk9 := kg_9 hk
  refine Mt.of (by decide +kernel) (Nat.le_of_ble_eq_true rfl) ?_
  refine BX6_comeToGate_0 hk ?_
  unfold ctgC
  refine IX6_comeToGate_4 (fun c => ?_) (fun c => ?_)
  · rw [if_neg c]
    refine BX6_comeToGate_9 hk v6_2 ?_
    rw [t6_2]
    by_cases cn : I 23 2 = I (a + 9) 7 + 1
    · rw [if_pos cn]
      refine CX6_comeToGate_19 hk9 (sp_take1 hk9 cn) (Nat.zero_le _) (fun v I1 J1 q1 => ?_)
      obtain ⟨rfl, rfl, rfl⟩ := q1
      refine BX6_comeToGate_22 ?_
      refine IX6_comeToGate_24 (fun c => absurd c (by decide)) (fun c => ?_)
      refine BX6_comeToGate_27 v6_3 v6_4 ?_
      rw [t6_3, t6_4, up2_ne _ _ _ (by omega)]
      refine CX6_comeToGate_40 hk (sp_addShare hk _ _) (Nat.zero_le _) (fun v I1 J1 q1 => ?_)
      obtain ⟨rfl, rfl, rfl⟩ := q1
      refine BX6_comeToGate_43 hk ?_
      refine CX6_comeToGate_52 hk9 (sp_sendR hk9 (PlOk_e (PlOk_e h (up2_ne _ _ _ (by omega))) (asC_o (by omega))) 4) (Nat.zero_le _) (fun v I1 J1 q1 => ?_)
      obtain ⟨rfl, rfl, rfl⟩ := q1
      refine BX6_comeToGate_55 ?_
      refine IX6_comeToGate_56 (fun c => absurd c (by decide)) (fun c => ?_)
      refine BX6_comeToGate_59  ?_
      exact RX6_comeToGate_64  (Nat.zero_le _) ⟨_, rfl, ⟨rfl, rfl, rfl⟩⟩
    · rw [if_neg cn]
      refine CX6_comeToGate_19 hk9 (sp_take0 hk9 cn) (Nat.zero_le _) (fun v I1 J1 q1 => ?_)
      obtain ⟨rfl, rfl, rfl⟩ := q1
      refine BX6_comeToGate_22 ?_
      refine IX6_comeToGate_24 (fun c => ?_) (fun c => absurd rfl c)
      refine BX6_comeToGate_43 hk ?_
      refine CX6_comeToGate_52 hk9 (sp_sendR hk9 h 4) (Nat.zero_le _) (fun v I1 J1 q1 => ?_)
      obtain ⟨rfl, rfl, rfl⟩ := q1
      refine BX6_comeToGate_55 ?_
      refine IX6_comeToGate_56 (fun c => ?_) (fun c => absurd rfl c)
      refine BX6_comeToGate_63  ?_
      exact RX6_comeToGate_64  (Nat.zero_le _) ⟨_, rfl, ⟨rfl, rfl, rfl⟩⟩
  · rw [if_pos (Classical.not_not.mp c)]
    refine BX6_comeToGate_7  ?_
    exact RX6_comeToGate_8  (Nat.zero_le _) ⟨_, rfl, ⟨rfl, rfl, rfl⟩⟩
def ctdC (I : T2) (gi s : Nat) : Int32 × T2 := if I 2 6 = 0 then (0, I) else if I 23 2 = I (gP gi + 4) 7 + 1 then (1, rpC (if I 23 0 = 0 then hpC (up2 I (gP gi + 4) 7 (I 23 2)) gi s else auC (up2 I (gP gi + 4) 7 (I 23 2)) (I 23 3) (I 23 4)) (gP gi + 4) 3) else (0, rpC I (gP gi + 4) 3)
theorem sndC_ok {a s f m : Nat} {so w n t : Int32} (ha : 24 ≤ a) (h : PlOk I f m) : ∃ m', PlOk (sndC I a s so w n t) f m' := by
  unfold sndC
  refine ⟨_, putC_ok (f := f) (n := m) (PlOk_e h ?_) _ _ _ _ _ _⟩
  unfold rgC
  rw [up2_ne _ _ _ (by omega), up2_ne _ _ _ (by omega), up2_ne _ _ _ (by omega), up2_ne _ _ _ (by omega), up2_ne _ _ _ (by omega)]
theorem grC_ok {a s f m : Nat} {w n : Int32} (ha : 24 ≤ a) (h : PlOk I f m) : ∃ m', PlOk (grC I a s w n) f m' := by
  unfold grC
  by_cases c : n ≤ 0
  · rw [if_pos c]; exact ⟨m, h⟩
  · rw [if_neg c]; exact sndC_ok (by omega) (PlOk_e h (auC_o (by decide)))
theorem hpC_ok {gi s f m : Nat} (h : PlOk I f m) : ∃ m', PlOk (hpC I gi s) f m' := by
  have hgp : gP gi = 24 + 14 * gi := rfl
  unfold hpC
  by_cases c1 : slI (I 23 3) (I 2 4) = -1
  · rw [if_pos c1]; exact ⟨m, h⟩
  · rw [if_neg c1]
    by_cases c2 : I 2 5 = 0
    · rw [if_pos c2]
      by_cases c3 : shC I (gP gi + 9) = 0
      · rw [if_pos c3]; exact grC_ok (by omega) h
      · rw [if_neg c3]; exact ⟨m, h⟩
    · have h3 := vp_lt (sl_in _ _ c1)
      rw [if_neg c2]
      exact ⟨m, PlOk_e h (by rw [up2_ne _ _ _ (by omega), up2_ne _ _ _ (by omega)])⟩
set_option maxHeartbeats 1000000 in
theorem sp_comeD {gi : Nat} (hg : gi < 8) (h1 : I 23 1 = nI gi) {f m s : Nat} (h : PlOk I f m) (hs : I (gP gi + 9) 5 = nI s) (hs2 : s < 2 ^ 30) : Mt (d + 4) mX6_comeToDesk [.ref 0, .ref (gP gi)] I J (RI (ctdC I gi s).1 (ctdC I gi s).2 J) := by
  have hgp : gP gi = 24 + 14 * gi := rfl
  have hk : kd (gP gi) = 1 := kgt hg
  have hk4 := kg_4 hk
  refine Mt.of (by decide +kernel) (Nat.le_of_ble_eq_true rfl) ?_
  refine BX6_comeToDesk_0 ?_
  unfold ctdC
  refine IX6_comeToDesk_7 (fun c => ?_) (fun c => ?_)
  · rw [if_neg c]
    refine BX6_comeToDesk_12 hk v6_2 ?_
    rw [t6_2]
    by_cases cn : I 23 2 = I (gP gi + 4) 7 + 1
    · rw [if_pos cn]
      refine CX6_comeToDesk_22 hk4 (sp_take1 hk4 cn) (Nat.zero_le _) (fun v I1 J1 q1 => ?_)
      obtain ⟨rfl, rfl, rfl⟩ := q1
      refine BX6_comeToDesk_25 ?_
      refine IX6_comeToDesk_27 (fun c => absurd c (by decide)) (fun c => ?_)
      refine BX6_comeToDesk_30 v6_0 ?_
      rw [t6_0, show up2 I (gP gi + 4) 7 (I 23 2) 23 = I 23 from up2_ne _ _ _ (by omega)]
      have e23 : up2 I (gP gi + 4) 7 (I 23 2) 23 = I 23 := up2_ne _ _ _ (by omega)
      have hP1 : PlOk (up2 I (gP gi + 4) 7 (I 23 2)) f m := PlOk_e h (up2_ne _ _ _ (by omega))
      have fin : ∀ (I1 : T2) (m' : Nat), PlOk I1 f m' → Ev (d + 4) 0 0 (fun _ => 0) mX6_comeToDesk 70 [some (.ref 0), some (.ref (gP gi)), some (.int 1)] [] I1 J 0 (fun o I' J' _ => ∃ w, o = .inl w ∧ RI 1 (rpC I1 (gP gi + 4) 3) J w I' J') := by
        intro I1 m' hP
        refine BX6_comeToDesk_70 hk ?_
        refine CX6_comeToDesk_79 hk4 (sp_sendR hk4 hP 3) (Nat.zero_le _) (fun v I2 J2 q2 => ?_)
        obtain ⟨rfl, rfl, rfl⟩ := q2
        refine BX6_comeToDesk_82 ?_
        refine IX6_comeToDesk_83 (fun c => absurd c (by decide)) (fun c => ?_)
        refine BX6_comeToDesk_86  ?_
        exact RX6_comeToDesk_91  (Nat.zero_le _) ⟨_, rfl, ⟨rfl, rfl, rfl⟩⟩
      refine IX6_comeToDesk_36 (fun c0 => ?_) (fun c0 => ?_)
      · rw [if_neg c0]
        refine BX6_comeToDesk_47 ?_
        refine IX6_comeToDesk_48 (fun c => absurd c (by decide)) (fun c => ?_)
        refine BX6_comeToDesk_51 v6_3 v6_4 ?_
        rw [t6_3, t6_4, e23]
        refine CX6_comeToDesk_67 (sp_addUnits _ _) (Nat.zero_le _) (fun v I2 J2 q2 => ?_)
        obtain ⟨rfl, rfl, rfl⟩ := q2
        exact fin _ m (PlOk_e hP1 (auC_o (by decide)))
      · rw [if_pos (Classical.not_not.mp c0)]
        refine BX6_comeToDesk_39 ?_
        refine CX6_comeToDesk_41 (sp_hear hg (by rw [e23]; exact h1) hP1 (by rw [up2_ne _ _ _ (by omega)]; exact hs) hs2) (Nat.zero_le _) (fun v I2 J2 q2 => ?_)
        obtain ⟨rfl, rfl, rfl⟩ := q2
        obtain ⟨m', hm'⟩ := hpC_ok (gi := gi) (s := s) hP1
        refine BX6_comeToDesk_44 ?_
        exact fin _ m' hm'
    · rw [if_neg cn]
      refine CX6_comeToDesk_22 hk4 (sp_take0 hk4 cn) (Nat.zero_le _) (fun v I1 J1 q1 => ?_)
      obtain ⟨rfl, rfl, rfl⟩ := q1
      refine BX6_comeToDesk_25 ?_
      refine IX6_comeToDesk_27 (fun c => ?_) (fun c => absurd rfl c)
      refine BX6_comeToDesk_47 ?_
      refine IX6_comeToDesk_48 (fun c => ?_) (fun c => absurd rfl c)
      refine BX6_comeToDesk_70 hk ?_
      refine CX6_comeToDesk_79 hk4 (sp_sendR hk4 h 3) (Nat.zero_le _) (fun v I1 J1 q1 => ?_)
      obtain ⟨rfl, rfl, rfl⟩ := q1
      refine BX6_comeToDesk_82 ?_
      refine IX6_comeToDesk_83 (fun c => ?_) (fun c => absurd rfl c)
      refine BX6_comeToDesk_90  ?_
      exact RX6_comeToDesk_91  (Nat.zero_le _) ⟨_, rfl, ⟨rfl, rfl, rfl⟩⟩
  · rw [if_pos (Classical.not_not.mp c)]
    refine BX6_comeToDesk_10  ?_
    exact RX6_comeToDesk_11  (Nat.zero_le _) ⟨_, rfl, ⟨rfl, rfl, rfl⟩⟩
theorem remC_o {f n i o : Nat} (h1 : o ≠ 12) (h2 : o ≠ 13) : remC I f n i o = I o := by
  unfold remC
  by_cases c : i = 0
  · rw [if_pos c, up2_ne _ _ _ h1, up2_ne _ _ _ h1]
  · rw [if_neg c, up2_ne _ _ _ h1, upr_ne _ _ h2]
theorem remC_ok {f n i : Nat} (h : PlOk I f n) (hi : i < n) : PlOk (remC I f n i) (if i = 0 then (f + 1) % 200 else f) (n - 1) := by
  obtain ⟨h1, h2, h3, h4⟩ := h
  unfold remC
  by_cases c : i = 0
  · rw [if_pos c, if_pos c]
    exact ⟨by rw [up2_k _ _ _ (by decide), up2_s], by rw [up2_s], Nat.mod_lt _ (by decide), by omega⟩
  · rw [if_neg c, if_neg c]
    exact ⟨by rw [up2_k _ _ _ (by decide), upr_ne _ _ (by decide)]; exact h1, by rw [up2_s], h3, by omega⟩
/-- the letter i opened and taken out of the pool -/
def opC (I : T2) (f n i : Nat) : T2 := remC (cpyC I f i) f n i
theorem opC_23 {f n i c : Nat} (hc : c < 6) : opC I f n i 23 c = ltC I f i c := by
  unfold opC
  rw [remC_o (by decide) (by decide), cpyC_c hc]
theorem opC_o {f n i o : Nat} (h1 : o ≠ 12) (h2 : o ≠ 13) (h3 : o ≠ 23) : opC I f n i o = I o := by
  unfold opC cpyC
  rw [remC_o h1 h2, upr_ne _ _ h3]
def brC (I : T2) (f n i so gi s : Nat) : Int32 × T2 := if so = 2 then ctgC (opC I f n i) (gP gi) else if so = 3 then rcC (opC I f n i) (I (gP gi) 8) (gP gi + 4) else if so = 4 then rcC (opC I f n i) (I 2 6) (gP gi + 9) else ctdC (opC I f n i) gi s
set_option maxHeartbeats 1000000 in
theorem sp_bring {f n i so gi s : Nat} (h : PlOk I f n) (hi : i < n) (hso : ltC I f i 0 = nI so) (hso5 : so < 5) (hgi : ltC I f i 1 = nI gi) (hg : gi < 8) (hs : I (gP gi + 9) 5 = nI s) (hs2 : s < 2 ^ 30) : Mt (d + 5) mX6_bring [.ref 0, .int (nI i)] I J (RI (brC I f n i so gi s).1 (brC I f n i so gi s).2 J) := by
  have hgp : gP gi = 24 + 14 * gi := rfl
  have hk : kd (gP gi) = 1 := kgt hg
  have hn := h.2.2.2
  have hP := remC_ok (cpyC_ok (i := i) h) hi
  refine Mt.of (by decide +kernel) (Nat.le_of_ble_eq_true rfl) ?_
  refine BX6_bring_0 ?_
  refine CX6_bring_9 (sp_copyTo h (by omega)) (Nat.zero_le _) (fun v I1 J1 q1 => ?_)
  obtain ⟨rfl, rfl, rfl⟩ := q1
  refine BX6_bring_12 ?_
  refine CX6_bring_17 (sp_remove (cpyC_ok h) hi) (Nat.zero_le _) (fun v I1 J1 q1 => ?_)
  obtain ⟨rfl, rfl, rfl⟩ := q1
  have e1 : opC I f n i 23 1 = nI gi := by rw [opC_23 (by decide)]; exact hgi
  have e0 : opC I f n i 23 0 = nI so := by rw [opC_23 (by decide)]; exact hso
  refine BX6_bring_20 v6_1 (by rw [t6_1]; rw [show remC (cpyC I f i) f n i 23 1 = nI gi from e1]; exact vp_in_nI hg (by decide)) v6_0 ?_
  rw [t6_1, t6_0, show remC (cpyC I f i) f n i 23 1 = nI gi from e1, show remC (cpyC I f i) f n i 23 0 = nI so from e0, nI_clamp (by omega)]
  have e2 : remC (cpyC I f i) f n i (gP gi) = I (gP gi) := opC_o (by omega) (by omega) (by omega)
  have e3 : remC (cpyC I f i) f n i 2 = I 2 := opC_o (by decide) (by decide) (by decide)
  have e4 : opC I f n i (gP gi + 9) = I (gP gi + 9) := opC_o (by omega) (by omega) (by omega)
  unfold brC
  by_cases c2 : so = 2
  · subst c2
    rw [if_pos rfl]
    refine Ev.swIn (off := 26) 64 dX6_bring_38 (by decide) (by decide) (by decide) (by decide) ?_
    refine BX6_bring_64  ?_
    refine CX6_bring_66 (sp_comeG hk hP) (Nat.zero_le _) (fun v66 I66 J66 q66 => ?_)
    obtain ⟨rfl, rfl, rfl⟩ := q66
    exact RX6_bring_69  (Nat.zero_le _) ⟨_, rfl, ⟨rfl, rfl, rfl⟩⟩
  rw [if_neg c2]
  by_cases c3 : so = 3
  · subst c3
    rw [if_pos rfl]
    refine Ev.swIn (off := 32) 70 dX6_bring_38 (by decide) (by decide) (by decide) (by decide) ?_
    refine BX6_bring_70 hk ?_
    rw [show remC (cpyC I f i) f n i (24 + 14 * gi) = I (gP gi) from e2]
    refine CX6_bring_79 (sp_comeR (kg_4 hk) _) (Nat.zero_le _) (fun v I1 J1 q1 => ?_)
    obtain ⟨rfl, rfl, rfl⟩ := q1
    exact RX6_bring_82  (Nat.zero_le _) ⟨_, rfl, ⟨rfl, rfl, rfl⟩⟩
  rw [if_neg c3]
  by_cases c4 : so = 4
  · subst c4
    rw [if_pos rfl]
    refine Ev.swIn (off := 45) 83 dX6_bring_38 (by decide) (by decide) (by decide) (by decide) ?_
    refine BX6_bring_83 hk ?_
    rw [e3]
    refine CX6_bring_95 (sp_comeR (kg_9 hk) _) (Nat.zero_le _) (fun v I1 J1 q1 => ?_)
    obtain ⟨rfl, rfl, rfl⟩ := q1
    exact RX6_bring_98  (Nat.zero_le _) ⟨_, rfl, ⟨rfl, rfl, rfl⟩⟩
  rw [if_neg c4]
  refine Ev.swOut 99 dX6_bring_38 (Or.inl (by rw [nI_toInt (by omega)]; omega)) (by decide) ?_
  refine BX6_bring_99 ?_
  refine CX6_bring_101 (sp_comeD hg e1 hP (by rw [e4]; exact hs) hs2) (Nat.zero_le _) (fun v I1 J1 q1 => ?_)
  obtain ⟨rfl, rfl, rfl⟩ := q1
  exact RX6_bring_104  (Nat.zero_le _) ⟨_, rfl, ⟨rfl, rfl, rfl⟩⟩
theorem sp_deliver {f n i so gi s : Nat} (h : PlOk I f n) (hi : i < n) (hso : ltC I f i 0 = nI so) (hso5 : so < 5) (hgi : ltC I f i 1 = nI gi) (hg : gi < 8) (hs : I (gP gi + 9) 5 = nI s) (hs2 : s < 2 ^ 30) : Mt (d + 6) mX6_deliver [.ref 0, .int (nI i)] I J (RI (brC I f n i so gi s).1 (brC I f n i so gi s).2 J) := by
  refine Mt.of (by decide +kernel) (Nat.le_of_ble_eq_true rfl) ?_
  refine BX6_deliver_0  ?_
  refine CX6_deliver_2 (sp_mustHave h.2.1 h.2.2.2 hi) (Nat.zero_le _) (fun v2 I2 J2 q2 => ?_)
  obtain ⟨rfl, rfl, rfl⟩ := q2
  refine BX6_deliver_5  ?_
  refine CX6_deliver_7 (sp_bring h hi hso hso5 hgi hg hs hs2) (Nat.zero_le _) (fun v7 I7 J7 q7 => ?_)
  obtain ⟨rfl, rfl, rfl⟩ := q7
  exact RX6_deliver_10  (Nat.zero_le _) ⟨_, rfl, ⟨rfl, rfl, rfl⟩⟩
theorem sp_deliverB {x : Int32} (hx : x < 0 ∨ I 12 2 ≤ x) : Mth (d + 4) mX6_deliver [.ref 0, .int x] I J eIB := by
  refine Mth.of (by decide +kernel) (Nat.le_of_ble_eq_true rfl) ?_
  refine BX6_deliver_0  ?_
  exact XX6_deliver_2 (sp_mustHaveT hx) (Nat.le_refl _) ⟨rfl, rfl, rfl⟩
/-- what keeps a property that lets one bring is kept by deliverAll -/
theorem sp_delAll {n : Nat} (hn : n ≤ 1000) (P : Nat → T2 → Prop) (h0 : P 0 I) (hsz : ∀ k I1, P k I1 → ∃ m, m ≤ 200 ∧ I1 12 2 = nI m) (hst : ∀ k I1, P k I1 → I1 12 2 ≠ 0 → Mt (d + 5) mX6_bring [.ref 0, .int (nI 0)] I1 J (fun v I' J' => (∃ r, v = some (.int r)) ∧ P (k + 1) I' ∧ J = J')) : Mt (d + 6) mX6_deliverAll [.ref 0, .int (nI n)] I J (fun v I' J' => J = J' ∧ ∃ k, k ≤ n ∧ v = some (.int (nI k)) ∧ P k I' ∧ (k = n ∨ I' 12 2 = 0)) := by
  refine Mt.of (by decide +kernel) (Nat.le_of_ble_eq_true rfl) ?_
  refine BX6_deliverAll_0 ?_
  refine IX6_deliverAll_1 (fun c => absurd c (nI_pos (by omega))) (fun c => ?_)
  refine BX6_deliverAll_4 ?_
  refine IX6_deliverAll_8 (fun c => ?_) (fun c => absurd (nI_le (b := 1000) hn (by decide)) c)
  refine BX6_deliverAll_19 ?_
  have key : ∀ q k : Nat, k + q = n → ∀ I1 : T2, P k I1 → Ev (d + 6) 0 0 (fun _ => 0) mX6_deliverAll 21 [some (.ref 0), some (.int (nI n)), some (.int (nI k))] [] I1 J 0 (fun o I' J' _ => ∃ w, o = .inl w ∧ J = J' ∧ ∃ k, k ≤ n ∧ w = some (.int (nI k)) ∧ P k I' ∧ (k = n ∨ I' 12 2 = 0)) := by
    intro q
    induction q with
    | zero =>
      intro k hk I1 hp
      refine BX6_deliverAll_21 ?_
      refine IX6_deliverAll_23 (fun c => ?_) (fun c => absurd (nI_le (by omega) (by omega)) c)
      refine BX6_deliverAll_48 ?_
      exact RX6_deliverAll_49 (Nat.zero_le _) ⟨_, rfl, rfl, k, by omega, rfl, hp, Or.inl (by omega)⟩
    | succ q ih =>
      intro k hk I1 hp
      refine BX6_deliverAll_21 ?_
      refine IX6_deliverAll_23 (fun c => absurd c (nI_ge (by omega) (by omega))) (fun c => ?_)
      refine BX6_deliverAll_26 ?_
      obtain ⟨m, m1, m2⟩ := hsz k I1 hp
      refine IX6_deliverAll_33 (fun c => ?_) (fun c => ?_)
      · rw [m2] at c
        have cz := (nI_leI (a := m) (b := 0) (by omega) (by decide)).mp c
        refine BX6_deliverAll_48 ?_
        exact RX6_deliverAll_49 (Nat.zero_le _) ⟨_, rfl, rfl, k, by omega, rfl, hp, Or.inr (by rw [m2, show m = 0 by omega]; rfl)⟩
      · refine BX6_deliverAll_36 ?_
        refine CX6_deliverAll_38 (hst k I1 hp (fun z => c (by rw [z]; decide))) (Nat.zero_le _) (fun v I2 J2 q2 => ?_)
        obtain ⟨⟨r, rfl⟩, q3, rfl⟩ := q2
        refine BX6_deliverAll_41 ?_
        rw [nI_1]
        exact ih (k + 1) (by omega) I2 q3
  exact key n 0 (Nat.zero_add _) I h0
theorem sp_delAllT {x : Int32} (h : x < 0 ∨ ¬ x ≤ 1000) : Mth (d + 3) mX6_deliverAll [.ref 0, .int x] I J eIA := by
  refine Mth.of (by decide +kernel) (Nat.le_of_ble_eq_true rfl) ?_
  refine BX6_deliverAll_0  ?_
  refine IX6_deliverAll_1 (fun c1 => ?_) (fun c1 => ?_)
  · skip
    exact TX6_deliverAll_11 (by omega) (Nat.le_refl _) ⟨rfl, rfl, rfl⟩
  · skip
    refine BX6_deliverAll_4  ?_
    refine IX6_deliverAll_8 (fun c8 => absurd c8 (fun z => h.elim (fun y => c1 y) (fun y => y z))) (fun c8 => ?_)
    exact TX6_deliverAll_11 (by omega) (Nat.le_refl _) ⟨rfl, rfl, rfl⟩
end BR

