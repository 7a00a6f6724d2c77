/-! Pool's copyTo and remove; Way -/
theorem lkC_3_26 : lkC 3 26 = true := by decide +kernel
/-- a row of the pool, copied -/
def cpyC (I : T2) (f i : Nat) : T2 := upr I 23 (va_cpy (I 13) (I 23) ((f + i) % 200 * 6) 0 6)
section WY
variable {d : Nat} {I : T2} {J : T3}
theorem sp_copyTo {f n i : Nat} (h : PlOk I f n) (hi : i < 2 ^ 30) : Mt (d + 1) mX3_copyTo [.ref 12, .int (nI i), .ref 23] I J (RV (cpyC I f i) J) := by
  have hm := Nat.mod_lt (f + i) (show 200 > 0 by decide)
  refine Mt.of (by decide +kernel) (Nat.le_of_ble_eq_true rfl) ?_
  refine BX3_copyTo_0  ?_
  refine CX3_copyTo_6 (sp_start (nI i)) (Nat.zero_le _) (fun v6 I6 J6 q6 => ?_)
  obtain ⟨rfl, rfl, rfl⟩ := q6
  refine BX3_copyTo_9  ?_
  rw [plA_n h hi]
  refine Ev.cpy (M := mX3_copyTo) (i := 26) dX3_copyTo_13 lkC_3_26 (by decide) (by decide) (nI_pos (by omega)) (by decide) (by decide) (by rw [nI_clamp (by omega)]; show _ + 6 ≤ 1200; omega) (by decide) (by decide) ?_
  rw [nI_clamp (by omega)]
  exact RX3_copyTo_16  (Nat.zero_le _) ⟨_, rfl, ⟨rfl, rfl, rfl⟩⟩
/-- the rows from i to k of the pool have moved down by one -/
def rmR (f i k : Nat) (r : Nat → Int32) : Nat → Int32 := fun x => if i ≤ (x / 6 + 200 - f) % 200 ∧ (x / 6 + 200 - f) % 200 < k ∧ x < 1200 then r ((f + (x / 6 + 200 - f) % 200 + 1) % 200 * 6 + x % 6) else r x
theorem rmR_0 (f i : Nat) (r : Nat → Int32) : rmR f i i r = r := by
  funext x
  unfold rmR
  rw [if_neg (by omega)]
theorem rmR_s {f i k : Nat} (hf : f < 200) (hik : i ≤ k) (hk : k + 1 < 200) (r : Nat → Int32) : va_cpy (rmR f i k r) (rmR f i k r) ((f + (k + 1)) % 200 * 6) ((f + k) % 200 * 6) 6 = rmR f i (k + 1) r := by
  have h1 := Nat.mod_lt (f + (k + 1)) (show 200 > 0 by decide)
  have h2 := Nat.mod_lt (f + k) (show 200 > 0 by decide)
  funext x
  by_cases hx : (f + k) % 200 * 6 ≤ x ∧ x < (f + k) % 200 * 6 + 6
  · rw [pk_cpy_in hx.1 hx.2]
    have e1 : x / 6 = (f + k) % 200 := by omega
    have e2 : (x / 6 + 200 - f) % 200 = k := by omega
    have e3 : ((f + (k + 1)) % 200 * 6 + (x - (f + k) % 200 * 6)) / 6 = (f + (k + 1)) % 200 := by omega
    have e4 : (((f + (k + 1)) % 200 * 6 + (x - (f + k) % 200 * 6)) / 6 + 200 - f) % 200 = k + 1 := by omega
    unfold rmR
    rw [if_neg (by rw [e4]; omega), if_pos ⟨by rw [e2]; exact hik, by rw [e2]; omega, by omega⟩, e2]
    congr 1
    have e5 : f + (k + 1) = f + k + 1 := by omega
    rw [e5]
    omega
  · rw [pk_cpy_out (by omega)]
    unfold rmR
    by_cases hx2 : x < 1200
    · have e1 : (x / 6 + 200 - f) % 200 ≠ k := by omega
      by_cases h3 : i ≤ (x / 6 + 200 - f) % 200 ∧ (x / 6 + 200 - f) % 200 < k ∧ x < 1200
      · rw [if_pos h3, if_pos ⟨h3.1, by omega, h3.2.2⟩]
      · rw [if_neg h3, if_neg (by omega)]
    · rw [if_neg (by omega), if_neg (by omega)]
/-- letter i has left the pool -/
def remC (I : T2) (f n i : Nat) : T2 := if i = 0 then up2 (up2 I 12 1 (nI ((f + 1) % 200))) 12 2 (nI (n - 1)) else up2 (upr I 13 (rmR f i (n - 1) (I 13))) 12 2 (nI (n - 1))
theorem sp_remove {f n i : Nat} (h : PlOk I f n) (hi : i < n) : Mt (d + 1) mX3_remove [.ref 12, .int (nI i)] I J (RV (remC I f n i) J) := by
  obtain ⟨h1, h2, h3, h4⟩ := id h
  have hsub : nI n - 1 = nI (n - 1) := by
    obtain ⟨m, rfl⟩ : ∃ m, n = m + 1 := ⟨n - 1, by omega⟩
    exact nI_pred m
  refine Mt.of (by decide +kernel) (Nat.le_of_ble_eq_true rfl) ?_
  refine BX3_remove_0 ?_
  refine IX3_remove_1 (fun c => ?_) (fun c => ?_)
  · have hi0 : i ≠ 0 := fun q => c (by rw [q]; rfl)
    refine BX3_remove_21 ?_
    have key : ∀ q k : Nat, k + q + 1 = n → i ≤ k → Ev (d + 1) 0 0 (fun _ => 0) mX3_remove 23 [some (.ref 12), some (.int (nI i)), some (.int (nI k))] [] (upr I 13 (rmR f i k (I 13))) J 0 (fun o I' J' _ => ∃ w, o = .inl w ∧ RV (remC I f n i) J w I' J') := by
      intro q
      induction q with
      | zero =>
        intro k hk hik
        refine BX3_remove_23 ?_
        refine IX3_remove_30 (fun c2 => ?_) (fun c2 => ?_)
        · refine Ev.weak (ls' := [some (.ref 12), some (.int (nI i)), none]) ⟨Or.inr rfl, Or.inr rfl, Or.inl rfl, trivial⟩ ?_
          refine BX3_remove_64 ?_
          refine RX3_remove_74 (Nat.zero_le _) ⟨_, rfl, rfl, ?_, rfl⟩
          have e1 : upr I 13 (rmR f i k (I 13)) 12 2 = nI n := by rw [upr_ne _ _ (by decide)]; exact h2
          rw [e1, hsub]
          unfold remC
          rw [if_neg hi0, show k = n - 1 by omega]
        · refine absurd ?_ c2
          have e1 : upr I 13 (rmR f i k (I 13)) 12 2 = nI n := by rw [upr_ne _ _ (by decide)]; exact h2
          rw [e1, hsub]
          exact nI_le (by omega) (by omega)
      | succ q ih =>
        intro k hk hik
        have hP : PlOk (upr I 13 (rmR f i k (I 13))) f n := ⟨by rw [upr_ne _ _ (by decide)]; exact h1, by rw [upr_ne _ _ (by decide)]; exact h2, h3, h4⟩
        have m1 := Nat.mod_lt (f + (k + 1)) (show 200 > 0 by decide)
        have m2 := Nat.mod_lt (f + k) (show 200 > 0 by decide)
        refine BX3_remove_23 ?_
        refine IX3_remove_30 (fun c2 => ?_) (fun c2 => ?_)
        · exfalso
          rw [hP.2.1, hsub] at c2
          exact nI_ge (show k < n - 1 by omega) (by omega) c2
        · refine BX3_remove_33 ?_
          rw [nI_1]
          refine CX3_remove_41 (sp_start (nI (k + 1))) (Nat.zero_le _) (fun v I1 J1 q1 => ?_)
          obtain ⟨rfl, rfl, rfl⟩ := q1
          refine BX3_remove_44 ?_
          refine CX3_remove_50 (sp_start (nI k)) (Nat.zero_le _) (fun v I1 J1 q1 => ?_)
          obtain ⟨rfl, rfl, rfl⟩ := q1
          refine BX3_remove_53 ?_
          rw [plA_n hP (by omega), plA_n hP (by omega)]
          refine Ev.cpy (M := mX3_remove) (i := 26) dX3_remove_55 lkC_3_26 (by decide) (by decide) (nI_pos (by omega)) (nI_pos (by omega)) (by decide) (by rw [nI_clamp (by omega)]; show _ + 6 ≤ 1200; omega) (by rw [nI_clamp (by omega)]; show _ + 6 ≤ 1200; omega) (by decide) ?_
          rw [nI_clamp (by omega), nI_clamp (by omega)]
          refine BX3_remove_58 ?_
          rw [nI_1]
          have e2 : upr (upr I 13 (rmR f i k (I 13))) 13 (va_cpy (upr I 13 (rmR f i k (I 13)) 13) (upr I 13 (rmR f i k (I 13)) 13) ((f + (k + 1)) % 200 * 6) ((f + k) % 200 * 6) (6 : Int32).toNatClampNeg) = upr I 13 (rmR f i (k + 1) (I 13)) := by
            rw [upr_at, show (6 : Int32).toNatClampNeg = 6 from rfl, rmR_s h3 hik (by omega)]
            funext a
            unfold upr
            by_cases ha : a = 13
            · rw [if_pos ha, if_pos ha]
            · rw [if_neg ha, if_neg ha, if_neg ha]
          rw [e2]
          exact ih (k + 1) (by omega) (by omega)
    have h0 := key (n - 1 - i) i (by omega) (Nat.le_refl i)
    rw [rmR_0, upr_self] at h0
    exact h0
  · have hi0 : i = 0 := by
      have := (nI_eq (a := i) (b := 0) (by omega) (by decide)).mp (Classical.not_not.mp c)
      exact this
    subst hi0
    refine BX3_remove_4 ?_
    refine BX3_remove_64 ?_
    refine RX3_remove_74 (Nat.zero_le _) ⟨_, rfl, rfl, ?_, rfl⟩
    rw [h1, nI_1, rem_200 (by omega), up2_k _ _ _ (by decide), h2, hsub]
    rfl
theorem sp_wyBegin {a : Nat} (hk : kd a = 5) : Mt d mX5_begin [.ref a] I J (RV (up2 (up2 (up2 I a 5 0) a 6 0) a 7 0) J) := by
  refine Mt.of (by decide +kernel) (Nat.le_of_ble_eq_true rfl) ?_
  refine BX5_begin_0 (by assumption) ?_
  exact RX5_begin_15  (Nat.zero_le _) ⟨_, rfl, ⟨rfl, rfl, rfl⟩⟩
def shC (I : T2) (a : Nat) : Int32 := if I a 5 - I a 6 < 50 then 0 else 1
theorem sp_isShut {a : Nat} (hk : kd a = 5) : Mt d mX5_isShut [.ref a] I J (RI (shC I a) I J) := by
  refine Mt.of (by decide +kernel) (Nat.le_of_ble_eq_true rfl) ?_
  refine BX5_isShut_0 (by assumption) ?_
  refine IX5_isShut_11 (fun c11 => ?_) (fun c11 => ?_)
  · skip
    refine BX5_isShut_18  ?_
    exact RX5_isShut_19 (by first | exact Or.inl rfl | exact Or.inr rfl) (Nat.zero_le _) ⟨_, rfl, ⟨by first | (unfold shC; rw [if_pos c11]) | (unfold shC; rw [if_neg c11]), rfl, rfl⟩⟩
  · skip
    refine BX5_isShut_14  ?_
    exact RX5_isShut_19 (by first | exact Or.inl rfl | exact Or.inr rfl) (Nat.zero_le _) ⟨_, rfl, ⟨by first | (unfold shC; rw [if_pos c11]) | (unfold shC; rw [if_neg c11]), rfl, rfl⟩⟩
theorem sp_take1 {a : Nat} (hk : kd a = 5) {x : Int32} (h : x = I a 7 + 1) : Mt d mX5_take [.ref a, .int x] I J (RI 1 (up2 I a 7 x) J) := by
  refine Mt.of (by decide +kernel) (Nat.le_of_ble_eq_true rfl) ?_
  refine BX5_take_0 (by assumption) ?_
  refine IX5_take_7 (fun c7 => ?_) (fun c7 => absurd c7 (fun q => q h))
  refine BX5_take_12 (by assumption) ?_
  exact RX5_take_18 (by first | exact Or.inl rfl | exact Or.inr rfl) (Nat.zero_le _) ⟨_, rfl, ⟨rfl, rfl, rfl⟩⟩
theorem sp_take0 {a : Nat} (hk : kd a = 5) {x : Int32} (h : ¬ x = I a 7 + 1) : Mt d mX5_take [.ref a, .int x] I J (RI 0 I J) := by
  refine Mt.of (by decide +kernel) (Nat.le_of_ble_eq_true rfl) ?_
  refine BX5_take_0 (by assumption) ?_
  refine IX5_take_7 (fun c7 => absurd c7 h) (fun c7 => ?_)
  refine BX5_take_10  ?_
  exact RX5_take_11 (by first | exact Or.inl rfl | exact Or.inr rfl) (Nat.zero_le _) ⟨_, rfl, ⟨rfl, rfl, rfl⟩⟩
theorem sp_sendR {a : Nat} (hk : kd a = 5) {f n : Nat} (h : PlOk I f n) (s : Int32) : Mt (d + 1) mX5_sendReceipt [.ref a, .ref 12, .int s] I J (RV (putC I s (I a 0) (I a 7) 0 0 0) J) := by
  refine Mt.of (by decide +kernel) (Nat.le_of_ble_eq_true rfl) ?_
  refine BX5_sendReceipt_0 (by assumption) ?_
  refine CX5_sendReceipt_13 (sp_put' h s (I a 0) (I a 7) 0 0 0) (Nat.zero_le _) (fun v13 I13 J13 q13 => ?_)
  obtain ⟨rfl, rfl, rfl⟩ := q13
  exact RX5_sendReceipt_16  (Nat.zero_le _) ⟨_, rfl, ⟨rfl, rfl, rfl⟩⟩
def mkC (I : T2) (a : Nat) (x : Int32) : T2 := up2 I a 6 (if I a 6 < x then x else I a 6)
theorem sp_mark {a : Nat} (hk : kd a = 5) (x : Int32) : Mt (d + 1) mX5_markReceived [.ref a, .int x] I J (RV (mkC I a x) J) := by
  refine Mt.of (by decide +kernel) (Nat.le_of_ble_eq_true rfl) ?_
  refine BX5_markReceived_0 (by assumption) ?_
  refine CX5_markReceived_6 (sp_max (I a 6) x) (Nat.zero_le _) (fun v6 I6 J6 q6 => ?_)
  obtain ⟨rfl, rfl, rfl⟩ := q6
  refine BX5_markReceived_9 (by assumption) ?_
  exact RX5_markReceived_12  (Nat.zero_le _) ⟨_, rfl, ⟨rfl, rfl, rfl⟩⟩
/-- a letter is sent: the way's ring, and the pool -/
def rgC (I : T2) (a s : Nat) (so w n t : Int32) : T2 := up2 (up2 (up2 (up2 (up2 I a 5 (nI (s + 1))) (a + 1) ((s + 1) % 50) so) (a + 2) ((s + 1) % 50) w) (a + 3) ((s + 1) % 50) n) (a + 4) ((s + 1) % 50) t
def sndC (I : T2) (a s : Nat) (so w n t : Int32) : T2 := putC (rgC I a s so w n t) so (I a 0) (nI (s + 1)) w n t
theorem way_lt {a : Nat} (hk : kd a = 5) : 28 ≤ a ∧ a < 136 := (show ∀ a : Nat, a < 159 → kd a = 5 → 28 ≤ a ∧ a < 136 by decide +kernel) a (kd_lt hk (by decide)) hk
theorem sp_send {a : Nat} (hk : kd a = 5) {f n s : Nat} (h : PlOk I f n) (hs : I a 5 = nI s) (hs2 : s < 2 ^ 30) (so w u t : Int32) : Mt (d + 1) mX5_send [.ref a, .ref 12, .int so, .int w, .int u, .int t] I J (RV (sndC I a s so w u t) J) := by
  have ha := way_lt hk
  have hm := Nat.mod_lt (s + 1) (show 50 > 0 by decide)
  refine Mt.of (by decide +kernel) (Nat.le_of_ble_eq_true rfl) ?_
  refine BX5_send_0 hk ?_
  rw [up2_s, hs, nI_1]
  refine CX5_send_16 (sp_fm (nI (s + 1)) 50 (by decide)) (Nat.zero_le _) (fun v I1 J1 q1 => ?_)
  obtain ⟨rfl, rfl, rfl⟩ := q1
  rw [fm_50 (by omega)]
  refine BX5_send_19 hk (vp_in_nI hm (by decide)) ?_
  rw [nI_clamp (by omega)]
  have e0 : ∀ j, (up2 (up2 (up2 (up2 (up2 I a 5 (nI (s + 1))) (a + 1) ((s + 1) % 50) so) (a + 2) ((s + 1) % 50) w) (a + 3) ((s + 1) % 50) u) (a + 4) ((s + 1) % 50) t) a j = up2 I a 5 (nI (s + 1)) a j := by
    intro j
    rw [up2_o _ _ _ _ (by omega), up2_o _ _ _ _ (by omega), up2_o _ _ _ _ (by omega), up2_o _ _ _ _ (by omega)]
  have hP : PlOk (rgC I a s so w u t) f n := by
    have e1 : ∀ j, rgC I a s so w u t 12 j = I 12 j := by
      intro j
      unfold rgC
      rw [up2_o _ _ _ _ (by omega), up2_o _ _ _ _ (by omega), up2_o _ _ _ _ (by omega), up2_o _ _ _ _ (by omega), up2_o _ _ _ _ (by omega)]
    exact ⟨by rw [e1]; exact h.1, by rw [e1]; exact h.2.1, h.2.2⟩
  rw [e0, e0, up2_s, up2_k _ _ _ (show (0 : Nat) ≠ 5 by decide)]
  refine CX5_send_70 (sp_put' hP so (I a 0) (nI (s + 1)) w u t) (Nat.zero_le _) (fun v I1 J1 q1 => ?_)
  obtain ⟨rfl, rfl, rfl⟩ := q1
  exact RX5_send_73 (Nat.zero_le _) ⟨_, rfl, rfl, rfl, rfl⟩
end WY

