/-! whole numbers as ints; Way.sendAnew; Gate -/
def iI (z : Int) : Int32 := Int32.ofInt z
theorem iI_nI (n : Nat) : nI n = iI n := Int32.ofInt_eq_ofNat.symm
theorem iI_add (a b : Int) : iI a + iI b = iI (a + b) := (Int32.ofInt_add a b).symm
theorem iI_sub (a b : Int) : iI a - iI b = iI (a - b) := (Int32.ofInt_sub a b).symm
theorem iI_mul (a b : Int) : iI a * iI b = iI (a * b) := (Int32.ofInt_mul a b).symm
theorem iI_toInt {z : Int} (h1 : -2147483648 ≤ z) (h2 : z < 2147483648) : (iI z).toInt = z := Int32.toInt_ofInt_of_le h1 h2
theorem iI_of (x : Int32) : x = iI x.toInt := (Int32.ofInt_toInt x).symm
theorem iI_le {a b : Int} (h1 : -2147483648 ≤ a) (h2 : a < 2147483648) (h3 : -2147483648 ≤ b) (h4 : b < 2147483648) : iI a ≤ iI b ↔ a ≤ b := by rw [Int32.le_iff_toInt_le, iI_toInt h1 h2, iI_toInt h3 h4]
theorem iI_lt {a b : Int} (h1 : -2147483648 ≤ a) (h2 : a < 2147483648) (h3 : -2147483648 ≤ b) (h4 : b < 2147483648) : iI a < iI b ↔ a < b := by rw [Int32.lt_iff_toInt_lt, iI_toInt h1 h2, iI_toInt h3 h4]
theorem iI_eq {a b : Int} (h1 : -2147483648 ≤ a) (h2 : a < 2147483648) (h3 : -2147483648 ≤ b) (h4 : b < 2147483648) : iI a = iI b ↔ a = b := by rw [← Int32.toInt_inj, iI_toInt h1 h2, iI_toInt h3 h4]
theorem iI_n {z : Int} (h : 0 ≤ z) : iI z = nI z.toNat := by rw [iI_nI]; congr 1; omega
theorem iI_1 : (1 : Int32) = iI 1 := rfl
theorem iI_m1 : (-1 : Int32) = iI (-1) := by decide
theorem iI_0 : (0 : Int32) = iI 0 := rfl
theorem putC_o {I : T2} {s g n w u t : Int32} {o : Nat} (h1 : o ≠ 12) (h2 : o ≠ 13) : putC I s g n w u t o = I o := by
  unfold putC
  by_cases h : I 12 2 < 200
  · rw [if_pos h, up2_ne _ _ _ h1, up2_ne _ _ _ h2, up2_ne _ _ _ h2, up2_ne _ _ _ h2, up2_ne _ _ _ h2, up2_ne _ _ _ h2, up2_ne _ _ _ h2]
  · rw [if_neg h]
theorem putC_ok {I : T2} {f n : Nat} (h : PlOk I f n) (s g k w u t : Int32) : PlOk (putC I s g k w u t) f (if n < 200 then n + 1 else n) := by
  by_cases hn : n < 200
  · rw [if_pos hn, putC_at h hn]
    refine ⟨?_, ?_, h.2.2.1, by omega⟩
    · rw [up2_k _ _ _ (by decide), up2_o _ _ _ _ (by decide), up2_o _ _ _ _ (by decide), up2_o _ _ _ _ (by decide), up2_o _ _ _ _ (by decide), up2_o _ _ _ _ (by decide), up2_o _ _ _ _ (by decide)]
      exact h.1
    · rw [up2_s]
  · have e : n = 200 := by have := h.2.2.2; omega
    subst e
    rw [if_neg hn, putC_full h]
    exact h
/-- k letters of a way are put into the pool anew, from number r + 1 on -/
def rsC (I : T2) (a r : Nat) : Nat → T2
  | 0 => I
  | k + 1 => putC (rsC I a r k) (I (a + 1) ((r + k + 1) % 50)) (I a 0) (nI (r + k + 1)) (I (a + 2) ((r + k + 1) % 50)) (I (a + 3) ((r + k + 1) % 50)) (I (a + 4) ((r + k + 1) % 50))
theorem rsC_o (I : T2) (a r : Nat) {o : Nat} (h1 : o ≠ 12) (h2 : o ≠ 13) : ∀ k, rsC I a r k o = I o
  | 0 => rfl
  | k + 1 => by
    show putC (rsC I a r k) _ _ _ _ _ _ o = _
    rw [putC_o h1 h2, rsC_o I a r h1 h2 k]
theorem rsC_ok {I : T2} {f n : Nat} (a r : Nat) (h : PlOk I f n) : ∀ k, ∃ n', PlOk (rsC I a r k) f n'
  | 0 => ⟨n, h⟩
  | k + 1 => by
    obtain ⟨n', h'⟩ := rsC_ok a r h k
    exact ⟨_, putC_ok h' _ _ _ _ _ _⟩
section GT
variable {d : Nat} {I : T2} {J : T3}
theorem sp_sendAnew {a : Nat} (hk : kd a = 5) {f n s r : Nat} (h : PlOk I f n) (hs : I a 5 = nI s) (hr : I a 6 = nI r) (hrs : r ≤ s) (hs2 : s < 2 ^ 30) : Mt (d + 1) mX5_sendAnew [.ref a, .ref 12] I J (RI (nI (s - r)) (rsC I a r (s - r)) J) := by
  have ha := way_lt hk
  refine Mt.of (by decide +kernel) (Nat.le_of_ble_eq_true rfl) ?_
  refine BX5_sendAnew_0 hk ?_
  rw [hs, hr, pk_sub hrs]
  have key : ∀ q k : Nat, k + q = s - r → Ev (d + 1) 0 0 (fun _ => 0) mX5_sendAnew 12 [some (.ref a), some (.ref 12), some (.int (nI (s - r))), some (.int (nI (k + 1))), none] [] (rsC I a r k) J 0 (fun o I' J' _ => ∃ w, o = .inl w ∧ RI (nI (s - r)) (rsC I a r (s - r)) J w I' J') := by
    intro q
    induction q with
    | zero =>
      intro k hk2
      refine BX5_sendAnew_12 ?_
      refine IX5_sendAnew_14 (fun c => ?_) (fun c => ?_)
      · refine BX5_sendAnew_78 ?_
        exact RX5_sendAnew_79 (Nat.zero_le _) ⟨_, rfl, rfl, by rw [show k = s - r by omega], rfl⟩
      · exact absurd (nI_lt (show s - r < k + 1 by omega) (by omega)) c
    | succ q ih =>
      intro k hk2
      have o1 : ∀ o, o ≠ 12 → o ≠ 13 → rsC I a r k o = I o := fun o h1 h2 => rsC_o I a r h1 h2 k
      obtain ⟨n', hP⟩ := rsC_ok a r h k
      have hm := Nat.mod_lt (r + k + 1) (show 50 > 0 by decide)
      refine BX5_sendAnew_12 ?_
      refine IX5_sendAnew_14 (fun c => ?_) (fun c => ?_)
      · exact absurd c (nI_nlt (show k + 1 ≤ s - r by omega) (by omega))
      · refine BX5_sendAnew_17 hk ?_
        rw [o1 a (by omega) (by omega), hr, nI_add, show r + (k + 1) = r + k + 1 by omega]
        refine CX5_sendAnew_25 (sp_fm (nI (r + k + 1)) 50 (by decide)) (Nat.zero_le _) (fun v I1 J1 q1 => ?_)
        obtain ⟨rfl, rfl, rfl⟩ := q1
        rw [fm_50 (by omega)]
        refine BX5_sendAnew_28 hk (vp_in_nI hm (by decide)) ?_
        rw [o1 a (by omega) (by omega), o1 (a + 1) (by omega) (by omega), o1 (a + 2) (by omega) (by omega), o1 (a + 3) (by omega) (by omega), o1 (a + 4) (by omega) (by omega), hr, nI_add, nI_clamp (by omega), show r + (k + 1) = r + k + 1 by omega]
        refine CX5_sendAnew_69 (sp_put' hP _ _ _ _ _ _) (Nat.zero_le _) (fun v I1 J1 q1 => ?_)
        obtain ⟨rfl, rfl, rfl⟩ := q1
        refine BX5_sendAnew_72 ?_
        rw [nI_1]
        refine Ev.weak (ls' := [some (.ref a), some (.ref 12), some (.int (nI (s - r))), some (.int (nI (k + 1 + 1))), none]) ⟨Or.inr rfl, Or.inr rfl, Or.inr rfl, Or.inr rfl, Or.inl rfl, trivial⟩ ?_
        exact ih (k + 1) (by omega)
  exact key (s - r) 0 (by omega)
theorem gate_lt {a : Nat} (hk : kd a = 1) : 24 ≤ a ∧ a + 13 < 136 := (show ∀ a : Nat, a < 159 → kd a = 1 → 24 ≤ a ∧ a + 13 < 136 by decide +kernel) a (kd_lt hk (by decide)) hk
theorem sp_drop {a : Nat} (hk : kd a = 1) {x : Nat} (hx : x < 3) : Mt d mX1_drop [.ref a, .int (nI x)] I J (RV (up2 (up2 (up2 I (a + 1) x 0) (a + 2) x 0) (a + 3) x 0) J) := by
  refine Mt.of (by decide +kernel) (Nat.le_of_ble_eq_true rfl) ?_
  refine BX1_drop_0 hk (vp_in_nI hx (by decide)) ?_
  rw [nI_clamp (by omega)]
  exact RX1_drop_21 (Nat.zero_le _) ⟨_, rfl, rfl, rfl, rfl⟩
/-- what a gate drops when its window goes from wd to nx -/
def dpC (I : T2) (a wd nx : Nat) : Nat → T2
  | 0 => I
  | k + 1 => if wd + 2 < nx + k then up2 (up2 (up2 (dpC I a wd nx k) (a + 1) ((nx + k - 1) % 3) 0) (a + 2) ((nx + k - 1) % 3) 0) (a + 3) ((nx + k - 1) % 3) 0 else dpC I a wd nx k
theorem dpC_o (I : T2) (a wd nx : Nat) {o : Nat} (h1 : o ≠ a + 1) (h2 : o ≠ a + 2) (h3 : o ≠ a + 3) : ∀ k, dpC I a wd nx k o = I o
  | 0 => rfl
  | k + 1 => by
    show (if _ then _ else _ : T2) o = _
    by_cases h : wd + 2 < nx + k
    · rw [if_pos h, up2_ne _ _ _ h3, up2_ne _ _ _ h2, up2_ne _ _ _ h1, dpC_o I a wd nx h1 h2 h3 k]
    · rw [if_neg h, dpC_o I a wd nx h1 h2 h3 k]
def ckC (J : T3) (I : T2) (a : Nat) (t : Int64) : Int64 := if J a 6 < t + (I a 5).toInt64 then t + (I a 5).toInt64 else J a 6
set_option maxHeartbeats 1000000 in
theorem sp_look {a : Nat} (hk : kd a = 1) {t : Int64} {w : Int32} {wd nx : Nat} (hw : I a 7 = nI wd) (hn : wnI (ckC J I a t) w = nI nx) (h1 : wd < 2 ^ 30) (h2 : nx < 2 ^ 30) : Mt (d + 1) mX1_look [.ref a, .long t, .int w] I J (RV (up2 (dpC I a wd nx 3) a 7 (nI nx)) (up3 J a 6 (ckC J I a t))) := by
  refine Mt.of (by decide +kernel) (Nat.le_of_ble_eq_true rfl) ?_
  refine BX1_look_0 hk ?_
  refine CX1_look_12 (sp_maxL (J a 6) (t + (I a 5).toInt64)) (Nat.zero_le _) (fun v I1 J1 q1 => ?_)
  obtain ⟨rfl, rfl, rfl⟩ := q1
  refine BX1_look_15 hk hk ?_
  have e1 : up3 J a 6 (if J a 6 < t + (I a 5).toInt64 then t + (I a 5).toInt64 else J a 6) a 6 = ckC J I a t := by rw [up3_v, if_pos ⟨rfl, rfl⟩]; rfl
  rw [e1]
  refine CX1_look_23 (sp_wnd (ckC J I a t) w) (Nat.zero_le _) (fun v I1 J1 q1 => ?_)
  obtain ⟨rfl, rfl, rfl⟩ := q1
  rw [hn]
  refine BX1_look_26 ?_
  have key : ∀ q k : Nat, k + q = 3 → Ev (d + 1) 0 0 (fun _ => 0) mX1_look 31 [some (.ref a), some (.long t), none, some (.int w), some (.int (nI nx)), some (.int (iI ((k : Int) - 1)))] [] (dpC I a wd nx k) (up3 J a 6 (ckC J I a t)) 0 (fun o I' J' _ => ∃ w, o = .inl w ∧ RV (up2 (dpC I a wd nx 3) a 7 (nI nx)) (up3 J a 6 (ckC J I a t)) w I' J') := by
    intro q
    induction q with
    | zero =>
      intro k hk2
      refine BX1_look_31 ?_
      refine IX1_look_34 (fun c => ?_) (fun c => ?_)
      · refine BX1_look_70 hk ?_
        refine RX1_look_76 (Nat.zero_le _) ⟨_, rfl, rfl, ?_, rfl⟩
        rw [show k = 3 by omega]
      · refine absurd ?_ c
        rw [iI_1, iI_lt (by omega) (by omega) (by omega) (by omega)]
        omega
    | succ q ih =>
      intro k hk2
      refine BX1_look_31 ?_
      refine IX1_look_34 (fun c => ?_) (fun c => ?_)
      · exfalso
        rw [iI_1, iI_lt (by omega) (by omega) (by omega) (by omega)] at c
        omega
      · refine BX1_look_37 hk ?_
        rw [dpC_o I a wd nx (by omega) (by omega) (by omega) k, hw]
        have e2 : nI nx + iI ((k : Int) - 1) = iI (nx + k - 1) := by rw [iI_nI, iI_add]; congr 1; omega
        have e3 : nI wd + 1 = iI (wd + 1) := by rw [iI_nI, iI_1, iI_add]
        rw [e2, e3]
        have e5 : iI ((k : Int) - 1) + 1 = iI (((k + 1 : Nat) : Int) - 1) := by rw [iI_1, iI_add]; congr 1; omega
        refine IX1_look_48 (fun c2 => ?_) (fun c2 => ?_)
        · rw [iI_le (by omega) (by omega) (by omega) (by omega)] at c2
          refine BX1_look_64 ?_
          rw [e5]
          have e4 : dpC I a wd nx (k + 1) = dpC I a wd nx k := if_neg (by omega)
          rw [← e4]
          exact ih (k + 1) (by omega)
        · rw [iI_le (by omega) (by omega) (by omega) (by omega)] at c2
          refine BX1_look_51 ?_
          rw [e2]
          have e6 : iI ((nx : Int) + k - 1) = nI (nx + k - 1) := by rw [iI_nI]; congr 1; omega
          rw [e6]
          refine CX1_look_58 (sp_fm (nI (nx + k - 1)) 3 (by decide)) (Nat.zero_le _) (fun v I1 J1 q1 => ?_)
          obtain ⟨rfl, rfl, rfl⟩ := q1
          rw [fm_3 (by omega)]
          refine CX1_look_61 hk (sp_drop hk (Nat.mod_lt _ (by decide))) (Nat.zero_le _) (fun v I1 J1 q1 => ?_)
          obtain ⟨rfl, rfl, rfl⟩ := q1
          refine BX1_look_64 ?_
          rw [e5]
          have e4 : dpC I a wd nx (k + 1) = up2 (up2 (up2 (dpC I a wd nx k) (a + 1) ((nx + k - 1) % 3) 0) (a + 2) ((nx + k - 1) % 3) 0) (a + 3) ((nx + k - 1) % 3) 0 := if_pos (by omega)
          rw [← e4]
          exact ih (k + 1) (by omega)
  exact key 3 0 rfl
theorem sp_gtBegin {a : Nat} (hk : kd a = 1) (t : Int64) : Mt (d + 1) mX1_begin [.ref a, .long t] I J (RV (up2 (up2 (up2 (upr (upr (upr (up2 (up2 (up2 (up2 (up2 (up2 I (a + 4) 5 0) (a + 4) 6 0) (a + 4) 7 0) (a + 9) 5 0) (a + 9) 6 0) (a + 9) 7 0) (a + 1) (flr (I (a + 1)) 3 0)) (a + 2) (flr (I (a + 2)) 3 0)) (a + 3) (flr (I (a + 3)) 3 0)) a 5 0) a 7 0) a 8 1) (up3 J a 6 t)) := by
  refine Mt.of (by decide +kernel) (Nat.le_of_ble_eq_true rfl) ?_
  refine BX1_begin_0 hk ?_
  refine CX1_begin_4 (kg_4 hk) (sp_wyBegin (kg_4 hk)) (Nat.zero_le _) (fun v I1 J1 q1 => ?_)
  obtain ⟨rfl, rfl, rfl⟩ := q1
  refine BX1_begin_7 hk ?_
  refine CX1_begin_11 (kg_9 hk) (sp_wyBegin (kg_9 hk)) (Nat.zero_le _) (fun v I1 J1 q1 => ?_)
  obtain ⟨rfl, rfl, rfl⟩ := q1
  refine BX1_begin_14 hk ?_
  refine CX1_begin_19 (sp_fill (kg_1 hk) 0) (Nat.zero_le _) (fun v I1 J1 q1 => ?_)
  obtain ⟨rfl, rfl, rfl⟩ := q1
  rw [lg_1 hk, up2_ne _ _ _ (by omega), up2_ne _ _ _ (by omega), up2_ne _ _ _ (by omega), up2_ne _ _ _ (by omega), up2_ne _ _ _ (by omega), up2_ne _ _ _ (by omega)]
  refine BX1_begin_22 hk ?_
  refine CX1_begin_27 (sp_fill (kg_2 hk) 0) (Nat.zero_le _) (fun v I1 J1 q1 => ?_)
  obtain ⟨rfl, rfl, rfl⟩ := q1
  rw [lg_2 hk, upr_ne _ _ (by omega), up2_ne _ _ _ (by omega), up2_ne _ _ _ (by omega), up2_ne _ _ _ (by omega), up2_ne _ _ _ (by omega), up2_ne _ _ _ (by omega), up2_ne _ _ _ (by omega)]
  refine BX1_begin_30 hk ?_
  refine CX1_begin_35 (sp_fill (kg_3 hk) 0) (Nat.zero_le _) (fun v I1 J1 q1 => ?_)
  obtain ⟨rfl, rfl, rfl⟩ := q1
  rw [lg_3 hk, upr_ne _ _ (by omega), upr_ne _ _ (by omega), up2_ne _ _ _ (by omega), up2_ne _ _ _ (by omega), up2_ne _ _ _ (by omega), up2_ne _ _ _ (by omega), up2_ne _ _ _ (by omega), up2_ne _ _ _ (by omega)]
  refine BX1_begin_38 hk ?_
  exact RX1_begin_58 (Nat.zero_le _) ⟨_, rfl, rfl, rfl, rfl⟩
def siC (I : T2) (a : Nat) (w : Int32) : Int32 := if slI w (I a 7) = -1 then 0 else I (a + 2) (slI w (I a 7)).toNatClampNeg
theorem sp_spentIn {a : Nat} (hk : kd a = 1) (w : Int32) : Mt (d + 1) mX1_spentIn [.ref a, .int w] I J (RI (siC I a w) I J) := by
  refine Mt.of (by decide +kernel) (Nat.le_of_ble_eq_true rfl) ?_
  refine BX1_spentIn_0 (by assumption) ?_
  refine CX1_spentIn_5 (sp_slot w (I a 7)) (Nat.zero_le _) (fun v5 I5 J5 q5 => ?_)
  obtain ⟨rfl, rfl, rfl⟩ := q5
  refine BX1_spentIn_8  ?_
  refine IX1_spentIn_11 (fun c11 => ?_) (fun c11 => ?_)
  · skip
    refine BX1_spentIn_18 (by assumption) (sl_in _ _ c11) ?_
    exact RX1_spentIn_24  (Nat.zero_le _) ⟨_, rfl, ⟨by first | (unfold siC; rw [if_neg c11]) | (unfold siC; rw [if_pos (Classical.not_not.mp c11)]), rfl, rfl⟩⟩
  · skip
    refine BX1_spentIn_14  ?_
    exact RX1_spentIn_24  (Nat.zero_le _) ⟨_, rfl, ⟨by first | (unfold siC; rw [if_neg c11]) | (unfold siC; rw [if_pos (Classical.not_not.mp c11)]), rfl, rfl⟩⟩
def fiC (I : T2) (a : Nat) (w : Int32) : Int32 := if slI w (I a 7) = -1 then 0 else I (a + 1) (slI w (I a 7)).toNatClampNeg - I (a + 3) (slI w (I a 7)).toNatClampNeg
theorem sp_freeIn {a : Nat} (hk : kd a = 1) (w : Int32) : Mt (d + 1) mX1_freeIn [.ref a, .int w] I J (RI (fiC I a w) I J) := by
  refine Mt.of (by decide +kernel) (Nat.le_of_ble_eq_true rfl) ?_
  refine BX1_freeIn_0 (by assumption) ?_
  refine CX1_freeIn_5 (sp_slot w (I a 7)) (Nat.zero_le _) (fun v5 I5 J5 q5 => ?_)
  obtain ⟨rfl, rfl, rfl⟩ := q5
  refine BX1_freeIn_8  ?_
  refine IX1_freeIn_11 (fun c11 => ?_) (fun c11 => ?_)
  · skip
    refine BX1_freeIn_18 (by assumption) (sl_in _ _ c11) ?_
    exact RX1_freeIn_31  (Nat.zero_le _) ⟨_, rfl, ⟨by first | (unfold fiC; rw [if_neg c11]) | (unfold fiC; rw [if_pos (Classical.not_not.mp c11)]), rfl, rfl⟩⟩
  · skip
    refine BX1_freeIn_14  ?_
    exact RX1_freeIn_31  (Nat.zero_le _) ⟨_, rfl, ⟨by first | (unfold fiC; rw [if_neg c11]) | (unfold fiC; rw [if_pos (Classical.not_not.mp c11)]), rfl, rfl⟩⟩
def asC (I : T2) (a : Nat) (w n : Int32) : T2 := if slI w (I a 7) = -1 then I else up2 I (a + 1) (slI w (I a 7)).toNatClampNeg (I (a + 1) (slI w (I a 7)).toNatClampNeg + n)
theorem sp_addShare {a : Nat} (hk : kd a = 1) (w n : Int32) : Mt (d + 1) mX1_addShare [.ref a, .int w, .int n] I J (RV (asC I a w n) J) := by
  refine Mt.of (by decide +kernel) (Nat.le_of_ble_eq_true rfl) ?_
  refine BX1_addShare_0 (by assumption) ?_
  refine CX1_addShare_5 (sp_slot w (I a 7)) (Nat.zero_le _) (fun v5 I5 J5 q5 => ?_)
  obtain ⟨rfl, rfl, rfl⟩ := q5
  refine BX1_addShare_8  ?_
  refine IX1_addShare_11 (fun c11 => ?_) (fun c11 => ?_)
  · skip
    exact RX1_addShare_24  (Nat.zero_le _) ⟨_, rfl, ⟨rfl, by first | (unfold asC; rw [if_neg c11]) | (unfold asC; rw [if_pos c11]), rfl⟩⟩
  · skip
    refine BX1_addShare_14 (by assumption) (sl_in _ _ c11) ?_
    exact RX1_addShare_24  (Nat.zero_le _) ⟨_, rfl, ⟨rfl, by first | (unfold asC; rw [if_neg c11]) | (unfold asC; rw [if_pos c11]), rfl⟩⟩
theorem lkC_1_82 : lkC 1 82 = true := by decide +kernel
def cuC (I : T2) (a : Nat) : T2 := upr (up2 I a 8 1) (a + 2) (va_cpy (I (a + 3)) (I (a + 2)) 0 0 3)
theorem sp_comeUp {a : Nat} (hk : kd a = 1) : Mt d mX1_comeUp [.ref a] I J (RV (cuC I a) J) := by
  refine Mt.of (by decide +kernel) (Nat.le_of_ble_eq_true rfl) ?_
  refine BX1_comeUp_0 hk ?_
  refine Ev.cpy (M := mX1_comeUp) (i := 82) dX1_comeUp_16 lkC_1_82 (kg_3 hk) (kg_2 hk) (by decide) (by decide) (by decide) (by rw [lg_3 hk]; decide) (by rw [lg_2 hk]; decide) (by decide) ?_
  rw [up2_ne _ _ _ (by omega), up2_ne _ _ _ (by omega)]
  exact RX1_comeUp_19 (Nat.zero_le _) ⟨_, rfl, rfl, rfl, rfl⟩
end GT

