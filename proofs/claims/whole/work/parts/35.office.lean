/-! Gate.spend; Office -/
theorem div_nI {a d : Nat} (ha : a < 2 ^ 31) (h0 : 0 < d) (hd : d < 2 ^ 31) : nI a / nI d = nI (a / d) := pk_div ha h0 hd
theorem slI_self {w : Nat} (hw : w < 2 ^ 30) : slI (nI w) (nI w) = nI (w % 3) := by
  unfold slI
  have e1 : nI w - 1 = iI ((w : Int) - 1) := by rw [iI_nI, iI_1, iI_sub]
  have e2 : nI w + 1 = iI ((w : Int) + 1) := by rw [iI_nI, iI_1, iI_add]
  rw [if_neg (nI_pos (by omega)), e1, e2, iI_nI, if_neg (by rw [iI_lt (by omega) (by omega) (by omega) (by omega)]; omega), if_neg (by rw [iI_lt (by omega) (by omega) (by omega) (by omega)]; omega), ← iI_nI, rem_3 (by omega)]
theorem min_nI {a b : Nat} (ha : a < 2 ^ 31) (hb : b < 2 ^ 31) : (if nI b < nI a then nI b else nI a) = nI (min a b) := by
  by_cases h : b < a
  · rw [if_pos (nI_lt h ha), Nat.min_eq_right (by omega)]
  · rw [if_neg (nI_nlt (by omega) hb), Nat.min_eq_left (by omega)]
section OF
variable {d : Nat} {I : T2} {J : T3}
/-- how many are admitted, how many stored behind that -/
def adN (q h p : Nat) : Nat := min q (h - p)
def stN (q h p t : Nat) : Nat := min h (t + (p + adN q h p - t + 15) / 16 * 16)
set_option maxHeartbeats 1000000 in
theorem sp_spend {a : Nat} (hk : kd a = 1) {wd q h p t : Nat} (hw : I a 7 = nI wd) (hwd : wd < 2 ^ 30) (hh : I (a + 1) (wd % 3) = nI h) (hp : I (a + 2) (wd % 3) = nI p) (ht : I (a + 3) (wd % 3) = nI t) (hpt : p ≤ t) (hth : t ≤ h) (hb : h < 2 ^ 30) (hq : q < 2 ^ 30) : Mt (d + 1) mX1_spend [.ref a, .int (nI q)] I J (RI (nI (adN q h p)) (up2 (up2 I (a + 2) (wd % 3) (nI (p + adN q h p))) (a + 3) (wd % 3) (nI (stN q h p t))) J) := by
  have hm := Nat.mod_lt wd (show 3 > 0 by decide)
  have hg := gate_lt hk
  have had : adN q h p ≤ h - p := Nat.min_le_right _ _
  refine Mt.of (by decide +kernel) (Nat.le_of_ble_eq_true rfl) ?_
  refine BX1_spend_0 hk ?_
  rw [hw]
  refine CX1_spend_8 (sp_slot (nI wd) (nI wd)) (Nat.zero_le _) (fun v I1 J1 q1 => ?_)
  obtain ⟨rfl, rfl, rfl⟩ := q1
  rw [slI_self hwd]
  refine BX1_spend_11 ?_
  refine IX1_spend_14 (fun c => ?_) (fun c => ?_)
  · refine BX1_spend_19 hk (vp_in_nI hm (by decide)) ?_
    rw [nI_clamp (by omega), hh, hp, pk_sub (by omega)]
    refine CX1_spend_33 (sp_min (nI q) (nI (h - p))) (Nat.zero_le _) (fun v I1 J1 q1 => ?_)
    obtain ⟨rfl, rfl, rfl⟩ := q1
    rw [min_nI (by omega) (by omega)]
    refine BX1_spend_36 hk (vp_in_nI hm (by decide)) ?_
    rw [nI_clamp (by omega), hp, nI_add, up2_s, up2_o _ _ _ _ (by omega), ht]
    have e1 : nI (p + min q (h - p)) - nI t = iI ((p + adN q h p : Nat) - (t : Int)) := by rw [iI_nI, iI_nI, iI_sub]; rfl
    rw [e1]
    refine CX1_spend_61 (sp_max 0 (iI ((p + adN q h p : Nat) - (t : Int)))) (Nat.zero_le _) (fun v I1 J1 q1 => ?_)
    obtain ⟨rfl, rfl, rfl⟩ := q1
    have e2 : (if (0 : Int32) < iI ((p + adN q h p : Nat) - (t : Int)) then iI ((p + adN q h p : Nat) - (t : Int)) else 0) = nI (p + adN q h p - t) := by
      rw [iI_0]
      by_cases hc : t < p + adN q h p
      · rw [if_pos (by rw [iI_lt (by omega) (by omega) (by omega) (by omega)]; omega), iI_nI]; congr 1; omega
      · rw [if_neg (by rw [iI_lt (by omega) (by omega) (by omega) (by omega)]; omega), iI_nI]; congr 1; omega
    rw [e2]
    refine BX1_spend_64 hk (vp_in_nI hm (by decide)) ?_
    have e3 : (nI (p + adN q h p - t) + 16 - 1) / 16 * 16 = nI ((p + adN q h p - t + 15) / 16 * 16) := by
      have e4 : nI (p + adN q h p - t) + 16 - 1 = nI (p + adN q h p - t + 15) := by
        rw [show (16 : Int32) = nI 16 from rfl, nI_add, show p + adN q h p - t + 16 = (p + adN q h p - t + 15) + 1 by omega, nI_pred]
      rw [e4, show (16 : Int32) = nI 16 from rfl, div_nI (by omega) (by decide) (by decide), pk_mul]
    rw [nI_clamp (by omega), up2_o _ _ _ _ (by omega), ht, up2_o _ _ _ _ (by omega), hh, e3, nI_add]
    refine CX1_spend_101 (sp_min (nI h) (nI (t + (p + adN q h p - t + 15) / 16 * 16))) (Nat.zero_le _) (fun v I1 J1 q1 => ?_)
    obtain ⟨rfl, rfl, rfl⟩ := q1
    rw [min_nI (by omega) (by omega)]
    refine BX1_spend_104 (kg_3 hk) (by rw [lg_3 hk]; exact vp_in_nI hm (by decide)) ?_
    rw [nI_clamp (by omega)]
    exact RX1_spend_106 (Nat.zero_le _) ⟨_, rfl, rfl, rfl, rfl⟩
  · exfalso
    refine c (fun e => ?_)
    rw [iI_m1, iI_nI, iI_eq (by omega) (by omega) (by omega) (by omega)] at e
    omega
def rnC (I : T2) (x : Nat) : T2 := upr (up2 I 3 x (I 2 3)) (4 + 1 + x) (flr (I (4 + 1 + x)) 8 0)
theorem sp_renew {x : Nat} (hx : x < 3) : Mt (d + 1) mX2_renew [.ref 2, .int (nI x)] I J (RV (rnC I x) J) := by
  refine Mt.of (by decide +kernel) (Nat.le_of_ble_eq_true rfl) ?_
  refine BX2_renew_0 (vp_in_nI hx (by decide)) ?_
  rw [nI_clamp (by omega)]
  refine CX2_renew_17 (sp_fill (kr4 hx) 0) (Nat.zero_le _) (fun v I1 J1 q1 => ?_)
  obtain ⟨rfl, rfl, rfl⟩ := q1
  rw [lr4 hx, up2_ne _ _ _ (by omega)]
  exact RX2_renew_20 (Nat.zero_le _) ⟨_, rfl, rfl, rfl, rfl⟩
theorem rnC_o (I : T2) {x o : Nat} (h1 : o ≠ 3) (h2 : o ≠ 4 + 1 + x) : rnC I x o = I o := by
  unfold rnC
  rw [upr_ne _ _ h2, up2_ne _ _ _ h1]
/-- what the desk renews when its window goes from wd to nx -/
def tnC (I : T2) (wd nx : Nat) : Nat → T2
  | 0 => I
  | k + 1 => if wd + 2 < nx + k then rnC (tnC I wd nx k) ((nx + k - 1) % 3) else tnC I wd nx k
theorem tnC_2 (I : T2) (wd nx : Nat) : ∀ k, tnC I wd nx k 2 = I 2
  | 0 => rfl
  | k + 1 => by
    show (if _ then _ else _ : T2) 2 = _
    by_cases h : wd + 2 < nx + k
    · rw [if_pos h, rnC_o _ (by decide) (by omega), tnC_2 I wd nx k]
    · rw [if_neg h, tnC_2 I wd nx k]
set_option maxHeartbeats 1000000 in
theorem sp_turnTo {wd nx : Nat} (hw : I 2 4 = nI wd) (h1 : wd < 2 ^ 30) (h2 : nx < 2 ^ 30) : Mt (d + 2) mX2_turnTo [.ref 2, .int (nI nx)] I J (RV (up2 (tnC I wd nx 3) 2 4 (nI nx)) J) := by
  refine Mt.of (by decide +kernel) (Nat.le_of_ble_eq_true rfl) ?_
  refine BX2_turnTo_0 ?_
  have key : ∀ q k : Nat, k + q = 3 → Ev (d + 2) 0 0 (fun _ => 0) mX2_turnTo 2 [some (.ref 2), some (.int (nI nx)), some (.int (iI ((k : Int) - 1)))] [] (tnC I wd nx k) J 0 (fun o I' J' _ => ∃ w, o = .inl w ∧ RV (up2 (tnC I wd nx 3) 2 4 (nI nx)) J w I' J') := by
    intro q
    induction q with
    | zero =>
      intro k hk2
      refine BX2_turnTo_2 ?_
      refine IX2_turnTo_4 (fun c => ?_) (fun c => ?_)
      · refine BX2_turnTo_36 ?_
        refine RX2_turnTo_41 (Nat.zero_le _) ⟨_, rfl, rfl, ?_, rfl⟩
        rw [show k = 3 by omega]
      · refine absurd ?_ c
        rw [iI_1, iI_lt (by omega) (by omega) (by omega) (by omega)]
        omega
    | succ q ih =>
      intro k hk2
      refine BX2_turnTo_2 ?_
      refine IX2_turnTo_4 (fun c => ?_) (fun c => ?_)
      · exfalso
        rw [iI_1, iI_lt (by omega) (by omega) (by omega) (by omega)] at c
        omega
      · refine BX2_turnTo_7 ?_
        rw [tnC_2 I wd nx k, hw]
        have e2 : nI nx + iI ((k : Int) - 1) = iI (nx + k - 1) := by rw [iI_nI, iI_add]; congr 1; omega
        have e3 : nI wd + 1 = iI (wd + 1) := by rw [iI_nI, iI_1, iI_add]
        rw [e2, e3]
        have e5 : iI ((k : Int) - 1) + 1 = iI (((k + 1 : Nat) : Int) - 1) := by rw [iI_1, iI_add]; congr 1; omega
        refine IX2_turnTo_16 (fun c2 => ?_) (fun c2 => ?_)
        · rw [iI_le (by omega) (by omega) (by omega) (by omega)] at c2
          refine BX2_turnTo_30 ?_
          rw [e5]
          have e4 : tnC I wd nx (k + 1) = tnC I wd nx k := if_neg (by omega)
          rw [← e4]
          exact ih (k + 1) (by omega)
        · rw [iI_le (by omega) (by omega) (by omega) (by omega)] at c2
          refine BX2_turnTo_19 ?_
          rw [e2]
          have e6 : iI ((nx : Int) + k - 1) = nI (nx + k - 1) := by rw [iI_nI]; congr 1; omega
          rw [e6]
          refine CX2_turnTo_24 (sp_fm (nI (nx + k - 1)) 3 (by decide)) (Nat.zero_le _) (fun v I1 J1 q1 => ?_)
          obtain ⟨rfl, rfl, rfl⟩ := q1
          rw [fm_3 (by omega)]
          refine CX2_turnTo_27 (sp_renew (Nat.mod_lt _ (by decide))) (Nat.zero_le _) (fun v I1 J1 q1 => ?_)
          obtain ⟨rfl, rfl, rfl⟩ := q1
          refine BX2_turnTo_30 ?_
          rw [e5]
          have e4 : tnC I wd nx (k + 1) = rnC (tnC I wd nx k) ((nx + k - 1) % 3) := if_pos (by omega)
          rw [← e4]
          exact ih (k + 1) (by omega)
  exact key 3 0 rfl
/-- the pleas of the first k slots are forgotten -/
def fgC (I : T2) : Nat → T2
  | 0 => I
  | k + 1 => upr (fgC I k) (4 + 1 + k) (flr (I (4 + 1 + k)) 8 0)
theorem fgC_o (I : T2) {o : Nat} : ∀ k, (∀ j, j < k → o ≠ 4 + 1 + j) → fgC I k o = I o
  | 0, _ => rfl
  | k + 1, h => by
    show upr (fgC I k) (4 + 1 + k) _ o = _
    rw [upr_ne _ _ (h k (by omega)), fgC_o I k (fun j hj => h j (by omega))]
theorem sp_forget : Mt (d + 1) mX2_forgetPleas [.ref 2] I J (RV (fgC I 3) J) := by
  refine Mt.of (by decide +kernel) (Nat.le_of_ble_eq_true rfl) ?_
  refine BX2_forgetPleas_0 ?_
  have key : ∀ q k : Nat, k + q = 3 → Ev (d + 1) 0 0 (fun _ => 0) mX2_forgetPleas 2 [some (.ref 2), some (.int (nI k))] [] (fgC I k) J 0 (fun o I' J' _ => ∃ w, o = .inl w ∧ RV (fgC I 3) J w I' J') := by
    intro q
    induction q with
    | zero =>
      intro k hk2
      refine BX2_forgetPleas_2 ?_
      refine IX2_forgetPleas_4 (fun c => ?_) (fun c => ?_)
      · refine RX2_forgetPleas_23 (Nat.zero_le _) ⟨_, rfl, rfl, ?_, rfl⟩
        rw [show k = 3 by omega]
      · exact absurd (show (3 : Int32) ≤ nI k from nI_le (a := 3) (by omega) (by omega)) c
    | succ q ih =>
      intro k hk2
      refine BX2_forgetPleas_2 ?_
      refine IX2_forgetPleas_4 (fun c => ?_) (fun c => ?_)
      · exact absurd c (show ¬ (3 : Int32) ≤ nI k from nI_ge (b := 3) (by omega) (by decide))
      · refine BX2_forgetPleas_7 (vp_in_nI (by omega) (by decide)) ?_
        rw [nI_clamp (by omega)]
        refine CX2_forgetPleas_14 (sp_fill (kr4 (by omega)) 0) (Nat.zero_le _) (fun v I1 J1 q1 => ?_)
        obtain ⟨rfl, rfl, rfl⟩ := q1
        rw [lr4 (by omega), fgC_o I k (fun j hj => by omega)]
        refine BX2_forgetPleas_17 ?_
        rw [nI_1]
        exact ih (k + 1) (by omega)
  exact key 3 0 rfl
def ofC (I : T2) (b : Int32) : T2 := fgC (upr (up2 (up2 (up2 (up2 I 2 3 b) 2 4 0) 2 5 0) 2 6 1) 3 (flr (I 3) 3 b)) 3
theorem sp_ofBegin (b : Int32) : Mt (d + 2) mX2_begin [.ref 2, .int b] I J (RV (ofC I b) J) := by
  refine Mt.of (by decide +kernel) (Nat.le_of_ble_eq_true rfl) ?_
  refine BX2_begin_0 ?_
  rw [up2_k _ _ _ (by decide), up2_k _ _ _ (by decide), up2_k _ _ _ (by decide), up2_s]
  refine CX2_begin_28 (sp_fill (by decide) b) (Nat.zero_le _) (fun v I1 J1 q1 => ?_)
  obtain ⟨rfl, rfl, rfl⟩ := q1
  rw [show ln 3 = 3 from rfl, up2_ne _ _ _ (by decide), up2_ne _ _ _ (by decide), up2_ne _ _ _ (by decide), up2_ne _ _ _ (by decide)]
  refine BX2_begin_31 ?_
  refine CX2_begin_32 (sp_forget) (Nat.zero_le _) (fun v I1 J1 q1 => ?_)
  obtain ⟨rfl, rfl, rfl⟩ := q1
  exact RX2_begin_35 (Nat.zero_le _) ⟨_, rfl, rfl, rfl, rfl⟩
def auC (I : T2) (w n : Int32) : T2 := if slI w (I 2 4) = -1 then I else up2 I 3 (slI w (I 2 4)).toNatClampNeg (I 3 (slI w (I 2 4)).toNatClampNeg + n)
theorem sp_addUnits (w n : Int32) : Mt (d + 1) mX2_addUnits [.ref 2, .int w, .int n] I J (RV (auC I w n) J) := by
  refine Mt.of (by decide +kernel) (Nat.le_of_ble_eq_true rfl) ?_
  refine BX2_addUnits_0  ?_
  refine CX2_addUnits_5 (sp_slot w (I 2 4)) (Nat.zero_le _) (fun v5 I5 J5 q5 => ?_)
  obtain ⟨rfl, rfl, rfl⟩ := q5
  refine BX2_addUnits_8  ?_
  refine IX2_addUnits_11 (fun c11 => ?_) (fun c11 => ?_)
  · skip
    exact RX2_addUnits_24  (Nat.zero_le _) ⟨_, rfl, ⟨rfl, by first | (unfold auC; rw [if_neg c11]) | (unfold auC; rw [if_pos c11]), rfl⟩⟩
  · skip
    refine BX2_addUnits_14 (sl_in _ _ c11) ?_
    exact RX2_addUnits_24  (Nat.zero_le _) ⟨_, rfl, ⟨rfl, by first | (unfold auC; rw [if_neg c11]) | (unfold auC; rw [if_pos c11]), rfl⟩⟩
/-- how many of the first n places are above 0 -/
def cnR (r : Nat → Int32) : Nat → Nat
  | 0 => 0
  | n + 1 => cnR r n + (if 0 < r n then 1 else 0)
theorem cnR_le (r : Nat → Int32) : ∀ n, cnR r n ≤ n
  | 0 => Nat.le_refl _
  | n + 1 => by
    have := cnR_le r n
    show cnR r n + (if 0 < r n then 1 else 0) ≤ n + 1
    by_cases h : 0 < r n
    · rw [if_pos h]; omega
    · rw [if_neg h]; omega
def cnS (I : T2) : Nat → Nat
  | 0 => 0
  | k + 1 => cnS I k + cnR (I (4 + 1 + k)) 8
theorem sp_waiting : Mt d mX2_waitingPleas [.ref 2] I J (RI (nI (cnS I 3)) I J) := by
  refine Mt.of (by decide +kernel) (Nat.le_of_ble_eq_true rfl) ?_
  refine BX2_waitingPleas_0 ?_
  have key : ∀ q k : Nat, k + q = 3 → Ev d 0 0 (fun _ => 0) mX2_waitingPleas 4 [some (.ref 2), some (.int (nI (cnS I k))), some (.int (nI k)), none] [] I J 0 (fun o I' J' _ => ∃ w, o = .inl w ∧ RI (nI (cnS I 3)) I J w I' J') := by
    intro q
    induction q with
    | zero =>
      intro k hk2
      refine BX2_waitingPleas_4 ?_
      refine IX2_waitingPleas_6 (fun c => ?_) (fun c => ?_)
      · refine BX2_waitingPleas_48 ?_
        refine RX2_waitingPleas_49 (Nat.zero_le _) ⟨_, rfl, ?_, rfl, rfl⟩
        rw [show k = 3 by omega]
      · exact absurd (show (3 : Int32) ≤ nI k from nI_le (a := 3) (by omega) (by omega)) c
    | succ q ih =>
      intro k hk2
      refine BX2_waitingPleas_4 ?_
      refine IX2_waitingPleas_6 (fun c => ?_) (fun c => ?_)
      · exact absurd c (show ¬ (3 : Int32) ≤ nI k from nI_ge (b := 3) (by omega) (by decide))
      · refine BX2_waitingPleas_9 ?_
        have key2 : ∀ q2 g : Nat, g + q2 = 8 → Ev d 0 0 (fun _ => 0) mX2_waitingPleas 11 [some (.ref 2), some (.int (nI (cnS I k + cnR (I (4 + 1 + k)) g))), some (.int (nI k)), some (.int (nI g))] [] I J 0 (fun o I' J' _ => ∃ w, o = .inl w ∧ RI (nI (cnS I 3)) I J w I' J') := by
          intro q2
          induction q2 with
          | zero =>
            intro g hg
            refine BX2_waitingPleas_11 ?_
            refine IX2_waitingPleas_14 (fun c3 => ?_) (fun c3 => ?_)
            · refine BX2_waitingPleas_42 ?_
              rw [nI_1, show g = 8 by omega]
              refine Ev.weak (ls' := [some (.ref 2), some (.int (nI (cnS I (k + 1)))), some (.int (nI (k + 1))), none]) ⟨Or.inr rfl, Or.inr rfl, Or.inr rfl, Or.inl rfl, trivial⟩ ?_
              exact ih (k + 1) (by omega)
            · exact absurd (show (8 : Int32) ≤ nI g from nI_le (a := 8) (by omega) (by omega)) c3
          | succ q2 ih2 =>
            intro g hg
            refine BX2_waitingPleas_11 ?_
            refine IX2_waitingPleas_14 (fun c3 => ?_) (fun c3 => ?_)
            · exact absurd c3 (show ¬ (8 : Int32) ≤ nI g from nI_ge (b := 8) (by omega) (by decide))
            · refine BX2_waitingPleas_17 (vp_in_nI (by omega) (by decide)) (vp_in_nI (by omega) (by decide)) ?_
              rw [nI_clamp (by omega), nI_clamp (by omega)]
              refine IX2_waitingPleas_26 (fun c4 => ?_) (fun c4 => ?_)
              · refine BX2_waitingPleas_33 ?_
                refine BX2_waitingPleas_34 ?_
                rw [nI_1]
                have e : nI (cnS I k + cnR (I (4 + 1 + k)) g) + 0 = nI (cnS I k + cnR (I (4 + 1 + k)) (g + 1)) := by
                  show _ + nI 0 = _
                  rw [nI_add]
                  show _ = nI (cnS I k + (cnR (I (4 + 1 + k)) g + (if 0 < I (4 + 1 + k) g then 1 else 0)))
                  rw [if_neg (Int32.not_lt.mpr c4)]
                  rfl
                rw [e]
                exact ih2 (g + 1) (by omega)
              · refine BX2_waitingPleas_29 ?_
                refine BX2_waitingPleas_34 ?_
                have e : nI (cnS I k + cnR (I (4 + 1 + k)) g) + 1 = nI (cnS I k + cnR (I (4 + 1 + k)) (g + 1)) := by
                  rw [nI_1]
                  show _ = nI (cnS I k + (cnR (I (4 + 1 + k)) g + (if 0 < I (4 + 1 + k) g then 1 else 0)))
                  rw [if_pos (Int32.not_le.mp c4)]
                  rfl
                rw [e, nI_1]
                exact ih2 (g + 1) (by omega)
        exact key2 8 0 rfl
  exact key 3 0 rfl
end OF

