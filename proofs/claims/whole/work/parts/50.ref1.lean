/-! the reference: small ones, put, send, move, tick -/
theorem mul6' (a : Nat) : 6 * nI a = nI (6 * a) := pk_mul 6 a
theorem mul3' (a : Nat) : 3 * nI a = nI (3 * a) := pk_mul 3 a
theorem mul50' (a : Nat) : 50 * nI a = nI (50 * a) := pk_mul 50 a
theorem mul300' (a : Nat) : 300 * nI a = nI (300 * a) := pk_mul 300 a
theorem nI_2 (a : Nat) : nI a + 2 = nI (a + 2) := nI_add a 2
theorem nI_3 (a : Nat) : nI a + 3 = nI (a + 3) := nI_add a 3
theorem nI_4 (a : Nat) : nI a + 4 = nI (a + 4) := nI_add a 4
theorem nI_5 (a : Nat) : nI a + 5 = nI (a + 5) := nI_add a 5
theorem nI_6 (a : Nat) : nI a + 6 = nI (a + 6) := nI_add a 6
theorem n8_ (a : Nat) : 8 + nI a = nI (8 + a) := nI_add 8 a
section RF
variable {d : Nat} {I : T2} {J : T3}
theorem sm_thrown : Mt d mX7_thrown [.ref 136] I J (RI (I 136 0) I J) := by
  refine Mt.of (by decide +kernel) (Nat.le_of_ble_eq_true rfl) ?_
  refine BX7_thrown_0  ?_
  exact RX7_thrown_4  (Nat.zero_le _) ⟨_, rfl, ⟨rfl, rfl, rfl⟩⟩
theorem sm_isGate {G x : Nat} (hG : I 136 4 = nI G) (hG8 : G ≤ 8) (hx : x < G) : Mt d mX7_isGate [.ref 136, .int (nI x)] I J (RI 1 I J) := by
  refine Mt.of (by decide +kernel) (Nat.le_of_ble_eq_true rfl) ?_
  refine BX7_isGate_0  ?_
  refine IX7_isGate_1 (fun c1 => absurd c1 (nI_pos (by omega))) (fun c1 => ?_)
  refine BX7_isGate_4  ?_
  refine IX7_isGate_9 (fun c9 => absurd c9 (by rw [hG]; exact nI_ge hx (by omega))) (fun c9 => ?_)
  refine BX7_isGate_12  ?_
  exact RX7_isGate_17 (by first | exact Or.inl rfl | exact Or.inr rfl) (Nat.zero_le _) ⟨_, rfl, ⟨rfl, rfl, rfl⟩⟩
theorem sm_isGate0 {x : Int32} (hx : x < 0 ∨ I 136 4 ≤ x) : Mt d mX7_isGate [.ref 136, .int x] I J (RI 0 I J) := by
  refine Mt.of (by decide +kernel) (Nat.le_of_ble_eq_true rfl) ?_
  refine BX7_isGate_0  ?_
  refine IX7_isGate_1 (fun c1 => ?_) (fun c1 => ?_)
  · skip
    refine BX7_isGate_16  ?_
    exact RX7_isGate_17 (by first | exact Or.inl rfl | exact Or.inr rfl) (Nat.zero_le _) ⟨_, rfl, ⟨rfl, rfl, rfl⟩⟩
  · skip
    refine BX7_isGate_4  ?_
    refine IX7_isGate_9 (fun c9 => ?_) (fun c9 => absurd c9 (fun z => hx.elim (fun y => c1 y) (fun y => z y)))
    refine BX7_isGate_16  ?_
    exact RX7_isGate_17 (by first | exact Or.inl rfl | exact Or.inr rfl) (Nat.zero_le _) ⟨_, rfl, ⟨rfl, rfl, rfl⟩⟩
theorem sm_isLetter {n x : Nat} (hn : I 136 24 = nI n) (hn2 : n ≤ 200) (hx : x < n) : Mt d mX7_isLetter [.ref 136, .int (nI x)] I J (RI 1 I J) := by
  refine Mt.of (by decide +kernel) (Nat.le_of_ble_eq_true rfl) ?_
  refine BX7_isLetter_0  ?_
  refine IX7_isLetter_1 (fun c1 => absurd c1 (nI_pos (by omega))) (fun c1 => ?_)
  refine BX7_isLetter_4  ?_
  refine IX7_isLetter_9 (fun c9 => absurd c9 (by rw [hn]; exact nI_ge hx (by omega))) (fun c9 => ?_)
  refine BX7_isLetter_12  ?_
  exact RX7_isLetter_17 (by first | exact Or.inl rfl | exact Or.inr rfl) (Nat.zero_le _) ⟨_, rfl, ⟨rfl, rfl, rfl⟩⟩
theorem sm_isLetter0 {x : Int32} (hx : x < 0 ∨ I 136 24 ≤ x) : Mt d mX7_isLetter [.ref 136, .int x] I J (RI 0 I J) := by
  refine Mt.of (by decide +kernel) (Nat.le_of_ble_eq_true rfl) ?_
  refine BX7_isLetter_0  ?_
  refine IX7_isLetter_1 (fun c1 => ?_) (fun c1 => ?_)
  · skip
    refine BX7_isLetter_16  ?_
    exact RX7_isLetter_17 (by first | exact Or.inl rfl | exact Or.inr rfl) (Nat.zero_le _) ⟨_, rfl, ⟨rfl, rfl, rfl⟩⟩
  · skip
    refine BX7_isLetter_4  ?_
    refine IX7_isLetter_9 (fun c9 => ?_) (fun c9 => absurd c9 (fun z => hx.elim (fun y => c1 y) (fun y => z y)))
    refine BX7_isLetter_16  ?_
    exact RX7_isLetter_17 (by first | exact Or.inl rfl | exact Or.inr rfl) (Nat.zero_le _) ⟨_, rfl, ⟨rfl, rfl, rfl⟩⟩
def csM (I : T2) (l : Nat) : Int32 := if I 148 l < 50 then 1 else 0
theorem sm_canSend {l : Nat} (hl : l < 16) : Mt d mX7_canSend [.ref 136, .int (nI l)] I J (RI (csM I l) I J) := by
  refine Mt.of (by decide +kernel) (Nat.le_of_ble_eq_true rfl) ?_
  refine BX7_canSend_0 (vp_in_nI hl (by decide)) ?_
  rw [nI_clamp (by omega)]
  unfold csM
  refine IX7_canSend_8 (fun c => ?_) (fun c => ?_)
  · rw [if_neg (Int32.not_lt.mpr c)]
    refine BX7_canSend_15  ?_
    exact RX7_canSend_16 (by first | exact Or.inl rfl | exact Or.inr rfl) (Nat.zero_le _) ⟨_, rfl, ⟨rfl, rfl, rfl⟩⟩
  · rw [if_pos (Int32.not_le.mp c)]
    refine BX7_canSend_11  ?_
    exact RX7_canSend_16 (by first | exact Or.inl rfl | exact Or.inr rfl) (Nat.zero_le _) ⟨_, rfl, ⟨rfl, rfl, rfl⟩⟩
def whI (w c : Int32) : Int32 := if w < 0 then -1 else if w.toInt64 - c.toInt64 + 1 < 0 then -1 else if 2 < w.toInt64 - c.toInt64 + 1 then -1 else (w.toInt64 - c.toInt64 + 1).toInt32
theorem sm_which (w c : Int32) : Mt d mX7_which [.int w, .int c] I J (RI (whI w c) I J) := by
  refine Mt.of (by decide +kernel) (Nat.le_of_ble_eq_true rfl) ?_
  refine BX7_which_0 ?_
  unfold whI
  refine IX7_which_9 (fun c1 => ?_) (fun c1 => ?_)
  · rw [if_pos c1]
    refine Ev.weak (ls' := [some (.int w), some (.int c), some (.long (w.toInt64 - c.toInt64 + 1)), none]) ⟨Or.inr rfl, Or.inr rfl, Or.inr rfl, Or.inr rfl, trivial⟩ ?_
    refine BX7_which_26  ?_
    exact RX7_which_32  (Nat.zero_le _) ⟨_, rfl, ⟨rfl, rfl, rfl⟩⟩
  · rw [if_neg c1]
    refine BX7_which_12 ?_
    refine IX7_which_15 (fun c2 => ?_) (fun c2 => ?_)
    · rw [if_pos ((lg_lt0 _ _).mp c2)]
      refine BX7_which_26  ?_
      exact RX7_which_32  (Nat.zero_le _) ⟨_, rfl, ⟨rfl, rfl, rfl⟩⟩
    · rw [if_neg (fun z => c2 ((lg_lt0 _ _).mpr z))]
      refine BX7_which_18 ?_
      refine IX7_which_23 (fun c3 => ?_) (fun c3 => ?_)
      · rw [if_neg ((lg_le0 _ _).mp c3)]
        refine BX7_which_30  ?_
        exact RX7_which_32  (Nat.zero_le _) ⟨_, rfl, ⟨rfl, rfl, rfl⟩⟩
      · rw [if_pos (Classical.not_not.mp (fun z => c3 ((lg_le0 _ _).mpr z)))]
        refine BX7_which_26  ?_
        exact RX7_which_32  (Nat.zero_le _) ⟨_, rfl, ⟨rfl, rfl, rfl⟩⟩
/-- the pool with one letter more behind -/
def ptM (I : T2) (n : Nat) (so g nu w u t : Int32) : T2 := if n < 200 then up2 (up2 (up2 (up2 (up2 (up2 (up2 I 151 (6 * n) so) 151 (6 * n + 1) g) 151 (6 * n + 2) nu) 151 (6 * n + 3) w) 151 (6 * n + 4) u) 151 (6 * n + 5) t) 136 24 (nI (n + 1)) else I
theorem sm_put {n : Nat} (hn : I 136 24 = nI n) (hn2 : n ≤ 200) (so g nu w u t : Int32) : Mt d mX7_put [.ref 136, .int so, .int g, .int nu, .int w, .int u, .int t] I J (RV (ptM I n so g nu w u t) J) := by
  refine Mt.of (by decide +kernel) (Nat.le_of_ble_eq_true rfl) ?_
  refine BX7_put_0 ?_
  rw [hn]
  unfold ptM
  by_cases c : n < 200
  · rw [if_pos c]
    refine IX7_put_7 (fun z => absurd z (nI_ge (b := 200) c (by decide))) (fun _ => ?_)
    refine BX7_put_10 ?_ ?_ ?_ ?_ ?_ ?_ ?_
    · rw [hn, mul6']; exact vp_in_nI (by omega) (by decide)
    · rw [hn, mul6', nI_1]; exact vp_in_nI (by omega) (by decide)
    · rw [hn, mul6', nI_2]; exact vp_in_nI (by omega) (by decide)
    · rw [hn, mul6', nI_3]; exact vp_in_nI (by omega) (by decide)
    · rw [hn, mul6', nI_4]; exact vp_in_nI (by omega) (by decide)
    · rw [hn, mul6', nI_5]; exact vp_in_nI (by omega) (by decide)
    · rw [hn, mul6', nI_1 (6 * n), nI_2, nI_3, nI_4, nI_5, nI_clamp (by omega), nI_clamp (by omega), nI_clamp (by omega), nI_clamp (by omega), nI_clamp (by omega), nI_clamp (by omega), up2_o _ _ _ _ (by decide), up2_o _ _ _ _ (by decide), up2_o _ _ _ _ (by decide), up2_o _ _ _ _ (by decide), up2_o _ _ _ _ (by decide), up2_o _ _ _ _ (by decide), hn, nI_1]
      exact RX7_put_90 (Nat.zero_le _) ⟨_, rfl, rfl, rfl, rfl⟩
  · rw [if_neg c]
    refine IX7_put_7 (fun _ => ?_) (fun z => absurd (nI_le (a := 200) (by omega) (by omega)) z)
    exact RX7_put_90 (Nat.zero_le _) ⟨_, rfl, rfl, rfl, rfl⟩
/-- the row of what is kept of line l, with one letter more -/
def kpM (I : T2) (l s k : Nat) (so g w u t : Int32) : T2 := up2 (up2 (up2 (up2 (up2 (up2 (up2 (up2 I 149 l (nI (s + 1))) 147 (6 * (50 * l + k)) so) 147 (6 * (50 * l + k) + 1) g) 147 (6 * (50 * l + k) + 2) (nI (s + 1))) 147 (6 * (50 * l + k) + 3) w) 147 (6 * (50 * l + k) + 4) u) 147 (6 * (50 * l + k) + 5) t) 148 l (nI (k + 1))
def snM (I : T2) (n l s k : Nat) (so g w u t : Int32) : T2 := ptM (kpM I l s k so g w u t) n so g (nI (s + 1)) w u t
set_option maxHeartbeats 1000000 in
theorem sm_send {n l s k : Nat} (hn : I 136 24 = nI n) (hn2 : n ≤ 200) (hl : l < 16) (hs : I 149 l = nI s) (hk : I 148 l = nI k) (hk2 : k < 50) (so g w u t : Int32) : Mt (d + 1) mX7_send [.ref 136, .int (nI l), .int so, .int g, .int w, .int u, .int t] I J (RV (snM I n l s k so g w u t) J) := by
  refine Mt.of (by decide +kernel) (Nat.le_of_ble_eq_true rfl) ?_
  have e148 : ∀ v : Int32, up2 I 149 l v 148 l = nI k := fun v => by rw [up2_o _ _ _ _ (by decide), hk]
  refine BX7_send_0 (vp_in_nI hl (by decide)) ?_ ?_ ?_ ?_ ?_ ?_ ?_
  · rw [nI_clamp (by omega), e148, mul50', nI_add, mul6']; exact vp_in_nI (by omega) (by decide)
  · rw [nI_clamp (by omega), e148, mul50', nI_add, mul6', nI_1]; exact vp_in_nI (by omega) (by decide)
  · rw [nI_clamp (by omega), e148, mul50', nI_add, mul6', nI_2]; exact vp_in_nI (by omega) (by decide)
  · rw [nI_clamp (by omega), e148, mul50', nI_add, mul6', nI_3]; exact vp_in_nI (by omega) (by decide)
  · rw [nI_clamp (by omega), e148, mul50', nI_add, mul6', nI_4]; exact vp_in_nI (by omega) (by decide)
  · rw [nI_clamp (by omega), e148, mul50', nI_add, mul6', nI_5]; exact vp_in_nI (by omega) (by decide)
  · rw [nI_clamp (n := l) (by omega), e148, mul50', nI_add (50 * l) k, mul6', hs, nI_1 s, nI_1 (6 * (50 * l + k)), nI_2, nI_3, nI_4, nI_5, nI_clamp (n := 6 * (50 * l + k)) (by omega), nI_clamp (n := 6 * (50 * l + k) + 1) (by omega), nI_clamp (n := 6 * (50 * l + k) + 2) (by omega), nI_clamp (n := 6 * (50 * l + k) + 3) (by omega), nI_clamp (n := 6 * (50 * l + k) + 4) (by omega), nI_clamp (n := 6 * (50 * l + k) + 5) (by omega)]
    have r149 : up2 (up2 (up2 I 149 l (nI (s + 1))) 147 (6 * (50 * l + k)) so) 147 (6 * (50 * l + k) + 1) g 149 l = nI (s + 1) := by rw [up2_o _ _ _ _ (by decide), up2_o _ _ _ _ (by decide), up2_s]
    rw [r149]
    have r148 : up2 (up2 (up2 (up2 (up2 (up2 (up2 I 149 l (nI (s + 1))) 147 (6 * (50 * l + k)) so) 147 (6 * (50 * l + k) + 1) g) 147 (6 * (50 * l + k) + 2) (nI (s + 1))) 147 (6 * (50 * l + k) + 3) w) 147 (6 * (50 * l + k) + 4) u) 147 (6 * (50 * l + k) + 5) t 148 l = nI k := by
      rw [up2_o _ _ _ _ (by decide), up2_o _ _ _ _ (by decide), up2_o _ _ _ _ (by decide), up2_o _ _ _ _ (by decide), up2_o _ _ _ _ (by decide), up2_o _ _ _ _ (by decide), up2_o _ _ _ _ (by decide), hk]
    rw [r148, nI_1 k]
    have rr : kpM I l s k so g w u t 149 l = nI (s + 1) := by
      unfold kpM
      rw [up2_o _ _ _ _ (by decide), up2_o _ _ _ _ (by decide), up2_o _ _ _ _ (by decide), up2_o _ _ _ _ (by decide), up2_o _ _ _ _ (by decide), up2_o _ _ _ _ (by decide), up2_o _ _ _ _ (by decide), up2_s]
    have rn : kpM I l s k so g w u t 136 24 = nI n := by
      unfold kpM
      rw [up2_o _ _ _ _ (by decide), up2_o _ _ _ _ (by decide), up2_o _ _ _ _ (by decide), up2_o _ _ _ _ (by decide), up2_o _ _ _ _ (by decide), up2_o _ _ _ _ (by decide), up2_o _ _ _ _ (by decide), up2_o _ _ _ _ (by decide), hn]
    show Ev _ _ _ _ _ _ _ [.int t, .int u, .int w, .int (kpM I l s k so g w u t 149 l), .int g, .int so, .ref 136] (kpM I l s k so g w u t) J 0 _
    rw [rr]
    refine CX7_send_117 (sm_put rn hn2 so g (nI (s + 1)) w u t) (Nat.zero_le _) (fun v I1 J1 q1 => ?_)
    obtain ⟨rfl, rfl, rfl⟩ := q1
    exact RX7_send_120 (Nat.zero_le _) ⟨_, rfl, rfl, rfl, rfl⟩
/-- three in a row move by k -/
def mvM (I : T2) (a b : Nat) (fr : Int32) : Nat → T2
  | 0 => I
  | k + 1 => up2 (up2 (up2 (mvM I a b fr k) a b (mvM I a b fr k a (b + 1))) a (b + 1) (mvM I a b fr k a (b + 2))) a (b + 2) fr
theorem mvM_o {a b : Nat} {fr : Int32} {o : Nat} (h : o ≠ a) : ∀ k, mvM I a b fr k o = I o
  | 0 => rfl
  | k + 1 => by
    show up2 _ _ _ _ o = _
    rw [up2_ne _ _ _ h, up2_ne _ _ _ h, up2_ne _ _ _ h, mvM_o h k]
theorem sm_move {a b m : Nat} {fr : Int32} (hk : kd a = 8) (hb : b + 2 < ln a) (hln : ln a < 2 ^ 31) (hm : m < 2 ^ 31) : Mt d mX7_move [.ref a, .int (nI b), .long (lN m), .int fr] I J (RV (mvM I a b fr (min m 3)) J) := by
  refine Mt.of (by decide +kernel) (Nat.le_of_ble_eq_true rfl) ?_
  refine BX7_move_0 ?_
  have key : ∀ q k : Nat, k + q = min m 3 → Ev d 0 0 (fun _ => 0) mX7_move 3 [some (.ref a), some (.int (nI b)), some (.long (lN m)), none, some (.int fr), some (.long (lN k)), none] [] (mvM I a b fr k) J 0 (fun o I' J' _ => ∃ w, o = .inl w ∧ RV (mvM I a b fr (min m 3)) J w I' J') := by
    intro q
    have m1 := Nat.min_le_left m 3
    have m2 := Nat.min_le_right m 3
    induction q with
    | zero =>
      intro k hk2
      have hkm : k = min m 3 := by omega
      refine BX7_move_3 ?_
      refine IX7_move_7 (fun c => ?_) (fun c => ?_)
      · refine RX7_move_53 (Nat.zero_le _) ⟨_, rfl, rfl, ?_, rfl⟩
        rw [hkm]
      · have c1 : k < m := Nat.lt_of_not_le fun z => c ((lg_ge0 _ _).mpr (fun y => absurd ((lN_lt (by omega) hm).mp y) (by omega)))
        refine BX7_move_10 ?_
        refine IX7_move_16 (fun c => ?_) (fun c => ?_)
        · refine RX7_move_53 (Nat.zero_le _) ⟨_, rfl, rfl, ?_, rfl⟩
          rw [hkm]
        · refine absurd ((lg_ge0 _ _).mpr (fun y => ?_)) c
          have y' := (lN_lt (a := k) (b := 3) (by omega) (by decide)).mp y
          by_cases c3 : m ≤ 3
          · rw [Nat.min_eq_left c3] at hkm; omega
          · rw [Nat.min_eq_right (by omega)] at hkm; omega
    | succ q ih =>
      intro k hk2
      refine BX7_move_3 ?_
      refine IX7_move_7 (fun c => absurd ((lN_lt (by omega) hm).mpr (by omega)) ((lg_ge0 _ _).mp c)) (fun _ => ?_)
      refine BX7_move_10 ?_
      refine IX7_move_16 (fun c => absurd ((lN_lt (b := 3) (by omega) (by decide)).mpr (by omega)) ((lg_ge0 _ _).mp c)) (fun _ => ?_)
      refine BX7_move_19 hk (by rw [nI_1]; exact vp_in_nI (by omega) hln) (vp_in_nI (by omega) hln) (by rw [nI_2]; exact vp_in_nI (by omega) hln) ?_
      rw [nI_1, nI_2, nI_clamp (by omega), nI_clamp (by omega), nI_clamp (by omega), lN_1, up2_k _ _ _ (show b + 2 ≠ b by omega)]
      exact ih (k + 1) (by omega)
  exact key (min m 3) 0 (Nat.zero_add _)
/-- a gate's clock and windows after a look; m: by how many windows -/
def tiM (I : T2) (x m : Nat) (nw : Int32) : T2 := up2 (mvM (mvM (mvM I 144 (3 * x) 0 (min m 3)) 145 (3 * x) 0 (min m 3)) 146 (3 * x) 0 (min m 3)) 142 x nw
def clM (I : T2) (J : T3) (x : Nat) : Int64 := if J 141 x < J 136 5 + (I 140 x).toInt64 then J 136 5 + (I 140 x).toInt64 else J 141 x
theorem sm_tick {x wd nx : Nat} (hx : x < 8) (hl : ¬ (I 136 2).toInt64 = 0) (hw : I 142 x = nI wd) (hn : (clM I J x / (I 136 2).toInt64).toInt32 = nI nx) (hle : wd ≤ nx) (hnx : nx < 2 ^ 30) : Mt (d + 1) mX7_tick [.ref 136, .int (nI x)] I J (RV (tiM I x (nx - wd) (nI nx)) (up3 J 141 x (clM I J x))) := by
  refine Mt.of (by decide +kernel) (Nat.le_of_ble_eq_true rfl) ?_
  refine BX7_tick_0 (vp_in_nI hx (by decide)) ?_
  rw [nI_clamp (by omega)]
  have fin : Ev (d + 1) 0 0 (fun _ => 0) mX7_tick 39 [some (.ref 136), some (.int (nI x)), some (.long (J 136 5 + (I 140 x).toInt64)), none, none, none, none] [.long (clM I J x), .int (nI x), .ref 141] I J 0 (fun o I' J' _ => ∃ w, o = .inl w ∧ RV (tiM I x (nx - wd) (nI nx)) (up3 J 141 x (clM I J x)) w I' J') := by
    refine BX7_tick_39 (by decide) (vp_in_nI hx (by decide)) (vp_in_nI hx (by decide)) hl ?_
    have eJ : up3 J 141 x (clM I J x) 141 x = clM I J x := by rw [up3_v, if_pos ⟨rfl, rfl⟩]
    rw [nI_clamp (by omega), eJ, hn, hw, pk_sub hle, nI_l (by omega), mul3']
    refine CX7_tick_77 (sm_move (by decide) (by show 3 * x + 2 < 24; omega) (by decide) (by omega)) (Nat.zero_le _) (fun v I1 J1 q1 => ?_)
    obtain ⟨rfl, rfl, rfl⟩ := q1
    refine BX7_tick_80 ?_
    rw [mul3']
    refine CX7_tick_90 (sm_move (by decide) (by show 3 * x + 2 < 24; omega) (by decide) (by omega)) (Nat.zero_le _) (fun v I1 J1 q1 => ?_)
    obtain ⟨rfl, rfl, rfl⟩ := q1
    refine BX7_tick_93 ?_
    rw [mul3']
    refine CX7_tick_103 (sm_move (by decide) (by show 3 * x + 2 < 24; omega) (by decide) (by omega)) (Nat.zero_le _) (fun v I1 J1 q1 => ?_)
    obtain ⟨rfl, rfl, rfl⟩ := q1
    refine BX7_tick_106 (vp_in_nI hx (by decide)) ?_
    rw [nI_clamp (by omega)]
    exact RX7_tick_114 (Nat.zero_le _) ⟨_, rfl, rfl, rfl, rfl⟩
  refine IX7_tick_26 (fun c => ?_) (fun c => ?_)
  · refine BX7_tick_33 (vp_in_nI hx (by decide)) ?_
    have e : clM I J x = J 141 x := if_neg ((lg_le0 _ _).mp c)
    rw [nI_clamp (by omega), ← e]
    exact fin
  · refine BX7_tick_29 ?_
    have e : clM I J x = J 136 5 + (I 140 x).toInt64 := if_pos (Classical.not_not.mp (fun z => c ((lg_le0 _ _).mpr z)))
    rw [← e]
    have fin' := fin
    rw [← e] at fin'
    exact fin'
end RF

