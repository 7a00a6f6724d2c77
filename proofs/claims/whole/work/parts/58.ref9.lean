/-! the reference: the busiest span -/
section RF9
variable {d : Nat} {I : T2} {J : T3}
theorem ex_at : ∀ {rs : Rw} {s j : Nat}, s < rs.length → j < rcA rs s → (exR rs)[tpA rs s + j]? = some (rtA rs s)
  | [], s, j, h, _ => absurd h (Nat.not_lt_zero _)
  | q :: r, 0, j, _, hj => by
    have hj' : j < q.2 := hj
    show (List.replicate q.2 q.1 ++ exR r)[tpA (q :: r) 0 + j]? = some q.1
    rw [show tpA (q :: r) 0 = 0 from rfl, Nat.zero_add, List.getElem?_append_left (by rw [List.length_replicate]; exact hj'), List.getElem?_replicate, if_pos hj']
  | q :: r, s + 1, j, h, hj => by
    have h' : s < r.length := Nat.lt_of_succ_lt_succ h
    have hj' : j < rcA r s := hj
    have e : tpA (q :: r) (s + 1) = q.2 + tpA r s := tot_c q (r.take s)
    show (List.replicate q.2 q.1 ++ exR r)[tpA (q :: r) (s + 1) + j]? = some (rtA r s)
    rw [e, List.getElem?_append_right (by rw [List.length_replicate]; omega), List.length_replicate, show q.2 + tpA r s + j - q.2 = tpA r s + j by omega]
    exact ex_at h' hj'
theorem rc_pos {rs : Rw} (hp : ∀ q ∈ rs, 0 < q.2) {s : Nat} (h : s < rs.length) : 0 < rcA rs s := by
  unfold rcA
  rw [List.getD_eq_getElem?_getD, List.getElem?_eq_getElem h]
  exact hp _ (List.getElem_mem h)
set_option maxHeartbeats 2000000 in
theorem sm_busiest {rs : Rw} {tk : Int32} (hts : TmR I J (exR rs)) (hp : ∀ q ∈ rs, 0 < q.2) (h1 : ¬ tk < 1) (h2 : tk ≤ 1000000) : Mt d mX7_busiest [.ref 136, .int tk] I J (RI (nI (mwA rs tk.toInt64 rs.length).2) (tw I 0) J) := by
  obtain ⟨a1, a2, a3⟩ := hts
  rw [exR_l] at a1 a2
  have pos : (0 : Int64) < tk.toInt64 := by
    rw [Int64.lt_iff_toInt_lt, Int32.toInt_toInt64]
    have := Int32.le_iff_toInt_le.mp (Int32.not_lt.mp h1)
    have e1 : (1 : Int32).toInt = 1 := by decide
    have e0 : (0 : Int64).toInt = 0 := by decide
    omega
  refine Mt.of (by decide +kernel) (Nat.le_of_ble_eq_true rfl) ?_
  refine BX7_busiest_0 ?_
  refine IX7_busiest_3 (fun z => absurd z h1) (fun _ => ?_)
  refine BX7_busiest_6 ?_
  refine IX7_busiest_9 (fun z => absurd z (Int32.not_lt.mpr h2)) (fun _ => ?_)
  refine BX7_busiest_12 ?_
  refine BX7_busiest_17 ?_
  refine IX7_busiest_24 (fun _ => ?_) (fun z => absurd (by rw [up2_s]; decide) z)
  refine BX7_busiest_29 ?_
  have at' : ∀ s j, s < rs.length → j < rcA rs s → J 153 (tpA rs s + j) = rtA rs s := fun s j hs hj => a3 _ _ (ex_at hs hj)
  have tle := tp_le rs
  -- one place further on
  have one : ∀ (s e j c : Nat) (b : Nat), s ≤ e → e < rs.length → j < rcA rs s → c < rcA rs e → ¬ rtA rs e - rtA rs s < tk.toInt64 → ∀ Φ, Ev d 0 0 (fun _ => 0) mX7_busiest 45 [some (.ref 136), some (.int tk), some (.int (nI b)), some (.int (nI (tpA rs s + j + 1))), some (.int (nI (tpA rs e + c)))] [] (tw I 0) J 0 Φ → Ev d 0 0 (fun _ => 0) mX7_busiest 45 [some (.ref 136), some (.int tk), some (.int (nI b)), some (.int (nI (tpA rs s + j))), some (.int (nI (tpA rs e + c)))] [] (tw I 0) J 0 Φ := by
    intro s e j c b hse he hj hc hn Φ K
    have t1 := tp_s (rs := rs) (i := s) (by omega)
    have t2 := tp_s (rs := rs) (i := e) he
    have t3 := tle (s + 1)
    have t4 := tle (e + 1)
    refine BX7_busiest_45 (vp_in_nI (by omega) (by decide)) (vp_in_nI (by omega) (by decide)) ?_
    rw [nI_clamp (by omega), nI_clamp (by omega), at' s j (by omega) hj, at' e c he hc]
    refine IX7_busiest_62 (fun z => absurd ((lg_lt0 _ _).mp z) hn) (fun _ => ?_)
    refine BX7_busiest_65 ?_
    rw [nI_1]
    exact K
  -- a whole row further on
  have row : ∀ (s e c b : Nat), s < e → e < rs.length → c < rcA rs e → ¬ rtA rs e - rtA rs s < tk.toInt64 → ∀ Φ, Ev d 0 0 (fun _ => 0) mX7_busiest 45 [some (.ref 136), some (.int tk), some (.int (nI b)), some (.int (nI (tpA rs (s + 1)))), some (.int (nI (tpA rs e + c)))] [] (tw I 0) J 0 Φ → Ev d 0 0 (fun _ => 0) mX7_busiest 45 [some (.ref 136), some (.int tk), some (.int (nI b)), some (.int (nI (tpA rs s))), some (.int (nI (tpA rs e + c)))] [] (tw I 0) J 0 Φ := by
    intro s e c b hse he hc hn Φ K
    have t1 := tp_s (rs := rs) (i := s) (by omega)
    have step : ∀ q j : Nat, j + q = rcA rs s → Ev d 0 0 (fun _ => 0) mX7_busiest 45 [some (.ref 136), some (.int tk), some (.int (nI b)), some (.int (nI (tpA rs s + j))), some (.int (nI (tpA rs e + c)))] [] (tw I 0) J 0 Φ := by
      intro q
      induction q with
      | zero =>
        intro j hj
        rw [show tpA rs s + j = tpA rs (s + 1) by omega]
        exact K
      | succ q ih =>
        intro j hj
        exact one s e j c b (by omega) he (by omega) hc hn Φ (ih (j + 1) (by omega))
    exact step (rcA rs s) 0 (Nat.zero_add _)
  -- up to where it stops
  have adv : ∀ (q s e c b : Nat), s + q = e → e < rs.length → c < rcA rs e → ∀ Φ, Ev d 0 0 (fun _ => 0) mX7_busiest 71 [some (.ref 136), some (.int tk), some (.int (nI b)), some (.int (nI (tpA rs (advA rs tk.toInt64 e q s)))), some (.int (nI (tpA rs e + c)))] [] (tw I 0) J 0 Φ → Ev d 0 0 (fun _ => 0) mX7_busiest 45 [some (.ref 136), some (.int tk), some (.int (nI b)), some (.int (nI (tpA rs s))), some (.int (nI (tpA rs e + c)))] [] (tw I 0) J 0 Φ := by
    intro q
    have stop : ∀ (s e c b : Nat), s ≤ e → e < rs.length → c < rcA rs e → rtA rs e - rtA rs s < tk.toInt64 → ∀ Φ, Ev d 0 0 (fun _ => 0) mX7_busiest 71 [some (.ref 136), some (.int tk), some (.int (nI b)), some (.int (nI (tpA rs s))), some (.int (nI (tpA rs e + c)))] [] (tw I 0) J 0 Φ → Ev d 0 0 (fun _ => 0) mX7_busiest 45 [some (.ref 136), some (.int tk), some (.int (nI b)), some (.int (nI (tpA rs s))), some (.int (nI (tpA rs e + c)))] [] (tw I 0) J 0 Φ := by
      intro s e c b hse he hc hn Φ K
      have t1 := tp_s (rs := rs) (i := s) (by omega)
      have t2 := tp_s (rs := rs) (i := e) he
      have t3 := tle (s + 1)
      have t4 := tle (e + 1)
      have t5 := rc_pos hp (s := s) (by omega)
      have e0 := at' s 0 (by omega) t5
      rw [Nat.add_zero] at e0
      refine BX7_busiest_45 (vp_in_nI (by omega) (by decide)) (vp_in_nI (by omega) (by decide)) ?_
      rw [nI_clamp (by omega), nI_clamp (by omega), e0, at' e c he hc]
      exact IX7_busiest_62 (fun _ => K) (fun z => absurd ((lg_lt0 _ _).mpr hn) z)
    induction q with
    | zero =>
      intro s e c b hs he hc Φ K
      have hse : s = e := by omega
      subst hse
      refine stop s s c b (Nat.le_refl _) he hc ?_ Φ K
      rw [Int64.sub_self]
      exact pos
    | succ q ih =>
      intro s e c b hs he hc Φ K
      by_cases cn : rtA rs e - rtA rs s < tk.toInt64
      · have e1 : advA rs tk.toInt64 e (q + 1) s = s := if_pos cn
        rw [e1] at K
        exact stop s e c b (by omega) he hc cn Φ K
      · have e1 : advA rs tk.toInt64 e (q + 1) s = advA rs tk.toInt64 e q (s + 1) := if_neg cn
        rw [e1] at K
        exact row s e c b (by omega) he hc cn Φ (ih (s + 1) e c b (by omega) he hc Φ K)
  -- the places of one row
  have cell : ∀ (e : Nat), e < rs.length → ∀ (q c b s : Nat), c + q = rcA rs e → s ≤ e → b ≤ 2000 → rtA rs e - rtA rs s < tk.toInt64 → ∀ Φ, Ev d 0 0 (fun _ => 0) mX7_busiest 36 [some (.ref 136), some (.int tk), some (.int (nI (max b (tpA rs (e + 1) - tpA rs s)))), some (.int (nI (tpA rs s))), some (.int (nI (tpA rs (e + 1))))] [] (tw I 0) J 0 Φ → (0 < q ∨ tpA rs (e + 1) - tpA rs s ≤ b) → Ev d 0 0 (fun _ => 0) mX7_busiest 36 [some (.ref 136), some (.int tk), some (.int (nI b)), some (.int (nI (tpA rs s))), some (.int (nI (tpA rs e + c)))] [] (tw I 0) J 0 Φ := by
    intro e he q
    induction q with
    | zero =>
      intro c b s hc hs hb hn Φ K hq
      have t1 := tp_s (rs := rs) (i := e) he
      rw [Nat.max_eq_left (hq.elim (fun z => absurd z (Nat.lt_irrefl _)) id)] at K
      rw [show tpA rs e + c = tpA rs (e + 1) by omega]
      exact K
    | succ q ih =>
      intro c b s hc hs hb hn Φ K hq
      have t1 := tp_s (rs := rs) (i := e) he
      have t4 := tle (e + 1)
      have t5 := tp_m rs hs
      refine BX7_busiest_36 ?_
      rw [tw_k 0 (by decide), a1]
      refine IX7_busiest_42 (fun z => absurd z (nI_ge (by omega) (by omega))) (fun _ => ?_)
      have ea : advA rs tk.toInt64 e (e - s) s = s := by
        cases hq2 : e - s with
        | zero => rfl
        | succ q2 => exact if_pos hn
      refine adv (e - s) s e c b (by omega) he (by omega) Φ ?_
      rw [ea]
      refine BX7_busiest_71 ?_
      rw [pk_sub (by omega), nI_1]
      have nxt : Ev d 0 0 (fun _ => 0) mX7_busiest 36 [some (.ref 136), some (.int tk), some (.int (nI (max b (tpA rs e + c - tpA rs s + 1)))), some (.int (nI (tpA rs s))), some (.int (nI (tpA rs e + (c + 1))))] [] (tw I 0) J 0 Φ := by
        refine ih (c + 1) (max b (tpA rs e + c - tpA rs s + 1)) s (by omega) hs (Nat.max_le.mpr ⟨hb, by omega⟩) hn Φ ?_ ?_
        · rw [show max (max b (tpA rs e + c - tpA rs s + 1)) (tpA rs (e + 1) - tpA rs s) = max b (tpA rs (e + 1) - tpA rs s) by
            rw [Nat.max_assoc, Nat.max_eq_right (a := tpA rs e + c - tpA rs s + 1) (by omega)]]
          exact K
        · by_cases c0 : 0 < q
          · exact Or.inl c0
          · exact Or.inr (Nat.le_trans (by omega) (Nat.le_max_right b (tpA rs e + c - tpA rs s + 1)))
      refine IX7_busiest_78 (fun z => ?_) (fun z => ?_)
      · have z' := (nI_leI (by omega) (by omega)).mp z
        refine BX7_busiest_90 ?_
        refine BX7_busiest_91 ?_
        rw [nI_1, show tpA rs e + c + 1 = tpA rs e + (c + 1) by omega]
        rw [Nat.max_eq_left z'] at nxt
        exact nxt
      · have z' : b < tpA rs e + c - tpA rs s + 1 := Nat.lt_of_not_le fun y => z (nI_le y (by omega))
        refine BX7_busiest_81 ?_
        rw [pk_sub (by omega), nI_1]
        refine BX7_busiest_91 ?_
        rw [nI_1, show tpA rs e + c + 1 = tpA rs e + (c + 1) by omega]
        rw [Nat.max_eq_right (by omega)] at nxt
        exact nxt
  have key : ∀ q e : Nat, e + q = rs.length → Ev d 0 0 (fun _ => 0) mX7_busiest 36 [some (.ref 136), some (.int tk), some (.int (nI (mwA rs tk.toInt64 e).2)), some (.int (nI (tpA rs (mwA rs tk.toInt64 e).1))), some (.int (nI (tpA rs e)))] [] (tw I 0) J 0 (fun o I' J' _ => ∃ v, o = .inl v ∧ RI (nI (mwA rs tk.toInt64 rs.length).2) (tw I 0) J v I' J') := by
    intro q
    induction q with
    | zero =>
      intro e he
      have hee : e = rs.length := by omega
      subst hee
      refine BX7_busiest_36 ?_
      have et : tpA rs rs.length = tot rs := by unfold tpA; rw [List.take_length]
      rw [tw_k 0 (by decide), a1, et]
      refine IX7_busiest_42 (fun _ => ?_) (fun z => absurd (nI_le (Nat.le_refl _) (by omega)) z)
      refine BX7_busiest_98 ?_
      exact RX7_busiest_99 (Nat.zero_le _) ⟨_, rfl, rfl, rfl, rfl⟩
    | succ q ih =>
      intro e he
      obtain ⟨m1, m2⟩ := mw_le rs tk.toInt64 e
      have hrc := rc_pos hp (s := e) (by omega)
      have t1 := tp_s (rs := rs) (i := e) (by omega)
      have t4 := tle (e + 1)
      have t5 := tp_m rs m1
      obtain ⟨w1, w2⟩ := mw_s rs tk.toInt64 e
      obtain ⟨v1, v2⟩ := adv_le rs tk.toInt64 e (e - (mwA rs tk.toInt64 e).1) (mwA rs tk.toInt64 e).1
      rw [← w1] at v1 v2
      have t6 := tp_m rs (show (mwA rs tk.toInt64 (e + 1)).1 ≤ e by omega)
      -- where it stops, the span is short enough
      have hsh : ∀ (q s : Nat), s + q = e → rtA rs e - rtA rs (advA rs tk.toInt64 e q s) < tk.toInt64 := by
        intro q
        induction q with
        | zero =>
          intro s hs
          have : s = e := by omega
          subst this
          show rtA rs s - rtA rs s < tk.toInt64
          rw [Int64.sub_self]
          exact pos
        | succ q ihq =>
          intro s hs
          by_cases cn : rtA rs e - rtA rs s < tk.toInt64
          · have e1 : advA rs tk.toInt64 e (q + 1) s = s := if_pos cn
            rw [e1]; exact cn
          · have e1 : advA rs tk.toInt64 e (q + 1) s = advA rs tk.toInt64 e q (s + 1) := if_neg cn
            rw [e1]; exact ihq (s + 1) (by omega)
      have hn := hsh (e - (mwA rs tk.toInt64 e).1) (mwA rs tk.toInt64 e).1 (by omega)
      rw [← w1] at hn
      refine BX7_busiest_36 ?_
      rw [tw_k 0 (by decide), a1]
      refine IX7_busiest_42 (fun z => absurd z (nI_ge (by omega) (by omega))) (fun _ => ?_)
      have := adv (e - (mwA rs tk.toInt64 e).1) (mwA rs tk.toInt64 e).1 e 0 (mwA rs tk.toInt64 e).2 (by omega) (by omega) hrc (fun o I' J' _ => ∃ v, o = .inl v ∧ RI (nI (mwA rs tk.toInt64 rs.length).2) (tw I 0) J v I' J')
      rw [Nat.add_zero, ← w1] at this
      refine this ?_
      refine BX7_busiest_71 ?_
      rw [pk_sub (by omega), nI_1]
      have nxt := cell e (by omega) (rcA rs e - 1) 1 (max (mwA rs tk.toInt64 e).2 (tpA rs e - tpA rs (mwA rs tk.toInt64 (e + 1)).1 + 1)) (mwA rs tk.toInt64 (e + 1)).1 (by omega) (by omega) (Nat.max_le.mpr ⟨by omega, by omega⟩) hn (fun o I' J' _ => ∃ v, o = .inl v ∧ RI (nI (mwA rs tk.toInt64 rs.length).2) (tw I 0) J v I' J') (by
        rw [show max (max (mwA rs tk.toInt64 e).2 (tpA rs e - tpA rs (mwA rs tk.toInt64 (e + 1)).1 + 1)) (tpA rs (e + 1) - tpA rs (mwA rs tk.toInt64 (e + 1)).1) = (mwA rs tk.toInt64 (e + 1)).2 by
          rw [w2, Nat.max_assoc, Nat.max_eq_right (a := tpA rs e - tpA rs (mwA rs tk.toInt64 (e + 1)).1 + 1) (by omega)]]
        exact ih (e + 1) (by omega)) (by
        by_cases c0 : 0 < rcA rs e - 1
        · exact Or.inl c0
        · exact Or.inr (Nat.le_trans (by omega) (Nat.le_max_right (mwA rs tk.toInt64 e).2 (tpA rs e - tpA rs (mwA rs tk.toInt64 (e + 1)).1 + 1))))
      refine IX7_busiest_78 (fun z => ?_) (fun z => ?_)
      · have z' := (nI_leI (by omega) (by omega)).mp z
        refine BX7_busiest_90 ?_
        refine BX7_busiest_91 ?_
        rw [nI_1]
        rw [Nat.max_eq_left z'] at nxt
        exact nxt
      · have z' : (mwA rs tk.toInt64 e).2 < tpA rs e - tpA rs (mwA rs tk.toInt64 (e + 1)).1 + 1 := Nat.lt_of_not_le fun y => z (nI_le y (by omega))
        refine BX7_busiest_81 ?_
        rw [pk_sub (by omega), nI_1]
        refine BX7_busiest_91 ?_
        rw [nI_1]
        rw [Nat.max_eq_right (by omega)] at nxt
        exact nxt
  exact key rs.length 0 (Nat.zero_add _)
theorem sm_busiestT {x : Int32} (h : x < 1 ∨ ¬ x ≤ 1000000) : Mt d mX7_busiest [.ref 136, .int x] I J (RI 0 (tw I 1) J) := by
  refine Mt.of (by decide +kernel) (Nat.le_of_ble_eq_true rfl) ?_
  refine BX7_busiest_0  ?_
  refine IX7_busiest_3 (fun c3 => ?_) (fun c3 => ?_)
  · skip
    refine BX7_busiest_16  ?_
    refine BX7_busiest_17  ?_
    refine IX7_busiest_24 (fun c24 => absurd c24 (by rw [up2_s]; decide)) (fun c24 => ?_)
    refine BX7_busiest_27  ?_
    exact RX7_busiest_28  (Nat.zero_le _) ⟨_, rfl, ⟨rfl, rfl, rfl⟩⟩
  · skip
    refine BX7_busiest_6  ?_
    refine IX7_busiest_9 (fun c9 => ?_) (fun c9 => absurd c9 (fun z => h.elim (fun y => c3 y) (fun y => y (Int32.not_lt.mp z))))
    refine BX7_busiest_16  ?_
    refine BX7_busiest_17  ?_
    refine IX7_busiest_24 (fun c24 => absurd c24 (by rw [up2_s]; decide)) (fun c24 => ?_)
    refine BX7_busiest_27  ?_
    exact RX7_busiest_28  (Nat.zero_le _) ⟨_, rfl, ⟨rfl, rfl, rfl⟩⟩
end RF9

