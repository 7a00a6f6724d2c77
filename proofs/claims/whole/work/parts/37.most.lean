/-! the busiest span, on rows -/
def rtA (rs : Rw) (i : Nat) : Int64 := (rs.getD i (0, 0)).1
def rcA (rs : Rw) (i : Nat) : Nat := (rs.getD i (0, 0)).2
def tpA (rs : Rw) (i : Nat) : Nat := tot (rs.take i)
theorem tp_s {rs : Rw} {i : Nat} (h : i < rs.length) : tpA rs (i + 1) = tpA rs i + rcA rs i := by
  unfold tpA rcA
  rw [List.take_succ, tot_a, List.getD_eq_getElem?_getD, List.getElem?_eq_getElem h]
  show _ + (rs[i].2 + 0) = _ + rs[i].2
  omega
theorem tp_s' (rs : Rw) (i : Nat) : tpA rs i ≤ tpA rs (i + 1) := by
  unfold tpA
  rw [List.take_succ, tot_a]
  omega
theorem tp_m (rs : Rw) {i j : Nat} (h : i ≤ j) : tpA rs i ≤ tpA rs j := by
  induction h with
  | refl => exact Nat.le_refl _
  | step _ ih => exact Nat.le_trans ih (tp_s' rs _)
theorem tp_le (rs : Rw) (i : Nat) : tpA rs i ≤ tot rs := by
  have := tot_a (rs.take i) (rs.drop i)
  rw [List.take_append_drop] at this
  unfold tpA
  omega
def advA (rs : Rw) (k : Int64) (e : Nat) : Nat → Nat → Nat
  | 0, s => s
  | q + 1, s => if rtA rs e - rtA rs s < k then s else advA rs k e q (s + 1)
theorem adv_le (rs : Rw) (k : Int64) (e : Nat) : ∀ q s : Nat, s ≤ advA rs k e q s ∧ advA rs k e q s ≤ s + q
  | 0, s => ⟨Nat.le_refl _, Nat.le_refl _⟩
  | q + 1, s => by
    show s ≤ (if rtA rs e - rtA rs s < k then s else advA rs k e q (s + 1)) ∧ (if rtA rs e - rtA rs s < k then s else advA rs k e q (s + 1)) ≤ _
    by_cases h : rtA rs e - rtA rs s < k
    · rw [if_pos h]; exact ⟨Nat.le_refl _, by omega⟩
    · rw [if_neg h]
      have := adv_le rs k e q (s + 1)
      omega
/-- behind the first e rows: where the span begins, and the most so far -/
def mwA (rs : Rw) (k : Int64) : Nat → Nat × Nat
  | 0 => (0, 0)
  | e + 1 => (advA rs k e (e - (mwA rs k e).1) (mwA rs k e).1, max (mwA rs k e).2 (tpA rs (e + 1) - tpA rs (advA rs k e (e - (mwA rs k e).1) (mwA rs k e).1)))
theorem mw_s (rs : Rw) (k : Int64) (e : Nat) : (mwA rs k (e + 1)).1 = advA rs k e (e - (mwA rs k e).1) (mwA rs k e).1 ∧ (mwA rs k (e + 1)).2 = max (mwA rs k e).2 (tpA rs (e + 1) - tpA rs (mwA rs k (e + 1)).1) := ⟨rfl, rfl⟩
theorem mw_le (rs : Rw) (k : Int64) : ∀ e, (mwA rs k e).1 ≤ e ∧ (mwA rs k e).2 ≤ tot rs
  | 0 => ⟨Nat.le_refl _, Nat.zero_le _⟩
  | e + 1 => by
    obtain ⟨h1, h2⟩ := mw_le rs k e
    obtain ⟨h3, h4⟩ := mw_s rs k e
    have h5 := adv_le rs k e (e - (mwA rs k e).1) (mwA rs k e).1
    have h6 := tp_le rs (e + 1)
    rw [h4, h3]
    exact ⟨by omega, Nat.max_le.mpr ⟨h2, by omega⟩⟩
section MW
variable {d : Nat} {I : T2} {J : T3}
theorem AdR.at {f i : Nat} {rs : Rw} (h : AdR I J f rs) (hi : i < rs.length) : J 20 ((f + i) % 512) = rtA rs i ∧ I 21 ((f + i) % 512) = nI (rcA rs i) := by
  have := h.2.2.2.2 i rs[i] (List.getElem?_eq_getElem hi)
  unfold rtA rcA
  rw [List.getD_eq_getElem?_getD, List.getElem?_eq_getElem hi]
  exact this
theorem max_nI {a b : Nat} (ha : a < 2 ^ 31) (hb : b < 2 ^ 31) : (if nI a < nI b then nI b else nI a) = nI (max a b) := by
  by_cases h : a < b
  · rw [if_pos (nI_lt h hb), Nat.max_eq_right (by omega)]
  · rw [if_neg (nI_nlt (by omega) ha), Nat.max_eq_left (by omega)]
theorem sp_most {rs : Rw} (h : AdC I J rs) (ht : tot rs ≤ 2000) (x : Int32) : Mt (d + 1) mX0_mostWithin [.ref 19, .int x] I J (RI (nI (mwA rs x.toInt64 rs.length).2) I J) := by
  obtain ⟨⟨f, a1⟩, a2, a3⟩ := id h
  obtain ⟨h1, h2, h3, h4, h5⟩ := id a1
  refine Mt.of (by decide +kernel) (Nat.le_of_ble_eq_true rfl) ?_
  refine BX0_mostWithin_0 ?_
  have row : ∀ i, (f + i) % 512 < 512 := fun i => Nat.mod_lt _ (by decide)
  have inner : ∀ q s e m : Nat, s + q = e → e < rs.length → Ev (d + 1) 0 0 (fun _ => 0) mX0_mostWithin 89 [some (.ref 19), some (.int x), some (.int (nI m)), some (.int (nI (tpA rs (e + 1) - tpA rs (advA rs x.toInt64 e q s)))), some (.int (nI (advA rs x.toInt64 e q s))), some (.int (nI e))] [] I J 0 (fun o I' J' _ => ∃ w, o = .inl w ∧ RI (nI (mwA rs x.toInt64 rs.length).2) I J w I' J') → Ev (d + 1) 0 0 (fun _ => 0) mX0_mostWithin 33 [some (.ref 19), some (.int x), some (.int (nI m)), some (.int (nI (tpA rs (e + 1) - tpA rs s))), some (.int (nI s)), some (.int (nI e))] [] I J 0 (fun o I' J' _ => ∃ w, o = .inl w ∧ RI (nI (mwA rs x.toInt64 rs.length).2) I J w I' J') := by
    intro q
    induction q with
    | zero =>
      intro s e m hs he K
      refine BX0_mostWithin_33 ?_
      exact IX0_mostWithin_37 (fun c => K) (fun c => absurd (nI_le (by omega) (by omega)) c)
    | succ q ih =>
      intro s e m hs he K
      refine BX0_mostWithin_33 ?_
      refine IX0_mostWithin_37 (fun c => absurd c (nI_ge (by omega) (by omega))) (fun c => ?_)
      refine BX0_mostWithin_40 ?_
      refine CX0_mostWithin_47 (sp_row (f := f) (i := e) h1 h2 (by omega)) (Nat.zero_le _) (fun v I1 J1 q1 => ?_)
      obtain ⟨rfl, rfl, rfl⟩ := q1
      refine BX0_mostWithin_50 (by decide) (vp_in_nI (row e) (by decide)) ?_
      rw [nI_clamp (by have := row e; omega), (a1.at he).1]
      refine CX0_mostWithin_58 (sp_row (f := f) (i := s) h1 h2 (by omega)) (Nat.zero_le _) (fun v I1 J1 q1 => ?_)
      obtain ⟨rfl, rfl, rfl⟩ := q1
      refine BX0_mostWithin_61 (by decide) (vp_in_nI (row s) (by decide)) ?_
      rw [nI_clamp (by have := row s; omega), (a1.at (i := s) (by omega)).1]
      refine IX0_mostWithin_66 (fun c2 => ?_) (fun c2 => ?_)
      · have c3 := (lg_lt0 _ _).mp c2
        have e1 : advA rs x.toInt64 e (q + 1) s = s := if_pos c3
        rw [e1] at K
        exact K
      · have c3 : ¬ rtA rs e - rtA rs s < x.toInt64 := fun z => c2 ((lg_lt0 _ _).mpr z)
        have e1 : advA rs x.toInt64 e (q + 1) s = advA rs x.toInt64 e q (s + 1) := if_neg c3
        rw [e1] at K
        refine BX0_mostWithin_69 ?_
        refine CX0_mostWithin_77 (sp_row (f := f) (i := s) h1 h2 (by omega)) (Nat.zero_le _) (fun v I1 J1 q1 => ?_)
        obtain ⟨rfl, rfl, rfl⟩ := q1
        refine BX0_mostWithin_80 (by decide) (vp_in_nI (row s) (by decide)) ?_
        have t1 := tp_s (rs := rs) (i := s) (by omega)
        have t2 := tp_m rs (i := s + 1) (j := e + 1) (by omega)
        rw [nI_clamp (by have := row s; omega), (a1.at (i := s) (by omega)).2, nI_1, pk_sub (by omega), show tpA rs (e + 1) - tpA rs s - rcA rs s = tpA rs (e + 1) - tpA rs (s + 1) by omega]
        exact ih (s + 1) e m (by omega) he K
  have key : ∀ q e : Nat, e + q = rs.length → Ev (d + 1) 0 0 (fun _ => 0) mX0_mostWithin 10 [some (.ref 19), some (.int x), some (.int (nI (mwA rs x.toInt64 e).2)), some (.int (nI (tpA rs e - tpA rs (mwA rs x.toInt64 e).1))), some (.int (nI (mwA rs x.toInt64 e).1)), some (.int (nI e))] [] I J 0 (fun o I' J' _ => ∃ w, o = .inl w ∧ RI (nI (mwA rs x.toInt64 rs.length).2) I J w I' J') := by
    intro q
    induction q with
    | zero =>
      intro e he
      refine BX0_mostWithin_10 ?_
      rw [h3]
      refine IX0_mostWithin_16 (fun c => ?_) (fun c => absurd (nI_le (by omega) (by omega)) c)
      refine BX0_mostWithin_101 ?_
      refine RX0_mostWithin_102 (Nat.zero_le _) ⟨_, rfl, ?_, rfl, rfl⟩
      rw [show e = rs.length by omega]
    | succ q ih =>
      intro e he
      refine BX0_mostWithin_10 ?_
      rw [h3]
      refine IX0_mostWithin_16 (fun c => absurd c (nI_ge (by omega) (by omega))) (fun c => ?_)
      refine BX0_mostWithin_19 ?_
      refine CX0_mostWithin_27 (sp_row (f := f) (i := e) h1 h2 (by omega)) (Nat.zero_le _) (fun v I1 J1 q1 => ?_)
      obtain ⟨rfl, rfl, rfl⟩ := q1
      refine BX0_mostWithin_30 (by decide) (vp_in_nI (row e) (by decide)) ?_
      obtain ⟨m1, m2⟩ := mw_le rs x.toInt64 e
      have t1 := tp_s (rs := rs) (i := e) (by omega)
      have t2 := tp_m rs m1
      have t3 := tp_le rs (e + 1)
      rw [nI_clamp (by have := row e; omega), (a1.at (i := e) (by omega)).2, nI_add, show tpA rs e - tpA rs (mwA rs x.toInt64 e).1 + rcA rs e = tpA rs (e + 1) - tpA rs (mwA rs x.toInt64 e).1 by omega]
      refine inner (e - (mwA rs x.toInt64 e).1) (mwA rs x.toInt64 e).1 e _ (by omega) (by omega) ?_
      refine BX0_mostWithin_89 ?_
      refine CX0_mostWithin_91 (sp_max _ _) (Nat.zero_le _) (fun v I1 J1 q1 => ?_)
      obtain ⟨rfl, rfl, rfl⟩ := q1
      refine BX0_mostWithin_94 ?_
      rw [max_nI (by omega) (by omega), nI_1]
      exact ih (e + 1) (by omega)
  exact key rs.length 0 (Nat.zero_add _)
end MW

