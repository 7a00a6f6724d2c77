/-! pairs of calls -/
def Ou (I1 : T2) (J1 : T3) (I2 : T2) (J2 : T3) : Prop := I2 = I1 ∧ ∀ o, o ≠ 158 → J2 o = J1 o
/-- an answer of the method's kind -/
def vOk (M : MD) (v : Option Value) : Prop := match M.2.2.2.2.1 with
  | none => v = none
  | some .int => ∃ r : Int32, v = some (.int r)
  | some .boolean => ∃ r : Int32, v = some (.int r) ∧ (r = 0 ∨ r = 1)
  | some .long => ∃ r : Int64, v = some (.long r)
  | _ => True
def PrT (Mc : MD) (ac : List Value) (Mm : MD) (am : List Value) (E : String) (c : Int32) (m : Nat) (I : T2) (J : T3) : Prop := Mth 6 Mc (.ref 0 :: ac) I J E ∧ Mt 7 Mm (.ref 136 :: am) I J (fun w I' J' => vOk Mm w ∧ I' 136 0 = c ∧ Rel (m + 1) I' J' I' J')
def PrRd (D : Nat) (Mc : MD) (ac : List Value) (Mm : MD) (am : List Value) (m : Nat) (I : T2) (J : T3) : Prop := Mt D Mc (.ref 0 :: ac) I J (fun v I1 J1 => vOk Mc v ∧ ∀ I2 J2, Ou I1 J1 I2 J2 → Mt 7 Mm (.ref 136 :: am) I2 J2 (fun v' I' J' => v' = v ∧ I' 136 0 = 0 ∧ J' 158 = J2 158 ∧ Rel (m + 1) I' J' I' J'))
abbrev PrR (Mc : MD) (ac : List Value) (Mm : MD) (am : List Value) (m : Nat) (I : T2) (J : T3) : Prop := PrRd 6 Mc ac Mm am m I J
section PAIR
variable {m : Nat} {I : T2} {J : T3}
theorem Rel_q {c : Int32} {J2 : T3} (h : Rel m I J I J) (hm : m < 512) (hJ : ∀ o, o ≠ 158 → J2 o = J o) : Rel (m + 1) (tw I c) J2 (tw I c) J2 := by
  obtain ⟨B, W, E, G, T, C, U, rs, h⟩ := h
  refine ⟨B, W, E, G, T, C, U, rs, Rl_m (Rl_x h (fun j hj => tw_k _ hj) (fun o o1 o2 => tw_o _ (by omega)) ⟨?_, ?_, ?_⟩ (fun o ho _ _ => tw_o _ (by omega)) (fun o ho _ => hJ o (by omega))) hm⟩
  · rw [hJ 136 (by decide)]
  · rw [hJ 141 (by decide)]
  · rw [hJ 153 (by decide)]
theorem pr_t {Mc Mm : MD} {ac am : List Value} {E : String} {c : Int32} {v : Option Value} (h : Rel m I J I J) (hm : m < 512) (hc : Mth 6 Mc (.ref 0 :: ac) I J E) (hmm : Mt 7 Mm (.ref 136 :: am) I J (fun w I' J' => w = v ∧ tw I c = I' ∧ J = J')) (hv : vOk Mm v := by first | exact rfl | exact ⟨_, rfl⟩ | exact ⟨_, rfl, Or.inl rfl⟩ | exact ⟨_, rfl, Or.inr rfl⟩) : PrT Mc ac Mm am E c m I J := by
  refine ⟨hc, hmm.mono fun w I' J' q => ?_⟩
  obtain ⟨rfl, rfl, rfl⟩ := q
  exact ⟨hv, tw_0 _, Rel_q h hm (fun _ _ => rfl)⟩
theorem pr_q {D : Nat} {Mc Mm : MD} {ac am : List Value} {v : Option Value} (h : Rel m I J I J) (hm : m < 512) (hc : Mt D Mc (.ref 0 :: ac) I J (fun w I' J' => w = v ∧ I = I' ∧ J = J')) (hmm : ∀ J2 : T3, (∀ o, o ≠ 158 → J2 o = J o) → Mt 7 Mm (.ref 136 :: am) I J2 (fun w I' J' => w = v ∧ tw I 0 = I' ∧ J2 = J')) (hv : vOk Mc v := by first | exact rfl | exact ⟨_, rfl⟩ | exact ⟨_, rfl, Or.inl rfl⟩ | exact ⟨_, rfl, Or.inr rfl⟩) : PrRd D Mc ac Mm am m I J := by
  refine hc.mono fun w I1 J1 q => ?_
  obtain ⟨rfl, rfl, rfl⟩ := q
  refine ⟨hv, ?_⟩
  intro I2 J2 hO
  obtain ⟨rfl, hJ⟩ := hO
  refine (hmm J2 hJ).mono fun w' I' J' q => ?_
  obtain ⟨rfl, rfl, rfl⟩ := q
  exact ⟨rfl, tw_0 _, rfl, Rel_q h hm hJ⟩
theorem nB_T {B W E G T : Nat} (h : nB m B W E G T) : T + E < 2 ^ 30 := by
  obtain ⟨-, -, n3, n4, -, -, -, n8, n9⟩ := h
  omega
theorem nB_c {B W E G T c : Nat} (h : nB m B W E G T) (hc : c ≤ T + E) : c / W < 2 ^ 30 := by
  have := nB_T h
  have : c / W ≤ c := Nat.div_le_self _ _
  omega
/-- gates asked for -/
theorem gx {G : Nat} (hG8 : G ≤ 8) (x : Int32) : (x < 0 ∨ nI G ≤ x) ∨ ∃ j : Nat, j < G ∧ x = nI j := by
  rcases pk_ix x (n := G) (by omega) with h | h | h
  · exact Or.inl (Or.inl h)
  · exact Or.inl (Or.inr h)
  · exact Or.inr h
theorem pr_about (h : Rel m I J I J) (hm : m < 512) (x w : Int32) : PrT mX6_about [.int x, .int w] mX7_about [.int x, .int w] eIB 1 m I J ∨ PrT mX6_about [.int x, .int w] mX7_about [.int x, .int w] eIA 2 m I J ∨ PrR mX6_about [.int x, .int w] mX7_about [.int x, .int w] m I J := by
  obtain ⟨B, W, E, G, T, C, U, rs, h9⟩ := id h
  obtain ⟨n1, a2, a3, -⟩ := h9
  have hG8 : G ≤ 8 := n1.2.2.2.2.2.1
  have g0 : I 0 7 = nI G := a2.1.2.2.2.2.2.2.1
  have g1 : I 136 4 = nI G := a2.1.2.2.2.2.2.2.2
  rcases gx hG8 x with hx | ⟨j, hj, rfl⟩
  · exact Or.inl (pr_t h hm (sp_aboutB (by rw [g0]; exact hx)) (sm_aboutB (by rw [g1]; exact hx)))
  · right
    obtain ⟨⟨-, ⟨c1, c2⟩, ⟨c3, c4⟩, c5, -⟩, -⟩ := a3 j hj
    by_cases hw : w < 0 ∨ ¬ w ≤ 2
    · refine Or.inl (pr_t h hm (sp_aboutT g0 hG8 hj ?_) (sm_aboutT g1 hG8 hj hw))
      rcases hw with hw | hw
      · exact Or.inl (Int32.lt_iff_toInt_lt.mp hw)
      · refine Or.inr ?_
        have := mt Int32.le_iff_toInt_le.mpr hw
        have e2 : (2 : Int32).toInt = 2 := by decide
        omega
    · right
      have w0 : ¬ w < 0 := fun z => hw (Or.inl z)
      have w2 : w ≤ 2 := Classical.not_not.mp fun z => hw (Or.inr z)
      obtain ⟨k, k1, rfl⟩ := nI_of2 (M := 2) (n := 2) (by decide) w0 w2
      match k, k1 with
      | 0, _ =>
        refine pr_q (v := some (.long (lN (C j)))) h hm (by rw [← c1]; exact sp_about0 g0 hG8 hj) (fun J2 hJ => ?_)
        rw [show lN (C j) = J2 141 j by rw [hJ 141 (by decide), c2]]
        exact sm_about0 g1 hG8 hj
      | 1, _ =>
        refine pr_q (v := some (.long (nI (C j / W)).toInt64)) h hm (by rw [← c3]; exact sp_about1 g0 hG8 hj) (fun J2 hJ => ?_)
        rw [← c4]
        exact sm_about1 g1 hG8 hj
      | 2, _ =>
        refine pr_q (v := some (.long (if I (gP j) 8 = 0 then 0 else 1))) h hm (sp_about2 g0 hG8 hj) (fun J2 hJ => ?_)
        have e : (if I (gP j) 8 = 0 then (0 : Int64) else 1) = if I 143 j = 0 then 1 else 0 := by
          rcases c5 with ⟨d1, d2⟩ | ⟨d1, d2⟩
          · rw [d1, d2, if_neg (by decide), if_pos rfl]
          · rw [d1, d2, if_pos rfl, if_neg (by decide)]
        rw [e]
        exact sm_about2 g1 hG8 hj
theorem pr_has (h : Rel m I J I J) (hm : m < 512) (x w k : Int32) : PrT mX6_has [.int x, .int w, .int k] mX7_has [.int x, .int w, .int k] eIB 1 m I J ∨ PrT mX6_has [.int x, .int w, .int k] mX7_has [.int x, .int w, .int k] eIA 2 m I J ∨ PrR mX6_has [.int x, .int w, .int k] mX7_has [.int x, .int w, .int k] m I J := by
  obtain ⟨B, W, E, G, T, C, U, rs, h9⟩ := id h
  obtain ⟨n1, a2, a3, -⟩ := h9
  have hG8 : G ≤ 8 := n1.2.2.2.2.2.1
  have g0 : I 0 7 = nI G := a2.1.2.2.2.2.2.2.1
  have g1 : I 136 4 = nI G := a2.1.2.2.2.2.2.2.2
  rcases gx hG8 x with hx | ⟨j, hj, rfl⟩
  · exact Or.inl (pr_t h hm (sp_hasB (by rw [g0]; exact hx)) (sm_hasB (by rw [g1]; exact hx)))
  · right
    obtain ⟨⟨-, -, ⟨c3, c4⟩, -, c6⟩, hK⟩ := a3 j hj
    by_cases hk : k < 0 ∨ ¬ k ≤ 2
    · exact Or.inl (pr_t h hm (sp_hasT g0 hG8 hj hk) (sm_hasT g1 hG8 hj hk))
    · right
      obtain ⟨k, k1, rfl⟩ := nI_of2 (M := 2) (n := 2) (by decide) (fun z => hk (Or.inl z)) (Classical.not_not.mp fun z => hk (Or.inr z))
      have hC : C j / W < 2 ^ 30 := nB_c n1 c6
      have hv := sp_has (d := 5) (J := J) g0 hG8 hj w (k := k) (by omega)
      unfold haC at hv
      rw [c3] at hv
      rcases wx w hC with ⟨s1, s2⟩ | ⟨i, i1, i2, i3, s1, s2⟩
      · rw [s1, if_pos rfl] at hv
        exact pr_q h hm hv (fun J2 hJ => sm_has0 g1 hG8 hj (by omega) (by rw [c4]; exact s2))
      · rw [s1, if_neg (sl3_ne _ _), sl3_cl] at hv
        refine pr_q h hm hv (fun J2 hJ => ?_)
        have e : I (gP j + (k + 1)) (sl3 (C j / W) i) = I (144 + k) (3 * j + i) := by
          obtain ⟨⟨f1, f2, f3⟩, -⟩ := hK i i1
          match k, k1 with
          | 0, _ => exact f1
          | 1, _ => exact f2
          | 2, _ => exact f3
        rw [e]
        exact sm_has1 g1 hG8 hj (by omega) (by rw [c4]; exact s2) i1
theorem pr_there (h : Rel m I J I J) (hm : m < 512) (w : Int32) : PrRd 7 mX6_there [.int w] mX7_there [.int w] m I J := by
  obtain ⟨B, W, E, G, T, C, U, rs, h9⟩ := id h
  obtain ⟨n1, a2, a3, a4, -⟩ := h9
  obtain ⟨-, -, ⟨c3, c4⟩, -⟩ := a2
  have hT : T / W < 2 ^ 30 := nB_c n1 (Nat.le_add_right _ _)
  have hv := sp_there (d := 6) (I := I) (J := J) w
  rw [c3] at hv
  rcases wx w hT with ⟨s1, s2⟩ | ⟨i, i1, i2, i3, s1, s2⟩
  · rw [s1, if_pos rfl] at hv
    exact pr_q h hm hv (fun J2 hJ => sm_there0 (by rw [c4]; exact s2))
  · rw [s1, if_neg (sl3_ne _ _), sl3_cl, (a4 i i1).1 i2] at hv
    exact pr_q h hm hv (fun J2 hJ => sm_there1 (by rw [c4]; exact s2) i1)
theorem pr_used (h : Rel m I J I J) (hm : m < 512) (w : Int32) : PrRd 7 mX6_used [.int w] mX7_used [.int w] m I J := by
  obtain ⟨B, W, E, G, T, C, U, rs, h9⟩ := id h
  obtain ⟨-, -, -, -, -, -, -, -, -, a10⟩ := h9
  refine pr_q h hm (sp_used w) (fun J2 hJ => ?_)
  have e : (if icI w = 0 then 0 else I 22 w.toNatClampNeg) = if w < 0 then 0 else if 200 ≤ w then 0 else I 152 w.toNatClampNeg := by
    unfold icI
    by_cases c0 : w < 0
    · rw [if_pos c0, if_pos c0, if_pos rfl]
    · rw [if_neg c0, if_neg c0]
      by_cases c1 : 200 ≤ w
      · rw [if_pos c1, if_pos c1, if_pos rfl]
      · rw [if_neg c1, if_neg c1, if_neg (by decide)]
        obtain ⟨j, j1, rfl⟩ := nI_of c0
        rw [nI_clamp j1]
        exact a10.1 j (Nat.lt_of_not_le fun z => c1 (nI_le (a := 200) z j1))
  rw [e]
  exact sm_used w
theorem pr_letter (h : Rel m I J I J) (hm : m < 512) (x w : Int32) : PrT mX6_letter [.int x, .int w] mX7_letter [.int x, .int w] eIB 1 m I J ∨ PrT mX6_letter [.int x, .int w] mX7_letter [.int x, .int w] eIA 2 m I J ∨ PrR mX6_letter [.int x, .int w] mX7_letter [.int x, .int w] m I J := by
  obtain ⟨B, W, E, G, T, C, U, rs, h9⟩ := id h
  obtain ⟨-, -, -, -, -, -, a7, -⟩ := h9
  obtain ⟨f, n, p1, p2, p3⟩ := a7
  have hn : n ≤ 200 := p1.2.2.2
  rcases pk_ix x (n := n) (by omega) with hx | hx | ⟨j, hj, rfl⟩
  · exact Or.inl (pr_t h hm (sp_letterB (Or.inl hx)) (sm_letterB (Or.inl hx)))
  · exact Or.inl (pr_t h hm (sp_letterB (by rw [p1.2.1]; exact Or.inr hx)) (sm_letterB (by rw [p2]; exact Or.inr hx)))
  · right
    by_cases hw : w < 0 ∨ ¬ w < 6
    · exact Or.inl (pr_t h hm (sp_letterT p1.2.1 hn hj hw) (sm_letterT p2 hn hj hw))
    · right
      obtain ⟨k, k1, rfl⟩ := nI_of (fun z => hw (Or.inl z))
      have k6 : k < 6 := (nI_ltI (b := 6) k1 (by decide)).mp (Classical.not_not.mp fun z => hw (Or.inr z))
      refine pr_q h hm (sp_letter p1 hj k6) (fun J2 hJ => ?_)
      have e : I 13 ((f + j) % 200 * 6 + k) = I 151 (6 * j + k) := (p3 j hj).1 k k6
      rw [e]
      exact sm_letter p2 hn hj k6
theorem pr_busiest (h : Rel m I J I J) (hm : m < 512) (w : Int32) : PrT mX6_busiest [.int w] mX7_busiest [.int w] eIA 1 m I J ∨ PrR mX6_busiest [.int w] mX7_busiest [.int w] m I J := by
  obtain ⟨B, W, E, G, T, C, U, rs, h9⟩ := id h
  obtain ⟨-, -, -, -, -, -, -, -, a9, -⟩ := h9
  by_cases hw : w < 1 ∨ ¬ w ≤ 1000000
  · exact Or.inl (pr_t h hm (sp_busiestT hw) (sm_busiestT hw))
  · right
    have w1 : ¬ w < 1 := fun z => hw (Or.inl z)
    have w2 : w ≤ 1000000 := Classical.not_not.mp fun z => hw (Or.inr z)
    have ht : tot rs ≤ 2000 := by rw [← exR_l]; exact a9.2.1.2.1
    exact pr_q h hm (sp_busiest a9.1 ht w1 w2) (fun J2 hJ => sm_busiest (TmR_x a9.2.1 rfl (hJ 153 (by decide))) a9.1.2.2 w1 w2)
theorem cn_eq {w G : Nat} {A : T2} (h : cWa w G A I) : cnS I 3 = cnR (A 138) 24 := by
  have key : ∀ n, n ≤ 8 → cnR (I (4 + 1 + 0)) n + cnR (I (4 + 1 + 1)) n + cnR (I (4 + 1 + 2)) n = cnR (A 138) (3 * n) := by
    intro n
    induction n with
    | zero => intro _; rfl
    | succ n ih =>
      intro hn
      have ih := ih (by omega)
      have e : ∀ r : Nat → Int32, ∀ k, cnR r (k + 1) = cnR r k + (if 0 < r k then 1 else 0) := fun _ _ => rfl
      rw [show 3 * (n + 1) = 3 * n + 1 + 1 + 1 by omega, e, e, e, e (A 138), e (A 138), e (A 138), ← ih]
      have h0 : I (4 + 1 + sl3 w 0) n = A 138 (3 * n) := (h n (by omega) 0 (by decide)).1.1
      have h1 := (h n (by omega) 1 (by decide)).1.1
      have h2 := (h n (by omega) 2 (by decide)).1.1
      rw [← h0, ← h1, show 3 * n + 1 + 1 = 3 * n + 2 by omega, ← h2]
      have hw : w % 3 = 0 ∨ w % 3 = 1 ∨ w % 3 = 2 := by omega
      rcases hw with c | c | c
      · rw [show sl3 w 0 = 2 by unfold sl3; omega, show sl3 w 1 = 0 by unfold sl3; omega, show sl3 w 2 = 1 by unfold sl3; omega]; omega
      · rw [show sl3 w 0 = 0 by unfold sl3; omega, show sl3 w 1 = 1 by unfold sl3; omega, show sl3 w 2 = 2 by unfold sl3; omega]; omega
      · rw [show sl3 w 0 = 1 by unfold sl3; omega, show sl3 w 1 = 2 by unfold sl3; omega, show sl3 w 2 = 0 by unfold sl3; omega]; omega
  have : cnR (I (4 + 1 + 0)) 8 + cnR (I (4 + 1 + 1)) 8 + cnR (I (4 + 1 + 2)) 8 = cnR (A 138) 24 := key 8 (Nat.le_refl _)
  show 0 + cnR (I (4 + 1 + 0)) 8 + cnR (I (4 + 1 + 1)) 8 + cnR (I (4 + 1 + 2)) 8 = _
  omega
theorem pr_count (h : Rel m I J I J) (hm : m < 512) (w : Int32) : PrT mX6_count [.int w] mX7_count [.int w] eIA 1 m I J ∨ PrR mX6_count [.int w] mX7_count [.int w] m I J := by
  obtain ⟨B, W, E, G, T, C, U, rs, h9⟩ := id h
  obtain ⟨n1, a2, -, -, a5, -, a7, -⟩ := h9
  obtain ⟨f, n, p1, p2, p3⟩ := a7
  by_cases hw : w < 0 ∨ ¬ w ≤ 3
  · refine Or.inl (pr_t h hm (sp_countT ?_) (sm_countT hw))
    rcases hw with hw | hw
    · exact Or.inl (Int32.lt_iff_toInt_lt.mp hw)
    · refine Or.inr ?_
      have := mt Int32.le_iff_toInt_le.mpr hw
      have e2 : (3 : Int32).toInt = 3 := by decide
      omega
  · right
    obtain ⟨k, k1, rfl⟩ := nI_of2 (M := 3) (n := 3) (by decide) (fun z => hw (Or.inl z)) (Classical.not_not.mp fun z => hw (Or.inr z))
    match k, k1 with
    | 0, k1 => exact pr_q (v := some (.int (nI n))) h hm (by rw [← p1.2.1]; exact sp_count0) (fun J2 hJ => by rw [← p2]; exact sm_count (w := 0) k1)
    | 1, k1 =>
      refine pr_q h hm (sp_count1 (d := 5)) (fun J2 hJ => ?_)
      have := sm_count (d := 7) (I := I) (J := J2) (w := 1) k1
      rw [hJ 136 (by decide), a2.2.1.2, ← a2.2.1.1] at this
      exact this
    | 2, k1 => exact pr_q (v := some (.int (nI G))) h hm (by rw [← a2.1.2.2.2.2.2.2.1]; exact sp_count2) (fun J2 hJ => by rw [← a2.1.2.2.2.2.2.2.2]; exact sm_count (w := 2) k1)
    | 3, k1 => exact pr_q (v := some (.int (nI (cnR (I 138) 24)))) h hm (by rw [← cn_eq a5]; exact sp_count3) (fun J2 hJ => sm_count (w := 3) k1)
end PAIR

