/-! the reference: pass, begin, setup, count -/
section RF6
variable {d : Nat} {I : T2} {J : T3} {G x : Nat}
theorem mv_s {a b j : Nat} {fr : Int32} (k : Nat) (hj : j < 3) : mvM I a b fr (k + 1) a (b + j) = if j = 2 then fr else mvM I a b fr k a (b + j + 1) := by
  show up2 (up2 (up2 (mvM I a b fr k) a b (mvM I a b fr k a (b + 1))) a (b + 1) (mvM I a b fr k a (b + 2))) a (b + 2) fr a (b + j) = _
  rw [up2_v, up2_v, up2_v]
  have c : j = 0 ∨ j = 1 ∨ j = 2 := by omega
  rcases c with e | e | e
  · subst e
    rw [if_neg (by omega), if_neg (by omega), if_pos ⟨rfl, rfl⟩, if_neg (by decide)]
  · subst e
    rw [if_neg (by omega), if_pos ⟨rfl, rfl⟩, if_neg (by decide)]
  · subst e
    rw [if_pos ⟨rfl, rfl⟩, if_pos rfl]
theorem mv_in {a b : Nat} {fr : Int32} : ∀ (k : Nat) {j : Nat}, j < 3 → mvM I a b fr k a (b + j) = if j + k < 3 then I a (b + j + k) else fr
  | 0, j, hj => (if_pos hj).symm
  | k + 1, j, hj => by
    rw [mv_s k hj]
    by_cases c : j = 2
    · rw [if_pos c, if_neg (by omega)]
    · rw [if_neg c, show b + j + 1 = b + (j + 1) by omega, mv_in k (by omega)]
      by_cases c2 : j + (k + 1) < 3
      · rw [if_pos c2, if_pos (by omega)]
        congr 1
        omega
      · rw [if_neg c2, if_neg (by omega)]
theorem mv_out {a b i : Nat} {fr : Int32} (h : i < b ∨ b + 2 < i) : ∀ k : Nat, mvM I a b fr k a i = I a i
  | 0 => rfl
  | k + 1 => by
    show up2 (up2 (up2 (mvM I a b fr k) a b (mvM I a b fr k a (b + 1))) a (b + 1) (mvM I a b fr k a (b + 2))) a (b + 2) fr a i = _
    rw [up2_k _ _ _ (by omega), up2_k _ _ _ (by omega), up2_k _ _ _ (by omega), mv_out h k]
theorem mv_c {a b m i : Nat} {fr : Int32} : mvM I a b fr (min m 3) a i = if b ≤ i ∧ i < b + 3 then (if i - b + m < 3 then I a (i + m) else fr) else I a i := by
  by_cases c : b ≤ i ∧ i < b + 3
  · rw [if_pos c]
    obtain ⟨j, rfl⟩ : ∃ j, i = b + j := ⟨i - b, by omega⟩
    rw [mv_in _ (by omega), show b + j - b = j by omega]
    by_cases c2 : j + m < 3
    · rw [if_pos c2, Nat.min_eq_left (by omega), if_pos c2]
    · rw [if_neg c2, if_neg]
      by_cases c3 : m ≤ 3
      · rw [Nat.min_eq_left c3]; exact c2
      · rw [Nat.min_eq_right (by omega)]; omega
  · rw [if_neg c, mv_out (by omega)]
/-- the gates' cells when the first k have passed -/
def pvM (I : T2) (k m : Nat) (mx : Nat → Nat) (nw : Nat → Int32) (o i : Nat) : Int32 := if (o = 138 ∨ o = 139) ∧ i < 3 * k then (if i % 3 + m < 3 then I o (i + m) else 0) else if (o = 144 ∨ o = 145 ∨ o = 146) ∧ i < 3 * k then (if i % 3 + mx (i / 3) < 3 then I o (i + mx (i / 3)) else 0) else if o = 142 ∧ i < k then nw i else I o i
theorem pv_a {k m i o : Nat} {mx : Nat → Nat} {nw : Nat → Int32} (h : o = 138 ∨ o = 139) : pvM I k m mx nw o i = if i < 3 * k then (if i % 3 + m < 3 then I o (i + m) else 0) else I o i := by
  unfold pvM
  by_cases c : i < 3 * k
  · rw [if_pos ⟨h, c⟩, if_pos c]
  · rw [if_neg (fun z => c z.2), if_neg c, if_neg (fun z => c z.2), if_neg (fun z => by omega)]
theorem pv_b {k m i o : Nat} {mx : Nat → Nat} {nw : Nat → Int32} (h : o = 144 ∨ o = 145 ∨ o = 146) : pvM I k m mx nw o i = if i < 3 * k then (if i % 3 + mx (i / 3) < 3 then I o (i + mx (i / 3)) else 0) else I o i := by
  unfold pvM
  rw [if_neg (fun z => by omega)]
  by_cases c : i < 3 * k
  · rw [if_pos ⟨h, c⟩, if_pos c]
  · rw [if_neg c, if_neg (fun z => c z.2), if_neg (fun z => by omega)]
theorem pv_c {k m i : Nat} {mx : Nat → Nat} {nw : Nat → Int32} : pvM I k m mx nw 142 i = if i < k then nw i else I 142 i := by
  unfold pvM
  rw [if_neg (fun z => by omega), if_neg (fun z => by omega)]
  by_cases c : i < k
  · rw [if_pos ⟨rfl, c⟩, if_pos c]
  · rw [if_neg c, if_neg (fun z => c z.2)]
theorem pv_d {k m i o : Nat} {mx : Nat → Nat} {nw : Nat → Int32} (h : o ≠ 138 ∧ o ≠ 139 ∧ o ≠ 142 ∧ o ≠ 144 ∧ o ≠ 145 ∧ o ≠ 146) : pvM I k m mx nw o i = I o i := by
  unfold pvM
  rw [if_neg (fun z => by omega), if_neg (fun z => by omega), if_neg (fun z => by omega)]
theorem mv_row {S : T2} {k m i o : Nat} (R : Int32 → Prop) {r : Nat → Int32} (hS : ∀ i, S o i = if i < 3 * k then r i else I o i) (fr : Int32) : mvM S o (3 * k) fr (min m 3) o i = if i < 3 * k then r i else if i < 3 * (k + 1) then (if i % 3 + m < 3 then I o (i + m) else fr) else I o i := by
  rw [mv_c]
  by_cases c : 3 * k ≤ i ∧ i < 3 * k + 3
  · rw [if_pos c, if_neg (show ¬ i < 3 * k by omega), if_pos (show i < 3 * (k + 1) by omega), hS, if_neg (show ¬ i + m < 3 * k by omega), show i - 3 * k = i % 3 by omega]
  · rw [if_neg c, hS]
    by_cases c2 : i < 3 * k
    · rw [if_pos c2, if_pos c2]
    · rw [if_neg c2, if_neg c2, if_neg (by omega)]
set_option maxHeartbeats 1000000 in
theorem pv_step {I1 : T2} {k m : Nat} {mx : Nat → Nat} {nw : Nat → Int32} (h : ∀ o i, I1 o i = pvM I k m mx nw o i) : ∀ o i, tiM (mvM (mvM I1 138 (3 * k) 0 (min m 3)) 139 (3 * k) 0 (min m 3)) k (mx k) (nw k) o i = pvM I (k + 1) m mx nw o i := by
  intro o i
  unfold tiM
  by_cases o142 : o = 142
  · subst o142
    rw [up2_v, pv_c, mvM_o (by decide), mvM_o (by decide), mvM_o (by decide), mvM_o (by decide), mvM_o (by decide), h, pv_c]
    by_cases c : i = k
    · subst c
      rw [if_pos ⟨rfl, rfl⟩, if_pos (Nat.lt_succ_self _)]
    · rw [if_neg (fun z => c z.2)]
      by_cases c2 : i < k
      · rw [if_pos c2, if_pos (by omega)]
      · rw [if_neg c2, if_neg (by omega)]
  rw [up2_o _ _ _ _ o142]
  by_cases oa : o = 138 ∨ o = 139
  · have e : mvM (mvM (mvM (mvM (mvM I1 138 (3 * k) 0 (min m 3)) 139 (3 * k) 0 (min m 3)) 144 (3 * k) 0 (min (mx k) 3)) 145 (3 * k) 0 (min (mx k) 3)) 146 (3 * k) 0 (min (mx k) 3) o i = mvM I1 o (3 * k) 0 (min m 3) o i := by
      rw [mvM_o (by omega), mvM_o (by omega), mvM_o (by omega)]
      rcases oa with e | e
      · subst e
        rw [mvM_o (by decide)]
      · subst e
        rw [mv_c, mv_c, mvM_o (by decide)]
    rw [e, mv_row (fun _ => True) (fun i => by rw [h, pv_a oa]) 0, pv_a oa]
    by_cases c2 : i < 3 * k
    · rw [if_pos c2, if_pos (show i < 3 * (k + 1) by omega)]
    · rw [if_neg c2]
  by_cases ob : o = 144 ∨ o = 145 ∨ o = 146
  · have e : mvM (mvM (mvM (mvM (mvM I1 138 (3 * k) 0 (min m 3)) 139 (3 * k) 0 (min m 3)) 144 (3 * k) 0 (min (mx k) 3)) 145 (3 * k) 0 (min (mx k) 3)) 146 (3 * k) 0 (min (mx k) 3) o i = mvM I1 o (3 * k) 0 (min (mx k) 3) o i := by
      rcases ob with e | e | e
      · subst e
        rw [mvM_o (by decide), mvM_o (by decide), mv_c, mv_c, mvM_o (by decide), mvM_o (by decide)]
      · subst e
        rw [mvM_o (by decide), mv_c, mv_c, mvM_o (by decide), mvM_o (by decide), mvM_o (by decide)]
      · subst e
        rw [mv_c, mv_c, mvM_o (by decide), mvM_o (by decide), mvM_o (by decide), mvM_o (by decide)]
    rw [e, mv_row (fun _ => True) (fun i => by rw [h, pv_b ob]) 0, pv_b ob]
    by_cases c2 : i < 3 * k
    · rw [if_pos c2, if_pos (show i < 3 * (k + 1) by omega)]
    · rw [if_neg c2]
      by_cases c : i < 3 * (k + 1)
      · rw [if_pos c, if_pos c, show i / 3 = k by omega]
      · rw [if_neg c, if_neg c]
  rw [mvM_o (by omega), mvM_o (by omega), mvM_o (by omega), mvM_o (by omega), mvM_o (by omega), h, pv_d (by omega), pv_d (by omega)]
/-- the state before the gates' turn -/
def pa0 (I : T2) (m : Nat) : T2 := mvM (tw I 0) 137 0 (I 136 1) (min m 3)
def paP (I : T2) (J : T3) (t : Int64) (m : Nat) (nx : Int32) (G : Nat) (mx : Nat → Nat) (nw : Nat → Int32) (cl : Nat → Int64) : Option Value → T2 → T3 → Prop := fun v I' J' => v = none ∧ (∀ o i, I' o i = if o = 136 ∧ i = 8 then nx else pvM (pa0 I m) G m mx nw o i) ∧ ∀ o i, J' o i = if o = 141 ∧ i < G then cl i else up3 J 136 5 t o i
set_option maxHeartbeats 1000000 in
theorem sm_pass {q nx D : Nat} {wd nw : Nat → Nat} (hq : q ≤ 1000000) (hG : I 136 4 = nI G) (hG8 : G ≤ 8) (hl : ¬ (I 136 2).toInt64 = 0) (hD : I 136 8 = nI D) (hn : ((J 136 5 + (nI q).toInt64) / (I 136 2).toInt64).toInt32 = nI nx) (hle : D ≤ nx) (hnx : nx < 2 ^ 30) (hg : ∀ x, x < G → I 142 x = nI (wd x) ∧ (clM I (up3 J 136 5 (J 136 5 + (nI q).toInt64)) x / (I 136 2).toInt64).toInt32 = nI (nw x) ∧ wd x ≤ nw x ∧ nw x < 2 ^ 30) : Mt (d + 2) mX7_pass [.ref 136, .int (nI q)] I J (paP I J (J 136 5 + (nI q).toInt64) (nx - D) (nI nx) G (fun x => nw x - wd x) (fun x => nI (nw x)) (fun x => clM I (up3 J 136 5 (J 136 5 + (nI q).toInt64)) x)) := by
  refine Mt.of (by decide +kernel) (Nat.le_of_ble_eq_true rfl) ?_
  refine BX7_pass_0 ?_
  refine IX7_pass_2 (fun c => absurd c (nI_pos (by omega))) (fun _ => ?_)
  refine BX7_pass_5 ?_
  refine IX7_pass_8 (fun c => absurd c (nI_nlt (a := 1000000) hq (by decide))) (fun _ => ?_)
  refine BX7_pass_11 ?_
  refine BX7_pass_16 ?_
  refine IX7_pass_23 (fun _ => ?_) (fun z => absurd (by rw [up2_s]; decide) z)
  refine BX7_pass_27 (by rw [up2_k _ _ _ (by decide)]; exact hl) ?_
  have eJ : up3 J 136 5 (J 136 5 + (nI q).toInt64) 136 5 = J 136 5 + (nI q).toInt64 := by rw [up3_v, if_pos ⟨rfl, rfl⟩]
  rw [eJ, up2_k _ _ _ (show 2 ≠ 0 by decide), up2_k _ _ _ (show 8 ≠ 0 by decide), up2_k _ _ _ (show 1 ≠ 0 by decide), hn, hD, pk_sub hle, nI_l (by omega)]
  refine CX7_pass_68 (sm_move (b := 0) (by decide) (by decide) (by decide) (by omega)) (Nat.zero_le _) (fun v I1 J1 q1 => ?_)
  obtain ⟨rfl, rfl, rfl⟩ := q1
  refine BX7_pass_71 ?_
  generalize hJ1 : up3 J 136 5 (J 136 5 + (nI q).toInt64) = J1 at *
  have eP : ∀ o i, o ≠ 137 → pa0 I (nx - D) o i = tw I 0 o i := fun o i h => by unfold pa0; rw [mvM_o h]
  have key : ∀ q1 k : Nat, k + q1 = G → ∀ (I2 : T2) (J2 : T3), (∀ o i, I2 o i = pvM (pa0 I (nx - D)) k (nx - D) (fun x => nw x - wd x) (fun x => nI (nw x)) o i) → (∀ o i, J2 o i = if o = 141 ∧ i < k then clM I J1 i else J1 o i) → Ev (d + 2) 0 0 (fun _ => 0) mX7_pass 74 [some (.ref 136), some (.int (nI q)), some (.int (nI nx)), some (.long (lN (nx - D))), none, some (.int (nI k))] [] I2 J2 0 (fun o I' J' _ => ∃ v, o = .inl v ∧ paP I J (J 136 5 + (nI q).toInt64) (nx - D) (nI nx) G (fun x => nw x - wd x) (fun x => nI (nw x)) (fun x => clM I J1 x) v I' J') := by
    intro q1
    induction q1 with
    | zero =>
      intro k hk I2 J2 h1 h2
      have hkG : k = G := by omega
      subst hkG
      refine BX7_pass_74 ?_
      have e4 : I2 136 4 = nI k := by rw [h1, pv_d (by omega), eP _ _ (by decide), tw_k 0 (by decide), hG]
      rw [e4]
      refine IX7_pass_80 (fun _ => ?_) (fun z => absurd (nI_le (by omega) (by omega)) z)
      refine BX7_pass_121 ?_
      refine RX7_pass_126 (Nat.zero_le _) ⟨_, rfl, rfl, fun o i => ?_, fun o i => by rw [h2, hJ1]⟩
      rw [up2_v, h1]
    | succ q1 ih =>
      intro k hk I2 J2 h1 h2
      refine BX7_pass_74 ?_
      have e136 : ∀ i, i ≠ 0 → I2 136 i = I 136 i := fun i hi => by rw [h1, pv_d (by omega), eP _ _ (by decide), tw_k 0 hi]
      rw [e136 4 (by decide), hG]
      refine IX7_pass_80 (fun z => absurd z (nI_ge (by omega) (by omega))) (fun _ => ?_)
      refine BX7_pass_83 ?_
      rw [mul3']
      refine CX7_pass_93 (sm_move (by decide) (by show 3 * k + 2 < 24; omega) (by decide) (by omega)) (Nat.zero_le _) (fun v I3 J3 q3 => ?_)
      obtain ⟨rfl, rfl, rfl⟩ := q3
      refine BX7_pass_96 ?_
      rw [mul3']
      refine CX7_pass_106 (sm_move (by decide) (by show 3 * k + 2 < 24; omega) (by decide) (by omega)) (Nat.zero_le _) (fun v I3 J3 q3 => ?_)
      obtain ⟨rfl, rfl, rfl⟩ := q3
      refine BX7_pass_109 ?_
      obtain ⟨g1, g2, g3, g4⟩ := hg k (by omega)
      generalize hI3 : mvM (mvM I2 138 (3 * k) 0 (min (nx - D) 3)) 139 (3 * k) 0 (min (nx - D) 3) = I3
      have e3 : ∀ o, o ≠ 138 → o ≠ 139 → I3 o = I2 o := fun o a b => by rw [← hI3, mvM_o b, mvM_o a]
      have ec : clM I3 J2 k = clM I J1 k := by
        have ej1 : J2 141 k = J1 141 k := by rw [h2, if_neg (by omega)]
        have ej2 : J2 136 5 = J1 136 5 := by rw [h2, if_neg (by omega)]
        unfold clM
        rw [ej1, ej2, e3 140 (by decide) (by decide), h1, pv_d (by omega), eP _ _ (by decide), tw_o 0 (by decide)]
      have e2' : I3 136 2 = I 136 2 := by rw [e3 136 (by decide) (by decide), e136 2 (by decide)]
      have e142 : I3 142 k = nI (wd k) := by
        rw [e3 142 (by decide) (by decide), h1, pv_c, if_neg (by omega), eP _ _ (by decide), tw_o 0 (by decide), g1]
      refine CX7_pass_112 (sm_tick (by omega) (by rw [e2']; exact hl) e142 (by rw [ec, e2']; exact g2) g3 g4) (Nat.zero_le _) (fun v I4 J4 q4 => ?_)
      obtain ⟨rfl, rfl, rfl⟩ := q4
      refine BX7_pass_115 ?_
      rw [nI_1]
      refine ih (k + 1) (by omega) _ _ ?_ (fun o i => ?_)
      · rw [← hI3]
        exact pv_step (mx := fun x => nw x - wd x) (nw := fun x => nI (nw x)) h1
      · rw [up3_v, ec, h2]
        by_cases c : o = 141 ∧ i = k
        · rw [if_pos c, if_pos ⟨c.1, by omega⟩, c.2]
        · rw [if_neg c]
          by_cases c2 : o = 141 ∧ i < k
          · rw [if_pos c2, if_pos ⟨c2.1, by omega⟩]
          · rw [if_neg c2, if_neg (fun z => c2 ⟨z.1, by
              have := z.2
              by_cases c3 : i = k
              · exact absurd ⟨z.1, c3⟩ c
              · omega⟩)]
  refine key G 0 (Nat.zero_add _) _ J1 (fun o i => ?_) (fun o i => ?_)
  · have e0 : pvM (pa0 I (nx - D)) 0 (nx - D) (fun x => nw x - wd x) (fun x => nI (nw x)) o i = pa0 I (nx - D) o i := by
      unfold pvM
      rw [if_neg (fun z => by omega), if_neg (fun z => by omega), if_neg (fun z => by omega)]
    rw [e0]
    rfl
  · rw [if_neg (fun z => absurd z.2 (Nat.not_lt_zero _))]
end RF6

