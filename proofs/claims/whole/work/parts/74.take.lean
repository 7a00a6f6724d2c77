/-! letters taken, letters received -/
section TK
variable {A I : T2} {G : Nat} {U : Nat → Nat → Nat}
theorem tk_rel {x l a i : Nat} (hG : G ≤ 8) (hx : x < G) (hla : (l = x ∧ a = gP x + 4) ∨ (l = 8 + x ∧ a = gP x + 9)) (hw : cWys G U A I) (hp : cPl G U (sN A) (tN A) A I) (hi : nI i = A 150 l + 1) (his : i ≤ sN A l) : i = tN A l + 1 ∧ cWys G U (tkM A l) (up2 I a 7 (nI i)) ∧ cPl G U (sN (tkM A l)) (tN (tkM A l)) (tkM A l) (up2 I a 7 (nI i)) ∧ sN (tkM A l) = sN A ∧ tN (tkM A l) = fun l' => if l' = l then i else tN A l' := by
  have gx := gP_e x
  have hwy : Wy G U (sN A) (tN A) A I l a x := by
    rcases hla with ⟨rfl, rfl⟩ | ⟨rfl, rfl⟩
    · exact (hw _ hx).1
    · exact (hw _ hx).2
  obtain ⟨s, r, t, ⟨b1, b2, b3, b4⟩, ⟨d1, d2, d3⟩, ⟨e1, e2, e3, e4⟩, e5⟩ := hwy
  have hs : sN A l = s := by unfold sN; rw [d1, nI_clamp (by omega)]
  have ht : tN A l = t := by unfold tN; rw [d3, nI_clamp (by omega)]
  have hit : i = t + 1 := by
    rw [d3, nI_1] at hi
    exact (nI_eq (by omega) (by omega)).mp hi
  have es : sN (tkM A l) = sN A := by funext l'; unfold sN; rw [tkM_o (by decide)]
  have e150 : ∀ l', tkM A l 150 l' = if l' = l then nI i else A 150 l' := fun l' => by
    unfold tkM
    rw [up2_v, ← hi]
    by_cases c : l' = l
    · rw [if_pos ⟨rfl, c⟩, if_pos c]
    · rw [if_neg (fun z => c z.2), if_neg c]
  have et : tN (tkM A l) = fun l' => if l' = l then i else tN A l' := by
    funext l'
    unfold tN
    rw [e150]
    by_cases c : l' = l
    · rw [if_pos c, if_pos c, nI_clamp (by omega)]
    · rw [if_neg c, if_neg c]
  have tle : ∀ l', tN A l' ≤ (fun l' => if l' = l then i else tN A l') l' := fun l' => by
    show tN A l' ≤ (if l' = l then i else tN A l')
    by_cases c : l' = l
    · rw [if_pos c, c, ht]; omega
    · rw [if_neg c]; exact Nat.le_refl _
  refine ⟨by omega, ?_, ?_, es, et⟩
  · rw [cWys, es, et]
    have oth : ∀ l' a' x', Wy G U (sN A) (tN A) A I l' a' x' → l' ≠ l → 24 ≤ a' → (a' + 4 < a ∨ a + 4 < a') → Wy G U (sN A) (fun l' => if l' = l then i else tN A l') (tkM A l) (up2 I a 7 (nI i)) l' a' x' := by
      intro l' a' x' h1 n1 n2 n3
      refine Wy_x h1 ?_ ?_ ?_ (fun j hj c hc => ?_) (fun j hj => ?_) (fun _ => Nat.le_refl _) tle (fun _ _ _ _ => rfl)
      · rw [tkM_o (by decide)]
      · rw [tkM_o (by decide)]
      · rw [e150, if_neg n1]
      · unfold lR; rw [tkM_o (by decide)]
      · rw [up2_ne _ _ _ (by omega)]
    have own : Wy G U (sN A) (fun l' => if l' = l then i else tN A l') (tkM A l) (up2 I a 7 (nI i)) l a x := by
      refine ⟨s, r, i, ?_, ?_, ⟨by omega, by omega, e3, e4⟩, fun j hj => ?_⟩
      · rw [up2_k _ _ _ (by decide), up2_k _ _ _ (by decide), up2_k _ _ _ (by decide), up2_s]
        exact ⟨b1, b2, b3, rfl⟩
      · rw [tkM_o (by decide), tkM_o (by decide), e150, if_pos rfl]
        exact ⟨d1, d2, rfl⟩
      · have q : ∀ c, lR (tkM A l) l j c = lR A l j c := fun c => by unfold lR; rw [tkM_o (by decide)]
        rw [q, q, q, q, q, q, up2_ne _ _ _ (by omega), up2_ne _ _ _ (by omega), up2_ne _ _ _ (by omega), up2_ne _ _ _ (by omega)]
        obtain ⟨f1, f2⟩ := e5 j hj
        exact ⟨f1, f2.mono (fun _ => Nat.le_refl _) tle (fun _ _ _ _ => rfl)⟩
    intro y hy
    have gy := gP_e y
    obtain ⟨h1, h2⟩ := hw y hy
    by_cases c : y = x
    · subst c
      rcases hla with ⟨c1, c2⟩ | ⟨c1, c2⟩
      · rw [c1, c2] at own
        rw [c1, c2] at oth
        exact ⟨by rw [c1, c2]; exact own, by rw [c1, c2]; exact oth _ _ _ h2 (by omega) (by omega) (by omega)⟩
      · rw [c1, c2] at own
        rw [c1, c2] at oth
        exact ⟨by rw [c1, c2]; exact oth _ _ _ h1 (by omega) (by omega) (by omega), by rw [c1, c2]; exact own⟩
    · exact ⟨oth _ _ _ h1 (by omega) (by omega) (by omega), oth _ _ _ h2 (by omega) (by omega) (by omega)⟩
  · rw [es, et]
    exact cPl_x hp (by rw [tkM_o (by decide)]) (by rw [tkM_o (by decide)]) (up2_ne _ _ _ (by omega)) (up2_ne _ _ _ (by omega)) (fun _ => Nat.le_refl _) tle (fun _ _ _ _ => rfl)
theorem lR_e (A : T2) (l j c : Nat) : lR A l j c = A 147 (300 * l + 6 * j + c) := by
  unfold lR; congr 1; omega
theorem rv_is {l i : Nat} (hi : i < 2 ^ 30) : ∀ (k r : Nat) (A : T2), k ≤ 50 → r < 2 ^ 30 → (∀ j, j < k → lR A l j 2 = nI (r + 1 + j)) → A 148 l = nI k → (∀ o, o ≠ 147 → o ≠ 148 → rvM l (nI i) k A o = A o) ∧ (∀ l', l' ≠ l → rvM l (nI i) k A 148 l' = A 148 l' ∧ ∀ j c, j < 50 → c < 6 → lR (rvM l (nI i) k A) l' j c = lR A l' j c) ∧ rvM l (nI i) k A 148 l = nI (k - min k (i - r)) ∧ ∀ j c, j < k - min k (i - r) → c < 6 → lR (rvM l (nI i) k A) l j c = lR A l (j + min k (i - r)) c
  | 0, r, A, _, _, _, h2 => by
    rw [Nat.zero_min]
    exact ⟨fun _ _ _ => rfl, fun _ _ => ⟨rfl, fun _ _ _ _ => rfl⟩, h2, fun _ _ _ _ => rfl⟩
  | k + 1, r, A, hk, hr, h1, h2 => by
    have e0 : A 147 (300 * l + 2) = nI (r + 1) := by
      have := h1 0 (by omega)
      rw [lR_e] at this
      exact this
    show (∀ o, o ≠ 147 → o ≠ 148 → (if A 147 (300 * l + 2) ≤ nI i then rvM l (nI i) k (k1M A l k) else A) o = A o) ∧ (∀ l', l' ≠ l → (if A 147 (300 * l + 2) ≤ nI i then rvM l (nI i) k (k1M A l k) else A) 148 l' = A 148 l' ∧ ∀ j c, j < 50 → c < 6 → lR (if A 147 (300 * l + 2) ≤ nI i then rvM l (nI i) k (k1M A l k) else A) l' j c = lR A l' j c) ∧ (if A 147 (300 * l + 2) ≤ nI i then rvM l (nI i) k (k1M A l k) else A) 148 l = nI (k + 1 - min (k + 1) (i - r)) ∧ ∀ j c, j < k + 1 - min (k + 1) (i - r) → c < 6 → lR (if A 147 (300 * l + 2) ≤ nI i then rvM l (nI i) k (k1M A l k) else A) l j c = lR A l (j + min (k + 1) (i - r)) c
    rw [e0]
    by_cases c : r + 1 ≤ i
    · rw [if_pos (nI_le c (by omega))]
      have s1 : ∀ o, o ≠ 147 → o ≠ 148 → k1M A l k o = A o := fun o o1 o2 => by
        unfold k1M; rw [up2_ne _ _ _ o2, upr_ne _ _ o1]
      have s2 : ∀ l', k1M A l k 148 l' = if l' = l then nI k else A 148 l' := fun l' => by
        unfold k1M
        rw [up2_v, upr_ne _ _ (by decide)]
        by_cases c : l' = l
        · rw [if_pos ⟨rfl, c⟩, if_pos c]
        · rw [if_neg (fun z => c z.2), if_neg c]
      have s3 : ∀ n, k1M A l k 147 n = if 300 * l ≤ n ∧ n < 300 * l + 6 * k then A 147 (n + 6) else A 147 n := fun n => by
        unfold k1M
        rw [up2_o _ _ _ _ (by decide), upr_at]; rfl
      have s4 : ∀ j c, j < k → c < 6 → lR (k1M A l k) l j c = lR A l (j + 1) c := fun j c hj hc => by
        rw [lR_e, lR_e, s3, if_pos (by omega)]
        congr 1
        omega
      have s5 : ∀ l' j c, l' ≠ l → j < 50 → c < 6 → lR (k1M A l k) l' j c = lR A l' j c := fun l' j c n1 hj hc => by
        rw [lR_e, lR_e, s3, if_neg (by omega)]
      obtain ⟨q1, q2, q3, q4⟩ := rv_is hi k (r + 1) (k1M A l k) (by omega) (by omega) (fun j hj => by
        rw [s4 j 2 hj (by decide), h1 (j + 1) (by omega)]
        congr 1; omega) (by rw [s2, if_pos rfl])
      have em : min (k + 1) (i - r) = min k (i - (r + 1)) + 1 := by omega
      refine ⟨fun o o1 o2 => by rw [q1 o o1 o2, s1 o o1 o2], fun l' n1 => ⟨by rw [(q2 l' n1).1, s2, if_neg n1], fun j c hj hc => by rw [(q2 l' n1).2 j c hj hc, s5 l' j c n1 hj hc]⟩, by rw [q3, em]; congr 1; omega, fun j c hj hc => ?_⟩
      rw [q4 j c (by omega) hc, s4 _ c (by omega) hc, em]
      congr 1
    · rw [if_neg (nI_ge (by omega) (by omega))]
      have em : min (k + 1) (i - r) = 0 := by omega
      rw [em]
      exact ⟨fun _ _ _ => rfl, fun _ _ => ⟨rfl, fun _ _ _ _ => rfl⟩, h2, fun _ _ _ _ => rfl⟩
theorem mk_rel {x l a i : Nat} (hG : G ≤ 8) (hx : x < G) (hla : (l = x ∧ a = gP x + 4) ∨ (l = 8 + x ∧ a = gP x + 9)) (hw : cWys G U A I) (hp : cPl G U (sN A) (tN A) A I) (hi : i ≤ tN A l) : cWys G U (rvM l (nI i) (A 148 l).toNatClampNeg A) (mkC I a (nI i)) ∧ cPl G U (sN (rvM l (nI i) (A 148 l).toNatClampNeg A)) (tN (rvM l (nI i) (A 148 l).toNatClampNeg A)) (rvM l (nI i) (A 148 l).toNatClampNeg A) (mkC I a (nI i)) ∧ (∀ o, o ≠ 147 → o ≠ 148 → rvM l (nI i) (A 148 l).toNatClampNeg A o = A o) ∧ ∀ l', l' ≠ l → rvM l (nI i) (A 148 l).toNatClampNeg A 148 l' = A 148 l' := by
  have gx := gP_e x
  have hwy : Wy G U (sN A) (tN A) A I l a x := by
    rcases hla with ⟨rfl, rfl⟩ | ⟨rfl, rfl⟩
    · exact (hw _ hx).1
    · exact (hw _ hx).2
  obtain ⟨s, r, t, ⟨b1, b2, b3, b4⟩, ⟨d1, d2, d3⟩, ⟨e1, e2, e3, e4⟩, e5⟩ := hwy
  have ht : tN A l = t := by unfold tN; rw [d3, nI_clamp (by omega)]
  rw [d2, nI_clamp (by omega)]
  obtain ⟨q1, q2, q3, q4⟩ := rv_is (l := l) (i := i) (by omega) (s - r) r A (by omega) (by omega) (fun j hj => (e5 j hj).1.2.2.1) d2
  generalize rvM l (nI i) (s - r) A = A1 at *
  have es : sN A1 = sN A := by funext l'; unfold sN; rw [q1 149 (by decide) (by decide)]
  have et : tN A1 = tN A := by funext l'; unfold tN; rw [q1 150 (by decide) (by decide)]
  have eI : mkC I a (nI i) = up2 I a 6 (nI (max r i)) := by
    unfold mkC
    rw [b3, max_nI (by omega) (by omega)]
  rw [eI]
  refine ⟨?_, ?_, q1, fun l' n1 => (q2 l' n1).1⟩
  · rw [cWys, es, et]
    have oth : ∀ l' a' x', Wy G U (sN A) (tN A) A I l' a' x' → l' ≠ l → 24 ≤ a' → (a' + 4 < a ∨ a + 4 < a') → Wy G U (sN A) (tN A) A1 (up2 I a 6 (nI (max r i))) l' a' x' := by
      intro l' a' x' h1 n1 n2 n3
      refine Wy_x h1 ?_ ?_ ?_ (fun j hj c hc => ?_) (fun j hj => ?_) (fun _ => Nat.le_refl _) (fun _ => Nat.le_refl _) (fun _ _ _ _ => rfl)
      · rw [q1 149 (by decide) (by decide)]
      · exact (q2 l' n1).1
      · rw [q1 150 (by decide) (by decide)]
      · exact (q2 l' n1).2 j c hj hc
      · rw [up2_ne _ _ _ (by omega)]
    have own : Wy G U (sN A) (tN A) A1 (up2 I a 6 (nI (max r i))) l a x := by
      have em : s - max r i = s - r - min (s - r) (i - r) := by omega
      refine ⟨s, max r i, t, ?_, ?_, ⟨by omega, by omega, by omega, e4⟩, fun j hj => ?_⟩
      · rw [up2_k (j := 0) _ _ _ (by decide), up2_k (j := 5) _ _ _ (by decide), up2_s, up2_k (j := 7) _ _ _ (by decide)]
        exact ⟨b1, b2, rfl, b4⟩
      · rw [q1 149 (by decide) (by decide), q1 150 (by decide) (by decide), q3, em]
        exact ⟨d1, rfl, d3⟩
      · rw [em] at hj
        rw [q4 j 0 hj (by decide), q4 j 1 hj (by decide), q4 j 2 hj (by decide), q4 j 3 hj (by decide), q4 j 4 hj (by decide), q4 j 5 hj (by decide), up2_ne _ _ _ (by omega), up2_ne _ _ _ (by omega), up2_ne _ _ _ (by omega), up2_ne _ _ _ (by omega)]
        have ej : max r i + 1 + j = r + 1 + (j + min (s - r) (i - r)) := by omega
        rw [ej]
        exact e5 _ (by omega)
    intro y hy
    have gy := gP_e y
    obtain ⟨h1, h2⟩ := hw y hy
    by_cases c : y = x
    · subst c
      rcases hla with ⟨c1, c2⟩ | ⟨c1, c2⟩
      · rw [c1, c2] at own
        rw [c1, c2] at oth
        exact ⟨by rw [c2]; exact own, by rw [c2]; exact oth _ _ _ h2 (by omega) (by omega) (by omega)⟩
      · rw [c1, c2] at own
        rw [c1, c2] at oth
        exact ⟨by rw [c2]; exact oth _ _ _ h1 (by omega) (by omega) (by omega), by rw [c2]; exact own⟩
    · exact ⟨oth _ _ _ h1 (by omega) (by omega) (by omega), oth _ _ _ h2 (by omega) (by omega) (by omega)⟩
  · rw [es, et]
    exact cPl_x hp (by rw [q1 136 (by decide) (by decide)]) (q1 151 (by decide) (by decide)) (up2_ne _ _ _ (by omega)) (up2_ne _ _ _ (by omega)) (fun _ => Nat.le_refl _) (fun _ => Nat.le_refl _) (fun _ _ _ _ => rfl)
end TK

