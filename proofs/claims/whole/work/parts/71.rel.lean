/-! the relation between the class's state (I, J) and the reference's (A, JA) -/
def ps (U : Nat → Nat → Nat) (x n : Nat) : Nat := sF (fun i => U x (i + 1)) n
def sN (A : T2) (l : Nat) : Nat := (A 149 l).toNatClampNeg
def tN (A : T2) (l : Nat) : Nat := (A 150 l).toNatClampNeg
def hS (A : T2) (o x : Nat) : Nat := (A o (3 * x)).toNatClampNeg + (A o (3 * x + 1)).toNatClampNeg + (A o (3 * x + 2)).toNatClampNeg
def nB (m B W E G T : Nat) : Prop := B ≤ 1000000 ∧ 2 ≤ W ∧ W ≤ 10000 ∧ 2 * E < W ∧ 1 ≤ G ∧ G ≤ 8 ∧ E ≤ T ∧ T ≤ 5000 + 1000000 * m ∧ m ≤ 512
def cSc (B W E G T : Nat) (A : T2) (JA : T3) (I : T2) (J : T3) : Prop := (I 2 3 = nI B ∧ A 136 1 = nI B ∧ I 0 8 = nI W ∧ A 136 2 = nI W ∧ I 0 9 = nI E ∧ A 136 3 = nI E ∧ I 0 7 = nI G ∧ A 136 4 = nI G) ∧ (J 0 10 = lN T ∧ JA 136 5 = lN T) ∧ (I 2 4 = nI (T / W) ∧ A 136 8 = nI (T / W)) ∧ (I 2 5 = A 136 6 ∧ (A 136 6 = 0 ∨ A 136 6 = 1 ∨ A 136 6 = 2)) ∧ ((I 2 6 = 1 ∧ A 136 7 = 0) ∨ (I 2 6 = 0 ∧ A 136 7 = 1 ∧ ∀ i, i < 24 → A 138 i = 0))
def gG (W E T c x : Nat) (A : T2) (JA : T3) (I : T2) (J : T3) : Prop := (I (gP x) 5 = A 140 x ∧ -(E : Int) ≤ (A 140 x).toInt ∧ (A 140 x).toInt ≤ E) ∧ (J (gP x) 6 = lN c ∧ JA 141 x = lN c) ∧ (I (gP x) 7 = nI (c / W) ∧ A 142 x = nI (c / W)) ∧ ((I (gP x) 8 = 1 ∧ A 143 x = 0) ∨ (I (gP x) 8 = 0 ∧ A 143 x = 1)) ∧ c ≤ T + E
def gK (w x : Nat) (A I : T2) : Prop := ∀ k, k < 3 → (I (gP x + 1) (sl3 w k) = A 144 (3 * x + k) ∧ I (gP x + 2) (sl3 w k) = A 145 (3 * x + k) ∧ I (gP x + 3) (sl3 w k) = A 146 (3 * x + k)) ∧ ∃ h p t : Nat, (A 144 (3 * x + k) = nI h ∧ A 145 (3 * x + k) = nI p ∧ A 146 (3 * x + k) = nI t) ∧ p ≤ t ∧ t ≤ h ∧ h < 2 ^ 30 ∧ (w + k = 0 → h = 0)
def cUn (w : Nat) (A I : T2) : Prop := ∀ k, k < 3 → (1 ≤ w + k → I 3 (sl3 w k) = A 137 k) ∧ (w + k = 0 → A 137 k = 0)
def cWa (w G : Nat) (A I : T2) : Prop := ∀ x, x < 8 → ∀ k, k < 3 → (I (4 + 1 + sl3 w k) x = A 138 (3 * x + k) ∧ ¬ A 138 (3 * x + k) < 0 ∧ (G ≤ x → A 138 (3 * x + k) = 0)) ∧ ¬ A 139 (3 * x + k) < 0 ∧ ¬ I (8 + 1 + sl3 w k) x < 0 ∧ (¬ A 138 (3 * x + k) = 0 → I (8 + 1 + sl3 w k) x = A 139 (3 * x + k))
def LtOk (G : Nat) (U : Nat → Nat → Nat) (s t : Nat → Nat) (so g nu u tl : Int32) : Prop := ∃ x, x < G ∧ g = nI x ∧ ((so = 0 ∧ (∃ i, 1 ≤ i ∧ i ≤ s x ∧ nu = nI i) ∧ (∃ q, q ≤ 1000000 ∧ u = nI q) ∧ ¬ tl < 0) ∨ (so = 1 ∧ ∃ i, 1 ≤ i ∧ i ≤ s x ∧ nu = nI i) ∨ (so = 2 ∧ ∃ i, 1 ≤ i ∧ i ≤ s (8 + x) ∧ nu = nI i ∧ u = nI (U x i)) ∨ (so = 3 ∧ ∃ i, i ≤ t x ∧ nu = nI i) ∨ (so = 4 ∧ ∃ i, i ≤ t (8 + x) ∧ nu = nI i))
theorem LtOk.mono {G : Nat} {U U' : Nat → Nat → Nat} {s t s' t' : Nat → Nat} {so g nu u tl : Int32} (h : LtOk G U s t so g nu u tl) (hs : ∀ l, s l ≤ s' l) (ht : ∀ l, t l ≤ t' l) (hU : ∀ x i, x < G → i ≤ s (8 + x) → U' x i = U x i) : LtOk G U' s' t' so g nu u tl := by
  obtain ⟨x, hx, hg, h⟩ := h
  refine ⟨x, hx, hg, ?_⟩
  rcases h with ⟨a, ⟨i, i1, i2, i3⟩, b⟩ | ⟨a, i, i1, i2, i3⟩ | ⟨a, i, i1, i2, i3, i4⟩ | ⟨a, i, i1, i2⟩ | ⟨a, i, i1, i2⟩
  · exact Or.inl ⟨a, ⟨i, i1, Nat.le_trans i2 (hs x), i3⟩, b⟩
  · exact Or.inr (Or.inl ⟨a, i, i1, Nat.le_trans i2 (hs x), i3⟩)
  · exact Or.inr (Or.inr (Or.inl ⟨a, i, i1, Nat.le_trans i2 (hs _), i3, by rw [hU x i hx i2]; exact i4⟩))
  · exact Or.inr (Or.inr (Or.inr (Or.inl ⟨a, i, Nat.le_trans i1 (ht x), i2⟩)))
  · exact Or.inr (Or.inr (Or.inr (Or.inr ⟨a, i, Nat.le_trans i1 (ht _), i2⟩)))
def lR (A : T2) (l k c : Nat) : Int32 := A 147 (6 * (50 * l + k) + c)
/-- one way: the class's at a, the reference's line l, of gate x -/
def Wy (G : Nat) (U : Nat → Nat → Nat) (st tt : Nat → Nat) (A I : T2) (l a x : Nat) : Prop := ∃ s r t, (I a 0 = nI x ∧ I a 5 = nI s ∧ I a 6 = nI r ∧ I a 7 = nI t) ∧ (A 149 l = nI s ∧ A 148 l = nI (s - r) ∧ A 150 l = nI t) ∧ (r ≤ t ∧ t ≤ s ∧ s ≤ r + 50 ∧ s < 2 ^ 30) ∧ ∀ j, j < s - r → (lR A l j 0 = I (a + 1) ((r + 1 + j) % 50) ∧ lR A l j 1 = nI x ∧ lR A l j 2 = nI (r + 1 + j) ∧ lR A l j 3 = I (a + 2) ((r + 1 + j) % 50) ∧ lR A l j 4 = I (a + 3) ((r + 1 + j) % 50) ∧ lR A l j 5 = I (a + 4) ((r + 1 + j) % 50)) ∧ LtOk G U st tt (lR A l j 0) (lR A l j 1) (lR A l j 2) (lR A l j 4) (lR A l j 5)
def cPl (G : Nat) (U : Nat → Nat → Nat) (st tt : Nat → Nat) (A I : T2) : Prop := ∃ f n, PlOk I f n ∧ A 136 24 = nI n ∧ ∀ i, i < n → (∀ c, c < 6 → ltC I f i c = A 151 (6 * i + c)) ∧ LtOk G U st tt (A 151 (6 * i)) (A 151 (6 * i + 1)) (A 151 (6 * i + 2)) (A 151 (6 * i + 4)) (A 151 (6 * i + 5))
def cBd (m G : Nat) (U : Nat → Nat → Nat) (A : T2) : Prop := ∀ x, x < G → sN A x ≤ m ∧ hS A 144 x ≤ ps U x (tN A (8 + x)) ∧ ps U x (sN A (8 + x)) + hS A 138 x ≤ 1000000 * tN A x ∧ ∀ i, 1 ≤ i → i ≤ sN A (8 + x) → 1 ≤ U x i
def cAd (m : Nat) (rs : Rw) (A : T2) (JA : T3) (I : T2) (J : T3) : Prop := AdC I J rs ∧ TmR A JA (exR rs) ∧ rs.length ≤ m
def cUs (G : Nat) (A I : T2) : Prop := (∀ w, w < 200 → I 22 w = A 152 w) ∧ (∀ l, l < 16 → G ≤ l % 8 → A 149 l = 0 ∧ A 148 l = 0) ∧ ∀ x, x < 8 → G ≤ x → I (gP x + 4) 0 = nI x ∧ I (gP x + 9) 0 = nI x
def cWys (G : Nat) (U : Nat → Nat → Nat) (A I : T2) : Prop := ∀ x, x < G → Wy G U (sN A) (tN A) A I x (gP x + 4) x ∧ Wy G U (sN A) (tN A) A I (8 + x) (gP x + 9) x
def cGts (W E G T : Nat) (C : Nat → Nat) (A : T2) (JA : T3) (I : T2) (J : T3) : Prop := ∀ x, x < G → gG W E T (C x) x A JA I J ∧ gK (C x / W) x A I
def Rl (m B W E G T : Nat) (C : Nat → Nat) (U : Nat → Nat → Nat) (rs : Rw) (A : T2) (JA : T3) (I : T2) (J : T3) : Prop := nB m B W E G T ∧ cSc B W E G T A JA I J ∧ cGts W E G T C A JA I J ∧ cUn (T / W) A I ∧ cWa (T / W) G A I ∧ cWys G U A I ∧ cPl G U (sN A) (tN A) A I ∧ cBd m G U A ∧ cAd m rs A JA I J ∧ cUs G A I
def Rel (m : Nat) (A : T2) (JA : T3) (I : T2) (J : T3) : Prop := ∃ B W E G T C U rs, Rl m B W E G T C U rs A JA I J
/-! what each part looks at -/
section EXT
variable {A A' I I' : T2} {J J' JA JA' : T3}
theorem gP_e (x : Nat) : gP x = 24 + 14 * x := rfl
theorem cSc_x {B W E G T : Nat} (h : cSc B W E G T A JA I J) (h1 : ∀ j, 1 ≤ j → j ≤ 8 → A' 136 j = A 136 j) (h2 : JA' 136 5 = JA 136 5) (h3 : I' 0 = I 0) (h4 : ∀ j, 3 ≤ j → j ≤ 6 → I' 2 j = I 2 j) (h5 : J' 0 10 = J 0 10) (h6 : ∀ i, i < 24 → A 138 i = 0 → A' 138 i = 0) : cSc B W E G T A' JA' I' J' := by
  unfold cSc
  rw [h1 1 (by decide) (by decide), h1 2 (by decide) (by decide), h1 3 (by decide) (by decide), h1 4 (by decide) (by decide), h1 6 (by decide) (by decide), h1 7 (by decide) (by decide), h1 8 (by decide) (by decide), h2, h3, h4 3 (by decide) (by decide), h4 4 (by decide) (by decide), h4 5 (by decide) (by decide), h4 6 (by decide) (by decide), h5]
  obtain ⟨q1, q2, q3, q4, q5⟩ := h
  refine ⟨q1, q2, q3, q4, q5.imp id fun z => ⟨z.1, z.2.1, fun i hi => h6 i hi (z.2.2 i hi)⟩⟩
theorem gG_x {W E T c x : Nat} (h : gG W E T c x A JA I J) (h1 : A' 140 x = A 140 x) (h2 : JA' 141 x = JA 141 x) (h3 : A' 142 x = A 142 x) (h4 : A' 143 x = A 143 x) (h5 : I' (gP x) = I (gP x)) (h6 : J' (gP x) = J (gP x)) : gG W E T c x A' JA' I' J' := by
  unfold gG
  rw [h1, h2, h3, h4, h5, h6]
  exact h
theorem gK_x {w x : Nat} (h : gK w x A I) (h1 : ∀ k, k < 3 → A' 144 (3 * x + k) = A 144 (3 * x + k) ∧ A' 145 (3 * x + k) = A 145 (3 * x + k) ∧ A' 146 (3 * x + k) = A 146 (3 * x + k)) (h2 : I' (gP x + 1) = I (gP x + 1)) (h3 : I' (gP x + 2) = I (gP x + 2)) (h4 : I' (gP x + 3) = I (gP x + 3)) : gK w x A' I' := by
  intro k hk
  obtain ⟨a, b, c⟩ := h1 k hk
  rw [a, b, c, h2, h3, h4]
  exact h k hk
theorem cUn_x {w : Nat} (h : cUn w A I) (h1 : A' 137 = A 137) (h2 : I' 3 = I 3) : cUn w A' I' := by
  unfold cUn; rw [h1, h2]; exact h
theorem cWa_x {w G : Nat} (h : cWa w G A I) (h1 : A' 138 = A 138) (h2 : A' 139 = A 139) (h3 : ∀ o, 5 ≤ o → o ≤ 11 → o ≠ 8 → I' o = I o) : cWa w G A' I' := by
  intro x hx k hk
  have := sl3_lt w k
  rw [h1, h2, h3 (4 + 1 + sl3 w k) (by omega) (by omega) (by omega), h3 (8 + 1 + sl3 w k) (by omega) (by omega) (by omega)]
  exact h x hx k hk
theorem Wy_x {G l a x : Nat} {U U' : Nat → Nat → Nat} {st tt st' tt' : Nat → Nat} (h : Wy G U st tt A I l a x) (h1 : A' 149 l = A 149 l) (h2 : A' 148 l = A 148 l) (h3 : A' 150 l = A 150 l) (h4 : ∀ j, j < 50 → ∀ c, c < 6 → lR A' l j c = lR A l j c) (h5 : ∀ j, j < 5 → I' (a + j) = I (a + j)) (hs : ∀ l, st l ≤ st' l) (ht : ∀ l, tt l ≤ tt' l) (hU : ∀ x i, x < G → i ≤ st (8 + x) → U' x i = U x i) : Wy G U' st' tt' A' I' l a x := by
  obtain ⟨s, r, t, a1, a2, a3, a4⟩ := h
  refine ⟨s, r, t, ?_, ?_, a3, fun j hj => ?_⟩
  · rw [show I' a = I a from h5 0 (by decide)]; exact a1
  · rw [h1, h2, h3]; exact a2
  · have hj5 : j < 50 := by omega
    rw [h4 j hj5 0 (by decide), h4 j hj5 1 (by decide), h4 j hj5 2 (by decide), h4 j hj5 3 (by decide), h4 j hj5 4 (by decide), h4 j hj5 5 (by decide), h5 1 (by decide), h5 2 (by decide), h5 3 (by decide), h5 4 (by decide)]
    exact ⟨(a4 j hj).1, (a4 j hj).2.mono hs ht hU⟩
theorem cPl_x {G : Nat} {U U' : Nat → Nat → Nat} {st tt st' tt' : Nat → Nat} (h : cPl G U st tt A I) (h1 : A' 136 24 = A 136 24) (h2 : A' 151 = A 151) (h3 : I' 12 = I 12) (h4 : I' 13 = I 13) (hs : ∀ l, st l ≤ st' l) (ht : ∀ l, tt l ≤ tt' l) (hU : ∀ x i, x < G → i ≤ st (8 + x) → U' x i = U x i) : cPl G U' st' tt' A' I' := by
  obtain ⟨f, n, a1, a2, a3⟩ := h
  refine ⟨f, n, PlOk_e a1 h3, by rw [h1]; exact a2, fun i hi => ?_⟩
  unfold ltC
  rw [h2, h4]
  exact ⟨(a3 i hi).1, (a3 i hi).2.mono hs ht hU⟩
theorem cBd_x {m m' G : Nat} {U : Nat → Nat → Nat} (h : cBd m G U A) (hm : m ≤ m') (h1 : A' 149 = A 149) (h2 : A' 150 = A 150) (h3 : A' 144 = A 144) (h4 : A' 138 = A 138) : cBd m' G U A' := by
  intro x hx
  obtain ⟨b1, b2, b3, b4⟩ := h x hx
  unfold sN tN hS at *
  rw [h1, h2, h3, h4]
  exact ⟨Nat.le_trans b1 hm, b2, b3, b4⟩
theorem TmR_x {ts : List Int64} (h : TmR A JA ts) (h1 : A' 136 27 = A 136 27) (h2 : JA' 153 = JA 153) : TmR A' JA' ts := by
  unfold TmR; rw [h1, h2]; exact h
theorem cAd_x {m m' : Nat} {rs : Rw} (h : cAd m rs A JA I J) (hm : m ≤ m') (h1 : A' 136 27 = A 136 27) (h2 : JA' 153 = JA 153) (h3 : I' 19 = I 19) (h4 : I' 21 = I 21) (h5 : J' 20 = J 20) : cAd m' rs A' JA' I' J' := ⟨AdC_ext h.1 h3 h4 h5, TmR_x h.2.1 h1 h2, Nat.le_trans h.2.2 hm⟩
theorem cUs_x {G : Nat} (h : cUs G A I) (h1 : A' 152 = A 152) (h2 : I' 22 = I 22) (h3 : ∀ l, l < 16 → G ≤ l % 8 → A' 149 l = A 149 l ∧ A' 148 l = A 148 l) (h4 : ∀ x, x < 8 → G ≤ x → I' (gP x + 4) = I (gP x + 4) ∧ I' (gP x + 9) = I (gP x + 9)) : cUs G A' I' := by
  refine ⟨?_, fun l hl hg => ?_, fun x hx hg => ?_⟩
  · rw [h1, h2]; exact h.1
  · rw [(h3 l hl hg).1, (h3 l hl hg).2]; exact h.2.1 l hl hg
  · rw [(h4 x hx hg).1, (h4 x hx hg).2]; exact h.2.2 x hx hg
theorem cWys_x {G : Nat} {U : Nat → Nat → Nat} (h : cWys G U A I) (h1 : A' 149 = A 149) (h2 : A' 148 = A 148) (h3 : A' 150 = A 150) (h4 : A' 147 = A 147) (h5 : ∀ x j, x < G → 4 ≤ j → j < 14 → I' (gP x + j) = I (gP x + j)) : cWys G U A' I' := by
  intro x hx
  obtain ⟨a, b⟩ := h x hx
  have es : sN A' = sN A := by funext l; unfold sN; rw [h1]
  have et : tN A' = tN A := by funext l; unfold tN; rw [h3]
  rw [es, et]
  refine ⟨Wy_x a (by rw [h1]) (by rw [h2]) (by rw [h3]) (fun j _ c _ => by unfold lR; rw [h4]) (fun j hj => ?_) (fun _ => Nat.le_refl _) (fun _ => Nat.le_refl _) (fun _ _ _ _ => rfl), Wy_x b (by rw [h1]) (by rw [h2]) (by rw [h3]) (fun j _ c _ => by unfold lR; rw [h4]) (fun j hj => ?_) (fun _ => Nat.le_refl _) (fun _ => Nat.le_refl _) (fun _ _ _ _ => rfl)⟩
  · rw [show gP x + 4 + j = gP x + (4 + j) by omega]; exact h5 x (4 + j) hx (by omega) (by omega)
  · rw [show gP x + 9 + j = gP x + (9 + j) by omega]; exact h5 x (9 + j) hx (by omega) (by omega)
theorem cGts_x {W E G T : Nat} {C : Nat → Nat} (h : cGts W E G T C A JA I J) (h0 : ∀ o, 140 ≤ o → o ≤ 146 → A' o = A o) (h2 : JA' 141 = JA 141) (h5 : ∀ x j, x < G → j < 4 → I' (gP x + j) = I (gP x + j)) (h6 : ∀ x, x < G → J' (gP x) = J (gP x)) : cGts W E G T C A' JA' I' J' := by
  intro x hx
  obtain ⟨a, b⟩ := h x hx
  refine ⟨gG_x a (by rw [h0 140 (by decide) (by decide)]) (by rw [h2]) (by rw [h0 142 (by decide) (by decide)]) (by rw [h0 143 (by decide) (by decide)]) (h5 x 0 hx (by decide)) (h6 x hx), gK_x b (fun k _ => by rw [h0 144 (by decide) (by decide), h0 145 (by decide) (by decide), h0 146 (by decide) (by decide)]; exact ⟨rfl, rfl, rfl⟩) (h5 x 1 hx (by decide)) (h5 x 2 hx (by decide)) (h5 x 3 hx (by decide))⟩
/-- scratch and the thrown code don't matter -/
theorem Rl_x {m B W E G T : Nat} {C : Nat → Nat} {U : Nat → Nat → Nat} {rs : Rw} (h : Rl m B W E G T C U rs A JA I J) (h1 : ∀ j, j ≠ 0 → A' 136 j = A 136 j) (h2 : ∀ o, 137 ≤ o → o ≤ 153 → A' o = A o) (h3 : JA' 136 5 = JA 136 5 ∧ JA' 141 = JA 141 ∧ JA' 153 = JA 153) (h4 : ∀ o, o < 136 → ¬ (14 ≤ o ∧ o ≤ 18) → o ≠ 23 → I' o = I o) (h5 : ∀ o, o < 136 → o ≠ 18 → J' o = J o) : Rl m B W E G T C U rs A' JA' I' J' := by
  obtain ⟨a1, a2, a3, a4, a5, a6, a7, a8, a9, a10⟩ := h
  have hG : G ≤ 8 := a1.2.2.2.2.2.1
  have es : sN A' = sN A := by funext l; unfold sN; rw [h2 149 (by decide) (by decide)]
  have et : tN A' = tN A := by funext l; unfold tN; rw [h2 150 (by decide) (by decide)]
  have hi : ∀ x j, x < G → j < 14 → I' (gP x + j) = I (gP x + j) := fun x j hx hj => h4 _ (by have := gP_e x; omega) (by have := gP_e x; omega) (by have := gP_e x; omega)
  refine ⟨a1, cSc_x a2 (fun j j1 _ => h1 j (by omega)) h3.1 (h4 0 (by decide) (by decide) (by decide)) (fun j _ _ => by rw [h4 2 (by decide) (by decide) (by decide)]) (by rw [h5 0 (by decide) (by decide)]) (fun i _ z => by rw [h2 138 (by decide) (by decide)]; exact z), cGts_x a3 (fun o o1 o2 => h2 o (by omega) (by omega)) h3.2.1 (fun x j hx hj => hi x j hx (by omega)) (fun x hx => h5 _ (by have := gP_e x; omega) (by have := gP_e x; omega)), cUn_x a4 (h2 137 (by decide) (by decide)) (h4 3 (by decide) (by decide) (by decide)), cWa_x a5 (h2 138 (by decide) (by decide)) (h2 139 (by decide) (by decide)) (fun o o1 o2 _ => h4 o (by omega) (by omega) (by omega)), cWys_x a6 (h2 149 (by decide) (by decide)) (h2 148 (by decide) (by decide)) (h2 150 (by decide) (by decide)) (h2 147 (by decide) (by decide)) (fun x j hx _ hj => hi x j hx hj), ?_, cBd_x a8 (Nat.le_refl _) (h2 149 (by decide) (by decide)) (h2 150 (by decide) (by decide)) (h2 144 (by decide) (by decide)) (h2 138 (by decide) (by decide)), cAd_x a9 (Nat.le_refl _) (h1 27 (by decide)) h3.2.2 (h4 19 (by decide) (by decide) (by decide)) (h4 21 (by decide) (by decide) (by decide)) (h5 20 (by decide) (by decide)), cUs_x a10 (h2 152 (by decide) (by decide)) (h4 22 (by decide) (by decide) (by decide)) (fun l _ _ => by rw [h2 149 (by decide) (by decide), h2 148 (by decide) (by decide)]; exact ⟨rfl, rfl⟩) (fun x hx _ => ⟨h4 _ (by have := gP_e x; omega) (by have := gP_e x; omega) (by have := gP_e x; omega), h4 _ (by have := gP_e x; omega) (by have := gP_e x; omega) (by have := gP_e x; omega)⟩)⟩
  rw [es, et]
  exact cPl_x a7 (h1 24 (by decide)) (h2 151 (by decide) (by decide)) (h4 12 (by decide) (by decide) (by decide)) (h4 13 (by decide) (by decide) (by decide)) (fun _ => Nat.le_refl _) (fun _ => Nat.le_refl _) (fun _ _ _ _ => rfl)
/-- one call more -/
theorem Rl_m {m B W E G T : Nat} {C : Nat → Nat} {U : Nat → Nat → Nat} {rs : Rw} (h : Rl m B W E G T C U rs A JA I J) (hm : m < 512) : Rl (m + 1) B W E G T C U rs A JA I J := by
  obtain ⟨a1, a2, a3, a4, a5, a6, a7, a8, a9, a10⟩ := h
  obtain ⟨n1, n2, n3, n4, n5, n6, n7, n8, n9⟩ := a1
  exact ⟨⟨n1, n2, n3, n4, n5, n6, n7, by omega, by omega⟩, a2, a3, a4, a5, a6, a7, fun x hx => ⟨Nat.le_trans (a8 x hx).1 (Nat.le_succ _), (a8 x hx).2⟩, ⟨a9.1, a9.2.1, Nat.le_trans a9.2.2 (Nat.le_succ _)⟩, a10⟩
end EXT

