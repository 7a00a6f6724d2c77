/-! a fresh start -/
section FRESH
variable {m : Nat} {I S : T2} {J JS : T3}
/-- what begin leaves in the class -/
def frC (B W E G : Nat) (S : T2) (JS : T3) : Prop := (S 2 3 = nI B ∧ S 0 8 = nI W ∧ S 0 9 = nI E ∧ S 0 7 = nI G ∧ JS 0 10 = lN E ∧ S 2 4 = 0 ∧ S 2 5 = 0 ∧ S 2 6 = 1) ∧ (∀ σ, σ < 3 → S 3 σ = nI B ∧ ∀ x, x < 8 → S (4 + 1 + σ) x = 0 ∧ ¬ S (8 + 1 + σ) x < 0) ∧ (∀ x, x < 8 → (S (gP x) 5 = 0 ∧ S (gP x) 7 = 0 ∧ S (gP x) 8 = 1 ∧ JS (gP x) 6 = lN E) ∧ (∀ s, s < 3 → S (gP x + 1) s = 0 ∧ S (gP x + 2) s = 0 ∧ S (gP x + 3) s = 0) ∧ (S (gP x + 4) 5 = 0 ∧ S (gP x + 4) 6 = 0 ∧ S (gP x + 4) 7 = 0 ∧ S (gP x + 4) 0 = nI x) ∧ (S (gP x + 9) 5 = 0 ∧ S (gP x + 9) 6 = 0 ∧ S (gP x + 9) 7 = 0 ∧ S (gP x + 9) 0 = nI x)) ∧ (S 12 1 = 0 ∧ S 12 2 = 0 ∧ S 19 2 = 0 ∧ S 19 3 = 0 ∧ S 19 4 = 0) ∧ ∀ w, w < 200 → S 22 w = 0
/-- and in the reference -/
def frM (B W E G : Nat) (S : T2) (JS : T3) : Prop := (S 136 1 = nI B ∧ S 136 2 = nI W ∧ S 136 3 = nI E ∧ S 136 4 = nI G ∧ S 136 6 = 0 ∧ S 136 7 = 0 ∧ S 136 8 = 0 ∧ S 136 24 = 0 ∧ S 136 27 = 0) ∧ (S 137 0 = 0 ∧ S 137 1 = nI B ∧ S 137 2 = nI B) ∧ (∀ i, i < 24 → S 138 i = 0 ∧ S 139 i = 0 ∧ S 144 i = 0 ∧ S 145 i = 0 ∧ S 146 i = 0) ∧ (∀ x, x < 8 → S 140 x = 0 ∧ S 142 x = 0 ∧ S 143 x = 0 ∧ JS 141 x = lN E) ∧ (∀ l, l < 16 → S 148 l = 0 ∧ S 149 l = 0 ∧ S 150 l = 0) ∧ (∀ w, w < 200 → S 152 w = 0) ∧ JS 136 5 = lN E
theorem fresh_Rl {B W E G : Nat} (hm : m ≤ 512) (h1 : B ≤ 1000000) (h2 : 2 ≤ W) (h3 : W ≤ 10000) (h4 : 2 * E < W) (h5 : 1 ≤ G) (h6 : G ≤ 8) (hC : frC B W E G S JS) (hM : frM B W E G S JS) : Rl m B W E G E (fun _ => E) (fun _ _ => 0) [] S JS S JS := by
  obtain ⟨⟨c1, c2, c3, c4, c5, c6, c7, c8⟩, cU, cG, ⟨c9, c10, c11, c12, c13⟩, cW⟩ := hC
  obtain ⟨⟨m1, m2, m3, m4, m5, m6, m7, m8, m9⟩, ⟨u0, u1, u2⟩, mA, mB, mC, mW, mT⟩ := hM
  have eD : E / W = 0 := Nat.div_eq_of_lt (by omega)
  have cl0 : (0 : Int32).toNatClampNeg = 0 := by decide
  have es : ∀ l, l < 16 → sN S l = 0 := fun l hl => by unfold sN; rw [(mC l hl).2.1, cl0]
  have et : ∀ l, l < 16 → tN S l = 0 := fun l hl => by unfold tN; rw [(mC l hl).2.2, cl0]
  unfold Rl
  rw [eD]
  refine ⟨⟨h1, h2, h3, h4, h5, h6, Nat.le_refl _, by omega, hm⟩, ?_, fun x hx => ⟨?_, fun k hk => ?_⟩, fun k hk => ?_, fun x hx k hk => ?_, fun x hx => ⟨?_, ?_⟩, ?_, fun x hx => ?_, ?_, ?_⟩
  · unfold cSc
    rw [eD]
    exact ⟨⟨c1, m1, c2, m2, c3, m3, c4, m4⟩, ⟨c5, mT⟩, ⟨c6, m7⟩, ⟨by rw [c7, m5], Or.inl m5⟩, Or.inl ⟨c8, m6⟩⟩
  · obtain ⟨⟨g1, g2, g3, g4⟩, -⟩ := cG x (by omega)
    obtain ⟨b1, b2, b3, b4⟩ := mB x (by omega)
    have i0 : (0 : Int32).toInt = 0 := by decide
    unfold gG
    rw [g1, g2, g3, g4, b1, b2, b3, b4, eD, i0]
    exact ⟨⟨rfl, by omega, by omega⟩, ⟨rfl, rfl⟩, ⟨rfl, rfl⟩, Or.inl ⟨rfl, rfl⟩, Nat.le_add_left _ _⟩
  · obtain ⟨-, gs, -⟩ := cG x (by omega)
    obtain ⟨s1, s2, s3⟩ := gs (sl3 (E / W) k) (sl3_lt _ _)
    obtain ⟨-, -, b3, b4, b5⟩ := mA (3 * x + k) (by omega)
    rw [s1, s2, s3, b3, b4, b5]
    exact ⟨⟨rfl, rfl, rfl⟩, 0, 0, 0, ⟨rfl, rfl, rfl⟩, Nat.le_refl _, Nat.le_refl _, by decide, fun _ => rfl⟩
  · refine ⟨fun h => ?_, fun h => ?_⟩
    · rw [(cU (sl3 0 k) (sl3_lt _ _)).1]
      match k, hk with
      | 0, _ => exact absurd h (by decide)
      | 1, _ => exact u1.symm
      | 2, _ => exact u2.symm
    · rw [show k = 0 by omega]; exact u0
  · obtain ⟨v1, v2⟩ := (cU (sl3 0 k) (sl3_lt _ _)).2 x hx
    obtain ⟨b1, b2, -⟩ := mA (3 * x + k) (by omega)
    rw [v1, b1, b2]
    exact ⟨⟨rfl, by decide, fun _ => rfl⟩, by decide, v2, fun z => absurd rfl z⟩
  · obtain ⟨-, -, ⟨y1, y2, y3, y4⟩, -⟩ := cG x (by omega)
    obtain ⟨b1, b2, b3⟩ := mC x (by omega)
    exact ⟨0, 0, 0, ⟨y4, y1, y2, y3⟩, ⟨b2, b1, b3⟩, ⟨Nat.le_refl _, Nat.le_refl _, by decide, by decide⟩, fun j hj => absurd hj (Nat.not_lt_zero _)⟩
  · obtain ⟨-, -, -, ⟨y1, y2, y3, y4⟩⟩ := cG x (by omega)
    obtain ⟨b1, b2, b3⟩ := mC (8 + x) (by omega)
    exact ⟨0, 0, 0, ⟨y4, y1, y2, y3⟩, ⟨b2, b1, b3⟩, ⟨Nat.le_refl _, Nat.le_refl _, by decide, by decide⟩, fun j hj => absurd hj (Nat.not_lt_zero _)⟩
  · exact ⟨0, 0, ⟨c9, c10, by decide, by decide⟩, m8, fun i hi => absurd hi (Nat.not_lt_zero _)⟩
  · have hh : ∀ o, (∀ i, i < 24 → S o i = 0) → hS S o x = 0 := fun o ho => by
      unfold hS
      rw [ho _ (by omega), ho _ (by omega), ho _ (by omega), cl0]
    rw [es x (by omega), es (8 + x) (by omega), et x (by omega), et (8 + x) (by omega), hh 144 (fun i hi => (mA i hi).2.2.1), hh 138 (fun i hi => (mA i hi).1)]
    exact ⟨Nat.zero_le _, Nat.zero_le _, Nat.le_refl _, fun i i1 i2 => by omega⟩
  · exact ⟨⟨⟨0, c11, by decide, c12, by decide, fun i q hq => by simp at hq⟩, c13, fun q hq => by simp at hq⟩, ⟨m9, by decide, fun i v hv => by simp [exR] at hv⟩, Nat.zero_le _⟩
  · exact ⟨fun w hw => by rw [cW w hw, mW w hw], fun l hl _ => ⟨(mC l hl).2.1, (mC l hl).1⟩, fun x hx _ => ⟨(cG x hx).2.2.1.2.2.2, (cG x hx).2.2.2.2.2.2⟩⟩
end FRESH

