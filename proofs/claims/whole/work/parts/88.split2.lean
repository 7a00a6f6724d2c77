/-! split: one round keeps the relation -/
section SPL
variable {X Y : T2} {P : Nat → Prop}
theorem up2_c (h : ∀ o, P o → X o = Y o) (a k : Nat) (v : Int32) : ∀ o, P o → up2 X a k v o = up2 Y a k v o := fun o ho => by
  funext i
  rw [up2_v, up2_v, h o ho]
theorem putC_c (h : ∀ o, P o → X o = Y o) (h12 : P 12) (s g n w u t : Int32) : ∀ o, P o → putC X s g n w u t o = putC Y s g n w u t o := by
  have e12 := h 12 h12
  have ep : ∀ i, plA X i = plA Y i := fun i => by unfold plA; rw [e12]
  intro o ho
  unfold putC
  rw [e12, ep]
  by_cases c : Y 12 2 < 200
  · rw [if_pos c, if_pos c]
    exact up2_c (up2_c (up2_c (up2_c (up2_c (up2_c (up2_c h _ _ _) _ _ _) _ _ _) _ _ _) _ _ _) _ _ _) _ _ _ o ho
  · rw [if_neg c, if_neg c]
    exact h o ho
theorem sndC_c (h : ∀ o, P o → X o = Y o) (h12 : P 12) {a : Nat} (ha : P a) (s : Nat) (so w n t : Int32) : ∀ o, P o → sndC X a s so w n t o = sndC Y a s so w n t o := by
  intro o ho
  unfold sndC rgC
  rw [h a ha]
  exact putC_c (up2_c (up2_c (up2_c (up2_c (up2_c h _ _ _) _ _ _) _ _ _) _ _ _) _ _ _) h12 _ _ _ _ _ _ o ho
theorem auC_c (h : ∀ o, P o → X o = Y o) (h2 : P 2) (h3 : P 3) (w n : Int32) : ∀ o, P o → auC X w n o = auC Y w n o := by
  intro o ho
  unfold auC
  rw [h 2 h2, h 3 h3]
  by_cases c : slI w (Y 2 4) = -1
  · rw [if_pos c, if_pos c]; exact h o ho
  · rw [if_neg c, if_neg c]; exact up2_c h _ _ _ o ho
theorem grC_c (h : ∀ o, P o → X o = Y o) (h2 : P 2) (h3 : P 3) (h12 : P 12) {a : Nat} (ha : P (a + 9)) (s : Nat) (w n : Int32) : ∀ o, P o → grC X a s w n o = grC Y a s w n o := by
  intro o ho
  unfold grC
  by_cases c : n ≤ 0
  · rw [if_pos c, if_pos c]; exact h o ho
  · rw [if_neg c, if_neg c]; exact sndC_c (auC_c h h2 h3 _ _) h12 ha _ _ _ _ _ o ho
theorem grF_c (h : ∀ o, P o → X o = Y o) (h2 : P 2) (h3 : P 3) (h12 : P 12) {w : Int32} {g g' s s' : Nat → Nat} : ∀ k, (∀ x, x < k → P (gP x + 9)) → (∀ x, x < k → g x = g' x) → (∀ x, x < k → s x = s' x) → ∀ o, P o → grF X w g s k o = grF Y w g' s' k o
  | 0, _, _, _ => h
  | k + 1, ha, hg, hs => by
    show ∀ o, P o → grC (grF X w g s k) (gP k) (s k) w (nI (g k)) o = grC (grF Y w g' s' k) (gP k) (s' k) w (nI (g' k)) o
    rw [hg k (by omega), hs k (by omega)]
    exact grC_c (grF_c h h2 h3 h12 k (fun x hx => ha x (by omega)) (fun x hx => hg x (by omega)) (fun x hx => hs x (by omega))) h2 h3 h12 (ha k (by omega)) _ _ _
end SPL
section SPL2
variable {m B W E G T : Nat} {C : Nat → Nat} {U : Nat → Nat → Nat} {rs : Rw} {A I : T2} {JA J : T3}
/-- the class's row of a window's wishes emptied -/
def zC (I : T2) (D k : Nat) : T2 := fun o i => if o = 4 + 1 + sl3 D k ∧ i < 8 then 0 else I o i
theorem zC_o {D k o : Nat} (h : o ≠ 4 + 1 + sl3 D k) : zC I D k o = I o := by
  funext i
  show (if o = 4 + 1 + sl3 D k ∧ i < 8 then 0 else I o i) = I o i
  rw [if_neg (fun z => h z.1)]
theorem zero_Rl {S : T2} {k : Nat} (h : Rl m B W E G T C U rs A JA I J) (hk : k < 3) (h1 : ∀ o, o ≠ 138 → o ≠ 154 → o ≠ 155 → o ≠ 157 → S o = A o) (h2 : ∀ i, S 138 i = if i % 3 = k ∧ i < 3 * G then 0 else A 138 i) : Rl m B W E G T C U rs S JA (zC I (T / W) k) J ∧ ∀ x, x < G → hS S 138 x + (A 138 (3 * x + k)).toNatClampNeg ≤ hS A 138 x := by
  obtain ⟨n1, a2, a3, a4, a5, a6, a7, a8, a9, a10⟩ := h
  have hG8 : G ≤ 8 := n1.2.2.2.2.2.1
  have hsl := sl3_lt (T / W) k
  have fa : ∀ o, ¬ (o = 138 ∨ o = 154 ∨ o = 155 ∨ o = 157) → S o = A o := fun o ho => h1 o (by omega) (by omega) (by omega) (by omega)
  have fi : ∀ o, ¬ (o = 4 + 1 + sl3 (T / W) k) → zC I (T / W) k o = I o := fun o ho => zC_o ho
  have f136 : ∀ j, ¬ (j = 24 ∧ j = 25) → S 136 j = A 136 j := fun j _ => by rw [fa 136 (by omega)]
  have z0 : ∀ z y, z < 3 → y < 8 → zC I (T / W) k (4 + 1 + sl3 (T / W) z) y = if z = k then 0 else I (4 + 1 + sl3 (T / W) z) y := fun z y hz hy => by
    show (if 4 + 1 + sl3 (T / W) z = 4 + 1 + sl3 (T / W) k ∧ y < 8 then 0 else I (4 + 1 + sl3 (T / W) z) y) = _
    by_cases c : z = k
    · rw [if_pos ⟨by rw [c], hy⟩, if_pos c]
    · rw [if_neg (fun e => c (sl3_inj (w := T / W) hz hk (by omega))), if_neg c]
  have zS : ∀ x, x < G → hS S 138 x + (A 138 (3 * x + k)).toNatClampNeg ≤ hS A 138 x := fun x hx => by
    have cl0 : (0 : Int32).toNatClampNeg = 0 := by decide
    have e : ∀ z, z < 3 → (S 138 (3 * x + z)).toNatClampNeg = if z = k then 0 else (A 138 (3 * x + z)).toNatClampNeg := fun z hz => by
      rw [h2]
      by_cases c : z = k
      · rw [if_pos (by omega), if_pos c, cl0]
      · rw [if_neg (by omega), if_neg c]
    have e0 := e 0 (by decide)
    have e1 := e 1 (by decide)
    have e2 := e 2 (by decide)
    rw [Nat.add_zero] at e0
    unfold hS
    rw [e0, e1, e2]
    match k, hk with
    | 0, _ => rw [if_pos rfl, if_neg (by decide), if_neg (by decide)]; show 0 + (A 138 (3 * x + 1)).toNatClampNeg + (A 138 (3 * x + 2)).toNatClampNeg + (A 138 (3 * x)).toNatClampNeg ≤ _; omega
    | 1, _ => rw [if_neg (by decide), if_pos rfl, if_neg (by decide)]; omega
    | 2, _ => rw [if_neg (by decide), if_neg (by decide), if_pos rfl]; omega
  refine ⟨?_, zS⟩
  generalize hR : zC I (T / W) k = R at *
  have k3 : cGts W E G T C S JA R J := cGts_x a3 (fun o _ _ => fa o (by omega)) rfl (fun y _ hy _ => fi _ (by have := gP_e y; omega)) (fun _ _ => rfl)
  have k4 : cUn (T / W) S R := cUn_x a4 (fa 137 (by omega)) (fi 3 (by omega))
  have k6 : cWys G U S R := cWys_x a6 (fa 149 (by omega)) (fa 148 (by omega)) (fa 150 (by omega)) (fa 147 (by omega)) (fun y _ hy _ _ => fi _ (by have := gP_e y; omega))
  have k7 : cPl G U (sN S) (tN S) S R := by
    have es : sN S = sN A := by funext l; unfold sN; rw [fa 149 (by omega)]
    have et : tN S = tN A := by funext l; unfold tN; rw [fa 150 (by omega)]
    rw [es, et]
    exact cPl_x a7 (f136 24 (by omega)) (fa 151 (by omega)) (fi 12 (by omega)) (fi 13 (by omega)) (fun _ => Nat.le_refl _) (fun _ => Nat.le_refl _) (fun _ _ _ _ => rfl)
  have k9 : cAd m rs S JA R J := cAd_x a9 (Nat.le_refl _) (f136 27 (by omega)) rfl (fi 19 (by omega)) (fi 21 (by omega)) rfl
  have k10 : cUs G S R := cUs_x a10 (fa 152 (by omega)) (fi 22 (by omega)) (fun l _ _ => by rw [fa 149 (by omega), fa 148 (by omega)]; exact ⟨rfl, rfl⟩) (fun y hy hg => ⟨fi _ (by have := gP_e y; omega), fi _ (by have := gP_e y; omega)⟩)
  have k2 : cSc B W E G T S JA R J := cSc_x a2 (fun j _ _ => f136 j (by omega)) rfl (fi 0 (by omega)) (fun j _ _ => by rw [fi 2 (by omega)]) rfl (fun i _ z => by
    rw [h2]
    by_cases c : i % 3 = k ∧ i < 3 * G
    · rw [if_pos c]
    · rw [if_neg c]; exact z)
  have k5 : cWa (T / W) G S R := by
    intro y hy z hz
    obtain ⟨⟨d1, d2, d3⟩, d4, d5, d6⟩ := a5 y hy z hz
    have hz3 := sl3_lt (T / W) z
    rw [z0 z y hz hy, fi (8 + 1 + sl3 (T / W) z) (by omega), fa 139 (by omega), h2]
    by_cases c : z = k
    · rw [if_pos c]
      have e : (if (3 * y + z) % 3 = k ∧ 3 * y + z < 3 * G then (0 : Int32) else A 138 (3 * y + z)) = 0 := by
        by_cases c2 : y < G
        · rw [if_pos (by omega)]
        · rw [if_neg (by omega)]; exact d3 (by omega)
      rw [e]
      exact ⟨⟨rfl, by decide, fun _ => rfl⟩, d4, d5, fun z => absurd rfl z⟩
    · rw [if_neg c, if_neg (by omega)]
      exact ⟨⟨d1, d2, d3⟩, d4, d5, d6⟩
  have k8 : cBd m G U S := by
    intro y hy
    obtain ⟨b1', b2', b3', b4'⟩ := a8 y hy
    have es : sN S = sN A := by funext l; unfold sN; rw [fa 149 (by omega)]
    have et : tN S = tN A := by funext l; unfold tN; rw [fa 150 (by omega)]
    have e1 : hS S 144 y = hS A 144 y := by unfold hS; rw [fa 144 (by omega)]
    have := zS y hy
    rw [es, et, e1]
    exact ⟨b1', b2', by omega, b4'⟩
  exact ⟨n1, k2, k3, k4, k5, k6, k7, k8, k9, k10⟩
/-- what each gets is the same -/
theorem gt_eq {k : Nat} (h : Rl m B W E G T C U rs A JA I J) (hk : k < 3) (hD : 1 ≤ T / W + k) : ∀ y, y < G → gtC I (sl3 (T / W) k) G y = gtM A k G y ∧ gtM A k G y ≤ duM A k y := by
  obtain ⟨n1, a2, a3, a4, a5, a6, a7, a8, a9, a10⟩ := h
  have hG8 : G ≤ 8 := n1.2.2.2.2.2.1
  have hsl := sl3_lt (T / W) k
  have e3 := (a4 k hk).1 hD
  have e25 : I 2 5 = A 136 6 := a2.2.2.2.1.1
  have du : ∀ y, y < G → duC I (sl3 (T / W) k) G y = duM A k y ∧ (0 < duC I (sl3 (T / W) k) G y → usC I (sl3 (T / W) k) G y = uM A k y) := fun y hy => by
    have eo := Wy_open (a6 y hy).2
    obtain ⟨⟨d1, d2, d3⟩, d4, d5, d6⟩ := a5 y (by omega) k hk
    have esh : shC I (gP y + 9) = if A 148 (8 + y) < 50 then 0 else 1 := by unfold shC; rw [eo]
    by_cases c : A 148 (8 + y) < 50
    · have s0 : shC I (gP y + 9) = 0 := by rw [esh, if_pos c]
      have q1 : duC I (sl3 (T / W) k) G y = (I (4 + 1 + sl3 (T / W) k) y).toNatClampNeg := if_pos ⟨hy, s0⟩
      have q2 : duM A k y = (A 138 (3 * y + k)).toNatClampNeg := if_pos c
      have q3 : usC I (sl3 (T / W) k) G y = (I (8 + 1 + sl3 (T / W) k) y).toNatClampNeg := if_pos ⟨hy, s0⟩
      rw [q1, q2, q3, d1]
      refine ⟨rfl, fun z => ?_⟩
      rw [d6 (fun q => by rw [q] at z; exact absurd z (by decide))]
      rfl
    · have s0 : ¬ shC I (gP y + 9) = 0 := by rw [esh, if_neg c]; decide
      have q1 : duC I (sl3 (T / W) k) G y = 0 := if_neg (fun z => s0 z.2)
      have q2 : duM A k y = 0 := if_neg c
      rw [q1, q2]
      exact ⟨rfl, fun z => absurd z (Nat.lt_irrefl _)⟩
  have du0 : ∀ y, G ≤ y → y < 8 → ¬ (0 : Nat) < duC I (sl3 (T / W) k) G y := fun y hy _ => by
    unfold duC
    rw [if_neg (fun z => by omega)]
    exact Nat.lt_irrefl _
  intro y hy
  unfold gtC gtM
  rw [e3, e25]
  by_cases c : A 137 k ≤ 0
  · rw [if_pos c, if_pos c]
    exact ⟨rfl, Nat.zero_le _⟩
  · rw [if_neg c, if_neg c]
    by_cases c2 : A 136 6 = 2
    · rw [if_pos c2, if_pos c2]
      exact ⟨(by_ext hG8 (fun z hz => ⟨(du z hz).2, (du z hz).1⟩) (fun _ _ => rfl) (fun _ _ => Nat.zero_le _) du0).1 y hy, (by_le (fun _ _ => Nat.zero_le _)).2 y hy⟩
    · rw [if_neg c2, if_neg c2]
      exact ⟨(eq_ext hG8 (fun z hz => (du z hz).1) (fun _ _ => rfl) du0).1 y hy, (eq_le (fun _ _ => Nat.zero_le _)).2.1 y hy⟩
/-- the grants of a round -/
theorem grants_Rl {k : Nat} {g s : Nat → Nat} {w : Int32} (h : Rl m B W E G T C U rs A JA I J) (hk : k < 3) (hD : 1 ≤ T / W + k) (hw : w = nI (T / W + k - 1)) (hsl : ∀ y, y < G → s y = sN A (8 + y) ∧ g y < 2 ^ 31 ∧ (0 < g y → A 148 (8 + y) < 50) ∧ ps U y (sN A (8 + y)) + hS A 138 y + g y ≤ 1000000 * tN A y) : ∀ x, x ≤ G → ∃ U', Rl m B W E G T C U' rs (sgM A k g x) JA (grF I w g s x) J ∧ ∀ y, x ≤ y → y < G → sN (sgM A k g x) (8 + y) = sN A (8 + y) ∧ ps U' y (sN A (8 + y)) = ps U y (sN A (8 + y))
  | 0, _ => ⟨U, h, fun _ _ _ => ⟨rfl, rfl⟩⟩
  | x + 1, hx => by
    obtain ⟨U', h1, h2⟩ := grants_Rl h hk hD hw hsl x (by omega)
    obtain ⟨p1, p2, p3, p4⟩ := hsl x (by omega)
    have n1 := h1.1
    have hG8 : G ≤ 8 := n1.2.2.2.2.2.1
    have hT : T / W < 2 ^ 30 := nB_c n1 (Nat.le_add_right _ _)
    obtain ⟨-, -, ⟨c3, c4⟩, -⟩ := h1.2.1
    show ∃ U', Rl m B W E G T C U' rs (if g x = 0 then sgM A k g x else sM (up2 (sgM A k g x) 137 k (sgM A k g x 137 k - nI (g x))) (8 + x) 2 (nI x) (sgM A k g x 136 8 - 1 + nI k) (nI (g x)) 0) JA (grC (grF I w g s x) (gP x) (s x) w (nI (g x))) J ∧ ∀ y, x + 1 ≤ y → y < G → sN (if g x = 0 then sgM A k g x else sM (up2 (sgM A k g x) 137 k (sgM A k g x 137 k - nI (g x))) (8 + x) 2 (nI x) (sgM A k g x 136 8 - 1 + nI k) (nI (g x)) 0) (8 + y) = sN A (8 + y) ∧ ps U' y (sN A (8 + y)) = ps U y (sN A (8 + y))
    unfold grC
    by_cases c : g x = 0
    · rw [if_pos c, if_pos (by rw [c]; decide)]
      exact ⟨U', h1, fun y y1 y2 => h2 y (by omega) y2⟩
    · have ew : sgM A k g x 136 8 - 1 + nI k = w := by
        rw [c4, hw]
        rw [iI_nI, iI_nI k, iI_1, iI_sub, iI_add, iI_nI (T / W + k - 1)]
        congr 1
        omega
      obtain ⟨s1, s2⟩ := wx_k hT hk hD
      rw [← hw] at s1 s2
      rw [if_neg c, if_neg (nI_nle (by omega) p2), ew, p1]
      have e1 : up2 (sgM A k g x) 137 k (sgM A k g x 137 k - nI (g x)) = unM (sgM A k g x) w (-(nI (g x))) := by
        unfold unM
        rw [c4, s2, if_neg (rE_ne (by omega)), nI_clamp (by omega), Int32.sub_eq_add_neg]
      rw [e1]
      have q1 := unit_Rl (w := w) (u := -(nI (g x))) h1
      have u0 : ∀ o, o ≠ 137 → unM (sgM A k g x) w (-(nI (g x))) o = sgM A k g x o := fun o ho => unM_o ho
      have es : sN (unM (sgM A k g x) w (-(nI (g x)))) = sN (sgM A k g x) := by funext l; unfold sN; rw [u0 149 (by decide)]
      have et : tN (unM (sgM A k g x) w (-(nI (g x)))) = tN A := by funext l; unfold tN; rw [u0 150 (by decide), sgM_o (by decide) (by decide) (by decide) (by decide) (by decide) (by decide)]
      have eh : hS (unM (sgM A k g x) w (-(nI (g x)))) 138 x = hS A 138 x := by unfold hS; rw [u0 138 (by decide), sgM_o (by decide) (by decide) (by decide) (by decide) (by decide) (by decide)]
      have hsx := (h2 x (Nat.le_refl _) (by omega)).1
      have hpx := (h2 x (Nat.le_refl _) (by omega)).2
      have q2 := grant_Rl (x := x) (w := w) (g := g x) (s := sN A (8 + x)) q1 (by omega) (by rw [es]; exact hsx) (by rw [u0 148 (by decide), (sgM_l (I := A) (k := k) (g := g) (y := x) x (Nat.le_refl _)).1]; exact p3 (by omega)) (by omega) (by rw [eh, et, hpx]; omega)
      refine ⟨_, q2, fun y y1 y2 => ⟨?_, ?_⟩⟩
      · unfold sN
        rw [sM_149 (by omega), u0 149 (by decide)]
        exact (h2 y (by omega) y2).1
      · rw [← (h2 y (by omega) y2).2]
        exact ps_ext fun i i1 i2 => if_neg (by omega)
/-- one round of the reference, and what the class's state would be -/
def rX (A X : T2) (D k G : Nat) : T2 := grF (zC X D k) (nI (D + k - 1)) (gtM A k G) (fun y => sN A (8 + y)) G
theorem grF_z {w : Int32} {g s : Nat → Nat} (hg : ∀ x, g x = 0) : ∀ x, grF I w g s x = I
  | 0 => rfl
  | x + 1 => by
    show grC (grF I w g s x) (gP x) (s x) w (nI (g x)) = I
    unfold grC
    rw [if_pos (by rw [hg]; decide), grF_z hg x]
theorem sgM_z {k : Nat} {g : Nat → Nat} (hg : ∀ x, g x = 0) : ∀ x, sgM A k g x = A
  | 0 => rfl
  | x + 1 => by
    show (if g x = 0 then sgM A k g x else _) = A
    rw [if_pos (hg x), sgM_z hg x]
theorem round_Rl {S : T2} {J1 J2 : T3} {k : Nat} (h : Rl m B W E G T C U rs A JA I J) (hk : k < 3) (hr : rdM A J1 k G S J2) : ∃ U', Rl m B W E G T C U' rs S JA (rX A I (T / W) k G) J := by
  obtain ⟨-, I2, r1, r2, rfl⟩ := hr
  obtain ⟨q1, q2⟩ := zero_Rl h hk r1 r2
  by_cases c : 1 ≤ T / W + k
  · have es : sN I2 = sN A := by funext l; unfold sN; rw [r1 149 (by decide) (by decide) (by decide) (by decide)]
    have et : tN I2 = tN A := by funext l; unfold tN; rw [r1 150 (by decide) (by decide) (by decide) (by decide)]
    have ge := gt_eq h hk c
    obtain ⟨U', h1, -⟩ := grants_Rl (g := gtM A k G) (s := fun y => sN A (8 + y)) q1 hk c rfl (fun y hy => by
      have g1 := (ge y hy).2
      have g2 := duM_l (I := A) k y
      have b3 := (h.2.2.2.2.2.2.2.1 y hy).2.2.1
      have z := q2 y hy
      rw [es, et, r1 148 (by decide) (by decide) (by decide) (by decide)]
      have g3 : duM A k y ≤ (A 138 (3 * y + k)).toNatClampNeg := by
        unfold duM
        by_cases d : A 148 (8 + y) < 50
        · rw [if_pos d]; exact Nat.le_refl _
        · rw [if_neg d]; exact Nat.zero_le _
      refine ⟨rfl, by omega, fun gp => ?_, by omega⟩
      by_cases d : A 148 (8 + y) < 50
      · exact d
      · have : duM A k y = 0 := if_neg d
        omega) G (Nat.le_refl _)
    exact ⟨U', h1⟩
  · have z0 : A 137 k = 0 := (h.2.2.2.1 k hk).2 (Nat.le_zero.mp (Nat.le_of_lt_succ (Nat.lt_of_not_le c)))
    have eg : ∀ x, gtM A k G x = 0 := fun x => by unfold gtM; rw [z0, if_pos (by decide)]
    unfold rX
    rw [grF_z eg, sgM_z eg]
    exact ⟨U, q1⟩
end SPL2

