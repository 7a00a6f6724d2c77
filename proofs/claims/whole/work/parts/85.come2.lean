/-! letters that come: pleas and grants -/
section COME2
variable {m B W E G T : Nat} {C : Nat → Nat} {U : Nat → Nat → Nat} {rs : Rw} {A I : T2} {JA J : T3}
theorem cl_nn {w : Int32} (h : ¬ w < 0) : w = nI w.toNatClampNeg := cl_ge h
/-- a wish is written down -/
theorem wish_Rl {x q k : Nat} {t : Int32} (h : Rl m B W E G T C U rs A JA I J) (hx : x < G) (hk : k < 3) (ht : ¬ t < 0) (hu : A 136 7 = 0) (hs : ps U x (sN A (8 + x)) + hS A 138 x + q ≤ 1000000 * tN A x) : Rl m B W E G T C U rs (up2 (up2 A 138 (3 * x + k) (A 138 (3 * x + k) + nI q)) 139 (3 * x + k) t) JA (up2 (up2 I (4 + 1 + sl3 (T / W) k) x (I (4 + 1 + sl3 (T / W) k) x + nI q)) (8 + 1 + sl3 (T / W) k) x t) J := by
  obtain ⟨n1, a2, a3, a4, a5, a6, a7, a8, a9, a10⟩ := id h
  have hG8 : G ≤ 8 := n1.2.2.2.2.2.1
  have hsl := sl3_lt (T / W) k
  obtain ⟨⟨w1, w2, w3⟩, w4, w5, w6⟩ := a5 x (by omega) k hk
  rw [w1]
  have ev := cl_nn w2
  have hv := hS_3 (A := A) (o := 138) (x := x) k hk
  generalize hvv : (A 138 (3 * x + k)).toNatClampNeg = v at *
  obtain ⟨s', r', z0, z1, z2, z3, z4, -⟩ := Wy_ex (a6 x hx).1
  have b1 := (a8 x hx).1
  have hm : m ≤ 512 := n1.2.2.2.2.2.2.2.2
  have big : v + q < 2 ^ 30 := by
    have : 1000000 * tN A x ≤ 1000000 * 512 := Nat.mul_le_mul_left _ (by omega)
    omega
  rw [ev, nI_add]
  have fa : ∀ o, ¬ (o = 138 ∨ o = 139) → up2 (up2 A 138 (3 * x + k) (nI (v + q))) 139 (3 * x + k) t o = A o := fun o ho => by rw [up2_ne _ _ _ (by omega), up2_ne _ _ _ (by omega)]
  have fi : ∀ o, ¬ (o = 4 + 1 + sl3 (T / W) k ∨ o = 8 + 1 + sl3 (T / W) k) → up2 (up2 I (4 + 1 + sl3 (T / W) k) x (nI (v + q))) (8 + 1 + sl3 (T / W) k) x t o = I o := fun o ho => by rw [up2_ne _ _ _ (by omega), up2_ne _ _ _ (by omega)]
  have f136 : ∀ j, ¬ (j = 24 ∧ j = 25) → up2 (up2 A 138 (3 * x + k) (nI (v + q))) 139 (3 * x + k) t 136 j = A 136 j := fun j _ => by rw [fa 136 (by omega)]
  have v138 : ∀ z, up2 (up2 A 138 (3 * x + k) (nI (v + q))) 139 (3 * x + k) t 138 z = if z = 3 * x + k then nI (v + q) else A 138 z := fun z => by
    rw [up2_ne _ _ _ (by decide), up2_v]
    by_cases c : z = 3 * x + k
    · rw [if_pos ⟨rfl, c⟩, if_pos c]
    · rw [if_neg (fun y => c y.2), if_neg c]
  have v139 : ∀ z, up2 (up2 A 138 (3 * x + k) (nI (v + q))) 139 (3 * x + k) t 139 z = if z = 3 * x + k then t else A 139 z := fun z => by
    rw [up2_v, up2_ne _ _ _ (by decide)]
    by_cases c : z = 3 * x + k
    · rw [if_pos ⟨rfl, c⟩, if_pos c]
    · rw [if_neg (fun y => c y.2), if_neg c]
  have r5 : ∀ z y, z < 3 → up2 (up2 I (4 + 1 + sl3 (T / W) k) x (nI (v + q))) (8 + 1 + sl3 (T / W) k) x t (4 + 1 + sl3 (T / W) z) y = if z = k ∧ y = x then nI (v + q) else I (4 + 1 + sl3 (T / W) z) y := fun z y hz => by
    have hz3 := sl3_lt (T / W) z
    rw [up2_ne _ _ _ (by omega), up2_v]
    by_cases c : z = k ∧ y = x
    · rw [if_pos ⟨by rw [c.1], c.2⟩, if_pos c]
    · rw [if_neg (fun e => c ⟨sl3_inj (w := T / W) hz hk (by omega), e.2⟩), if_neg c]
  have r9 : ∀ z y, z < 3 → up2 (up2 I (4 + 1 + sl3 (T / W) k) x (nI (v + q))) (8 + 1 + sl3 (T / W) k) x t (8 + 1 + sl3 (T / W) z) y = if z = k ∧ y = x then t else I (8 + 1 + sl3 (T / W) z) y := fun z y hz => by
    have hz3 := sl3_lt (T / W) z
    rw [up2_v, up2_ne _ _ _ (by omega)]
    by_cases c : z = k ∧ y = x
    · rw [if_pos ⟨by rw [c.1], c.2⟩, if_pos c]
    · rw [if_neg (fun e => c ⟨sl3_inj (w := T / W) hz hk (by omega), e.2⟩), if_neg c]
  generalize up2 (up2 A 138 (3 * x + k) (nI (v + q))) 139 (3 * x + k) t = S at *
  generalize up2 (up2 I (4 + 1 + sl3 (T / W) k) x (nI (v + q))) (8 + 1 + sl3 (T / W) k) x t = R at *
  have k3 : cGts W E G T C S JA R J := cGts_x a3 (fun o _ _ => fa o (by omega)) rfl (fun y _ hy _ => fi _ (by have := gP_e y; omega)) (fun _ _ => rfl)
  have k4 : cUn (T / W) S R := cUn_x a4 (fa 137 (by omega)) (fi 3 (by omega))
  have k6 : cWys G U S R := cWys_x a6 (fa 149 (by omega)) (fa 148 (by omega)) (fa 150 (by omega)) (fa 147 (by omega)) (fun y _ hy _ _ => fi _ (by have := gP_e y; omega))
  have k7 : cPl G U (sN S) (tN S) S R := by
    have es : sN S = sN A := by funext l; unfold sN; rw [fa 149 (by omega)]
    have et : tN S = tN A := by funext l; unfold tN; rw [fa 150 (by omega)]
    rw [es, et]
    exact cPl_x a7 (f136 24 (by omega)) (fa 151 (by omega)) (fi 12 (by omega)) (fi 13 (by omega)) (fun _ => Nat.le_refl _) (fun _ => Nat.le_refl _) (fun _ _ _ _ => rfl)
  have k9 : cAd m rs S JA R J := cAd_x a9 (Nat.le_refl _) (f136 27 (by omega)) rfl (fi 19 (by omega)) (fi 21 (by omega)) rfl
  have k10 : cUs G S R := cUs_x a10 (fa 152 (by omega)) (fi 22 (by omega)) (fun l _ _ => by rw [fa 149 (by omega), fa 148 (by omega)]; exact ⟨rfl, rfl⟩) (fun y hy hg => ⟨fi _ (by have := gP_e y; omega), fi _ (by have := gP_e y; omega)⟩)
  have k2 : cSc B W E G T S JA R J := by
    obtain ⟨q1, q2, q3, q4, q5⟩ := id a2
    unfold cSc
    rw [fa 136 (by omega), fi 2 (by omega), fi 0 (by omega)]
    refine ⟨q1, q2, q3, q4, ?_⟩
    rcases q5 with q5 | q5
    · exact Or.inl q5
    · exact absurd (q5.2.1.symm.trans hu) (by decide)
  have k5 : cWa (T / W) G S R := by
    intro y hy z hz
    obtain ⟨⟨d1, d2, d3⟩, d4, d5, d6⟩ := a5 y hy z hz
    rw [r5 z y hz, r9 z y hz, v138, v139]
    by_cases c : z = k ∧ y = x
    · rw [if_pos c, if_pos c, if_pos (by omega), if_pos (by omega)]
      exact ⟨⟨rfl, nI_pos (by omega), fun g => by omega⟩, ht, ht, fun _ => rfl⟩
    · rw [if_neg c, if_neg c, if_neg (by omega), if_neg (by omega)]
      exact ⟨⟨d1, d2, d3⟩, d4, d5, d6⟩
  have k8 : cBd m G U S := by
    intro y hy
    obtain ⟨b1', b2', b3', b4'⟩ := a8 y hy
    have es : sN S = sN A := by funext l; unfold sN; rw [fa 149 (by omega)]
    have et : tN S = tN A := by funext l; unfold tN; rw [fa 150 (by omega)]
    have e1 : hS S 144 y = hS A 144 y := by unfold hS; rw [fa 144 (by omega)]
    rw [es, et, e1]
    refine ⟨b1', b2', ?_, b4'⟩
    by_cases c : y = x
    · subst c
      have eh : hS S 138 y ≤ hS A 138 y + q := by
        have hz : ∀ z, z < 3 → (S 138 (3 * y + z)).toNatClampNeg = if z = k then v + q else (A 138 (3 * y + z)).toNatClampNeg := fun z hz => by
          rw [v138]
          by_cases c2 : z = k
          · rw [if_pos c2, if_pos (by omega), nI_clamp (by omega)]
          · rw [if_neg c2, if_neg (by omega)]
        have h0 := hz 0 (by decide)
        have h1 := hz 1 (by decide)
        have h2 := hz 2 (by decide)
        unfold hS
        rw [Nat.add_zero] at h0
        rw [h0, h1, h2]
        match k, hk with
        | 0, _ => rw [if_pos rfl, if_neg (by decide), if_neg (by decide)]; rw [Nat.add_zero] at hvv; omega
        | 1, _ => rw [if_neg (by decide), if_pos rfl, if_neg (by decide)]; omega
        | 2, _ => rw [if_neg (by decide), if_neg (by decide), if_pos rfl]; omega
      omega
    · have eh : hS S 138 y ≤ hS A 138 y := hS_le fun z hz => by rw [v138, if_neg (by omega)]; exact Nat.le_refl _
      omega
  exact ⟨n1, k2, k3, k4, k5, k6, k7, k8, k9, k10⟩
theorem ps_ge {x : Nat} : ∀ {n : Nat}, (∀ i, 1 ≤ i → i ≤ n → 1 ≤ U x i) → n ≤ ps U x n
  | 0, _ => Nat.zero_le _
  | n + 1, h => by
    have ih := ps_ge (x := x) (n := n) (fun i i1 i2 => h i i1 (by omega))
    have e : ps U x (n + 1) = ps U x n + U x (n + 1) := rfl
    have := h (n + 1) (by omega) (Nat.le_refl _)
    omega
theorem ps_ext {U' : Nat → Nat → Nat} {x n : Nat} (h : ∀ i, 1 ≤ i → i ≤ n → U' x i = U x i) : ps U' x n = ps U x n := sF_congr fun y hy => h (y + 1) (by omega) (by omega)
/-- a grant goes out -/
theorem grant_Rl {x g s : Nat} {w : Int32} (h : Rl m B W E G T C U rs A JA I J) (hx : x < G) (hs0 : sN A (8 + x) = s) (ho : A 148 (8 + x) < 50) (hg : 1 ≤ g) (hs : ps U x s + hS A 138 x + g ≤ 1000000 * tN A x) : Rl m B W E G T C (fun y i => if y = x ∧ i = s + 1 then g else U y i) rs (sM A (8 + x) 2 (nI x) w (nI g) 0) JA (sndC I (gP x + 9) s 2 w (nI g) 0) J := by
  obtain ⟨n1, a2, a3, a4, a5, a6, a7, a8, a9, a10⟩ := id h
  have hG8 : G ≤ 8 := n1.2.2.2.2.2.1
  have gx := gP_e x
  obtain ⟨b1, b2, b3, b4⟩ := a8 x hx
  rw [hs0] at b4 b3
  obtain ⟨s', r', z0, z1, z2, z3, z4, -⟩ := Wy_ex (a6 x hx).1
  obtain ⟨s'', r'', z0', z1', z2', z3', z4', -⟩ := Wy_ex (a6 x hx).2
  have hm : m ≤ 512 := n1.2.2.2.2.2.2.2.2
  have p1 := ps_ge b4
  have big : s + 1 < 2 ^ 30 := by
    have : 1000000 * tN A x ≤ 1000000 * 512 := Nat.mul_le_mul_left _ (by omega)
    omega
  obtain ⟨r1, r2, r3, r4⟩ := snd_rel (U' := fun y i => if y = x ∧ i = s + 1 then g else U y i) (x := x) (l := 8 + x) (a := gP x + 9) (s := s) (so := 2) (w := w) (u := nI g) (t := 0) hG8 hx (Or.inr ⟨rfl, rfl⟩) a6 a7 hs0 ho (fun y i hy hi => if_neg (fun z => by rw [z.1, hs0] at hi; omega)) big ⟨x, hx, rfl, Or.inr (Or.inr (Or.inl ⟨rfl, s + 1, by omega, Nat.le_of_eq (if_pos rfl).symm, rfl, by show nI g = nI (if x = x ∧ s + 1 = s + 1 then g else U x (s + 1)); rw [if_pos ⟨rfl, rfl⟩]⟩))⟩
  have fa : ∀ o, ¬ (o = 136 ∨ o = 147 ∨ o = 148 ∨ o = 149 ∨ o = 151) → sM A (8 + x) 2 (nI x) w (nI g) 0 o = A o := fun o ho => sM_o (by omega) (by omega) (by omega) (by omega) (by omega)
  have fi : ∀ o, ¬ (o = 12 ∨ o = 13 ∨ (gP x + 9 ≤ o ∧ o ≤ gP x + 13)) → sndC I (gP x + 9) s 2 w (nI g) 0 o = I o := fun o ho => sndC_o (by omega) (by omega) (by omega) (by omega) (by omega) (by omega) (by omega)
  have f136 : ∀ j, ¬ (j = 24) → sM A (8 + x) 2 (nI x) w (nI g) 0 136 j = A 136 j := fun j hj => sM_k hj
  have eln : ∀ l, l ≠ 8 + x → sM A (8 + x) 2 (nI x) w (nI g) 0 149 l = A 149 l ∧ sM A (8 + x) 2 (nI x) w (nI g) 0 148 l = A 148 l := fun l hl => ⟨sM_149 hl, sM_148 hl⟩
  generalize sM A (8 + x) 2 (nI x) w (nI g) 0 = S at *
  generalize sndC I (gP x + 9) s 2 w (nI g) 0 = R at *
  have k2 : cSc B W E G T S JA R J := cSc_x a2 (fun j _ _ => f136 j (by omega)) rfl (fi 0 (by omega)) (fun j _ _ => by rw [fi 2 (by omega)]) rfl (fun i _ z => by rw [fa 138 (by omega)]; exact z)
  have k3 : cGts W E G T C S JA R J := cGts_x a3 (fun o _ _ => fa o (by omega)) rfl (fun y _ hy _ => fi _ (by have := gP_e y; omega)) (fun _ _ => rfl)
  have k4 : cUn (T / W) S R := cUn_x a4 (fa 137 (by omega)) (fi 3 (by omega))
  have k5 : cWa (T / W) G S R := cWa_x a5 (fa 138 (by omega)) (fa 139 (by omega)) (fun o _ _ _ => fi o (by omega))
  have k9 : cAd m rs S JA R J := cAd_x a9 (Nat.le_refl _) (f136 27 (by omega)) rfl (fi 19 (by omega)) (fi 21 (by omega)) rfl
  have k10 : cUs G S R := cUs_x a10 (fa 152 (by omega)) (fi 22 (by omega)) (fun l _ hg => eln l (by omega)) (fun y hy hg => ⟨fi _ (by have := gP_e y; omega), fi _ (by have := gP_e y; omega)⟩)
  have k8 : cBd m G (fun y i => if y = x ∧ i = s + 1 then g else U y i) S := by
    intro y hy
    obtain ⟨b1', b2', b3', b4'⟩ := a8 y hy
    have e1 : hS S 144 y = hS A 144 y := by unfold hS; rw [fa 144 (by omega)]
    have e2 : hS S 138 y = hS A 138 y := by unfold hS; rw [fa 138 (by omega)]
    have e3 : sN S y = sN A y := by rw [r3]; exact if_neg (by omega)
    rw [r4, e1, e2, e3]
    by_cases c : y = x
    · subst c
      have e4 : sN S (8 + y) = s + 1 := by rw [r3]; exact if_pos rfl
      have e5 : ps (fun z i => if z = y ∧ i = s + 1 then g else U z i) y (tN A (8 + y)) = ps U y (tN A (8 + y)) := ps_ext fun i i1 i2 => if_neg (by omega)
      have e6 : ps (fun z i => if z = y ∧ i = s + 1 then g else U z i) y (s + 1) = ps U y s + g := by
        show ps (fun z i => if z = y ∧ i = s + 1 then g else U z i) y s + (if y = y ∧ s + 1 = s + 1 then g else U y (s + 1)) = _
        rw [ps_ext (U := U) (fun i i1 i2 => if_neg (by omega)), if_pos ⟨rfl, rfl⟩]
      rw [e4, e5, e6]
      refine ⟨b1', b2', by omega, fun i i1 i2 => ?_⟩
      show 1 ≤ (if y = y ∧ i = s + 1 then g else U y i)
      by_cases c2 : i = s + 1
      · rw [if_pos ⟨rfl, c2⟩]; exact hg
      · rw [if_neg (fun z => c2 z.2)]; exact b4' i i1 (by omega)
    · have e4 : sN S (8 + y) = sN A (8 + y) := by rw [r3]; exact if_neg (by omega)
      have e5 : ∀ n, ps (fun z i => if z = x ∧ i = s + 1 then g else U z i) y n = ps U y n := fun n => ps_ext fun i i1 i2 => if_neg (fun z => c z.1)
      rw [e4, e5, e5]
      refine ⟨b1', b2', b3', fun i i1 i2 => ?_⟩
      show 1 ≤ (if y = x ∧ i = s + 1 then g else U y i)
      rw [if_neg (fun z => c z.1)]; exact b4' i i1 i2
  exact ⟨n1, k2, k3, k4, k5, r1, r2, k8, k9, k10⟩
end COME2

