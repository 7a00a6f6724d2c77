/-! letters that come: the steps -/
section COME
variable {m B W E G T : Nat} {C : Nat → Nat} {U : Nat → Nat → Nat} {rs : Rw} {A I : T2} {JA J : T3}
/-- a letter taken -/
theorem take_Rl {x l a i : Nat} (h : Rl m B W E G T C U rs A JA I J) (hx : x < G) (hla : (l = x ∧ a = gP x + 4) ∨ (l = 8 + x ∧ a = gP x + 9)) (hi : nI i = A 150 l + 1) (his : i ≤ sN A l) : i = tN A l + 1 ∧ Rl m B W E G T C U rs (tkM A l) JA (up2 I a 7 (nI i)) J ∧ sN (tkM A l) = sN A ∧ tN (tkM A l) = fun l' => if l' = l then i else tN A l' := by
  obtain ⟨n1, a2, a3, a4, a5, a6, a7, a8, a9, a10⟩ := h
  have hG8 : G ≤ 8 := n1.2.2.2.2.2.1
  have gx := gP_e x
  obtain ⟨r1, r2, r3, r4, r5⟩ := tk_rel hG8 hx hla a6 a7 hi his
  have fa : ∀ o, ¬ (o = 150) → tkM A l o = A o := fun o ho => tkM_o ho
  have fi : ∀ o, ¬ (o = a) → up2 I a 7 (nI i) o = I o := fun o ho => up2_ne _ _ _ ho
  have f136 : ∀ j, ¬ (j = 24 ∧ j = 25) → tkM A l 136 j = A 136 j := fun j _ => by rw [fa 136 (by omega)]
  refine ⟨r1, ?_, r4, r5⟩
  generalize tkM A l = S at *
  generalize up2 I a 7 (nI i) = R at *
  have hne : ∀ y j, y < G → j < 4 → ¬ (gP y + j = a) := fun y j hy hj => by have := gP_e y; omega
  have k2 : cSc B W E G T S JA R J := cSc_x a2 (fun j _ _ => f136 j (by omega)) rfl (fi 0 (by omega)) (fun j _ _ => by rw [fi 2 (by omega)]) rfl (fun i _ z => by rw [fa 138 (by omega)]; exact z)
  have k4 : cUn (T / W) S R := cUn_x a4 (fa 137 (by omega)) (fi 3 (by omega))
  have k5 : cWa (T / W) G S R := cWa_x a5 (fa 138 (by omega)) (fa 139 (by omega)) (fun o _ _ _ => fi o (by omega))
  have k9 : cAd m rs S JA R J := cAd_x a9 (Nat.le_refl _) (f136 27 (by omega)) rfl (fi 19 (by omega)) (fi 21 (by omega)) rfl
  have k10 : cUs G S R := cUs_x a10 (fa 152 (by omega)) (fi 22 (by omega)) (fun l _ _ => by rw [fa 149 (by omega), fa 148 (by omega)]; exact ⟨rfl, rfl⟩) (fun y hy hg => ⟨fi _ (by have := gP_e y; omega), fi _ (by have := gP_e y; omega)⟩)
  have k3 : cGts W E G T C S JA R J := cGts_x a3 (fun o _ _ => fa o (by omega)) rfl (fun y j hy hj => fi _ (hne y j hy hj)) (fun _ _ => rfl)
  have k8 : cBd m G U S := by
    intro y hy
    obtain ⟨b1, b2, b3, b4⟩ := a8 y hy
    have e1 : hS S 144 y = hS A 144 y := by unfold hS; rw [fa 144 (by omega)]
    have e2 : hS S 138 y = hS A 138 y := by unfold hS; rw [fa 138 (by omega)]
    have tl : ∀ l', tN A l' ≤ tN S l' := fun l' => by
      rw [r5]
      show tN A l' ≤ (if l' = l then i else tN A l')
      by_cases c : l' = l
      · rw [if_pos c, c]; omega
      · rw [if_neg c]; exact Nat.le_refl _
    have t1 := tl y
    have t2 : ps U y (tN A (8 + y)) ≤ ps U y (tN S (8 + y)) := sF_mono (tl (8 + y))
    rw [r4, e1, e2]
    exact ⟨b1, Nat.le_trans b2 t2, Nat.le_trans b3 (Nat.mul_le_mul_left _ t1), b4⟩
  exact ⟨n1, k2, k3, k4, k5, r2, r3, k8, k9, k10⟩
/-- a receipt put into the pool -/
theorem rcp_Rl {x l a : Nat} {so : Int32} (h : Rl m B W E G T C U rs A JA I J) (hx : x < G) (hla : (l = x ∧ a = gP x + 4 ∧ so = 3) ∨ (l = 8 + x ∧ a = gP x + 9 ∧ so = 4)) : Rl m B W E G T C U rs (rcpM A l x so) JA (rpC I a so) J := by
  obtain ⟨n1, a2, a3, a4, a5, a6, a7, a8, a9, a10⟩ := h
  have hG8 : G ≤ 8 := n1.2.2.2.2.2.1
  have gx := gP_e x
  have wy : Wy G U (sN A) (tN A) A I l a x := by
    rcases hla with ⟨rfl, rfl, -⟩ | ⟨rfl, rfl, -⟩
    · exact (a6 _ hx).1
    · exact (a6 _ hx).2
  obtain ⟨s, r, y0, y1, y2, y3, y4, y5, y6, y7, y8, y9, y10, y11, y12⟩ := Wy_ex wy
  have lt : LtOk G U (sN A) (tN A) so (nI x) (nI (tN A l)) 0 0 := by
    rcases hla with ⟨e1, -, e3⟩ | ⟨e1, -, e3⟩
    · exact ⟨x, hx, rfl, Or.inr (Or.inr (Or.inr (Or.inl ⟨e3, tN A l, by rw [e1]; exact Nat.le_refl _, rfl⟩)))⟩
    · exact ⟨x, hx, rfl, Or.inr (Or.inr (Or.inr (Or.inr ⟨e3, tN A l, by rw [e1]; exact Nat.le_refl _, rfl⟩)))⟩
  have q := cPl_put (w := 0) a7 lt
  have eA : rcpM A l x so = pM A so (nI x) (nI (tN A l)) 0 0 0 := by unfold rcpM; rw [y12]
  have eI : rpC I a so = putC I so (nI x) (nI (tN A l)) 0 0 0 := by unfold rpC; rw [y6, y9]
  rw [eA, eI]
  have fa : ∀ o, ¬ (o = 136 ∨ o = 151) → pM A so (nI x) (nI (tN A l)) 0 0 0 o = A o := fun o ho => pM_o (by omega) (by omega)
  have fi : ∀ o, ¬ (o = 12 ∨ o = 13) → putC I so (nI x) (nI (tN A l)) 0 0 0 o = I o := fun o ho => putC_o (by omega) (by omega)
  have f136 : ∀ j, ¬ (j = 24) → pM A so (nI x) (nI (tN A l)) 0 0 0 136 j = A 136 j := fun j hj => pM_k hj
  generalize pM A so (nI x) (nI (tN A l)) 0 0 0 = S at *
  generalize putC I so (nI x) (nI (tN A l)) 0 0 0 = R at *
  have es : sN S = sN A := by funext l; unfold sN; rw [fa 149 (by omega)]
  have et : tN S = tN A := by funext l; unfold tN; rw [fa 150 (by omega)]
  have k2 : cSc B W E G T S JA R J := cSc_x a2 (fun j _ _ => f136 j (by omega)) rfl (fi 0 (by omega)) (fun j _ _ => by rw [fi 2 (by omega)]) rfl (fun i _ z => by rw [fa 138 (by omega)]; exact z)
  have k3 : cGts W E G T C S JA R J := cGts_x a3 (fun o _ _ => fa o (by omega)) rfl (fun y _ hy _ => fi _ (by have := gP_e y; omega)) (fun _ _ => rfl)
  have k4 : cUn (T / W) S R := cUn_x a4 (fa 137 (by omega)) (fi 3 (by omega))
  have k5 : cWa (T / W) G S R := cWa_x a5 (fa 138 (by omega)) (fa 139 (by omega)) (fun o _ _ _ => fi o (by omega))
  have k6 : cWys G U S R := cWys_x a6 (fa 149 (by omega)) (fa 148 (by omega)) (fa 150 (by omega)) (fa 147 (by omega)) (fun y _ hy _ _ => fi _ (by have := gP_e y; omega))
  have k8 : cBd m G U S := cBd_x a8 (Nat.le_refl _) (fa 149 (by omega)) (fa 150 (by omega)) (fa 144 (by omega)) (fa 138 (by omega))
  have k9 : cAd m rs S JA R J := cAd_x a9 (Nat.le_refl _) (f136 27 (by omega)) rfl (fi 19 (by omega)) (fi 21 (by omega)) rfl
  have k10 : cUs G S R := cUs_x a10 (fa 152 (by omega)) (fi 22 (by omega)) (fun l _ _ => by rw [fa 149 (by omega), fa 148 (by omega)]; exact ⟨rfl, rfl⟩) (fun y hy hg => ⟨fi _ (by have := gP_e y; omega), fi _ (by have := gP_e y; omega)⟩)
  exact ⟨n1, k2, k3, k4, k5, k6, by rw [es, et]; exact q, k8, k9, k10⟩
/-- a letter taken out of the pool -/
theorem op_Rl {f n i : Nat} (h : Rl m B W E G T C U rs A JA I J) (hp : PlOk I f n) (hi : i < n) : Rl m B W E G T C U rs (rmM A n i) JA (opC I f n i) J := by
  obtain ⟨n1, a2, a3, a4, a5, a6, a7, a8, a9, a10⟩ := h
  have hG8 : G ≤ 8 := n1.2.2.2.2.2.1
  have qc : ∀ o, o ≠ 23 → cpyC I f i o = I o := fun o ho => by unfold cpyC; rw [upr_ne _ _ ho]
  have q1 : cPl G U (sN A) (tN A) A (cpyC I f i) := cPl_x a7 rfl rfl (qc 12 (by decide)) (qc 13 (by decide)) (fun _ => Nat.le_refl _) (fun _ => Nat.le_refl _) (fun _ _ _ _ => rfl)
  have q := cPl_rem q1 (cpyC_ok hp) hi
  have fa : ∀ o, ¬ (o = 136 ∨ o = 151) → rmM A n i o = A o := fun o ho => rm_o (by omega) (by omega)
  have fi : ∀ o, ¬ (o = 12 ∨ o = 13 ∨ o = 23) → opC I f n i o = I o := fun o ho => opC_o (by omega) (by omega) (by omega)
  have f136 : ∀ j, ¬ (j = 24) → rmM A n i 136 j = A 136 j := fun j hj => rm_k hj
  have eo : opC I f n i = remC (cpyC I f i) f n i := rfl
  rw [← eo] at q
  generalize rmM A n i = S at *
  generalize opC I f n i = R at *
  have es : sN S = sN A := by funext l; unfold sN; rw [fa 149 (by omega)]
  have et : tN S = tN A := by funext l; unfold tN; rw [fa 150 (by omega)]
  have k2 : cSc B W E G T S JA R J := cSc_x a2 (fun j _ _ => f136 j (by omega)) rfl (fi 0 (by omega)) (fun j _ _ => by rw [fi 2 (by omega)]) rfl (fun i _ z => by rw [fa 138 (by omega)]; exact z)
  have k3 : cGts W E G T C S JA R J := cGts_x a3 (fun o _ _ => fa o (by omega)) rfl (fun y _ hy _ => fi _ (by have := gP_e y; omega)) (fun _ _ => rfl)
  have k4 : cUn (T / W) S R := cUn_x a4 (fa 137 (by omega)) (fi 3 (by omega))
  have k5 : cWa (T / W) G S R := cWa_x a5 (fa 138 (by omega)) (fa 139 (by omega)) (fun o _ _ _ => fi o (by omega))
  have k6 : cWys G U S R := cWys_x a6 (fa 149 (by omega)) (fa 148 (by omega)) (fa 150 (by omega)) (fa 147 (by omega)) (fun y _ hy _ _ => fi _ (by have := gP_e y; omega))
  have k8 : cBd m G U S := cBd_x a8 (Nat.le_refl _) (fa 149 (by omega)) (fa 150 (by omega)) (fa 144 (by omega)) (fa 138 (by omega))
  have k9 : cAd m rs S JA R J := cAd_x a9 (Nat.le_refl _) (f136 27 (by omega)) rfl (fi 19 (by omega)) (fi 21 (by omega)) rfl
  have k10 : cUs G S R := cUs_x a10 (fa 152 (by omega)) (fi 22 (by omega)) (fun l _ _ => by rw [fa 149 (by omega), fa 148 (by omega)]; exact ⟨rfl, rfl⟩) (fun y hy hg => ⟨fi _ (by have := gP_e y; omega), fi _ (by have := gP_e y; omega)⟩)
  exact ⟨n1, k2, k3, k4, k5, k6, by rw [es, et]; exact q, k8, k9, k10⟩
/-- a receipt comes -/
theorem mark_Rl {x l a i : Nat} (h : Rl m B W E G T C U rs A JA I J) (hx : x < G) (hla : (l = x ∧ a = gP x + 4) ∨ (l = 8 + x ∧ a = gP x + 9)) (hi : i ≤ tN A l) : Rl m B W E G T C U rs (rvM l (nI i) (A 148 l).toNatClampNeg A) JA (mkC I a (nI i)) J := by
  obtain ⟨n1, a2, a3, a4, a5, a6, a7, a8, a9, a10⟩ := h
  have hG8 : G ≤ 8 := n1.2.2.2.2.2.1
  have gx := gP_e x
  obtain ⟨r1, r2, r3, r4⟩ := mk_rel hG8 hx hla a6 a7 hi
  have fa : ∀ o, ¬ (o = 147 ∨ o = 148) → rvM l (nI i) (A 148 l).toNatClampNeg A o = A o := fun o ho => r3 o (by omega) (by omega)
  have fi : ∀ o, ¬ (o = a) → mkC I a (nI i) o = I o := fun o ho => by unfold mkC; rw [up2_ne _ _ _ ho]
  have f136 : ∀ j, ¬ (j = 24 ∧ j = 25) → rvM l (nI i) (A 148 l).toNatClampNeg A 136 j = A 136 j := fun j _ => by rw [fa 136 (by omega)]
  generalize rvM l (nI i) (A 148 l).toNatClampNeg A = S at *
  generalize mkC I a (nI i) = R at *
  have hne : ∀ y j, y < G → j < 4 → ¬ (gP y + j = a) := fun y j hy hj => by have := gP_e y; omega
  have k2 : cSc B W E G T S JA R J := cSc_x a2 (fun j _ _ => f136 j (by omega)) rfl (fi 0 (by omega)) (fun j _ _ => by rw [fi 2 (by omega)]) rfl (fun i _ z => by rw [fa 138 (by omega)]; exact z)
  have k4 : cUn (T / W) S R := cUn_x a4 (fa 137 (by omega)) (fi 3 (by omega))
  have k5 : cWa (T / W) G S R := cWa_x a5 (fa 138 (by omega)) (fa 139 (by omega)) (fun o _ _ _ => fi o (by omega))
  have k8 : cBd m G U S := cBd_x a8 (Nat.le_refl _) (fa 149 (by omega)) (fa 150 (by omega)) (fa 144 (by omega)) (fa 138 (by omega))
  have k9 : cAd m rs S JA R J := cAd_x a9 (Nat.le_refl _) (f136 27 (by omega)) rfl (fi 19 (by omega)) (fi 21 (by omega)) rfl
  have k3 : cGts W E G T C S JA R J := cGts_x a3 (fun o _ _ => fa o (by omega)) rfl (fun y j hy hj => fi _ (hne y j hy hj)) (fun _ _ => rfl)
  have k10 : cUs G S R := cUs_x a10 (fa 152 (by omega)) (fi 22 (by omega)) (fun l' _ hg => ⟨by rw [fa 149 (by omega)], r4 l' (by omega)⟩) (fun y hy hg => ⟨fi _ (by have := gP_e y; omega), fi _ (by have := gP_e y; omega)⟩)
  exact ⟨n1, k2, k3, k4, k5, r1, r2, k8, k9, k10⟩
/-- units come to a share -/
theorem share_Rl {x u : Nat} {w : Int32} (h : Rl m B W E G T C U rs A JA I J) (hx : x < G) (hs : hS A 144 x + u ≤ ps U x (tN A (8 + x))) : Rl m B W E G T C U rs (shM A x w (nI u)) JA (asC I (gP x) w (nI u)) J := by
  obtain ⟨n1, a2, a3, a4, a5, a6, a7, a8, a9, a10⟩ := id h
  have hG8 : G ≤ 8 := n1.2.2.2.2.2.1
  have gx := gP_e x
  obtain ⟨⟨c0, c1, ⟨c3, c4⟩, c5, c6⟩, hK⟩ := a3 x hx
  have hC : C x / W < 2 ^ 30 := nB_c n1 c6
  rcases wx w hC with ⟨s1, s2⟩ | ⟨i, i1, i2, i3, s1, s2⟩
  · have e1 : shM A x w (nI u) = A := by unfold shM; rw [c4, if_pos s2]
    have e2 : asC I (gP x) w (nI u) = I := by unfold asC; rw [c3, if_pos s1]
    rw [e1, e2]
    exact h
  · obtain ⟨⟨f1, f2, f3⟩, hh, p, t, ⟨f4, f5, f6⟩, f7, f8, f9, f10⟩ := hK i i1
    have e1 : shM A x w (nI u) = up2 A 144 (3 * x + i) (nI (hh + u)) := by
      unfold shM
      rw [c4, s2, if_neg (rE_ne (by omega)), nI_clamp (by omega), f4, nI_add]
    have e2 : asC I (gP x) w (nI u) = up2 I (gP x + 1) (sl3 (C x / W) i) (nI (hh + u)) := by
      unfold asC
      rw [c3, s1, if_neg (sl3_ne _ _), sl3_cl, f1, f4, nI_add]
    -- the bound
    obtain ⟨b1, b2, b3, b4⟩ := a8 x hx
    have wy := (a6 x hx).1
    have wy2 := (a6 x hx).2
    obtain ⟨s', r', z0, z1, z2, z3, z4, -⟩ := Wy_ex wy
    obtain ⟨s'', r'', z0', z1', z2', z3', z4', -⟩ := Wy_ex wy2
    have p1 : ps U x (tN A (8 + x)) ≤ ps U x (sN A (8 + x)) := sF_mono (by omega)
    have hm : m ≤ 512 := n1.2.2.2.2.2.2.2.2
    have hh1 := hS_3 (A := A) (o := 144) (x := x) i i1
    rw [f4, nI_clamp (by omega)] at hh1
    have big : hh + u < 2 ^ 30 := by
      have : 1000000 * tN A x ≤ 1000000 * 512 := Nat.mul_le_mul_left _ (by omega)
      omega
    rw [e1, e2]
    have fa : ∀ o, ¬ (o = 144) → up2 A 144 (3 * x + i) (nI (hh + u)) o = A o := fun o ho => up2_ne _ _ _ ho
    have fi : ∀ o, ¬ (o = gP x + 1) → up2 I (gP x + 1) (sl3 (C x / W) i) (nI (hh + u)) o = I o := fun o ho => up2_ne _ _ _ ho
    have f136 : ∀ j, ¬ (j = 24 ∧ j = 25) → up2 A 144 (3 * x + i) (nI (hh + u)) 136 j = A 136 j := fun j _ => by rw [fa 136 (by omega)]
    have v144 : ∀ z, up2 A 144 (3 * x + i) (nI (hh + u)) 144 z = if z = 3 * x + i then nI (hh + u) else A 144 z := fun z => by
      rw [up2_v]
      by_cases c : z = 3 * x + i
      · rw [if_pos ⟨rfl, c⟩, if_pos c]
      · rw [if_neg (fun y => c y.2), if_neg c]
    have vI : ∀ z, up2 I (gP x + 1) (sl3 (C x / W) i) (nI (hh + u)) (gP x + 1) z = if z = sl3 (C x / W) i then nI (hh + u) else I (gP x + 1) z := fun z => by
      rw [up2_v]
      by_cases c : z = sl3 (C x / W) i
      · rw [if_pos ⟨rfl, c⟩, if_pos c]
      · rw [if_neg (fun y => c y.2), if_neg c]
    generalize up2 A 144 (3 * x + i) (nI (hh + u)) = S at *
    generalize up2 I (gP x + 1) (sl3 (C x / W) i) (nI (hh + u)) = R at *
    have k2 : cSc B W E G T S JA R J := cSc_x a2 (fun j _ _ => f136 j (by omega)) rfl (fi 0 (by omega)) (fun j _ _ => by rw [fi 2 (by omega)]) rfl (fun i _ z => by rw [fa 138 (by omega)]; exact z)
    have k4 : cUn (T / W) S R := cUn_x a4 (fa 137 (by omega)) (fi 3 (by omega))
    have k5 : cWa (T / W) G S R := cWa_x a5 (fa 138 (by omega)) (fa 139 (by omega)) (fun o _ _ _ => fi o (by omega))
    have k6 : cWys G U S R := cWys_x a6 (fa 149 (by omega)) (fa 148 (by omega)) (fa 150 (by omega)) (fa 147 (by omega)) (fun y _ hy _ _ => fi _ (by have := gP_e y; omega))
    have k7 : cPl G U (sN S) (tN S) S R := by
      have es : sN S = sN A := by funext l; unfold sN; rw [fa 149 (by omega)]
      have et : tN S = tN A := by funext l; unfold tN; rw [fa 150 (by omega)]
      rw [es, et]
      exact cPl_x a7 (f136 24 (by omega)) (fa 151 (by omega)) (fi 12 (by omega)) (fi 13 (by omega)) (fun _ => Nat.le_refl _) (fun _ => Nat.le_refl _) (fun _ _ _ _ => rfl)
    have k9 : cAd m rs S JA R J := cAd_x a9 (Nat.le_refl _) (f136 27 (by omega)) rfl (fi 19 (by omega)) (fi 21 (by omega)) rfl
    have k10 : cUs G S R := cUs_x a10 (fa 152 (by omega)) (fi 22 (by omega)) (fun l _ _ => by rw [fa 149 (by omega), fa 148 (by omega)]; exact ⟨rfl, rfl⟩) (fun y hy hg => ⟨fi _ (by have := gP_e y; omega), fi _ (by have := gP_e y; omega)⟩)
    have k3 : cGts W E G T C S JA R J := by
      intro y hy
      have gy := gP_e y
      obtain ⟨d1, d2⟩ := a3 y hy
      refine ⟨gG_x d1 (by rw [fa 140 (by omega)]) rfl (by rw [fa 142 (by omega)]) (by rw [fa 143 (by omega)]) (fi _ (by omega)) rfl, ?_⟩
      by_cases c : y = x
      · subst c
        intro z hz
        rw [vI, v144, fi (gP y + 2) (by omega), fi (gP y + 3) (by omega), fa 145 (by omega), fa 146 (by omega)]
        by_cases c2 : z = i
        · subst c2
          rw [if_pos rfl, if_pos rfl]
          exact ⟨⟨rfl, f2, f3⟩, hh + u, p, t, ⟨rfl, f5, f6⟩, f7, by omega, big, by omega⟩
        · rw [if_neg (fun e => c2 (sl3_inj hz i1 e)), if_neg (by omega)]
          exact d2 z hz
      · refine gK_x d2 (fun z hz => ?_) (fi _ (by omega)) (fi _ (by omega)) (fi _ (by omega))
        rw [v144, if_neg (by omega), fa 145 (by omega), fa 146 (by omega)]
        exact ⟨rfl, rfl, rfl⟩
    have k8 : cBd m G U S := by
      intro y hy
      obtain ⟨b1', b2', b3', b4'⟩ := a8 y hy
      have es : sN S = sN A := by funext l; unfold sN; rw [fa 149 (by omega)]
      have et : tN S = tN A := by funext l; unfold tN; rw [fa 150 (by omega)]
      have e2 : hS S 138 y = hS A 138 y := by unfold hS; rw [fa 138 (by omega)]
      rw [es, et, e2]
      refine ⟨b1', ?_, b3', b4'⟩
      by_cases c : y = x
      · subst c
        have eh : hS S 144 y ≤ hS A 144 y + u := by
          have hz : ∀ z, z < 3 → (S 144 (3 * y + z)).toNatClampNeg = if z = i then hh + u else (A 144 (3 * y + z)).toNatClampNeg := fun z hz => by
            rw [v144]
            by_cases c2 : z = i
            · rw [if_pos c2, if_pos (by omega), nI_clamp (by omega)]
            · rw [if_neg c2, if_neg (by omega)]
          have h0 := hz 0 (by decide)
          have h1 := hz 1 (by decide)
          have h2 := hz 2 (by decide)
          have hh9 : (A 144 (3 * y + i)).toNatClampNeg = hh := by rw [f4, nI_clamp (by omega)]
          unfold hS
          rw [Nat.add_zero] at h0
          rw [h0, h1, h2]
          match i, i1 with
          | 0, _ => rw [if_pos rfl, if_neg (by decide), if_neg (by decide)]; rw [Nat.add_zero] at hh9; omega
          | 1, _ => rw [if_neg (by decide), if_pos rfl, if_neg (by decide)]; omega
          | 2, _ => rw [if_neg (by decide), if_neg (by decide), if_pos rfl]; omega
        omega
      · have eh : hS S 144 y ≤ hS A 144 y := hS_le fun z hz => by rw [v144, if_neg (by omega)]; exact Nat.le_refl _
        omega
    exact ⟨n1, k2, k3, k4, k5, k6, k7, k8, k9, k10⟩
/-- units come back to the desk -/
theorem unit_Rl {w u : Int32} (h : Rl m B W E G T C U rs A JA I J) : Rl m B W E G T C U rs (unM A w u) JA (auC I w u) J := by
  obtain ⟨n1, a2, a3, a4, a5, a6, a7, a8, a9, a10⟩ := id h
  have hG8 : G ≤ 8 := n1.2.2.2.2.2.1
  have hT : T / W < 2 ^ 30 := nB_c n1 (Nat.le_add_right _ _)
  obtain ⟨-, -, ⟨c3, c4⟩, -⟩ := id a2
  rcases wx w hT with ⟨s1, s2⟩ | ⟨i, i1, i2, i3, s1, s2⟩
  · have e1 : unM A w u = A := by unfold unM; rw [c4, if_pos s2]
    have e2 : auC I w u = I := by unfold auC; rw [c3, if_pos s1]
    rw [e1, e2]
    exact h
  · have e1 : unM A w u = up2 A 137 i (A 137 i + u) := by
      unfold unM
      rw [c4, s2, if_neg (rE_ne (by omega)), nI_clamp (by omega)]
    have e2 : auC I w u = up2 I 3 (sl3 (T / W) i) (A 137 i + u) := by
      unfold auC
      rw [c3, s1, if_neg (sl3_ne _ _), sl3_cl, (a4 i i1).1 i2]
    rw [e1, e2]
    have fa : ∀ o, ¬ (o = 137) → up2 A 137 i (A 137 i + u) o = A o := fun o ho => up2_ne _ _ _ ho
    have fi : ∀ o, ¬ (o = 3) → up2 I 3 (sl3 (T / W) i) (A 137 i + u) o = I o := fun o ho => up2_ne _ _ _ ho
    have f136 : ∀ j, ¬ (j = 24 ∧ j = 25) → up2 A 137 i (A 137 i + u) 136 j = A 136 j := fun j _ => by rw [fa 136 (by omega)]
    have v1 : ∀ z, up2 A 137 i (A 137 i + u) 137 z = if z = i then A 137 i + u else A 137 z := fun z => by
      rw [up2_v]
      by_cases c : z = i
      · rw [if_pos ⟨rfl, c⟩, if_pos c]
      · rw [if_neg (fun y => c y.2), if_neg c]
    have v2 : ∀ z, up2 I 3 (sl3 (T / W) i) (A 137 i + u) 3 z = if z = sl3 (T / W) i then A 137 i + u else I 3 z := fun z => by
      rw [up2_v]
      by_cases c : z = sl3 (T / W) i
      · rw [if_pos ⟨rfl, c⟩, if_pos c]
      · rw [if_neg (fun y => c y.2), if_neg c]
    generalize up2 A 137 i (A 137 i + u) = S at *
    generalize up2 I 3 (sl3 (T / W) i) (A 137 i + u) = R at *
    have k2 : cSc B W E G T S JA R J := cSc_x a2 (fun j _ _ => f136 j (by omega)) rfl (fi 0 (by omega)) (fun j _ _ => by rw [fi 2 (by omega)]) rfl (fun i _ z => by rw [fa 138 (by omega)]; exact z)
    have k3 : cGts W E G T C S JA R J := cGts_x a3 (fun o _ _ => fa o (by omega)) rfl (fun y _ hy _ => fi _ (by have := gP_e y; omega)) (fun _ _ => rfl)
    have k5 : cWa (T / W) G S R := cWa_x a5 (fa 138 (by omega)) (fa 139 (by omega)) (fun o _ _ _ => fi o (by omega))
    have k6 : cWys G U S R := cWys_x a6 (fa 149 (by omega)) (fa 148 (by omega)) (fa 150 (by omega)) (fa 147 (by omega)) (fun y _ hy _ _ => fi _ (by have := gP_e y; omega))
    have k7 : cPl G U (sN S) (tN S) S R := by
      have es : sN S = sN A := by funext l; unfold sN; rw [fa 149 (by omega)]
      have et : tN S = tN A := by funext l; unfold tN; rw [fa 150 (by omega)]
      rw [es, et]
      exact cPl_x a7 (f136 24 (by omega)) (fa 151 (by omega)) (fi 12 (by omega)) (fi 13 (by omega)) (fun _ => Nat.le_refl _) (fun _ => Nat.le_refl _) (fun _ _ _ _ => rfl)
    have k8 : cBd m G U S := cBd_x a8 (Nat.le_refl _) (fa 149 (by omega)) (fa 150 (by omega)) (fa 144 (by omega)) (fa 138 (by omega))
    have k9 : cAd m rs S JA R J := cAd_x a9 (Nat.le_refl _) (f136 27 (by omega)) rfl (fi 19 (by omega)) (fi 21 (by omega)) rfl
    have k10 : cUs G S R := cUs_x a10 (fa 152 (by omega)) (fi 22 (by omega)) (fun l _ _ => by rw [fa 149 (by omega), fa 148 (by omega)]; exact ⟨rfl, rfl⟩) (fun y hy hg => ⟨fi _ (by have := gP_e y; omega), fi _ (by have := gP_e y; omega)⟩)
    have k4 : cUn (T / W) S R := by
      intro k hk
      refine ⟨fun h1 => ?_, fun h0 => ?_⟩
      · rw [v1, v2]
        by_cases c : k = i
        · rw [if_pos c, if_pos (by rw [c])]
        · rw [if_neg c, if_neg (fun e => c (sl3_inj hk i1 e))]
          exact (a4 k hk).1 h1
      · rw [v1, if_neg (by omega)]
        exact (a4 k hk).2 h0
    exact ⟨n1, k2, k3, k4, k5, k6, k7, k8, k9, k10⟩
end COME

