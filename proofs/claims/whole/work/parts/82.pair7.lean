/-! pairs: error -/
section PAIR7
variable {m : Nat} {I : T2} {J : T3}
theorem ti_v {A : T2} {x q : Nat} {nw : Int32} {o k : Nat} (ho : o = 144 ∨ o = 145 ∨ o = 146) (hk : k < 3) : tiM A x q nw o (3 * x + k) = if k + q < 3 then A o (3 * x + k + q) else 0 := by
  unfold tiM
  rw [up2_ne _ _ _ (by omega)]
  have e : 3 * x + k - 3 * x + q < 3 ↔ k + q < 3 := by omega
  rcases ho with rfl | rfl | rfl
  · rw [mvM_o (by decide), mvM_o (by decide), mv_c, if_pos (by omega)]
    by_cases c : k + q < 3
    · rw [if_pos c, if_pos (by omega)]
    · rw [if_neg c, if_neg (by omega)]
  · rw [mvM_o (by decide), mv_c, if_pos (by omega), mvM_o (by decide)]
    by_cases c : k + q < 3
    · rw [if_pos c, if_pos (by omega)]
    · rw [if_neg c, if_neg (by omega)]
  · rw [mv_c, if_pos (by omega), mvM_o (by decide), mvM_o (by decide)]
    by_cases c : k + q < 3
    · rw [if_pos c, if_pos (by omega)]
    · rw [if_neg c, if_neg (by omega)]
theorem ti_w {A : T2} {x q : Nat} {nw : Int32} {o i : Nat} (hi : i < 3 * x ∨ 3 * x + 2 < i) (ho : o ≠ 142) : tiM A x q nw o i = A o i := by
  unfold tiM
  rw [up2_ne _ _ _ ho]
  have st : ∀ (A : T2) (a : Nat), mvM A a (3 * x) 0 (min q 3) o i = A o i := fun A a => by
    by_cases c : o = a
    · subst c; exact mv_out hi _
    · rw [mvM_o c]
  rw [st, st, st]
theorem ti_o {A : T2} {x q : Nat} {nw : Int32} {o : Nat} (h : o ≠ 142 ∧ o ≠ 144 ∧ o ≠ 145 ∧ o ≠ 146) : tiM A x q nw o = A o := by
  unfold tiM
  rw [up2_ne _ _ _ h.1, mvM_o h.2.2.2, mvM_o h.2.2.1, mvM_o h.2.1]
theorem ti_142 {A : T2} {x q : Nat} {nw : Int32} (y : Nat) : tiM A x q nw 142 y = if y = x then nw else A 142 y := by
  unfold tiM
  rw [up2_v, mvM_o (by decide), mvM_o (by decide), mvM_o (by decide)]
  by_cases c : y = x
  · rw [if_pos ⟨rfl, c⟩, if_pos c]
  · rw [if_neg (fun z => c z.2), if_neg c]
theorem neg_nI {E : Nat} (hE : E < 2 ^ 30) : (-(nI E)).toInt = -(E : Int) := by
  have e : -(nI E) = iI (-(E : Int)) := by
    rw [iI_nI, show -(iI (E : Int)) = 0 - iI (E : Int) from (Int32.zero_sub _).symm, iI_0, iI_sub]
    congr 1; omega
  rw [e, iI_toInt (by omega) (by omega)]
theorem pr_error (h : Rel m I J I J) (hm : m < 512) (x e : Int32) : PrT mX6_error [.int x, .int e] mX7_error [.int x, .int e] eIB 1 m I J ∨ PrT mX6_error [.int x, .int e] mX7_error [.int x, .int e] eIA 2 m I J ∨ PrR mX6_error [.int x, .int e] mX7_error [.int x, .int e] m I J := by
  obtain ⟨B, W, E, G, T, C, U, rs, h9⟩ := id h
  obtain ⟨n1, a2, a3, a4, a5, a6, a7, a8, a9, a10⟩ := id h9
  have hG8 : G ≤ 8 := n1.2.2.2.2.2.1
  obtain ⟨⟨-, -, w0, w1, e0, e1, g0, g1⟩, ⟨t0, t1⟩, -⟩ := id a2
  rcases gx hG8 x with hx | ⟨j, hj, rfl⟩
  · exact Or.inl (pr_t h hm (sp_errorB (by rw [g0]; exact hx)) (sm_errorB (by rw [g1]; exact hx)))
  right
  by_cases he : e < -(nI E) ∨ ¬ e ≤ nI E
  · exact Or.inl (pr_t h hm (sp_errorT g0 hG8 hj (by rw [e0]; exact he)) (sm_errorT g1 hG8 hj (by rw [e1]; exact he)))
  right
  have he1 : ¬ e < -(nI E) := fun z => he (Or.inl z)
  have he2 : e ≤ nI E := Classical.not_not.mp fun z => he (Or.inr z)
  have hTE := nB_T n1
  obtain ⟨-, hW, hW2, hEW, -, -, hET, -, -⟩ := id n1
  have b1 : -(E : Int) ≤ e.toInt := by
    rw [Int32.lt_iff_toInt_lt, neg_nI (by omega)] at he1; omega
  have b2 : e.toInt ≤ E := by
    rw [Int32.le_iff_toInt_le, nI_toInt (by omega)] at he2; exact he2
  obtain ⟨⟨c0, ⟨c1, c2⟩, ⟨c3, c4⟩, c5, c6⟩, hK⟩ := a3 j hj
  have gj := gP_e j
  have hC : C j / W < 2 ^ 30 := nB_c n1 c6
  have hck : ckN (C j) T e.toInt ≤ T + E := by unfold ckN; omega
  have hck2 : C j ≤ ckN (C j) T e.toInt := Nat.le_max_left _ _
  have hle : C j / W ≤ ckN (C j) T e.toInt / W := Nat.div_le_div_right hck2
  have hnx : ckN (C j) T e.toInt / W < 2 ^ 30 := nB_c n1 hck
  have cke : ckC J (up2 I (gP j) 5 e) (gP j) (lN T) = lN (ckN (C j) T e.toInt) := by
    unfold ckC
    rw [c1, up2_s]
    exact ck_eq (by omega) (by omega) (by omega)
  have wne : wnI (ckC J (up2 I (gP j) 5 e) (gP j) (lN T)) (nI W) = nI (ckN (C j) T e.toInt / W) := by
    rw [cke]; exact wn_eq hW hW2 (by omega)
  have h7 : up2 I (gP j) 5 e (gP j) 7 = nI (C j / W) := by rw [up2_k _ _ _ (by decide)]; exact c3
  generalize hnn : ckN (C j) T e.toInt = cc at *
  refine (sp_error (d := 4) g0 hG8 hj (by rw [e0]; exact he1) (by rw [e0]; exact he2) (by rw [t0, w0]; exact ⟨⟨_, hC, h7⟩, _, hnx, wne⟩)).mono fun v I1 J1 q => ?_
  obtain ⟨rfl, rfl, rfl⟩ := q
  rw [t0, w0]
  refine ⟨(by first | exact rfl | exact ⟨_, rfl⟩ | exact ⟨_, rfl, Or.inl rfl⟩ | exact ⟨_, rfl, Or.inr rfl⟩), ?_⟩
  intro I2 J2 hO
  obtain ⟨rfl, hJ⟩ := hO
  -- the class's outcome
  have s0 : ∀ o, ¬ (o = gP j ∨ o = gP j + 1 ∨ o = gP j + 2 ∨ o = gP j + 3) → lkI (up2 I (gP j) 5 e) J (lN T) (nI W) (gP j) o = I o := fun o ho => by
    rw [lkI_o _ _ _ _ _ (by omega) (by omega) (by omega) (by omega), up2_ne _ _ _ (by omega)]
  have s1 : ∀ b z, b = 1 ∨ b = 2 ∨ b = 3 → z < 3 → lkI (up2 I (gP j) 5 e) J (lN T) (nI W) (gP j) (gP j + b) (sl3 (cc / W) z) = if C j / W + 2 < cc / W + z then 0 else I (gP j + b) (sl3 (cc / W) z) := fun b z hb hz => by
    rw [lk_v h7 (by omega) wne (by omega) hb hz, up2_ne _ _ _ (by omega)]
  have s2 : lkI (up2 I (gP j) 5 e) J (lN T) (nI W) (gP j) (gP j) 7 = nI (cc / W) := by rw [lk_7]; exact wne
  have s3 : lkI (up2 I (gP j) 5 e) J (lN T) (nI W) (gP j) (gP j) 5 = e := by rw [lk_0 (by decide), up2_s]
  have s4 : lkI (up2 I (gP j) 5 e) J (lN T) (nI W) (gP j) (gP j) 8 = I (gP j) 8 := by rw [lk_0 (by decide), up2_k _ _ _ (by decide)]
  have jj : ∀ o, ¬ (o = gP j ∨ o = 158) → J2 o = J o := fun o ho => by
    rw [hJ o (by omega), lkJ_o _ _ _ _ (by omega)]
  have jg : J2 (gP j) 6 = lN cc := by
    rw [hJ _ (by omega)]
    unfold lkJ
    rw [up3_v, if_pos ⟨rfl, rfl⟩, cke]
  generalize lkI (up2 I (gP j) 5 e) J (lN T) (nI W) (gP j) = S1 at *
  have er : ∀ o, ¬ (o = 136 ∨ o = 140) → erM S1 j e o = S1 o := fun o ho => by unfold erM; rw [up2_ne _ _ _ (by omega), tw_o _ (by omega)]
  have er140 : ∀ y, erM S1 j e 140 y = if y = j then e else I 140 y := fun y => by
    unfold erM
    rw [up2_v, tw_o _ (by decide), s0 140 (by omega)]
    by_cases c : y = j
    · rw [if_pos ⟨rfl, c⟩, if_pos c]
    · rw [if_neg (fun z => c z.2), if_neg c]
  have er136 : ∀ i, i ≠ 0 → erM S1 j e 136 i = I 136 i := fun i hi => by
    unfold erM; rw [up2_ne _ _ _ (by decide), tw_k _ hi, s0 136 (by omega)]
  have er0 : erM S1 j e 136 0 = 0 := by unfold erM; rw [up2_ne _ _ _ (by decide), tw_0]
  have cl : clM (erM S1 j e) J2 j = lN cc := by
    unfold clM
    rw [jj 141 (by omega), jj 136 (by omega), c2, t1, er140, if_pos rfl, ← hnn]
    exact ck_eq (by omega) (by omega) (by omega)
  refine (sm_error (d := 5) (J := J2) (x := j) (G := G) (wd := C j / W) (nx := cc / W) (by rw [s0 136 (by omega)]; exact g1) hG8 hj (by rw [s0 136 (by omega), e1]; exact he1) (by rw [s0 136 (by omega), e1]; exact he2) ?_ (by rw [s0 142 (by omega)]; exact c4) ?_ hle hnx).mono fun v' S J' q => ?_
  · rw [s0 136 (by omega), w1]
    exact i2l_ne (nI_ne0 (by omega) (by omega))
  · rw [cl, s0 136 (by omega), w1]
    exact dv_eq hW hW2 (by omega)
  obtain ⟨rfl, rfl, rfl⟩ := q
  rw [cl]
  have fr : ∀ o, ¬ (o = gP j ∨ o = gP j + 1 ∨ o = gP j + 2 ∨ o = gP j + 3 ∨ o = 136 ∨ o = 140 ∨ o = 142 ∨ o = 144 ∨ o = 145 ∨ o = 146) → tiM (erM S1 j e) j (cc / W - C j / W) (nI (cc / W)) o = I o := fun o ho => by
    rw [ti_o (by omega), er o (by omega), s0 o (by omega)]
  have frJ : ∀ o, ¬ (o = gP j ∨ o = 141 ∨ o = 158) → up3 J2 141 j (lN cc) o = J o := fun o ho => by
    funext i
    rw [up3_v, if_neg (fun z => by omega), jj o (by omega)]
  have f136 : ∀ i, ¬ (i = 0) → tiM (erM S1 j e) j (cc / W - C j / W) (nI (cc / W)) 136 i = I 136 i := fun i hi => by
    rw [ti_o (by omega), er136 i hi]
  have z0 : tiM (erM S1 j e) j (cc / W - C j / W) (nI (cc / W)) 136 0 = 0 := by rw [ti_o (by omega), er0]
  have v140 : ∀ y, tiM (erM S1 j e) j (cc / W - C j / W) (nI (cc / W)) 140 y = if y = j then e else I 140 y := fun y => by rw [ti_o (by omega), er140]
  have v142 : ∀ y, tiM (erM S1 j e) j (cc / W - C j / W) (nI (cc / W)) 142 y = if y = j then nI (cc / W) else I 142 y := fun y => by
    rw [ti_142, er 142 (by omega), s0 142 (by omega)]
  have vA : ∀ o k, o = 144 ∨ o = 145 ∨ o = 146 → k < 3 → tiM (erM S1 j e) j (cc / W - C j / W) (nI (cc / W)) o (3 * j + k) = if k + (cc / W - C j / W) < 3 then I o (3 * j + k + (cc / W - C j / W)) else 0 := fun o k ho hk => by
    rw [ti_v ho hk, er o (by omega), s0 o (by omega)]
  have vB : ∀ o i, o = 144 ∨ o = 145 ∨ o = 146 → (i < 3 * j ∨ 3 * j + 2 < i) → tiM (erM S1 j e) j (cc / W - C j / W) (nI (cc / W)) o i = I o i := fun o i ho hi => by
    rw [ti_w hi (by omega), er o (by omega), s0 o (by omega)]
  have lo : ∀ o, o < 136 → tiM (erM S1 j e) j (cc / W - C j / W) (nI (cc / W)) o = S1 o := fun o ho => by
    rw [ti_o (by omega), er o (by omega)]
  generalize tiM (erM S1 j e) j (cc / W - C j / W) (nI (cc / W)) = S at *
  refine ⟨rfl, z0, by funext i; rw [up3_v, if_neg (by omega)], ?_⟩
  generalize hJ3 : up3 J2 141 j (lN cc) = J3 at *
  have j141 : ∀ y, J3 141 y = if y = j then lN cc else J 141 y := fun y => by
    rw [← hJ3, up3_v, jj 141 (by omega)]
    by_cases c : y = j
    · rw [if_pos ⟨rfl, c⟩, if_pos c]
    · rw [if_neg (fun z => c z.2), if_neg c]
  have jgj : J3 (gP j) 6 = lN cc := by rw [← hJ3, up3_v, if_neg (by omega)]; exact jg
  have k2 : cSc B W E G T S J3 S J3 := cSc_x a2 (fun j _ _ => f136 j (by omega)) (by rw [frJ 136 (by omega)]) (fr 0 (by omega)) (fun j _ _ => by rw [fr 2 (by omega)]) (by rw [frJ 0 (by omega)]) (fun i _ z => by rw [fr 138 (by omega)]; exact z)
  have k4 : cUn (T / W) S S := cUn_x a4 (fr 137 (by omega)) (fr 3 (by omega))
  have k5 : cWa (T / W) G S S := cWa_x a5 (fr 138 (by omega)) (fr 139 (by omega)) (fun o _ _ _ => fr o (by omega))
  have k6 : cWys G U S S := cWys_x a6 (fr 149 (by omega)) (fr 148 (by omega)) (fr 150 (by omega)) (fr 147 (by omega)) (fun x _ hx _ _ => fr _ (by have := gP_e x; omega))
  have k7 : cPl G U (sN S) (tN S) S S := by
    have es : sN S = sN I := by funext l; unfold sN; rw [fr 149 (by omega)]
    have et : tN S = tN I := by funext l; unfold tN; rw [fr 150 (by omega)]
    rw [es, et]
    exact cPl_x a7 (f136 24 (by omega)) (fr 151 (by omega)) (fr 12 (by omega)) (fr 13 (by omega)) (fun _ => Nat.le_refl _) (fun _ => Nat.le_refl _) (fun _ _ _ _ => rfl)
  have k9 : cAd (m + 1) rs S J3 S J3 := cAd_x a9 (Nat.le_succ _) (f136 27 (by omega)) (frJ 153 (by omega)) (fr 19 (by omega)) (fr 21 (by omega)) (frJ 20 (by omega))
  have k10 : cUs G S S := cUs_x a10 (fr 152 (by omega)) (fr 22 (by omega)) (fun l _ _ => by rw [fr 149 (by omega), fr 148 (by omega)]; exact ⟨rfl, rfl⟩) (fun y hy hg => ⟨fr _ (by have := gP_e y; omega), fr _ (by have := gP_e y; omega)⟩)
  have k3 : cGts W E G T (fun y => if y = j then cc else C y) S J3 S J3 := by
    intro y hy
    have gy := gP_e y
    obtain ⟨b1', b2'⟩ := a3 y hy
    by_cases c : y = j
    · subst c
      have ey : (fun z => if z = y then cc else C z) y = cc := if_pos rfl
      rw [ey]
      refine ⟨?_, lk_gK hK hle (fun b z hb hz => by rw [lo _ (by omega)]; exact s1 b z hb hz) vA⟩
      unfold gG
      rw [lo (gP y) (by omega), s2, s3, s4, v140, v142, if_pos rfl, if_pos rfl, jgj, j141, if_pos rfl, fr 143 (by omega)]
      exact ⟨⟨rfl, b1, b2⟩, ⟨rfl, rfl⟩, ⟨rfl, rfl⟩, c5, hck⟩
    · have ey : (fun z => if z = j then cc else C z) y = C y := if_neg c
      rw [ey]
      refine ⟨gG_x b1' (by rw [v140, if_neg c]) (by rw [j141, if_neg c]) (by rw [v142, if_neg c]) (by rw [fr 143 (by omega)]) (fr _ (by omega)) (frJ _ (by omega)), gK_x b2' (fun k hk => ?_) (fr _ (by omega)) (fr _ (by omega)) (fr _ (by omega))⟩
      rw [vB 144 _ (Or.inl rfl) (by omega), vB 145 _ (Or.inr (Or.inl rfl)) (by omega), vB 146 _ (Or.inr (Or.inr rfl)) (by omega)]
      exact ⟨rfl, rfl, rfl⟩
  have k8 : cBd (m + 1) G U S := by
    intro y hy
    obtain ⟨b1', b2', b3', b4'⟩ := a8 y hy
    have es : sN S = sN I := by funext l; unfold sN; rw [fr 149 (by omega)]
    have et : tN S = tN I := by funext l; unfold tN; rw [fr 150 (by omega)]
    have eh : hS S 144 y ≤ hS I 144 y := by
      by_cases c : y = j
      · subst c
        exact lk_hS fun k hk => vA 144 k (Or.inl rfl) hk
      · exact hS_le fun k hk => by rw [vB 144 _ (Or.inl rfl) (by omega)]; exact Nat.le_refl _
    have e2 : hS S 138 y = hS I 138 y := by unfold hS; rw [fr 138 (by omega)]
    rw [es, et, e2]
    exact ⟨Nat.le_trans b1' (Nat.le_succ _), Nat.le_trans eh b2', b3', b4'⟩
  exact ⟨B, W, E, G, T, fun y => if y = j then cc else C y, U, rs, nB_m n1 hm, k2, k3, k4, k5, k6, k7, k8, k9, k10⟩
end PAIR7

