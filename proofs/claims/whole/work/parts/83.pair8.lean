/-! pairs: pass -/
section PAIR8
variable {m : Nat} {I : T2} {J : T3}
theorem rn_3 (A : T2) (x i : Nat) : rnC A x 3 i = if i = x then A 2 3 else A 3 i := by
  unfold rnC
  rw [upr_ne _ _ (by omega), up2_v]
  by_cases c : i = x
  · rw [if_pos ⟨rfl, c⟩, if_pos c]
  · rw [if_neg (fun z => c z.2), if_neg c]
theorem rn_5 (A : T2) {x s y : Nat} (hy : y < 8) : rnC A x (4 + 1 + s) y = if s = x then 0 else A (4 + 1 + s) y := by
  unfold rnC
  rw [upr_v]
  by_cases c : s = x
  · subst c
    rw [if_pos rfl, if_pos rfl]
    exact if_pos hy
  · rw [if_neg (by omega), if_neg c, up2_ne _ _ _ (by omega)]
theorem tn_v {wd nx z : Nat} (hz : z < 3) : ∀ k, k ≤ 3 → tnC I wd nx k 3 (sl3 nx z) = (if z < k ∧ wd + 2 < nx + z then I 2 3 else I 3 (sl3 nx z)) ∧ ∀ y, y < 8 → tnC I wd nx k (4 + 1 + sl3 nx z) y = if z < k ∧ wd + 2 < nx + z then 0 else I (4 + 1 + sl3 nx z) y
  | 0, _ => by
    refine ⟨?_, fun y _ => ?_⟩
    · rw [if_neg (by omega)]; rfl
    · rw [if_neg (by omega)]; rfl
  | k + 1, hk => by
    obtain ⟨ih1, ih2⟩ := tn_v (wd := wd) (nx := nx) hz k (by omega)
    show (if wd + 2 < nx + k then rnC (tnC I wd nx k) ((nx + k - 1) % 3) else tnC I wd nx k) 3 (sl3 nx z) = _ ∧ ∀ y, y < 8 → (if wd + 2 < nx + k then rnC (tnC I wd nx k) ((nx + k - 1) % 3) else tnC I wd nx k) (4 + 1 + sl3 nx z) y = _
    by_cases c : wd + 2 < nx + k
    · rw [if_pos c]
      have e2 : tnC I wd nx k 2 3 = I 2 3 := by rw [tnC_2]
      by_cases c2 : z = k
      · subst c2
        have e : sl3 nx z = (nx + z - 1) % 3 := by unfold sl3; omega
        refine ⟨?_, fun y hy => ?_⟩
        · rw [rn_3, if_pos e, e2, if_pos ⟨by omega, c⟩]
        · rw [rn_5 _ hy, if_pos e, if_pos ⟨by omega, c⟩]
      · have e : ¬ sl3 nx z = (nx + k - 1) % 3 := by unfold sl3; omega
        refine ⟨?_, fun y hy => ?_⟩
        · rw [rn_3, if_neg e, ih1]
          by_cases c3 : z < k ∧ wd + 2 < nx + z
          · rw [if_pos c3, if_pos (by omega)]
          · rw [if_neg c3, if_neg (by omega)]
        · rw [rn_5 _ hy, if_neg e, ih2 y hy]
          by_cases c3 : z < k ∧ wd + 2 < nx + z
          · rw [if_pos c3, if_pos (by omega)]
          · rw [if_neg c3, if_neg (by omega)]
    · rw [if_neg c]
      refine ⟨?_, fun y hy => ?_⟩
      · rw [ih1]
        by_cases c3 : z < k ∧ wd + 2 < nx + z
        · rw [if_pos c3, if_pos (by omega)]
        · rw [if_neg c3, if_neg (by omega)]
      · rw [ih2 y hy]
        by_cases c3 : z < k ∧ wd + 2 < nx + z
        · rw [if_pos c3, if_pos (by omega)]
        · rw [if_neg c3, if_neg (by omega)]
theorem sl_all (D : Nat) {σ : Nat} (h : σ < 3) : ∃ k, k < 3 ∧ sl3 D k = σ := ⟨(σ + 3 - (D + 2) % 3) % 3, by omega, by unfold sl3; omega⟩
set_option maxHeartbeats 1000000 in
theorem pr_pass (h : Rel m I J I J) (hm : m < 512) (x : Int32) : PrT mX6_pass [.int x] mX7_pass [.int x] eIA 1 m I J ∨ PrR mX6_pass [.int x] mX7_pass [.int x] m I J := by
  by_cases hq : x < 0 ∨ ¬ x ≤ 1000000
  · exact Or.inl (pr_t h hm (sp_passT hq) (sm_passT hq))
  right
  obtain ⟨q, hq2, rfl⟩ := nI_of2 (M := 1000000) (n := 1000000) (by decide) (fun z => hq (Or.inl z)) (Classical.not_not.mp fun z => hq (Or.inr z))
  obtain ⟨B, W, E, G, T, C, U, rs, h9⟩ := id h
  obtain ⟨n1, a2, a3, a4, a5, a6, a7, a8, a9, a10⟩ := id h9
  have hG8 : G ≤ 8 := n1.2.2.2.2.2.1
  obtain ⟨⟨l0, l1, w0, w1, e0, e1, g0, g1⟩, ⟨t0, t1⟩, ⟨D0, D1⟩, u0, u1⟩ := id a2
  have n2 : nB (m + 1) B W E G (T + q) := by
    obtain ⟨y1, y2, y3, y4, y5, y6, y7, y8, y9⟩ := n1
    exact ⟨y1, y2, y3, y4, y5, y6, by omega, by omega, by omega⟩
  have hTE := nB_T n2
  obtain ⟨-, hW, hW2, hEW, -, -, hET, -, -⟩ := id n1
  have tq : lN T + (nI q).toInt64 = lN (T + q) := by rw [nI_l (by omega), lN_add]
  have hDn : T / W ≤ (T + q) / W := Nat.div_le_div_right (Nat.le_add_right _ _)
  have hnx : (T + q) / W < 2 ^ 30 := nB_c n2 (Nat.le_add_right _ _)
  have hD2 : T / W < 2 ^ 30 := by omega
  -- the gates
  have gt : ∀ y, y < G → ∃ c, c = ckN (C y) (T + q) (I 140 y).toInt ∧ c ≤ T + q + E ∧ C y / W ≤ c / W ∧ c / W < 2 ^ 30 ∧ C y / W < 2 ^ 30 ∧ ckC J I (gP y) (lN (T + q)) = lN c ∧ wnI (lN c) (nI W) = nI (c / W) ∧ (lN c / (nI W).toInt64).toInt32 = nI (c / W) ∧ (if J 141 y < lN (T + q) + (I 140 y).toInt64 then lN (T + q) + (I 140 y).toInt64 else J 141 y) = lN c := by
    intro y hy
    obtain ⟨⟨⟨c0, c0a, c0b⟩, ⟨c1, c2⟩, ⟨c3, c4⟩, c5, c6⟩, hK⟩ := a3 y hy
    have hc : ckN (C y) (T + q) (I 140 y).toInt ≤ T + q + E := by unfold ckN; omega
    have hc2 : C y ≤ ckN (C y) (T + q) (I 140 y).toInt := Nat.le_max_left _ _
    refine ⟨_, rfl, hc, Nat.div_le_div_right hc2, nB_c n2 hc, nB_c n1 c6, ?_, wn_eq hW hW2 (by omega), dv_eq hW hW2 (by omega), ?_⟩
    · unfold ckC
      rw [c1, c0]
      exact ck_eq (by omega) (by omega) (by omega)
    · rw [c2]
      exact ck_eq (by omega) (by omega) (by omega)
  refine (sp_pass (d := 3) (q := q) (nx := (T + q) / W) (D := T / W) hq2 g0 hG8 D0 hD2 (by rw [t0, w0, tq]; exact wn_eq hW hW2 (by omega)) hnx (fun y hy => ?_)).mono fun v I1 J1 qq => ?_
  · obtain ⟨c, -, -, -, c4, c5, c6, c7, -⟩ := gt y hy
    obtain ⟨⟨-, -, ⟨c3, -⟩, -⟩, -⟩ := a3 y hy
    rw [t0, w0, tq]
    exact ⟨⟨_, c5, c3⟩, _, c4, by rw [c6]; exact c7⟩
  obtain ⟨rfl, s1, s2, s3⟩ := qq
  rw [t0, tq] at s2
  rw [t0, w0, tq] at s3
  refine ⟨(by first | exact rfl | exact ⟨_, rfl⟩ | exact ⟨_, rfl, Or.inl rfl⟩ | exact ⟨_, rfl, Or.inr rfl⟩), ?_⟩
  intro I2 J2 hO
  obtain ⟨rfl, hJ⟩ := hO
  have gP0 : ∀ y, gP y = 24 + 14 * y := fun y => rfl
  -- the class's outcome
  have i0 : ∀ o, (o = 0 ∨ 8 ≤ o) → up2 (tnC I (T / W) ((T + q) / W) 3) 2 4 (nI ((T + q) / W)) o = I o := fun o ho => by
    rw [up2_ne _ _ _ (by omega), tnC_o _ _ _ ho]
  have r1 : ∀ o, (o = 0 ∨ 8 ≤ o) → (o < 24 ∨ 136 ≤ o) → I2 o = I o := fun o o1 o2 => by
    rw [s1 o (fun y j hy hj => by have := gP_e y; omega), i0 o o1]
  have r2 : ∀ y j, y < 8 → 4 ≤ j → j < 14 → I2 (gP y + j) = I (gP y + j) := fun y j hy h4 h14 => by
    have := gP_e y
    rw [s1 _ (fun y' j' hy' hj' => by have := gP_e y'; omega), i0 _ (by omega)]
  have r3 : ∀ j, j ≠ 4 → I2 2 j = I 2 j := fun j hj => by
    rw [s1 2 (fun y j hy hj => by have := gP_e y; omega), up2_k _ _ _ hj, tnC_2]
  have r4 : I2 2 4 = nI ((T + q) / W) := by
    rw [s1 2 (fun y j hy hj => by have := gP_e y; omega), up2_s]
  have r5 : ∀ z, z < 3 → I2 3 (sl3 ((T + q) / W) z) = (if T / W + 2 < (T + q) / W + z then nI B else I 3 (sl3 ((T + q) / W) z)) ∧ ∀ y, y < 8 → I2 (4 + 1 + sl3 ((T + q) / W) z) y = if T / W + 2 < (T + q) / W + z then 0 else I (4 + 1 + sl3 ((T + q) / W) z) y := fun z hz => by
    have hs := sl3_lt ((T + q) / W) z
    obtain ⟨b1, b2⟩ := tn_v (I := I) (wd := T / W) (nx := (T + q) / W) hz 3 (Nat.le_refl _)
    rw [s1 3 (fun y j hy hj => by have := gP_e y; omega), s1 (4 + 1 + sl3 ((T + q) / W) z) (fun y j hy hj => by have := gP_e y; omega), up2_ne _ _ _ (by omega), up2_ne _ _ _ (by omega), b1, l0]
    have ei : (z < 3 ∧ T / W + 2 < (T + q) / W + z) ↔ T / W + 2 < (T + q) / W + z := ⟨fun y => y.2, fun y => ⟨hz, y⟩⟩
    refine ⟨?_, fun y hy => ?_⟩
    · by_cases c : T / W + 2 < (T + q) / W + z
      · rw [if_pos (ei.mpr c), if_pos c]
      · rw [if_neg (fun y => c (ei.mp y)), if_neg c]
    · rw [b2 y hy]
      by_cases c : T / W + 2 < (T + q) / W + z
      · rw [if_pos (ei.mpr c), if_pos c]
      · rw [if_neg (fun y => c (ei.mp y)), if_neg c]
  have rj : ∀ o, ¬ (o = 0 ∨ (24 ≤ o ∧ o < 136) ∨ o = 158) → J2 o = J o := fun o ho => by
    funext i
    rw [hJ o (by omega), s2 o (fun y hy => by have := gP_e y; omega), up3_v, if_neg (by omega)]
  have rj0 : J2 0 10 = lN (T + q) := by
    rw [hJ 0 (by decide), s2 0 (fun y hy => by have := gP_e y; omega), up3_v, if_pos ⟨rfl, rfl⟩]
  -- a gate behind the class's call
  have rg : ∀ y, y < G → ∀ c, c = ckN (C y) (T + q) (I 140 y).toInt → J2 (gP y) 6 = lN c ∧ I2 (gP y) 7 = nI (c / W) ∧ (∀ i, i ≠ 7 → I2 (gP y) i = I (gP y) i) ∧ ∀ b z, b = 1 ∨ b = 2 ∨ b = 3 → z < 3 → I2 (gP y + b) (sl3 (c / W) z) = if C y / W + 2 < c / W + z then 0 else I (gP y + b) (sl3 (c / W) z) := by
    intro y hy c hc
    obtain ⟨c', d1, d2, d3, d4, d5, d6, d7, -⟩ := gt y hy
    have hcc : c' = c := by rw [d1, hc]
    subst hcc
    have gy := gP_e y
    obtain ⟨f1, f2⟩ := s3 y hy
    obtain ⟨⟨-, -, ⟨c3, -⟩, -⟩, -⟩ := a3 y hy
    have x0 : ∀ j, j < 14 → up2 (tnC I (T / W) ((T + q) / W) 3) 2 4 (nI ((T + q) / W)) (gP y + j) = I (gP y + j) := fun j hj => i0 _ (by omega)
    have xj : up3 J 0 10 (lN (T + q)) (gP y) = J (gP y) := by
      funext i; rw [up3_v, if_neg (by omega)]
    obtain ⟨x1, x2, x3⟩ := lk_ext (a := gP y) (t := lN (T + q)) (w := nI W) (x0 0 (by decide)) (x0 1 (by decide)) (x0 2 (by decide)) (x0 3 (by decide)) xj
    have g0' : I2 (gP y) = lkI I J (lN (T + q)) (nI W) (gP y) (gP y) := (f1 0 (by decide)).trans (x1 0 (by decide))
    have wne : wnI (ckC J I (gP y) (lN (T + q))) (nI W) = nI (c' / W) := by rw [d6]; exact d7
    refine ⟨?_, ?_, fun i hi => ?_, fun b z hb hz => ?_⟩
    · rw [hJ _ (by omega), f2, x2]
      unfold lkJ
      rw [up3_v, if_pos ⟨rfl, rfl⟩, d6]
    · rw [g0', lk_7]; exact wne
    · rw [g0', lk_0 hi]
    · rw [f1 b (by omega), x1 b (by omega), lk_v c3 (by omega) wne (by omega) hb hz]
  -- the reference's call
  have cl : ∀ y, y < G → clM I2 (up3 J2 136 5 (lN (T + q))) y = lN (ckN (C y) (T + q) (I 140 y).toInt) := fun y hy => by
    obtain ⟨c, d1, d2, d3, d4, d5, d6, d7, d8, d9⟩ := gt y hy
    unfold clM
    rw [up3_o _ _ _ (by decide), rj 141 (by omega), up3_v, if_pos (show (136 : Nat) = 136 ∧ (5 : Nat) = 5 from ⟨rfl, rfl⟩), r1 140 (by omega) (by omega), d9, d1]
  have j5 : J2 136 5 + (nI q).toInt64 = lN (T + q) := by rw [rj 136 (by omega), t1, tq]
  refine (sm_pass (d := 5) (J := J2) (q := q) (nx := (T + q) / W) (D := T / W) (wd := fun y => C y / W) (nw := fun y => ckN (C y) (T + q) (I 140 y).toInt / W) (G := G) hq2 (by rw [r1 136 (by omega) (by omega)]; exact g1) hG8 ?_ (by rw [r1 136 (by omega) (by omega)]; exact D1) ?_ hDn hnx (fun y hy => ?_)).mono fun v' S J' qq => ?_
  · rw [r1 136 (by omega) (by omega), w1]
    exact i2l_ne (nI_ne0 (by omega) (by omega))
  · rw [j5, r1 136 (by omega) (by omega), w1]
    exact dv_eq hW hW2 (by omega)
  · obtain ⟨c, d1, d2, d3, d4, d5, d6, d7, d8, d9⟩ := gt y hy
    obtain ⟨⟨-, -, ⟨-, c4⟩, -⟩, -⟩ := a3 y hy
    rw [j5, cl y hy, r1 136 (by omega) (by omega), r1 142 (by omega) (by omega), w1, ← d1]
    exact ⟨c4, d8, d3, d4⟩
  obtain ⟨rfl, m1, m2⟩ := qq
  rw [j5] at m2
  -- the reference's outcome, place by place
  have pa : ∀ o i, pa0 I2 ((T + q) / W - T / W) o i = if o = 137 ∧ i < 3 then (if i + ((T + q) / W - T / W) < 3 then I 137 (i + ((T + q) / W - T / W)) else nI B) else if o = 136 ∧ i = 0 then 0 else I2 o i := fun o i => by
    unfold pa0
    by_cases c : o = 137
    · subst c
      rw [mv_c, tw_o _ (by decide), r1 137 (by omega) (by omega), r1 136 (by omega) (by omega), l1]
      by_cases c2 : i < 3
      · rw [if_pos (show 0 ≤ i ∧ i < 0 + 3 by omega), if_pos (show (137 : Nat) = 137 ∧ i < 3 from ⟨rfl, c2⟩), Nat.sub_zero]
      · rw [if_neg (show ¬ (0 ≤ i ∧ i < 0 + 3) by omega), if_neg (show ¬ ((137 : Nat) = 137 ∧ i < 3) by omega), if_neg (show ¬ ((137 : Nat) = 136 ∧ i = 0) by omega)]
    · rw [mvM_o c, if_neg (by omega), tw_v]
  have pa' : ∀ o i, o ≠ 137 → o ≠ 136 → pa0 I2 ((T + q) / W - T / W) o i = I2 o i := fun o i o1 o2 => by
    rw [pa, if_neg (fun z => o1 z.1), if_neg (fun z => o2 z.1)]
  have fr : ∀ o, ¬ ((1 ≤ o ∧ o ≤ 7) ∨ (24 ≤ o ∧ o < 136) ∨ o = 136 ∨ o = 137 ∨ o = 138 ∨ o = 139 ∨ o = 142 ∨ o = 144 ∨ o = 145 ∨ o = 146) → S o = I o := fun o ho => by
    funext i
    rw [m1, if_neg (by omega), pv_d (by omega), pa, if_neg (by omega), if_neg (by omega), r1 o (by omega) (by omega)]
  have lo : ∀ o, o < 136 → S o = I2 o := fun o ho => by
    funext i
    rw [m1, if_neg (by omega), pv_d (by omega), pa, if_neg (by omega), if_neg (by omega)]
  have f136 : ∀ i, ¬ (i = 0 ∨ i = 8) → S 136 i = I 136 i := fun i hi => by
    rw [m1, if_neg (by omega), pv_d (by omega), pa, if_neg (by omega), if_neg (by omega), r1 136 (by omega) (by omega)]
  have z0 : S 136 0 = 0 := by rw [m1, if_neg (by omega), pv_d (by omega), pa, if_neg (by omega), if_pos ⟨rfl, rfl⟩]
  have z8 : S 136 8 = nI ((T + q) / W) := by rw [m1, if_pos ⟨rfl, rfl⟩]
  have v137 : ∀ k, k < 3 → S 137 k = if k + ((T + q) / W - T / W) < 3 then I 137 (k + ((T + q) / W - T / W)) else nI B := fun k hk => by
    rw [m1, if_neg (by omega), pv_d (by omega), pa, if_pos ⟨rfl, hk⟩]
  have v138 : ∀ o y k, o = 138 ∨ o = 139 → y < G → k < 3 → S o (3 * y + k) = if k + ((T + q) / W - T / W) < 3 then I o (3 * y + k + ((T + q) / W - T / W)) else 0 := fun o y k ho hy hk => by
    rw [m1, if_neg (show ¬ (o = 136 ∧ 3 * y + k = 8) by omega), pv_a ho, if_pos (show 3 * y + k < 3 * G by omega), pa' _ _ (by omega) (by omega), r1 o (by omega) (by omega), show (3 * y + k) % 3 = k by omega]
  have x138 : ∀ o i, o = 138 ∨ o = 139 → 3 * G ≤ i → S o i = I o i := fun o i ho hi => by
    rw [m1, if_neg (by omega), pv_a ho, if_neg (by omega), pa, if_neg (by omega), if_neg (by omega), r1 o (by omega) (by omega)]
  have v144 : ∀ y c, y < G → c = ckN (C y) (T + q) (I 140 y).toInt → ∀ o k, o = 144 ∨ o = 145 ∨ o = 146 → k < 3 → S o (3 * y + k) = if k + (c / W - C y / W) < 3 then I o (3 * y + k + (c / W - C y / W)) else 0 := fun y c hy hc o k ho hk => by
    rw [m1, if_neg (show ¬ (o = 136 ∧ 3 * y + k = 8) by omega), pv_b ho, if_pos (show 3 * y + k < 3 * G by omega), show (3 * y + k) % 3 = k by omega, show (3 * y + k) / 3 = y by omega, pa' _ _ (by omega) (by omega), r1 o (by omega) (by omega), hc]
  have v142 : ∀ y, y < G → S 142 y = nI (ckN (C y) (T + q) (I 140 y).toInt / W) := fun y hy => by
    rw [m1, if_neg (by omega), pv_c, if_pos hy]
  have w141 : ∀ y, y < G → J' 141 y = lN (ckN (C y) (T + q) (I 140 y).toInt) := fun y hy => by
    rw [m2, if_pos ⟨rfl, hy⟩, ← cl y hy]
  have w5 : J' 136 5 = lN (T + q) := by rw [m2, if_neg (by omega), up3_v, if_pos ⟨rfl, rfl⟩]
  have wj : ∀ o, ¬ (o = 136 ∨ o = 141) → J' o = J2 o := fun o ho => by
    funext i
    rw [m2, if_neg (by omega), up3_v, if_neg (by omega)]
  have frJ : ∀ o, ¬ (o = 0 ∨ (24 ≤ o ∧ o < 136) ∨ o = 136 ∨ o = 141 ∨ o = 158) → J' o = J o := fun o ho => by
    rw [wj o (by omega), rj o (by omega)]
  refine ⟨rfl, z0, wj 158 (by omega), ?_⟩
  clear m1 m2 pa pa'
  have k7 : cPl G U (sN S) (tN S) S S := by
    have es : sN S = sN I := by funext l; unfold sN; rw [fr 149 (by omega)]
    have et : tN S = tN I := by funext l; unfold tN; rw [fr 150 (by omega)]
    rw [es, et]
    exact cPl_x a7 (f136 24 (by omega)) (fr 151 (by omega)) (fr 12 (by omega)) (fr 13 (by omega)) (fun _ => Nat.le_refl _) (fun _ => Nat.le_refl _) (fun _ _ _ _ => rfl)
  have k9 : cAd (m + 1) rs S J' S J' := cAd_x a9 (Nat.le_succ _) (f136 27 (by omega)) (frJ 153 (by omega)) (fr 19 (by omega)) (fr 21 (by omega)) (frJ 20 (by omega))
  have k10 : cUs G S S := cUs_x a10 (fr 152 (by omega)) (fr 22 (by omega)) (fun l _ _ => by rw [fr 149 (by omega), fr 148 (by omega)]; exact ⟨rfl, rfl⟩) (fun y hy _ => ⟨by rw [lo _ (by have := gP_e y; omega)]; exact r2 y 4 hy (by omega) (by omega), by rw [lo _ (by have := gP_e y; omega)]; exact r2 y 9 hy (by omega) (by omega)⟩)
  have k2 : cSc B W E G (T + q) S J' S J' := by
    unfold cSc
    rw [f136 1 (by omega), f136 2 (by omega), f136 3 (by omega), f136 4 (by omega), f136 6 (by omega), f136 7 (by omega), z8, lo 2 (by omega), r3 3 (by omega), r3 5 (by omega), r3 6 (by omega), r4, fr 0 (by omega), wj 0 (by omega), rj0, w5]
    refine ⟨⟨l0, l1, w0, w1, e0, e1, g0, g1⟩, ⟨rfl, rfl⟩, ⟨rfl, rfl⟩, u0, u1.imp id fun z => ⟨z.1, z.2.1, fun i hi => ?_⟩⟩
    by_cases c : i < 3 * G
    · have e := v138 138 (i / 3) (i % 3) (Or.inl rfl) (by omega) (by omega)
      rw [show 3 * (i / 3) + i % 3 = i by omega] at e
      rw [e]
      by_cases c2 : i % 3 + ((T + q) / W - T / W) < 3
      · rw [if_pos c2]; exact z.2.2 _ (by omega)
      · rw [if_neg c2]
    · rw [x138 138 i (Or.inl rfl) (by omega)]; exact z.2.2 i hi
  have k3 : cGts W E G (T + q) (fun y => ckN (C y) (T + q) (I 140 y).toInt) S J' S J' := by
    intro y hy
    have gy := gP_e y
    obtain ⟨⟨c0, c1, c2, c5, c6⟩, hK⟩ := a3 y hy
    obtain ⟨c, d1, d2, d3, d4, d5, d6, d7, d8, d9⟩ := gt y hy
    obtain ⟨f1, f2, f3, f4⟩ := rg y hy c d1
    refine ⟨?_, ?_⟩
    · show gG W E (T + q) (ckN (C y) (T + q) (I 140 y).toInt) y S J' S J'
      unfold gG
      rw [lo (gP y) (by omega), f3 5 (by decide), f3 8 (by decide), f2, fr 140 (by omega), fr 143 (by omega), v142 y hy, w141 y hy, wj (gP y) (by omega), f1, ← d1]
      exact ⟨c0, ⟨rfl, rfl⟩, ⟨rfl, rfl⟩, c5, d2⟩
    · show gK (ckN (C y) (T + q) (I 140 y).toInt / W) y S S
      rw [← d1]
      exact lk_gK hK d3 (fun b z hb hz => by rw [lo _ (by omega)]; exact f4 b z hb hz) (v144 y c hy d1)
  have k4 : cUn ((T + q) / W) S S := by
    intro k hk
    refine ⟨fun h1 => ?_, fun h0 => ?_⟩
    · rw [lo 3 (by omega), (r5 k hk).1, v137 k hk]
      by_cases c : k + ((T + q) / W - T / W) < 3
      · rw [if_pos c, if_neg (by omega), show sl3 ((T + q) / W) k = sl3 (T / W) (k + ((T + q) / W - T / W)) by unfold sl3; omega]
        exact (a4 _ c).1 (by omega)
      · rw [if_neg c, if_pos (by omega)]
    · obtain ⟨z1, z2⟩ := Nat.add_eq_zero_iff.mp h0
      have z3 : T / W = 0 := Nat.le_zero.mp (by rw [z1] at hDn; exact hDn)
      rw [v137 k hk, z1, z2, Nat.zero_sub, if_pos (by decide)]
      exact (a4 0 (by decide)).2 z3
  have k5 : cWa ((T + q) / W) G S S := by
    intro y hy k hk
    have hs := sl3_lt ((T + q) / W) k
    have nn : ¬ S (8 + 1 + sl3 ((T + q) / W) k) y < 0 := by
      rw [fr _ (by omega)]
      obtain ⟨k', k1, k2⟩ := sl_all (T / W) hs
      rw [← k2]
      exact (a5 y hy k' k1).2.2.1
    rw [lo (4 + 1 + sl3 ((T + q) / W) k) (by omega), (r5 k hk).2 y hy]
    by_cases cG : y < G
    · rw [v138 138 y k (Or.inl rfl) cG hk, v138 139 y k (Or.inr rfl) cG hk]
      by_cases c : k + ((T + q) / W - T / W) < 3
      · have e : sl3 ((T + q) / W) k = sl3 (T / W) (k + ((T + q) / W - T / W)) := by unfold sl3; omega
        rw [if_pos c, if_pos c, if_neg (by omega), fr (8 + 1 + sl3 ((T + q) / W) k) (by omega), e, show 3 * y + k + ((T + q) / W - T / W) = 3 * y + (k + ((T + q) / W - T / W)) from Nat.add_assoc _ _ _]
        exact a5 y hy _ c
      · rw [if_neg c, if_neg c, if_pos (by omega)]
        exact ⟨⟨rfl, by decide, fun _ => rfl⟩, by decide, nn, fun z => absurd rfl z⟩
    · rw [x138 138 _ (Or.inl rfl) (by omega), x138 139 _ (Or.inr rfl) (by omega)]
      obtain ⟨⟨b1, b2, b3⟩, b4, b5, b6⟩ := a5 y hy k hk
      have ez : I (4 + 1 + sl3 ((T + q) / W) k) y = 0 := by
        obtain ⟨k', k1, k2⟩ := sl_all (T / W) hs
        rw [← k2, (a5 y hy k' k1).1.1]
        exact (a5 y hy k' k1).1.2.2 (by omega)
      rw [b3 (by omega)]
      refine ⟨⟨?_, by decide, fun _ => rfl⟩, b4, nn, fun z => absurd rfl z⟩
      by_cases c : T / W + 2 < (T + q) / W + k
      · rw [if_pos c]
      · rw [if_neg c]; exact ez
  have k6 : cWys G U S S := cWys_x a6 (fr 149 (by omega)) (fr 148 (by omega)) (fr 150 (by omega)) (fr 147 (by omega)) (fun y j hy h4 h14 => by rw [lo _ (by have := gP_e y; omega)]; exact r2 y j (by omega) h4 h14)
  have k8 : cBd (m + 1) G U S := by
    intro y hy
    obtain ⟨b1', b2', b3', b4'⟩ := a8 y hy
    have es : sN S = sN I := by funext l; unfold sN; rw [fr 149 (by omega)]
    have et : tN S = tN I := by funext l; unfold tN; rw [fr 150 (by omega)]
    have eh : hS S 144 y ≤ hS I 144 y := lk_hS fun k hk => v144 y _ hy rfl 144 k (Or.inl rfl) hk
    have ew : hS S 138 y ≤ hS I 138 y := lk_hS fun k hk => v138 138 y k (Or.inl rfl) hy hk
    rw [es, et]
    exact ⟨Nat.le_trans b1' (Nat.le_succ _), Nat.le_trans eh b2', by omega, b4'⟩
  exact ⟨B, W, E, G, T + q, _, U, rs, n2, k2, k3, k4, k5, k6, k7, k8, k9, k10⟩
end PAIR8

