/-! pairs: desk, lose, twice, resend -/
section PAIR3
variable {m : Nat} {I : T2} {J : T3}
theorem tw_v (v : Int32) (o i : Nat) : tw I v o i = if o = 136 ∧ i = 0 then v else I o i := up2_v _ _ _ _ _ _
theorem pr_desk (h : Rel m I J I J) (hm : m < 512) {b : Int32} (hb : b = 0 ∨ b = 1) : PrRd 7 mX6_desk [.int b] mX7_desk [.int b] m I J := by
  obtain ⟨B, W, E, G, T, C, U, rs, h9⟩ := id h
  obtain ⟨n1, a2, a3, a4, a5, a6, a7, a8, a9, a10⟩ := id h9
  have hG8 : G ≤ 8 := n1.2.2.2.2.2.1
  obtain ⟨q1, q2, q3, q4, q5⟩ := id a2
  rcases q5 with ⟨u1, u2⟩ | ⟨u1, u2, u3⟩
  · rcases hb with rfl | rfl
    · -- up, and stays so
      refine (sp_desk0 (d := 5) (b := 0) (by rw [u1]; decide)).mono fun v I1 J1 q => ?_
      obtain ⟨rfl, rfl, rfl⟩ := q
      refine ⟨(by first | exact rfl | exact ⟨_, rfl⟩ | exact ⟨_, rfl, Or.inl rfl⟩ | exact ⟨_, rfl, Or.inr rfl⟩), ?_⟩
      intro I2 J2 hO
      obtain ⟨rfl, hJ⟩ := hO
      refine (sm_desk0 (Or.inl rfl) rfl).mono fun v' I' J' q => ?_
      obtain ⟨rfl, rfl, rfl⟩ := q
      refine ⟨by rw [u2, if_pos rfl], by rw [up2_k _ _ _ (by decide), tw_0], rfl, ⟨B, W, E, G, T, C, U, rs, Rl_m (Rl_x h9 (fun j hj => ?_) (fun o o1 o2 => ?_) ⟨?_, ?_, ?_⟩ (fun o ho _ _ => ?_) (fun o ho _ => hJ o (by omega))) hm⟩⟩
      · rw [up2_v, tw_k _ hj]
        by_cases c : j = 7
        · rw [if_pos ⟨rfl, c⟩, c, u2]
        · rw [if_neg (fun z => c z.2)]
      · rw [up2_ne _ _ _ (by omega), tw_o _ (by omega)]
      · rw [hJ 136 (by decide)]
      · rw [hJ 141 (by decide)]
      · rw [hJ 153 (by decide)]
      · rw [up2_ne _ _ _ (by omega), tw_o _ (by omega)]
    · -- goes down
      refine (sp_desk1 (d := 5) u1).mono fun v I1 J1 q => ?_
      obtain ⟨rfl, rfl, rfl⟩ := q
      refine ⟨(by first | exact rfl | exact ⟨_, rfl⟩ | exact ⟨_, rfl, Or.inl rfl⟩ | exact ⟨_, rfl, Or.inr rfl⟩), ?_⟩
      intro I2 J2 hO
      obtain ⟨rfl, hJ⟩ := hO
      refine (sm_desk1).mono fun v' I' J' q => ?_
      obtain ⟨rfl, rfl, rfl⟩ := q
      have vv : ∀ o i, wzM (up2 (tw (fgC (up2 I 2 6 0) 3) 0) 136 7 1) 24 o i = if o = 138 ∧ i < 24 then 0 else if o = 136 ∧ i = 7 then 1 else if o = 136 ∧ i = 0 then 0 else if 5 ≤ o ∧ o < 5 + 3 ∧ i < 8 then 0 else if o = 2 ∧ i = 6 then 0 else I o i := fun o i => by
        rw [wz_v, up2_v, tw_v, fg_v, up2_v]
      refine ⟨?_, by rw [vv, if_neg (by omega), if_neg (by omega), if_pos ⟨rfl, rfl⟩], rfl, ?_⟩
      · rw [fgC_o _ 3 (fun j hj => by omega), up2_ne _ _ _ (by decide), u2, if_neg (by decide)]
      have fr : ∀ o, ¬ (o = 2 ∨ o = 5 ∨ o = 6 ∨ o = 7 ∨ o = 136 ∨ o = 138) → wzM (up2 (tw (fgC (up2 I 2 6 0) 3) 0) 136 7 1) 24 o = I o := fun o ho => by
        funext i
        rw [vv, if_neg (by omega), if_neg (by omega), if_neg (by omega), if_neg (by omega), if_neg (by omega)]
      have frJ : ∀ o, ¬ (o = 158) → J2 o = J o := hJ
      have f136 : ∀ j, ¬ (j = 0 ∨ j = 7) → wzM (up2 (tw (fgC (up2 I 2 6 0) 3) 0) 136 7 1) 24 136 j = I 136 j := fun j hj => by
        rw [vv, if_neg (by omega), if_neg (by omega), if_neg (by omega), if_neg (by omega), if_neg (by omega)]
      have f2 : ∀ j, ¬ (j = 6) → wzM (up2 (tw (fgC (up2 I 2 6 0) 3) 0) 136 7 1) 24 2 j = I 2 j := fun j hj => by
        rw [vv, if_neg (by omega), if_neg (by omega), if_neg (by omega), if_neg (by omega), if_neg (by omega)]
      have e26 : wzM (up2 (tw (fgC (up2 I 2 6 0) 3) 0) 136 7 1) 24 2 6 = 0 := by
        rw [vv, if_neg (by omega), if_neg (by omega), if_neg (by omega), if_neg (by omega), if_pos ⟨rfl, rfl⟩]
      have e7 : wzM (up2 (tw (fgC (up2 I 2 6 0) 3) 0) 136 7 1) 24 136 7 = 1 := by
        rw [vv, if_neg (by omega), if_pos ⟨rfl, rfl⟩]
      have e138 : ∀ i, i < 24 → wzM (up2 (tw (fgC (up2 I 2 6 0) 3) 0) 136 7 1) 24 138 i = 0 := fun i hi => by
        rw [vv, if_pos ⟨rfl, hi⟩]
      have e5 : ∀ o i, 5 ≤ o → o < 8 → i < 8 → wzM (up2 (tw (fgC (up2 I 2 6 0) 3) 0) 136 7 1) 24 o i = 0 := fun o i o1 o2 hi => by
        rw [vv, if_neg (by omega), if_neg (by omega), if_neg (by omega), if_pos ⟨by omega, by omega, hi⟩]
      generalize wzM (up2 (tw (fgC (up2 I 2 6 0) 3) 0) 136 7 1) 24 = S at *
      have k3 : cGts W E G T C S J2 S J2 := cGts_x a3 (fun o _ _ => fr o (by omega)) (frJ 141 (by omega)) (fun x _ hx _ => fr _ (by have := gP_e x; omega)) (fun x hx => frJ _ (by have := gP_e x; omega))
      have k4 : cUn (T / W) S S := cUn_x a4 (fr 137 (by omega)) (fr 3 (by omega))
      have k6 : cWys G U S S := cWys_x a6 (fr 149 (by omega)) (fr 148 (by omega)) (fr 150 (by omega)) (fr 147 (by omega)) (fun x _ hx _ _ => fr _ (by have := gP_e x; omega))
      have k7 : cPl G U (sN S) (tN S) S S := by
        have es : sN S = sN I := by funext l; unfold sN; rw [fr 149 (by omega)]
        have et : tN S = tN I := by funext l; unfold tN; rw [fr 150 (by omega)]
        rw [es, et]
        exact cPl_x a7 (f136 24 (by omega)) (fr 151 (by omega)) (fr 12 (by omega)) (fr 13 (by omega)) (fun _ => Nat.le_refl _) (fun _ => Nat.le_refl _) (fun _ _ _ _ => rfl)
      have k9 : cAd (m + 1) rs S J2 S J2 := cAd_x a9 (Nat.le_succ _) (f136 27 (by omega)) (frJ 153 (by omega)) (fr 19 (by omega)) (fr 21 (by omega)) (frJ 20 (by omega))
      have k10 : cUs G S S := cUs_x a10 (fr 152 (by omega)) (fr 22 (by omega)) (fun l _ _ => by rw [fr 149 (by omega), fr 148 (by omega)]; exact ⟨rfl, rfl⟩) (fun y hy hg => ⟨fr _ (by have := gP_e y; omega), fr _ (by have := gP_e y; omega)⟩)
      have k2 : cSc B W E G T S J2 S J2 := by
        unfold cSc
        rw [f136 1 (by omega), f136 2 (by omega), f136 3 (by omega), f136 4 (by omega), f136 6 (by omega), f136 8 (by omega), f2 3 (by omega), f2 4 (by omega), f2 5 (by omega), fr 0 (by omega), frJ 136 (by omega), frJ 0 (by omega), e26, e7]
        exact ⟨q1, q2, q3, q4, Or.inr ⟨rfl, rfl, e138⟩⟩
      have k5 : cWa (T / W) G S S := by
        intro x hx k hk
        have hs := sl3_lt (T / W) k
        obtain ⟨-, b2, b3, -⟩ := a5 x hx k hk
        rw [e5 _ x (by omega) (by omega) hx, e138 _ (by omega), fr 139 (by omega), fr (8 + 1 + sl3 (T / W) k) (by omega)]
        exact ⟨⟨rfl, by decide, fun _ => rfl⟩, b2, b3, fun z => absurd rfl z⟩
      have k8 : cBd (m + 1) G U S := by
        intro x hx
        obtain ⟨b1, b2, b3, b4⟩ := a8 x hx
        have es : sN S = sN I := by funext l; unfold sN; rw [fr 149 (by omega)]
        have et : tN S = tN I := by funext l; unfold tN; rw [fr 150 (by omega)]
        rw [es, et]
        have e1 : hS S 144 x = hS I 144 x := by unfold hS; rw [fr 144 (by omega)]
        have e2 : hS S 138 x = 0 := by unfold hS; rw [e138 _ (by omega), e138 _ (by omega), e138 _ (by omega)]; decide
        rw [e1, e2]
        exact ⟨Nat.le_trans b1 (Nat.le_succ _), b2, by omega, b4⟩
      exact ⟨B, W, E, G, T, C, U, rs, nB_m n1 hm, k2, k3, k4, k5, k6, k7, k8, k9, k10⟩
  · rcases hb with rfl | rfl
    · -- comes up
      refine (sp_desk2 (d := 5) u1).mono fun v I1 J1 q => ?_
      obtain ⟨rfl, rfl, rfl⟩ := q
      refine ⟨(by first | exact rfl | exact ⟨_, rfl⟩ | exact ⟨_, rfl, Or.inl rfl⟩ | exact ⟨_, rfl, Or.inr rfl⟩), ?_⟩
      intro I2 J2 hO
      obtain ⟨rfl, hJ⟩ := hO
      refine (sm_desk0 (Or.inl rfl) rfl).mono fun v' I' J' q => ?_
      obtain ⟨rfl, rfl, rfl⟩ := q
      refine ⟨by rw [up2_ne _ _ _ (by decide), u2, if_neg (by decide)], by rw [up2_k _ _ _ (by decide), tw_0], rfl, ?_⟩
      have fr : ∀ o, ¬ (o = 2 ∨ o = 136) → up2 (tw (up2 I 2 6 1) 0) 136 7 0 o = I o := fun o ho => by
        rw [up2_ne _ _ _ (by omega), tw_o _ (by omega), up2_ne _ _ _ (by omega)]
      have frJ : ∀ o, ¬ (o = 158) → J2 o = J o := hJ
      have f136 : ∀ j, ¬ (j = 0 ∨ j = 7) → up2 (tw (up2 I 2 6 1) 0) 136 7 0 136 j = I 136 j := fun j hj => by
        rw [up2_k _ _ _ (by omega), tw_k _ (by omega), up2_ne _ _ _ (by decide)]
      have f2 : ∀ j, ¬ (j = 6) → up2 (tw (up2 I 2 6 1) 0) 136 7 0 2 j = I 2 j := fun j hj => by
        rw [up2_ne _ _ _ (by decide), tw_o _ (by decide), up2_k _ _ _ hj]
      have e26 : up2 (tw (up2 I 2 6 1) 0) 136 7 0 2 6 = 1 := by
        rw [up2_ne _ _ _ (by decide), tw_o _ (by decide), up2_s]
      have e7 : up2 (tw (up2 I 2 6 1) 0) 136 7 0 136 7 = 0 := by rw [up2_s]
      generalize up2 (tw (up2 I 2 6 1) 0) 136 7 0 = S at *
      have k3 : cGts W E G T C S J2 S J2 := cGts_x a3 (fun o _ _ => fr o (by omega)) (frJ 141 (by omega)) (fun x _ hx _ => fr _ (by have := gP_e x; omega)) (fun x hx => frJ _ (by have := gP_e x; omega))
      have k4 : cUn (T / W) S S := cUn_x a4 (fr 137 (by omega)) (fr 3 (by omega))
      have k5 : cWa (T / W) G S S := cWa_x a5 (fr 138 (by omega)) (fr 139 (by omega)) (fun o _ _ _ => fr o (by omega))
      have k6 : cWys G U S S := cWys_x a6 (fr 149 (by omega)) (fr 148 (by omega)) (fr 150 (by omega)) (fr 147 (by omega)) (fun x _ hx _ _ => fr _ (by have := gP_e x; omega))
      have k7 : cPl G U (sN S) (tN S) S S := by
        have es : sN S = sN I := by funext l; unfold sN; rw [fr 149 (by omega)]
        have et : tN S = tN I := by funext l; unfold tN; rw [fr 150 (by omega)]
        rw [es, et]
        exact cPl_x a7 (f136 24 (by omega)) (fr 151 (by omega)) (fr 12 (by omega)) (fr 13 (by omega)) (fun _ => Nat.le_refl _) (fun _ => Nat.le_refl _) (fun _ _ _ _ => rfl)
      have k8 : cBd (m + 1) G U S := cBd_x a8 (Nat.le_succ _) (fr 149 (by omega)) (fr 150 (by omega)) (fr 144 (by omega)) (fr 138 (by omega))
      have k9 : cAd (m + 1) rs S J2 S J2 := cAd_x a9 (Nat.le_succ _) (f136 27 (by omega)) (frJ 153 (by omega)) (fr 19 (by omega)) (fr 21 (by omega)) (frJ 20 (by omega))
      have k10 : cUs G S S := cUs_x a10 (fr 152 (by omega)) (fr 22 (by omega)) (fun l _ _ => by rw [fr 149 (by omega), fr 148 (by omega)]; exact ⟨rfl, rfl⟩) (fun y hy hg => ⟨fr _ (by have := gP_e y; omega), fr _ (by have := gP_e y; omega)⟩)
      have k2 : cSc B W E G T S J2 S J2 := by
        unfold cSc
        rw [f136 1 (by omega), f136 2 (by omega), f136 3 (by omega), f136 4 (by omega), f136 6 (by omega), f136 8 (by omega), f2 3 (by omega), f2 4 (by omega), f2 5 (by omega), fr 0 (by omega), frJ 136 (by omega), frJ 0 (by omega), e26, e7]
        exact ⟨q1, q2, q3, q4, Or.inl ⟨rfl, rfl⟩⟩
      exact ⟨B, W, E, G, T, C, U, rs, nB_m n1 hm, k2, k3, k4, k5, k6, k7, k8, k9, k10⟩
    · -- down, and stays so
      refine (sp_desk0 (d := 5) (b := 1) (by rw [u1]; decide)).mono fun v I1 J1 q => ?_
      obtain ⟨rfl, rfl, rfl⟩ := q
      refine ⟨(by first | exact rfl | exact ⟨_, rfl⟩ | exact ⟨_, rfl, Or.inl rfl⟩ | exact ⟨_, rfl, Or.inr rfl⟩), ?_⟩
      intro I2 J2 hO
      obtain ⟨rfl, hJ⟩ := hO
      refine (sm_desk1).mono fun v' I' J' q => ?_
      obtain ⟨rfl, rfl, rfl⟩ := q
      have vv : ∀ o i, wzM (up2 (tw I2 0) 136 7 1) 24 o i = if o = 136 ∧ i = 0 then 0 else I2 o i := fun o i => by
        rw [wz_v, up2_v, tw_v]
        by_cases c : o = 138 ∧ i < 24
        · rw [if_pos c, if_neg (by omega), c.1, u3 i c.2]
        · rw [if_neg c]
          by_cases c2 : o = 136 ∧ i = 7
          · rw [if_pos c2, if_neg (by omega), c2.1, c2.2, u2]
          · rw [if_neg c2]
      refine ⟨by rw [u2, if_pos rfl], by rw [vv, if_pos ⟨rfl, rfl⟩], rfl, ⟨B, W, E, G, T, C, U, rs, Rl_m (Rl_x h9 (fun j hj => ?_) (fun o o1 o2 => ?_) ⟨?_, ?_, ?_⟩ (fun o ho _ _ => ?_) (fun o ho _ => hJ o (by omega))) hm⟩⟩
      · rw [vv, if_neg (by omega)]
      · funext i
        rw [vv, if_neg (by omega)]
      · rw [hJ 136 (by decide)]
      · rw [hJ 141 (by decide)]
      · rw [hJ 153 (by decide)]
      · funext i
        rw [vv, if_neg (by omega)]
/-- only the pool has changed -/
theorem Rl_pool {B W E G T : Nat} {C : Nat → Nat} {U : Nat → Nat → Nat} {rs : Rw} {S : T2} {J2 : T3} (h9 : Rl m B W E G T C U rs I J I J) (hm : m < 512) (fr : ∀ o, ¬ (o = 12 ∨ o = 13 ∨ o = 23 ∨ o = 136 ∨ o = 151) → S o = I o) (f136 : ∀ j, ¬ (j = 0 ∨ j = 24) → S 136 j = I 136 j) (frJ : ∀ o, ¬ (o = 158) → J2 o = J o) (hp : cPl G U (sN I) (tN I) S S) : Rel (m + 1) S J2 S J2 := by
  obtain ⟨n1, a2, a3, a4, a5, a6, a7, a8, a9, a10⟩ := h9
  have hG8 : G ≤ 8 := n1.2.2.2.2.2.1
  have k2 : cSc B W E G T S J2 S J2 := cSc_x a2 (fun j _ _ => f136 j (by omega)) (by rw [frJ 136 (by omega)]) (fr 0 (by omega)) (fun j _ _ => by rw [fr 2 (by omega)]) (by rw [frJ 0 (by omega)]) (fun i _ z => by rw [fr 138 (by omega)]; exact z)
  have k3 : cGts W E G T C S J2 S J2 := cGts_x a3 (fun o _ _ => fr o (by omega)) (frJ 141 (by omega)) (fun x _ hx _ => fr _ (by have := gP_e x; omega)) (fun x hx => frJ _ (by have := gP_e x; omega))
  have k4 : cUn (T / W) S S := cUn_x a4 (fr 137 (by omega)) (fr 3 (by omega))
  have k5 : cWa (T / W) G S S := cWa_x a5 (fr 138 (by omega)) (fr 139 (by omega)) (fun o _ _ _ => fr o (by omega))
  have k6 : cWys G U S S := cWys_x a6 (fr 149 (by omega)) (fr 148 (by omega)) (fr 150 (by omega)) (fr 147 (by omega)) (fun x _ hx _ _ => fr _ (by have := gP_e x; omega))
  have k8 : cBd (m + 1) G U S := cBd_x a8 (Nat.le_succ _) (fr 149 (by omega)) (fr 150 (by omega)) (fr 144 (by omega)) (fr 138 (by omega))
  have k9 : cAd (m + 1) rs S J2 S J2 := cAd_x a9 (Nat.le_succ _) (f136 27 (by omega)) (frJ 153 (by omega)) (fr 19 (by omega)) (fr 21 (by omega)) (frJ 20 (by omega))
  have k10 : cUs G S S := cUs_x a10 (fr 152 (by omega)) (fr 22 (by omega)) (fun l _ _ => by rw [fr 149 (by omega), fr 148 (by omega)]; exact ⟨rfl, rfl⟩) (fun y hy hg => ⟨fr _ (by have := gP_e y; omega), fr _ (by have := gP_e y; omega)⟩)
  have es : sN S = sN I := by funext l; unfold sN; rw [fr 149 (by omega)]
  have et : tN S = tN I := by funext l; unfold tN; rw [fr 150 (by omega)]
  exact ⟨B, W, E, G, T, C, U, rs, nB_m n1 hm, k2, k3, k4, k5, k6, by rw [es, et]; exact hp, k8, k9, k10⟩
theorem rm_o {A : T2} {n i o : Nat} (h1 : o ≠ 136) (h2 : o ≠ 151) : rmM A n i o = A o := by
  unfold rmM
  rw [up2_ne _ _ _ h1, upr_ne _ _ h2]
theorem rm_k {A : T2} {n i j : Nat} (h : j ≠ 24) : rmM A n i 136 j = A 136 j := by
  unfold rmM
  rw [up2_k _ _ _ h, upr_ne _ _ (by decide)]
theorem pr_lose (h : Rel m I J I J) (hm : m < 512) (x : Int32) : PrT mX6_lose [.int x] mX7_lose [.int x] eIB 1 m I J ∨ PrR mX6_lose [.int x] mX7_lose [.int x] m I J := by
  obtain ⟨B, W, E, G, T, C, U, rs, h9⟩ := id h
  obtain ⟨-, -, -, -, -, -, a7, -⟩ := id h9
  obtain ⟨f, n, p1, p2, p3⟩ := id a7
  have hn : n ≤ 200 := p1.2.2.2
  rcases pk_ix x (n := n) (by omega) with hx | hx | ⟨j, hj, rfl⟩
  · exact Or.inl (pr_t h hm (sp_loseB (Or.inl hx)) (sm_loseB (Or.inl hx)))
  · exact Or.inl (pr_t h hm (sp_loseB (by rw [p1.2.1]; exact Or.inr hx)) (sm_loseB (by rw [p2]; exact Or.inr hx)))
  · right
    refine (sp_lose p1 hj).mono fun v I1 J1 q => ?_
    obtain ⟨rfl, rfl, rfl⟩ := q
    refine ⟨(by first | exact rfl | exact ⟨_, rfl⟩ | exact ⟨_, rfl, Or.inl rfl⟩ | exact ⟨_, rfl, Or.inr rfl⟩), ?_⟩
    intro I2 J2 hO
    obtain ⟨rfl, hJ⟩ := hO
    have e136 : remC I f n j 136 = I 136 := remC_o (by decide) (by decide)
    refine (sm_lose (n := n) (by rw [e136]; exact p2) hn hj).mono fun v' I' J' q => ?_
    obtain ⟨rfl, rfl, rfl⟩ := q
    refine ⟨rfl, by rw [rm_k (by decide), tw_0], rfl, Rl_pool h9 hm (fun o ho => ?_) (fun i hi => ?_) hJ ?_⟩
    · rw [rm_o (by omega) (by omega), tw_o _ (by omega), remC_o (by omega) (by omega)]
    · rw [rm_k (by omega), tw_k _ (by omega), e136]
    · have q1 : cPl G U (sN I) (tN I) (tw (remC I f n j) 0) I := cPl_x a7 (by rw [tw_k _ (by decide), e136]) (by rw [tw_o _ (by decide), remC_o (by decide) (by decide)]) rfl rfl (fun _ => Nat.le_refl _) (fun _ => Nat.le_refl _) (fun _ _ _ _ => rfl)
      have q2 := cPl_rem q1 p1 hj
      exact cPl_x q2 rfl rfl (by rw [rm_o (by decide) (by decide), tw_o _ (by decide)]) (by rw [rm_o (by decide) (by decide), tw_o _ (by decide)]) (fun _ => Nat.le_refl _) (fun _ => Nat.le_refl _) (fun _ _ _ _ => rfl)
theorem pM_n {A : T2} {n : Nat} {so g nu w u t : Int32} (hn : A 136 24 = nI n) (h : n < 2 ^ 31) : ptM A n so g nu w u t = pM A so g nu w u t := by
  unfold pM; rw [hn, nI_clamp h]
theorem pr_twice (h : Rel m I J I J) (hm : m < 512) (x : Int32) : PrT mX6_twice [.int x] mX7_twice [.int x] eIB 1 m I J ∨ PrT mX6_twice [.int x] mX7_twice [.int x] eIA 2 m I J ∨ PrR mX6_twice [.int x] mX7_twice [.int x] m I J := by
  obtain ⟨B, W, E, G, T, C, U, rs, h9⟩ := id h
  obtain ⟨-, -, -, -, -, -, a7, -⟩ := id h9
  obtain ⟨f, n, p1, p2, p3⟩ := id a7
  have hn : n ≤ 200 := p1.2.2.2
  rcases pk_ix x (n := n) (by omega) with hx | hx | ⟨j, hj, rfl⟩
  · exact Or.inl (pr_t h hm (sp_twiceB (Or.inl hx)) (sm_twiceB (Or.inl hx)))
  · exact Or.inl (pr_t h hm (sp_twiceB (by rw [p1.2.1]; exact Or.inr hx)) (sm_twiceB (by rw [p2]; exact Or.inr hx)))
  · right
    by_cases c : n = 200
    · subst c
      exact Or.inl (pr_t h hm (sp_twiceT p1 hj) (sm_twiceT p2 hj))
    · right
      obtain ⟨b1, b2⟩ := p3 j hj
      refine (sp_twice p1 hj (by omega)).mono fun v I1 J1 q => ?_
      obtain ⟨rfl, rfl, rfl⟩ := q
      refine ⟨(by first | exact rfl | exact ⟨_, rfl⟩ | exact ⟨_, rfl, Or.inl rfl⟩ | exact ⟨_, rfl, Or.inr rfl⟩), ?_⟩
      intro I2 J2 hO
      obtain ⟨rfl, hJ⟩ := hO
      have b0 : ltC I f j 0 = I 151 (6 * j) := b1 0 (by decide)
      rw [b0, b1 1 (by decide), b1 2 (by decide), b1 3 (by decide), b1 4 (by decide), b1 5 (by decide)]
      have qc : ∀ o, o ≠ 23 → cpyC I f j o = I o := fun o ho => by unfold cpyC; rw [upr_ne _ _ ho]
      generalize hS1 : putC (cpyC I f j) (I 151 (6 * j)) (I 151 (6 * j + 1)) (I 151 (6 * j + 2)) (I 151 (6 * j + 3)) (I 151 (6 * j + 4)) (I 151 (6 * j + 5)) = S1
      have e1 : ∀ o, ¬ (o = 12 ∨ o = 13 ∨ o = 23) → S1 o = I o := fun o ho => by
        rw [← hS1, putC_o (by omega) (by omega), qc o (by omega)]
      refine (sm_twice (n := n) (by rw [e1 136 (by omega)]; exact p2) (by omega) hj).mono fun v' I' J' q => ?_
      obtain ⟨rfl, rfl, rfl⟩ := q
      rw [e1 151 (by omega), pM_n (by rw [tw_k _ (by decide), e1 136 (by omega)]; exact p2) (by omega)]
      refine ⟨rfl, by rw [pM_k (by decide), tw_0], rfl, Rl_pool h9 hm (fun o ho => ?_) (fun i hi => ?_) hJ ?_⟩
      · rw [pM_o (by omega) (by omega), tw_o _ (by omega), e1 o (by omega)]
      · rw [pM_k (by omega), tw_k _ (by omega), e1 136 (by omega)]
      · have q1 : cPl G U (sN I) (tN I) (tw S1 0) (cpyC I f j) := cPl_x a7 (by rw [tw_k _ (by decide), e1 136 (by omega)]) (by rw [tw_o _ (by decide), e1 151 (by omega)]) (qc 12 (by decide)) (qc 13 (by decide)) (fun _ => Nat.le_refl _) (fun _ => Nat.le_refl _) (fun _ _ _ _ => rfl)
        have q2 := cPl_put (w := I 151 (6 * j + 3)) q1 b2
        rw [hS1] at q2
        exact cPl_x q2 rfl rfl (by rw [pM_o (by decide) (by decide), tw_o _ (by decide)]) (by rw [pM_o (by decide) (by decide), tw_o _ (by decide)]) (fun _ => Nat.le_refl _) (fun _ => Nat.le_refl _) (fun _ _ _ _ => rfl)
theorem ra_rel {A : T2} {G n l a x s r : Nat} {U : Nat → Nat → Nat} {st tt : Nat → Nat} (hn : A 136 24 = nI n) (hn2 : n ≤ 200) (hp : cPl G U st tt A I) (h0 : I a 0 = nI x) (hr : ∀ j, j < s - r → (lR A l j 0 = I (a + 1) ((r + 1 + j) % 50) ∧ lR A l j 1 = nI x ∧ lR A l j 2 = nI (r + 1 + j) ∧ lR A l j 3 = I (a + 2) ((r + 1 + j) % 50) ∧ lR A l j 4 = I (a + 3) ((r + 1 + j) % 50) ∧ lR A l j 5 = I (a + 4) ((r + 1 + j) % 50)) ∧ LtOk G U st tt (lR A l j 0) (lR A l j 1) (lR A l j 2) (lR A l j 4) (lR A l j 5)) : ∀ k, k ≤ s - r → cPl G U st tt (raM A l n k).1 (rsC I a r k)
  | 0, _ => hp
  | k + 1, hk => by
    have ih := ra_rel hn hn2 hp h0 hr k (by omega)
    obtain ⟨b1, b2, b3, b4⟩ := raM_p (l := l) hn hn2 k
    obtain ⟨⟨c0, c1, c2, c3, c4, c5⟩, c6⟩ := hr k (by omega)
    show cPl G U st tt (ptM (raM A l n k).1 (raM A l n k).2 (lR A l k 0) (lR A l k 1) (lR A l k 2) (lR A l k 3) (lR A l k 4) (lR A l k 5)) (putC (rsC I a r k) (I (a + 1) ((r + k + 1) % 50)) (I a 0) (nI (r + k + 1)) (I (a + 2) ((r + k + 1) % 50)) (I (a + 3) ((r + k + 1) % 50)) (I (a + 4) ((r + k + 1) % 50)))
    rw [pM_n b1 (by omega), h0, show r + k + 1 = r + 1 + k by omega, ← c0, ← c2, ← c3, ← c4, ← c5, ← c1]
    exact cPl_put ih c6
theorem pr_resend (h : Rel m I J I J) (hm : m < 512) (x : Int32) : PrT mX6_resend [.int x] mX7_resend [.int x] eIB 1 m I J ∨ PrR mX6_resend [.int x] mX7_resend [.int x] m I J := by
  obtain ⟨B, W, E, G, T, C, U, rs, h9⟩ := id h
  obtain ⟨n1, a2, -, -, -, a6, a7, -⟩ := id h9
  have hG8 : G ≤ 8 := n1.2.2.2.2.2.1
  have g0 : I 0 7 = nI G := a2.1.2.2.2.2.2.2.1
  have g1 : I 136 4 = nI G := a2.1.2.2.2.2.2.2.2
  obtain ⟨f, n, p1, p2, p3⟩ := id a7
  have hn : n ≤ 200 := p1.2.2.2
  rcases gx hG8 x with hx | ⟨j, hj, rfl⟩
  · exact Or.inl (pr_t h hm (sp_resendB (by rw [g0]; exact hx)) (sm_resendB (by rw [g1]; exact hx)))
  · right
    have gj := gP_e j
    obtain ⟨⟨s, r, t, ⟨b1, b2, b3, b4⟩, ⟨d1, d2, d3⟩, ⟨e1, e2, e3, e4⟩, e5⟩, ⟨s', r', t', ⟨b1', b2', b3', b4'⟩, ⟨d1', d2', d3'⟩, ⟨e1', e2', e3', e4'⟩, e5'⟩⟩ := a6 j hj
    refine (sp_resend g0 hG8 hj p1 b2 b3 (by omega) e4 b2' b3' (by omega) e4').mono fun v I1 J1 q => ?_
    obtain ⟨rfl, rfl, rfl⟩ := q
    refine ⟨(by first | exact rfl | exact ⟨_, rfl⟩ | exact ⟨_, rfl, Or.inl rfl⟩ | exact ⟨_, rfl, Or.inr rfl⟩), ?_⟩
    intro I2 J2 hO
    obtain ⟨rfl, hJ⟩ := hO
    generalize hS1 : rsC (rsC I (gP j + 4) r (s - r)) (gP j + 9) r' (s' - r') = S1
    have q1 : ∀ o, ¬ (o = 12 ∨ o = 13) → S1 o = I o := fun o ho => by
      rw [← hS1, rsC_o _ _ _ (by omega) (by omega), rsC_o _ _ _ (by omega) (by omega)]
    refine (sm_resend (n := n) (k := s - r) (k' := s' - r') (x := j) (G := G) (by rw [q1 136 (by omega)]; exact g1) hG8 hj (by rw [q1 136 (by omega)]; exact p2) hn (by rw [q1 148 (by omega)]; exact d2) (by omega) (by rw [q1 148 (by omega)]; exact d2') (by omega)).mono fun v' I' J' q => ?_
    obtain ⟨rfl, rfl, rfl⟩ := q
    have w1 : tw S1 0 136 24 = nI n := by rw [tw_k _ (by decide), q1 136 (by omega)]; exact p2
    obtain ⟨c1, c2, c3, c4⟩ := raM_p (l := j) w1 hn (s - r)
    obtain ⟨c1', c2', c3', c4'⟩ := raM_p (l := 8 + j) c1 c2 (s' - r')
    refine ⟨rfl, by rw [c4' 0 (by decide), c4 0 (by decide), tw_0], rfl, Rl_pool h9 hm (fun o ho => ?_) (fun i hi => ?_) hJ ?_⟩
    · rw [c3' o (by omega) (by omega), c3 o (by omega) (by omega), tw_o _ (by omega), q1 o (by omega)]
    · rw [c4' i (by omega), c4 i (by omega), tw_k _ (by omega), q1 136 (by omega)]
    · have r1 : cPl G U (sN I) (tN I) (tw S1 0) I := cPl_x a7 (by rw [tw_k _ (by decide), q1 136 (by omega)]) (by rw [tw_o _ (by decide), q1 151 (by omega)]) rfl rfl (fun _ => Nat.le_refl _) (fun _ => Nat.le_refl _) (fun _ _ _ _ => rfl)
      have l1 : ∀ l' j' c, lR (tw S1 0) l' j' c = lR I l' j' c := fun l' j' c => by unfold lR; rw [tw_o _ (by decide), q1 147 (by omega)]
      have r2 := ra_rel (s := s) (r := r) (l := j) w1 hn r1 b1 (fun j' hj' => by rw [l1, l1, l1, l1, l1, l1]; exact e5 j' hj') (s - r) (Nat.le_refl _)
      have l2 : ∀ l' j' c, lR (raM (tw S1 0) j n (s - r)).1 l' j' c = lR I l' j' c := fun l' j' c => by unfold lR; rw [c3 147 (by decide) (by decide), tw_o _ (by decide), q1 147 (by omega)]
      have z0 : ∀ o, ¬ (o = 12 ∨ o = 13) → rsC I (gP j + 4) r (s - r) o = I o := fun o ho => rsC_o _ _ _ (by omega) (by omega) _
      have r3 := ra_rel (s := s') (r := r') (l := 8 + j) (a := gP j + 9) (x := j) c1 c2 r2 (by rw [z0 _ (by omega)]; exact b1') (fun j' hj' => by
        rw [l2, l2, l2, l2, l2, l2, z0 _ (by omega), z0 _ (by omega), z0 _ (by omega), z0 _ (by omega)]; exact e5' j' hj') (s' - r') (Nat.le_refl _)
      rw [hS1] at r3
      exact cPl_x r3 rfl rfl (by rw [c3' 12 (by decide) (by decide), c3 12 (by decide) (by decide), tw_o _ (by decide)]) (by rw [c3' 13 (by decide) (by decide), c3 13 (by decide) (by decide), tw_o _ (by decide)]) (fun _ => Nat.le_refl _) (fun _ => Nat.le_refl _) (fun _ _ _ _ => rfl)
end PAIR3

