/-! pairs: rule, crash, restart, desk, lose, twice -/
theorem nB_m {m B W E G T : Nat} (h : nB m B W E G T) (hm : m < 512) : nB (m + 1) B W E G T := by
  obtain ⟨n1, n2, n3, n4, n5, n6, n7, n8, n9⟩ := h
  exact ⟨n1, n2, n3, n4, n5, n6, n7, by omega, by omega⟩
section PAIR2
variable {m : Nat} {I : T2} {J : T3}
theorem pr_rule (h : Rel m I J I J) (hm : m < 512) (x : Int32) : PrT mX6_rule [.int x] mX7_rule [.int x] eIA 1 m I J ∨ PrR mX6_rule [.int x] mX7_rule [.int x] m I J := by
  by_cases hx : x < 0 ∨ ¬ x ≤ 2
  · left
    refine ⟨sp_ruleT hx, (sm_ruleT hx).mono fun w I' J' q => ?_⟩
    obtain ⟨rfl, rfl, rfl⟩ := q
    have e : up2 (tw I 1) 136 6 (I 136 6) = tw I 1 := by
      funext o i
      rw [up2_v]
      by_cases c : o = 136 ∧ i = 6
      · rw [if_pos c, c.1, c.2, tw_k _ (by decide)]
      · rw [if_neg c]
    rw [e]
    exact ⟨rfl, tw_0 _, Rel_q h hm (fun _ _ => rfl)⟩
  · right
    have x0 : ¬ x < 0 := fun z => hx (Or.inl z)
    have x2 : x ≤ 2 := Classical.not_not.mp fun z => hx (Or.inr z)
    obtain ⟨B, W, E, G, T, C, U, rs, h9⟩ := h
    obtain ⟨n1, a2, a3, a4, a5, a6, a7, a8, a9, a10⟩ := h9
    have hG8 : G ≤ 8 := n1.2.2.2.2.2.1
    refine (sp_rule x0 x2).mono fun v I1 J1 q => ?_
    obtain ⟨rfl, rfl, rfl⟩ := q
    refine ⟨(by first | exact rfl | exact ⟨_, rfl⟩ | exact ⟨_, rfl, Or.inl rfl⟩ | exact ⟨_, rfl, Or.inr rfl⟩), ?_⟩
    intro I2 J2 hO
    obtain ⟨rfl, hJ⟩ := hO
    refine (sm_rule x0 x2).mono fun v' I' J' q => ?_
    obtain ⟨rfl, rfl, rfl⟩ := q
    refine ⟨rfl, by rw [up2_k _ _ _ (by decide), tw_0], rfl, ?_⟩
    have fr : ∀ o, ¬ (o = 2 ∨ o = 136) → up2 (tw (up2 I 2 5 x) 0) 136 6 x o = I o := fun o ho => by
      rw [up2_ne _ _ _ (by omega), tw_o _ (by omega), up2_ne _ _ _ (by omega)]
    have frJ : ∀ o, ¬ (o = 158) → J2 o = J o := hJ
    have f136 : ∀ j, ¬ (j = 0 ∨ j = 6) → up2 (tw (up2 I 2 5 x) 0) 136 6 x 136 j = I 136 j := fun j hj => by
      rw [up2_k _ _ _ (by omega), tw_k _ (by omega), up2_ne _ _ _ (by decide)]
    have f2 : ∀ j, ¬ (j = 5) → up2 (tw (up2 I 2 5 x) 0) 136 6 x 2 j = I 2 j := fun j hj => by
      rw [up2_ne _ _ _ (by decide), tw_o _ (by decide), up2_k _ _ _ hj]
    generalize hS : up2 (tw (up2 I 2 5 x) 0) 136 6 x = S at fr f136 f2
    have k3 : cGts W E G T C S J2 S J2 := cGts_x a3 (fun o _ _ => fr o (by omega)) (frJ 141 (by omega)) (fun x _ hx _ => fr _ (by have := gP_e x; omega)) (fun x hx => frJ _ (by have := gP_e x; omega))
    have k4 : cUn (T / W) S S := cUn_x a4 (fr 137 (by omega)) (fr 3 (by omega))
    have k5 : cWa (T / W) G S S := cWa_x a5 (fr 138 (by omega)) (fr 139 (by omega)) (fun o _ _ _ => fr o (by omega))
    have k6 : cWys G U S S := cWys_x a6 (fr 149 (by omega)) (fr 148 (by omega)) (fr 150 (by omega)) (fr 147 (by omega)) (fun x _ hx _ _ => fr _ (by have := gP_e x; omega))
    have k7 : cPl G U (sN S) (tN S) S S := by
      have es : sN S = sN I := by funext l; unfold sN; rw [fr 149 (by omega)]
      have et : tN S = tN I := by funext l; unfold tN; rw [fr 150 (by omega)]
      rw [es, et]
      exact cPl_x a7 (f136 24 (by omega)) (fr 151 (by omega)) (fr 12 (by omega)) (fr 13 (by omega)) (fun _ => Nat.le_refl _) (fun _ => Nat.le_refl _) (fun _ _ _ _ => rfl)
    have k8 : cBd (m + 1) G U S := cBd_x a8 (Nat.le_succ _) (fr 149 (by omega)) (fr 150 (by omega)) (fr 144 (by omega)) (fr 138 (by omega))
    have k9 : cAd (m + 1) rs S J2 S J2 := cAd_x a9 (Nat.le_succ _) (f136 27 (by omega)) (frJ 153 (by omega)) (fr 19 (by omega)) (fr 21 (by omega)) (frJ 20 (by omega))
    have k10 : cUs G S S := cUs_x a10 (fr 152 (by omega)) (fr 22 (by omega)) (fun l _ _ => by rw [fr 149 (by omega), fr 148 (by omega)]; exact ⟨rfl, rfl⟩) (fun y hy hg => ⟨fr _ (by have := gP_e y; omega), fr _ (by have := gP_e y; omega)⟩)
    have k2 : cSc B W E G T S J2 S J2 := by
      unfold cSc
      have e6 : S 136 6 = x := by rw [← hS, up2_s]
      have e5 : S 2 5 = x := by rw [← hS, up2_ne _ _ _ (by decide), tw_o _ (by decide), up2_s]
      rw [f136 1 (by omega), f136 2 (by omega), f136 3 (by omega), f136 4 (by omega), f136 7 (by omega), f136 8 (by omega), f2 3 (by omega), f2 4 (by omega), f2 6 (by omega), fr 0 (by omega), frJ 136 (by omega), frJ 0 (by omega), fr 138 (by omega), e5, e6]
      obtain ⟨q1, q2, q3, q4, q5⟩ := a2
      refine ⟨q1, q2, q3, ⟨rfl, ?_⟩, q5⟩
      obtain ⟨k, k1, rfl⟩ := nI_of2 (M := 2) (n := 2) (by decide) x0 x2
      match k, k1 with
      | 0, _ => exact Or.inl rfl
      | 1, _ => exact Or.inr (Or.inl rfl)
      | 2, _ => exact Or.inr (Or.inr rfl)
    exact ⟨B, W, E, G, T, C, U, rs, nB_m n1 hm, k2, k3, k4, k5, k6, k7, k8, k9, k10⟩
theorem pr_crash (h : Rel m I J I J) (hm : m < 512) (x : Int32) : PrT mX6_crash [.int x] mX7_crash [.int x] eIB 1 m I J ∨ PrT mX6_crash [.int x] mX7_crash [.int x] eIS 2 m I J ∨ PrR mX6_crash [.int x] mX7_crash [.int x] m I J := by
  obtain ⟨B, W, E, G, T, C, U, rs, h9⟩ := id h
  obtain ⟨n1, a2, a3, a4, a5, a6, a7, a8, a9, a10⟩ := h9
  have hG8 : G ≤ 8 := n1.2.2.2.2.2.1
  have g0 : I 0 7 = nI G := a2.1.2.2.2.2.2.2.1
  have g1 : I 136 4 = nI G := a2.1.2.2.2.2.2.2.2
  rcases gx hG8 x with hx | ⟨j, hj, rfl⟩
  · exact Or.inl (pr_t h hm (sp_crashB (by rw [g0]; exact hx)) (sm_crashB (by rw [g1]; exact hx)))
  · right
    obtain ⟨⟨c0, c1, c2, c5, c6⟩, hK⟩ := a3 j hj
    rcases c5 with ⟨d1, d2⟩ | ⟨d1, d2⟩
    · right
      refine (sp_crash g0 hG8 hj (by rw [d1]; decide)).mono fun v I1 J1 q => ?_
      obtain ⟨rfl, rfl, rfl⟩ := q
      refine ⟨(by first | exact rfl | exact ⟨_, rfl⟩ | exact ⟨_, rfl, Or.inl rfl⟩ | exact ⟨_, rfl, Or.inr rfl⟩), ?_⟩
      intro I2 J2 hO
      obtain ⟨rfl, hJ⟩ := hO
      have gj := gP_e j
      refine (sm_crash (x := j) (G := G) (by rw [up2_ne _ _ _ (by omega)]; exact g1) hG8 hj (by rw [up2_ne _ _ _ (by omega)]; exact d2)).mono fun v' I' J' q => ?_
      obtain ⟨rfl, rfl, rfl⟩ := q
      refine ⟨rfl, by rw [up2_ne _ _ _ (by decide), tw_0], rfl, ?_⟩
      have fr : ∀ o, ¬ (o = gP j ∨ o = 136 ∨ o = 143) → up2 (tw (up2 I (gP j) 8 0) 0) 143 j 1 o = I o := fun o ho => by
        rw [up2_ne _ _ _ (by omega), tw_o _ (by omega), up2_ne _ _ _ (by omega)]
      have frJ : ∀ o, ¬ (o = 158) → J2 o = J o := hJ
      have f136 : ∀ i, ¬ (i = 0) → up2 (tw (up2 I (gP j) 8 0) 0) 143 j 1 136 i = I 136 i := fun i hi => by
        rw [up2_ne _ _ _ (by decide), tw_k _ (by omega), up2_ne _ _ _ (by omega)]
      have e8 : up2 (tw (up2 I (gP j) 8 0) 0) 143 j 1 (gP j) 8 = 0 := by
        rw [up2_ne _ _ _ (by omega), tw_o _ (by omega), up2_s]
      have eg : ∀ i, i ≠ 8 → up2 (tw (up2 I (gP j) 8 0) 0) 143 j 1 (gP j) i = I (gP j) i := fun i hi => by
        rw [up2_ne _ _ _ (by omega), tw_o _ (by omega), up2_k _ _ _ hi]
      have e143 : ∀ y, up2 (tw (up2 I (gP j) 8 0) 0) 143 j 1 143 y = if y = j then 1 else I 143 y := fun y => by
        rw [up2_v, tw_o _ (by decide), up2_ne _ _ _ (by omega)]
        by_cases c : y = j
        · rw [if_pos ⟨rfl, c⟩, if_pos c]
        · rw [if_neg (fun z => c z.2), if_neg c]
      generalize up2 (tw (up2 I (gP j) 8 0) 0) 143 j 1 = S at *
      have k2 : cSc B W E G T S J2 S J2 := cSc_x a2 (fun j _ _ => f136 j (by omega)) (by rw [frJ 136 (by omega)]) (fr 0 (by omega)) (fun j _ _ => by rw [fr 2 (by omega)]) (by rw [frJ 0 (by omega)]) (fun i _ z => by rw [fr 138 (by omega)]; exact z)
      have k4 : cUn (T / W) S S := cUn_x a4 (fr 137 (by omega)) (fr 3 (by omega))
      have k5 : cWa (T / W) G S S := cWa_x a5 (fr 138 (by omega)) (fr 139 (by omega)) (fun o _ _ _ => fr o (by omega))
      have k6 : cWys G U S S := cWys_x a6 (fr 149 (by omega)) (fr 148 (by omega)) (fr 150 (by omega)) (fr 147 (by omega)) (fun x _ hx _ _ => fr _ (by have := gP_e x; omega))
      have k7 : cPl G U (sN S) (tN S) S S := by
        have es : sN S = sN I := by funext l; unfold sN; rw [fr 149 (by omega)]
        have et : tN S = tN I := by funext l; unfold tN; rw [fr 150 (by omega)]
        rw [es, et]
        exact cPl_x a7 (f136 24 (by omega)) (fr 151 (by omega)) (fr 12 (by omega)) (fr 13 (by omega)) (fun _ => Nat.le_refl _) (fun _ => Nat.le_refl _) (fun _ _ _ _ => rfl)
      have k8 : cBd (m + 1) G U S := cBd_x a8 (Nat.le_succ _) (fr 149 (by omega)) (fr 150 (by omega)) (fr 144 (by omega)) (fr 138 (by omega))
      have k9 : cAd (m + 1) rs S J2 S J2 := cAd_x a9 (Nat.le_succ _) (f136 27 (by omega)) (frJ 153 (by omega)) (fr 19 (by omega)) (fr 21 (by omega)) (frJ 20 (by omega))
      have k10 : cUs G S S := cUs_x a10 (fr 152 (by omega)) (fr 22 (by omega)) (fun l _ _ => by rw [fr 149 (by omega), fr 148 (by omega)]; exact ⟨rfl, rfl⟩) (fun y hy hg => ⟨fr _ (by have := gP_e y; omega), fr _ (by have := gP_e y; omega)⟩)
      have k3 : cGts W E G T C S J2 S J2 := by
        intro y hy
        have gy := gP_e y
        obtain ⟨b1, b2⟩ := a3 y hy
        refine ⟨?_, gK_x b2 (fun k _ => by rw [fr 144 (by omega), fr 145 (by omega), fr 146 (by omega)]; exact ⟨rfl, rfl, rfl⟩) (fr _ (by omega)) (fr _ (by omega)) (fr _ (by omega))⟩
        by_cases c : y = j
        · subst c
          unfold gG
          rw [eg 5 (by decide), eg 7 (by decide), e8, e143, if_pos rfl, fr 140 (by omega), fr 142 (by omega), frJ 141 (by omega), frJ _ (by omega)]
          exact ⟨c0, c1, c2, Or.inr ⟨rfl, rfl⟩, c6⟩
        · exact gG_x b1 (by rw [fr 140 (by omega)]) (by rw [frJ 141 (by omega)]) (by rw [fr 142 (by omega)]) (by rw [e143, if_neg c]) (fr _ (by omega)) (frJ _ (by omega))
      exact ⟨B, W, E, G, T, C, U, rs, nB_m n1 hm, k2, k3, k4, k5, k6, k7, k8, k9, k10⟩
    · exact Or.inl (pr_t h hm (sp_crashT g0 hG8 hj d1) (sm_crashT g1 hG8 hj (by rw [d2]; decide)))
theorem rs_145 {x : Nat} (i : Nat) : ∀ k, k ≤ 3 → rsM I x k 145 i = if 3 * x ≤ i ∧ i < 3 * x + k then I 146 i else I 145 i
  | 0, _ => by rw [if_neg (by omega)]; rfl
  | k + 1, h => by
    show up2 (rsM I x k) 145 (3 * x + k) (I 146 (3 * x + k)) 145 i = _
    rw [up2_v, rs_145 i k (by omega)]
    by_cases c : i = 3 * x + k
    · rw [if_pos ⟨rfl, c⟩, if_pos (by omega), c]
    · rw [if_neg (fun z => c z.2)]
      by_cases c2 : 3 * x ≤ i ∧ i < 3 * x + k
      · rw [if_pos c2, if_pos (by omega)]
      · rw [if_neg c2, if_neg (by omega)]
theorem pr_restart (h : Rel m I J I J) (hm : m < 512) (x : Int32) : PrT mX6_restart [.int x] mX7_restart [.int x] eIB 1 m I J ∨ PrR mX6_restart [.int x] mX7_restart [.int x] m I J := by
  obtain ⟨B, W, E, G, T, C, U, rs, h9⟩ := id h
  obtain ⟨n1, a2, a3, a4, a5, a6, a7, a8, a9, a10⟩ := h9
  have hG8 : G ≤ 8 := n1.2.2.2.2.2.1
  have g0 : I 0 7 = nI G := a2.1.2.2.2.2.2.2.1
  have g1 : I 136 4 = nI G := a2.1.2.2.2.2.2.2.2
  rcases gx hG8 x with hx | ⟨j, hj, rfl⟩
  · exact Or.inl (pr_t h hm (sp_restartB (by rw [g0]; exact hx)) (sm_restartB (by rw [g1]; exact hx)))
  · right
    obtain ⟨⟨c0, c1, c2, c5, c6⟩, hK⟩ := a3 j hj
    rcases c5 with ⟨d1, d2⟩ | ⟨d1, d2⟩
    · exact pr_q h hm (sp_restart0 g0 hG8 hj (by rw [d1]; decide)) (fun J2 hJ => sm_restart0 g1 hG8 hj d2)
    · refine (sp_restart1 g0 hG8 hj d1).mono fun v I1 J1 q => ?_
      obtain ⟨rfl, rfl, rfl⟩ := q
      refine ⟨(by first | exact rfl | exact ⟨_, rfl⟩ | exact ⟨_, rfl, Or.inl rfl⟩ | exact ⟨_, rfl, Or.inr rfl⟩), ?_⟩
      intro I2 J2 hO
      obtain ⟨rfl, hJ⟩ := hO
      have gj := gP_e j
      have q0 : ∀ o, ¬ (o = gP j ∨ o = gP j + 2) → cuC I (gP j) o = I o := fun o ho => by
        unfold cuC
        rw [upr_ne _ _ (by omega), up2_ne _ _ _ (by omega)]
      refine (sm_restart1 (x := j) (G := G) (by rw [q0 136 (by omega)]; exact g1) hG8 hj (by rw [q0 143 (by omega), d2]; decide)).mono fun v' I' J' q => ?_
      obtain ⟨rfl, rfl, rfl⟩ := q
      refine ⟨rfl, by rw [rsM_o (by decide), up2_ne _ _ _ (by decide), tw_0], rfl, ?_⟩
      have fr : ∀ o, ¬ (o = gP j ∨ o = gP j + 2 ∨ o = 136 ∨ o = 143 ∨ o = 145) → rsM (up2 (tw (cuC I (gP j)) 0) 143 j 0) j 3 o = I o := fun o ho => by
        rw [rsM_o (by omega), up2_ne _ _ _ (by omega), tw_o _ (by omega), q0 o (by omega)]
      have frJ : ∀ o, ¬ (o = 158) → J2 o = J o := hJ
      have f136 : ∀ i, ¬ (i = 0) → rsM (up2 (tw (cuC I (gP j)) 0) 143 j 0) j 3 136 i = I 136 i := fun i hi => by
        rw [rsM_o (by decide), up2_ne _ _ _ (by decide), tw_k _ (by omega), q0 136 (by omega)]
      have e8 : rsM (up2 (tw (cuC I (gP j)) 0) 143 j 0) j 3 (gP j) 8 = 1 := by
        rw [rsM_o (by omega), up2_ne _ _ _ (by omega), tw_o _ (by omega)]
        unfold cuC
        rw [upr_ne _ _ (by omega), up2_s]
      have eg : ∀ i, i ≠ 8 → rsM (up2 (tw (cuC I (gP j)) 0) 143 j 0) j 3 (gP j) i = I (gP j) i := fun i hi => by
        rw [rsM_o (by omega), up2_ne _ _ _ (by omega), tw_o _ (by omega)]
        unfold cuC
        rw [upr_ne _ _ (by omega), up2_k _ _ _ hi]
      have e2 : ∀ i, i < 3 → rsM (up2 (tw (cuC I (gP j)) 0) 143 j 0) j 3 (gP j + 2) i = I (gP j + 3) i := fun i hi => by
        rw [rsM_o (by omega), up2_ne _ _ _ (by omega), tw_o _ (by omega)]
        unfold cuC
        rw [upr_at, pk_cpy_in (Nat.zero_le _) (by omega)]
        congr 1
        omega
      have e143 : ∀ y, rsM (up2 (tw (cuC I (gP j)) 0) 143 j 0) j 3 143 y = if y = j then 0 else I 143 y := fun y => by
        rw [rsM_o (by decide), up2_v, tw_o _ (by decide), q0 143 (by omega)]
        by_cases c : y = j
        · rw [if_pos ⟨rfl, c⟩, if_pos c]
        · rw [if_neg (fun z => c z.2), if_neg c]
      have e145 : ∀ i, rsM (up2 (tw (cuC I (gP j)) 0) 143 j 0) j 3 145 i = if 3 * j ≤ i ∧ i < 3 * j + 3 then I 146 i else I 145 i := fun i => by
        rw [rs_145 i 3 (Nat.le_refl _), up2_ne _ _ _ (by decide), up2_ne _ _ _ (by decide), tw_o _ (by decide), tw_o _ (by decide), q0 145 (by omega), q0 146 (by omega)]
      generalize rsM (up2 (tw (cuC I (gP j)) 0) 143 j 0) j 3 = S at *
      have k2 : cSc B W E G T S J2 S J2 := cSc_x a2 (fun j _ _ => f136 j (by omega)) (by rw [frJ 136 (by omega)]) (fr 0 (by omega)) (fun j _ _ => by rw [fr 2 (by omega)]) (by rw [frJ 0 (by omega)]) (fun i _ z => by rw [fr 138 (by omega)]; exact z)
      have k4 : cUn (T / W) S S := cUn_x a4 (fr 137 (by omega)) (fr 3 (by omega))
      have k5 : cWa (T / W) G S S := cWa_x a5 (fr 138 (by omega)) (fr 139 (by omega)) (fun o _ _ _ => fr o (by omega))
      have k6 : cWys G U S S := cWys_x a6 (fr 149 (by omega)) (fr 148 (by omega)) (fr 150 (by omega)) (fr 147 (by omega)) (fun x _ hx _ _ => fr _ (by have := gP_e x; omega))
      have k7 : cPl G U (sN S) (tN S) S S := by
        have es : sN S = sN I := by funext l; unfold sN; rw [fr 149 (by omega)]
        have et : tN S = tN I := by funext l; unfold tN; rw [fr 150 (by omega)]
        rw [es, et]
        exact cPl_x a7 (f136 24 (by omega)) (fr 151 (by omega)) (fr 12 (by omega)) (fr 13 (by omega)) (fun _ => Nat.le_refl _) (fun _ => Nat.le_refl _) (fun _ _ _ _ => rfl)
      have k8 : cBd (m + 1) G U S := cBd_x a8 (Nat.le_succ _) (fr 149 (by omega)) (fr 150 (by omega)) (fr 144 (by omega)) (fr 138 (by omega))
      have k9 : cAd (m + 1) rs S J2 S J2 := cAd_x a9 (Nat.le_succ _) (f136 27 (by omega)) (frJ 153 (by omega)) (fr 19 (by omega)) (fr 21 (by omega)) (frJ 20 (by omega))
      have k10 : cUs G S S := cUs_x a10 (fr 152 (by omega)) (fr 22 (by omega)) (fun l _ _ => by rw [fr 149 (by omega), fr 148 (by omega)]; exact ⟨rfl, rfl⟩) (fun y hy hg => ⟨fr _ (by have := gP_e y; omega), fr _ (by have := gP_e y; omega)⟩)
      have k3 : cGts W E G T C S J2 S J2 := by
        intro y hy
        have gy := gP_e y
        obtain ⟨b1, b2⟩ := a3 y hy
        by_cases c : y = j
        · subst c
          refine ⟨?_, fun k hk => ?_⟩
          · unfold gG
            rw [eg 5 (by decide), eg 7 (by decide), e8, e143, if_pos rfl, fr 140 (by omega), fr 142 (by omega), frJ 141 (by omega), frJ _ (by omega)]
            exact ⟨c0, c1, c2, Or.inl ⟨rfl, rfl⟩, c6⟩
          · obtain ⟨⟨f1, f2, f3⟩, hh, p, t, ⟨f4, f5, f6⟩, f7, f8, f9⟩ := b2 k hk
            have hs := sl3_lt (C y / W) k
            rw [fr (gP y + 1) (by omega), e2 _ hs, fr (gP y + 3) (by omega), fr 144 (by omega), fr 146 (by omega), e145, if_pos (by omega)]
            exact ⟨⟨f1, f3, f3⟩, hh, t, t, ⟨f4, f6, f6⟩, Nat.le_refl _, f8, f9⟩
        · refine ⟨gG_x b1 (by rw [fr 140 (by omega)]) (by rw [frJ 141 (by omega)]) (by rw [fr 142 (by omega)]) (by rw [e143, if_neg c]) (fr _ (by omega)) (frJ _ (by omega)), gK_x b2 (fun k hk => ?_) (fr _ (by omega)) (fr _ (by omega)) (fr _ (by omega))⟩
          rw [fr 144 (by omega), fr 146 (by omega), e145, if_neg (by omega)]
          exact ⟨rfl, rfl, rfl⟩
      exact ⟨B, W, E, G, T, C, U, rs, nB_m n1 hm, k2, k3, k4, k5, k6, k7, k8, k9, k10⟩
theorem wz_v (o i : Nat) : ∀ k, wzM I k o i = if o = 138 ∧ i < k then 0 else I o i
  | 0 => by rw [if_neg (by omega)]; rfl
  | k + 1 => by
    show up2 (wzM I k) 138 k 0 o i = _
    rw [up2_v, wz_v o i k]
    by_cases c : o = 138 ∧ i = k
    · rw [if_pos c, if_pos (by omega)]
    · rw [if_neg c]
      by_cases c2 : o = 138 ∧ i < k
      · rw [if_pos c2, if_pos (by omega)]
      · rw [if_neg c2, if_neg (by omega)]
theorem fg_v (o i : Nat) : ∀ k, fgC I k o i = if 5 ≤ o ∧ o < 5 + k ∧ i < 8 then 0 else I o i
  | 0 => by rw [if_neg (by omega)]; rfl
  | k + 1 => by
    show upr (fgC I k) (4 + 1 + k) (flr (I (4 + 1 + k)) 8 0) o i = _
    rw [upr_v, fg_v o i k]
    by_cases c : o = 4 + 1 + k
    · rw [if_pos c]
      unfold flr
      by_cases c2 : i < 8
      · rw [if_pos c2, if_pos (by omega)]
      · rw [if_neg c2, if_neg (by omega), c]
    · rw [if_neg c]
      by_cases c2 : 5 ≤ o ∧ o < 5 + k ∧ i < 8
      · rw [if_pos c2, if_pos (by omega)]
      · rw [if_neg c2, if_neg (by omega)]
end PAIR2

