/-! pairs: admits -/
section PAIR6
variable {m : Nat} {I : T2} {J : T3}
theorem pr_admit (h : Rel m I J I J) (hm : m < 512) (x q : Int32) : PrT mX6_admit [.int x, .int q] mX7_admit [.int x, .int q] eIB 1 m I J ∨ PrT mX6_admit [.int x, .int q] mX7_admit [.int x, .int q] eIA 2 m I J ∨ PrT mX6_admit [.int x, .int q] mX7_admit [.int x, .int q] eIS 3 m I J ∨ PrR mX6_admit [.int x, .int q] mX7_admit [.int x, .int q] m I J := by
  obtain ⟨B, W, E, G, T, C, U, rs, h9⟩ := id h
  obtain ⟨n1, a2, a3, a4, a5, a6, a7, a8, a9, a10⟩ := id h9
  have hG8 : G ≤ 8 := n1.2.2.2.2.2.1
  have g0 : I 0 7 = nI G := a2.1.2.2.2.2.2.2.1
  have g1 : I 136 4 = nI G := a2.1.2.2.2.2.2.2.2
  rcases gx hG8 x with hx | ⟨j, hj, rfl⟩
  · exact Or.inl (pr_t h hm (sp_admitB (by rw [g0]; exact hx)) (sm_admitB (by rw [g1]; exact hx)))
  right
  by_cases hq : q < 1 ∨ ¬ q ≤ 1000
  · exact Or.inl (pr_t h hm (sp_admitA g0 hG8 hj hq) (sm_admitA g1 hG8 hj hq))
  right
  have hq1 : ¬ q < 1 := fun z => hq (Or.inl z)
  have hq2 : q ≤ 1000 := Classical.not_not.mp fun z => hq (Or.inr z)
  obtain ⟨⟨c0, c1, ⟨c3, c4⟩, c5, c6⟩, hK⟩ := a3 j hj
  rcases c5 with ⟨d1, d2⟩ | ⟨d1, d2⟩
  · right
    have gj := gP_e j
    have hq0 : ¬ q < 0 := fun z => hq1 (by
      rw [Int32.lt_iff_toInt_lt] at z ⊢
      have e0 : (0 : Int32).toInt = 0 := by decide
      have e1 : (1 : Int32).toInt = 1 := by decide
      omega)
    obtain ⟨k, k1, rfl⟩ := nI_of2 (M := 1000) (n := 1000) (by decide) hq0 hq2
    have k0 : 1 ≤ k := Nat.lt_of_not_le fun z => hq1 (nI_lt (b := 1) (by omega) (by decide))
    have hC : C j / W < 2 ^ 30 := nB_c n1 c6
    obtain ⟨⟨f1, f2, f3⟩, hh, p, t, ⟨f4, f5, f6⟩, f7, f8, f9, f10⟩ := hK 1 (by decide)
    have e3 : sl3 (C j / W) 1 = C j / W % 3 := by unfold sl3; omega
    rw [e3] at f1 f2 f3
    have htt : tot rs ≤ 2000 := by rw [← exR_l]; exact a9.2.1.2.1
    generalize hwd : C j / W = wd at *
    have cls := sp_admit (d := 3) (J := J) g0 hG8 hj k0 k1 (by rw [d1]; decide) c3 hC (f1.trans f4) (f2.trans f5) (f3.trans f6) f7 f8 f9 a9.1 (by have := a9.2.2; omega) htt
    refine cls.mono fun v I1 J1 q => ?_
    obtain ⟨rfl, q⟩ := q
    -- the class's part of the outcome
    have sum : (∀ o, ¬ (o = 19 ∨ o = 21 ∨ o = 22 ∨ o = gP j + 2 ∨ o = gP j + 3) → I1 o = I o) ∧ (∀ o, ¬ (o = 20) → J1 o = J o) ∧ (∀ z, I1 (gP j + 2) z = if z = wd % 3 then nI (p + adN k hh p) else I (gP j + 2) z) ∧ (∀ z, I1 (gP j + 3) z = if z = wd % 3 then nI (stN k hh p t) else I (gP j + 3) z) ∧ (∀ z, z < 200 → I1 22 z = if z = wd then I 22 z + nI (adN k hh p) else I 22 z) ∧ ∃ rs', AdC I1 J1 rs' ∧ exR rs' = (exR rs ++ List.replicate (adN k hh p) (lN T)).drop (tot rs + adN k hh p - 2000) ∧ rs'.length ≤ rs.length + 1 := by
      have am : ∀ o, ¬ (o = gP j + 2 ∨ o = gP j + 3) → amI I (gP j) wd k hh p t o = I o := fun o ho => by
        unfold amI; rw [up2_ne _ _ _ (by omega), up2_ne _ _ _ (by omega)]
      have am2 : ∀ z, amI I (gP j) wd k hh p t (gP j + 2) z = if z = wd % 3 then nI (p + adN k hh p) else I (gP j + 2) z := fun z => by
        unfold amI
        rw [up2_ne _ _ _ (by omega), up2_v]
        by_cases c : z = wd % 3
        · rw [if_pos ⟨rfl, c⟩, if_pos c]
        · rw [if_neg (fun y => c y.2), if_neg c]
      have am3 : ∀ z, amI I (gP j) wd k hh p t (gP j + 3) z = if z = wd % 3 then nI (stN k hh p t) else I (gP j + 3) z := fun z => by
        unfold amI
        rw [up2_v, up2_ne _ _ _ (by omega)]
        by_cases c : z = wd % 3
        · rw [if_pos ⟨rfl, c⟩, if_pos c]
        · rw [if_neg (fun y => c y.2), if_neg c]
      rcases q with ⟨z0, rfl, rfl⟩ | ⟨z0, I0, ⟨-, b1, b2, rs', b3, b4, b5⟩, rfl⟩
      · refine ⟨fun o ho => am o (by omega), fun _ _ => rfl, am2, am3, fun z hz => ?_, rs, AdC_ext a9.1 (am 19 (by omega)) (am 21 (by omega)) rfl, ?_, Nat.le_succ _⟩
        · rw [am 22 (by omega), z0]
          by_cases c : z = wd
          · rw [if_pos c]; exact (Int32.add_zero _).symm
          · rw [if_neg c]
        · rw [z0]
          show exR rs = (exR rs ++ []).drop _
          rw [List.append_nil, show tot rs + 0 - 2000 = 0 by omega]
          rfl
      · have g22 : ∀ o, o ≠ 22 → (if wd < 200 then up2 I0 22 wd (I0 22 wd + nI (adN k hh p)) else I0) o = I0 o := fun o ho => by
          by_cases c : wd < 200
          · rw [if_pos c, up2_ne _ _ _ ho]
          · rw [if_neg c]
        refine ⟨fun o ho => ?_, fun o ho => b2 o (by omega), fun z => ?_, fun z => ?_, fun z hz => ?_, rs', AdC_ext b3 (g22 19 (by omega)) (g22 21 (by omega)) rfl, ?_, b5⟩
        · rw [g22 o (by omega), b1 o (by omega) (by omega), am o (by omega)]
        · rw [g22 _ (by omega), b1 _ (by omega) (by omega), am2]
        · rw [g22 _ (by omega), b1 _ (by omega) (by omega), am3]
        · by_cases c : wd < 200
          · rw [if_pos c, up2_v, b1 22 (by omega) (by omega), am 22 (by omega)]
            by_cases c2 : z = wd
            · rw [if_pos ⟨rfl, c2⟩, if_pos c2, c2]
            · rw [if_neg (fun y => c2 y.2), if_neg c2]
          · rw [if_neg c, b1 22 (by omega) (by omega), am 22 (by omega), if_neg (by omega)]
        · rw [b4, a2.2.1.1]
    clear q cls
    refine ⟨(by first | exact rfl | exact ⟨_, rfl⟩ | exact ⟨_, rfl, Or.inl rfl⟩ | exact ⟨_, rfl, Or.inr rfl⟩), ?_⟩
    intro I2 J2 hO
    obtain ⟨rfl, hJ⟩ := hO
    obtain ⟨s1, s2, s3, s4, s5, rs', s6, s7, s8⟩ := sum
    have tm : TmR I2 J2 (exR rs) := TmR_x a9.2.1 (by rw [s1 136 (by omega)]) (by rw [hJ 153 (by decide), s2 153 (by omega)])
    have rf := sm_admit (d := 6) (J := J2) (x := j) (G := G) (by rw [s1 136 (by omega)]; exact g1) hG8 hj k0 k1 (by rw [s1 143 (by omega)]; exact d2) (by rw [s1 142 (by omega)]; exact c4) hC (by rw [s1 144 (by omega)]; exact f4) (by rw [s1 145 (by omega)]; exact f5) (by rw [s1 146 (by omega)]; exact f6) f7 f8 f9 tm
    refine rf.mono fun v' S J' q => ?_
    obtain ⟨rfl, ⟨m1, m2, m3, m4⟩, m5, m6⟩ := q
    have hj5 : J2 136 5 = lN T := by rw [hJ 136 (by decide), s2 136 (by omega)]; exact a2.2.1.2
    rw [hj5, exR_l, ← s7] at m6
    refine ⟨rfl, by rw [m1 136 0 (by omega) (by omega) (by omega) (by omega), tw_0], by rw [m5 158 (by decide)], ?_⟩
    have m1' : ∀ o, ¬ (o = 136 ∨ o = 145 ∨ o = 146 ∨ o = 152) → S o = I2 o := fun o ho => by
      funext i
      rw [m1 o i (by omega) (by omega) (by omega) (by omega), tw_o _ (by omega)]
    have fr : ∀ o, ¬ (o = 19 ∨ o = 21 ∨ o = 22 ∨ o = gP j + 2 ∨ o = gP j + 3 ∨ o = 136 ∨ o = 145 ∨ o = 146 ∨ o = 152) → S o = I o := fun o ho => by
      rw [m1' o (by omega), s1 o (by omega)]
    have frJ : ∀ o, ¬ (o = 20 ∨ o = 153 ∨ o = 158) → J' o = J o := fun o ho => by
      rw [m5 o (by omega), hJ o (by omega), s2 o (by omega)]
    have f136 : ∀ i, ¬ (i = 0 ∨ i = 27) → S 136 i = I 136 i := fun i hi => by
      rw [m1 136 i (by omega) (by omega) (by omega) (by omega), tw_k _ (by omega), s1 136 (by omega)]
    have k2 : cSc B W E G T S J' S J' := cSc_x a2 (fun j _ _ => f136 j (by omega)) (by rw [frJ 136 (by omega)]) (fr 0 (by omega)) (fun j _ _ => by rw [fr 2 (by omega)]) (by rw [frJ 0 (by omega)]) (fun i _ z => by rw [fr 138 (by omega)]; exact z)
    have k4 : cUn (T / W) S S := cUn_x a4 (fr 137 (by omega)) (fr 3 (by omega))
    have k5 : cWa (T / W) G S S := cWa_x a5 (fr 138 (by omega)) (fr 139 (by omega)) (fun o _ _ _ => fr o (by omega))
    have k6 : cWys G U S S := cWys_x a6 (fr 149 (by omega)) (fr 148 (by omega)) (fr 150 (by omega)) (fr 147 (by omega)) (fun x _ hx _ _ => fr _ (by have := gP_e x; omega))
    have k7 : cPl G U (sN S) (tN S) S S := by
      have es : sN S = sN I := by funext l; unfold sN; rw [fr 149 (by omega)]
      have et : tN S = tN I := by funext l; unfold tN; rw [fr 150 (by omega)]
      rw [es, et]
      exact cPl_x a7 (f136 24 (by omega)) (fr 151 (by omega)) (fr 12 (by omega)) (fr 13 (by omega)) (fun _ => Nat.le_refl _) (fun _ => Nat.le_refl _) (fun _ _ _ _ => rfl)
    have k8 : cBd (m + 1) G U S := cBd_x a8 (Nat.le_succ _) (fr 149 (by omega)) (fr 150 (by omega)) (fr 144 (by omega)) (fr 138 (by omega))
    have k3 : cGts W E G T C S J' S J' := by
      intro y hy
      have gy := gP_e y
      obtain ⟨b1, b2⟩ := a3 y hy
      refine ⟨gG_x b1 (by rw [fr 140 (by omega)]) (by rw [frJ 141 (by omega)]) (by rw [fr 142 (by omega)]) (by rw [fr 143 (by omega)]) (fr _ (by omega)) (frJ _ (by omega)), ?_⟩
      have o145 : ∀ i, ¬ (i = 3 * j + 1) → S 145 i = I 145 i := fun i hi => by
        rw [m1 145 i (by omega) (by omega) (by omega) (by omega), tw_o _ (by decide), s1 145 (by omega)]
      have o146 : ∀ i, ¬ (i = 3 * j + 1) → S 146 i = I 146 i := fun i hi => by
        rw [m1 146 i (by omega) (by omega) (by omega) (by omega), tw_o _ (by decide), s1 146 (by omega)]
      by_cases c : y = j
      · subst c
        rw [hwd] at b2 ⊢
        intro z hz
        rw [fr (gP y + 1) (by omega), fr 144 (by omega), m1' (gP y + 2) (by omega), m1' (gP y + 3) (by omega), s3, s4]
        by_cases c2 : z = 1
        · subst c2
          rw [e3, if_pos rfl, if_pos rfl, m2, m3]
          have st1 := stK_le hh t p (adN k hh p)
          have ad1 : adN k hh p ≤ hh - p := Nat.min_le_right _ _
          have st2 := stK_ge (t := t) (show p + adN k hh p ≤ hh by omega)
          exact ⟨⟨f1, rfl, rfl⟩, hh, p + adN k hh p, stK hh t p (adN k hh p), ⟨f4, rfl, rfl⟩, st2, st1, f9, f10⟩
        · have hne : ¬ sl3 wd z = wd % 3 := fun e => c2 (sl3_inj (w := wd) hz (by decide) (by rw [e, e3]))
          rw [if_neg hne, if_neg hne, o145 _ (by omega), o146 _ (by omega)]
          exact b2 z hz
      · refine gK_x b2 (fun z hz => ?_) (fr _ (by omega)) (fr _ (by omega)) (fr _ (by omega))
        rw [fr 144 (by omega), o145 _ (by omega), o146 _ (by omega)]
        exact ⟨rfl, rfl, rfl⟩
    have k9 : cAd (m + 1) rs' S J' S J' := by
      refine ⟨AdC_ext s6 (m1' 19 (by omega)) (m1' 21 (by omega)) (by rw [m5 20 (by decide), hJ 20 (by decide)]), m6, ?_⟩
      have := a9.2.2
      omega
    have k10 : cUs G S S := by
      refine ⟨fun z hz => ?_, fun l hl hg => ?_, fun y hy hg => ?_⟩
      · rw [m1' 22 (by omega), s5 z hz]
        by_cases c : z = wd
        · rw [if_pos c, c, m4 (by omega), tw_o _ (by decide), s1 152 (by omega), a10.1 wd (by omega)]
        · rw [if_neg c, m1 152 z (by omega) (by omega) (by omega) (by omega), tw_o _ (by decide), s1 152 (by omega), a10.1 z hz]
      · rw [fr 149 (by omega), fr 148 (by omega)]
        exact a10.2.1 l hl hg
      · rw [fr (gP y + 4) (by have := gP_e y; omega), fr (gP y + 9) (by have := gP_e y; omega)]
        exact a10.2.2 y hy hg
    exact ⟨B, W, E, G, T, C, U, rs', nB_m n1 hm, k2, k3, k4, k5, k6, k7, k8, k9, k10⟩
  · exact Or.inl (pr_t h hm (sp_admitS g0 hG8 hj hq1 hq2 d1) (sm_admitS g1 hG8 hj hq1 hq2 (by rw [d2]; decide)))
end PAIR6

