/-! pairs: plead, back -/
section PAIR4
variable {m : Nat} {I : T2} {J : T3}
theorem sM_n' {A : T2} {n l s k : Nat} {so g w u t : Int32} (hn : A 136 24 = nI n) (hn2 : n < 2 ^ 31) (hs : A 149 l = nI s) (hs2 : s < 2 ^ 31) (hk : A 148 l = nI k) (hk2 : k < 2 ^ 31) : snM A n l s k so g w u t = sM A l so g w u t := by
  unfold sM
  rw [hn, hs, hk, nI_clamp hn2, nI_clamp hs2, nI_clamp hk2]
theorem cWys_lo {G : Nat} {U : Nat → Nat → Nat} {S I1 : T2} (hG8 : G ≤ 8) (h : cWys G U S I1) (lo : ∀ o, o < 136 → S o = I1 o) : cWys G U S S := cWys_x h rfl rfl rfl rfl (fun x j hx _ _ => lo _ (by have := gP_e x; omega))
theorem cPl_lo {G : Nat} {U : Nat → Nat → Nat} {st tt : Nat → Nat} {S I1 : T2} (h : cPl G U st tt S I1) (lo : ∀ o, o < 136 → S o = I1 o) : cPl G U st tt S S := cPl_x h rfl rfl (lo 12 (by decide)) (lo 13 (by decide)) (fun _ => Nat.le_refl _) (fun _ => Nat.le_refl _) (fun _ _ _ _ => rfl)
theorem snd_lo {A : T2} {l o : Nat} {so g w u t : Int32} (h : o < 136) : sM A l so g w u t o = A o := sM_o (by omega) (by omega) (by omega) (by omega) (by omega)
theorem mok_of {G : Nat} {U : Nat → Nat → Nat} {A : T2} (hG8 : G ≤ 8) (h6 : cWys G U A I) (h7 : ∃ n, n ≤ 200 ∧ A 136 24 = nI n) (h10 : cUs G A I) : MOk A := by
  refine ⟨h7, fun l hl => ?_⟩
  by_cases c : l % 8 < G
  · have : ∃ a x, Wy G U (sN A) (tN A) A I l a x := by
      by_cases c2 : l < 8
      · exact ⟨_, _, by have := (h6 (l % 8) c).1; rw [Nat.mod_eq_of_lt c2] at this; exact this⟩
      · exact ⟨_, _, by have := (h6 (l % 8) c).2; rw [show 8 + l % 8 = l by omega] at this; exact this⟩
    obtain ⟨a, x, hw⟩ := this
    obtain ⟨s, r, y0, y1, y2, y3, y4, y5, y6, y7, y8, y9, y10, y11, y12⟩ := Wy_ex hw
    exact ⟨⟨s, y3, y10⟩, s - r, by omega, y11⟩
  · obtain ⟨z1, z2⟩ := h10.2.1 l hl (by omega)
    exact ⟨⟨0, by decide, z1⟩, 0, by decide, z2⟩
/-- told: what was spent in the window before -/
theorem told_eq {A : T2} {w x : Nat} (hw : w < 2 ^ 30) (hK : gK w x A I) (h7 : I (gP x) 7 = nI w) : siC I (gP x) (I (gP x) 7 - 1) = A 145 (3 * x) ∧ ¬ A 145 (3 * x) < 0 := by
  obtain ⟨⟨f1, f2, f3⟩, h, p, t, ⟨f4, f5, f6⟩, f7, f8, f9, f10⟩ := hK 0 (by decide)
  rw [Nat.add_zero] at f1 f2 f3 f4 f5 f6
  refine ⟨?_, by rw [f5]; exact nI_pos (by omega)⟩
  unfold siC
  rw [h7]
  by_cases c : w = 0
  · subst c
    have h0 : h = 0 := f10 rfl
    have hs : slI (nI 0 - 1) (nI 0) = -1 := by decide
    rw [if_pos hs, f5, show p = 0 by omega]
    rfl
  · have e : nI w - 1 = nI (w + 0 - 1) := by
      rw [show w = (w - 1) + 1 by omega, nI_pred]; rfl
    have s1 := (wx_k (k := 0) hw (by decide) (by omega)).1
    rw [e, s1, if_neg (sl3_ne _ _), sl3_cl]
    exact f2
theorem pr_plead (h : Rel m I J I J) (hm : m < 512) (x q : Int32) : PrT mX6_plead [.int x, .int q] mX7_plead [.int x, .int q] eIB 1 m I J ∨ PrT mX6_plead [.int x, .int q] mX7_plead [.int x, .int q] eIA 2 m I J ∨ PrT mX6_plead [.int x, .int q] mX7_plead [.int x, .int q] eIS 3 m I J ∨ PrT mX6_plead [.int x, .int q] mX7_plead [.int x, .int q] eUO 4 m I J ∨ PrR mX6_plead [.int x, .int q] mX7_plead [.int x, .int q] m I J := by
  obtain ⟨B, W, E, G, T, C, U, rs, h9⟩ := id h
  obtain ⟨n1, a2, a3, a4, a5, a6, a7, a8, a9, a10⟩ := id h9
  have hG8 : G ≤ 8 := n1.2.2.2.2.2.1
  have g0 : I 0 7 = nI G := a2.1.2.2.2.2.2.2.1
  have g1 : I 136 4 = nI G := a2.1.2.2.2.2.2.2.2
  obtain ⟨f, n, p1, p2, p3⟩ := id a7
  have hn : n ≤ 200 := p1.2.2.2
  rcases gx hG8 x with hx | ⟨j, hj, rfl⟩
  · exact Or.inl (pr_t h hm (sp_pleadB (by rw [g0]; exact hx)) (sm_pleadB (by rw [g1]; exact hx)))
  right
  by_cases hq : q < 1 ∨ ¬ q ≤ 1000000
  · exact Or.inl (pr_t h hm (sp_pleadA g0 hG8 hj hq) (sm_pleadA g1 hG8 hj hq))
  right
  have hq1 : ¬ q < 1 := fun z => hq (Or.inl z)
  have hq2 : q ≤ 1000000 := Classical.not_not.mp fun z => hq (Or.inr z)
  obtain ⟨⟨c0, c1, ⟨c3, c4⟩, c5, c6⟩, hK⟩ := a3 j hj
  rcases c5 with ⟨d1, d2⟩ | ⟨d1, d2⟩
  · right
    have gj := gP_e j
    have wy := (a6 j hj).1
    have eo := Wy_open wy
    obtain ⟨s, r, y0, y1, y2, y3, y4, y5, y6, y7, y8, y9, y10, y11, y12⟩ := Wy_ex wy
    by_cases ho : I 148 j < 50
    · right
      have hq0 : ¬ q < 0 := fun z => hq1 (by
        rw [Int32.lt_iff_toInt_lt] at z ⊢
        have e0 : (0 : Int32).toInt = 0 := by decide
        have e1 : (1 : Int32).toInt = 1 := by decide
        omega)
      obtain ⟨k, k1, rfl⟩ := nI_of2 (M := 1000000) (n := 1000000) (by decide) hq0 hq2
      have k0 : 1 ≤ k := Nat.lt_of_not_le fun z => hq1 (nI_lt (b := 1) (by omega) (by decide))
      refine (sp_pleadX g0 hG8 hj k0 k1 (by rw [d1]; decide) (by rw [eo]; exact ho) p1 y7 y3).mono fun v I1 J1 q => ?_
      obtain ⟨rfl, rfl, rfl⟩ := q
      refine ⟨(by first | exact rfl | exact ⟨_, rfl⟩ | exact ⟨_, rfl, Or.inl rfl⟩ | exact ⟨_, rfl, Or.inr rfl⟩), ?_⟩
      intro I2 J2 hO
      obtain ⟨rfl, hJ⟩ := hO
      have hC : C j / W < 2 ^ 30 := nB_c n1 c6
      obtain ⟨t1, t2⟩ := told_eq hC hK c3
      rw [t1, c3]
      generalize hS1 : sndC I (gP j + 4) s 0 (nI (C j / W)) (nI k) (I 145 (3 * j)) = S1
      have q1 : ∀ o, ¬ (o = 12 ∨ o = 13 ∨ (gP j + 4 ≤ o ∧ o ≤ gP j + 8)) → S1 o = I o := fun o ho => by
        rw [← hS1, sndC_o (by omega) (by omega) (by omega) (by omega) (by omega) (by omega) (by omega)]
      refine (sm_plead (n := n) (s := s) (k := s - r) (x := j) (G := G) (by rw [q1 136 (by omega)]; exact g1) hG8 hj hq1 hq2 (by rw [q1 143 (by omega)]; exact d2) (by rw [q1 136 (by omega)]; exact p2) hn (by rw [q1 149 (by omega)]; exact y10) (by rw [q1 148 (by omega)]; exact y11) (by rw [y11] at ho; exact (nI_ltI (b := 50) (by omega) (by decide)).mp ho)).mono fun v' I' J' q => ?_
      obtain ⟨rfl, rfl, rfl⟩ := q
      rw [q1 142 (by omega), q1 145 (by omega), c4, sM_n' (by rw [tw_k _ (by decide), q1 136 (by omega)]; exact p2) (by omega) (by rw [tw_o _ (by decide), q1 149 (by omega)]; exact y10) (by omega) (by rw [tw_o _ (by decide), q1 148 (by omega)]; exact y11) (by omega)]
      -- the pair of states (tw S1 0, I)
      have esA : sN (tw S1 0) = sN I := by funext l; unfold sN; rw [tw_o _ (by decide), q1 149 (by omega)]
      have etA : tN (tw S1 0) = tN I := by funext l; unfold tN; rw [tw_o _ (by decide), q1 150 (by omega)]
      have hwA : cWys G U (tw S1 0) I := cWys_x a6 (by rw [tw_o _ (by decide), q1 149 (by omega)]) (by rw [tw_o _ (by decide), q1 148 (by omega)]) (by rw [tw_o _ (by decide), q1 150 (by omega)]) (by rw [tw_o _ (by decide), q1 147 (by omega)]) (fun _ _ _ _ _ => rfl)
      have hpA : cPl G U (sN (tw S1 0)) (tN (tw S1 0)) (tw S1 0) I := by
        rw [esA, etA]
        exact cPl_x a7 (by rw [tw_k _ (by decide), q1 136 (by omega)]) (by rw [tw_o _ (by decide), q1 151 (by omega)]) rfl rfl (fun _ => Nat.le_refl _) (fun _ => Nat.le_refl _) (fun _ _ _ _ => rfl)
      have hsm := (a8 j hj).1
      obtain ⟨r1, r2, r3, r4⟩ := snd_rel (U' := U) (x := j) (l := j) (a := gP j + 4) (s := s) (so := 0) (w := nI (C j / W)) (u := nI k) (t := I 145 (3 * j)) hG8 hj (Or.inl ⟨rfl, rfl⟩) hwA hpA (by rw [esA]; exact y0) (by rw [tw_o _ (by decide), q1 148 (by omega)]; exact ho) (fun _ _ _ _ => rfl) (by have := n1.2.2.2.2.2.2.2.2; omega) ⟨j, hj, rfl, Or.inl ⟨rfl, ⟨s + 1, by omega, Nat.le_of_eq (if_pos rfl).symm, rfl⟩, ⟨k, k1, rfl⟩, t2⟩⟩
      rw [hS1] at r1 r2
      rw [esA] at r3
      rw [etA] at r4
      have lo : ∀ o, o < 136 → sM (tw S1 0) j 0 (nI j) (nI (C j / W)) (nI k) (I 145 (3 * j)) o = S1 o := fun o ho => by rw [snd_lo ho, tw_o _ (by omega)]
      have fr : ∀ o, ¬ (o = 12 ∨ o = 13 ∨ (gP j + 4 ≤ o ∧ o ≤ gP j + 8) ∨ o = 136 ∨ o = 147 ∨ o = 148 ∨ o = 149 ∨ o = 151) → sM (tw S1 0) j 0 (nI j) (nI (C j / W)) (nI k) (I 145 (3 * j)) o = I o := fun o ho => by
        rw [sM_o (by omega) (by omega) (by omega) (by omega) (by omega), tw_o _ (by omega), q1 o (by omega)]
      have frJ : ∀ o, ¬ (o = 158) → J2 o = J o := hJ
      have f136 : ∀ i, ¬ (i = 0 ∨ i = 24) → sM (tw S1 0) j 0 (nI j) (nI (C j / W)) (nI k) (I 145 (3 * j)) 136 i = I 136 i := fun i hi => by
        rw [sM_k (by omega), tw_k _ (by omega), q1 136 (by omega)]
      have eln : ∀ l, l ≠ j → sM (tw S1 0) j 0 (nI j) (nI (C j / W)) (nI k) (I 145 (3 * j)) 149 l = I 149 l ∧ sM (tw S1 0) j 0 (nI j) (nI (C j / W)) (nI k) (I 145 (3 * j)) 148 l = I 148 l := fun l hl => by
        rw [sM_149 hl, sM_148 hl, tw_o _ (by decide), tw_o _ (by decide), q1 149 (by omega), q1 148 (by omega)]
        exact ⟨rfl, rfl⟩
      have e0 : sM (tw S1 0) j 0 (nI j) (nI (C j / W)) (nI k) (I 145 (3 * j)) 136 0 = 0 := by rw [sM_k (by decide), tw_0]
      generalize sM (tw S1 0) j 0 (nI j) (nI (C j / W)) (nI k) (I 145 (3 * j)) = S at *
      refine ⟨rfl, e0, rfl, ?_⟩
      have k2 : cSc B W E G T S J2 S J2 := cSc_x a2 (fun j _ _ => f136 j (by omega)) (by rw [frJ 136 (by omega)]) (fr 0 (by omega)) (fun j _ _ => by rw [fr 2 (by omega)]) (by rw [frJ 0 (by omega)]) (fun i _ z => by rw [fr 138 (by omega)]; exact z)
      have k3 : cGts W E G T C S J2 S J2 := cGts_x a3 (fun o _ _ => fr o (by omega)) (frJ 141 (by omega)) (fun x _ hx _ => fr _ (by have := gP_e x; omega)) (fun x hx => frJ _ (by have := gP_e x; omega))
      have k4 : cUn (T / W) S S := cUn_x a4 (fr 137 (by omega)) (fr 3 (by omega))
      have k5 : cWa (T / W) G S S := cWa_x a5 (fr 138 (by omega)) (fr 139 (by omega)) (fun o _ _ _ => fr o (by omega))
      have k9 : cAd (m + 1) rs S J2 S J2 := cAd_x a9 (Nat.le_succ _) (f136 27 (by omega)) (frJ 153 (by omega)) (fr 19 (by omega)) (fr 21 (by omega)) (frJ 20 (by omega))
      have k10 : cUs G S S := cUs_x a10 (fr 152 (by omega)) (fr 22 (by omega)) (fun l _ hg => eln l (by omega)) (fun y hy hg => ⟨fr _ (by have := gP_e y; omega), fr _ (by have := gP_e y; omega)⟩)
      have k8 : cBd (m + 1) G U S := by
        intro y hy
        obtain ⟨b1, b2, b3, b4⟩ := a8 y hy
        have e1 : hS S 144 y = hS I 144 y := by unfold hS; rw [fr 144 (by omega)]
        have e2 : hS S 138 y = hS I 138 y := by unfold hS; rw [fr 138 (by omega)]
        have e3 : sN S (8 + y) = sN I (8 + y) := by rw [r3]; exact if_neg (by omega)
        rw [r4, e1, e2, e3]
        refine ⟨?_, b2, b3, b4⟩
        rw [r3]
        show (if y = j then s + 1 else sN I y) ≤ m + 1
        by_cases c : y = j
        · rw [if_pos c]; omega
        · rw [if_neg c]; omega
      exact ⟨B, W, E, G, T, C, U, rs, nB_m n1 hm, k2, k3, k4, k5, cWys_lo hG8 r1 lo, cPl_lo r2 lo, k8, k9, k10⟩
    · exact Or.inl (pr_t h hm (sp_pleadU g0 hG8 hj hq1 hq2 (by rw [d1]; decide) (by rw [eo]; exact ho)) (sm_pleadU g1 hG8 hj hq1 hq2 d2 ho))
  · exact Or.inl (pr_t h hm (sp_pleadS g0 hG8 hj hq1 hq2 d1) (sm_pleadS g1 hG8 hj hq1 hq2 (by rw [d2]; decide)))
end PAIR4

