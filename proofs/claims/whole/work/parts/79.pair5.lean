/-! pairs: back, admits -/
section PAIR5
variable {m : Nat} {I : T2} {J : T3}
theorem hS_3 {A : T2} {o x : Nat} : ∀ k, k < 3 → (A o (3 * x + k)).toNatClampNeg ≤ hS A o x := fun k hk => by
  unfold hS
  match k, hk with
  | 0, _ => rw [Nat.add_zero]; omega
  | 1, _ => omega
  | 2, _ => omega
/-- one of three becomes less -/
theorem hS_le {A S : T2} {o x : Nat} (h : ∀ k, k < 3 → (S o (3 * x + k)).toNatClampNeg ≤ (A o (3 * x + k)).toNatClampNeg) : hS S o x ≤ hS A o x := by
  have h0 := h 0 (by decide)
  have h1 := h 1 (by decide)
  have h2 := h 2 (by decide)
  unfold hS
  rw [Nat.add_zero] at h0
  omega
theorem pr_back (h : Rel m I J I J) (hm : m < 512) (x w q : Int32) : PrT mX6_back [.int x, .int w, .int q] mX7_back [.int x, .int w, .int q] eIB 1 m I J ∨ PrT mX6_back [.int x, .int w, .int q] mX7_back [.int x, .int w, .int q] eIS 2 m I J ∨ PrT mX6_back [.int x, .int w, .int q] mX7_back [.int x, .int w, .int q] eIA 3 m I J ∨ PrT mX6_back [.int x, .int w, .int q] mX7_back [.int x, .int w, .int q] eUO 4 m I J ∨ PrR mX6_back [.int x, .int w, .int q] mX7_back [.int x, .int w, .int q] m I J := by
  obtain ⟨B, W, E, G, T, C, U, rs, h9⟩ := id h
  obtain ⟨n1, a2, a3, a4, a5, a6, a7, a8, a9, a10⟩ := id h9
  have hG8 : G ≤ 8 := n1.2.2.2.2.2.1
  have g0 : I 0 7 = nI G := a2.1.2.2.2.2.2.2.1
  have g1 : I 136 4 = nI G := a2.1.2.2.2.2.2.2.2
  obtain ⟨f, n, p1, p2, p3⟩ := id a7
  have hn : n ≤ 200 := p1.2.2.2
  rcases gx hG8 x with hx | ⟨j, hj, rfl⟩
  · exact Or.inl (pr_t h hm (sp_backB (by rw [g0]; exact hx)) (sm_backB (by rw [g1]; exact hx)))
  right
  obtain ⟨⟨c0, c1, ⟨c3, c4⟩, c5, c6⟩, hK⟩ := a3 j hj
  rcases c5 with ⟨d1, d2⟩ | ⟨d1, d2⟩
  · right
    have gj := gP_e j
    have wy := (a6 j hj).1
    have eo := Wy_open wy
    obtain ⟨s, r, y0, y1, y2, y3, y4, y5, y6, y7, y8, y9, y10, y11, y12⟩ := Wy_ex wy
    have hC : C j / W < 2 ^ 30 := nB_c n1 c6
    have efi : fiC I (gP j) w = if slI w (nI (C j / W)) = -1 then 0 else I (gP j + 1) (slI w (nI (C j / W))).toNatClampNeg - I (gP j + 3) (slI w (nI (C j / W))).toNatClampNeg := by unfold fiC; rw [c3]
    -- what may go back
    rcases wx w hC with ⟨s1, s2⟩ | ⟨i, i1, i2, i3, s1, s2⟩
    · rw [s1, if_pos rfl] at efi
      refine Or.inl (pr_t h hm (sp_backA g0 hG8 hj (by rw [d1]; decide) ?_) (sm_backA g1 hG8 hj d2 (fun z => z.1 (by rw [c4]; exact s2))))
      rw [efi]
      by_cases c : q < 1
      · exact Or.inl c
      · refine Or.inr fun z => c ?_
        rw [Int32.lt_iff_toInt_lt]
        rw [Int32.le_iff_toInt_le] at z
        have e0 : (0 : Int32).toInt = 0 := by decide
        have e1 : (1 : Int32).toInt = 1 := by decide
        omega
    · rw [s1, if_neg (sl3_ne _ _), sl3_cl] at efi
      obtain ⟨⟨f1, f2, f3⟩, hh, p, t, ⟨f4, f5, f6⟩, f7, f8, f9, f10⟩ := hK i i1
      rw [f1, f3] at efi
      have eM : (whI w (I 142 j)).toNatClampNeg = i := by rw [c4, s2, nI_clamp (by omega)]
      by_cases cA : q < 1 ∨ ¬ q ≤ fiC I (gP j) w
      · refine Or.inl (pr_t h hm (sp_backA g0 hG8 hj (by rw [d1]; decide) cA) (sm_backA g1 hG8 hj d2 (fun z => ?_)))
        rcases cA with cA | cA
        · exact z.2.1 cA
        · refine cA ?_
          have := z.2.2
          rw [eM] at this
          rw [efi]
          exact this
      · right
        have hq1 : ¬ q < 1 := fun z => cA (Or.inl z)
        have hq2 : q ≤ fiC I (gP j) w := Classical.not_not.mp fun z => cA (Or.inr z)
        have rt : rtM I j w q := ⟨by rw [c4, s2]; exact rE_ne (by omega), hq1, by rw [eM, ← efi]; exact hq2⟩
        by_cases ho : I 148 j < 50
        · right
          have hq0 : ¬ q < 0 := fun z => hq1 (by
            rw [Int32.lt_iff_toInt_lt] at z ⊢
            have e0 : (0 : Int32).toInt = 0 := by decide
            have e1 : (1 : Int32).toInt = 1 := by decide
            omega)
          obtain ⟨k, k1, rfl⟩ := nI_of hq0
          have k2 : k ≤ hh - t := by
            rw [efi, f4, f6, pk_sub f8] at hq2
            exact (nI_leI k1 (by omega)).mp hq2
          refine (sp_backX g0 hG8 hj (by rw [d1]; decide) hq1 hq2 (by rw [eo]; exact ho) p1 y7 y3).mono fun v I1 J1 q => ?_
          obtain ⟨rfl, rfl, rfl⟩ := q
          refine ⟨(by first | exact rfl | exact ⟨_, rfl⟩ | exact ⟨_, rfl, Or.inl rfl⟩ | exact ⟨_, rfl, Or.inr rfl⟩), ?_⟩
          intro I2 J2 hO
          obtain ⟨rfl, hJ⟩ := hO
          have eas : asC I (gP j) w (-(nI k)) = up2 I (gP j + 1) (sl3 (C j / W) i) (nI (hh - k)) := by
            unfold asC
            rw [c3, s1, if_neg (sl3_ne _ _), sl3_cl, f1, f4, ← Int32.sub_eq_add_neg, pk_sub (by omega)]
          rw [eas]
          generalize hI0 : up2 I (gP j + 1) (sl3 (C j / W) i) (nI (hh - k)) = I0
          have q0 : ∀ o, ¬ (o = gP j + 1) → I0 o = I o := fun o ho => by rw [← hI0, up2_ne _ _ _ ho]
          generalize hS1 : sndC I0 (gP j + 4) s 1 w (nI k) 0 = S1
          have q1 : ∀ o, ¬ (o = 12 ∨ o = 13 ∨ o = gP j + 1 ∨ (gP j + 4 ≤ o ∧ o ≤ gP j + 8)) → S1 o = I o := fun o ho => by
            rw [← hS1, sndC_o (by omega) (by omega) (by omega) (by omega) (by omega) (by omega) (by omega), q0 o (by omega)]
          have mok : MOk S1 := by
            have m0 := mok_of hG8 a6 ⟨n, hn, p2⟩ a10
            exact MOk_e m0 (by rw [q1 136 (by omega)]) (q1 149 (by omega)) (q1 148 (by omega))
          refine (sm_back (x := j) (G := G) (j := i) mok (by rw [q1 136 (by omega)]; exact g1) hG8 hj (by rw [q1 143 (by omega)]; exact d2) ?_ (by rw [q1 142 (by omega), c4]; exact s2) i1 (by rw [q1 148 (by omega)]; exact ho)).mono fun v' I' J' q => ?_
          · unfold rtM
            rw [q1 142 (by omega), q1 144 (by omega), q1 146 (by omega)]
            exact rt
          obtain ⟨rfl, rfl, rfl⟩ := q
          rw [q1 144 (by omega), f4, pk_sub (by omega)]
          generalize hA0 : up2 (tw S1 0) 144 (3 * j + i) (nI (hh - k)) = A0
          have qA : ∀ o, ¬ (o = 136 ∨ o = 144) → A0 o = S1 o := fun o ho => by rw [← hA0, up2_ne _ _ _ (by omega), tw_o _ (by omega)]
          have qk : ∀ i, ¬ (i = 0) → A0 136 i = I 136 i := fun i hi => by rw [← hA0, up2_ne _ _ _ (by decide), tw_k _ hi, q1 136 (by omega)]
          have q00 : A0 136 0 = 0 := by rw [← hA0, up2_ne _ _ _ (by decide), tw_0]
          have q144 : ∀ z, A0 144 z = if z = 3 * j + i then nI (hh - k) else I 144 z := fun z => by
            rw [← hA0, up2_v, tw_o _ (by decide), q1 144 (by omega)]
            by_cases c : z = 3 * j + i
            · rw [if_pos ⟨rfl, c⟩, if_pos c]
            · rw [if_neg (fun y => c y.2), if_neg c]
          have esA : sN A0 = sN I := by funext l; unfold sN; rw [qA 149 (by omega), q1 149 (by omega)]
          have etA : tN A0 = tN I := by funext l; unfold tN; rw [qA 150 (by omega), q1 150 (by omega)]
          have hwA : cWys G U A0 I0 := cWys_x a6 (by rw [qA 149 (by omega), q1 149 (by omega)]) (by rw [qA 148 (by omega), q1 148 (by omega)]) (by rw [qA 150 (by omega), q1 150 (by omega)]) (by rw [qA 147 (by omega), q1 147 (by omega)]) (fun y z hy _ _ => q0 _ (by have := gP_e y; omega))
          have hpA : cPl G U (sN A0) (tN A0) A0 I0 := by
            rw [esA, etA]
            exact cPl_x a7 (qk 24 (by decide)) (by rw [qA 151 (by omega), q1 151 (by omega)]) (q0 12 (by omega)) (q0 13 (by omega)) (fun _ => Nat.le_refl _) (fun _ => Nat.le_refl _) (fun _ _ _ _ => rfl)
          have hsm := (a8 j hj).1
          obtain ⟨r1, r2, r3, r4⟩ := snd_rel (U' := U) (x := j) (l := j) (a := gP j + 4) (s := s) (so := 1) (w := w) (u := nI k) (t := 0) hG8 hj (Or.inl ⟨rfl, rfl⟩) hwA hpA (by rw [esA]; exact y0) (by rw [qA 148 (by omega), q1 148 (by omega)]; exact ho) (fun _ _ _ _ => rfl) (by have := n1.2.2.2.2.2.2.2.2; omega) ⟨j, hj, rfl, Or.inr (Or.inl ⟨rfl, s + 1, by omega, Nat.le_of_eq (if_pos rfl).symm, rfl⟩)⟩
          rw [hS1] at r1 r2
          rw [esA] at r3
          rw [etA] at r4
          have lo : ∀ o, o < 136 → sM A0 j 1 (nI j) w (nI k) 0 o = S1 o := fun o ho => by rw [snd_lo ho, qA o (by omega)]
          have fr : ∀ o, ¬ (o = 12 ∨ o = 13 ∨ o = gP j + 1 ∨ (gP j + 4 ≤ o ∧ o ≤ gP j + 8) ∨ o = 136 ∨ o = 144 ∨ o = 147 ∨ o = 148 ∨ o = 149 ∨ o = 151) → sM A0 j 1 (nI j) w (nI k) 0 o = I o := fun o ho => by
            rw [sM_o (by omega) (by omega) (by omega) (by omega) (by omega), qA o (by omega), q1 o (by omega)]
          have frJ : ∀ o, ¬ (o = 158) → J2 o = J o := hJ
          have f136 : ∀ i, ¬ (i = 0 ∨ i = 24) → sM A0 j 1 (nI j) w (nI k) 0 136 i = I 136 i := fun i hi => by
            rw [sM_k (by omega), qk i (by omega)]
          have eln : ∀ l, l ≠ j → sM A0 j 1 (nI j) w (nI k) 0 149 l = I 149 l ∧ sM A0 j 1 (nI j) w (nI k) 0 148 l = I 148 l := fun l hl => by
            rw [sM_149 hl, sM_148 hl, qA 149 (by omega), qA 148 (by omega), q1 149 (by omega), q1 148 (by omega)]
            exact ⟨rfl, rfl⟩
          have e0 : sM A0 j 1 (nI j) w (nI k) 0 136 0 = 0 := by rw [sM_k (by decide), q00]
          have e144 : ∀ z, sM A0 j 1 (nI j) w (nI k) 0 144 z = if z = 3 * j + i then nI (hh - k) else I 144 z := fun z => by
            rw [sM_o (by decide) (by decide) (by decide) (by decide) (by decide), q144]
          have es1 : ∀ z, S1 (gP j + 1) z = if z = sl3 (C j / W) i then nI (hh - k) else I (gP j + 1) z := fun z => by
            rw [← hS1, sndC_o (by omega) (by omega) (by omega) (by omega) (by omega) (by omega) (by omega), ← hI0, up2_v]
            by_cases c : z = sl3 (C j / W) i
            · rw [if_pos ⟨rfl, c⟩, if_pos c]
            · rw [if_neg (fun y => c y.2), if_neg c]
          generalize sM A0 j 1 (nI j) w (nI k) 0 = S at *
          refine ⟨rfl, e0, rfl, ?_⟩
          have k2 : cSc B W E G T S J2 S J2 := cSc_x a2 (fun j _ _ => f136 j (by omega)) (by rw [frJ 136 (by omega)]) (fr 0 (by omega)) (fun j _ _ => by rw [fr 2 (by omega)]) (by rw [frJ 0 (by omega)]) (fun i _ z => by rw [fr 138 (by omega)]; exact z)
          have k4 : cUn (T / W) S S := cUn_x a4 (fr 137 (by omega)) (fr 3 (by omega))
          have k5 : cWa (T / W) G S S := cWa_x a5 (fr 138 (by omega)) (fr 139 (by omega)) (fun o _ _ _ => fr o (by omega))
          have k9 : cAd (m + 1) rs S J2 S J2 := cAd_x a9 (Nat.le_succ _) (f136 27 (by omega)) (frJ 153 (by omega)) (fr 19 (by omega)) (fr 21 (by omega)) (frJ 20 (by omega))
          have k3 : cGts W E G T C S J2 S J2 := by
            intro y hy
            have gy := gP_e y
            obtain ⟨b1, b2⟩ := a3 y hy
            refine ⟨gG_x b1 (by rw [fr 140 (by omega)]) (by rw [frJ 141 (by omega)]) (by rw [fr 142 (by omega)]) (by rw [fr 143 (by omega)]) (fr _ (by omega)) (frJ _ (by omega)), ?_⟩
            by_cases c : y = j
            · subst c
              intro z hz
              rw [lo _ (by omega), es1, e144, fr (gP y + 2) (by omega), fr (gP y + 3) (by omega), fr 145 (by omega), fr 146 (by omega)]
              by_cases c2 : z = i
              · subst c2
                rw [if_pos rfl, if_pos rfl]
                exact ⟨⟨rfl, f2, f3⟩, hh - k, p, t, ⟨rfl, f5, f6⟩, f7, by omega, by omega, by omega⟩
              · rw [if_neg (fun e => c2 (sl3_inj hz i1 e)), if_neg (by omega)]
                exact b2 z hz
            · refine gK_x b2 (fun z hz => ?_) (fr _ (by omega)) (fr _ (by omega)) (fr _ (by omega))
              rw [e144, if_neg (by omega), fr 145 (by omega), fr 146 (by omega)]
              exact ⟨rfl, rfl, rfl⟩
          have k10 : cUs G S S := cUs_x a10 (fr 152 (by omega)) (fr 22 (by omega)) (fun l _ hg => eln l (by omega)) (fun y hy hg => ⟨fr _ (by have := gP_e y; omega), fr _ (by have := gP_e y; omega)⟩)
          have k8 : cBd (m + 1) G U S := by
            intro y hy
            obtain ⟨b1, b2, b3, b4⟩ := a8 y hy
            have e1 : hS S 144 y ≤ hS I 144 y := hS_le fun z hz => by
              rw [e144]
              by_cases c : 3 * y + z = 3 * j + i
              · rw [if_pos c, c, f4, nI_clamp (by omega), nI_clamp (by omega)]; omega
              · rw [if_neg c]; exact Nat.le_refl _
            have e2 : hS S 138 y = hS I 138 y := by unfold hS; rw [fr 138 (by omega)]
            have e3 : sN S (8 + y) = sN I (8 + y) := by rw [r3]; exact if_neg (by omega)
            rw [r4, e2, e3]
            refine ⟨?_, by omega, b3, b4⟩
            rw [r3]
            show (if y = j then s + 1 else sN I y) ≤ m + 1
            by_cases c : y = j
            · rw [if_pos c]; omega
            · rw [if_neg c]; omega
          exact ⟨B, W, E, G, T, C, U, rs, nB_m n1 hm, k2, k3, k4, k5, cWys_lo hG8 r1 lo, cPl_lo r2 lo, k8, k9, k10⟩
        · exact Or.inl (pr_t h hm (sp_backU g0 hG8 hj (by rw [d1]; decide) hq1 hq2 (by rw [eo]; exact ho)) (sm_backU g1 hG8 hj d2 rt ho))
  · exact Or.inl (pr_t h hm (sp_backS g0 hG8 hj d1) (sm_backS g1 hG8 hj (by rw [d2]; decide)))
end PAIR5

