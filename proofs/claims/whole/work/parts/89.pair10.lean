/-! pairs: split -/
section PAIR10
variable {m : Nat} {I : T2} {J : T3}
def RdN (G : Nat) (A0 : T2) : Nat → T2 → Nat → Prop
  | 0, S, t => S = A0 ∧ t = 0
  | k + 1, S, t => ∃ (A' : T2) (t' : Nat) (J1 J2 : T3), RdN G A0 k A' t' ∧ rdM A' J1 k G S J2 ∧ t = t' + sF (gtM A' k G) G
theorem RdN_ex (G : Nat) (A0 : T2) : ∀ k, ∃ S t, RdN G A0 k S t
  | 0 => ⟨A0, 0, rfl, rfl⟩
  | k + 1 => by
    obtain ⟨S, t, h⟩ := RdN_ex G A0 k
    refine ⟨_, _, S, t, fun _ _ => 0, fun _ _ => 0, h, ⟨fun _ _ => rfl, fun o i => if o = 138 ∧ i % 3 = k ∧ i < 3 * G then 0 else S o i, fun o h1 _ _ _ => ?_, fun i => ?_, rfl⟩, rfl⟩
    · funext i
      exact if_neg (fun z => h1 z.1)
    · show (if 138 = 138 ∧ i % 3 = k ∧ i < 3 * G then 0 else S 138 i) = _
      by_cases c : i % 3 = k ∧ i < 3 * G
      · rw [if_pos ⟨rfl, c⟩, if_pos c]
      · rw [if_neg (fun z => c z.2), if_neg c]
def sPl (o : Nat) : Prop := ¬ (5 ≤ o ∧ o ≤ 7) ∧ ¬ (14 ≤ o ∧ o ≤ 18)
def Gz (D k : Nat) (X I1 : T2) : Prop := (∀ o, sPl o → X o = I1 o) ∧ ∀ j, j < 3 → ∀ y, X (4 + 1 + sl3 D j) y = if j < k ∧ y < 8 then 0 else I1 (4 + 1 + sl3 D j) y
theorem gtC_c {X Y : T2} {σ G : Nat} (hG8 : G ≤ 8) (h2 : X 2 5 = Y 2 5) (h3 : X 3 σ = Y 3 σ) (h5 : ∀ y, y < 8 → X (4 + 1 + σ) y = Y (4 + 1 + σ) y) (h9 : ∀ y, y < 8 → X (8 + 1 + σ) y = Y (8 + 1 + σ) y) (hw : ∀ y, y < G → X (gP y + 9) = Y (gP y + 9)) : gtC X σ G = gtC Y σ G := by
  have es : ∀ y, y < G → shC X (gP y + 9) = shC Y (gP y + 9) := fun y hy => by unfold shC; rw [hw y hy]
  have e1 : duC X σ G = duC Y σ G := by
    funext y
    unfold duC
    by_cases c : y < G
    · rw [es y c, h5 y (by omega)]
    · rw [if_neg (fun z => c z.1), if_neg (fun z => c z.1)]
  have e2 : usC X σ G = usC Y σ G := by
    funext y
    unfold usC
    by_cases c : y < G
    · rw [es y c, h9 y (by omega)]
    · rw [if_neg (fun z => c z.1), if_neg (fun z => c z.1)]
  unfold gtC
  rw [e1, e2, h2, h3]
set_option maxHeartbeats 1000000 in
theorem pr_split (h : Rel m I J I J) (hm : m < 512) : PrT mX6_split [] mX7_split [] eIS 1 m I J ∨ PrR mX6_split [] mX7_split [] m I J := by
  obtain ⟨B, W, E, G, T, C, U, rs, h9⟩ := id h
  obtain ⟨n1, a2, -⟩ := id h9
  have hG8 : G ≤ 8 := n1.2.2.2.2.2.1
  have hT : T / W < 2 ^ 30 := nB_c n1 (Nat.le_add_right _ _)
  rcases a2.2.2.2.2 with ⟨u1, u2⟩ | ⟨u1, u2, -⟩
  · right
    have gp : ∀ x, gP x = 24 + 14 * x := fun _ => rfl
    refine (sp_split (d := 1) (D := T / W) (I := I) (J := J) (by rw [u1]; decide) (fun k t I1 J1 => (∀ o, 136 ≤ o → I1 o = I o) ∧ (∀ o, o ≠ 18 → J1 o = J o) ∧ ∀ A0 : T2, (∀ o, 136 ≤ o → A0 o = tw I 0 o) → ∀ S t', RdN G A0 k S t' → t' = t ∧ ∃ U' X, Rl m B W E G T C U' rs S J X J ∧ Gz (T / W) k X I1) ⟨fun _ _ => rfl, fun _ _ => rfl, fun A0 hA S t' hR => ?_⟩ (fun k t I1 J1 hk hp => ?_)).mono fun v I1 J1 q => ?_
    · obtain ⟨rfl, rfl⟩ := hR
      refine ⟨rfl, U, I, Rl_x h9 (fun i hi' => ?_) (fun o o1 o2 => ?_) ⟨rfl, rfl, rfl⟩ (fun _ _ _ _ => rfl) (fun _ _ _ => rfl), fun _ _ => rfl, fun j hj y => ?_⟩
      · rw [hA 136 (Nat.le_refl _), tw_k _ hi']
      · rw [hA o (by omega), tw_o _ (by omega)]
      · rw [if_neg (fun z => absurd z.1 (Nat.not_lt_zero _))]
    · obtain ⟨hi, hJ1, hP⟩ := hp
      obtain ⟨S0, t0, r0⟩ := RdN_ex G (tw I 0) k
      obtain ⟨-, U0, X0, hX0, hG0⟩ := hP (tw I 0) (fun _ _ => rfl) S0 t0 r0
      obtain ⟨-, b2, -, -, b5, b6, b7, -, -, -⟩ := id hX0
      have x2 : X0 2 = I1 2 := hG0.1 2 ⟨by omega, by omega⟩
      have x0 : X0 0 = I1 0 := hG0.1 0 ⟨by omega, by omega⟩
      have D1 : I1 2 4 = nI (T / W) := by rw [← x2]; exact b2.2.2.1.1
      refine ⟨D1, ?_⟩
      by_cases c : 1 ≤ T / W + k
      · have hw : nI (T / W) + iI ((k : Int) - 1) = nI (T / W + k - 1) := by
          rw [iI_nI, iI_add, iI_nI (T / W + k - 1)]
          congr 1
          omega
        rw [hw]
        obtain ⟨s1, s2⟩ := wx_k hT hk c
        obtain ⟨f, n, p1, p2, p3⟩ := b7
        have hsl := sl3_lt (T / W) k
        have x12 : X0 12 = I1 12 := hG0.1 12 ⟨by omega, by omega⟩
        refine (sp_share (d := 1) (J := J1) (σ := sl3 (T / W) k) (G := G) (w := nI (T / W + k - 1)) (by rw [D1]; exact s1) hsl (by rw [← x0]; exact b2.1.2.2.2.2.2.2.1) hG8 (PlOk_e p1 x12.symm) (fun y hy => ?_) (fun y hy => ?_)).mono fun v I' J' q => ?_
        · rw [← hG0.1 (8 + 1 + sl3 (T / W) k) ⟨by omega, by omega⟩]
          exact (b5 y hy k hk).2.2.1
        · have := gP_e y
          obtain ⟨s, r, y0, y1, y2, y3, y4, y5, y6, y7, -⟩ := Wy_ex (b6 y hy).2
          exact ⟨s, y3, by rw [← hG0.1 (gP y + 9) ⟨by omega, by omega⟩]; exact y7⟩
        obtain ⟨rfl, q1, I2, q2, rfl⟩ := q
        refine ⟨_, rfl, fun o ho => ?_, fun o ho => by rw [q1 o ho, hJ1 o ho], fun A0 hA S'' t'' hR => ?_⟩
        · rw [grF_o (by omega) (by omega) (by omega) G (fun x hx => Or.inr (by have := gP_e x; omega)), q2 o (by omega) (by omega) (by omega) (by omega), hi o ho]
        obtain ⟨A', t', Ja, Jb, hRk, hrd, rfl⟩ := hR
        obtain ⟨rfl, U', X, hX, hGz⟩ := hP A0 hA A' t' hRk
        have ge := gt_eq hX hk c
        have ec : gtC I1 (sl3 (T / W) k) G = gtC X (sl3 (T / W) k) G := gtC_c hG8 (by rw [hGz.1 2 ⟨by omega, by omega⟩]) (by rw [hGz.1 3 ⟨by omega, by omega⟩]) (fun y hy => by rw [hGz.2 k hk y, if_neg (fun z => by omega)]) (fun y hy => by rw [hGz.1 (8 + 1 + sl3 (T / W) k) ⟨by omega, by omega⟩]) (fun y hy => by rw [hGz.1 (gP y + 9) ⟨by have := gP_e y; omega, by have := gP_e y; omega⟩])
        refine ⟨?_, ?_⟩
        · rw [ec]
          congr 1
          exact sF_congr fun y hy => (ge y hy).1.symm
        · obtain ⟨U2, hU2⟩ := round_Rl hX hk hrd
          refine ⟨U2, _, hU2, fun o ho => ?_, fun j hj y => ?_⟩
          · unfold rX
            refine grF_c (P := sPl) (fun o ho => ?_) ⟨by omega, by omega⟩ ⟨by omega, by omega⟩ ⟨by omega, by omega⟩ G (fun x hx => ⟨by have := gP_e x; omega, by have := gP_e x; omega⟩) (fun x hx => ?_) (fun x hx => ?_) o ho
            · rw [zC_o (by have := ho.1; omega), hGz.1 o ho, q2 o (by have := ho.2; omega) (by have := ho.2; omega) (by have := ho.2; omega) (by have := ho.2; omega)]
            · rw [ec, (ge x hx).1]
            · have := gP_e x
              obtain ⟨s, r, y0, y1, y2, y3, y4, y5, y6, y7, -⟩ := Wy_ex (hX.2.2.2.2.2.1 x hx).2
              rw [← hGz.1 (gP x + 9) ⟨by omega, by omega⟩, y7, nI_clamp (by omega)]
              exact y0
          · have hj3 := sl3_lt (T / W) j
            unfold rX
            rw [grF_o (by omega) (by omega) (by omega) G (fun x hx => Or.inl (by have := gP_e x; omega)), grF_o (by omega) (by omega) (by omega) G (fun x hx => Or.inl (by have := gP_e x; omega)), q2 _ (by omega) (by omega) (by omega) (by omega)]
            show (if 4 + 1 + sl3 (T / W) j = 4 + 1 + sl3 (T / W) k ∧ y < 8 then 0 else X (4 + 1 + sl3 (T / W) j) y) = _
            rw [hGz.2 j hj y]
            by_cases c1 : j = k
            · subst c1
              by_cases c2 : y < 8
              · rw [if_pos ⟨rfl, c2⟩, if_pos ⟨by omega, c2⟩]
              · rw [if_neg (fun z => c2 z.2), if_neg (fun z => c2 z.2), if_neg (fun z => c2 z.2)]
            · rw [if_neg (fun z => c1 (sl3_inj (w := T / W) hj hk (by omega)))]
              by_cases c2 : j < k ∧ y < 8
              · rw [if_pos c2, if_pos ⟨by omega, c2.2⟩]
              · rw [if_neg c2, if_neg (fun z => c2 ⟨by omega, z.2⟩)]
      · have c0 : T / W + k = 0 := Nat.le_zero.mp (Nat.le_of_lt_succ (Nat.lt_of_not_le c))
        obtain ⟨z1, z2⟩ := Nat.add_eq_zero_iff.mp c0
        have hw : slI (nI (T / W) + iI ((k : Int) - 1)) (I1 2 4) = -1 := by
          rw [z1, z2]
          exact if_pos (by decide)
        refine (sp_share0 (d := 1) hw).mono fun v I' J' q => ?_
        obtain ⟨rfl, rfl, rfl⟩ := q
        refine ⟨0, rfl, hi, hJ1, fun A0 hA S'' t'' hR => ?_⟩
        obtain ⟨A', t', Ja, Jb, hRk, hrd, rfl⟩ := hR
        obtain ⟨rfl, U', X, hX, hGz⟩ := hP A0 hA A' t' hRk
        have z0 : A' 137 k = 0 := (hX.2.2.2.1 k hk).2 c0
        have eg : ∀ x, gtM A' k G x = 0 := fun x => by unfold gtM; rw [z0, if_pos (by decide)]
        have es : sF (gtM A' k G) G = 0 := by
          rw [show gtM A' k G = fun _ => 0 from funext eg, sF_0]
        refine ⟨by rw [es], ?_⟩
        obtain ⟨U2, hU2⟩ := round_Rl hX hk hrd
        unfold rX at hU2
        rw [grF_z eg] at hU2
        refine ⟨U2, _, hU2, fun o ho => ?_, fun j hj y => ?_⟩
        · have := sl3_lt (T / W) k
          rw [zC_o (by have := ho.1; omega), hGz.1 o ho]
        · show (if 4 + 1 + sl3 (T / W) j = 4 + 1 + sl3 (T / W) k ∧ y < 8 then 0 else X (4 + 1 + sl3 (T / W) j) y) = _
          rw [hGz.2 j hj y]
          by_cases c1 : j = k
          · subst c1
            by_cases c2 : y < 8
            · rw [if_pos ⟨rfl, c2⟩, if_pos ⟨by omega, c2⟩]
            · rw [if_neg (fun z => c2 z.2), if_neg (fun z => c2 z.2), if_neg (fun z => c2 z.2)]
          · rw [if_neg (fun z => c1 (sl3_inj (w := T / W) hj hk (by omega)))]
            by_cases c2 : j < k ∧ y < 8
            · rw [if_pos c2, if_pos ⟨by omega, c2.2⟩]
            · rw [if_neg c2, if_neg (fun z => c2 ⟨by omega, z.2⟩)]
    obtain ⟨t, Y, rfl, ⟨hi, hJ1, hP⟩, rfl⟩ := q
    refine ⟨(by first | exact rfl | exact ⟨_, rfl⟩ | exact ⟨_, rfl, Or.inl rfl⟩ | exact ⟨_, rfl, Or.inr rfl⟩), ?_⟩
    intro I2 J2 hO
    obtain ⟨hI2, hJ⟩ := hO
    have yi : ∀ o, 136 ≤ o → I2 o = I o := fun o ho => by
      rw [hI2, fgC_o _ 3 (fun j hj => by omega), hi o ho]
    have eA : ∀ o, 136 ≤ o → tw I2 0 o = tw I 0 o := fun o ho => by
      by_cases c : o = 136
      · subst c
        funext i
        rw [tw_v, tw_v, yi 136 (by omega)]
      · rw [tw_o _ c, tw_o _ c, yi o ho]
    have hA : Rl m B W E G T C U rs (tw I2 0) J I J := Rl_x h9 (fun i hi' => by rw [tw_k _ hi', yi 136 (by omega)]) (fun o o1 o2 => by rw [tw_o _ (by omega), yi o (by omega)]) ⟨rfl, rfl, rfl⟩ (fun _ _ _ _ => rfl) (fun _ _ _ => rfl)
    refine (sm_split (d := 4) (I := I2) (J := J2) (G := G) hG8 (by rw [yi 136 (by omega)]; exact u2) (fun k t S JS => RdN G (tw I2 0) k S t ∧ (∃ X U', Rl m B W E G T C U' rs S J X J) ∧ (∀ o, o ≠ 156 → JS o = J2 o) ∧ (∀ o, o < 136 → S o = I2 o) ∧ S 136 0 = 0) ⟨⟨rfl, rfl⟩, ⟨I, U, hA⟩, fun _ _ => rfl, fun o ho => tw_o _ (by omega), tw_0 _⟩ (fun k t S JS hk hp => ?_)).mono fun v' S J' q => ?_
    · obtain ⟨r1, ⟨X, U', hX⟩, r3, r4, r5⟩ := hp
      obtain ⟨-, b2, -, -, b5, b6, ⟨f, n, p1, p2, p3⟩, -, -, b10⟩ := id hX
      refine ⟨b2.1.2.2.2.2.2.2.2, mok_of hG8 b6 ⟨n, p1.2.2.2, p2⟩ b10, fun x hx => (b5 x (by omega) k hk).1.2.1, fun x hx => (b5 x (by omega) k hk).2.1, fun I' J' hrd => ?_⟩
      obtain ⟨U2, hU2⟩ := round_Rl hX hk hrd
      refine ⟨⟨S, t, JS, J', r1, hrd, rfl⟩, ⟨_, U2, hU2⟩, fun o ho => ?_, fun o ho => ?_, ?_⟩
      · rw [hrd.1 o ho, r3 o ho]
      · obtain ⟨-, I3, e1, e2, rfl⟩ := hrd
        rw [sgM_o (by omega) (by omega) (by omega) (by omega) (by omega) (by omega), e1 o (by omega) (by omega) (by omega) (by omega), r4 o ho]
      · obtain ⟨-, I3, e1, e2, rfl⟩ := hrd
        rw [sgM_k (by decide), e1 136 (by decide) (by decide) (by decide) (by decide), r5]
    obtain ⟨t', rfl, r1, -, r3, r4, r5⟩ := q
    obtain ⟨rfl, U', X, hX, hGz⟩ := hP (tw I2 0) eA S t' r1
    have j1 : ∀ o, o ≠ 18 → o ≠ 156 → o ≠ 158 → J' o = J o := fun o o1 o2 o3 => by rw [r3 o o2, hJ o o3, hJ1 o o1]
    refine ⟨rfl, r5, r3 158 (by decide), ⟨B, W, E, G, T, C, U', rs, Rl_m (Rl_x hX (fun _ _ => rfl) (fun _ _ _ => rfl) ⟨by rw [j1 136 (by decide) (by decide) (by decide)], by rw [j1 141 (by decide) (by decide) (by decide)], by rw [j1 153 (by decide) (by decide) (by decide)]⟩ (fun o ho h1 h2 => ?_) (fun o ho h1 => j1 o h1 (by omega) (by omega))) hm⟩⟩
    rw [r4 o ho, hI2]
    by_cases c : 5 ≤ o ∧ o ≤ 7
    · obtain ⟨j, j1, j2⟩ := sl_all (T / W) (σ := o - 5) (by omega)
      have eo : o = 4 + 1 + sl3 (T / W) j := by omega
      funext i
      rw [fg_v]
      have e := hGz.2 j j1 i
      rw [← eo] at e
      rw [e]
      by_cases c2 : i < 8
      · rw [if_pos ⟨by omega, by omega, c2⟩, if_pos ⟨j1, c2⟩]
      · rw [if_neg (fun z => c2 z.2.2), if_neg (fun z => c2 z.2)]
    · rw [fgC_o _ 3 (fun j hj => by omega), hGz.1 o ⟨c, h1⟩]
  · exact Or.inl (pr_t h hm (sp_splitS u1) (sm_splitS (by rw [u2]; decide)))
end PAIR10

