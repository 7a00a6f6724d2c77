/-! a letter comes -/
section COME3
variable {m B W E G T : Nat} {C : Nat → Nat} {U : Nat → Nat → Nat} {rs : Rw} {A I : T2} {JA J : T3}
theorem min_sw (a b : Int32) : (if a < b then a else b) = if b < a then b else a := by
  by_cases c : a < b
  · rw [if_pos c, if_neg (fun z => absurd (Int32.lt_iff_toInt_lt.mp c) (by have := Int32.lt_iff_toInt_lt.mp z; omega))]
  · rw [if_neg c]
    by_cases c2 : b < a
    · rw [if_pos c2]
    · rw [if_neg c2]
      rw [Int32.lt_iff_toInt_lt] at c c2
      exact Int32.toInt_inj.mp (by omega)
/-- a plea is heard -/
theorem plea_Rl {x q s : Nat} {w t : Int32} (h : Rl m B W E G T C U rs A JA I J) (hx : x < G) (hq : q ≤ 1000000) (ht : ¬ t < 0) (hu : A 136 7 = 0) (h3 : I 23 3 = w) (h4 : I 23 4 = nI q) (h5 : I 23 5 = t) (hs0 : I (gP x + 9) 5 = nI s) (hs2 : s < 2 ^ 30) (hsl : ps U x (sN A (8 + x)) + hS A 138 x + 1000000 ≤ 1000000 * tN A x) : ∃ U', Rl m B W E G T C U' rs (plM A x w (nI q) t) JA (hpC I x s) J := by
  obtain ⟨n1, a2, a3, a4, a5, a6, a7, a8, a9, a10⟩ := id h
  have hG8 : G ≤ 8 := n1.2.2.2.2.2.1
  have hT : T / W < 2 ^ 30 := nB_c n1 (Nat.le_add_right _ _)
  obtain ⟨-, -, ⟨c3, c4⟩, ⟨c5, c6⟩, -⟩ := id a2
  have wy := (a6 x hx).2
  have eo := Wy_open wy
  obtain ⟨s'', r'', z0, z1, z2, z3, z4, z5, z6, z7, z8, z9, z10, z11, z12⟩ := Wy_ex wy
  have hss : s'' = s := (nI_eq (by omega) (by omega)).mp (z7.symm.trans hs0)
  subst hss
  unfold plM hpC
  rw [h3, h4, h5, c3, c4]
  rcases wx w hT with ⟨s1, s2⟩ | ⟨k, k1, k2, k3, s1, s2⟩
  · rw [if_pos s1, if_pos s2]
    exact ⟨U, h⟩
  · have kc : (nI k).toNatClampNeg = k := nI_clamp (by omega)
    rw [s1, s2, if_neg (sl3_ne _ _), if_neg (rE_ne (by omega)), sl3_cl, kc, c5]
    by_cases c0 : A 136 6 = 0
    · rw [if_pos c0, if_neg (by rw [c0]; decide), (a4 k k1).1 k2, min_sw (A 137 k) (nI q)]
      have esh : shC I (gP x + 9) = if A 148 (8 + x) < 50 then 0 else 1 := by unfold shC; rw [eo]
      rw [esh]
      by_cases co : A 148 (8 + x) < 50
      · rw [if_pos co, if_pos (show (0 : Int32) = 0 from rfl)]
        unfold grC
        by_cases cg : 0 < (if nI q < A 137 k then nI q else A 137 k)
        · rw [if_pos ⟨cg, co⟩]
          generalize hgg : (if nI q < A 137 k then nI q else A 137 k) = gg at *
          have g0 : ¬ gg < 0 := fun z => by
            rw [Int32.lt_iff_toInt_lt] at z cg; omega
          obtain ⟨g, g1, rfl⟩ := nI_of g0
          have hg : 1 ≤ g := Nat.pos_of_ne_zero fun z => by rw [z] at cg; exact absurd cg (by decide)
          have hgq : g ≤ q := by
            by_cases c9 : nI q < A 137 k
            · rw [if_pos c9] at hgg
              have := (nI_eq (by omega) g1).mp hgg
              omega
            · rw [if_neg c9] at hgg
              rw [hgg] at c9
              exact Nat.le_of_not_lt fun z => c9 (nI_lt z g1)
          rw [if_neg (nI_nle hg g1)]
          have e1 : up2 A 137 k (A 137 k - nI g) = unM A w (-(nI g)) := by
            unfold unM
            rw [c4, s2, if_neg (rE_ne (by omega)), kc, Int32.sub_eq_add_neg]
          rw [e1]
          have q1 := unit_Rl (w := w) (u := -(nI g)) h
          have u0 : ∀ o, o ≠ 137 → unM A w (-(nI g)) o = A o := fun o ho => unM_o ho
          have es : sN (unM A w (-(nI g))) = sN A := by funext l; unfold sN; rw [u0 149 (by decide)]
          have et : tN (unM A w (-(nI g))) = tN A := by funext l; unfold tN; rw [u0 150 (by decide)]
          have eh : hS (unM A w (-(nI g))) 138 x = hS A 138 x := by unfold hS; rw [u0 138 (by decide)]
          exact ⟨_, grant_Rl (w := w) (g := g) (s := s'') q1 hx (by rw [es]; exact z0) (by rw [u0 148 (by decide)]; exact co) hg (by rw [eh, et]; rw [z0] at hsl; omega)⟩
        · have cle : (if nI q < A 137 k then nI q else A 137 k) ≤ 0 := Int32.not_lt.mp cg
          rw [if_neg (fun z => cg z.1), if_pos cle]
          exact ⟨U, h⟩
      · rw [if_neg co, if_neg (show ¬ (1 : Int32) = 0 by decide), if_neg (fun z => co z.2)]
        exact ⟨U, h⟩
    · have cp : 0 < A 136 6 := by
        rcases c6 with c6 | c6 | c6
        · exact absurd c6 c0
        · rw [c6]; decide
        · rw [c6]; decide
      rw [if_neg c0, if_pos cp]
      exact ⟨U, wish_Rl h hx k1 ht hu (by omega)⟩
theorem sN_rm {n i : Nat} : sN (rmM A n i) = sN A := by funext l; unfold sN; rw [rm_o (by decide) (by decide)]
theorem tN_rm {n i : Nat} : tN (rmM A n i) = tN A := by funext l; unfold tN; rw [rm_o (by decide) (by decide)]
theorem come_Rl {f n i so gi s : Nat} (h : Rl m B W E G T C U rs A JA I J) (hp : PlOk I f n) (hi : i < n) (hso : ltC I f i 0 = nI so) (hso5 : so < 5) (hgi : ltC I f i 1 = nI gi) (hg8 : gi < 8) (hs0 : I (gP gi + 9) 5 = nI s) (hs2 : s < 2 ^ 30) : ∃ U', (cmM A i).1 = (brC I f n i so gi s).1 ∧ Rl m B W E G T C U' rs (cmM A i).2 JA (brC I f n i so gi s).2 J := by
  obtain ⟨n1, a2, a3, a4, a5, a6, a7, a8, a9, a10⟩ := id h
  have hG8 : G ≤ 8 := n1.2.2.2.2.2.1
  obtain ⟨f', n', p1, p2, p3⟩ := id a7
  have e1 : n' = n := (nI_eq (by have := p1.2.2.2; omega) (by have := hp.2.2.2; omega)).mp (by rw [← p1.2.1]; exact hp.2.1)
  have e2 : f' = f := (nI_eq (by have := p1.2.2.1; omega) (by have := hp.2.2.1; omega)).mp (by rw [← p1.1]; exact hp.1)
  subst e1 e2
  have hn2 := p1.2.2.2
  obtain ⟨b1, b2⟩ := p3 i hi
  have l0 : A 151 (6 * i) = nI so := (b1 0 (by decide)).symm.trans hso
  have l1 : A 151 (6 * i + 1) = nI gi := (b1 1 (by decide)).symm.trans hgi
  have l2 := b1 2 (by decide)
  have l3 := b1 3 (by decide)
  have l4 := b1 4 (by decide)
  have l5 := b1 5 (by decide)
  have hR := op_Rl h p1 hi
  have i23 : ∀ c, c < 6 → opC I f' n' i 23 c = A 151 (6 * i + c) := fun c hc => by rw [opC_23 hc, b1 c hc]
  have io : ∀ o, ¬ (o = 12 ∨ o = 13 ∨ o = 23) → opC I f' n' i o = I o := fun o ho => opC_o (by omega) (by omega) (by omega)
  have ao : ∀ o, ¬ (o = 136 ∨ o = 151) → rmM A n' i o = A o := fun o ho => rm_o (by omega) (by omega)
  have ak : ∀ j, j ≠ 24 → rmM A n' i 136 j = A 136 j := fun j hj => rm_k hj
  unfold cmM
  rw [p2, nI_clamp (by omega), l0, l1, nI_clamp (by omega), nI_clamp (by omega)]
  rw [l0, l1] at b2
  have hsA : sN (rmM A n' i) = sN A := sN_rm
  have htA : tN (rmM A n' i) = tN A := tN_rm
  have gx := gP_e gi
  have iw0 : opC I f' n' i (gP gi + 9) 5 = nI s := by rw [io _ (by omega)]; exact hs0
  have ig8 : opC I f' n' i (gP gi) 8 = I (gP gi) 8 := by rw [io _ (by omega)]
  have i26 : opC I f' n' i 2 6 = I 2 6 := by rw [io 2 (by omega)]
  have a143 : rmM A n' i 143 gi = A 143 gi := by rw [ao 143 (by omega)]
  have a1367 : rmM A n' i 136 7 = A 136 7 := ak 7 (by decide)
  have j0 := i23 0 (by decide)
  have j2 := i23 2 (by decide)
  have j3 := i23 3 (by decide)
  have j4 := i23 4 (by decide)
  have j5 := i23 5 (by decide)
  rw [show 6 * i + 0 = 6 * i from rfl, l0] at j0
  -- the letter's own validity
  obtain ⟨x, hx, hgx, hl⟩ := b2
  have hxg : x = gi := (nI_eq (by omega) (by omega)).mp hgx.symm
  subst hxg
  obtain ⟨⟨-, -, -, c5, -⟩, -⟩ := a3 x hx
  have c57 := a2.2.2.2.2
  generalize hA1 : rmM A n' i = A1 at *
  generalize hI1 : opC I f' n' i = I1 at *
  generalize A 151 (6 * i + 2) = nu at *
  generalize A 151 (6 * i + 3) = w at *
  generalize A 151 (6 * i + 4) = u at *
  generalize A 151 (6 * i + 5) = t at *
  obtain ⟨m1, d2, d3, d4, d5, d6, d7, d8, d9, d10⟩ := id hR
  rcases hl with ⟨ho, ⟨ν, ν1, ν2, rfl⟩, ⟨q, q1, rfl⟩, ht⟩ | ⟨ho, ν, ν1, ν2, rfl⟩ | ⟨ho, ν, ν1, ν2, rfl, rfl⟩ | ⟨ho, ν, ν1, rfl⟩ | ⟨ho, ν, ν1, rfl⟩
  · -- a plea
    have hso0 : so = 0 := (nI_eq (b := 0) (by omega) (by decide)).mp ho
    subst hso0
    have eM : ∀ nu u, cmF A1 0 x nu w u t = if A1 136 7 = 0 then (if nu = A1 150 x + 1 then (1, rcpM (plM (tkM A1 x) x w u t) x x 3) else (0, rcpM A1 x x 3)) else (0, A1) := fun nu u => by
      unfold cmF
      rw [if_neg (show ¬ (0 : Nat) = 2 by decide), if_neg (show ¬ (0 : Nat) = 3 by decide), if_neg (show ¬ (0 : Nat) = 4 by decide), if_pos (show (0 : Nat) = 0 from rfl)]
    have eB : brC I f' n' i 0 x s = ctdC I1 x s := by
      unfold brC
      rw [if_neg (show ¬ (0 : Nat) = 2 by decide), if_neg (show ¬ (0 : Nat) = 3 by decide), if_neg (show ¬ (0 : Nat) = 4 by decide), hI1]
    rw [eM, eB]
    unfold ctdC
    rw [i26, a1367]
    rcases c57 with ⟨v1, v2⟩ | ⟨v1, v2, -⟩
    · rw [v1, v2, if_pos (show (0 : Int32) = 0 from rfl), if_neg (show ¬ (1 : Int32) = 0 by decide), j2, j0]
      have wy := (d6 x hx).1
      obtain ⟨s', r', y0, y1, y2, y3, y4, y5, y6, y7, y8, y9, y10, y11, y12⟩ := Wy_ex wy
      rw [y9, ← y12]
      by_cases cn : nI ν = A1 150 x + 1
      · rw [if_pos cn, if_pos cn]
        obtain ⟨t1, t2, t3, t4⟩ := take_Rl (a := gP x + 4) hR hx (Or.inl ⟨rfl, rfl⟩) cn (by rw [hsA]; exact ν2)
        rw [if_pos (show (nI 0) = 0 by decide)]
        have ko : ∀ o, ¬ (o = gP x + 4) → up2 I1 (gP x + 4) 7 (nI ν) o = I1 o := fun o ho => up2_ne _ _ _ ho
        have b3 := (d8 x hx).2.2.1
        obtain ⟨U', hU'⟩ := plea_Rl (s := s) (w := w) (t := t) (q := q) t2 hx q1 ht (by rw [tkM_o (by decide), a1367]; exact v2) (by rw [ko 23 (by omega)]; exact j3) (by rw [ko 23 (by omega)]; exact j4) (by rw [ko 23 (by omega)]; exact j5) (by rw [ko _ (by omega)]; exact iw0) hs2 (by
          have eh : hS (tkM A1 x) 138 x = hS A1 138 x := by unfold hS; rw [tkM_o (by decide)]
          have e9 : tN (tkM A1 x) x = ν := by rw [t4]; exact if_pos rfl
          rw [eh, e9, t3, t1, Nat.mul_succ]
          omega)
        exact ⟨U', rfl, rcp_Rl hU' hx (Or.inl ⟨rfl, rfl, rfl⟩)⟩
      · rw [if_neg cn, if_neg cn]
        exact ⟨U, rfl, rcp_Rl hR hx (Or.inl ⟨rfl, rfl, rfl⟩)⟩
    · rw [v1, v2, if_neg (show ¬ (1 : Int32) = 0 by decide), if_pos (show (0 : Int32) = 0 from rfl)]
      exact ⟨U, rfl, hR⟩
  · -- units come back
    have hso1 : so = 1 := (nI_eq (b := 1) (by omega) (by decide)).mp ho
    subst hso1
    have eM : ∀ nu, cmF A1 1 x nu w u t = if A1 136 7 = 0 then (if nu = A1 150 x + 1 then (1, rcpM (unM (tkM A1 x) w u) x x 3) else (0, rcpM A1 x x 3)) else (0, A1) := fun nu => by
      unfold cmF
      rw [if_neg (show ¬ (1 : Nat) = 2 by decide), if_neg (show ¬ (1 : Nat) = 3 by decide), if_neg (show ¬ (1 : Nat) = 4 by decide), if_neg (show ¬ (1 : Nat) = 0 by decide)]
    have eB : brC I f' n' i 1 x s = ctdC I1 x s := by
      unfold brC
      rw [if_neg (show ¬ (1 : Nat) = 2 by decide), if_neg (show ¬ (1 : Nat) = 3 by decide), if_neg (show ¬ (1 : Nat) = 4 by decide), hI1]
    rw [eM, eB]
    unfold ctdC
    rw [i26, a1367]
    rcases c57 with ⟨v1, v2⟩ | ⟨v1, v2, -⟩
    · rw [v1, v2, if_pos (show (0 : Int32) = 0 from rfl), if_neg (show ¬ (1 : Int32) = 0 by decide), j2, j0, j3, j4]
      have wy := (d6 x hx).1
      obtain ⟨s', r', y0, y1, y2, y3, y4, y5, y6, y7, y8, y9, y10, y11, y12⟩ := Wy_ex wy
      rw [y9, ← y12]
      by_cases cn : nI ν = A1 150 x + 1
      · rw [if_pos cn, if_pos cn]
        obtain ⟨t1, t2, t3, t4⟩ := take_Rl (a := gP x + 4) hR hx (Or.inl ⟨rfl, rfl⟩) cn (by rw [hsA]; exact ν2)
        rw [if_neg (show ¬ (nI 1) = 0 by decide)]
        exact ⟨U, rfl, rcp_Rl (unit_Rl t2) hx (Or.inl ⟨rfl, rfl, rfl⟩)⟩
      · rw [if_neg cn, if_neg cn]
        exact ⟨U, rfl, rcp_Rl hR hx (Or.inl ⟨rfl, rfl, rfl⟩)⟩
    · rw [v1, v2, if_neg (show ¬ (1 : Int32) = 0 by decide), if_pos (show (0 : Int32) = 0 from rfl)]
      exact ⟨U, rfl, hR⟩
  · -- a grant
    have hso2 : so = 2 := (nI_eq (b := 2) (by omega) (by decide)).mp ho
    subst hso2
    have eM : ∀ nu u, cmF A1 2 x nu w u t = if A1 143 x = 0 then (if nu = A1 150 (8 + x) + 1 then (1, rcpM (shM (tkM A1 (8 + x)) x w u) (8 + x) x 4) else (0, rcpM A1 (8 + x) x 4)) else (0, A1) := fun nu u => by
      unfold cmF
      rw [if_pos (show (2 : Nat) = 2 from rfl)]
    have eB : brC I f' n' i 2 x s = ctgC I1 (gP x) := by
      unfold brC
      rw [if_pos (show (2 : Nat) = 2 from rfl), hI1]
    rw [eM, eB]
    unfold ctgC
    rw [ig8, a143]
    rcases c5 with ⟨v1, v2⟩ | ⟨v1, v2⟩
    · rw [v1, v2, if_pos (show (0 : Int32) = 0 from rfl), if_neg (show ¬ (1 : Int32) = 0 by decide), j2, j3, j4]
      have wy := (d6 x hx).2
      obtain ⟨s', r', y0, y1, y2, y3, y4, y5, y6, y7, y8, y9, y10, y11, y12⟩ := Wy_ex wy
      rw [y9, ← y12]
      by_cases cn : nI ν = A1 150 (8 + x) + 1
      · rw [if_pos cn, if_pos cn]
        obtain ⟨t1, t2, t3, t4⟩ := take_Rl (a := gP x + 9) hR hx (Or.inr ⟨rfl, rfl⟩) cn (by rw [hsA]; exact ν2)
        have b2 := (d8 x hx).2.1
        have q1 := share_Rl (w := w) (u := U x ν) t2 hx (by
          have eh : hS (tkM A1 (8 + x)) 144 x = hS A1 144 x := by unfold hS; rw [tkM_o (by decide)]
          have e9 : tN (tkM A1 (8 + x)) (8 + x) = ν := by rw [t4]; exact if_pos rfl
          rw [eh, e9, t1]
          show _ ≤ ps U x (tN A1 (8 + x)) + U x (tN A1 (8 + x) + 1)
          omega)
        exact ⟨U, rfl, rcp_Rl q1 hx (Or.inr ⟨rfl, rfl, rfl⟩)⟩
      · rw [if_neg cn, if_neg cn]
        exact ⟨U, rfl, rcp_Rl hR hx (Or.inr ⟨rfl, rfl, rfl⟩)⟩
    · rw [v1, v2, if_neg (show ¬ (1 : Int32) = 0 by decide), if_pos (show (0 : Int32) = 0 from rfl)]
      exact ⟨U, rfl, hR⟩
  · -- a receipt to the gate
    have hso3 : so = 3 := (nI_eq (b := 3) (by omega) (by decide)).mp ho
    subst hso3
    have eM : ∀ nu, cmF A1 3 x nu w u t = if A1 143 x = 0 then (2, rvM x nu (A1 148 x).toNatClampNeg A1) else (0, A1) := fun nu => by
      unfold cmF
      rw [if_neg (show ¬ (3 : Nat) = 2 by decide), if_pos (show (3 : Nat) = 3 from rfl)]
    have eB : brC I f' n' i 3 x s = rcC I1 (I (gP x) 8) (gP x + 4) := by
      unfold brC
      rw [if_neg (show ¬ (3 : Nat) = 2 by decide), if_pos (show (3 : Nat) = 3 from rfl), hI1]
    rw [eM, eB]
    unfold rcC
    rw [a143]
    rcases c5 with ⟨v1, v2⟩ | ⟨v1, v2⟩
    · rw [v1, v2, if_pos (show (0 : Int32) = 0 from rfl), if_neg (show ¬ (1 : Int32) = 0 by decide), j2]
      exact ⟨U, rfl, mark_Rl hR hx (Or.inl ⟨rfl, rfl⟩) (by rw [htA]; exact ν1)⟩
    · rw [v1, v2, if_neg (show ¬ (1 : Int32) = 0 by decide), if_pos (show (0 : Int32) = 0 from rfl)]
      exact ⟨U, rfl, hR⟩
  · -- a receipt to the desk
    have hso4 : so = 4 := (nI_eq (b := 4) (by omega) (by decide)).mp ho
    subst hso4
    have eM : ∀ nu, cmF A1 4 x nu w u t = if A1 136 7 = 0 then (2, rvM (8 + x) nu (A1 148 (8 + x)).toNatClampNeg A1) else (0, A1) := fun nu => by
      unfold cmF
      rw [if_neg (show ¬ (4 : Nat) = 2 by decide), if_neg (show ¬ (4 : Nat) = 3 by decide), if_pos (show (4 : Nat) = 4 from rfl)]
    have eB : brC I f' n' i 4 x s = rcC I1 (I 2 6) (gP x + 9) := by
      unfold brC
      rw [if_neg (show ¬ (4 : Nat) = 2 by decide), if_neg (show ¬ (4 : Nat) = 3 by decide), if_pos (show (4 : Nat) = 4 from rfl), hI1]
    rw [eM, eB]
    unfold rcC
    rw [a1367]
    rcases c57 with ⟨v1, v2⟩ | ⟨v1, v2, -⟩
    · rw [v1, v2, if_pos (show (0 : Int32) = 0 from rfl), if_neg (show ¬ (1 : Int32) = 0 by decide), j2]
      exact ⟨U, rfl, mark_Rl hR hx (Or.inr ⟨rfl, rfl⟩) (by rw [htA]; exact ν1)⟩
    · rw [v1, v2, if_neg (show ¬ (1 : Int32) = 0 by decide), if_pos (show (0 : Int32) = 0 from rfl)]
      exact ⟨U, rfl, hR⟩
end COME3

