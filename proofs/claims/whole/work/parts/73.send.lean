/-! letters: sending -/
section SND
variable {A I : T2} {G : Nat} {U U' : Nat → Nat → Nat}
theorem kp_six (A : T2) (l s k : Nat) (so g w u t : Int32) : kpM A l s k so g w u t = up2 (six (up2 A 149 l (nI (s + 1))) 147 (6 * (50 * l + k)) so g (nI (s + 1)) w u t) 148 l (nI (k + 1)) := rfl
theorem kp_o {l s k o : Nat} {so g w u t : Int32} (h1 : o ≠ 147) (h2 : o ≠ 148) (h3 : o ≠ 149) : kpM A l s k so g w u t o = A o := by
  rw [kp_six, up2_ne _ _ _ h2, six_o h1, up2_ne _ _ _ h3]
theorem kp_149 {l s k : Nat} {so g w u t : Int32} (l' : Nat) : kpM A l s k so g w u t 149 l' = if l' = l then nI (s + 1) else A 149 l' := by
  rw [kp_six, up2_o _ _ _ _ (by decide), six_o (by decide), up2_v]
  by_cases c : l' = l
  · rw [if_pos ⟨rfl, c⟩, if_pos c]
  · rw [if_neg (fun z => c z.2), if_neg c]
theorem kp_148 {l s k : Nat} {so g w u t : Int32} (l' : Nat) : kpM A l s k so g w u t 148 l' = if l' = l then nI (k + 1) else A 148 l' := by
  rw [kp_six, up2_v, six_o (by decide), up2_ne _ _ _ (by decide)]
  by_cases c : l' = l
  · rw [if_pos ⟨rfl, c⟩, if_pos c]
  · rw [if_neg (fun z => c z.2), if_neg c]
theorem kp_new {l s k c : Nat} {so g w u t : Int32} (hc : c < 6) : lR (kpM A l s k so g w u t) l k c = pk6 so g (nI (s + 1)) w u t c := by
  unfold lR
  rw [kp_six, up2_o _ _ _ _ (by decide), six_in hc]
theorem kp_old {l s k l' j c : Nat} {so g w u t : Int32} (hc : c < 6) (hj : j < 50) (hk : k < 50) (h : l' ≠ l ∨ j ≠ k) : lR (kpM A l s k so g w u t) l' j c = lR A l' j c := by
  unfold lR
  rw [kp_six, up2_o _ _ _ _ (by decide), six_out (by omega), up2_o _ _ _ _ (by decide)]
theorem sM_p {l s k : Nat} {so g w u t : Int32} (hs : A 149 l = nI s) (hs2 : s < 2 ^ 31) (hk : A 148 l = nI k) (hk2 : k < 2 ^ 31) : sM A l so g w u t = pM (kpM A l s k so g w u t) so g (nI (s + 1)) w u t := by
  unfold sM snM pM
  rw [hs, hk, nI_clamp hs2, nI_clamp hk2, kp_o (by decide) (by decide) (by decide)]
theorem pM_o {o : Nat} {so g nu w u t : Int32} (h1 : o ≠ 136) (h2 : o ≠ 151) : pM A so g nu w u t o = A o := ptM_o h1 h2
theorem pM_k {j : Nat} {so g nu w u t : Int32} (hj : j ≠ 24) : pM A so g nu w u t 136 j = A 136 j := ptM_k hj
theorem rg_o {a s o : Nat} {so w u t : Int32} (h : o < a ∨ a + 4 < o) : rgC I a s so w u t o = I o := by
  unfold rgC
  rw [up2_ne _ _ _ (by omega), up2_ne _ _ _ (by omega), up2_ne _ _ _ (by omega), up2_ne _ _ _ (by omega), up2_ne _ _ _ (by omega)]
theorem rg_a {a s j : Nat} {so w u t : Int32} (h : j ≠ 5) : rgC I a s so w u t a j = I a j := by
  unfold rgC
  rw [up2_ne _ _ _ (by omega), up2_ne _ _ _ (by omega), up2_ne _ _ _ (by omega), up2_ne _ _ _ (by omega), up2_k _ _ _ h]
theorem rg_5 {a s : Nat} {so w u t : Int32} : rgC I a s so w u t a 5 = nI (s + 1) := by
  unfold rgC
  rw [up2_ne _ _ _ (by omega), up2_ne _ _ _ (by omega), up2_ne _ _ _ (by omega), up2_ne _ _ _ (by omega), up2_s]
theorem rg_r {a s b i : Nat} {so w u t : Int32} (hb : 1 ≤ b) (hb4 : b ≤ 4) : rgC I a s so w u t (a + b) i = if i = (s + 1) % 50 then (if b = 1 then so else if b = 2 then w else if b = 3 then u else t) else I (a + b) i := by
  unfold rgC
  rw [up2_v, up2_v, up2_v, up2_v, up2_v]
  by_cases c : i = (s + 1) % 50
  · rw [if_pos c]
    by_cases c4 : b = 4
    · subst c4; rw [if_pos ⟨rfl, c⟩, if_neg (by decide), if_neg (by decide), if_neg (by decide)]
    · rw [if_neg (fun z => c4 (by omega))]
      by_cases c3 : b = 3
      · subst c3; rw [if_pos ⟨rfl, c⟩, if_neg (by decide), if_neg (by decide), if_pos rfl]
      · rw [if_neg (fun z => c3 (by omega))]
        by_cases c2 : b = 2
        · subst c2; rw [if_pos ⟨rfl, c⟩, if_neg (by decide), if_pos rfl]
        · have c1 : b = 1 := by omega
          subst c1
          rw [if_neg (fun z => by omega), if_pos ⟨rfl, c⟩, if_pos rfl]
  · rw [if_neg c, if_neg (fun z => c z.2), if_neg (fun z => c z.2), if_neg (fun z => c z.2), if_neg (fun z => c z.2), if_neg (fun z => by omega)]
theorem Wy_ex {l a x : Nat} {st tt : Nat → Nat} (h : Wy G U st tt A I l a x) : ∃ s r, sN A l = s ∧ r ≤ s ∧ s ≤ r + 50 ∧ s < 2 ^ 30 ∧ tN A l ≤ s ∧ r ≤ tN A l ∧ I a 0 = nI x ∧ I a 5 = nI s ∧ I a 6 = nI r ∧ I a 7 = nI (tN A l) ∧ A 149 l = nI s ∧ A 148 l = nI (s - r) ∧ A 150 l = nI (tN A l) := by
  obtain ⟨s, r, t, ⟨b1, b2, b3, b4⟩, ⟨d1, d2, d3⟩, ⟨e1, e2, e3, e4⟩, _⟩ := h
  have et : tN A l = t := by unfold tN; rw [d3, nI_clamp (by omega)]
  refine ⟨s, r, by unfold sN; rw [d1, nI_clamp (by omega)], by omega, e3, e4, by omega, by omega, b1, b2, b3, by rw [et]; exact b4, d1, d2, by rw [et]; exact d3⟩
/-- open is open -/
theorem Wy_open {l a x : Nat} {st tt : Nat → Nat} (h : Wy G U st tt A I l a x) : I a 5 - I a 6 = A 148 l := by
  obtain ⟨s, r, h0, h1, h2, h3, h4, h5, h6, h7, h8, h9, h10, h11, h12⟩ := Wy_ex h
  rw [h7, h8, pk_sub h1, h11]
theorem snd_rel {x l a s : Nat} (hG : G ≤ 8) (hx : x < G) (hla : (l = x ∧ a = gP x + 4) ∨ (l = 8 + x ∧ a = gP x + 9)) (hw : cWys G U A I) (hp : cPl G U (sN A) (tN A) A I) (hs : sN A l = s) (ho : A 148 l < 50) (hU : ∀ y i, y < G → i ≤ sN A (8 + y) → U' y i = U y i) (hs2 : s + 1 < 2 ^ 30) {so w u t : Int32} (hl : LtOk G U' (fun l' => if l' = l then s + 1 else sN A l') (tN A) so (nI x) (nI (s + 1)) u t) : cWys G U' (sM A l so (nI x) w u t) (sndC I a s so w u t) ∧ cPl G U' (sN (sM A l so (nI x) w u t)) (tN (sM A l so (nI x) w u t)) (sM A l so (nI x) w u t) (sndC I a s so w u t) ∧ sN (sM A l so (nI x) w u t) = (fun l' => if l' = l then s + 1 else sN A l') ∧ tN (sM A l so (nI x) w u t) = tN A := by
  have gx := gP_e x
  have hwy : Wy G U (sN A) (tN A) A I l a x := by
    rcases hla with ⟨rfl, rfl⟩ | ⟨rfl, rfl⟩
    · exact (hw _ hx).1
    · exact (hw _ hx).2
  obtain ⟨s', r, t', ⟨b1, b2, b3, b4⟩, ⟨d1, d2, d3⟩, ⟨e1, e2, e3, e4⟩, e5⟩ := hwy
  have hs' : s' = s := by rw [← hs]; unfold sN; rw [d1, nI_clamp (by omega)]
  subst hs'
  have hk : s' - r < 50 := by
    rw [d2] at ho
    exact (nI_ltI (b := 50) (by omega) (by decide)).mp ho
  rw [sM_p d1 (by omega) d2 (by omega)]
  have eI : sndC I a s' so w u t = putC (rgC I a s' so w u t) so (nI x) (nI (s' + 1)) w u t := by
    unfold sndC; rw [b1]
  rw [eI]
  generalize hA1 : kpM A l s' (s' - r) so (nI x) w u t = A1
  generalize hI1 : rgC I a s' so w u t = I1
  have es1 : sN A1 = (fun l' => if l' = l then s' + 1 else sN A l') := by
    funext l'
    unfold sN
    rw [← hA1, kp_149]
    by_cases c : l' = l
    · rw [if_pos c, if_pos c, nI_clamp (by omega)]
    · rw [if_neg c, if_neg c]
  have et1 : tN A1 = tN A := by
    funext l'
    unfold tN
    rw [← hA1, kp_o (by decide) (by decide) (by decide)]
  have es : sN (pM A1 so (nI x) (nI (s' + 1)) w u t) = (fun l' => if l' = l then s' + 1 else sN A l') := by
    rw [← es1]; funext l'; unfold sN; rw [pM_o (by decide) (by decide)]
  have et : tN (pM A1 so (nI x) (nI (s' + 1)) w u t) = tN A := by
    rw [← et1]; funext l'; unfold tN; rw [pM_o (by decide) (by decide)]
  have sle : ∀ l', sN A l' ≤ (fun l' => if l' = l then s' + 1 else sN A l') l' := fun l' => by
    show sN A l' ≤ (if l' = l then s' + 1 else sN A l')
    by_cases c : l' = l
    · rw [if_pos c, c, hs]; omega
    · rw [if_neg c]; exact Nat.le_refl _
  refine ⟨?_, ?_, es, et⟩
  · rw [cWys, es, et]
    -- another way
    have oth : ∀ l' a' x', Wy G U (sN A) (tN A) A I l' a' x' → l' ≠ l → 24 ≤ a' → (a' + 4 < a ∨ a + 4 < a') → Wy G U' (fun l' => if l' = l then s' + 1 else sN A l') (tN A) (pM A1 so (nI x) (nI (s' + 1)) w u t) (putC I1 so (nI x) (nI (s' + 1)) w u t) l' a' x' := by
      intro l' a' x' h1 n1 n2 n3
      refine Wy_x h1 ?_ ?_ ?_ (fun j hj c hc => ?_) (fun j hj => ?_) sle (fun _ => Nat.le_refl _) hU
      · rw [pM_o (by decide) (by decide), ← hA1, kp_149, if_neg n1]
      · rw [pM_o (by decide) (by decide), ← hA1, kp_148, if_neg n1]
      · rw [pM_o (by decide) (by decide), ← hA1, kp_o (by decide) (by decide) (by decide)]
      · unfold lR
        rw [pM_o (by decide) (by decide), ← hA1]
        exact kp_old hc hj hk (Or.inl n1)
      · rw [putC_o (by omega) (by omega), ← hI1, rg_o (by omega)]
    -- this one
    have own : Wy G U' (fun l' => if l' = l then s' + 1 else sN A l') (tN A) (pM A1 so (nI x) (nI (s' + 1)) w u t) (putC I1 so (nI x) (nI (s' + 1)) w u t) l a x := by
      have ha : 24 ≤ a := by omega
      have p0 : ∀ o, 24 ≤ o → putC I1 so (nI x) (nI (s' + 1)) w u t o = I1 o := fun o ho => putC_o (by omega) (by omega)
      refine ⟨s' + 1, r, t', ?_, ?_, ⟨e1, by omega, by omega, by omega⟩, fun j hj => ?_⟩
      · rw [p0 a ha, ← hI1, rg_a (by decide), rg_5, rg_a (by decide), rg_a (by decide)]
        exact ⟨b1, rfl, b3, b4⟩
      · rw [pM_o (by decide) (by decide), pM_o (by decide) (by decide), pM_o (by decide) (by decide), ← hA1, kp_149, if_pos rfl, kp_148, if_pos rfl, kp_o (by decide) (by decide) (by decide)]
        exact ⟨rfl, by congr 1; omega, d3⟩
      · have q : ∀ c, lR (pM A1 so (nI x) (nI (s' + 1)) w u t) l j c = lR A1 l j c := fun c => by
          unfold lR; rw [pM_o (by decide) (by decide)]
        rw [q, q, q, q, q, q, p0 _ (by omega), p0 _ (by omega), p0 _ (by omega), p0 _ (by omega), ← hI1, rg_r (by decide) (by decide), rg_r (by decide) (by decide), rg_r (by decide) (by decide), rg_r (by decide) (by decide), ← hA1]
        by_cases c : j = s' - r
        · have e9 : r + 1 + j = s' + 1 := by omega
          rw [c, kp_new (by decide), kp_new (by decide), kp_new (by decide), kp_new (by decide), kp_new (by decide), kp_new (by decide), ← c, e9, if_pos rfl, if_pos rfl, if_pos rfl, if_pos rfl, if_pos rfl, if_neg (by decide), if_pos rfl, if_neg (by decide), if_neg (by decide), if_pos rfl, if_neg (by decide), if_neg (by decide), if_neg (by decide)]
          exact ⟨⟨rfl, rfl, rfl, rfl, rfl, rfl⟩, hl⟩
        · have hne : (r + 1 + j) % 50 ≠ (s' + 1) % 50 := by omega
          rw [kp_old (by decide) (by omega) hk (Or.inr c), kp_old (by decide) (by omega) hk (Or.inr c), kp_old (by decide) (by omega) hk (Or.inr c), kp_old (by decide) (by omega) hk (Or.inr c), kp_old (by decide) (by omega) hk (Or.inr c), kp_old (by decide) (by omega) hk (Or.inr c), if_neg hne, if_neg hne, if_neg hne, if_neg hne]
          obtain ⟨f1, f2⟩ := e5 j (by omega)
          exact ⟨f1, f2.mono sle (fun _ => Nat.le_refl _) hU⟩
    intro y hy
    have gy := gP_e y
    obtain ⟨h1, h2⟩ := hw y hy
    by_cases c : y = x
    · subst c
      rcases hla with ⟨c1, c2⟩ | ⟨c1, c2⟩
      · rw [c1, c2] at own
        rw [c1, c2] at oth
        exact ⟨by rw [c1]; exact own, by rw [c1]; exact oth _ _ _ h2 (by omega) (by omega) (by omega)⟩
      · rw [c1, c2] at own
        rw [c1, c2] at oth
        exact ⟨by rw [c1]; exact oth _ _ _ h1 (by omega) (by omega) (by omega), by rw [c1]; exact own⟩
    · exact ⟨oth _ _ _ h1 (by omega) (by omega) (by omega), oth _ _ _ h2 (by omega) (by omega) (by omega)⟩
  · rw [es, et]
    refine cPl_put (cPl_x hp ?_ ?_ ?_ ?_ sle (fun _ => Nat.le_refl _) hU) hl
    · rw [← hA1, kp_o (by decide) (by decide) (by decide)]
    · rw [← hA1, kp_o (by decide) (by decide) (by decide)]
    · rw [← hI1, rg_o (by omega)]
    · rw [← hI1, rg_o (by omega)]
end SND

