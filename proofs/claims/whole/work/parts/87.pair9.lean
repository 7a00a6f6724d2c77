/-! pairs: deliver, deliverAll -/
section PAIR9
variable {m : Nat} {A I : T2} {J : T3}
theorem rv_o {l : Nat} {nu : Int32} {o : Nat} (h1 : o ≠ 147) (h2 : o ≠ 148) : ∀ (k : Nat) (A : T2), rvM l nu k A o = A o
  | 0, _ => rfl
  | k + 1, A => by
    show (if A 147 (300 * l + 2) ≤ nu then rvM l nu k (k1M A l k) else A) o = A o
    by_cases c : A 147 (300 * l + 2) ≤ nu
    · rw [if_pos c, rv_o h1 h2 k]
      unfold k1M
      rw [up2_ne _ _ _ h2, upr_ne _ _ h1]
    · rw [if_neg c]
theorem pl_lo {x o : Nat} {w u t : Int32} (h : o < 136) : plM A x w u t o = A o := by
  unfold plM
  by_cases c1 : whI w (A 136 8) = -1
  · rw [if_pos c1]
  · rw [if_neg c1]
    by_cases c2 : 0 < A 136 6
    · rw [if_pos c2, up2_ne _ _ _ (by omega), up2_ne _ _ _ (by omega)]
    · rw [if_neg c2]
      by_cases c3 : 0 < (if u < A 137 (whI w (A 136 8)).toNatClampNeg then u else A 137 (whI w (A 136 8)).toNatClampNeg) ∧ A 148 (8 + x) < 50
      · rw [if_pos c3, snd_lo h, up2_ne _ _ _ (by omega)]
      · rw [if_neg c3]
theorem pl_0 {x : Nat} {w u t : Int32} : plM A x w u t 136 0 = A 136 0 := by
  unfold plM
  by_cases c1 : whI w (A 136 8) = -1
  · rw [if_pos c1]
  · rw [if_neg c1]
    by_cases c2 : 0 < A 136 6
    · rw [if_pos c2, up2_ne _ _ _ (by omega), up2_ne _ _ _ (by omega)]
    · rw [if_neg c2]
      by_cases c3 : 0 < (if u < A 137 (whI w (A 136 8)).toNatClampNeg then u else A 137 (whI w (A 136 8)).toNatClampNeg) ∧ A 148 (8 + x) < 50
      · rw [if_pos c3, sM_k (by decide), up2_ne _ _ _ (by omega)]
      · rw [if_neg c3]
/-- what a letter that comes leaves alone in the reference -/
theorem cmF_p (P : T2 → Prop) {so x : Nat} {nu w u t : Int32} (h0 : P A) (h1 : ∀ (A : T2) l x so, P A → P (rcpM A l x so)) (h2 : ∀ (A : T2) l, P A → P (tkM A l)) (h3 : ∀ (A : T2) x w u, P A → P (shM A x w u)) (h4 : ∀ (A : T2) l nu k, P A → P (rvM l nu k A)) (h5 : ∀ (A : T2) x w u t, P A → P (plM A x w u t)) (h6 : ∀ (A : T2) w u, P A → P (unM A w u)) : P (cmF A so x nu w u t).2 := by
  unfold cmF
  by_cases c2 : so = 2
  · rw [if_pos c2]
    by_cases d1 : A 143 x = 0
    · rw [if_pos d1]
      by_cases d2 : nu = A 150 (8 + x) + 1
      · rw [if_pos d2]; exact h1 _ _ _ _ (h3 _ _ _ _ (h2 _ _ h0))
      · rw [if_neg d2]; exact h1 _ _ _ _ h0
    · rw [if_neg d1]; exact h0
  · rw [if_neg c2]
    by_cases c3 : so = 3
    · rw [if_pos c3]
      by_cases d1 : A 143 x = 0
      · rw [if_pos d1]; exact h4 _ _ _ _ h0
      · rw [if_neg d1]; exact h0
    · rw [if_neg c3]
      by_cases c4 : so = 4
      · rw [if_pos c4]
        by_cases d1 : A 136 7 = 0
        · rw [if_pos d1]; exact h4 _ _ _ _ h0
        · rw [if_neg d1]; exact h0
      · rw [if_neg c4]
        by_cases d1 : A 136 7 = 0
        · rw [if_pos d1]
          by_cases d2 : nu = A 150 x + 1
          · rw [if_pos d2]
            by_cases d3 : so = 0
            · rw [if_pos d3]; exact h1 _ _ _ _ (h5 _ _ _ _ _ (h2 _ _ h0))
            · rw [if_neg d3]; exact h1 _ _ _ _ (h6 _ _ _ (h2 _ _ h0))
          · rw [if_neg d2]; exact h1 _ _ _ _ h0
        · rw [if_neg d1]; exact h0
theorem cm_lo {i o : Nat} (h : o < 136) : (cmM A i).2 o = A o := by
  unfold cmM
  refine cmF_p (fun X => X o = A o) (rm_o (by omega) (by omega)) (fun X l x so z => ?_) (fun X l z => ?_) (fun X x w u z => ?_) (fun X l nu k z => ?_) (fun X x w u t z => ?_) (fun X w u z => ?_)
  · unfold rcpM; rw [pM_o (by omega) (by omega)]; exact z
  · rw [tkM_o (by omega)]; exact z
  · rw [shM_o (by omega)]; exact z
  · rw [rv_o (by omega) (by omega)]; exact z
  · rw [pl_lo h]; exact z
  · rw [unM_o (by omega)]; exact z
theorem cm_0 {i : Nat} : (cmM A i).2 136 0 = A 136 0 := by
  unfold cmM
  refine cmF_p (fun X => X 136 0 = A 136 0) (rm_k (by decide)) (fun X l x so z => ?_) (fun X l z => ?_) (fun X x w u z => ?_) (fun X l nu k z => ?_) (fun X x w u t z => ?_) (fun X w u z => ?_)
  · unfold rcpM; rw [pM_k (by decide)]; exact z
  · rw [tkM_o (by omega)]; exact z
  · rw [shM_o (by omega)]; exact z
  · rw [rv_o (by omega) (by omega)]; exact z
  · rw [pl_0]; exact z
  · rw [unM_o (by omega)]; exact z
/-- what a letter that comes leaves alone in the class: all of the reference -/
theorem br_hi {f n i so gi s o : Nat} (hg : gi < 8) (h : 136 ≤ o) : (brC I f n i so gi s).2 o = I o := by
  have gx := gP_e gi
  have e0 : opC I f n i o = I o := opC_o (by omega) (by omega) (by omega)
  have hrp : ∀ (X : T2) y so, rpC X y so o = X o := fun X y so => by unfold rpC; rw [putC_o (by omega) (by omega)]
  have hmk : ∀ (X : T2) y nu, y < 136 → mkC X y nu o = X o := fun X y nu hy => by unfold mkC; rw [up2_ne _ _ _ (by omega)]
  unfold brC
  by_cases c2 : so = 2
  · rw [if_pos c2]
    unfold ctgC
    by_cases d1 : opC I f n i (gP gi) 8 = 0
    · rw [if_pos d1]; exact e0
    · rw [if_neg d1]
      by_cases d2 : opC I f n i 23 2 = opC I f n i (gP gi + 9) 7 + 1
      · rw [if_pos d2]
        show rpC _ _ _ o = _
        rw [hrp, asC_o (by omega), up2_ne _ _ _ (by omega)]; exact e0
      · rw [if_neg d2]
        show rpC _ _ _ o = _
        rw [hrp]; exact e0
  · rw [if_neg c2]
    have hrc : ∀ u y, y < 136 → (rcC (opC I f n i) u y).2 o = I o := fun u y hy => by
      unfold rcC
      by_cases d1 : u = 0
      · rw [if_pos d1]; exact e0
      · rw [if_neg d1]
        show mkC _ _ _ o = _
        rw [hmk _ _ _ hy]; exact e0
    by_cases c3 : so = 3
    · rw [if_pos c3]; exact hrc _ _ (by omega)
    · rw [if_neg c3]
      by_cases c4 : so = 4
      · rw [if_pos c4]; exact hrc _ _ (by omega)
      · rw [if_neg c4]
        unfold ctdC
        by_cases d1 : opC I f n i 2 6 = 0
        · rw [if_pos d1]; exact e0
        · rw [if_neg d1]
          by_cases d2 : opC I f n i 23 2 = opC I f n i (gP gi + 4) 7 + 1
          · rw [if_pos d2]
            show rpC _ _ _ o = _
            rw [hrp]
            have e1 : up2 (opC I f n i) (gP gi + 4) 7 (opC I f n i 23 2) o = I o := by rw [up2_ne _ _ _ (by omega)]; exact e0
            generalize up2 (opC I f n i) (gP gi + 4) 7 (opC I f n i 23 2) = X at *
            by_cases d3 : opC I f n i 23 0 = 0
            · rw [if_pos d3]
              unfold hpC
              by_cases z1 : slI (X 23 3) (X 2 4) = -1
              · rw [if_pos z1]; exact e1
              · rw [if_neg z1]
                by_cases z2 : X 2 5 = 0
                · rw [if_pos z2]
                  by_cases z3 : shC X (gP gi + 9) = 0
                  · rw [if_pos z3, grC_o (by omega) (by omega) (by omega) (by omega)]; exact e1
                  · rw [if_neg z3]; exact e1
                · have := sl_in (X 23 3) (X 2 4) z1
                  obtain ⟨j, j1, j2⟩ := vp_in_of this (by decide)
                  rw [if_neg z2, j2, nI_clamp (by omega), up2_ne _ _ _ (by omega), up2_ne _ _ _ (by omega)]; exact e1
            · rw [if_neg d3, auC_o (by omega)]; exact e1
          · rw [if_neg d2]
            show rpC _ _ _ o = _
            rw [hrp]; exact e0
/-- the letter at i -/
theorem lt_get {B W E G T : Nat} {C : Nat → Nat} {U : Nat → Nat → Nat} {rs : Rw} {JA : T3} (h : Rl m B W E G T C U rs A JA I J) : ∃ f n, PlOk I f n ∧ A 136 24 = nI n ∧ n ≤ 200 ∧ MOk A ∧ ∀ i, i < n → ∃ so gi s, so < 5 ∧ gi < 8 ∧ s < 2 ^ 30 ∧ ltC I f i 0 = nI so ∧ ltC I f i 1 = nI gi ∧ A 151 (6 * i) = nI so ∧ A 151 (6 * i + 1) = nI gi ∧ I (gP gi + 9) 5 = nI s := by
  obtain ⟨n1, a2, a3, a4, a5, a6, a7, a8, a9, a10⟩ := h
  have hG8 : G ≤ 8 := n1.2.2.2.2.2.1
  obtain ⟨f, n, p1, p2, p3⟩ := a7
  refine ⟨f, n, p1, p2, p1.2.2.2, mok_of hG8 a6 ⟨n, p1.2.2.2, p2⟩ a10, fun i hi => ?_⟩
  obtain ⟨b1, x, hx, b2, b3⟩ := p3 i hi
  obtain ⟨s, r, y0, y1, y2, y3, y4, y5, y6, y7, -⟩ := Wy_ex (a6 x hx).2
  have b0 : ltC I f i 0 = A 151 (6 * i) := b1 0 (by decide)
  have fin : ∀ so : Nat, so < 5 → A 151 (6 * i) = nI so → ∃ so gi s, so < 5 ∧ gi < 8 ∧ s < 2 ^ 30 ∧ ltC I f i 0 = nI so ∧ ltC I f i 1 = nI gi ∧ A 151 (6 * i) = nI so ∧ A 151 (6 * i + 1) = nI gi ∧ I (gP gi + 9) 5 = nI s := fun so h5 hso => ⟨so, x, s, h5, by omega, y3, b0.trans hso, (b1 1 (by decide)).trans b2, hso, b2, y7⟩
  rcases b3 with ⟨e, -⟩ | ⟨e, -⟩ | ⟨e, -⟩ | ⟨e, -⟩ | ⟨e, -⟩
  · exact fin 0 (by decide) e
  · exact fin 1 (by decide) e
  · exact fin 2 (by decide) e
  · exact fin 3 (by decide) e
  · exact fin 4 (by decide) e
theorem pr_deliver (h : Rel m I J I J) (hm : m < 512) (x : Int32) : PrT mX6_deliver [.int x] mX7_deliver [.int x] eIB 1 m I J ∨ PrR mX6_deliver [.int x] mX7_deliver [.int x] m I J := by
  obtain ⟨B, W, E, G, T, C, U, rs, h9⟩ := id h
  obtain ⟨f, n, p1, p2, hn, mok, gl⟩ := lt_get h9
  rcases pk_ix x (n := n) (by omega) with hx | hx | ⟨j, hj, rfl⟩
  · exact Or.inl (pr_t h hm (sp_deliverB (Or.inl hx)) (sm_deliverB (Or.inl hx)))
  · exact Or.inl (pr_t h hm (sp_deliverB (by rw [p1.2.1]; exact Or.inr hx)) (sm_deliverB (by rw [p2]; exact Or.inr hx)))
  · right
    obtain ⟨so, gi, s, g1, g2, g3, g4, g5, g6, g7, g8⟩ := gl j hj
    refine (sp_deliver p1 hj g4 g1 g5 g2 g8 g3).mono fun v I1 J1 q => ?_
    obtain ⟨rfl, hI1, rfl⟩ := q
    refine ⟨(by first | exact rfl | exact ⟨_, rfl⟩ | exact ⟨_, rfl, Or.inl rfl⟩ | exact ⟨_, rfl, Or.inr rfl⟩), ?_⟩
    intro I2 J2 hO
    obtain ⟨rfl, hJ⟩ := hO
    have hi : ∀ o, 136 ≤ o → I2 o = I o := fun o ho => by rw [← hI1]; exact br_hi g2 ho
    refine (sm_deliver (n := n) (so := so) (x := gi) (MOk_e mok (by rw [hi 136 (by omega)]) (hi 149 (by omega)) (hi 148 (by omega))) (by rw [hi 136 (by omega)]; exact p2) hn hj (by rw [hi 151 (by omega)]; exact g6) g1 (by rw [hi 151 (by omega)]; exact g7) g2).mono fun v' S J' q => ?_
    obtain ⟨rfl, rfl, rfl⟩ := q
    have hA : Rl m B W E G T C U rs (tw I2 0) J2 I J := Rl_x h9 (fun i hi' => by rw [tw_k _ hi', hi 136 (by omega)]) (fun o o1 o2 => by rw [tw_o _ (by omega), hi o (by omega)]) ⟨by rw [hJ 136 (by decide)], by rw [hJ 141 (by decide)], by rw [hJ 153 (by decide)]⟩ (fun _ _ _ _ => rfl) (fun _ _ _ => rfl)
    obtain ⟨U', c1, c2⟩ := come_Rl hA p1 hj g4 g1 g5 g2 g8 g3
    rw [hI1] at c2
    refine ⟨by rw [c1], by rw [cm_0, tw_0], rfl, ⟨B, W, E, G, T, C, U', rs, Rl_m (Rl_x c2 (fun _ _ => rfl) (fun _ _ _ => rfl) ⟨rfl, rfl, rfl⟩ (fun o ho _ _ => ?_) (fun o ho _ => hJ o (by omega))) hm⟩⟩
    rw [cm_lo ho, tw_o _ (by omega)]
def itM (A : T2) : Nat → T2
  | 0 => A
  | k + 1 => (cmM (itM A k) 0).2
theorem it_lo {o : Nat} (h : o < 136) : ∀ k, itM A k o = A o
  | 0 => rfl
  | k + 1 => by show (cmM (itM A k) 0).2 o = A o; rw [cm_lo h, it_lo h k]
theorem it_0 : ∀ k, itM A k 136 0 = A 136 0
  | 0 => rfl
  | k + 1 => by show (cmM (itM A k) 0).2 136 0 = A 136 0; rw [cm_0, it_0 k]
theorem pr_delAll (h : Rel m I J I J) (hm : m < 512) (x : Int32) : PrT mX6_deliverAll [.int x] mX7_deliverAll [.int x] eIA 1 m I J ∨ PrR mX6_deliverAll [.int x] mX7_deliverAll [.int x] m I J := by
  by_cases hq : x < 0 ∨ ¬ x ≤ 1000
  · exact Or.inl (pr_t h hm (sp_delAllT hq) (sm_delAllT hq))
  right
  obtain ⟨n, hn, rfl⟩ := nI_of2 (M := 1000) (n := 1000) (by decide) (fun z => hq (Or.inl z)) (Classical.not_not.mp fun z => hq (Or.inr z))
  obtain ⟨B, W, E, G, T, C, U, rs, h9⟩ := id h
  -- the class
  refine (sp_delAll (d := 0) (J := J) hn (fun k I1 => (∀ o, 136 ≤ o → I1 o = I o) ∧ ∀ A0 : T2, (∀ o, 136 ≤ o → A0 o = tw I 0 o) → (∃ U', Rl m B W E G T C U' rs (itM A0 k) J I1 J) ∧ ∀ j, j < k → ¬ itM A0 j 136 24 = 0) ⟨fun _ _ => rfl, fun A0 hA => ⟨⟨U, ?_⟩, fun j hj => absurd hj (Nat.not_lt_zero _)⟩⟩ (fun k I1 hp => ?_) (fun k I1 hp hne => ?_)).mono fun v I1 J1 q => ?_
  · refine Rl_x h9 (fun i hi' => ?_) (fun o o1 o2 => ?_) ⟨rfl, rfl, rfl⟩ (fun _ _ _ _ => rfl) (fun _ _ _ => rfl)
    · show A0 136 i = I 136 i
      rw [hA 136 (Nat.le_refl _), tw_k _ hi']
    · show A0 o = I o
      rw [hA o (by omega), tw_o _ (by omega)]
  · obtain ⟨⟨U', hr⟩, -⟩ := hp.2 (tw I 0) (fun _ _ => rfl)
    obtain ⟨f, n', p1, p2, hn', -⟩ := lt_get hr
    exact ⟨n', hn', p1.2.1⟩
  · obtain ⟨⟨U', hr⟩, -⟩ := hp.2 (tw I 0) (fun _ _ => rfl)
    obtain ⟨f, n', p1, p2, hn', mok, gl⟩ := lt_get hr
    have hj : 0 < n' := Nat.pos_of_ne_zero fun z => hne (by rw [p1.2.1, z]; rfl)
    obtain ⟨so, gi, s, g1, g2, g3, g4, g5, g6, g7, g8⟩ := gl 0 hj
    refine (sp_bring p1 hj g4 g1 g5 g2 g8 g3).mono fun v I3 J3 q => ?_
    obtain ⟨rfl, rfl, rfl⟩ := q
    refine ⟨⟨_, rfl⟩, ⟨fun o ho => by rw [br_hi g2 ho, hp.1 o ho], fun A0 hA => ?_⟩, rfl⟩
    obtain ⟨⟨U2, hr2⟩, hb⟩ := hp.2 A0 hA
    obtain ⟨U3, c1, c2⟩ := come_Rl hr2 p1 hj g4 g1 g5 g2 g8 g3
    refine ⟨⟨U3, c2⟩, fun j hj' => ?_⟩
    by_cases c : j = k
    · subst c
      obtain ⟨f2, n2, p12, p22, -⟩ := lt_get hr2
      rw [p22, ← p12.2.1]
      exact hne
    · exact hb j (by omega)
  obtain ⟨rfl, kc, kc1, rfl, ⟨hi, hP⟩, hend⟩ := q
  refine ⟨(by first | exact rfl | exact ⟨_, rfl⟩ | exact ⟨_, rfl, Or.inl rfl⟩ | exact ⟨_, rfl, Or.inr rfl⟩), ?_⟩
  intro I2 J2 hO
  obtain ⟨rfl, hJ⟩ := hO
  obtain ⟨⟨Uc, hRc⟩, hbc⟩ := hP (tw I2 0) (fun o ho => by
    by_cases c : o = 136
    · subst c
      funext i
      rw [tw_v, tw_v, hi 136 (by omega)]
    · rw [tw_o _ c, tw_o _ c, hi o ho])
  -- the reference
  have hA : Rl m B W E G T C U rs (tw I2 0) J2 I J := Rl_x h9 (fun i hi' => by rw [tw_k _ hi', hi 136 (by omega)]) (fun o o1 o2 => by rw [tw_o _ (by omega), hi o (by omega)]) ⟨by rw [hJ 136 (by decide)], by rw [hJ 141 (by decide)], by rw [hJ 153 (by decide)]⟩ (fun _ _ _ _ => rfl) (fun _ _ _ => rfl)
  refine (sm_delAll (d := 3) (J := J2) hn (fun k S => S = itM (tw I2 0) k ∧ (∃ X U', Rl m B W E G T C U' rs (itM (tw I2 0) k) J2 X J) ∧ ∀ j, j < k → ¬ itM (tw I2 0) j 136 24 = 0) ⟨rfl, ⟨I, U, hA⟩, fun j hj => absurd hj (Nat.not_lt_zero _)⟩ (fun k S hp => ?_) (fun k S hp hne => ?_)).mono fun v' S J' q => ?_
  · obtain ⟨rfl, ⟨X, U', hr⟩, -⟩ := hp
    obtain ⟨f, n', p1, p2, hn', -⟩ := lt_get hr
    exact ⟨by rw [it_0, tw_0], n', hn', p2⟩
  · obtain ⟨rfl, ⟨X, U', hr⟩, hb⟩ := hp
    obtain ⟨f, n', p1, p2, hn', mok, gl⟩ := lt_get hr
    have hj : 0 < n' := Nat.pos_of_ne_zero fun z => hne (by rw [p2, z]; rfl)
    obtain ⟨so, gi, s, g1, g2, g3, g4, g5, g6, g7, g8⟩ := gl 0 hj
    refine (sm_come mok p2 hn' hj g6 g1 g7 g2).mono fun v I3 J3 q => ?_
    obtain ⟨rfl, rfl, rfl⟩ := q
    obtain ⟨U3, c1, c2⟩ := come_Rl hr p1 hj g4 g1 g5 g2 g8 g3
    refine ⟨⟨_, rfl⟩, ⟨rfl, ⟨_, U3, c2⟩, fun j hj' => ?_⟩, rfl⟩
    by_cases c : j = k
    · subst c; exact hne
    · exact hb j (by omega)
  obtain ⟨rfl, km, km1, rfl, ⟨rfl, -, hbm⟩, hendm⟩ := q
  have hkk : kc = km := by
    rcases Nat.lt_trichotomy kc km with c | c | c
    · exfalso
      refine hbm kc c ?_
      rcases hend with e | e
      · omega
      · obtain ⟨f, n', p1, p2, -⟩ := lt_get hRc
        rw [p2, ← p1.2.1, e]
    · exact c
    · exfalso
      refine hbc km c ?_
      rcases hendm with e | e
      · omega
      · exact e
  subst hkk
  refine ⟨rfl, by rw [it_0, tw_0], rfl, ⟨B, W, E, G, T, C, Uc, rs, Rl_m (Rl_x hRc (fun _ _ => rfl) (fun _ _ _ => rfl) ⟨by rw [hJ 136 (by decide)], by rw [hJ 141 (by decide)], by rw [hJ 153 (by decide)]⟩ (fun o ho _ _ => ?_) (fun o ho _ => hJ o (by omega))) hm⟩⟩
  rw [it_lo ho, tw_o _ (by omega)]
end PAIR9

