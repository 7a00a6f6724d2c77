/-! pairs: setup -/
section PAIR11
variable {m : Nat} {I S : T2} {J JS : T3}
theorem frC_of {B W E G : Nat} (h : gbP (bg0 I (nI B) (nI W) (nI E) (nI G)) (up3 J 0 10 (lN E)) (lN E) 8 S JS) (ht : ∀ σ, σ < 3 → ∀ x, x < 8 → ¬ I (8 + 1 + σ) x < 0) (hw : ∀ x, x < 8 → I (gP x + 4) 0 = nI x ∧ I (gP x + 9) 0 = nI x) : frC B W E G S JS := by
  obtain ⟨h1, h2, h3⟩ := h
  have s : ∀ o, o < 24 → S o = bg0 I (nI B) (nI W) (nI E) (nI G) o := fun o ho => h1 o (fun x _ => Or.inl (by have := gP_e x; omega))
  have vv : ∀ o i, o < 24 → S o i = if o = 22 then (if i < 200 then 0 else I 22 i) else if o = 19 ∧ i = 4 then 0 else if o = 19 ∧ i = 3 then 0 else if o = 19 ∧ i = 2 then 0 else if o = 12 ∧ i = 2 then 0 else if o = 12 ∧ i = 1 then 0 else if 5 ≤ o ∧ o < 5 + 3 ∧ i < 8 then 0 else if o = 3 then (if i < 3 then nI B else I 3 i) else if o = 2 ∧ i = 6 then 1 else if o = 2 ∧ i = 5 then 0 else if o = 2 ∧ i = 4 then 0 else if o = 2 ∧ i = 3 then nI B else if o = 0 ∧ i = 9 then nI E else if o = 0 ∧ i = 8 then nI W else if o = 0 ∧ i = 7 then nI G else I o i := fun o i ho => by
    rw [s o ho]
    unfold bg0 ofC
    rw [upr_v, up2_v, up2_v, up2_v, up2_v, up2_v, fg_v, upr_v, up2_v, up2_v, up2_v, up2_v, up2_v, up2_v, up2_v]
    rw [up2_ne _ _ _ (show (3 : Nat) ≠ 0 by decide), up2_ne _ _ _ (show (3 : Nat) ≠ 0 by decide), up2_ne _ _ _ (show (3 : Nat) ≠ 0 by decide)]
    rfl
  refine ⟨⟨?_, ?_, ?_, ?_, ?_, ?_, ?_, ?_⟩, fun σ hσ => ⟨?_, fun x hx => ⟨?_, ?_⟩⟩, fun x hx => ?_, ⟨?_, ?_, ?_, ?_, ?_⟩, fun w hw' => ?_⟩
  · rw [vv 2 3 (by decide)]; simp
  · rw [vv 0 8 (by decide)]; simp
  · rw [vv 0 9 (by decide)]; simp
  · rw [vv 0 7 (by decide)]; simp
  · rw [h2 0 (fun x _ => by have := gP_e x; omega), up3_v, if_pos ⟨rfl, rfl⟩]
  · rw [vv 2 4 (by decide)]; simp
  · rw [vv 2 5 (by decide)]; simp
  · rw [vv 2 6 (by decide)]; simp
  · rw [vv 3 σ (by decide)]; simp [hσ]
  · rw [vv (4 + 1 + σ) x (by omega), if_neg (by omega), if_neg (by omega), if_neg (by omega), if_neg (by omega), if_neg (by omega), if_neg (by omega), if_pos ⟨by omega, by omega, hx⟩]
  · rw [vv (8 + 1 + σ) x (by omega), if_neg (by omega), if_neg (by omega), if_neg (by omega), if_neg (by omega), if_neg (by omega), if_neg (by omega), if_neg (by omega), if_neg (by omega), if_neg (by omega), if_neg (by omega), if_neg (by omega), if_neg (by omega), if_neg (by omega), if_neg (by omega), if_neg (by omega)]
    exact ht σ hσ x hx
  · obtain ⟨g1, g2, ⟨g3, g4, g5, g6⟩, ⟨g7, g8, g9, g10⟩⟩ := h3 x hx
    have gx := gP_e x
    have e4 : bg0 I (nI B) (nI W) (nI E) (nI G) (gP x + 4) = I (gP x + 4) := bg0_o (by omega)
    have e9 : bg0 I (nI B) (nI W) (nI E) (nI G) (gP x + 9) = I (gP x + 9) := bg0_o (by omega)
    rw [e4, (hw x hx).1] at g6
    rw [e9, (hw x hx).2] at g10
    exact ⟨g1, g2, ⟨g3, g4, g5, g6⟩, ⟨g7, g8, g9, g10⟩⟩
  · rw [vv 12 1 (by decide)]; simp
  · rw [vv 12 2 (by decide)]; simp
  · rw [vv 19 2 (by decide)]; simp
  · rw [vv 19 3 (by decide)]; simp
  · rw [vv 19 4 (by decide)]; simp
  · rw [vv 22 w (by decide)]; simp [hw']
theorem b0_v (l w e g : Int32) (o i : Nat) : b0M I l w e g o i = if o = 137 ∧ i = 2 then l else if o = 137 ∧ i = 1 then l else if o = 137 ∧ i = 0 then 0 else if o = 136 ∧ i = 8 then 0 else if o = 136 ∧ i = 7 then 0 else if o = 136 ∧ i = 6 then 0 else if o = 136 ∧ i = 4 then g else if o = 136 ∧ i = 3 then e else if o = 136 ∧ i = 2 then w else if o = 136 ∧ i = 1 then l else I o i := by
  unfold b0M
  rw [up2_v, up2_v, up2_v, up2_v, up2_v, up2_v, up2_v, up2_v, up2_v, up2_v]
theorem bg_lo {l w e g : Int32} {v : Option Value} (h : bgM I J l w e g v S JS) {o : Nat} (ho : o < 136) : S o = I o := by
  funext i
  have eA : ¬ sA o = true := fun z => by rw [sA_i] at z; omega
  have eB : ¬ sB o = true := fun z => by rw [sB_i] at z; omega
  have eC : ¬ sC o = true := fun z => by rw [sC_i] at z; omega
  have eD : ¬ sD o = true := fun z => by rw [sD_i] at z; omega
  rw [h.2.1, if_neg (by omega), if_neg (fun z => eD z.1), if_neg (fun z => eC z.1), if_neg (fun z => eB z.1), if_neg (fun z => eA z.1), b0_v, if_neg (by omega), if_neg (by omega), if_neg (by omega), if_neg (by omega), if_neg (by omega), if_neg (by omega), if_neg (by omega), if_neg (by omega), if_neg (by omega), if_neg (by omega)]
theorem frM_of {B W E G : Nat} {v : Option Value} (hE : E < 2 ^ 31) (h : bgM I J (nI B) (nI W) (nI E) (nI G) v S JS) : frM B W E G S JS ∧ S 136 0 = I 136 0 := by
  obtain ⟨-, h1, h2⟩ := h
  rw [nI_l hE] at h2
  have p : ∀ i, ¬ (i = 24 ∨ i = 27) → S 136 i = b0M I (nI B) (nI W) (nI E) (nI G) 136 i := fun i hi => by
    rw [h1, if_neg (fun z => hi z.2), if_neg (fun z => absurd z.1 (by decide)), if_neg (fun z => absurd z.1 (by decide)), if_neg (fun z => absurd z.1 (by decide)), if_neg (fun z => absurd z.1 (by decide))]
  have p7 : ∀ i, S 137 i = b0M I (nI B) (nI W) (nI E) (nI G) 137 i := fun i => by
    rw [h1, if_neg (fun z => absurd z.1 (by decide)), if_neg (fun z => absurd z.1 (by decide)), if_neg (fun z => absurd z.1 (by decide)), if_neg (fun z => absurd z.1 (by decide)), if_neg (fun z => absurd z.1 (by decide))]
  have pA : ∀ o i, sA o = true → i < 24 → S o i = 0 := fun o i ho hi => by
    have ho' := (sA_i o).mp ho
    rw [h1, if_neg (by omega), if_neg (fun z => by have := (sD_i o).mp z.1; omega), if_neg (fun z => by have := (sC_i o).mp z.1; omega), if_neg (fun z => by have := (sB_i o).mp z.1; omega), if_pos ⟨ho, hi⟩]
  have pB : ∀ o i, sB o = true → i < 8 → S o i = 0 := fun o i ho hi => by
    have ho' := (sB_i o).mp ho
    rw [h1, if_neg (by omega), if_neg (fun z => by have := (sD_i o).mp z.1; omega), if_neg (fun z => by have := (sC_i o).mp z.1; omega), if_pos ⟨ho, hi⟩]
  have pC : ∀ o i, sC o = true → i < 16 → S o i = 0 := fun o i ho hi => by
    have ho' := (sC_i o).mp ho
    rw [h1, if_neg (by omega), if_neg (fun z => by have := (sD_i o).mp z.1; omega), if_pos ⟨ho, hi⟩]
  refine ⟨⟨⟨?_, ?_, ?_, ?_, ?_, ?_, ?_, ?_, ?_⟩, ⟨?_, ?_, ?_⟩, fun i hi => ⟨pA 138 i rfl hi, pA 139 i rfl hi, pA 144 i rfl hi, pA 145 i rfl hi, pA 146 i rfl hi⟩, fun x hx => ⟨pB 140 x rfl hx, pB 142 x rfl hx, pB 143 x rfl hx, ?_⟩, fun l hl => ⟨pC 148 l rfl hl, pC 149 l rfl hl, pC 150 l rfl hl⟩, fun w hw => ?_, ?_⟩, ?_⟩
  · rw [p 1 (by omega), b0_v]; simp
  · rw [p 2 (by omega), b0_v]; simp
  · rw [p 3 (by omega), b0_v]; simp
  · rw [p 4 (by omega), b0_v]; simp
  · rw [p 6 (by omega), b0_v]; simp
  · rw [p 7 (by omega), b0_v]; simp
  · rw [p 8 (by omega), b0_v]; simp
  · rw [h1, if_pos ⟨rfl, Or.inl rfl⟩]
  · rw [h1, if_pos ⟨rfl, Or.inr rfl⟩]
  · rw [p7, b0_v]; simp
  · rw [p7, b0_v]; simp
  · rw [p7, b0_v]; simp
  · rw [h2, if_pos ⟨rfl, hx⟩]
  · rw [h1, if_neg (by omega), if_pos ⟨rfl, hw⟩]
  · rw [h2, if_neg (by omega), up3_v, if_pos ⟨rfl, rfl⟩]
  · rw [p 0 (by omega), b0_v]; simp
theorem okS_of {l w e g : Int32} (h : okS l w e g) : ∃ B W E G : Nat, l = nI B ∧ w = nI W ∧ e = nI E ∧ g = nI G ∧ B ≤ 1000000 ∧ 2 ≤ W ∧ W ≤ 10000 ∧ 2 * E < W ∧ 1 ≤ G ∧ G ≤ 8 := by
  obtain ⟨h1, h2, h3, h4, h5, h6, h7, h8⟩ := h
  have z : ∀ {x : Int32} {k : Int32}, ¬ x < k → 0 ≤ k.toInt → ¬ x < 0 := fun {x k} a b c => a (by
    rw [Int32.lt_iff_toInt_lt] at c ⊢
    have e0 : (0 : Int32).toInt = 0 := by decide
    omega)
  obtain ⟨B, b1, rfl⟩ := nI_of2 (M := 1000000) (n := 1000000) (by decide) (z h1 (by decide)) h2
  obtain ⟨W, b2, rfl⟩ := nI_of2 (M := 10000) (n := 10000) (by decide) (z h3 (by decide)) h4
  obtain ⟨E, b3, rfl⟩ := nI_of h5
  obtain ⟨G, b4, rfl⟩ := nI_of2 (M := 8) (n := 8) (by decide) (z h7 (by decide)) h8
  have w2 : 2 ≤ W := Nat.le_of_not_lt fun y => h3 (nI_lt (b := 2) y (by decide))
  have g1 : 1 ≤ G := Nat.le_of_not_lt fun y => h7 (nI_lt (b := 1) y (by decide))
  refine ⟨B, W, E, G, rfl, rfl, rfl, rfl, b1, w2, b2, ?_, g1, b4⟩
  rw [nI_l b3, nI_l (by omega), show (2 : Int64) = lN 2 from rfl, lN_mul, pk_lLT (by omega) (by omega)] at h6
  exact h6
theorem pr_setup (h : Rel m I J I J) (hm : m < 512) (l w e g : Int32) : PrT mX6_setup [.int l, .int w, .int e, .int g] mX7_setup [.int l, .int w, .int e, .int g] eIA 1 m I J ∨ PrR mX6_setup [.int l, .int w, .int e, .int g] mX7_setup [.int l, .int w, .int e, .int g] m I J := by
  by_cases ok : okS l w e g
  · right
    obtain ⟨B0, W0, E0, G0, T0, C0, U0, rs0, h9⟩ := id h
    obtain ⟨n1, -, -, -, a5, a6, -, -, -, a10⟩ := id h9
    obtain ⟨B, W, E, G, rfl, rfl, rfl, rfl, b1, b2, b3, b4, b5, b6⟩ := okS_of ok
    refine (sp_setup (d := 2) ok).mono fun v I1 J1 q => ?_
    obtain ⟨rfl, q⟩ := q
    rw [nI_l (show E < 2 ^ 31 by omega)] at q
    refine ⟨(by first | exact rfl | exact ⟨_, rfl⟩ | exact ⟨_, rfl, Or.inl rfl⟩ | exact ⟨_, rfl, Or.inr rfl⟩), ?_⟩
    intro I2 J2 hO
    obtain ⟨rfl, hJ⟩ := hO
    have fc : frC B W E G I2 J1 := frC_of q (fun σ hσ x hx => by
      obtain ⟨k, k1, k2⟩ := sl_all (T0 / W0) hσ
      rw [← k2]
      exact (a5 x hx k k1).2.2.1) (fun x hx => by
      by_cases c : x < G0
      · obtain ⟨-, -, -, -, -, -, -, -, y6, -⟩ := Wy_ex (a6 x c).1
        obtain ⟨-, -, -, -, -, -, -, -, y6', -⟩ := Wy_ex (a6 x c).2
        exact ⟨y6, y6'⟩
      · exact a10.2.2 x hx (by omega))
    refine (sm_setup (d := 6) (I := I2) (J := J2) ok (i2l_ne (nI_ne0 (by omega) (by omega))) ?_).mono fun v' S J' r => ?_
    · rw [nI_l (show E < 2 ^ 31 by omega), nI_l (show W < 2 ^ 31 by omega), pk_lDiv (by omega) (by omega) (by omega), lN_i, Nat.div_eq_of_lt (by omega)]
      rfl
    have lo : ∀ o, o < 136 → S o = I2 o := fun o ho => by rw [bg_lo r ho, tw_o _ (by omega)]
    obtain ⟨fm, f0⟩ := frM_of (by omega) r
    obtain ⟨rv, r1, r2⟩ := r
    have jo : ∀ o, o < 136 → J' o = J2 o := fun o ho => by
      funext i
      rw [r2, if_neg (by omega), up3_v, if_neg (by omega)]
    refine ⟨rv, by rw [f0, tw_0], ?_, ⟨B, W, E, G, E, _, _, [], fresh_Rl (by omega) b1 b2 b3 b4 b5 b6 ?_ fm⟩⟩
    · funext i
      rw [r2, if_neg (by omega), up3_v, if_neg (by omega)]
    · obtain ⟨⟨c1, c2, c3, c4, c5, c6, c7, c8⟩, cU, cG, ⟨c9, c10, c11, c12, c13⟩, cW⟩ := fc
      refine ⟨⟨by rw [lo 2 (by decide)]; exact c1, by rw [lo 0 (by decide)]; exact c2, by rw [lo 0 (by decide)]; exact c3, by rw [lo 0 (by decide)]; exact c4, by rw [jo 0 (by decide), hJ 0 (by decide)]; exact c5, by rw [lo 2 (by decide)]; exact c6, by rw [lo 2 (by decide)]; exact c7, by rw [lo 2 (by decide)]; exact c8⟩, fun σ hσ => ?_, fun x hx => ?_, ⟨by rw [lo 12 (by decide)]; exact c9, by rw [lo 12 (by decide)]; exact c10, by rw [lo 19 (by decide)]; exact c11, by rw [lo 19 (by decide)]; exact c12, by rw [lo 19 (by decide)]; exact c13⟩, fun z hz => by rw [lo 22 (by decide)]; exact cW z hz⟩
      · rw [lo 3 (by decide), lo (4 + 1 + σ) (by omega), lo (8 + 1 + σ) (by omega)]
        exact cU σ hσ
      · have gx := gP_e x
        rw [lo (gP x) (by omega), lo (gP x + 1) (by omega), lo (gP x + 2) (by omega), lo (gP x + 3) (by omega), lo (gP x + 4) (by omega), lo (gP x + 9) (by omega), jo (gP x) (by omega), hJ (gP x) (by omega)]
        exact cG x hx
  · exact Or.inl (pr_t h hm (sp_setupT ok) (sm_setupT ok))
end PAIR11

