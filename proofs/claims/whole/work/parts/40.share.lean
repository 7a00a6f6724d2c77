/-! Sharing: the class's -/
theorem cl_lt (w : Int32) : w.toNatClampNeg < 2 ^ 31 := by
  have := Int32.toInt_lt w
  show w.toInt.toNat < 2 ^ 31
  omega
theorem wm_iff {w : Int32} {a : Nat} (ha : a < 2 ^ 31) : nI a < w ↔ a < w.toNatClampNeg := by
  rw [Int32.lt_iff_toInt_lt, nI_toInt ha]
  show (a : Int) < w.toInt ↔ a < w.toInt.toNat
  omega
theorem cl_pos {w : Int32} (h : 0 < w.toNatClampNeg) : w = nI w.toNatClampNeg := by
  have h2 := cl_lt w
  rw [← Int32.toInt_inj, nI_toInt h2]
  have h3 : 0 < w.toInt.toNat := h
  show w.toInt = (w.toInt.toNat : Int)
  omega
def Sh (I : T2) (du u g : Nat → Nat) (L : Nat) : Prop := I 14 4 = nI L ∧ L < 2 ^ 31 ∧ ∀ x, x < 8 → I 17 x = nI (g x) ∧ g x ≤ du x ∧ (I 15 x).toNatClampNeg = du x ∧ I 16 x = nI (u x) ∧ u x < 2 ^ 31
def ShG (I : T2) (du u g : Nat → Nat) : Prop := ∀ x, x < 8 → I 17 x = nI (g x) ∧ g x ≤ du x ∧ (I 15 x).toNatClampNeg = du x ∧ I 16 x = nI (u x) ∧ u x < 2 ^ 31
def FrS (I I' : T2) : Prop := ∀ o, o ≠ 14 → o ≠ 17 → I' o = I o
theorem FrS.rf (I : T2) : FrS I I := fun _ _ _ => rfl
theorem FrS.tr {I I1 I2 : T2} (a : FrS I I1) (b : FrS I1 I2) : FrS I I2 := fun o x y => by rw [b o x y, a o x y]
section SHR
variable {d : Nat} {I : T2} {J : T3} {du u g : Nat → Nat} {L : Nat}
theorem Sh.dl (h : Sh I du u g L) {x : Nat} (hx : x < 8) : du x < 2 ^ 31 := by rw [← (h.2.2 x hx).2.2.1]; exact cl_lt _
theorem Sh.gl (h : Sh I du u g L) {x : Nat} (hx : x < 8) : g x < 2 ^ 31 := Nat.lt_of_le_of_lt (h.2.2 x hx).2.1 (h.dl hx)
theorem Sh.wm (h : Sh I du u g L) {x : Nat} (hx : x < 8) : I 17 x < I 15 x ↔ g x < du x := by
  rw [(h.2.2 x hx).1, wm_iff (h.gl hx), (h.2.2 x hx).2.2.1]
theorem Sh.wq (h : Sh I du u g L) {x : Nat} (hx : x < 8) (w : g x < du x) : I 15 x = nI (du x) := by
  have := (h.2.2 x hx).2.2.1
  rw [← this]
  exact cl_pos (by rw [this]; omega)
theorem Sh.le (h : Sh I du u g L) : ∀ y, y < 8 → g y ≤ du y := fun y hy => (h.2.2 y hy).2.1
theorem ShG.gl (h : ShG I du u g) {x : Nat} (hx : x < 8) : g x < 2 ^ 31 := by
  obtain ⟨_, a, b, _⟩ := h x hx
  have := cl_lt (I 15 x)
  omega
theorem ShG.wm (h : ShG I du u g) {x : Nat} (hx : x < 8) : I 17 x < I 15 x ↔ g x < du x := by
  rw [(h x hx).1, wm_iff (h.gl hx), (h x hx).2.2.1]
theorem sp_wantsG {x : Nat} (h : ShG I du u g) (hx : x < 8) : Mt d mX4_wantsMore [.ref 14, .int (nI x)] I J (RI (if g x < du x then 1 else 0) I J) := by
  refine Mt.of (by decide +kernel) (Nat.le_of_ble_eq_true rfl) ?_
  refine BX4_wantsMore_0 (vp_in_nI hx (by decide)) ?_
  rw [nI_clamp (by omega)]
  refine IX4_wantsMore_12 (fun c => ?_) (fun c => ?_)
  · rw [if_neg (fun z => absurd ((ShG.wm h hx).mpr z) (Int32.not_lt.mpr c))]
    refine BX4_wantsMore_19  ?_
    exact RX4_wantsMore_20 (by first | exact Or.inl rfl | exact Or.inr rfl) (Nat.zero_le _) ⟨_, rfl, ⟨rfl, rfl, rfl⟩⟩
  · rw [if_pos ((ShG.wm h hx).mp (Int32.not_le.mp c))]
    refine BX4_wantsMore_15  ?_
    exact RX4_wantsMore_20 (by first | exact Or.inl rfl | exact Or.inr rfl) (Nat.zero_le _) ⟨_, rfl, ⟨rfl, rfl, rfl⟩⟩
theorem sp_wantingG (h : ShG I du u g) : Mt (d + 1) mX4_wantingGates [.ref 14] I J (RI (nI (cwF du g 8)) I J) := by
  refine Mt.of (by decide +kernel) (Nat.le_of_ble_eq_true rfl) ?_
  refine BX4_wantingGates_0 ?_
  have key : ∀ q k : Nat, k + q = 8 → Ev (d + 1) 0 0 (fun _ => 0) mX4_wantingGates 4 [some (.ref 14), some (.int (nI (cwF du g k))), some (.int (nI k))] [] I J 0 (fun o I' J' _ => ∃ w, o = .inl w ∧ RI (nI (cwF du g 8)) I J w I' J') := by
    intro q
    induction q with
    | zero =>
      intro k hk
      refine BX4_wantingGates_4 ?_
      refine IX4_wantingGates_7 (fun c => ?_) (fun c => absurd (show (8 : Int32) ≤ nI k from nI_le (a := 8) (by omega) (by omega)) c)
      refine BX4_wantingGates_32 ?_
      refine RX4_wantingGates_33 (Nat.zero_le _) ⟨_, rfl, ?_, rfl, rfl⟩
      rw [show k = 8 by omega]
    | succ q ih =>
      intro k hk
      refine BX4_wantingGates_4 ?_
      refine IX4_wantingGates_7 (fun c => absurd c (show ¬ (8 : Int32) ≤ nI k from nI_ge (b := 8) (by omega) (by decide))) (fun c => ?_)
      refine BX4_wantingGates_10 ?_
      refine CX4_wantingGates_13 (sp_wantsG h (by omega)) (Nat.zero_le _) (fun v I1 J1 q1 => ?_)
      obtain ⟨rfl, rfl, rfl⟩ := q1
      by_cases w : g k < du k
      · rw [if_pos w]
        refine IX4_wantingGates_16 (fun c => absurd c (by decide)) (fun c => ?_)
        refine BX4_wantingGates_19 ?_
        refine BX4_wantingGates_24 ?_
        rw [nI_1, nI_1, ← cw_y w]
        exact ih (k + 1) (by omega)
      · rw [if_neg w]
        refine IX4_wantingGates_16 (fun c => ?_) (fun c => absurd rfl c)
        refine BX4_wantingGates_23 ?_
        refine BX4_wantingGates_24 ?_
        rw [show nI (cwF du g k) + 0 = nI (cwF du g (k + 1)) by rw [cw_n w]; exact nI_add _ 0, nI_1]
        exact ih (k + 1) (by omega)
  exact key 8 0 rfl
theorem sp_wants {x : Nat} (h : Sh I du u g L) (hx : x < 8) : Mt d mX4_wantsMore [.ref 14, .int (nI x)] I J (RI (if g x < du x then 1 else 0) I J) := sp_wantsG h.2.2 hx
theorem sp_wanting (h : Sh I du u g L) : Mt (d + 1) mX4_wantingGates [.ref 14] I J (RI (nI (cwF du g 8)) I J) := sp_wantingG h.2.2
theorem Sh.give (h : Sh I du u g L) {x v : Nat} (hx : x < 8) (hv : g x + v ≤ du x) (hL : v ≤ L) : Sh (up2 (up2 I 17 x (nI (g x + v))) 14 4 (nI (L - v))) du u (upN g x (g x + v)) (L - v) := by
  obtain ⟨h1, h2, h3⟩ := id h
  refine ⟨by rw [up2_s], by omega, fun y hy => ?_⟩
  obtain ⟨a1, a2, a3, a4, a5⟩ := h3 y hy
  have e15 : up2 (up2 I 17 x (nI (g x + v))) 14 4 (nI (L - v)) 15 y = I 15 y := by rw [up2_o _ _ _ _ (by decide), up2_o _ _ _ _ (by decide)]
  have e16 : up2 (up2 I 17 x (nI (g x + v))) 14 4 (nI (L - v)) 16 y = I 16 y := by rw [up2_o _ _ _ _ (by decide), up2_o _ _ _ _ (by decide)]
  rw [e15, e16, up2_o _ _ _ _ (by decide), up2_v]
  by_cases c : y = x
  · subst c
    rw [if_pos ⟨rfl, rfl⟩, upN_s]
    exact ⟨rfl, hv, a3, a4, a5⟩
  · rw [if_neg (fun z => c z.2), upN_o _ _ c]
    exact ⟨a1, a2, a3, a4, a5⟩
theorem sp_give (h : Sh I du u g L) {x v : Nat} (hx : x < 8) (hv : g x + v ≤ du x) (hL : v ≤ L) : Mt d mX4_give [.ref 14, .int (nI x), .int (nI v)] I J (fun w I' J' => w = none ∧ J = J' ∧ FrS I I' ∧ Sh I' du u (upN g x (g x + v)) (L - v)) := by
  refine Mt.of (by decide +kernel) (Nat.le_of_ble_eq_true rfl) ?_
  refine BX4_give_0 (vp_in_nI hx (by decide)) ?_
  rw [nI_clamp (by omega), (h.2.2 x hx).1, nI_add, up2_o _ _ _ _ (by decide), h.1, pk_sub hL]
  refine RX4_give_20 (Nat.zero_le _) ⟨_, rfl, rfl, rfl, fun o o1 o2 => ?_, h.give hx hv hL⟩
  rw [up2_ne _ _ _ o1, up2_ne _ _ _ o2]
theorem ly_n {x v : Nat} (w : ¬ g x < du x) : lyF du g v (x + 1) = lyF du g v x := by
  funext y
  show (if y < x + 1 ∧ g y < du y then g y + v else g y) = (if y < x ∧ g y < du y then g y + v else g y)
  by_cases c3 : y < x ∧ g y < du y
  · rw [if_pos c3, if_pos ⟨by omega, c3.2⟩]
  · rw [if_neg c3, if_neg fun z => c3 ⟨by
      by_cases c4 : y = x
      · rw [c4] at z; exact absurd z.2 w
      · omega, z.2⟩]
theorem ly_y {x v : Nat} (w : g x < du x) : lyF du g v (x + 1) = upN (lyF du g v x) x (lyF du g v x x + v) := by
  funext y
  have e0 : lyF du g v x x = g x := if_neg fun z => absurd z.1 (Nat.lt_irrefl _)
  by_cases c : y = x
  · subst c
    rw [upN_s, e0]
    exact if_pos ⟨Nat.lt_succ_self _, w⟩
  · rw [upN_o _ _ c]
    show (if y < x + 1 ∧ g y < du y then g y + v else g y) = (if y < x ∧ g y < du y then g y + v else g y)
    by_cases c3 : y < x ∧ g y < du y
    · rw [if_pos c3, if_pos ⟨by omega, c3.2⟩]
    · rw [if_neg c3, if_neg fun z => c3 ⟨by omega, z.2⟩]
def lyP (I : T2) (J : T3) (du u g : Nat → Nat) (L v : Nat) : Option Value → T2 → T3 → Prop := fun w I' J' => w = none ∧ J = J' ∧ FrS I I' ∧ ∃ x, x ≤ 8 ∧ Sh I' du u (lyF du g v x) (L - v * cwF du g x) ∧ v * cwF du g x ≤ L ∧ (x = 8 ∨ L < v * cwF du g x + v)
theorem sp_layer (h : Sh I du u g L) {v : Nat} (hv : ∀ y, y < 8 → g y < du y → g y + v ≤ du y) (hv2 : v < 2 ^ 31) : Mt (d + 1) mX4_giveLayer [.ref 14, .int (nI v)] I J (lyP I J du u g L v) := by
  refine Mt.of (by decide +kernel) (Nat.le_of_ble_eq_true rfl) ?_
  refine BX4_giveLayer_0 ?_
  have key : ∀ q x : Nat, x + q = 8 → ∀ I1 : T2, FrS I I1 → Sh I1 du u (lyF du g v x) (L - v * cwF du g x) → v * cwF du g x ≤ L → Ev (d + 1) 0 0 (fun _ => 0) mX4_giveLayer 2 [some (.ref 14), some (.int (nI v)), some (.int (nI x))] [] I1 J 0 (fun o I' J' _ => ∃ w, o = .inl w ∧ lyP I J du u g L v w I' J') := by
    intro q
    induction q with
    | zero =>
      intro x hx I1 hf hs hl
      refine BX4_giveLayer_2 ?_
      refine IX4_giveLayer_5 (fun c => ?_) (fun c => absurd (show (8 : Int32) ≤ nI x from nI_le (a := 8) (by omega) (by omega)) c)
      exact RX4_giveLayer_36 (Nat.zero_le _) ⟨_, rfl, rfl, rfl, hf, x, by omega, hs, hl, Or.inl (by omega)⟩
    | succ q ih =>
      intro x hx I1 hf hs hl
      refine BX4_giveLayer_2 ?_
      refine IX4_giveLayer_5 (fun c => absurd c (show ¬ (8 : Int32) ≤ nI x from nI_ge (b := 8) (by omega) (by decide))) (fun c => ?_)
      refine BX4_giveLayer_8 ?_
      rw [hs.1]
      refine IX4_giveLayer_13 (fun c => ?_) (fun c => ?_)
      · have c' := (nI_ltI (by have := h.2.1; omega) hv2).mp c
        exact RX4_giveLayer_36 (Nat.zero_le _) ⟨_, rfl, rfl, rfl, hf, x, by omega, hs, hl, Or.inr (by omega)⟩
      · have c' : v ≤ L - v * cwF du g x := Nat.le_of_not_lt fun z => c (nI_lt z hv2)
        refine BX4_giveLayer_16 ?_
        refine CX4_giveLayer_18 (sp_wants hs (by omega)) (Nat.zero_le _) (fun w1 I2 J2 q1 => ?_)
        obtain ⟨rfl, rfl, rfl⟩ := q1
        have e0 : lyF du g v x x = g x := if_neg fun z => absurd z.1 (Nat.lt_irrefl _)
        rw [e0]
        by_cases w : g x < du x
        · rw [if_pos w]
          refine IX4_giveLayer_21 (fun c => absurd c (by decide)) (fun c => ?_)
          refine BX4_giveLayer_24 ?_
          refine CX4_giveLayer_27 (sp_give hs (x := x) (v := v) (by omega) (by rw [e0]; exact hv x (by omega) w) c') (Nat.zero_le _) (fun w1 I2 J2 q1 => ?_)
          obtain ⟨rfl, rfl, f1, f2⟩ := q1
          refine BX4_giveLayer_30 ?_
          rw [nI_1]
          have hm : v * cwF du g (x + 1) = v * cwF du g x + v := by rw [cw_y w, Nat.mul_add, Nat.mul_one]
          refine ih (x + 1) (by omega) I2 (hf.tr f1) ?_ (by omega)
          rw [ly_y w, hm, ← Nat.sub_sub]
          exact f2
        · rw [if_neg w]
          refine IX4_giveLayer_21 (fun c => ?_) (fun c => absurd rfl c)
          refine BX4_giveLayer_30 ?_
          rw [nI_1]
          refine ih (x + 1) (by omega) I1 hf ?_ (by rw [cw_n w]; exact hl)
          rw [ly_n w, cw_n w]
          exact hs
  refine key 8 0 rfl I (FrS.rf I) ?_ (Nat.zero_le _)
  have e : lyF du g v 0 = g := by
    funext y
    exact if_neg fun z => absurd z.1 (Nat.not_lt_zero _)
  rw [e]
  exact h
def lwP (du g : Nat → Nat) (L m k : Nat) : Prop := m ≤ L ∧ (∀ y, y < k → g y < du y → g y + m ≤ du y) ∧ (m = L ∨ ∃ y, y < k ∧ g y < du y ∧ m = du y - g y)
theorem sp_least (h : Sh I du u g L) : Mt (d + 1) mX4_leastWish [.ref 14] I J (fun w I' J' => I = I' ∧ J = J' ∧ ∃ m, w = some (.int (nI m)) ∧ lwP du g L m 8) := by
  refine Mt.of (by decide +kernel) (Nat.le_of_ble_eq_true rfl) ?_
  refine BX4_leastWish_0 ?_
  rw [h.1]
  have key : ∀ q k : Nat, k + q = 8 → ∀ m : Nat, lwP du g L m k → Ev (d + 1) 0 0 (fun _ => 0) mX4_leastWish 7 [some (.ref 14), some (.int (nI m)), some (.int (nI k))] [] I J 0 (fun o I' J' _ => ∃ w, o = .inl w ∧ I = I' ∧ J = J' ∧ ∃ m, w = some (.int (nI m)) ∧ lwP du g L m 8) := by
    intro q
    induction q with
    | zero =>
      intro k hk m hm
      refine BX4_leastWish_7 ?_
      refine IX4_leastWish_10 (fun c => ?_) (fun c => absurd (show (8 : Int32) ≤ nI k from nI_le (a := 8) (by omega) (by omega)) c)
      refine BX4_leastWish_45 ?_
      rw [show k = 8 by omega] at hm
      exact RX4_leastWish_46 (Nat.zero_le _) ⟨_, rfl, rfl, rfl, m, rfl, hm⟩
    | succ q ih =>
      intro k hk m hm
      refine BX4_leastWish_7 ?_
      refine IX4_leastWish_10 (fun c => absurd c (show ¬ (8 : Int32) ≤ nI k from nI_ge (b := 8) (by omega) (by decide))) (fun c => ?_)
      refine BX4_leastWish_13 ?_
      refine CX4_leastWish_15 (sp_wants h (by omega)) (Nat.zero_le _) (fun v I1 J1 q1 => ?_)
      obtain ⟨rfl, rfl, rfl⟩ := q1
      obtain ⟨m1, m2, m3⟩ := hm
      have hL := h.2.1
      by_cases w : g k < du k
      · rw [if_pos w]
        refine IX4_leastWish_18 (fun c => absurd c (by decide)) (fun c => ?_)
        refine BX4_leastWish_21 (vp_in_nI (by omega) (by decide)) ?_
        have hdu := h.dl (x := k) (by omega)
        rw [nI_clamp (by omega), h.wq (by omega) w, (h.2.2 k (by omega)).1, pk_sub (by omega)]
        refine CX4_leastWish_35 (sp_min _ _) (Nat.zero_le _) (fun v I1 J1 q1 => ?_)
        obtain ⟨rfl, rfl, rfl⟩ := q1
        refine BX4_leastWish_38 ?_
        refine BX4_leastWish_39 ?_
        rw [min_nI (by omega) (by omega), nI_1]
        have n1 := Nat.min_le_left m (du k - g k)
        have n2 := Nat.min_le_right m (du k - g k)
        refine ih (k + 1) (by omega) _ ⟨by omega, fun y hy hw => ?_, ?_⟩
        · by_cases c2 : y = k
          · rw [c2]; omega
          · have := m2 y (by omega) hw; omega
        · by_cases c2 : m ≤ du k - g k
          · rw [Nat.min_eq_left c2]
            cases m3 with
            | inl e => exact Or.inl e
            | inr e => obtain ⟨y, y1, y2, y3⟩ := e; exact Or.inr ⟨y, by omega, y2, y3⟩
          · rw [Nat.min_eq_right (by omega)]
            exact Or.inr ⟨k, by omega, w, rfl⟩
      · rw [if_neg w]
        refine IX4_leastWish_18 (fun c => ?_) (fun c => absurd rfl c)
        refine BX4_leastWish_39 ?_
        rw [nI_1]
        refine ih (k + 1) (by omega) m ⟨m1, fun y hy hw => ?_, ?_⟩
        · by_cases c2 : y = k
          · rw [c2] at hw; exact absurd hw w
          · exact m2 y (by omega) hw
        · cases m3 with
          | inl e => exact Or.inl e
          | inr e => obtain ⟨y, y1, y2, y3⟩ := e; exact Or.inr ⟨y, by omega, y2, y3⟩
  exact key 8 0 rfl L ⟨Nat.le_refl _, fun y hy => absurd hy (Nat.not_lt_zero _), Or.inl rfl⟩
theorem ly_sat {x n v : Nat} (hx : x ≤ n) (h : cwF du g x = cwF du g n) : lyF du g v x = lyF du g v n := by
  funext y
  show (if y < x ∧ g y < du y then g y + v else g y) = (if y < n ∧ g y < du y then g y + v else g y)
  by_cases c3 : y < n ∧ g y < du y
  · by_cases c4 : y < x
    · rw [if_pos c3, if_pos ⟨c4, c3.2⟩]
    · have m1 : cwF du g x ≤ cwF du g y := sF_mono (by omega)
      have m2 : cwF du g (y + 1) ≤ cwF du g n := sF_mono (by omega)
      rw [cw_y c3.2] at m2
      omega
  · rw [if_neg c3, if_neg fun z => c3 ⟨by omega, z.2⟩]
/-- rounds that are still wanted -/
def muF (du g : Nat → Nat) (L : Nat) : Nat := if L = 0 ∨ cwF du g 8 = 0 then 0 else if L < cwF du g 8 then 1 else cwF du g 8 + 1
theorem mu_le (du g : Nat → Nat) (L : Nat) : muF du g L ≤ cwF du g 8 + 1 ∧ (L < cwF du g 8 → muF du g L ≤ 1) := by
  unfold muF
  by_cases c : L = 0 ∨ cwF du g 8 = 0
  · rw [if_pos c]; exact ⟨Nat.zero_le _, fun _ => Nat.zero_le _⟩
  · rw [if_neg c]
    by_cases c2 : L < cwF du g 8
    · rw [if_pos c2]; exact ⟨by omega, fun _ => Nat.le_refl _⟩
    · rw [if_neg c2]; exact ⟨Nat.le_refl _, fun z => absurd z c2⟩
def eqP (I : T2) (J : T3) (du u : Nat → Nat) (q : (Nat → Nat) × Nat) : Option Value → T2 → T3 → Prop := fun w I' J' => w = none ∧ J = J' ∧ FrS I I' ∧ Sh I' du u q.1 q.2
theorem ly_w {v : Nat} : cwF du (lyF du g v 8) 8 ≤ cwF du g 8 := sF_le fun y hy => by
  by_cases c : lyF du g v 8 y < du y
  · have : g y ≤ lyF du g v 8 y := by
      show g y ≤ (if y < 8 ∧ g y < du y then g y + v else g y)
      by_cases c2 : y < 8 ∧ g y < du y
      · rw [if_pos c2]; omega
      · rw [if_neg c2]; exact Nat.le_refl _
    rw [if_pos c, if_pos (by omega)]; exact Nat.le_refl _
  · rw [if_neg c]; exact Nat.zero_le _
theorem ly_ws {v y : Nat} (hy : y < 8) (hw : g y < du y) (hv : v = du y - g y) : cwF du (lyF du g v 8) 8 < cwF du g 8 := by
  refine Nat.lt_of_not_le fun hc => ?_
  have := sF_eq (a := fun y => if lyF du g v 8 y < du y then 1 else 0) (b := fun y => if g y < du y then 1 else 0) (n := 8) (fun y hy => by
    show (if lyF du g v 8 y < du y then 1 else 0) ≤ (if g y < du y then 1 else 0)
    by_cases c : lyF du g v 8 y < du y
    · have : g y ≤ lyF du g v 8 y := by
        show g y ≤ (if y < 8 ∧ g y < du y then g y + v else g y)
        by_cases c2 : y < 8 ∧ g y < du y
        · rw [if_pos c2]; omega
        · rw [if_neg c2]; exact Nat.le_refl _
      rw [if_pos c, if_pos (by omega)]; exact Nat.le_refl _
    · rw [if_neg c]; exact Nat.zero_le _) hc y hy
  have e : (if lyF du g v 8 y < du y then 1 else 0) = (if g y < du y then 1 else 0) := this
  have e2 : lyF du g v 8 y = g y + v := if_pos ⟨hy, hw⟩
  rw [e2, if_neg (by omega), if_pos hw] at e
  exact absurd e (by decide)
set_option maxHeartbeats 1000000 in
theorem sp_equally (h : Sh I du u g L) (hc : ∃ c, ∀ y, y < 8 → g y < du y → g y = c) : Mt (d + 2) mX4_giveEqually [.ref 14] I J (eqP I J du u (eqF 8 du L g)) := by
  refine Mt.of (by decide +kernel) (Nat.le_of_ble_eq_true rfl) ?_
  refine BX4_giveEqually_0 ?_
  refine CX4_giveEqually_1 (sp_wanting h) (Nat.zero_le _) (fun v I1 J1 q1 => ?_)
  obtain ⟨rfl, rfl, rfl⟩ := q1
  refine BX4_giveEqually_4 ?_
  have key : ∀ k r : Nat, r + k = 100 → ∀ (I1 : T2) (g1 : Nat → Nat) (L1 : Nat), FrS I I1 → Sh I1 du u g1 L1 → (0 < L1 → ∃ c, ∀ y, y < 8 → g1 y < du y → g1 y = c) → muF du g1 L1 ≤ k → eqF 8 du L1 g1 = eqF 8 du L g → Ev (d + 2) 0 0 (fun _ => 0) mX4_giveEqually 7 [some (.ref 14), some (.int (nI (cwF du g1 8))), some (.int (nI r))] [] I1 J 0 (fun o I' J' _ => ∃ w, o = .inl w ∧ eqP I J du u (eqF 8 du L g) w I' J') := by
    intro k
    induction k with
    | zero =>
      intro r hr I1 g1 L1 hf hs hcc hm he
      refine BX4_giveEqually_7 ?_
      refine IX4_giveEqually_10 (fun c => ?_) (fun c => absurd (show (100 : Int32) ≤ nI r from nI_le (a := 100) (by omega) (by omega)) c)
      refine RX4_giveEqually_68 (Nat.zero_le _) ⟨_, rfl, rfl, rfl, hf, ?_⟩
      rw [← he]
      by_cases c2 : L1 = 0 ∨ cwF du g1 8 = 0
      · cases c2 with
        | inl e => subst e; exact hs
        | inr e => rw [eq_w e]; exact hs
      · unfold muF at hm
        rw [if_neg c2] at hm
        by_cases c3 : L1 < cwF du g1 8
        · rw [if_pos c3] at hm; exact absurd hm (by decide)
        · rw [if_neg c3] at hm; omega
    | succ k ih =>
      intro r hr I1 g1 L1 hf hs hcc hm he
      have hL := hs.2.1
      have hW := cw_le du g1 8
      refine BX4_giveEqually_7 ?_
      refine IX4_giveEqually_10 (fun c => absurd c (show ¬ (100 : Int32) ≤ nI r from nI_ge (b := 100) (by omega) (by decide))) (fun c => ?_)
      refine BX4_giveEqually_13 ?_
      rw [hs.1]
      refine IX4_giveEqually_17 (fun c => ?_) (fun c => ?_)
      · have hz : L1 = 0 := by
          have := (nI_leI (a := L1) (b := 0) hL (by decide)).mp c
          omega
        subst hz
        refine RX4_giveEqually_68 (Nat.zero_le _) ⟨_, rfl, rfl, rfl, hf, ?_⟩
        rw [← he]
        exact hs
      have hL0 : 0 < L1 := Nat.pos_of_ne_zero fun z => c (by rw [z]; decide)
      refine BX4_giveEqually_20 ?_
      refine IX4_giveEqually_21 (fun c => ?_) (fun c => ?_)
      · have hz : cwF du g1 8 = 0 := by
          have := (nI_leI (a := cwF du g1 8) (b := 0) (by omega) (by decide)).mp c
          omega
        refine RX4_giveEqually_68 (Nat.zero_le _) ⟨_, rfl, rfl, rfl, hf, ?_⟩
        rw [← he, eq_w hz]
        exact hs
      have hW0 : 0 < cwF du g1 8 := Nat.pos_of_ne_zero fun z => c (by rw [z]; decide)
      obtain ⟨cc, hcc'⟩ := hcc hL0
      refine BX4_giveEqually_24 ?_
      rw [hs.1]
      refine IX4_giveEqually_29 (fun c => ?_) (fun c => ?_)
      · have hge : cwF du g1 8 ≤ L1 := (nI_leI (by omega) hL).mp c
        refine BX4_giveEqually_40 (nI_ne0 hW0 (by omega)) ?_
        refine CX4_giveEqually_48 (sp_least hs) (Nat.zero_le _) (fun v I2 J2 q1 => ?_)
        obtain ⟨rfl, rfl, m, rfl, m1, m2, m3⟩ := q1
        rw [hs.1, div_nI hL hW0 (by omega)]
        have hd1 : L1 / cwF du g1 8 ≤ L1 := Nat.div_le_self _ _
        refine CX4_giveEqually_51 (sp_min _ _) (Nat.zero_le _) (fun v I2 J2 q1 => ?_)
        obtain ⟨rfl, rfl, rfl⟩ := q1
        rw [min_nI (by omega) (by omega)]
        have n1 := Nat.min_le_left (L1 / cwF du g1 8) m
        have n2 := Nat.min_le_right (L1 / cwF du g1 8) m
        have hv : ∀ y, y < 8 → g1 y < du y → g1 y + min (L1 / cwF du g1 8) m ≤ du y := fun y hy hw => by
          have := m2 y hy hw
          omega
        have hvL : min (L1 / cwF du g1 8) m * cwF du g1 8 ≤ L1 := Nat.le_trans (Nat.mul_le_mul_right _ n1) (Nat.div_mul_le_self _ _)
        refine CX4_giveEqually_54 (sp_layer hs hv (by omega)) (Nat.zero_le _) (fun v I2 J2 q1 => ?_)
        obtain ⟨rfl, rfl, f1, x, x1, x2, x3, x4⟩ := q1
        have xw : cwF du g1 x = cwF du g1 8 := by
          cases x4 with
          | inl e => rw [e]
          | inr e =>
            have m4 : cwF du g1 x ≤ cwF du g1 8 := sF_mono x1
            refine Nat.le_antisymm m4 (Nat.le_of_not_lt fun z => ?_)
            have z2 : min (L1 / cwF du g1 8) m * (cwF du g1 x + 1) ≤ min (L1 / cwF du g1 8) m * cwF du g1 8 := Nat.mul_le_mul_left _ z
            rw [Nat.mul_add, Nat.mul_one] at z2
            omega
        rw [ly_sat x1 xw, xw] at x2
        refine BX4_giveEqually_57 ?_
        refine CX4_giveEqually_58 (sp_wanting x2) (Nat.zero_le _) (fun v I3 J3 q1 => ?_)
        obtain ⟨rfl, rfl, rfl⟩ := q1
        refine BX4_giveEqually_61 ?_
        rw [nI_1]
        have lv := ly_v (n := 8) hcc' hv
        refine ih (r + 1) (by omega) I2 _ _ (hf.tr f1) x2 (fun _ => ⟨cc + min (L1 / cwF du g1 8) m, fun y hy hw => ?_⟩) ?_ ?_
        · have e : lyF du g1 (min (L1 / cwF du g1 8) m) 8 y = if y < 8 ∧ g1 y < du y then g1 y + min (L1 / cwF du g1 8) m else g1 y := rfl
          by_cases c2 : g1 y < du y
          · rw [if_pos ⟨hy, c2⟩] at e
            rw [e, hcc' y hy c2]
          · rw [if_neg (fun z => c2 z.2)] at e
            rw [e] at hw
            exact absurd hw c2
        · have hmu : cwF du g1 8 + 1 ≤ k + 1 := by
            unfold muF at hm
            rw [if_neg (fun z => z.elim (fun z => by omega) (fun z => by omega)), if_neg (by omega)] at hm
            exact hm
          obtain ⟨u1, u2⟩ := mu_le du (lyF du g1 (min (L1 / cwF du g1 8) m) 8) (L1 - min (L1 / cwF du g1 8) m * cwF du g1 8)
          have lw := ly_w (du := du) (g := g1) (v := min (L1 / cwF du g1 8) m)
          by_cases c2 : L1 / cwF du g1 8 ≤ m
          · rw [Nat.min_eq_left c2] at u1 u2 lw ⊢
            have hmod : L1 - L1 / cwF du g1 8 * cwF du g1 8 < cwF du g1 8 := by
              have a := Nat.div_add_mod L1 (cwF du g1 8)
              have b := Nat.mod_lt L1 hW0
              rw [Nat.mul_comm] at a
              omega
            by_cases c3 : cwF du (lyF du g1 (L1 / cwF du g1 8) 8) 8 < cwF du g1 8
            · omega
            · have := u2 (by omega)
              omega
          · rw [Nat.min_eq_right (by omega)] at u1 u2 lw ⊢
            cases m3 with
            | inl e => exact absurd (show L1 / cwF du g1 8 ≤ m by omega) c2
            | inr e =>
              obtain ⟨y, y1, y2, y3⟩ := e
              have := ly_ws y1 y2 y3
              omega
        · rw [← he]
          have : L1 = min (L1 / cwF du g1 8) m * cwF du g1 8 + (L1 - min (L1 / cwF du g1 8) m * cwF du g1 8) := by omega
          rw [this, eq_add (by rw [lv]), lv]
          rw [← this]
      · have hlt : L1 < cwF du g1 8 := Nat.lt_of_not_le fun z => c (nI_le z hL)
        refine BX4_giveEqually_32 ?_
        refine CX4_giveEqually_34 (sp_layer (v := 1) hs (fun y hy hw => hw) (by decide)) (Nat.zero_le _) (fun v I2 J2 q1 => ?_)
        obtain ⟨rfl, rfl, f1, x, x1, x2, x3, x4⟩ := q1
        rw [Nat.one_mul] at x2 x3 x4
        have xl : cwF du g1 x = L1 := by
          cases x4 with
          | inl e => rw [e] at x3; omega
          | inr e => omega
        have l1 := ly_1 (n := 8) hcc' x1
        rw [xl] at l1
        rw [xl, Nat.sub_self] at x2
        refine BX4_giveEqually_37 ?_
        refine BX4_giveEqually_57 ?_
        refine CX4_giveEqually_58 (sp_wanting x2) (Nat.zero_le _) (fun v I3 J3 q1 => ?_)
        obtain ⟨rfl, rfl, rfl⟩ := q1
        refine BX4_giveEqually_61 ?_
        rw [nI_1]
        refine ih (r + 1) (by omega) I2 _ 0 (hf.tr f1) x2 (fun z => absurd z (Nat.lt_irrefl _)) ?_ ?_
        · unfold muF
          rw [if_pos (Or.inl rfl)]
          exact Nat.zero_le _
        · rw [← he, l1]
          rfl
  have hmu := (mu_le du g L).1
  have hW := cw_le du g 8
  exact key 100 0 rfl I g L (FrS.rf I) h (fun _ => hc) (by omega) rfl
theorem sp_equally0 (h : ShG I du u g) (h0 : I 14 4 ≤ 0) : Mt (d + 2) mX4_giveEqually [.ref 14] I J (RV I J) := by
  refine Mt.of (by decide +kernel) (Nat.le_of_ble_eq_true rfl) ?_
  refine BX4_giveEqually_0  ?_
  refine CX4_giveEqually_1 (sp_wantingG h) (Nat.zero_le _) (fun v1 I1 J1 q1 => ?_)
  obtain ⟨rfl, rfl, rfl⟩ := q1
  refine BX4_giveEqually_4  ?_
  refine BX4_giveEqually_7  ?_
  refine IX4_giveEqually_10 (fun c10 => absurd c10 (show ¬ (100 : Int32) ≤ 0 by decide)) (fun c10 => ?_)
  refine BX4_giveEqually_13  ?_
  refine IX4_giveEqually_17 (fun c17 => ?_) (fun c17 => absurd c17 (fun z => z h0))
  exact RX4_giveEqually_68  (Nat.zero_le _) ⟨_, rfl, ⟨rfl, rfl, rfl⟩⟩
end SHR

