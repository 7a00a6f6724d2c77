/-! Sharing by use: the class's -/
theorem lg_le0 (x y : Int64) : lg_cmp x y ≤ 0 ↔ ¬ y < x := by
  rw [← lg_gt0, Int32.not_lt]
def FrR (J J' : T3) : Prop := ∀ o, o ≠ 18 → J' o = J o
theorem FrR.rf (J : T3) : FrR J J := fun _ _ => rfl
theorem FrR.tr {J J1 J2 : T3} (a : FrR J J1) (b : FrR J1 J2) : FrR J J2 := fun o x => by rw [b o x, a o x]
section SHU
variable {d : Nat} {I : T2} {J : T3} {du u g : Nat → Nat} {L : Nat}
theorem Sh.sm (h : Sh I du u g L) : ∀ {k : Nat}, k ≤ 8 → smF u du g k ≤ k * 2147483648
  | 0, _ => Nat.zero_le _
  | k + 1, hk => by
    have ih := h.sm (k := k) (by omega)
    have h1 : u k < 2147483648 := (h.2.2 k (by omega)).2.2.2.2
    have h2 : smF u du g (k + 1) = smF u du g k + (if g k < du k then u k else 0) := rfl
    have h3 : (if g k < du k then u k else 0) ≤ u k := by
      by_cases w : g k < du k
      · rw [if_pos w]; exact Nat.le_refl _
      · rw [if_neg w]; exact Nat.zero_le _
    rw [h2, Nat.succ_mul]
    omega
theorem sp_useOf (h : Sh I du u g L) : Mt (d + 1) mX4_useOfWanting [.ref 14] I J (RJ1 (lN (smF u du g 8)) I J) := by
  refine Mt.of (by decide +kernel) (Nat.le_of_ble_eq_true rfl) ?_
  refine BX4_useOfWanting_0 ?_
  have key : ∀ q k : Nat, k + q = 8 → Ev (d + 1) 0 0 (fun _ => 0) mX4_useOfWanting 4 [some (.ref 14), some (.long (lN (smF u du g k))), none, some (.int (nI k))] [] I J 0 (fun o I' J' _ => ∃ w, o = .inl w ∧ RJ1 (lN (smF u du g 8)) I J w I' J') := by
    intro q
    induction q with
    | zero =>
      intro k hk
      refine BX4_useOfWanting_4 ?_
      refine IX4_useOfWanting_7 (fun c => ?_) (fun c => absurd (show (8 : Int32) ≤ nI k from nI_le (a := 8) (by omega) (by omega)) c)
      refine BX4_useOfWanting_38 ?_
      refine RX4_useOfWanting_39 (Nat.zero_le _) ⟨_, rfl, ?_, rfl, rfl⟩
      rw [show k = 8 by omega]
    | succ q ih =>
      intro k hk
      refine BX4_useOfWanting_4 ?_
      refine IX4_useOfWanting_7 (fun c => absurd c (show ¬ (8 : Int32) ≤ nI k from nI_ge (b := 8) (by omega) (by decide))) (fun c => ?_)
      refine BX4_useOfWanting_10 ?_
      refine CX4_useOfWanting_13 (sp_wants h (by omega)) (Nat.zero_le _) (fun v I1 J1 q1 => ?_)
      obtain ⟨rfl, rfl, rfl⟩ := q1
      obtain ⟨a1, a2, a3, a4, a5⟩ := h.2.2 k (by omega)
      by_cases w : g k < du k
      · rw [if_pos w]
        refine IX4_useOfWanting_16 (fun c => absurd c (by decide)) (fun c => ?_)
        refine BX4_useOfWanting_19 (vp_in_nI (by omega) (by decide)) ?_
        refine BX4_useOfWanting_30 ?_
        rw [nI_clamp (by omega), a4, nI_l a5, lN_add, nI_1, show smF u du g k + u k = smF u du g (k + 1) by
          show _ = smF u du g k + (if g k < du k then u k else 0)
          rw [if_pos w]]
        exact ih (k + 1) (by omega)
      · rw [if_neg w]
        refine IX4_useOfWanting_16 (fun c => ?_) (fun c => absurd rfl c)
        refine BX4_useOfWanting_29 ?_
        refine BX4_useOfWanting_30 ?_
        rw [show lN (smF u du g k) + 0 = lN (smF u du g (k + 1)) by
          show lN (smF u du g k) + lN 0 = lN (smF u du g k + (if g k < du k then u k else 0))
          rw [if_neg w, lN_add], nI_1]
        exact ih (k + 1) (by omega)
  exact key 8 0 rfl
def pXF (u du g : Nat → Nat) (L s x : Nat) : Nat → Nat := fun y => if y < x then paF u du g L s y else g y
theorem pX_0 {s : Nat} : pXF u du g L s 0 = g := by funext y; exact if_neg (Nat.not_lt_zero _)
theorem pX_x {s x : Nat} : pXF u du g L s x x = g x := if_neg (Nat.lt_irrefl _)
theorem pX_s {s x : Nat} : pXF u du g L s (x + 1) = upN (pXF u du g L s x) x (g x + tkF u du g L s x) := by
  funext y
  show (if y < x + 1 then paF u du g L s y else g y) = (if y = x then g x + tkF u du g L s x else if y < x then paF u du g L s y else g y)
  by_cases c : y = x
  · subst c
    rw [if_pos (Nat.lt_succ_self _), if_pos rfl]
    rfl
  · rw [if_neg c]
    by_cases c2 : y < x
    · rw [if_pos c2, if_pos (by omega)]
    · rw [if_neg c2, if_neg (by omega)]
def ptP (I : T2) (J : T3) (du u g : Nat → Nat) (L s : Nat) (r : Nat → Nat) : Option Value → T2 → T3 → Prop := fun w I' J' => w = none ∧ FrR J J' ∧ FrS I I' ∧ Sh I' du u (paF u du g L s) (L - sF (tkF u du g L s) 8) ∧ ∀ x, x < 8 → g x < du x → J' 18 x = lN (r x)
set_option maxHeartbeats 1000000 in
theorem sp_parts (h : Sh I du u g L) (hs : 0 < smF u du g 8) : Mt (d + 1) mX4_giveParts [.ref 14, .long (lN (smF u du g 8))] I J (ptP I J du u g L (smF u du g 8) (fun y => L * u y % smF u du g 8)) := by
  have hsm := h.sm (k := 8) (Nat.le_refl _)
  have hL := h.2.1
  refine Mt.of (by decide +kernel) (Nat.le_of_ble_eq_true rfl) ?_
  refine BX4_giveParts_0 ?_
  rw [h.1, nI_l h.2.1]
  generalize hS : smF u du g 8 = S at *
  have tl : sF (tkF u du g L S) 8 ≤ L := by rw [← hS]; exact tk_le (by rw [hS]; exact hs)
  have key : ∀ q x : Nat, x + q = 8 → ∀ (I1 : T2) (J1 : T3), FrS I I1 → FrR J J1 → Sh I1 du u (pXF u du g L S x) (L - sF (tkF u du g L S) x) → (∀ y, y < x → g y < du y → J1 18 y = lN (L * u y % S)) → Ev (d + 1) 0 0 (fun _ => 0) mX4_giveParts 9 [some (.ref 14), some (.long (lN S)), none, some (.long (lN L)), none, some (.int (nI x)), none, none] [] I1 J1 0 (fun o I' J' _ => ∃ w, o = .inl w ∧ ptP I J du u g L S (fun y => L * u y % S) w I' J') := by
    intro q
    induction q with
    | zero =>
      intro x hx I1 J1 f1 f2 hs1 hr
      have hx8 : x = 8 := by omega
      subst hx8
      refine BX4_giveParts_9 ?_
      refine IX4_giveParts_13 (fun c => ?_) (fun c => absurd (show (8 : Int32) ≤ nI 8 from by decide) c)
      refine RX4_giveParts_84 (Nat.zero_le _) ⟨_, rfl, rfl, f2, f1, ?_, hr⟩
      refine ⟨hs1.1, hs1.2.1, fun y hy => ?_⟩
      have := hs1.2.2 y hy
      have e : pXF u du g L S 8 y = paF u du g L S y := if_pos hy
      rw [e] at this
      exact this
    | succ q ih =>
      intro x hx I1 J1 f1 f2 hs1 hr
      refine BX4_giveParts_9 ?_
      refine IX4_giveParts_13 (fun c => absurd c (show ¬ (8 : Int32) ≤ nI x from nI_ge (b := 8) (by omega) (by decide))) (fun c => ?_)
      refine BX4_giveParts_16 ?_
      refine CX4_giveParts_19 (sp_wants hs1 (by omega)) (Nat.zero_le _) (fun v I2 J2 q1 => ?_)
      obtain ⟨rfl, rfl, rfl⟩ := q1
      rw [pX_x]
      obtain ⟨a1, a2, a3, a4, a5⟩ := hs1.2.2 x (by omega)
      rw [pX_x] at a1 a2
      by_cases w : g x < du x
      · rw [if_pos w]
        refine IX4_giveParts_22 (fun c => absurd c (by decide)) (fun c => ?_)
        have hdu := hs1.dl (x := x) (by omega)
        have hLu : L * u x < 2 ^ 63 := Nat.lt_of_le_of_lt (Nat.mul_le_mul (Nat.le_of_lt hL) (Nat.le_of_lt a5)) (by decide)
        refine BX4_giveParts_25 (vp_in_nI (by omega) (by decide)) (fun z => ?_) ?_
        · have := (pk_lEQ (a := S) (b := 0) (by omega) (by decide)).mp z
          omega
        have hdiv : L * u x / S ≤ L * u x := Nat.div_le_self _ _
        rw [nI_clamp (by omega), a4, nI_l a5, lN_mul, pk_lRem hLu hs (by omega), pk_lDiv hLu hs (by omega), hs1.wq (by omega) (by rw [pX_x]; exact w), a1, pk_sub (by omega), nI_l (by omega)]
        refine CX4_giveParts_71 (sp_minL _ _) (Nat.zero_le _) (fun v I2 J2 q1 => ?_)
        obtain ⟨rfl, rfl, rfl⟩ := q1
        have em : (if lN (du x - g x) < lN (L * u x / S) then lN (du x - g x) else lN (L * u x / S)) = lN (tkF u du g L S x) := by
          show _ = lN (if g x < du x then min (L * u x / S) (du x - g x) else 0)
          rw [if_pos w]
          by_cases c2 : du x - g x < L * u x / S
          · rw [if_pos ((pk_lLT (by omega) (by omega)).mpr c2), Nat.min_eq_right (by omega)]
          · rw [if_neg (fun z => c2 ((pk_lLT (by omega) (by omega)).mp z)), Nat.min_eq_left (by omega)]
        rw [em]
        refine BX4_giveParts_74 ?_
        rw [lN_i]
        have m1 : sF (tkF u du g L S) (x + 1) ≤ sF (tkF u du g L S) 8 := sF_mono (by omega)
        have m2 : sF (tkF u du g L S) (x + 1) = sF (tkF u du g L S) x + tkF u du g L S x := rfl
        have m3 : g x + tkF u du g L S x ≤ du x := pa_le (u := u) (L := L) (s := S) a2
        refine CX4_giveParts_75 (sp_give hs1 (x := x) (v := tkF u du g L S x) (by omega) (by rw [pX_x]; exact m3) (by omega)) (Nat.zero_le _) (fun v I2 J2 q1 => ?_)
        obtain ⟨rfl, rfl, g1, g2⟩ := q1
        refine Ev.weak (ls' := [some (.ref 14), some (.long (lN S)), none, some (.long (lN L)), none, some (.int (nI x)), none, none]) ⟨Or.inr rfl, Or.inr rfl, Or.inr rfl, Or.inr rfl, Or.inr rfl, Or.inr rfl, Or.inl rfl, Or.inr rfl, trivial⟩ ?_
        refine BX4_giveParts_78 ?_
        rw [nI_1]
        refine ih (x + 1) (by omega) I2 _ (f1.tr g1) (fun o o1 => ?_) ?_ (fun y hy hw => ?_)
        · funext j
          rw [up3_v, if_neg (fun z => o1 z.1), f2 o o1]
        · rw [pX_s, m2, ← Nat.sub_sub]
          rw [pX_x] at g2
          exact g2
        · rw [up3_v]
          by_cases c2 : y = x
          · rw [if_pos ⟨rfl, c2⟩, c2]
          · rw [if_neg (fun z => c2 z.2)]
            exact hr y (by omega) hw
      · rw [if_neg w]
        refine IX4_giveParts_22 (fun c => ?_) (fun c => absurd rfl c)
        refine BX4_giveParts_78 ?_
        rw [nI_1]
        have t0 : tkF u du g L S x = 0 := if_neg w
        refine ih (x + 1) (by omega) I1 J1 f1 f2 ?_ (fun y hy hw => ?_)
        · have e : pXF u du g L S (x + 1) = pXF u du g L S x := by
            rw [pX_s, t0]
            funext y
            by_cases c2 : y = x
            · rw [c2, upN_s, pX_x]; rfl
            · rw [upN_o _ _ c2]
          have e2 : sF (tkF u du g L S) (x + 1) = sF (tkF u du g L S) x := by
            show sF (tkF u du g L S) x + tkF u du g L S x = _
            rw [t0]; rfl
          rw [e, e2]
          exact hs1
        · by_cases c2 : y = x
          · rw [c2] at hw; exact absurd hw w
          · exact hr y (by omega) hw
  refine key 8 0 rfl I J (FrS.rf I) (FrR.rf J) ?_ (fun y hy => absurd hy (Nat.not_lt_zero _))
  rw [pX_0]
  exact h
def rE (o : Option Nat) : Int32 := match o with
  | none => -1
  | some b => nI b
def rV (r : Nat → Nat) (o : Option Nat) : Int64 := match o with
  | none => -1
  | some b => lN (r b)
def RmO (J : T3) (du g : Nat → Nat) (sv : Nat → Bool) (r : Nat → Nat) : Prop := ∀ x, x < 8 → (sv x = false → g x < du x ∧ J 18 x = lN (r x) ∧ r x < 2 ^ 40) ∧ (sv x = true → ¬ g x < du x ∨ J 18 x = -1)
theorem m1_lt {a : Nat} (h : a < 2 ^ 63) : (-1 : Int64) < lN a := by
  rw [Int64.lt_iff_toInt_lt, pk_lT h, show ((-1 : Int64)).toInt = -1 by decide]
  omega
theorem sp_great {sv : Nat → Bool} {r : Nat → Nat} (h : Sh I du u g L) (hr : RmO J du g sv r) : Mt (d + 1) mX4_greatestRemainder [.ref 14] I J (RI (rE (rbF sv r 8)) I J) := by
  refine Mt.of (by decide +kernel) (Nat.le_of_ble_eq_true rfl) ?_
  refine BX4_greatestRemainder_0 ?_
  have key : ∀ q k : Nat, k + q = 8 → Ev (d + 1) 0 0 (fun _ => 0) mX4_greatestRemainder 9 [some (.ref 14), some (.int (rE (rbF sv r k))), some (.long (rV r (rbF sv r k))), none, some (.int (nI k))] [] I J 0 (fun o I' J' _ => ∃ w, o = .inl w ∧ RI (rE (rbF sv r 8)) I J w I' J') := by
    intro q
    induction q with
    | zero =>
      intro k hk
      have hk8 : k = 8 := by omega
      subst hk8
      refine BX4_greatestRemainder_9 ?_
      refine IX4_greatestRemainder_13 (fun c => ?_) (fun c => absurd (show (8 : Int32) ≤ nI 8 from by decide) c)
      refine BX4_greatestRemainder_54 ?_
      exact RX4_greatestRemainder_55 (Nat.zero_le _) ⟨_, rfl, rfl, rfl, rfl⟩
    | succ q ih =>
      intro k hk
      refine BX4_greatestRemainder_9 ?_
      refine IX4_greatestRemainder_13 (fun c => absurd c (show ¬ (8 : Int32) ≤ nI k from nI_ge (b := 8) (by omega) (by decide))) (fun c => ?_)
      refine BX4_greatestRemainder_16 ?_
      refine CX4_greatestRemainder_19 (sp_wants h (by omega)) (Nat.zero_le _) (fun v I1 J1 q1 => ?_)
      obtain ⟨rfl, rfl, rfl⟩ := q1
      obtain ⟨r1, r2⟩ := hr k (by omega)
      have skp : rbF sv r (k + 1) = rbF sv r k → Ev (d + 1) 0 0 (fun _ => 0) mX4_greatestRemainder 48 [some (.ref 14), some (.int (rE (rbF sv r k))), some (.long (rV r (rbF sv r k))), none, some (.int (nI k))] [] I J 0 (fun o I' J' _ => ∃ w, o = .inl w ∧ RI (rE (rbF sv r 8)) I J w I' J') := fun e => by
        refine BX4_greatestRemainder_48 ?_
        rw [nI_1, ← e]
        exact ih (k + 1) (by omega)
      have tru : sv k = true → rbF sv r (k + 1) = rbF sv r k := fun z => rb_ext (n := k) (N := k + 1) (by omega) (fun y a b => by rw [show y = k by omega]; exact z)
      by_cases w : g k < du k
      · rw [if_pos w]
        refine IX4_greatestRemainder_22 (fun c => absurd c (by decide)) (fun c => ?_)
        refine BX4_greatestRemainder_25 (vp_in_nI (by omega) (by decide)) ?_
        rw [nI_clamp (by omega)]
        refine IX4_greatestRemainder_34 (fun c => ?_) (fun c => ?_)
        · have c' := (lg_le0 _ _).mp c
          refine skp ?_
          cases hsv : sv k with
          | true => exact tru hsv
          | false =>
            obtain ⟨b1, b2, b3⟩ := r1 hsv
            rw [b2] at c'
            cases e : rbF sv r k with
            | none =>
              rw [e] at c'
              exact absurd (m1_lt (by omega)) c'
            | some b =>
              rw [e] at c'
              obtain ⟨y1, y2⟩ := rb_some e
              have b4 := ((hr b (by omega)).1 y2).2.2
              have c2 : ¬ lN (r b) < lN (r k) := c'
              rw [pk_lLT (by omega) (by omega)] at c2
              rw [rb_s1 e, if_neg (fun z => c2 z.2)]
        · have c' : rV r (rbF sv r k) < J 18 k := by
            have := mt (lg_le0 _ _).mpr c
            exact Classical.not_not.mp this
          have sf : sv k = false := by
            cases hsv : sv k with
            | false => rfl
            | true =>
              cases r2 hsv with
              | inl z => exact absurd w z
              | inr z =>
                rw [z] at c'
                cases e : rbF sv r k with
                | none => rw [e] at c'; exact absurd c' (show ¬ (-1 : Int64) < -1 by decide)
                | some b =>
                  rw [e] at c'
                  obtain ⟨y1, y2⟩ := rb_some e
                  have b4 := ((hr b (by omega)).1 y2).2.2
                  have c2 : lN (r b) < (-1 : Int64) := c'
                  have c3 := m1_lt (a := r b) (by omega)
                  rw [Int64.lt_iff_toInt_lt] at c2 c3
                  omega
          obtain ⟨b1, b2, b3⟩ := r1 sf
          have e3 : rbF sv r (k + 1) = some k := by
            cases e : rbF sv r k with
            | none => rw [rb_s0 e, if_pos sf]
            | some b =>
              rw [e, b2] at c'
              obtain ⟨y1, y2⟩ := rb_some e
              have b4 := ((hr b (by omega)).1 y2).2.2
              have c2 : lN (r b) < lN (r k) := c'
              rw [pk_lLT (by omega) (by omega)] at c2
              rw [rb_s1 e, if_pos ⟨sf, c2⟩]
          refine BX4_greatestRemainder_37 (vp_in_nI (by omega) (by decide)) ?_
          refine BX4_greatestRemainder_48 ?_
          rw [nI_clamp (by omega), b2, nI_1]
          have := ih (k + 1) (by omega)
          rw [e3] at this
          exact this
      · rw [if_neg w]
        refine IX4_greatestRemainder_22 (fun c => ?_) (fun c => absurd rfl c)
        refine skp (tru ?_)
        cases hsv : sv k with
        | true => rfl
        | false => exact absurd (r1 hsv).1 w
  exact key 8 0 rfl
def rsP (I : T2) (J : T3) (du u : Nat → Nat) (q : (Nat → Nat) × Nat) : Option Value → T2 → T3 → Prop := fun w I' J' => w = none ∧ FrR J J' ∧ FrS I I' ∧ Sh I' du u q.1 q.2
theorem rE_ne {b : Nat} (h : b < 8) : ¬ nI b = -1 := by
  rw [← Int32.toInt_inj, nI_toInt (by omega), show ((-1 : Int32)).toInt = -1 by decide]
  omega
theorem cu_le (sv : Nat → Bool) (n : Nat) : cuF sv n ≤ n := by
  induction n with
  | zero => exact Nat.le_refl _
  | succ n ih =>
    show cuF sv n + (if sv n = false then 1 else 0) ≤ _
    by_cases c : sv n = false
    · rw [if_pos c]; omega
    · rw [if_neg c]; omega
theorem cu_0 {sv : Nat → Bool} {n : Nat} (h : cuF sv n = 0) : ∀ y, y < n → sv y = true := fun y hy => by
  have := sF_pos (a := fun y => if sv y = false then 1 else 0) hy
  have h' : sF (fun y => if sv y = false then 1 else 0) n = 0 := h
  rw [h'] at this
  have t2 : (if sv y = false then 1 else 0) ≤ 0 := this
  by_cases c : sv y = false
  · rw [if_pos c] at t2; exact absurd t2 (by decide)
  · exact eq_true_of_ne_false c
set_option maxHeartbeats 1000000 in
theorem sp_remain {sv : Nat → Bool} {r : Nat → Nat} (h : Sh I du u g L) (hr : RmO J du g sv r) : Mt (d + 2) mX4_giveRemainders [.ref 14] I J (rsP I J du u (rmF 8 r L g sv)) := by
  refine Mt.of (by decide +kernel) (Nat.le_of_ble_eq_true rfl) ?_
  refine BX4_giveRemainders_0 ?_
  have key : ∀ q t : Nat, t + q = 8 → ∀ (I1 : T2) (J1 : T3) (g1 : Nat → Nat) (L1 : Nat) (sv1 : Nat → Bool), FrS I I1 → FrR J J1 → Sh I1 du u g1 L1 → RmO J1 du g1 sv1 r → cuF sv1 8 ≤ q → rmF 8 r L1 g1 sv1 = rmF 8 r L g sv → Ev (d + 2) 0 0 (fun _ => 0) mX4_giveRemainders 2 [some (.ref 14), some (.int (nI t)), none] [] I1 J1 0 (fun o I' J' _ => ∃ w, o = .inl w ∧ rsP I J du u (rmF 8 r L g sv) w I' J') := by
    intro q
    induction q with
    | zero =>
      intro t ht I1 J1 g1 L1 sv1 f1 f2 hs1 hr1 hcu he
      refine BX4_giveRemainders_2 ?_
      refine IX4_giveRemainders_5 (fun c => ?_) (fun c => absurd (show (8 : Int32) ≤ nI t from nI_le (a := 8) (by omega) (by omega)) c)
      refine RX4_giveRemainders_47 (Nat.zero_le _) ⟨_, rfl, rfl, f2, f1, ?_⟩
      rw [← he, rm_n (rb_all (cu_0 (by omega)))]
      exact hs1
    | succ q ih =>
      intro t ht I1 J1 g1 L1 sv1 f1 f2 hs1 hr1 hcu he
      have hL := hs1.2.1
      refine BX4_giveRemainders_2 ?_
      refine IX4_giveRemainders_5 (fun c => absurd c (show ¬ (8 : Int32) ≤ nI t from nI_ge (b := 8) (by omega) (by decide))) (fun c => ?_)
      refine BX4_giveRemainders_8 ?_
      rw [hs1.1]
      refine IX4_giveRemainders_12 (fun c => ?_) (fun c => ?_)
      · have hz : L1 = 0 := by
          have := (nI_leI (a := L1) (b := 0) hL (by decide)).mp c
          omega
        subst hz
        refine RX4_giveRemainders_47 (Nat.zero_le _) ⟨_, rfl, rfl, f2, f1, ?_⟩
        rw [← he]
        exact hs1
      · have hL0 : 0 < L1 := Nat.pos_of_ne_zero fun z => c (by rw [z]; decide)
        refine BX4_giveRemainders_15 ?_
        refine CX4_giveRemainders_16 (sp_great hs1 hr1) (Nat.zero_le _) (fun v I2 J2 q1 => ?_)
        obtain ⟨rfl, rfl, rfl⟩ := q1
        refine BX4_giveRemainders_19 ?_
        cases e : rbF sv1 r 8 with
        | none =>
          refine IX4_giveRemainders_22 (fun c => absurd rfl c) (fun c => ?_)
          refine RX4_giveRemainders_25 (Nat.zero_le _) ⟨_, rfl, rfl, f2, f1, ?_⟩
          rw [← he, rm_n e]
          exact hs1
        | some b =>
          obtain ⟨b1, b2⟩ := rb_some e
          obtain ⟨b3, b4, b5⟩ := (hr1 b b1).1 b2
          refine IX4_giveRemainders_22 (fun c => ?_) (fun c => absurd (rE_ne b1) c)
          refine BX4_giveRemainders_26 ?_
          refine CX4_giveRemainders_29 (sp_give hs1 (x := b) (v := 1) b1 b3 hL0) (Nat.zero_le _) (fun v I2 J2 q1 => ?_)
          obtain ⟨rfl, rfl, g1', g2'⟩ := q1
          refine BX4_giveRemainders_32 (vp_in_nI b1 (by decide)) ?_
          rw [show (rE (some b)).toNatClampNeg = b from nI_clamp (by omega), nI_1]
          refine Ev.weak (ls' := [some (.ref 14), some (.int (nI (t + 1))), none]) ⟨Or.inr rfl, Or.inr rfl, Or.inl rfl, trivial⟩ ?_
          have hcx := cu_x b1 b2
          refine ih (t + 1) (by omega) I2 _ _ _ (upB sv1 b) (f1.tr g1') (fun o o1 => ?_) g2' (fun x hx => ⟨fun z => ?_, fun z => ?_⟩) (by omega) ?_
          · funext j
            rw [up3_v, if_neg (fun z => o1 z.1), f2 o o1]
          · by_cases c2 : x = b
            · rw [c2, upB_s] at z; exact absurd z (by decide)
            · rw [upB_o _ c2] at z
              rw [upN_o _ _ c2, up3_v, if_neg (fun y => c2 y.2)]
              exact (hr1 x hx).1 z
          · by_cases c2 : x = b
            · rw [up3_v, if_pos ⟨rfl, c2⟩]; exact Or.inr rfl
            · rw [upB_o _ c2] at z
              rw [upN_o _ _ c2, up3_v, if_neg (fun y => c2 y.2)]
              exact (hr1 x hx).2 z
          · rw [← he]
            obtain ⟨L2, rfl⟩ : ∃ L2, L1 = L2 + 1 := ⟨L1 - 1, by omega⟩
            rw [rm_x e]
            rfl
  exact key 8 0 rfl I J g L sv (FrS.rf I) (FrR.rf J) h hr (cu_le sv 8) rfl
set_option maxHeartbeats 1000000 in
theorem sp_byUse (h : Sh I du u g L) (hc : ∃ c, ∀ y, y < 8 → g y < du y → u y = 0 → g y = c) : Mt (d + 3) mX4_giveByUse [.ref 14] I J (rsP I J du u (byF 8 u du 100 g L)) := by
  refine Mt.of (by decide +kernel) (Nat.le_of_ble_eq_true rfl) ?_
  refine BX4_giveByUse_0 ?_
  have key : ∀ k r : Nat, r + k = 100 → ∀ (I1 : T2) (J1 : T3) (g1 : Nat → Nat) (L1 : Nat), FrS I I1 → FrR J J1 → Sh I1 du u g1 L1 → (0 < L1 → ∃ c, ∀ y, y < 8 → g1 y < du y → u y = 0 → g1 y = c) → byF 8 u du k g1 L1 = byF 8 u du 100 g L → Ev (d + 3) 0 0 (fun _ => 0) mX4_giveByUse 2 [some (.ref 14), some (.int (nI r)), none, none] [] I1 J1 0 (fun o I' J' _ => ∃ w, o = .inl w ∧ rsP I J du u (byF 8 u du 100 g L) w I' J') := by
    intro k
    induction k with
    | zero =>
      intro r hr I1 J1 g1 L1 f1 f2 hs1 hcc he
      refine BX4_giveByUse_2 ?_
      refine IX4_giveByUse_5 (fun c => ?_) (fun c => absurd (show (100 : Int32) ≤ nI r from nI_le (a := 100) (by omega) (by omega)) c)
      refine RX4_giveByUse_53 (Nat.zero_le _) ⟨_, rfl, rfl, f2, f1, ?_⟩
      rw [← he]
      exact hs1
    | succ k ih =>
      intro r hr I1 J1 g1 L1 f1 f2 hs1 hcc he
      have hL := hs1.2.1
      have hW := cw_le du g1 8
      rw [by_s] at he
      refine BX4_giveByUse_2 ?_
      refine IX4_giveByUse_5 (fun c => absurd c (show ¬ (100 : Int32) ≤ nI r from nI_ge (b := 100) (by omega) (by decide))) (fun c => ?_)
      refine BX4_giveByUse_8 ?_
      rw [hs1.1]
      refine IX4_giveByUse_12 (fun c => ?_) (fun c => ?_)
      · have hz : L1 = 0 := by
          have := (nI_leI (a := L1) (b := 0) hL (by decide)).mp c
          omega
        rw [if_pos (Or.inl hz)] at he
        refine RX4_giveByUse_53 (Nat.zero_le _) ⟨_, rfl, rfl, f2, f1, ?_⟩
        rw [← he]
        exact hs1
      have hL0 : 0 < L1 := Nat.pos_of_ne_zero fun z => c (by rw [z]; decide)
      refine BX4_giveByUse_15 ?_
      refine CX4_giveByUse_16 (sp_wanting hs1) (Nat.zero_le _) (fun v I2 J2 q1 => ?_)
      obtain ⟨rfl, rfl, rfl⟩ := q1
      refine IX4_giveByUse_19 (fun c => ?_) (fun c => ?_)
      · have hz : cwF du g1 8 = 0 := by
          have := (nI_leI (a := cwF du g1 8) (b := 0) (by omega) (by decide)).mp c
          omega
        rw [if_pos (Or.inr hz)] at he
        refine RX4_giveByUse_53 (Nat.zero_le _) ⟨_, rfl, rfl, f2, f1, ?_⟩
        rw [← he]
        exact hs1
      have hW0 : 0 < cwF du g1 8 := Nat.pos_of_ne_zero fun z => c (by rw [z]; decide)
      rw [if_neg (fun z => z.elim (fun z => by omega) (fun z => by omega))] at he
      refine BX4_giveByUse_22 ?_
      refine CX4_giveByUse_23 (sp_useOf hs1) (Nat.zero_le _) (fun v I2 J2 q1 => ?_)
      obtain ⟨rfl, rfl, rfl⟩ := q1
      have hsm := hs1.sm (k := 8) (Nat.le_refl _)
      obtain ⟨cc, hcc'⟩ := hcc hL0
      refine BX4_giveByUse_26 ?_
      refine IX4_giveByUse_30 (fun c => ?_) (fun c => ?_)
      · have hs0 : 0 < smF u du g1 8 := (pk_lLT (a := 0) (by decide) (by omega)).mp ((lg_gt0 _ _).mp c)
        rw [if_neg (by omega)] at he
        refine BX4_giveByUse_38 ?_
        refine CX4_giveByUse_40 (sp_parts hs1 hs0) (Nat.zero_le _) (fun v I2 J2 q1 => ?_)
        obtain ⟨rfl, e1, e2, e3, e4⟩ := q1
        refine BX4_giveByUse_43 ?_
        refine CX4_giveByUse_44 (sp_remain (r := fun y => L1 * u y % smF u du g1 8) (sv := fun y => !decide (paF u du g1 L1 (smF u du g1 8) y < du y)) e3 (fun x hx => ⟨fun z => ⟨sv_f.mp z, e4 x hx ?_, ?_⟩, fun z => Or.inl (fun y => ?_)⟩)) (Nat.zero_le _) (fun v I3 J3 q1 => ?_)
        · have := sv_f.mp z
          have e0 : g1 x ≤ paF u du g1 L1 (smF u du g1 8) x := Nat.le_add_right _ _
          omega
        · have := Nat.mod_lt (L1 * u x) hs0
          show L1 * u x % smF u du g1 8 < 2 ^ 40
          omega
        · have z2 : (!decide (paF u du g1 L1 (smF u du g1 8) x < du x)) = true := z
          rw [sv_f.mpr y] at z2
          exact absurd z2 (by decide)
        obtain ⟨rfl, e5, e6, e7⟩ := q1
        refine BX4_giveByUse_47 ?_
        rw [nI_1]
        refine Ev.weak (ls' := [some (.ref 14), some (.int (nI (r + 1))), none, none]) ⟨Or.inr rfl, Or.inr rfl, Or.inl rfl, Or.inr rfl, trivial⟩ ?_
        refine ih (r + 1) (by omega) I3 J3 (rdF 8 u du g1 L1).1 (rdF 8 u du g1 L1).2 ((f1.tr e2).tr e6) ((f2.tr e1).tr e5) e7 (fun z => ⟨cc + 1, ?_⟩) he
        exact rd_eq z hcc'
      · have hs0 : smF u du g1 8 = 0 := by
          refine Nat.le_antisymm (Nat.le_of_not_lt fun z => c ((lg_gt0 _ _).mpr ((pk_lLT (a := 0) (by decide) (by omega)).mpr z))) (Nat.zero_le _)
        rw [if_pos hs0] at he
        refine BX4_giveByUse_33 ?_
        refine CX4_giveByUse_34 (sp_equally hs1 ⟨cc, fun y hy hw => hcc' y hy hw (sm_0 hs0 y hy hw)⟩) (Nat.zero_le _) (fun v I2 J2 q1 => ?_)
        obtain ⟨rfl, rfl, e1, e2⟩ := q1
        refine RX4_giveByUse_37 (Nat.zero_le _) ⟨_, rfl, rfl, f2, f1.tr e1, ?_⟩
        rw [← he]
        exact e2
  exact key 100 0 rfl I J g L (FrS.rf I) (FrR.rf J) h (fun _ => hc) rfl
theorem sp_byUse0 (h0 : I 14 4 ≤ 0) : Mt (d + 3) mX4_giveByUse [.ref 14] I J (RV I J) := by
  refine Mt.of (by decide +kernel) (Nat.le_of_ble_eq_true rfl) ?_
  refine BX4_giveByUse_0  ?_
  refine BX4_giveByUse_2  ?_
  refine IX4_giveByUse_5 (fun c5 => absurd c5 (show ¬ (100 : Int32) ≤ 0 by decide)) (fun c5 => ?_)
  refine BX4_giveByUse_8  ?_
  refine IX4_giveByUse_12 (fun c12 => ?_) (fun c12 => absurd c12 (fun z => z h0))
  exact RX4_giveByUse_53  (Nat.zero_le _) ⟨_, rfl, ⟨rfl, rfl, rfl⟩⟩
theorem sp_shBegin (n : Int32) : Mt (d + 1) mX4_begin [.ref 14, .int n] I J (RV (upr (upr (upr (up2 I 14 4 n) 15 (flr (I 15) 8 0)) 16 (flr (I 16) 8 0)) 17 (flr (I 17) 8 0)) J) := by
  refine Mt.of (by decide +kernel) (Nat.le_of_ble_eq_true rfl) ?_
  refine BX4_begin_0 ?_
  refine CX4_begin_10 (sp_fill (by decide) 0) (Nat.zero_le _) (fun v I1 J1 q1 => ?_)
  obtain ⟨rfl, rfl, rfl⟩ := q1
  refine BX4_begin_13 ?_
  refine CX4_begin_18 (sp_fill (by decide) 0) (Nat.zero_le _) (fun v I1 J1 q1 => ?_)
  obtain ⟨rfl, rfl, rfl⟩ := q1
  refine BX4_begin_21 ?_
  refine CX4_begin_26 (sp_fill (by decide) 0) (Nat.zero_le _) (fun v I1 J1 q1 => ?_)
  obtain ⟨rfl, rfl, rfl⟩ := q1
  refine RX4_begin_29 (Nat.zero_le _) ⟨_, rfl, rfl, ?_, rfl⟩
  rw [upr_ne _ _ (show 17 ≠ 16 by decide), upr_ne _ _ (show 17 ≠ 15 by decide), upr_ne _ _ (show 16 ≠ 15 by decide), up2_ne _ _ _ (show 17 ≠ 14 by decide), up2_ne _ _ _ (show 16 ≠ 14 by decide), up2_ne _ _ _ (show 15 ≠ 14 by decide)]
  rfl
theorem sp_enter {x : Nat} (hx : x < 8) (a b : Int32) : Mt d mX4_enter [.ref 14, .int (nI x), .int a, .int b] I J (RV (up2 (up2 I 15 x a) 16 x b) J) := by
  refine Mt.of (by decide +kernel) (Nat.le_of_ble_eq_true rfl) ?_
  refine BX4_enter_0 (vp_in_nI hx (by decide)) ?_
  rw [nI_clamp (by omega)]
  exact RX4_enter_14 (Nat.zero_le _) ⟨_, rfl, rfl, rfl, rfl⟩
end SHU

