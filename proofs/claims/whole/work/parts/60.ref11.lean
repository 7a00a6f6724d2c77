/-! the reference: sharing by use -/
section RF11
variable {d : Nat} {I : T2} {J : T3}
def Ru (I : T2) (G k : Nat) (u : Nat → Nat) : Prop := ∀ x, x < G → I 139 (3 * x + k) = nI (u x) ∧ u x < 2 ^ 31
theorem Rq.sm {G : Nat} {du g u : Nat → Nat} (hu : ∀ x, x < G → u x < 2 ^ 31) : ∀ {k : Nat}, k ≤ G → smF u du g k ≤ k * 2147483648
  | 0, _ => Nat.zero_le _
  | k + 1, hk => by
    have ih := Rq.sm (du := du) (g := g) hu (k := k) (by omega)
    have h1 : u k < 2147483648 := hu k (by omega)
    have h2 : smF u du g (k + 1) = smF u du g k + (if g k < du k then u k else 0) := rfl
    have h3 : (if g k < du k then u k else 0) ≤ u k := by
      by_cases w : g k < du k
      · rw [if_pos w]; exact Nat.le_refl _
      · rw [if_neg w]; exact Nat.zero_le _
    rw [h2, Nat.succ_mul]
    omega
def usM (I : T2) (J : T3) (G : Nat) (du : Nat → Nat) (q : (Nat → Nat) × Nat) : Option Value → T2 → T3 → Prop := fun w I' J' => w = some (.int (nI q.2)) ∧ (∀ o, o ≠ 156 → J' o = J o) ∧ (∀ o, o ≠ 155 → o ≠ 157 → I' o = I o) ∧ Rq I' G du q.1
def bI (b : Bool) : Int32 := if b then 1 else 0
theorem bI_01 (b : Bool) : bI b = 0 ∨ bI b = 1 := by
  cases b
  · exact Or.inl rfl
  · exact Or.inr rfl
def FrM (I I' : T2) : Prop := ∀ o, o ≠ 155 → o ≠ 157 → I' o = I o
/-- the remainders given -/
theorem sm_remain {G S k : Nat} {du u : Nat → Nat} {Q : (Nat → Nat) × Nat} (h8 : G ≤ 8) (x1 : Int32) (hr : ∀ y, u y < 2 ^ 60) : ∀ (R : Nat), R < 2 ^ 31 → ∀ (g1 : Nat → Nat) (sv : Nat → Bool) (I1 : T2) (J1 : T3), FrM I I1 → (∀ o, o ≠ 156 → J1 o = J o) → Rq I1 G du g1 → (∀ y, y < G → I1 157 y = bI (sv y) ∧ (sv y = false → g1 y < du y ∧ J1 156 y = lN (u y))) → rmF G u R g1 sv = Q → Ev (d + 1) 0 0 (fun _ => 0) mX7_byUse 252 [some (.ref 136), some (.int x1), some (.int (nI k)), some (.long (lN S)), none, some (.int (nI R)), some (.int (oneI R)), none, none, none] [] I1 J1 0 (fun o I' J' _ => ∃ w, o = .inl w ∧ usM I J G du Q w I' J') := by
  have fin : ∀ (R : Nat) (g1 : Nat → Nat) (I1 : T2) (J1 : T3), FrM I I1 → (∀ o, o ≠ 156 → J1 o = J o) → Rq I1 G du g1 → (g1, R) = Q → Ev (d + 1) 0 0 (fun _ => 0) mX7_byUse 252 [some (.ref 136), some (.int x1), some (.int (nI k)), some (.long (lN S)), none, some (.int (nI R)), some (.int 0), none, none, none] [] I1 J1 0 (fun o I' J' _ => ∃ w, o = .inl w ∧ usM I J G du Q w I' J') := by
    intro R g1 I1 J1 f1 f3 f2 e
    refine BX7_byUse_252 ?_
    refine IX7_byUse_254 (fun _ => ?_) (fun z => absurd rfl z)
    refine BX7_byUse_367 ?_
    refine RX7_byUse_369 (Nat.zero_le _) ⟨_, rfl, ?_, f3, f1, ?_⟩
    · rw [← e]
    · rw [← e]; exact f2
  intro R
  induction R with
  | zero =>
    intro _ g1 sv I1 J1 f1 f3 f2 fs e
    exact fin 0 g1 I1 J1 f1 f3 f2 (by rw [← e]; rfl)
  | succ R ih =>
    intro hR g1 sv I1 J1 f1 f3 f2 fs e
    rw [show oneI (R + 1) = 1 from if_neg (by omega)]
    refine BX7_byUse_252 ?_
    refine IX7_byUse_254 (fun z => absurd z (by decide)) (fun _ => ?_)
    refine BX7_byUse_257 ?_
    have aft : ∀ x5 : Int32, Ev (d + 1) 0 0 (fun _ => 0) mX7_byUse 320 [some (.ref 136), some (.int x1), some (.int (nI k)), some (.long (lN S)), none, some (.int (nI (R + 1))), some (.int 1), some (.int (rE (rbF sv u G))), some (.int x5), none] [] I1 J1 0 (fun o I' J' _ => ∃ w, o = .inl w ∧ usM I J G du Q w I' J') := by
      intro x5
      refine BX7_byUse_320 ?_
      cases eb : rbF sv u G with
      | none =>
        refine IX7_byUse_322 (fun _ => ?_) (fun z => absurd m1_neg z)
        refine BX7_byUse_347 ?_
        refine IX7_byUse_349 (fun _ => ?_) (fun z => absurd m1_neg z)
        refine BX7_byUse_361 ?_
        refine BX7_byUse_362 ?_
        refine Ev.weak (ls' := [some (.ref 136), some (.int x1), some (.int (nI k)), some (.long (lN S)), none, some (.int (nI (R + 1))), some (.int 0), none, none, none]) ⟨Or.inr rfl, Or.inr rfl, Or.inr rfl, Or.inr rfl, Or.inr rfl, Or.inr rfl, Or.inr rfl, Or.inl rfl, Or.inl rfl, Or.inr rfl, trivial⟩ ?_
        exact fin (R + 1) g1 I1 J1 f1 f3 f2 (by rw [← e, rm_n eb])
      | some b =>
        obtain ⟨b1, b2⟩ := rb_some eb
        obtain ⟨c1, c2, c3, c4⟩ := f2.2.2 b b1
        obtain ⟨s1, s2⟩ := fs b b1
        have s3 := s2 b2
        refine IX7_byUse_322 (fun z => absurd z (nI_pos (by omega))) (fun _ => ?_)
        refine BX7_byUse_325 (vp_in_nI (by omega) (by decide)) ?_
        rw [show (rE (some b)).toNatClampNeg = b from nI_clamp (by omega), up2_o (o := 157) (a := 155) _ _ _ _ (by decide), c1, pk_m1, nI_1]
        refine BX7_byUse_347 ?_
        refine IX7_byUse_349 (fun z => absurd z (nI_pos (by omega))) (fun _ => ?_)
        refine BX7_byUse_352 ?_
        have nx : Ev (d + 1) 0 0 (fun _ => 0) mX7_byUse 362 [some (.ref 136), some (.int x1), some (.int (nI k)), some (.long (lN S)), none, some (.int (nI R)), some (.int 1), some (.int (rE (some b))), some (.int x5), none] [.int (oneI R)] (up2 (up2 I1 157 b 1) 155 b (nI (g1 b + 1))) J1 0 (fun o I' J' _ => ∃ w, o = .inl w ∧ usM I J G du Q w I' J') := by
          refine BX7_byUse_362 ?_
          refine Ev.weak (ls' := [some (.ref 136), some (.int x1), some (.int (nI k)), some (.long (lN S)), none, some (.int (nI R)), some (.int (oneI R)), none, none, none]) ⟨Or.inr rfl, Or.inr rfl, Or.inr rfl, Or.inr rfl, Or.inr rfl, Or.inr rfl, Or.inr rfl, Or.inl rfl, Or.inl rfl, Or.inr rfl, trivial⟩ ?_
          refine ih (by omega) (upN g1 b (g1 b + 1)) (upB sv b) _ _ (fun o o1 o2 => by rw [up2_ne _ _ _ o1, up2_ne _ _ _ o2, f1 o o1 o2]) f3 ?_ (fun y hy => ?_) (by rw [← e, rm_x eb])
          · refine Rq.up (f2.ex ?_ ?_ ?_) b1 (by omega)
            · rw [up2_o _ _ _ _ (by decide)]
            · rw [up2_ne _ _ _ (by decide)]
            · rw [up2_ne _ _ _ (by decide)]
          · rw [up2_o (o := 155) (a := 157) _ _ _ _ (by decide)]
            by_cases c : y = b
            · subst c
              rw [up2_s, upB_s]
              exact ⟨rfl, fun z => absurd z (by decide)⟩
            · rw [up2_k _ 157 _ c, upB_o _ c, upN_o _ _ c]
              exact fs y hy
        by_cases c : R = 0
        · refine IX7_byUse_354 (fun _ => ?_) (fun z => absurd (by rw [c]; decide) z)
          refine BX7_byUse_361 ?_
          rw [show oneI R = 0 from if_pos c] at nx
          exact nx
        · refine IX7_byUse_354 (fun z => absurd z (nI_nle (by omega) (by omega))) (fun _ => ?_)
          refine BX7_byUse_357 ?_
          rw [show oneI R = 1 from if_neg c] at nx
          exact nx
    have scan : ∀ q x : Nat, x + q = G → Ev (d + 1) 0 0 (fun _ => 0) mX7_byUse 263 [some (.ref 136), some (.int x1), some (.int (nI k)), some (.long (lN S)), none, some (.int (nI (R + 1))), some (.int 1), some (.int (rE (rbF sv u x))), some (.int (nI x)), none] [] I1 J1 0 (fun o I' J' _ => ∃ w, o = .inl w ∧ usM I J G du Q w I' J') := by
      intro q
      induction q with
      | zero =>
        intro x hx
        have hxG : x = G := by omega
        subst hxG
        refine BX7_byUse_263 ?_
        rw [f2.1]
        exact IX7_byUse_269 (fun _ => aft _) (fun z => absurd (nI_le (Nat.le_refl _) (by omega)) z)
      | succ q ih2 =>
        intro x hx
        refine BX7_byUse_263 ?_
        rw [f2.1]
        refine IX7_byUse_269 (fun z => absurd z (nI_ge (by omega) (by omega))) (fun _ => ?_)
        refine BX7_byUse_272 (vp_in_nI (by omega) (by decide)) ?_
        obtain ⟨s1, s2⟩ := fs x (by omega)
        rw [nI_clamp (by omega), s1]
        have keep : rbF sv u (x + 1) = rbF sv u x → Ev (d + 1) 0 0 (fun _ => 0) mX7_byUse 310 [some (.ref 136), some (.int x1), some (.int (nI k)), some (.long (lN S)), none, some (.int (nI (R + 1))), some (.int 1), some (.int (rE (rbF sv u x))), some (.int (nI x)), none] [] I1 J1 0 (fun o I' J' _ => ∃ w, o = .inl w ∧ usM I J G du Q w I' J') := fun ek => by
          refine BX7_byUse_310 ?_
          refine BX7_byUse_312 ?_
          rw [nI_1, ← ek]
          exact ih2 (x + 1) (by omega)
        have take : rbF sv u (x + 1) = some x → Ev (d + 1) 0 0 (fun _ => 0) mX7_byUse 305 [some (.ref 136), some (.int x1), some (.int (nI k)), some (.long (lN S)), none, some (.int (nI (R + 1))), some (.int 1), some (.int (rE (rbF sv u x))), some (.int (nI x)), none] [] I1 J1 0 (fun o I' J' _ => ∃ w, o = .inl w ∧ usM I J G du Q w I' J') := fun ek => by
          refine BX7_byUse_305 ?_
          refine BX7_byUse_312 ?_
          rw [nI_1]
          have := ih2 (x + 1) (by omega)
          rw [ek] at this
          exact this
        cases hsv : sv x with
        | true =>
          refine IX7_byUse_279 (fun _ => ?_) (fun z => absurd (by decide) z)
          exact keep (rb_ext (n := x) (N := x + 1) (by omega) (fun y a b => by rw [show y = x by omega]; exact hsv))
        | false =>
          refine IX7_byUse_279 (fun z => absurd (by decide) z) (fun _ => ?_)
          refine BX7_byUse_282 ?_
          cases eb : rbF sv u x with
          | none =>
            rw [eb] at take
            exact IX7_byUse_284 (fun _ => take (by rw [rb_s0 eb, if_pos hsv])) (fun z => absurd m1_neg z)
          | some b =>
            rw [eb] at take keep
            obtain ⟨b1, b2⟩ := rb_some eb
            have e2 := ((fs b (by omega)).2 b2).2
            have e1 := (s2 hsv).2
            have := hr b
            have := hr x
            refine IX7_byUse_284 (fun z => absurd z (nI_pos (by omega))) (fun _ => ?_)
            refine BX7_byUse_287 (vp_in_nI (by omega) (by decide)) (vp_in_nI (by omega) (by decide)) ?_
            rw [show (rE (some b)).toNatClampNeg = b from nI_clamp (by omega), nI_clamp (by omega), e1, e2]
            refine IX7_byUse_302 (fun z => ?_) (fun z => ?_)
            · have z' := (lg_le0 _ _).mp z
              rw [pk_lLT (by omega) (by omega)] at z'
              exact keep (by rw [rb_s1 eb, if_neg (fun y => z' y.2)])
            · have z' : lN (u b) < lN (u x) := Classical.not_not.mp (mt (lg_le0 _ _).mpr z)
              rw [pk_lLT (by omega) (by omega)] at z'
              exact take (by rw [rb_s1 eb, if_pos ⟨hsv, z'⟩])
    exact scan G 0 (Nat.zero_add _)
def rdQ (G : Nat) (u du g : Nat → Nat) (L : Nat) : (Nat → Nat) × Nat := if smF u du g G = 0 then eqF G du L g else rdF G u du g L
set_option maxHeartbeats 2000000 in
theorem sm_byUse {G L k : Nat} {du g u : Nat → Nat} (h : Rq I G du g) (hu : Ru I G k u) (hk : k < 3) (hL : L < 2 ^ 31) : Mt (d + 2) mX7_byUse [.ref 136, .int (nI L), .int (nI k)] I J (usM I J G du (rdQ G u du g L)) := by
  refine Mt.of (by decide +kernel) (Nat.le_of_ble_eq_true rfl) ?_
  have h8 := h.2.1
  have hsm : ∀ {x : Nat}, x ≤ G → smF u du g x ≤ x * 2147483648 := fun hx => Rq.sm (fun x hx => (hu x hx).2) hx
  have hsG := hsm (Nat.le_refl G)
  -- the round of parts
  have parts : 0 < smF u du g G → ∀ q x : Nat, x + q = G → ∀ (I1 : T2) (J1 : T3), FrM I I1 → (∀ o, o ≠ 156 → J1 o = J o) → Rq I1 G du (pXF u du g L (smF u du g G) x) → (∀ y, y < x → I1 157 y = bI (!decide (paF u du g L (smF u du g G) y < du y)) ∧ J1 156 y = lN (L * u y % smF u du g G)) → Ev (d + 2) 0 0 (fun _ => 0) mX7_byUse 66 [some (.ref 136), some (.int (nI L)), some (.int (nI k)), some (.long (lN (smF u du g G))), none, some (.int (nI (L - sF (tkF u du g L (smF u du g G)) x))), some (.int (nI x)), none, none, none] [] I1 J1 0 (fun o I' J' _ => ∃ w, o = .inl w ∧ usM I J G du (rdQ G u du g L) w I' J') := by
    intro hs
    have tl : sF (tkF u du g L (smF u du g G)) G ≤ L := tk_le hs
    have eQ : rdQ G u du g L = rmF G (fun y => L * u y % smF u du g G) (L - sF (tkF u du g L (smF u du g G)) G) (paF u du g L (smF u du g G)) (fun y => !decide (paF u du g L (smF u du g G) y < du y)) := if_neg (by omega)
    rw [eQ]
    generalize smF u du g G = S at *
    intro q
    induction q with
    | zero =>
      intro x hx I1 J1 f1 f2 f3 f4
      have hxG : x = G := by omega
      subst hxG
      refine BX7_byUse_66 ?_
      rw [f3.1]
      refine IX7_byUse_72 (fun _ => ?_) (fun z => absurd (nI_le (Nat.le_refl _) (by omega)) z)
      refine BX7_byUse_240 ?_
      have nx : Ev (d + 2) 0 0 (fun _ => 0) mX7_byUse 250 [some (.ref 136), some (.int (nI L)), some (.int (nI k)), some (.long (lN S)), none, some (.int (nI (L - sF (tkF u du g L S) x))), some (.int (nI x)), none, none, none] [.int (oneI (L - sF (tkF u du g L S) x))] I1 J1 0 (fun o I' J' _ => ∃ w, o = .inl w ∧ usM I J x du (rmF x (fun y => L * u y % S) (L - sF (tkF u du g L S) x) (paF u du g L S) (fun y => !decide (paF u du g L S y < du y))) w I' J') := by
        refine BX7_byUse_250 ?_
        refine sm_remain (u := fun y => L * u y % S) h8 (nI L) (fun y => Nat.lt_of_lt_of_le (Nat.mod_lt _ hs) (by omega)) _ (by omega) (paF u du g L S) _ I1 J1 f1 f2 ⟨f3.1, f3.2.1, fun y hy => ?_⟩ (fun y hy => ⟨(f4 y hy).1, fun z => ⟨sv_f.mp z, (f4 y hy).2⟩⟩) rfl
        have := f3.2.2 y hy
        rw [show pXF u du g L S x y = paF u du g L S y from if_pos hy] at this
        exact this
      by_cases c : L - sF (tkF u du g L S) x = 0
      · refine IX7_byUse_242 (fun _ => ?_) (fun z => absurd (by rw [c]; decide) z)
        refine BX7_byUse_249 ?_
        rw [show oneI (L - sF (tkF u du g L S) x) = 0 from if_pos c] at nx
        exact nx
      · refine IX7_byUse_242 (fun z => absurd z (nI_nle (by omega) (by omega))) (fun _ => ?_)
        refine BX7_byUse_245 ?_
        rw [show oneI (L - sF (tkF u du g L S) x) = 1 from if_neg c] at nx
        exact nx
    | succ q ih =>
      intro x hx I1 J1 f1 f2 f3 f4
      refine BX7_byUse_66 ?_
      rw [f3.1]
      refine IX7_byUse_72 (fun z => absurd z (nI_ge (by omega) (by omega))) (fun _ => ?_)
      refine BX7_byUse_75 ?_
      refine CX7_byUse_84 (sm_wantsMore f3 (by omega)) (Nat.zero_le _) (fun v I2 J2 q1 => ?_)
      obtain ⟨rfl, rfl, rfl⟩ := q1
      rw [pX_x]
      obtain ⟨c1, c2, c3, c4⟩ := f3.2.2 x (by omega)
      rw [pX_x] at c1 c3
      obtain ⟨u1, u2⟩ := hu x (by omega)
      have hLu : L * u x < 2 ^ 63 := Nat.lt_of_le_of_lt (Nat.mul_le_mul (Nat.le_of_lt hL) (Nat.le_of_lt u2)) (by decide)
      have hdiv : L * u x / S ≤ L * u x := Nat.div_le_self _ _
      have u3 : ∀ v : Int32, up2 I1 157 x v 139 (3 * x + k) = nI (u x) := fun v => by
        rw [up2_o _ _ _ _ (by decide), f1 139 (by decide) (by decide), u1]
      have hSn : ¬ lN S = (0 : Int64) := fun z => by
        have := (pk_lEQ (a := S) (b := 0) (by omega) (by decide)).mp z
        omega
      by_cases w : g x < du x
      · rw [if_pos w]
        refine IX7_byUse_87 (fun _ => ?_) (fun z => absurd (by decide) z)
        refine BX7_byUse_94 ?_
        refine BX7_byUse_95 (by decide) (vp_in_nI (show x < 8 by omega) (by decide)) (Or.inl rfl) (by rw [mul3', nI_add]; exact vp_in_nI (by omega) (by decide)) hSn (vp_in_nI (by omega) (by decide)) ?_
        rw [mul3', nI_add, nI_clamp (by omega), nI_clamp (by omega), u3, nI_l hL, nI_l u2, lN_mul, pk_lRem hLu hs (by omega), up2_s]
        refine IX7_byUse_127 (fun z => absurd rfl z) (fun _ => ?_)
        refine BX7_byUse_130 (by rw [mul3', nI_add]; exact vp_in_nI (by omega) (by decide)) hSn (vp_in_nI (by omega) (by decide)) ?_
        rw [mul3', nI_add, nI_clamp (by omega), nI_clamp (by omega), u3, nI_l hL, nI_l u2, lN_mul, pk_lDiv hLu hs (by omega), up2_o (o := 157) (a := 154) _ _ _ _ (by decide), up2_o (o := 157) (a := 155) _ _ _ _ (by decide), c1, c2, pk_sub c3, nI_l (by omega)]
        have m1 : sF (tkF u du g L S) (x + 1) ≤ sF (tkF u du g L S) G := sF_mono (by omega)
        have m2 : sF (tkF u du g L S) (x + 1) = sF (tkF u du g L S) x + tkF u du g L S x := rfl
        have m3 : g x + tkF u du g L S x ≤ du x := pa_le (u := u) (L := L) (s := S) c3
        have nx : Ev (d + 2) 0 0 (fun _ => 0) mX7_byUse 192 [some (.ref 136), some (.int (nI L)), some (.int (nI k)), some (.long (lN S)), none, some (.int (nI (L - sF (tkF u du g L S) x))), some (.int (nI x)), some (.long (lN (L * u x / S))), none, none] [.int (nI (tkF u du g L S x))] (up2 I1 157 x 0) (up3 J1 156 x (lN (L * u x % S))) 0 (fun o I' J' _ => ∃ w, o = .inl w ∧ usM I J G du (rmF G (fun y => L * u y % S) (L - sF (tkF u du g L S) G) (paF u du g L S) (fun y => !decide (paF u du g L S y < du y))) w I' J') := by
          refine BX7_byUse_192 (vp_in_nI (by omega) (by decide)) ?_
          rw [nI_clamp (by omega), up2_o (o := 157) (a := 155) _ _ _ _ (by decide), c1, nI_add, pk_sub (by omega), Nat.sub_sub, ← m2]
          have rq : Rq (up2 (up2 I1 157 x 0) 155 x (nI (g x + tkF u du g L S x))) G du (pXF u du g L S (x + 1)) := by
            rw [pX_s]
            refine Rq.up (f3.ex ?_ ?_ ?_) (by omega) m3
            · rw [up2_o _ _ _ _ (by decide)]
            · rw [up2_ne _ _ _ (by decide)]
            · rw [up2_ne _ _ _ (by decide)]
          refine CX7_byUse_222 (sm_wantsMore rq (by omega)) (Nat.zero_le _) (fun v I2 J2 q1 => ?_)
          obtain ⟨rfl, rfl, rfl⟩ := q1
          rw [show pXF u du g L S (x + 1) x = paF u du g L S x from if_pos (Nat.lt_succ_self _)]
          have nx2 : Ev (d + 2) 0 0 (fun _ => 0) mX7_byUse 233 [some (.ref 136), some (.int (nI L)), some (.int (nI k)), some (.long (lN S)), none, some (.int (nI (L - sF (tkF u du g L S) (x + 1)))), some (.int (nI x)), some (.long (lN (L * u x / S))), none, some (.int (nI (tkF u du g L S x)))] [.int (bI (!decide (paF u du g L S x < du x))), .int (nI x), .ref 157] (up2 (up2 I1 157 x 0) 155 x (nI (g x + tkF u du g L S x))) (up3 J1 156 x (lN (L * u x % S))) 0 (fun o I' J' _ => ∃ w, o = .inl w ∧ usM I J G du (rmF G (fun y => L * u y % S) (L - sF (tkF u du g L S) G) (paF u du g L S) (fun y => !decide (paF u du g L S y < du y))) w I' J') := by
            refine BX7_byUse_233 (by decide) (vp_in_nI (show x < 8 by omega) (by decide)) (bI_01 _) ?_
            rw [nI_clamp (by omega)]
            refine Ev.weak (ls' := [some (.ref 136), some (.int (nI L)), some (.int (nI k)), some (.long (lN S)), none, some (.int (nI (L - sF (tkF u du g L S) (x + 1)))), some (.int (nI x)), none, none, none]) ⟨Or.inr rfl, Or.inr rfl, Or.inr rfl, Or.inr rfl, Or.inr rfl, Or.inr rfl, Or.inr rfl, Or.inl rfl, Or.inr rfl, Or.inl rfl, trivial⟩ ?_
            refine BX7_byUse_234 ?_
            rw [nI_1]
            refine ih (x + 1) (by omega) _ _ (fun o o1 o2 => by rw [up2_ne _ _ _ o2, up2_ne _ _ _ o1, up2_ne _ _ _ o2, f1 o o1 o2]) (fun o o1 => ?_) (rq.ex ?_ ?_ ?_) (fun y hy => ?_)
            · funext j
              rw [up3_v, if_neg (fun z => o1 z.1), f2 o o1]
            · rw [up2_o _ _ _ _ (by decide)]
            · rw [up2_ne _ _ _ (by decide)]
            · rw [up2_ne _ _ _ (by decide)]
            · by_cases c : y = x
              · subst c
                rw [up2_s, up3_v, if_pos ⟨rfl, rfl⟩]
                exact ⟨rfl, rfl⟩
              · rw [up2_k _ 157 _ c, up2_o (o := 155) (a := 157) _ _ _ _ (by decide), up2_k _ 157 _ c, up3_v, if_neg (fun z => c z.2)]
                exact f4 y (by omega)
          by_cases w2 : paF u du g L S x < du x
          · rw [if_pos w2]
            refine IX7_byUse_225 (fun _ => ?_) (fun z => absurd (by decide) z)
            refine BX7_byUse_232 ?_
            rw [show bI (!decide (paF u du g L S x < du x)) = 0 by rw [decide_eq_true w2]; rfl] at nx2
            exact nx2
          · rw [if_neg w2]
            refine IX7_byUse_225 (fun z => absurd rfl z) (fun _ => ?_)
            refine BX7_byUse_228 ?_
            rw [show bI (!decide (paF u du g L S x < du x)) = 1 by rw [decide_eq_false w2]; rfl] at nx2
            exact nx2
        have tk : tkF u du g L S x = min (L * u x / S) (du x - g x) := if_pos w
        by_cases c : du x - g x < L * u x / S
        · refine IX7_byUse_168 (fun z => absurd ((pk_lLT (by omega) (by omega)).mpr c) ((lg_le0 _ _).mp z)) (fun _ => ?_)
          refine BX7_byUse_171 (vp_in_nI (by omega) (by decide)) ?_
          rw [nI_clamp (by omega), up2_o (o := 157) (a := 154) _ _ _ _ (by decide), up2_o (o := 157) (a := 155) _ _ _ _ (by decide), c1, c2, pk_sub c3]
          rw [tk, Nat.min_eq_right (by omega)] at nx
          exact nx
        · refine IX7_byUse_168 (fun _ => ?_) (fun z => absurd ((lg_le0 _ _).mpr (fun y => c ((pk_lLT (by omega) (by omega)).mp y))) z)
          refine BX7_byUse_189 ?_
          rw [lN_i]
          rw [tk, Nat.min_eq_left (by omega)] at nx
          exact nx
      · rw [if_neg w]
        refine IX7_byUse_87 (fun z => absurd rfl z) (fun _ => ?_)
        refine BX7_byUse_90 ?_
        refine BX7_byUse_95 (by decide) (vp_in_nI (show x < 8 by omega) (by decide)) (Or.inr rfl) (by rw [mul3', nI_add]; exact vp_in_nI (by omega) (by decide)) hSn (vp_in_nI (by omega) (by decide)) ?_
        rw [mul3', nI_add, nI_clamp (by omega), nI_clamp (by omega), u3, nI_l hL, nI_l u2, lN_mul, pk_lRem hLu hs (by omega), up2_s]
        refine IX7_byUse_127 (fun _ => ?_) (fun z => absurd (by decide) z)
        refine BX7_byUse_234 ?_
        rw [nI_1]
        have t0 : tkF u du g L S x = 0 := if_neg w
        have ih' := ih (x + 1) (by omega)
        have e1 : pXF u du g L S (x + 1) = pXF u du g L S x := by
          rw [pX_s, t0]
          funext y
          by_cases c2 : y = x
          · rw [c2, upN_s, pX_x]; rfl
          · rw [upN_o _ _ c2]
        have e2 : sF (tkF u du g L S) (x + 1) = sF (tkF u du g L S) x := by
          show sF (tkF u du g L S) x + tkF u du g L S x = _
          rw [t0]; rfl
        rw [e1, e2] at ih'
        have pw : paF u du g L S x = g x := by
          show g x + tkF u du g L S x = g x
          rw [t0]; rfl
        refine ih' _ _ (fun o o1 o2 => by rw [up2_ne _ _ _ o2, f1 o o1 o2]) (fun o o1 => ?_) (f3.ex ?_ ?_ ?_) (fun y hy => ?_)
        · funext j
          rw [up3_v, if_neg (fun z => o1 z.1), f2 o o1]
        · rw [up2_o _ _ _ _ (by decide)]
        · rw [up2_ne _ _ _ (by decide)]
        · rw [up2_ne _ _ _ (by decide)]
        · by_cases c : y = x
          · subst c
            rw [up2_s, up3_v, if_pos ⟨rfl, rfl⟩, pw, decide_eq_false w]
            exact ⟨rfl, rfl⟩
          · rw [up2_k _ 157 _ c, up3_v, if_neg (fun z => c z.2)]
            exact f4 y (by omega)
  -- behind the sum
  have aft : ∀ x5 : Int32, Ev (d + 2) 0 0 (fun _ => 0) mX7_byUse 48 [some (.ref 136), some (.int (nI L)), some (.int (nI k)), some (.long (lN (smF u du g G))), none, some (.int x5), none, none, none, none] [] I J 0 (fun o I' J' _ => ∃ w, o = .inl w ∧ usM I J G du (rdQ G u du g L) w I' J') := by
    intro x5
    refine BX7_byUse_48 ?_
    by_cases c : smF u du g G = 0
    · refine IX7_byUse_51 (fun z => absurd ((lg_eq0 _ _).mpr (by rw [c]; rfl)) z) (fun _ => ?_)
      refine BX7_byUse_54 ?_
      refine CX7_byUse_56 (sm_equal h hL) (Nat.zero_le _) (fun v I2 J2 q1 => ?_)
      obtain ⟨rfl, rfl, a1, a2⟩ := q1
      have eQ : rdQ G u du g L = eqF G du L g := if_pos c
      refine RX7_byUse_59 (Nat.zero_le _) ⟨_, rfl, ?_, fun _ _ => rfl, fun o o1 _ => a1 o o1, ?_⟩
      · rw [eQ]
      · rw [eQ]; exact a2
    · refine IX7_byUse_51 (fun _ => ?_) (fun z => absurd (fun y => c ?_) z)
      · refine BX7_byUse_60 ?_
        refine parts (by omega) G 0 (Nat.zero_add _) I J (fun _ _ _ => rfl) (fun _ _ => rfl) (by rw [pX_0]; exact h) (fun y hy => absurd hy (Nat.not_lt_zero _))
      · exact (pk_lEQ (a := smF u du g G) (b := 0) (by omega) (by decide)).mp ((lg_eq0 _ _).mp y)
  have sums : ∀ q x : Nat, x + q = G → Ev (d + 2) 0 0 (fun _ => 0) mX7_byUse 5 [some (.ref 136), some (.int (nI L)), some (.int (nI k)), some (.long (lN (smF u du g x))), none, some (.int (nI x)), none, none, none, none] [] I J 0 (fun o I' J' _ => ∃ w, o = .inl w ∧ usM I J G du (rdQ G u du g L) w I' J') := by
    intro q
    induction q with
    | zero =>
      intro x hx
      have hxG : x = G := by omega
      subst hxG
      refine BX7_byUse_5 ?_
      rw [h.1]
      exact IX7_byUse_11 (fun _ => aft _) (fun z => absurd (nI_le (Nat.le_refl _) (by omega)) z)
    | succ q ih =>
      intro x hx
      refine BX7_byUse_5 ?_
      rw [h.1]
      refine IX7_byUse_11 (fun z => absurd z (nI_ge (by omega) (by omega))) (fun _ => ?_)
      refine BX7_byUse_14 ?_
      refine CX7_byUse_17 (sm_wantsMore h (by omega)) (Nat.zero_le _) (fun v I2 J2 q1 => ?_)
      obtain ⟨rfl, rfl, rfl⟩ := q1
      have ih' := ih (x + 1) (by omega)
      rw [show smF u du g (x + 1) = smF u du g x + (if g x < du x then u x else 0) from rfl] at ih'
      by_cases w : g x < du x
      · rw [if_pos w] at ih' ⊢
        refine IX7_byUse_20 (fun z => absurd z (by decide)) (fun _ => ?_)
        refine BX7_byUse_23 (by rw [mul3', nI_add]; exact vp_in_nI (by omega) (by decide)) ?_
        rw [mul3', nI_add, nI_clamp (by omega), (hu x (by omega)).1, nI_l (hu x (by omega)).2, lN_add]
        refine BX7_byUse_41 ?_
        rw [nI_1]
        exact ih'
      · rw [if_neg w] at ih' ⊢
        refine IX7_byUse_20 (fun _ => ?_) (fun z => absurd rfl z)
        refine BX7_byUse_40 ?_
        refine BX7_byUse_41 ?_
        rw [nI_1]
        exact ih'
  refine BX7_byUse_0 ?_
  exact sums G 0 (Nat.zero_add _)
end RF11

