/-! the reference: sharing -/
section RF10
variable {d : Nat} {I : T2} {J : T3}
def Rq (I : T2) (G : Nat) (du g : Nat → Nat) : Prop := I 136 4 = nI G ∧ G ≤ 8 ∧ ∀ x, x < G → I 155 x = nI (g x) ∧ I 154 x = nI (du x) ∧ g x ≤ du x ∧ du x < 2 ^ 31
theorem Rq.up {G : Nat} {du g : Nat → Nat} (h : Rq I G du g) {x v : Nat} (hx : x < G) (hv : v ≤ du x) : Rq (up2 I 155 x (nI v)) G du (upN g x v) := by
  obtain ⟨a1, a2, a3⟩ := h
  refine ⟨by rw [up2_o _ _ _ _ (by decide)]; exact a1, a2, fun y hy => ?_⟩
  obtain ⟨b1, b2, b3, b4⟩ := a3 y hy
  rw [up2_o (o := 155) (a := 154) _ _ _ _ (by decide)]
  by_cases c : y = x
  · subst c
    rw [up2_s, upN_s]
    exact ⟨rfl, b2, hv, b4⟩
  · rw [up2_k _ 155 _ c, upN_o _ _ c]
    exact ⟨b1, b2, b3, b4⟩
theorem Rq.ex {I' : T2} {G : Nat} {du g : Nat → Nat} (h : Rq I G du g) (h1 : I' 136 4 = I 136 4) (h2 : I' 154 = I 154) (h3 : I' 155 = I 155) : Rq I' G du g := by
  unfold Rq
  rw [h1, h2, h3]
  exact h
theorem sm_wantsMore {G x : Nat} {du g : Nat → Nat} (h : Rq I G du g) (hx : x < G) : Mt d mX7_wantsMore [.ref 136, .int (nI x)] I J (RI (if g x < du x then 1 else 0) I J) := by
  obtain ⟨b1, b2, b3, b4⟩ := h.2.2 x hx
  have := h.2.1
  refine Mt.of (by decide +kernel) (Nat.le_of_ble_eq_true rfl) ?_
  refine BX7_wantsMore_0 (vp_in_nI (by omega) (by decide)) ?_
  rw [nI_clamp (by omega), b1, b2]
  by_cases c : g x < du x
  · rw [if_pos c]
    refine IX7_wantsMore_12 (fun z => absurd z (nI_ge c b4)) (fun _ => ?_)
    refine BX7_wantsMore_15 ?_
    exact RX7_wantsMore_20 (Or.inr rfl) (Nat.zero_le _) ⟨_, rfl, rfl, rfl, rfl⟩
  · rw [if_neg c]
    refine IX7_wantsMore_12 (fun _ => ?_) (fun z => absurd (nI_le (by omega) (by omega)) z)
    refine BX7_wantsMore_19 ?_
    exact RX7_wantsMore_20 (Or.inl rfl) (Nat.zero_le _) ⟨_, rfl, rfl, rfl, rfl⟩
theorem m1_neg : (-1 : Int32) < 0 := by decide
def eqM (I : T2) (J : T3) (G : Nat) (du : Nat → Nat) (q : (Nat → Nat) × Nat) : Option Value → T2 → T3 → Prop := fun w I' J' => w = some (.int (nI q.2)) ∧ J = J' ∧ (∀ o, o ≠ 155 → I' o = I o) ∧ Rq I' G du q.1
def oneI (L : Nat) : Int32 := if L = 0 then 0 else 1
set_option maxHeartbeats 1000000 in
theorem sm_equal {G L : Nat} {du g : Nat → Nat} (h : Rq I G du g) (hL : L < 2 ^ 31) : Mt (d + 1) mX7_equal [.ref 136, .int (nI L)] I J (eqM I J G du (eqF G du L g)) := by
  refine Mt.of (by decide +kernel) (Nat.le_of_ble_eq_true rfl) ?_
  have h8 := h.2.1
  have fin : ∀ (R : Nat) (g1 : Nat → Nat) (I1 : T2), (∀ o, o ≠ 155 → I1 o = I o) → Rq I1 G du g1 → eqF G du L g = (g1, R) → Ev (d + 1) 0 0 (fun _ => 0) mX7_equal 12 [some (.ref 136), some (.int (nI L)), some (.int (nI R)), some (.int 0), none, none] [] I1 J 0 (fun o I' J' _ => ∃ w, o = .inl w ∧ eqM I J G du (eqF G du L g) w I' J') := by
    intro R g1 I1 f1 f2 e
    refine BX7_equal_12 ?_
    refine IX7_equal_13 (fun _ => ?_) (fun z => absurd rfl z)
    refine BX7_equal_114 ?_
    refine RX7_equal_115 (Nat.zero_le _) ⟨_, rfl, ?_, rfl, f1, ?_⟩
    · rw [e]
    · rw [e]; exact f2
  have key : ∀ (R : Nat), R < 2 ^ 31 → ∀ (g1 : Nat → Nat) (I1 : T2), (∀ o, o ≠ 155 → I1 o = I o) → Rq I1 G du g1 → eqF G du L g = eqF G du R g1 → Ev (d + 1) 0 0 (fun _ => 0) mX7_equal 12 [some (.ref 136), some (.int (nI L)), some (.int (nI R)), some (.int (oneI R)), none, none] [] I1 J 0 (fun o I' J' _ => ∃ w, o = .inl w ∧ eqM I J G du (eqF G du L g) w I' J') := by
    intro R
    induction R with
    | zero =>
      intro _ g1 I1 f1 f2 e
      exact fin 0 g1 I1 f1 f2 (by rw [e]; rfl)
    | succ R ih =>
      intro hR g1 I1 f1 f2 e
      rw [show oneI (R + 1) = 1 from if_neg (by omega)]
      refine BX7_equal_12 ?_
      refine IX7_equal_13 (fun z => absurd z (by decide)) (fun _ => ?_)
      refine BX7_equal_16 ?_
      -- behind the search
      have aft : ∀ x5 : Int32, Ev (d + 1) 0 0 (fun _ => 0) mX7_equal 77 [some (.ref 136), some (.int (nI L)), some (.int (nI (R + 1))), some (.int 1), some (.int (rE (bsF du g1 G))), some (.int x5)] [] I1 J 0 (fun o I' J' _ => ∃ w, o = .inl w ∧ eqM I J G du (eqF G du L g) w I' J') := by
        intro x5
        refine BX7_equal_77 ?_
        cases eb : bsF du g1 G with
        | none =>
          refine IX7_equal_79 (fun _ => ?_) (fun z => absurd m1_neg z)
          refine BX7_equal_96 ?_
          refine IX7_equal_98 (fun _ => ?_) (fun z => absurd m1_neg z)
          refine BX7_equal_109 ?_
          refine BX7_equal_110 ?_
          refine Ev.weak (ls' := [some (.ref 136), some (.int (nI L)), some (.int (nI (R + 1))), some (.int 0), none, none]) ⟨Or.inr rfl, Or.inr rfl, Or.inr rfl, Or.inr rfl, Or.inl rfl, Or.inl rfl, trivial⟩ ?_
          exact fin (R + 1) g1 I1 f1 f2 (by rw [e, eq_n eb])
        | some b =>
          obtain ⟨b1, b2⟩ := bs_some eb
          obtain ⟨c1, c2, c3, c4⟩ := f2.2.2 b b1
          refine IX7_equal_79 (fun z => absurd z (nI_pos (by omega))) (fun _ => ?_)
          refine BX7_equal_82 (vp_in_nI (by omega) (by decide)) ?_
          rw [show (rE (some b)).toNatClampNeg = b from nI_clamp (by omega), c1, pk_m1, nI_1]
          refine BX7_equal_96 ?_
          refine IX7_equal_98 (fun z => absurd z (nI_pos (by omega))) (fun _ => ?_)
          refine BX7_equal_101 ?_
          have nx : Ev (d + 1) 0 0 (fun _ => 0) mX7_equal 110 [some (.ref 136), some (.int (nI L)), some (.int (nI R)), some (.int 1), some (.int (rE (some b))), some (.int x5)] [.int (oneI R)] (up2 I1 155 b (nI (g1 b + 1))) J 0 (fun o I' J' _ => ∃ w, o = .inl w ∧ eqM I J G du (eqF G du L g) w I' J') := by
            refine BX7_equal_110 ?_
            refine Ev.weak (ls' := [some (.ref 136), some (.int (nI L)), some (.int (nI R)), some (.int (oneI R)), none, none]) ⟨Or.inr rfl, Or.inr rfl, Or.inr rfl, Or.inr rfl, Or.inl rfl, Or.inl rfl, trivial⟩ ?_
            refine ih (by omega) _ _ (fun o ho => by rw [up2_ne _ _ _ ho, f1 o ho]) (f2.up b1 (by omega)) (by rw [e, eq_x eb])
          by_cases c : R = 0
          · refine IX7_equal_102 (fun _ => ?_) (fun z => absurd (by rw [c]; decide) z)
            refine BX7_equal_109 ?_
            rw [show oneI R = 0 from if_pos c] at nx
            exact nx
          · refine IX7_equal_102 (fun z => absurd z (nI_nle (by omega) (by omega))) (fun _ => ?_)
            refine BX7_equal_105 ?_
            rw [show oneI R = 1 from if_neg c] at nx
            exact nx
      have scan : ∀ q x : Nat, x + q = G → Ev (d + 1) 0 0 (fun _ => 0) mX7_equal 22 [some (.ref 136), some (.int (nI L)), some (.int (nI (R + 1))), some (.int 1), some (.int (rE (bsF du g1 x))), some (.int (nI x))] [] I1 J 0 (fun o I' J' _ => ∃ w, o = .inl w ∧ eqM I J G du (eqF G du L g) w I' J') := by
        intro q
        induction q with
        | zero =>
          intro x hx
          have hxG : x = G := by omega
          subst hxG
          refine BX7_equal_22 ?_
          rw [f2.1]
          exact IX7_equal_28 (fun _ => aft _) (fun z => absurd (nI_le (Nat.le_refl _) (by omega)) z)
        | succ q ih2 =>
          intro x hx
          refine BX7_equal_22 ?_
          rw [f2.1]
          refine IX7_equal_28 (fun z => absurd z (nI_ge (by omega) (by omega))) (fun _ => ?_)
          refine BX7_equal_31 ?_
          refine CX7_equal_34 (sm_wantsMore f2 (by omega)) (Nat.zero_le _) (fun v I2 J2 q1 => ?_)
          obtain ⟨rfl, rfl, rfl⟩ := q1
          obtain ⟨c1, c2, c3, c4⟩ := f2.2.2 x (by omega)
          have keep : bsF du g1 (x + 1) = bsF du g1 x → Ev (d + 1) 0 0 (fun _ => 0) mX7_equal 67 [some (.ref 136), some (.int (nI L)), some (.int (nI (R + 1))), some (.int 1), some (.int (rE (bsF du g1 x))), some (.int (nI x))] [] I1 J 0 (fun o I' J' _ => ∃ w, o = .inl w ∧ eqM I J G du (eqF G du L g) w I' J') := fun ek => by
            refine BX7_equal_67 ?_
            refine BX7_equal_69 ?_
            rw [nI_1, ← ek]
            exact ih2 (x + 1) (by omega)
          have take : bsF du g1 (x + 1) = some x → Ev (d + 1) 0 0 (fun _ => 0) mX7_equal 62 [some (.ref 136), some (.int (nI L)), some (.int (nI (R + 1))), some (.int 1), some (.int (rE (bsF du g1 x))), some (.int (nI x))] [] I1 J 0 (fun o I' J' _ => ∃ w, o = .inl w ∧ eqM I J G du (eqF G du L g) w I' J') := fun ek => by
            refine BX7_equal_62 ?_
            refine BX7_equal_69 ?_
            rw [nI_1]
            have := ih2 (x + 1) (by omega)
            rw [ek] at this
            exact this
          by_cases w : g1 x < du x
          · rw [if_pos w]
            refine IX7_equal_37 (fun z => absurd z (by decide)) (fun _ => ?_)
            refine BX7_equal_40 ?_
            cases eb : bsF du g1 x with
            | none =>
              rw [eb] at take
              exact IX7_equal_42 (fun _ => take (by rw [bs_s0 eb, if_pos w])) (fun z => absurd m1_neg z)
            | some b =>
              rw [eb] at take keep
              obtain ⟨b1, b2⟩ := bs_some eb
              obtain ⟨e1, e2, e3, e4⟩ := f2.2.2 b (by omega)
              refine IX7_equal_42 (fun z => absurd z (nI_pos (by omega))) (fun _ => ?_)
              refine BX7_equal_45 (vp_in_nI (by omega) (by decide)) (vp_in_nI (by omega) (by decide)) ?_
              rw [show (rE (some b)).toNatClampNeg = b from nI_clamp (by omega), nI_clamp (by omega), e1, c1]
              refine IX7_equal_59 (fun z => ?_) (fun z => ?_)
              · have z' := (nI_leI (by omega) (by omega)).mp z
                exact keep (by rw [bs_s1 eb, if_neg (fun y => by omega)])
              · have z' : g1 x < g1 b := Nat.lt_of_not_le fun y => z (nI_le y (by omega))
                exact take (by rw [bs_s1 eb, if_pos ⟨w, z'⟩])
          · rw [if_neg w]
            refine IX7_equal_37 (fun _ => ?_) (fun z => absurd rfl z)
            exact keep (bs_ext (by omega) (fun y a b => by rw [show y = x by omega]; exact w))
      exact scan G 0 (Nat.zero_add _)
  refine BX7_equal_0 ?_
  have st : Ev (d + 1) 0 0 (fun _ => 0) mX7_equal 11 [some (.ref 136), some (.int (nI L)), some (.int (nI L)), none, none, none] [.int (oneI L)] I J 0 (fun o I' J' _ => ∃ w, o = .inl w ∧ eqM I J G du (eqF G du L g) w I' J') := by
    refine BX7_equal_11 ?_
    exact key L hL g I (fun _ _ => rfl) h rfl
  by_cases c : L = 0
  · refine IX7_equal_3 (fun _ => ?_) (fun z => absurd (by rw [c]; decide) z)
    refine BX7_equal_10 ?_
    rw [show oneI L = 0 from if_pos c] at st
    exact st
  · refine IX7_equal_3 (fun z => absurd z (nI_nle (by omega) hL)) (fun _ => ?_)
    refine BX7_equal_6 ?_
    rw [show oneI L = 1 from if_neg c] at st
    exact st
end RF10

