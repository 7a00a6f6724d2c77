/-! the reference: split -/
section RF12
variable {d : Nat} {I : T2} {J : T3}
def duM (I : T2) (k : Nat) : Nat → Nat := fun x => if I 148 (8 + x) < 50 then (I 138 (3 * x + k)).toNatClampNeg else 0
def uM (I : T2) (k : Nat) : Nat → Nat := fun x => (I 139 (3 * x + k)).toNatClampNeg
def gtM (I : T2) (k G : Nat) : Nat → Nat := if I 137 k ≤ 0 then fun _ => 0 else if I 136 6 = 2 then (byF G (uM I k) (duM I k) 100 (fun _ => 0) (I 137 k).toNatClampNeg).1 else (eqF G (duM I k) (I 137 k).toNatClampNeg (fun _ => 0)).1
def sgM (I : T2) (k : Nat) (g : Nat → Nat) : Nat → T2
  | 0 => I
  | x + 1 => if g x = 0 then sgM I k g x else sM (up2 (sgM I k g x) 137 k (sgM I k g x 137 k - nI (g x))) (8 + x) 2 (nI x) (sgM I k g x 136 8 - 1 + nI k) (nI (g x)) 0
def enM (I I2 : T2) (k x : Nat) : Prop := (∀ o, o ≠ 138 → o ≠ 154 → o ≠ 155 → I2 o = I o) ∧ (∀ i, I2 138 i = if i % 3 = k ∧ i < 3 * x then 0 else I 138 i) ∧ ∀ y, y < x → I2 154 y = nI (duM I k y) ∧ I2 155 y = 0
def rdM (I : T2) (J : T3) (k G : Nat) (I' : T2) (J' : T3) : Prop := (∀ o, o ≠ 156 → J' o = J o) ∧ ∃ I2 : T2, (∀ o, o ≠ 138 → o ≠ 154 → o ≠ 155 → o ≠ 157 → I2 o = I o) ∧ (∀ i, I2 138 i = if i % 3 = k ∧ i < 3 * G then 0 else I 138 i) ∧ I' = sgM I2 k (gtM I k G) G
theorem sM_k {l j : Nat} {so g w u t : Int32} (hj : j ≠ 24) : sM I l so g w u t 136 j = I 136 j := by
  unfold sM snM kpM
  rw [ptM_k hj, up2_ne _ _ _ (by decide), up2_ne _ _ _ (by decide), up2_ne _ _ _ (by decide), up2_ne _ _ _ (by decide), up2_ne _ _ _ (by decide), up2_ne _ _ _ (by decide), up2_ne _ _ _ (by decide), up2_ne _ _ _ (by decide)]
theorem sM_148 {l j : Nat} {so g w u t : Int32} (hj : j ≠ l) : sM I l so g w u t 148 j = I 148 j := by
  unfold sM snM kpM
  rw [ptM_o (by decide) (by decide), up2_k _ _ _ hj, up2_ne _ _ _ (by decide), up2_ne _ _ _ (by decide), up2_ne _ _ _ (by decide), up2_ne _ _ _ (by decide), up2_ne _ _ _ (by decide), up2_ne _ _ _ (by decide), up2_ne _ _ _ (by decide)]
theorem sM_149 {l j : Nat} {so g w u t : Int32} (hj : j ≠ l) : sM I l so g w u t 149 j = I 149 j := by
  unfold sM snM kpM
  rw [ptM_o (by decide) (by decide), up2_ne _ _ _ (by decide), up2_ne _ _ _ (by decide), up2_ne _ _ _ (by decide), up2_ne _ _ _ (by decide), up2_ne _ _ _ (by decide), up2_ne _ _ _ (by decide), up2_ne _ _ _ (by decide), up2_k _ _ _ hj]
theorem sgM_o {k o : Nat} {g : Nat → Nat} (h0 : o ≠ 137) (h1 : o ≠ 136) (h2 : o ≠ 151) (h3 : o ≠ 147) (h4 : o ≠ 148) (h5 : o ≠ 149) : ∀ x, sgM I k g x o = I o
  | 0 => rfl
  | x + 1 => by
    show (if g x = 0 then sgM I k g x else _) o = _
    by_cases c : g x = 0
    · rw [if_pos c, sgM_o h0 h1 h2 h3 h4 h5 x]
    · rw [if_neg c, sM_o h1 h2 h3 h4 h5, up2_ne _ _ _ h0, sgM_o h0 h1 h2 h3 h4 h5 x]
theorem sgM_k {k j : Nat} {g : Nat → Nat} (hj : j ≠ 24) : ∀ x, sgM I k g x 136 j = I 136 j
  | 0 => rfl
  | x + 1 => by
    show (if g x = 0 then sgM I k g x else _) 136 j = _
    by_cases c : g x = 0
    · rw [if_pos c, sgM_k hj x]
    · rw [if_neg c, sM_k hj, up2_ne _ _ _ (by decide), sgM_k hj x]
theorem sgM_n {k : Nat} {g : Nat → Nat} (h : ∃ n, n ≤ 200 ∧ I 136 24 = nI n) : ∀ x, ∃ n, n ≤ 200 ∧ sgM I k g x 136 24 = nI n
  | 0 => h
  | x + 1 => by
    show ∃ n, n ≤ 200 ∧ (if g x = 0 then sgM I k g x else _) 136 24 = nI n
    obtain ⟨n, n1, n2⟩ := sgM_n (k := k) (g := g) h x
    by_cases c : g x = 0
    · rw [if_pos c]; exact ⟨n, n1, n2⟩
    · rw [if_neg c]
      exact ⟨plus n, plus_le n1, sM_n (by rw [up2_o _ _ _ _ (by decide)]; exact n2) n1⟩
theorem sgM_l {k y : Nat} {g : Nat → Nat} : ∀ x, x ≤ y → sgM I k g x 148 (8 + y) = I 148 (8 + y) ∧ sgM I k g x 149 (8 + y) = I 149 (8 + y)
  | 0, _ => ⟨rfl, rfl⟩
  | x + 1, h => by
    show (if g x = 0 then sgM I k g x else _) 148 (8 + y) = _ ∧ (if g x = 0 then sgM I k g x else _) 149 (8 + y) = _
    have ih := sgM_l (k := k) (g := g) (y := y) x (by omega)
    by_cases c : g x = 0
    · rw [if_pos c]; exact ih
    · rw [if_neg c, sM_148 (by omega), sM_149 (by omega), up2_ne _ _ _ (by decide), up2_ne _ _ _ (by decide)]; exact ih
theorem enM_s {I2 : T2} {k x : Nat} (hk : k < 3) (h : enM I I2 k x) {v : Int32} (hv : v = nI (duM I k x)) : enM I (up2 (up2 (up2 I2 154 x v) 155 x 0) 138 (3 * x + k) 0) k (x + 1) := by
  obtain ⟨h1, h2, h3⟩ := h
  refine ⟨fun o a b c => by rw [up2_ne _ _ _ a, up2_ne _ _ _ c, up2_ne _ _ _ b]; exact h1 o a b c, fun i => ?_, fun y hy => ?_⟩
  · rw [up2_v]
    by_cases c : i = 3 * x + k
    · rw [if_pos ⟨rfl, c⟩, if_pos (by omega)]
    · rw [if_neg (fun z => c z.2), up2_o _ _ _ _ (by decide), up2_o _ _ _ _ (by decide), h2 i]
      by_cases c2 : i % 3 = k ∧ i < 3 * x
      · rw [if_pos c2, if_pos (by omega)]
      · rw [if_neg c2, if_neg (by omega)]
  · rw [up2_o (o := 138) (a := 154) _ _ _ _ (by decide), up2_o (o := 138) (a := 155) _ _ _ _ (by decide), up2_o (o := 155) (a := 154) _ _ _ _ (by decide)]
    by_cases c : y = x
    · subst c
      rw [up2_s, up2_s]
      exact ⟨hv, rfl⟩
    · rw [up2_k _ 154 _ c, up2_k _ 155 _ c, up2_o (o := 154) (a := 155) _ _ _ _ (by decide)]
      exact h3 y (by omega)
theorem duM_l (k x : Nat) : duM I k x < 2 ^ 31 := by
  unfold duM
  by_cases c : I 148 (8 + x) < 50
  · rw [if_pos c]; exact cl_lt _
  · rw [if_neg c]; decide
theorem cl_ge {w : Int32} (h : ¬ w < 0) : w = nI w.toNatClampNeg := by
  obtain ⟨j, j1, j2⟩ := nI_of h
  rw [j2, nI_clamp j1]
/-- the loop of rounds -/
theorem sm_rounds {Φ : Out → T2 → T3 → Nat → Prop} {G k : Nat} {t : Int32} {du u : Nat → Nat} (hk : k < 3) (F : (Nat → Nat)) (K : ∀ x3 x4 (I' : T2) (J' : T3), (∀ o, o ≠ 156 → J' o = J o) → FrM I I' → Rq I' G du F → Ev (d + 3) 0 0 (fun _ => 0) mX7_split 168 [some (.ref 136), some (.int t), some (.int (nI k)), some (.int x3), some (.int x4), none] [] I' J' 0 Φ) (hu : Ru I G k u) (h2 : I 136 6 = 2) : ∀ (c L : Nat) (g : Nat → Nat) (I1 : T2) (J1 : T3), cwF du g G ≤ c → 0 < L → L < 2 ^ 31 → (∀ o, o ≠ 156 → J1 o = J o) → FrM I I1 → Rq I1 G du g → (byF G u du (c + 1) g L).1 = F → Ev (d + 3) 0 0 (fun _ => 0) mX7_split 117 [some (.ref 136), some (.int t), some (.int (nI k)), some (.int (nI L)), some (.int 1), none] [] I1 J1 0 Φ := by
  -- one round
  have one : ∀ (L : Nat) (g : Nat → Nat) (I1 : T2) (J1 : T3), L < 2 ^ 31 → (∀ o, o ≠ 156 → J1 o = J o) → FrM I I1 → Rq I1 G du g → (rdQ G u du g L).2 < 2 ^ 31 → (∀ (I2 : T2) (J2 : T3), (∀ o, o ≠ 156 → J2 o = J o) → FrM I I2 → Rq I2 G du (rdQ G u du g L).1 → (¬ (0 < (rdQ G u du g L).2 ∧ (rdQ G u du g L).2 < L) → (rdQ G u du g L).1 = F) ∧ ((0 < (rdQ G u du g L).2 ∧ (rdQ G u du g L).2 < L) → Ev (d + 3) 0 0 (fun _ => 0) mX7_split 117 [some (.ref 136), some (.int t), some (.int (nI k)), some (.int (nI (rdQ G u du g L).2)), some (.int 1), none] [] I2 J2 0 Φ)) → Ev (d + 3) 0 0 (fun _ => 0) mX7_split 117 [some (.ref 136), some (.int t), some (.int (nI k)), some (.int (nI L)), some (.int 1), none] [] I1 J1 0 Φ := by
    intro L g I1 J1 hL f1 f2 f3 hq KK
    refine BX7_split_117 ?_
    refine IX7_split_119 (fun z => absurd z (by decide)) (fun _ => ?_)
    refine BX7_split_122 ?_
    rw [f2 136 (by decide) (by decide), h2]
    refine IX7_split_130 (fun z => absurd rfl z) (fun _ => ?_)
    refine BX7_split_133 ?_
    have hu1 : Ru I1 G k u := fun x hx => by rw [f2 139 (by decide) (by decide)]; exact hu x hx
    refine CX7_split_136 (sm_byUse f3 hu1 hk hL) (Nat.zero_le _) (fun v I2 J2 q2 => ?_)
    obtain ⟨rfl, e1, e2, e3⟩ := q2
    refine BX7_split_139 ?_
    refine BX7_split_147 ?_
    have KK' := KK I2 J2 (fun o ho => by rw [e1 o ho, f1 o ho]) (fun o o1 o2 => by rw [e2 o o1 o2, f2 o o1 o2]) e3
    have stop : ¬ (0 < (rdQ G u du g L).2 ∧ (rdQ G u du g L).2 < L) → Ev (d + 3) 0 0 (fun _ => 0) mX7_split 162 [some (.ref 136), some (.int t), some (.int (nI k)), some (.int (nI (rdQ G u du g L).2)), some (.int 1), some (.int (nI L))] [] I2 J2 0 Φ := fun c => by
      refine BX7_split_162 ?_
      refine BX7_split_163 ?_
      refine Ev.weak (ls' := [some (.ref 136), some (.int t), some (.int (nI k)), some (.int (nI (rdQ G u du g L).2)), some (.int 0), none]) ⟨Or.inr rfl, Or.inr rfl, Or.inr rfl, Or.inr rfl, Or.inr rfl, Or.inl rfl, trivial⟩ ?_
      refine BX7_split_117 ?_
      refine IX7_split_119 (fun _ => ?_) (fun z => absurd rfl z)
      refine K _ _ I2 J2 (fun o ho => by rw [e1 o ho, f1 o ho]) (fun o o1 o2 => by rw [e2 o o1 o2, f2 o o1 o2]) ?_
      rw [← KK'.1 c]
      exact e3
    by_cases c1 : (rdQ G u du g L).2 = 0
    · exact IX7_split_149 (fun _ => stop (by omega)) (fun z => absurd (by rw [c1]; decide) z)
    · refine IX7_split_149 (fun z => absurd z (nI_nle (by omega) hq)) (fun _ => ?_)
      refine BX7_split_152 ?_
      by_cases c2 : (rdQ G u du g L).2 < L
      · refine IX7_split_155 (fun z => absurd z (nI_ge c2 hL)) (fun _ => ?_)
        refine BX7_split_158 ?_
        refine BX7_split_163 ?_
        refine Ev.weak (ls' := [some (.ref 136), some (.int t), some (.int (nI k)), some (.int (nI (rdQ G u du g L).2)), some (.int 1), none]) ⟨Or.inr rfl, Or.inr rfl, Or.inr rfl, Or.inr rfl, Or.inr rfl, Or.inl rfl, trivial⟩ ?_
        exact KK'.2 ⟨by omega, c2⟩
      · exact IX7_split_155 (fun _ => stop (by omega)) (fun z => absurd (nI_le (by omega) hq) z)
  intro c
  induction c with
  | zero =>
    intro L g I1 J1 hc hL0 hL f1 f2 f3 hF
    have cw : cwF du g G = 0 := by omega
    have eQ : rdQ G u du g L = (g, L) := by
      show (if smF u du g G = 0 then _ else _) = _
      rw [if_pos (sm_w cw), eq_w cw]
    refine one L g I1 J1 hL f1 f2 f3 (by rw [eQ]; exact hL) (fun I2 J2 a1 a2 a3 => ⟨fun _ => ?_, fun z => ?_⟩)
    · rw [eQ, ← hF, by_s, if_pos (Or.inr cw)]
    · rw [eQ] at z; exact absurd z.2 (Nat.lt_irrefl _)
  | succ c ih =>
    intro L g I1 J1 hc hL0 hL f1 f2 f3 hF
    have gle : ∀ y, y < G → g y ≤ du y := fun y hy => (f3.2.2 y hy).2.2.1
    by_cases cw : cwF du g G = 0
    · have eQ : rdQ G u du g L = (g, L) := by
        show (if smF u du g G = 0 then _ else _) = _
        rw [if_pos (sm_w cw), eq_w cw]
      refine one L g I1 J1 hL f1 f2 f3 (by rw [eQ]; exact hL) (fun I2 J2 a1 a2 a3 => ⟨fun _ => ?_, fun z => ?_⟩)
      · rw [eQ, ← hF, by_s, if_pos (Or.inr cw)]
      · rw [eQ] at z; exact absurd z.2 (Nat.lt_irrefl _)
    · rw [by_s, if_neg (by omega)] at hF
      by_cases cs : smF u du g G = 0
      · rw [if_pos cs] at hF
        have eQ : rdQ G u du g L = eqF G du L g := if_pos cs
        have el := eq_le (n := G) (du := du) (m := L) gle
        rw [← eQ] at el
        refine one L g I1 J1 hL f1 f2 f3 (by omega) (fun I2 J2 a1 a2 a3 => ⟨fun _ => by rw [eQ, hF], fun z => ?_⟩)
        refine ih _ _ I2 J2 ?_ z.1 (by omega) a1 a2 a3 ?_
        · rw [eQ, eq_stop (by rw [← eQ]; exact z.1)]; exact Nat.zero_le _
        · rw [by_s, if_pos (Or.inr (by rw [eQ, eq_stop (by rw [← eQ]; exact z.1)])), eQ, hF]
      · rw [if_neg cs] at hF
        have eQ : rdQ G u du g L = rdF G u du g L := if_neg cs
        have el := rd_le (n := G) (u := u) (du := du) (L := L) gle
        rw [← eQ] at el
        refine one L g I1 J1 hL f1 f2 f3 (by omega) (fun I2 J2 a1 a2 a3 => ⟨fun z => ?_, fun z => ?_⟩)
        · have q0 : (rdQ G u du g L).2 = 0 := by
            by_cases c0 : (rdQ G u du g L).2 = 0
            · exact c0
            · have := rd_dec (n := G) (u := u) (du := du) (g := g) (L := L) gle (by omega) (by rw [← eQ]; omega)
              rw [← eQ] at this
              omega
          rw [← hF, eQ, by_s, if_pos (Or.inl (by rw [← eQ]; exact q0))]
        · have := rd_dec (n := G) (u := u) (du := du) (g := g) (L := L) gle (by omega) (by rw [← eQ]; exact z.1)
          refine ih _ _ I2 J2 ?_ z.1 (by omega) a1 a2 a3 (by rw [eQ, hF])
          rw [eQ]; omega
/-- equally -/
theorem sm_rounds1 {Φ : Out → T2 → T3 → Nat → Prop} {G k : Nat} {t : Int32} {du : Nat → Nat} (F : (Nat → Nat)) (K : ∀ x3 x4 (I' : T2) (J' : T3), (∀ o, o ≠ 156 → J' o = J o) → FrM I I' → Rq I' G du F → Ev (d + 3) 0 0 (fun _ => 0) mX7_split 168 [some (.ref 136), some (.int t), some (.int (nI k)), some (.int x3), some (.int x4), none] [] I' J' 0 Φ) (h2 : ¬ I 136 6 = 2) : ∀ (c L : Nat) (g : Nat → Nat) (I1 : T2), (c = 0 → cwF du g G = 0) → L < 2 ^ 31 → FrM I I1 → Rq I1 G du g → (eqF G du L g).1 = F → Ev (d + 3) 0 0 (fun _ => 0) mX7_split 117 [some (.ref 136), some (.int t), some (.int (nI k)), some (.int (nI L)), some (.int 1), none] [] I1 J 0 Φ := by
  intro c
  induction c with
  | zero =>
    intro L g I1 hc hL f2 f3 hF
    have cw := hc rfl
    refine BX7_split_117 ?_
    refine IX7_split_119 (fun z => absurd z (by decide)) (fun _ => ?_)
    refine BX7_split_122 ?_
    rw [f2 136 (by decide) (by decide)]
    refine IX7_split_130 (fun _ => ?_) (fun z => absurd h2 z)
    refine BX7_split_142 ?_
    refine CX7_split_144 (sm_equal f3 hL) (Nat.zero_le _) (fun v I2 J2 q2 => ?_)
    obtain ⟨rfl, rfl, e2, e3⟩ := q2
    refine BX7_split_147 ?_
    rw [eq_w cw] at e3 hF ⊢
    have stop : Ev (d + 3) 0 0 (fun _ => 0) mX7_split 162 [some (.ref 136), some (.int t), some (.int (nI k)), some (.int (nI L)), some (.int 1), some (.int (nI L))] [] I2 J 0 Φ := by
      refine BX7_split_162 ?_
      refine BX7_split_163 ?_
      refine Ev.weak (ls' := [some (.ref 136), some (.int t), some (.int (nI k)), some (.int (nI L)), some (.int 0), none]) ⟨Or.inr rfl, Or.inr rfl, Or.inr rfl, Or.inr rfl, Or.inr rfl, Or.inl rfl, trivial⟩ ?_
      refine BX7_split_117 ?_
      refine IX7_split_119 (fun _ => ?_) (fun z => absurd rfl z)
      refine K _ _ I2 J (fun _ _ => rfl) (fun o o1 o2 => by rw [e2 o o1, f2 o o1 o2]) ?_
      rw [← hF]
      exact e3
    refine IX7_split_149 (fun _ => stop) (fun _ => ?_)
    refine BX7_split_152 ?_
    exact IX7_split_155 (fun _ => stop) (fun z => absurd (nI_le (Nat.le_refl _) hL) z)
  | succ c ih =>
    intro L g I1 hc hL f2 f3 hF
    have gle : ∀ y, y < G → g y ≤ du y := fun y hy => (f3.2.2 y hy).2.2.1
    have el := eq_le (n := G) (du := du) (m := L) gle
    refine BX7_split_117 ?_
    refine IX7_split_119 (fun z => absurd z (by decide)) (fun _ => ?_)
    refine BX7_split_122 ?_
    rw [f2 136 (by decide) (by decide)]
    refine IX7_split_130 (fun _ => ?_) (fun z => absurd h2 z)
    refine BX7_split_142 ?_
    refine CX7_split_144 (sm_equal f3 hL) (Nat.zero_le _) (fun v I2 J2 q2 => ?_)
    obtain ⟨rfl, rfl, e2, e3⟩ := q2
    refine BX7_split_147 ?_
    have fr : FrM I I2 := fun o o1 o2 => by rw [e2 o o1, f2 o o1 o2]
    have stop : Ev (d + 3) 0 0 (fun _ => 0) mX7_split 162 [some (.ref 136), some (.int t), some (.int (nI k)), some (.int (nI (eqF G du L g).2)), some (.int 1), some (.int (nI L))] [] I2 J 0 Φ := by
      refine BX7_split_162 ?_
      refine BX7_split_163 ?_
      refine Ev.weak (ls' := [some (.ref 136), some (.int t), some (.int (nI k)), some (.int (nI (eqF G du L g).2)), some (.int 0), none]) ⟨Or.inr rfl, Or.inr rfl, Or.inr rfl, Or.inr rfl, Or.inr rfl, Or.inl rfl, trivial⟩ ?_
      refine BX7_split_117 ?_
      refine IX7_split_119 (fun _ => ?_) (fun z => absurd rfl z)
      refine K _ _ I2 J (fun _ _ => rfl) fr ?_
      rw [← hF]
      exact e3
    by_cases c1 : (eqF G du L g).2 = 0
    · exact IX7_split_149 (fun _ => stop) (fun z => absurd (by rw [c1]; decide) z)
    · refine IX7_split_149 (fun z => absurd z (nI_nle (by omega) (by omega))) (fun _ => ?_)
      refine BX7_split_152 ?_
      by_cases c2 : (eqF G du L g).2 < L
      · refine IX7_split_155 (fun z => absurd z (nI_ge c2 hL)) (fun _ => ?_)
        refine BX7_split_158 ?_
        refine BX7_split_163 ?_
        refine Ev.weak (ls' := [some (.ref 136), some (.int t), some (.int (nI k)), some (.int (nI (eqF G du L g).2)), some (.int 1), none]) ⟨Or.inr rfl, Or.inr rfl, Or.inr rfl, Or.inr rfl, Or.inr rfl, Or.inl rfl, trivial⟩ ?_
        have cw := eq_stop (n := G) (du := du) (m := L) (g := g) (by omega)
        exact ih _ _ I2 (fun _ => cw) (by omega) fr e3 (by rw [eq_w cw, hF])
      · exact IX7_split_155 (fun _ => stop) (fun z => absurd (nI_le (by omega) (by omega)) z)
set_option maxHeartbeats 2000000 in
theorem sm_round {Φ : Out → T2 → T3 → Nat → Prop} {G k t : Nat} (hk : k < 3) (hG : I 136 4 = nI G) (hG8 : G ≤ 8) (hm : MOk I) (hw : ∀ x, x < G → ¬ I 138 (3 * x + k) < 0) (ht : ∀ x, x < G → ¬ I 139 (3 * x + k) < 0) (K : ∀ (I' : T2) (J' : T3), rdM I J k G I' J' → Ev (d + 3) 0 0 (fun _ => 0) mX7_split 29 [some (.ref 136), some (.int (nI (t + sF (gtM I k G) G))), some (.int (nI (k + 1))), none, none, none] [] I' J' 0 Φ) : Ev (d + 3) 0 0 (fun _ => 0) mX7_split 29 [some (.ref 136), some (.int (nI t)), some (.int (nI k)), none, none, none] [] I J 0 Φ := by
  refine BX7_split_29 ?_
  refine IX7_split_31 (fun z => absurd z (nI_ge (b := 3) hk (by decide))) (fun _ => ?_)
  refine BX7_split_34 ?_
  -- the sending
  have send : ∀ (x3 x4 : Int32) (I2 : T2) (J2 : T3), (∀ o, o ≠ 156 → J2 o = J o) → (∀ o, o ≠ 138 → o ≠ 154 → o ≠ 155 → o ≠ 157 → I2 o = I o) → (∀ i, I2 138 i = if i % 3 = k ∧ i < 3 * G then 0 else I 138 i) → (∀ y, y < G → I2 155 y = nI (gtM I k G y) ∧ gtM I k G y ≤ duM I k y) → Ev (d + 3) 0 0 (fun _ => 0) mX7_split 168 [some (.ref 136), some (.int (nI t)), some (.int (nI k)), some (.int x3), some (.int x4), none] [] I2 J2 0 Φ := by
    intro x3 x4 I2 J2 f1 f2 f3 f4
    have e136 : I2 136 = I 136 := f2 136 (by decide) (by decide) (by decide) (by decide)
    have e148 : I2 148 = I 148 := f2 148 (by decide) (by decide) (by decide) (by decide)
    have e149 : I2 149 = I 149 := f2 149 (by decide) (by decide) (by decide) (by decide)
    have key : ∀ q x : Nat, x + q = G → Ev (d + 3) 0 0 (fun _ => 0) mX7_split 171 [some (.ref 136), some (.int (nI (t + sF (gtM I k G) x))), some (.int (nI k)), some (.int x3), some (.int x4), some (.int (nI x))] [] (sgM I2 k (gtM I k G) x) J2 0 Φ := by
      intro q
      induction q with
      | zero =>
        intro x hx
        have hxG : x = G := by omega
        refine BX7_split_171 ?_
        rw [sgM_k (by decide), e136, hG, hxG]
        refine IX7_split_177 (fun _ => ?_) (fun z => absurd (nI_le (Nat.le_refl _) (by omega)) z)
        refine BX7_split_250 ?_
        rw [nI_1]
        refine Ev.weak (ls' := [some (.ref 136), some (.int (nI (t + sF (gtM I k G) G))), some (.int (nI (k + 1))), none, none, none]) ⟨Or.inr rfl, Or.inr rfl, Or.inr rfl, Or.inl rfl, Or.inl rfl, Or.inl rfl, trivial⟩ ?_
        exact K _ _ ⟨f1, I2, f2, f3, rfl⟩
      | succ q ih =>
        intro x hx
        obtain ⟨a1, a2⟩ := f4 x (by omega)
        have a3 := duM_l (I := I) k x
        have e155 : sgM I2 k (gtM I k G) x 155 x = nI (gtM I k G x) := by rw [sgM_o (by decide) (by decide) (by decide) (by decide) (by decide) (by decide), a1]
        have ih' := ih (x + 1) (by omega)
        rw [show sF (gtM I k G) (x + 1) = sF (gtM I k G) x + gtM I k G x from rfl, show sgM I2 k (gtM I k G) (x + 1) = if gtM I k G x = 0 then sgM I2 k (gtM I k G) x else sM (up2 (sgM I2 k (gtM I k G) x) 137 k (sgM I2 k (gtM I k G) x 137 k - nI (gtM I k G x))) (8 + x) 2 (nI x) (sgM I2 k (gtM I k G) x 136 8 - 1 + nI k) (nI (gtM I k G x)) 0 from rfl] at ih'
        refine BX7_split_171 ?_
        rw [sgM_k (by decide), e136, hG]
        refine IX7_split_177 (fun z => absurd z (nI_ge (by omega) (by omega))) (fun _ => ?_)
        refine BX7_split_180 (vp_in_nI (by omega) (by decide)) ?_
        rw [nI_clamp (by omega), e155]
        by_cases c : gtM I k G x = 0
        · rw [if_pos c, c, Nat.add_zero] at ih'
          refine IX7_split_187 (fun _ => ?_) (fun z => absurd (by rw [c]; decide) z)
          refine BX7_split_244 ?_
          rw [nI_1]
          exact ih'
        · rw [if_neg c] at ih'
          refine IX7_split_187 (fun z => absurd z (nI_nle (by omega) (by omega))) (fun _ => ?_)
          refine BX7_split_190 (vp_in_nI hk (by decide)) (vp_in_nI (by omega) (by decide)) ?_
          rw [nI_clamp (show k < 2 ^ 31 by omega), nI_clamp (show x < 2 ^ 31 by omega), up2_o (o := 137) (a := 155) _ _ _ _ (by decide), up2_o (o := 137) (a := 136) _ _ _ _ (by decide), e155, n8_, nI_add]
          have l1 := (sgM_l (I := I2) (k := k) (g := gtM I k G) (y := x) x (Nat.le_refl _)).1
          have l2 := (sgM_l (I := I2) (k := k) (g := gtM I k G) (y := x) x (Nat.le_refl _)).2
          rw [e148] at l1
          rw [e149] at l2
          obtain ⟨n, n1, n2⟩ := sgM_n (I := I2) (k := k) (g := gtM I k G) (by rw [e136]; exact hm.1) x
          obtain ⟨⟨s, s1, s2⟩, ⟨j, j1, j2⟩⟩ := hm.2 (8 + x) (by omega)
          have j3 : j < 50 := by
            by_cases c9 : I 148 (8 + x) < 50
            · rw [j2] at c9
              exact (nI_ltI (b := 50) (by omega) (by decide)).mp c9
            · have : duM I k x = 0 := if_neg c9
              omega
          refine CX7_split_241 (sm_send' (n := n) (l := 8 + x) (s := s) (k := j) (by rw [up2_o _ _ _ _ (by decide)]; exact n2) n1 (by omega) (by rw [up2_o _ _ _ _ (by decide), l2]; exact s2) (by omega) (by rw [up2_o _ _ _ _ (by decide), l1]; exact j2) j3 _ _ _ _ _) (Nat.zero_le _) (fun v I3 J3 q3 => ?_)
          obtain ⟨rfl, rfl, rfl⟩ := q3
          refine BX7_split_244 ?_
          rw [nI_1]
          rw [← Nat.add_assoc] at ih'
          exact ih'
    refine BX7_split_168 ?_
    exact key G 0 (Nat.zero_add _)
  have key : ∀ q x : Nat, x + q = G → ∀ I2 : T2, enM I I2 k x → Ev (d + 3) 0 0 (fun _ => 0) mX7_split 36 [some (.ref 136), some (.int (nI t)), some (.int (nI k)), some (.int (nI x)), none, none] [] I2 J 0 Φ := by
    intro q
    induction q with
    | zero =>
      intro x hx I2 he
      have hxG : x = G := by omega
      subst hxG
      obtain ⟨h1, h2, h3⟩ := he
      refine BX7_split_36 ?_
      rw [h1 136 (by decide) (by decide) (by decide), hG]
      refine IX7_split_41 (fun _ => ?_) (fun z => absurd (nI_le (Nat.le_refl _) (by omega)) z)
      refine BX7_split_99 (vp_in_nI hk (by decide)) ?_
      rw [nI_clamp (by omega), h1 137 (by decide) (by decide) (by decide)]
      have rq : Rq I2 x (duM I k) (fun _ => 0) := ⟨by rw [h1 136 (by decide) (by decide) (by decide)]; exact hG, hG8, fun y hy => ⟨(h3 y hy).2, (h3 y hy).1, Nat.zero_le _, duM_l k y⟩⟩
      by_cases c : I 137 k ≤ 0
      · refine IX7_split_107 (fun _ => ?_) (fun z => absurd c z)
        refine BX7_split_114 ?_
        refine BX7_split_115 ?_
        refine BX7_split_117 ?_
        refine IX7_split_119 (fun _ => ?_) (fun z => absurd rfl z)
        have e0 : gtM I k x = fun _ => 0 := if_pos c
        refine send _ _ I2 J (fun _ _ => rfl) (fun o a b e _ => h1 o a b e) h2 (fun y hy => ?_)
        rw [e0]
        exact ⟨(h3 y hy).2, Nat.zero_le _⟩
      · refine IX7_split_107 (fun z => absurd z c) (fun _ => ?_)
        refine BX7_split_110 ?_
        refine BX7_split_115 ?_
        have cn : ¬ I 137 k < 0 := fun z => c (Int32.le_of_lt z)
        have eL := cl_ge cn
        have l0 : 0 < (I 137 k).toNatClampNeg := Nat.pos_of_ne_zero fun z => c (by rw [eL, z]; decide)
        have lL := cl_lt (I 137 k)
        rw [eL]
        have K2 : ∀ F : Nat → Nat, gtM I k x = F → ∀ (x3 x4 : Int32) (I' : T2) (J' : T3), (∀ o, o ≠ 156 → J' o = J o) → FrM I2 I' → Rq I' x (duM I k) F → Ev (d + 3) 0 0 (fun _ => 0) mX7_split 168 [some (.ref 136), some (.int (nI t)), some (.int (nI k)), some (.int x3), some (.int x4), none] [] I' J' 0 Φ := by
          intro F eF x3 x4 I' J' a1 a2 a3
          refine send x3 x4 I' J' a1 (fun o b1 b2 b3 b4 => by rw [a2 o b3 b4, h1 o b1 b2 b3]) (fun i => by rw [a2 138 (by decide) (by decide), h2 i]) (fun y hy => ?_)
          rw [eF]
          exact ⟨(a3.2.2 y hy).1, (a3.2.2 y hy).2.2.1⟩
        by_cases c2 : I 136 6 = 2
        · have eF : gtM I k x = (byF x (uM I k) (duM I k) 100 (fun _ => 0) (I 137 k).toNatClampNeg).1 := by
            show (if I 137 k ≤ 0 then _ else if I 136 6 = 2 then _ else _) = _
            rw [if_neg c, if_pos c2]
          refine sm_rounds (I := I2) (J := J) (u := uM I k) hk _ (K2 _ eF) (fun y hy => ?_) (by rw [h1 136 (by decide) (by decide) (by decide)]; exact c2) 99 _ (fun _ => 0) I2 J (Nat.le_trans (cw_le _ _ _) (by omega)) l0 lL (fun _ _ => rfl) (fun _ _ _ => rfl) rq rfl
          rw [h1 139 (by decide) (by decide) (by decide)]
          exact ⟨cl_ge (ht y hy), cl_lt _⟩
        · have eF : gtM I k x = (eqF x (duM I k) (I 137 k).toNatClampNeg (fun _ => 0)).1 := by
            show (if I 137 k ≤ 0 then _ else if I 136 6 = 2 then _ else _) = _
            rw [if_neg c, if_neg c2]
          exact sm_rounds1 (I := I2) (J := J) _ (K2 _ eF) (by rw [h1 136 (by decide) (by decide) (by decide)]; exact c2) 1 _ (fun _ => 0) I2 (fun z => absurd z (by decide)) lL (fun _ _ _ => rfl) rq rfl
    | succ q ih =>
      intro x hx I2 he
      refine BX7_split_36 ?_
      rw [he.1 136 (by decide) (by decide) (by decide), hG]
      refine IX7_split_41 (fun z => absurd z (nI_ge (by omega) (by omega))) (fun _ => ?_)
      refine BX7_split_44 ?_
      rw [n8_]
      refine CX7_split_54 (sm_canSend (by omega)) (Nat.zero_le _) (fun v I3 J3 q3 => ?_)
      obtain ⟨rfl, rfl, rfl⟩ := q3
      have ecs : csM I2 (8 + x) = if I 148 (8 + x) < 50 then 1 else 0 := by
        unfold csM
        rw [he.1 148 (by decide) (by decide) (by decide)]
      rw [ecs]
      have nx : ∀ v : Int32, v = nI (duM I k x) → Ev (d + 3) 0 0 (fun _ => 0) mX7_split 74 [some (.ref 136), some (.int (nI t)), some (.int (nI k)), some (.int (nI x)), none, none] [.int v, .int (nI x), .ref 154] I2 J 0 Φ := fun v hv => by
        refine BX7_split_74 (by decide) (vp_in_nI (show x < 8 by omega) (by decide)) (vp_in_nI (by omega) (by decide)) (by rw [mul3', nI_add]; exact vp_in_nI (by omega) (by decide)) ?_
        rw [mul3', nI_add, nI_clamp (by omega), nI_clamp (by omega), nI_1]
        exact ih (x + 1) (by omega) _ (enM_s hk he hv)
      have e138 : I2 138 (3 * x + k) = I 138 (3 * x + k) := by rw [he.2.1, if_neg (by omega)]
      by_cases c : I 148 (8 + x) < 50
      · rw [if_pos c]
        refine IX7_split_57 (fun z => absurd z (by decide)) (fun _ => ?_)
        refine BX7_split_60 (by rw [mul3', nI_add]; exact vp_in_nI (by omega) (by decide)) ?_
        rw [mul3', nI_add, nI_clamp (by omega), e138]
        refine nx _ ?_
        rw [show duM I k x = (I 138 (3 * x + k)).toNatClampNeg from if_pos c]
        exact cl_ge (hw x (by omega))
      · rw [if_neg c]
        refine IX7_split_57 (fun _ => ?_) (fun z => absurd rfl z)
        refine BX7_split_73 ?_
        refine nx _ ?_
        rw [show duM I k x = 0 from if_neg c]
        rfl
  exact key G 0 (Nat.zero_add _) I ⟨fun _ _ _ _ => rfl, fun i => by rw [if_neg (by omega)], fun y hy => absurd hy (Nat.not_lt_zero _)⟩
theorem sm_split {G : Nat} (hG8 : G ≤ 8) (hu : I 136 7 = 0) (P : Nat → Nat → T2 → T3 → Prop) (h0 : P 0 0 (tw I 0) J) (hst : ∀ k t I1 J1, k < 3 → P k t I1 J1 → I1 136 4 = nI G ∧ MOk I1 ∧ (∀ x, x < G → ¬ I1 138 (3 * x + k) < 0) ∧ (∀ x, x < G → ¬ I1 139 (3 * x + k) < 0) ∧ ∀ I' J', rdM I1 J1 k G I' J' → P (k + 1) (t + sF (gtM I1 k G) G) I' J') : Mt (d + 3) mX7_split [.ref 136] I J (fun v I' J' => ∃ t, v = some (.int (nI t)) ∧ P 3 t I' J') := by
  refine Mt.of (by decide +kernel) (Nat.le_of_ble_eq_true rfl) ?_
  refine BX7_split_0 ?_
  refine IX7_split_5 (fun _ => ?_) (fun z => absurd hu z)
  refine BX7_split_12 ?_
  refine BX7_split_13 ?_
  refine IX7_split_20 (fun _ => ?_) (fun z => absurd (by rw [up2_s]; decide) z)
  refine BX7_split_25 ?_
  have key : ∀ q k : Nat, k + q = 3 → ∀ (t : Nat) (I1 : T2) (J1 : T3), P k t I1 J1 → Ev (d + 3) 0 0 (fun _ => 0) mX7_split 29 [some (.ref 136), some (.int (nI t)), some (.int (nI k)), none, none, none] [] I1 J1 0 (fun o I' J' _ => ∃ v, o = .inl v ∧ ∃ t, v = some (.int (nI t)) ∧ P 3 t I' J') := by
    intro q
    induction q with
    | zero =>
      intro k hk t I1 J1 hp
      have hk3 : k = 3 := by omega
      subst hk3
      refine BX7_split_29 ?_
      refine IX7_split_31 (fun _ => ?_) (fun z => absurd (show (3 : Int32) ≤ nI 3 from by decide) z)
      refine BX7_split_256 ?_
      exact RX7_split_257 (Nat.zero_le _) ⟨_, rfl, t, rfl, hp⟩
    | succ q ih =>
      intro k hk t I1 J1 hp
      obtain ⟨a1, a2, a3, a4, a5⟩ := hst k t I1 J1 (by omega) hp
      exact sm_round (by omega) a1 hG8 a2 a3 a4 (fun I' J' h => ih (k + 1) (by omega) _ I' J' (a5 I' J' h))
  exact key 3 0 rfl 0 (tw I 0) J h0
theorem sm_splitS (hu : ¬ I 136 7 = 0) : Mt (d + 3) mX7_split [.ref 136] I J (RI 0 (tw I 1) J) := by
  refine Mt.of (by decide +kernel) (Nat.le_of_ble_eq_true rfl) ?_
  refine BX7_split_0  ?_
  refine IX7_split_5 (fun c5 => absurd c5 hu) (fun c5 => ?_)
  refine BX7_split_8  ?_
  refine BX7_split_13  ?_
  refine IX7_split_20 (fun c20 => absurd c20 (by rw [up2_s]; decide)) (fun c20 => ?_)
  refine BX7_split_23  ?_
  exact RX7_split_24  (Nat.zero_le _) ⟨_, rfl, ⟨rfl, rfl, rfl⟩⟩
end RF12

