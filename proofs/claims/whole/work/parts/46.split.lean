/-! sharing out and split: the class's -/
def duC (I : T2) (σ G : Nat) : Nat → Nat := fun x => if x < G ∧ shC I (gP x + 9) = 0 then (I (4 + 1 + σ) x).toNatClampNeg else 0
def usC (I : T2) (σ G : Nat) : Nat → Nat := fun x => if x < G ∧ shC I (gP x + 9) = 0 then (I (8 + 1 + σ) x).toNatClampNeg else 0
/-- what each gets -/
def gtC (I : T2) (σ G : Nat) : Nat → Nat := if I 3 σ ≤ 0 then fun _ => 0 else if I 2 5 = 2 then (byF 8 (usC I σ G) (duC I σ G) 100 (fun _ => 0) (I 3 σ).toNatClampNeg).1 else (eqF 8 (duC I σ G) (I 3 σ).toNatClampNeg (fun _ => 0)).1
/-- the first k have entered -/
def enP (I : T2) (σ k : Nat) (I' : T2) : Prop := (∀ o, o ≠ 14 → o ≠ 15 → o ≠ 16 → o ≠ 17 → I' o = I o) ∧ I' 14 4 = I 3 σ ∧ ∀ x, x < 8 → I' 17 x = 0 ∧ I' 15 x = (if x < k ∧ shC I (gP x + 9) = 0 then I (4 + 1 + σ) x else 0) ∧ I' 16 x = (if x < k ∧ shC I (gP x + 9) = 0 then I (8 + 1 + σ) x else 0)
def grF (I : T2) (w : Int32) (g : Nat → Nat) (s : Nat → Nat) : Nat → T2
  | 0 => I
  | k + 1 => grC (grF I w g s k) (gP k) (s k) w (nI (g k))
section SP
variable {d : Nat} {I : T2} {J : T3} {G σ : Nat}
theorem sndC_o {a s o : Nat} {so w n t : Int32} (h0 : o ≠ a) (h1 : o ≠ a + 1) (h2 : o ≠ a + 2) (h3 : o ≠ a + 3) (h4 : o ≠ a + 4) (h12 : o ≠ 12) (h13 : o ≠ 13) : sndC I a s so w n t o = I o := by
  unfold sndC rgC
  rw [putC_o h12 h13, up2_ne _ _ _ h4, up2_ne _ _ _ h3, up2_ne _ _ _ h2, up2_ne _ _ _ h1, up2_ne _ _ _ h0]
theorem grC_o {a s o : Nat} {w n : Int32} (h3 : o ≠ 3) (h12 : o ≠ 12) (h13 : o ≠ 13) (h : o < a + 9 ∨ a + 13 < o) : grC I a s w n o = I o := by
  unfold grC
  by_cases c : n ≤ 0
  · rw [if_pos c]
  · rw [if_neg c, sndC_o (by omega) (by omega) (by omega) (by omega) (by omega) h12 h13, auC_o h3]
theorem grF_o {w : Int32} {g s : Nat → Nat} {o : Nat} (h3 : o ≠ 3) (h12 : o ≠ 12) (h13 : o ≠ 13) : ∀ k, (∀ x, x < k → o < gP x + 9 ∨ gP x + 13 < o) → grF I w g s k o = I o
  | 0, _ => rfl
  | k + 1, h => by
    show grC _ _ _ _ _ o = _
    rw [grC_o h3 h12 h13 (h k (by omega)), grF_o h3 h12 h13 k (fun x hx => h x (by omega))]
theorem grF_ok {w : Int32} {g s : Nat → Nat} {f m : Nat} (h : PlOk I f m) : ∀ k, ∃ m', PlOk (grF I w g s k) f m'
  | 0 => ⟨m, h⟩
  | k + 1 => by
    obtain ⟨m', h'⟩ := grF_ok (w := w) (g := g) (s := s) h k
    exact grC_ok (by show 24 ≤ 24 + 14 * k; omega) h'
theorem enP_s {k : Nat} {I' : T2} (hk : k < 8) (h : enP I σ k I') (ho : shC I (gP k + 9) = 0) : enP I σ (k + 1) (up2 (up2 I' 15 k (I (4 + 1 + σ) k)) 16 k (I (8 + 1 + σ) k)) := by
  obtain ⟨h1, h2, h3⟩ := h
  refine ⟨fun o a b c e => by rw [up2_ne _ _ _ c, up2_ne _ _ _ b]; exact h1 o a b c e, by rw [up2_o _ _ _ _ (by decide), up2_o _ _ _ _ (by decide)]; exact h2, fun x hx => ?_⟩
  obtain ⟨a1, a2, a3⟩ := h3 x hx
  have e17 : up2 (up2 I' 15 k (I (4 + 1 + σ) k)) 16 k (I (8 + 1 + σ) k) 17 x = 0 := by rw [up2_o _ _ _ _ (by decide), up2_o _ _ _ _ (by decide)]; exact a1
  refine ⟨e17, ?_, ?_⟩
  · rw [up2_o _ _ _ _ (by decide), up2_v, a2]
    by_cases c : x = k
    · subst c
      rw [if_pos ⟨rfl, rfl⟩, if_pos ⟨Nat.lt_succ_self _, ho⟩]
    · rw [if_neg (fun z => c z.2)]
      by_cases c2 : x < k ∧ shC I (gP x + 9) = 0
      · rw [if_pos c2, if_pos ⟨by omega, c2.2⟩]
      · rw [if_neg c2, if_neg (fun z => c2 ⟨by omega, z.2⟩)]
  · rw [up2_v, up2_o _ _ _ _ (by decide), a3]
    by_cases c : x = k
    · subst c
      rw [if_pos ⟨rfl, rfl⟩, if_pos ⟨Nat.lt_succ_self _, ho⟩]
    · rw [if_neg (fun z => c z.2)]
      by_cases c2 : x < k ∧ shC I (gP x + 9) = 0
      · rw [if_pos c2, if_pos ⟨by omega, c2.2⟩]
      · rw [if_neg c2, if_neg (fun z => c2 ⟨by omega, z.2⟩)]
theorem enP_n {k : Nat} {I' : T2} (h : enP I σ k I') (ho : ¬ shC I (gP k + 9) = 0) : enP I σ (k + 1) I' := by
  obtain ⟨h1, h2, h3⟩ := h
  refine ⟨h1, h2, fun x hx => ?_⟩
  obtain ⟨a1, a2, a3⟩ := h3 x hx
  have e : (x < k + 1 ∧ shC I (gP x + 9) = 0) ↔ (x < k ∧ shC I (gP x + 9) = 0) := ⟨fun z => ⟨by
    by_cases c : x = k
    · rw [c] at z; exact absurd z.2 ho
    · have := z.1; omega, z.2⟩, fun z => ⟨by have := z.1; omega, z.2⟩⟩
  refine ⟨a1, ?_, ?_⟩
  · rw [a2]
    by_cases c : x < k ∧ shC I (gP x + 9) = 0
    · rw [if_pos c, if_pos (e.mpr c)]
    · rw [if_neg c, if_neg (fun z => c (e.mp z))]
  · rw [a3]
    by_cases c : x < k ∧ shC I (gP x + 9) = 0
    · rw [if_pos c, if_pos (e.mpr c)]
    · rw [if_neg c, if_neg (fun z => c (e.mp z))]
theorem cl_0 : (0 : Int32).toNatClampNeg = 0 := by decide
theorem enP_sh {I' : T2} (h : enP I σ G I') (ht : ∀ x, x < 8 → ¬ I (8 + 1 + σ) x < 0) : ShG I' (duC I σ G) (usC I σ G) (fun _ => 0) := by
  intro x hx
  obtain ⟨a1, a2, a3⟩ := h.2.2 x hx
  refine ⟨a1, Nat.zero_le _, ?_, ?_, ?_⟩
  · rw [a2]
    unfold duC
    by_cases c : x < G ∧ shC I (gP x + 9) = 0
    · rw [if_pos c, if_pos c]
    · rw [if_neg c, if_neg c, cl_0]
  · rw [a3]
    unfold usC
    by_cases c : x < G ∧ shC I (gP x + 9) = 0
    · rw [if_pos c, if_pos c]
      obtain ⟨j, j1, j2⟩ := nI_of (ht x hx)
      rw [j2, nI_clamp j1]
    · rw [if_neg c, if_neg c]; rfl
  · unfold usC
    by_cases c : x < G ∧ shC I (gP x + 9) = 0
    · rw [if_pos c]; exact cl_lt _
    · rw [if_neg c]; decide
theorem duC_le (x : Nat) : duC I σ G x < 2 ^ 31 := by
  unfold duC
  by_cases c : x < G ∧ shC I (gP x + 9) = 0
  · rw [if_pos c]; exact cl_lt _
  · rw [if_neg c]; decide
theorem gt_le : ∀ y, y < 8 → gtC I σ G y ≤ duC I σ G y := by
  intro y hy
  unfold gtC
  by_cases c : I 3 σ ≤ 0
  · rw [if_pos c]; exact Nat.zero_le _
  · rw [if_neg c]
    by_cases c2 : I 2 5 = 2
    · rw [if_pos c2]; exact (by_le (fun _ _ => Nat.zero_le _)).2 y hy
    · rw [if_neg c2]; exact (eq_le (fun _ _ => Nat.zero_le _)).2.1 y hy
def soP (I : T2) (J : T3) (w : Int32) (σ G : Nat) : Option Value → T2 → T3 → Prop := fun v I' J' => v = some (.int (nI (sF (gtC I σ G) G))) ∧ FrR J J' ∧ ∃ I2, (∀ o, o ≠ 14 → o ≠ 15 → o ≠ 16 → o ≠ 17 → I2 o = I o) ∧ I' = grF I2 w (gtC I σ G) (fun k => (I (gP k + 9) 5).toNatClampNeg) G
set_option maxHeartbeats 2000000 in
theorem sp_share {w : Int32} {f m : Nat} (hσ : slI w (I 2 4) = nI σ) (hσ3 : σ < 3) (hG : I 0 7 = nI G) (hG8 : G ≤ 8) (hP : PlOk I f m) (ht : ∀ x, x < 8 → ¬ I (8 + 1 + σ) x < 0) (hs : ∀ x, x < G → ∃ s, s < 2 ^ 30 ∧ I (gP x + 9) 5 = nI s) : Mt (d + 4) mX6_shareOut [.ref 0, .int w] I J (soP I J w σ G) := by
  refine Mt.of (by decide +kernel) (Nat.le_of_ble_eq_true rfl) ?_
  refine BX6_shareOut_0 ?_
  refine CX6_shareOut_8 (sp_slot _ _) (Nat.zero_le _) (fun v I1 J1 q1 => ?_)
  obtain ⟨rfl, rfl, rfl⟩ := q1
  rw [hσ]
  refine BX6_shareOut_11 ?_
  refine IX6_shareOut_14 (fun c => ?_) (fun c => absurd (rE_ne (b := σ) (by omega)) c)
  refine BX6_shareOut_19 (vp_in_nI hσ3 (by decide)) ?_
  rw [nI_clamp (by omega)]
  refine CX6_shareOut_32 (sp_shBegin _) (Nat.zero_le _) (fun v I1 J1 q1 => ?_)
  obtain ⟨rfl, rfl, rfl⟩ := q1
  refine BX6_shareOut_35 ?_
  have fl : ∀ (r : Nat → Int32) (x : Nat), x < 8 → flr r 8 0 x = 0 := fun r x hx => if_pos hx
  have st0 : enP I σ 0 (upr (upr (upr (up2 I 14 4 (I 3 σ)) 15 (flr (I 15) 8 0)) 16 (flr (I 16) 8 0)) 17 (flr (I 17) 8 0)) := by
    refine ⟨fun o a b c e => by rw [upr_ne _ _ e, upr_ne _ _ c, upr_ne _ _ b, up2_ne _ _ _ a], by rw [upr_ne _ _ (by decide), upr_ne _ _ (by decide), upr_ne _ _ (by decide), up2_s], fun x hx => ⟨?_, ?_, ?_⟩⟩
    · rw [upr_at, fl _ x hx]
    · rw [upr_ne _ _ (by decide), upr_ne _ _ (by decide), upr_at, fl _ x hx, if_neg (fun z => absurd z.1 (Nat.not_lt_zero _))]
    · rw [upr_ne _ _ (by decide), upr_at, fl _ x hx, if_neg (fun z => absurd z.1 (Nat.not_lt_zero _))]
  -- the grants
  have fin : ∀ (x3 : Int32) (I2 : T2) (J2 : T3), FrR J J2 → (∀ o, o ≠ 14 → o ≠ 15 → o ≠ 16 → o ≠ 17 → I2 o = I o) → (∀ x, x < 8 → I2 17 x = nI (gtC I σ G x)) → Ev (d + 4) 0 0 (fun _ => 0) mX6_shareOut 124 [some (.ref 0), some (.int w), some (.int (nI σ)), some (.int x3), none] [] I2 J2 0 (fun o I' J' _ => ∃ v, o = .inl v ∧ soP I J w σ G v I' J') := by
    intro x3 I2 J2 f1 f2 f3
    refine BX6_shareOut_124 ?_
    have key : ∀ q k : Nat, k + q = G → Ev (d + 4) 0 0 (fun _ => 0) mX6_shareOut 129 [some (.ref 0), some (.int w), some (.int (nI σ)), some (.int (nI (sF (gtC I σ G) k))), some (.int (nI k))] [] (grF I2 w (gtC I σ G) (fun k => (I (gP k + 9) 5).toNatClampNeg) k) J2 0 (fun o I' J' _ => ∃ v, o = .inl v ∧ soP I J w σ G v I' J') := by
      intro q
      induction q with
      | zero =>
        intro k hk
        refine BX6_shareOut_129 ?_
        rw [grF_o (by decide) (by decide) (by decide) k (fun x _ => Or.inl (by show 0 < 24 + 14 * x + 9; omega)), f2 0 (by decide) (by decide) (by decide) (by decide), hG]
        refine IX6_shareOut_135 (fun c => ?_) (fun c => absurd (nI_le (by omega) (by omega)) c)
        refine BX6_shareOut_169 ?_
        have hkG : k = G := by omega
        subst hkG
        exact RX6_shareOut_170 (Nat.zero_le _) ⟨_, rfl, rfl, f1, I2, f2, rfl⟩
      | succ q ih =>
        intro k hk
        refine BX6_shareOut_129 ?_
        rw [grF_o (by decide) (by decide) (by decide) k (fun x _ => Or.inl (by show 0 < 24 + 14 * x + 9; omega)), f2 0 (by decide) (by decide) (by decide) (by decide), hG]
        refine IX6_shareOut_135 (fun c => absurd c (nI_ge (by omega) (by omega))) (fun c => ?_)
        refine BX6_shareOut_138 (vp_in_nI (by omega) (by decide)) ?_
        rw [nI_clamp (by omega), grF_o (by decide) (by decide) (by decide) k (fun x _ => Or.inl (by show 17 < 24 + 14 * x + 9; omega)), f3 k (by omega)]
        obtain ⟨m', hm'⟩ := grF_ok (w := w) (g := gtC I σ G) (s := fun k => (I (gP k + 9) 5).toNatClampNeg) (PlOk_e (I' := I2) hP (f2 12 (by decide) (by decide) (by decide) (by decide))) k
        have gk : gP k = 24 + 14 * k := rfl
        have es : grF I2 w (gtC I σ G) (fun k => (I (gP k + 9) 5).toNatClampNeg) k (gP k + 9) 5 = nI (I (gP k + 9) 5).toNatClampNeg := by
          rw [grF_o (by omega) (by omega) (by omega) k (fun x hx => Or.inr (by show 24 + 14 * x + 13 < gP k + 9; omega)), f2 _ (by omega) (by omega) (by omega) (by omega)]
          obtain ⟨s, s1, s2⟩ := hs k (by omega)
          rw [s2, nI_clamp (by omega)]
        have es2 : (I (gP k + 9) 5).toNatClampNeg < 2 ^ 30 := by
          obtain ⟨s, s1, s2⟩ := hs k (by omega)
          rw [s2, nI_clamp (by omega)]
          exact s1
        refine CX6_shareOut_158 (sp_grant (kgt (by omega)) hm' es es2) (Nat.zero_le _) (fun v I3 J3 q3 => ?_)
        obtain ⟨rfl, rfl, rfl⟩ := q3
        refine BX6_shareOut_161 ?_
        rw [nI_add, nI_1]
        exact ih (k + 1) (by omega)
    exact key G 0 (Nat.zero_add _)
  have key : ∀ q k : Nat, k + q = G → ∀ I1 : T2, enP I σ k I1 → Ev (d + 4) 0 0 (fun _ => 0) mX6_shareOut 37 [some (.ref 0), some (.int w), some (.int (nI σ)), some (.int (nI k)), none] [] I1 J 0 (fun o I' J' _ => ∃ v, o = .inl v ∧ soP I J w σ G v I' J') := by
    intro q
    induction q with
    | zero =>
      intro k hk I1 he
      have hkG : k = G := by omega
      subst hkG
      have hsh := enP_sh he ht
      refine BX6_shareOut_37 ?_
      rw [he.1 0 (by decide) (by decide) (by decide) (by decide), hG]
      refine IX6_shareOut_42 (fun c => ?_) (fun c => absurd (nI_le (by omega) (by omega)) c)
      refine BX6_shareOut_96 ?_
      rw [he.1 2 (by decide) (by decide) (by decide) (by decide)]
      have fr2 : ∀ I2 : T2, FrS I1 I2 → ∀ o, o ≠ 14 → o ≠ 15 → o ≠ 16 → o ≠ 17 → I2 o = I o := fun I2 hf o a b c e => by rw [hf o a e, he.1 o a b c e]
      by_cases hneg : I 3 σ ≤ 0
      · have g0 : gtC I σ k = fun _ => 0 := by unfold gtC; rw [if_pos hneg]
        have z17 : ∀ x, x < 8 → I1 17 x = nI (gtC I σ k x) := fun x hx => by rw [g0]; exact (he.2.2 x hx).1
        refine IX6_shareOut_104 (fun c2 => ?_) (fun c2 => ?_)
        · refine BX6_shareOut_117 ?_
          refine CX6_shareOut_121 (sp_equally0 hsh (by rw [he.2.1]; exact hneg)) (Nat.zero_le _) (fun v I3 J3 q3 => ?_)
          obtain ⟨rfl, rfl, rfl⟩ := q3
          exact fin _ I1 J (FrR.rf J) he.1 z17
        · refine BX6_shareOut_107 ?_
          refine CX6_shareOut_111 (sp_byUse0 (by rw [he.2.1]; exact hneg)) (Nat.zero_le _) (fun v I3 J3 q3 => ?_)
          obtain ⟨rfl, rfl, rfl⟩ := q3
          refine BX6_shareOut_114 ?_
          exact fin _ I1 J (FrR.rf J) he.1 z17
      · have hpos : 0 < I 3 σ := Int32.not_le.mp hneg
        have hcl : I 3 σ = nI (I 3 σ).toNatClampNeg := cl_pos ((wm_iff (a := 0) (by decide)).mp hpos)
        have hS : Sh I1 (duC I σ k) (usC I σ k) (fun _ => 0) (I 3 σ).toNatClampNeg := ⟨by rw [he.2.1]; exact hcl, cl_lt _, hsh⟩
        refine IX6_shareOut_104 (fun c2 => ?_) (fun c2 => ?_)
        · refine BX6_shareOut_117 ?_
          refine CX6_shareOut_121 (sp_equally hS ⟨0, fun _ _ _ => rfl⟩) (Nat.zero_le _) (fun v I3 J3 q3 => ?_)
          obtain ⟨rfl, rfl, e1, e2⟩ := q3
          refine fin _ I3 J (FrR.rf J) (fr2 I3 e1) (fun x hx => ?_)
          unfold gtC
          rw [if_neg hneg, if_neg c2]
          exact (e2.2.2 x hx).1
        · refine BX6_shareOut_107 ?_
          refine CX6_shareOut_111 (sp_byUse hS ⟨0, fun _ _ _ _ => rfl⟩) (Nat.zero_le _) (fun v I3 J3 q3 => ?_)
          obtain ⟨rfl, e0, e1, e2⟩ := q3
          refine BX6_shareOut_114 ?_
          refine fin _ I3 J3 e0 (fr2 I3 e1) (fun x hx => ?_)
          unfold gtC
          rw [if_neg hneg, if_pos (Classical.not_not.mp c2)]
          exact (e2.2.2 x hx).1
    | succ q ih =>
      intro k hk I1 he
      have gk : gP k = 24 + 14 * k := rfl
      have hk9 : kd (gP k + 9) = 5 := kg_9 (kgt (by omega))
      refine BX6_shareOut_37 ?_
      rw [he.1 0 (by decide) (by decide) (by decide) (by decide), hG]
      refine IX6_shareOut_42 (fun c => absurd c (nI_ge (by omega) (by omega))) (fun c => ?_)
      refine BX6_shareOut_45 (vp_in_nI (by omega) (by decide)) ?_
      rw [nI_clamp (by omega)]
      refine CX6_shareOut_54 hk9 (sp_isShut hk9) (Nat.zero_le _) (fun v I3 J3 q3 => ?_)
      obtain ⟨rfl, rfl, rfl⟩ := q3
      have esh : shC I1 (gP k + 9) = shC I (gP k + 9) := by
        unfold shC
        rw [he.1 _ (by omega) (by omega) (by omega) (by omega)]
      rw [esh]
      refine IX6_shareOut_57 (fun c2 => ?_) (fun c2 => ?_)
      · refine BX6_shareOut_90 ?_
        rw [nI_1]
        exact ih (k + 1) (by omega) I1 (enP_n he c2)
      · refine BX6_shareOut_60 (vp_in_nI hσ3 (by decide)) (vp_in_nI (by omega) (by decide)) ?_
        rw [nI_clamp (by omega), nI_clamp (by omega), he.1 (4 + 1 + σ) (by omega) (by omega) (by omega) (by omega), he.1 (8 + 1 + σ) (by omega) (by omega) (by omega) (by omega)]
        refine CX6_shareOut_87 (sp_enter (by omega) _ _) (Nat.zero_le _) (fun v I3 J3 q3 => ?_)
        obtain ⟨rfl, rfl, rfl⟩ := q3
        refine BX6_shareOut_90 ?_
        rw [nI_1]
        exact ih (k + 1) (by omega) _ (enP_s (by omega) he (Classical.not_not.mp c2))
  exact key G 0 (Nat.zero_add _) _ st0
theorem sp_share0 {w : Int32} (hσ : slI w (I 2 4) = -1) : Mt (d + 4) mX6_shareOut [.ref 0, .int w] I J (RI 0 I J) := by
  refine Mt.of (by decide +kernel) (Nat.le_of_ble_eq_true rfl) ?_
  refine BX6_shareOut_0 ?_
  refine CX6_shareOut_8 (sp_slot _ _) (Nat.zero_le _) (fun v I1 J1 q1 => ?_)
  obtain ⟨rfl, rfl, rfl⟩ := q1
  rw [hσ]
  refine BX6_shareOut_11  ?_
  refine IX6_shareOut_14 (fun c14 => absurd c14 (fun z => z rfl)) (fun c14 => ?_)
  refine BX6_shareOut_17  ?_
  exact RX6_shareOut_18  (Nat.zero_le _) ⟨_, rfl, ⟨rfl, rfl, rfl⟩⟩
theorem sp_split {D : Nat} (hu : ¬ I 2 6 = 0) (P : Nat → Nat → T2 → T3 → Prop) (h0 : P 0 0 I J) (hst : ∀ k t I1 J1, k < 3 → P k t I1 J1 → I1 2 4 = nI D ∧ Mt (d + 4) mX6_shareOut [.ref 0, .int (nI D + iI ((k : Int) - 1))] I1 J1 (fun v I' J' => ∃ r, v = some (.int (nI r)) ∧ P (k + 1) (t + r) I' J')) : Mt (d + 5) mX6_split [.ref 0] I J (fun v I' J' => ∃ t I1, v = some (.int (nI t)) ∧ P 3 t I1 J' ∧ I' = fgC I1 3) := by
  refine Mt.of (by decide +kernel) (Nat.le_of_ble_eq_true rfl) ?_
  refine BX6_split_0 ?_
  refine CX6_split_7 (sp_up hu) (Nat.zero_le _) (fun v I1 J1 q1 => ?_)
  obtain ⟨rfl, rfl, rfl⟩ := q1
  refine BX6_split_10 ?_
  have key : ∀ q k : Nat, k + q = 3 → ∀ (t : Nat) (I1 : T2) (J1 : T3), P k t I1 J1 → Ev (d + 5) 0 0 (fun _ => 0) mX6_split 14 [some (.ref 0), some (.int (nI t)), some (.int (iI ((k : Int) - 1)))] [] I1 J1 0 (fun o I' J' _ => ∃ v, o = .inl v ∧ ∃ t I1, v = some (.int (nI t)) ∧ P 3 t I1 J' ∧ I' = fgC I1 3) := by
    intro q
    induction q with
    | zero =>
      intro k hk t I1 J1 hp
      refine BX6_split_14 ?_
      refine IX6_split_16 (fun c => ?_) (fun c => absurd (by rw [iI_1]; exact (iI_lt (by omega) (by omega) (by omega) (by omega)).mpr (by omega)) c)
      refine BX6_split_41 ?_
      refine CX6_split_45 sp_forget (Nat.zero_le _) (fun v I3 J3 q3 => ?_)
      obtain ⟨rfl, rfl, rfl⟩ := q3
      refine BX6_split_48 ?_
      rw [show k = 3 by omega] at hp
      exact RX6_split_49 (Nat.zero_le _) ⟨_, rfl, t, I1, rfl, hp, rfl⟩
    | succ q ih =>
      intro k hk t I1 J1 hp
      obtain ⟨e, hm⟩ := hst k t I1 J1 (by omega) hp
      refine BX6_split_14 ?_
      refine IX6_split_16 (fun c => absurd c (by rw [iI_1]; exact fun z => absurd ((iI_lt (by omega) (by omega) (by omega) (by omega)).mp z) (by omega))) (fun c => ?_)
      refine BX6_split_19 ?_
      rw [e]
      refine CX6_split_30 hm (Nat.zero_le _) (fun v I3 J3 q3 => ?_)
      obtain ⟨r, rfl, hp'⟩ := q3
      refine BX6_split_33 ?_
      rw [nI_add, iI_1, iI_add, show ((k : Int) - 1 + 1) = ((k + 1 : Nat) : Int) - 1 by omega]
      exact ih (k + 1) (by omega) (t + r) I3 J3 hp'
  have e0 : (-1 : Int32) = iI (((0 : Nat) : Int) - 1) := by decide
  rw [e0]
  exact key 3 0 rfl 0 I J h0
theorem sp_splitS (hu : I 2 6 = 0) : Mth (d + 4) mX6_split [.ref 0] I J eIS := by
  refine Mth.of (by decide +kernel) (Nat.le_of_ble_eq_true rfl) ?_
  refine BX6_split_0  ?_
  exact XX6_split_7 ((by rw [hu]; exact sp_upT)) (Nat.le_refl _) ⟨rfl, rfl, rfl⟩
end SP

