/-! QuotaDesk's own: begin, setup, admits, letters that come -/
def gbI (I : T2) (a : Nat) : T2 := up2 (up2 (up2 (upr (upr (upr (up2 (up2 (up2 (up2 (up2 (up2 I (a + 4) 5 0) (a + 4) 6 0) (a + 4) 7 0) (a + 9) 5 0) (a + 9) 6 0) (a + 9) 7 0) (a + 1) (flr (I (a + 1)) 3 0)) (a + 2) (flr (I (a + 2)) 3 0)) (a + 3) (flr (I (a + 3)) 3 0)) a 5 0) a 7 0) a 8 1
theorem gbI_o (I : T2) {a o : Nat} (h0 : o ≠ a) (h1 : o ≠ a + 1) (h2 : o ≠ a + 2) (h3 : o ≠ a + 3) (h4 : o ≠ a + 4) (h9 : o ≠ a + 9) : gbI I a o = I o := by
  unfold gbI
  rw [up2_ne _ _ _ h0, up2_ne _ _ _ h0, up2_ne _ _ _ h0, upr_ne _ _ h3, upr_ne _ _ h2, upr_ne _ _ h1, up2_ne _ _ _ h9, up2_ne _ _ _ h9, up2_ne _ _ _ h9, up2_ne _ _ _ h4, up2_ne _ _ _ h4, up2_ne _ _ _ h4]
/-- a gate as it is at the beginning; y is the state before -/
def gBeg (y I : T2) (J : T3) (t : Int64) (a : Nat) : Prop := (I a 5 = 0 ∧ I a 7 = 0 ∧ I a 8 = 1 ∧ J a 6 = t) ∧ (∀ s, s < 3 → I (a + 1) s = 0 ∧ I (a + 2) s = 0 ∧ I (a + 3) s = 0) ∧ (I (a + 4) 5 = 0 ∧ I (a + 4) 6 = 0 ∧ I (a + 4) 7 = 0 ∧ I (a + 4) 0 = y (a + 4) 0) ∧ (I (a + 9) 5 = 0 ∧ I (a + 9) 6 = 0 ∧ I (a + 9) 7 = 0 ∧ I (a + 9) 0 = y (a + 9) 0)
theorem gbI_g (I : T2) (J : T3) (t : Int64) (a : Nat) : gBeg I (gbI I a) (up3 J a 6 t) t a := by
  have fl : ∀ (r : Nat → Int32) (s : Nat), s < 3 → flr r 3 0 s = 0 := fun r s hs => if_pos hs
  unfold gbI
  refine ⟨⟨?_, ?_, ?_, ?_⟩, fun s hs => ⟨?_, ?_, ?_⟩, ⟨?_, ?_, ?_, ?_⟩, ⟨?_, ?_, ?_, ?_⟩⟩
  · rw [up2_k _ _ _ (by decide), up2_k _ _ _ (by decide), up2_s]
  · rw [up2_k _ _ _ (by decide), up2_s]
  · rw [up2_s]
  · rw [up3_v, if_pos ⟨rfl, rfl⟩]
  · rw [up2_ne _ _ _ (by omega), up2_ne _ _ _ (by omega), up2_ne _ _ _ (by omega), upr_ne _ _ (by omega), upr_ne _ _ (by omega), upr_at, fl _ s hs]
  · rw [up2_ne _ _ _ (by omega), up2_ne _ _ _ (by omega), up2_ne _ _ _ (by omega), upr_ne _ _ (by omega), upr_at, fl _ s hs]
  · rw [up2_ne _ _ _ (by omega), up2_ne _ _ _ (by omega), up2_ne _ _ _ (by omega), upr_at, fl _ s hs]
  all_goals rw [up2_ne _ _ _ (by omega), up2_ne _ _ _ (by omega), up2_ne _ _ _ (by omega), upr_ne _ _ (by omega), upr_ne _ _ (by omega), upr_ne _ _ (by omega)]
  · rw [up2_ne _ _ _ (by omega), up2_ne _ _ _ (by omega), up2_ne _ _ _ (by omega), up2_k _ _ _ (by decide), up2_k _ _ _ (by decide), up2_s]
  · rw [up2_ne _ _ _ (by omega), up2_ne _ _ _ (by omega), up2_ne _ _ _ (by omega), up2_k _ _ _ (by decide), up2_s]
  · rw [up2_ne _ _ _ (by omega), up2_ne _ _ _ (by omega), up2_ne _ _ _ (by omega), up2_s]
  · rw [up2_ne _ _ _ (by omega), up2_ne _ _ _ (by omega), up2_ne _ _ _ (by omega), up2_k _ _ _ (by decide), up2_k _ _ _ (by decide), up2_k _ _ _ (by decide)]
  · rw [up2_k _ _ _ (by decide), up2_k _ _ _ (by decide), up2_s]
  · rw [up2_k _ _ _ (by decide), up2_s]
  · rw [up2_s]
  · rw [up2_k _ _ _ (by decide), up2_k _ _ _ (by decide), up2_k _ _ _ (by decide), up2_ne _ _ _ (by omega), up2_ne _ _ _ (by omega), up2_ne _ _ _ (by omega)]
/-- the first k gates begun -/
def gbP (y : T2) (yJ : T3) (t : Int64) (k : Nat) (I : T2) (J : T3) : Prop := (∀ o, (∀ x, x < k → o < gP x ∨ gP x + 13 < o) → I o = y o) ∧ (∀ o, (∀ x, x < k → o ≠ gP x) → J o = yJ o) ∧ ∀ x, x < k → gBeg y I J t (gP x)
theorem gBeg_ext {y y' I I' : T2} {J J' : T3} {t : Int64} {a : Nat} (h : gBeg y I J t a) (hI : ∀ j, j ≤ 13 → I' (a + j) = I (a + j)) (hJ : J' a = J a) (hy : ∀ j, j ≤ 13 → y' (a + j) = y (a + j)) : gBeg y' I' J' t a := by
  unfold gBeg at h ⊢
  rw [hI 4 (by decide), hI 9 (by decide), hI 1 (by decide), hI 2 (by decide), hI 3 (by decide), show I' a = I a from hI 0 (by decide), hJ, hy 4 (by decide), hy 9 (by decide)]
  exact h
theorem gbP_s {y I : T2} {yJ J : T3} {t : Int64} {k : Nat} (h : gbP y yJ t k I J) : gbP y yJ t (k + 1) (gbI I (gP k)) (up3 J (gP k) 6 t) := by
  obtain ⟨h1, h2, h3⟩ := h
  have gk : gP k = 24 + 14 * k := rfl
  refine ⟨fun o ho => ?_, fun o ho => ?_, fun x hx => ?_⟩
  · have := ho k (by omega)
    rw [gbI_o I (by omega) (by omega) (by omega) (by omega) (by omega) (by omega)]
    exact h1 o (fun x hx => ho x (by omega))
  · have := ho k (by omega)
    rw [up3_ne _ _ _ this]
    exact h2 o (fun x hx => ho x (by omega))
  · by_cases c : x = k
    · subst c
      refine gBeg_ext (gbI_g I J t (gP x)) (fun _ _ => rfl) rfl (fun j hj => ?_)
      exact (h1 _ (fun z hz => by
        have : gP z = 24 + 14 * z := rfl
        omega)).symm
    · have gx : gP x = 24 + 14 * x := rfl
      refine gBeg_ext (h3 x (by omega)) (fun j hj => ?_) ?_ (fun _ _ => rfl)
      · exact gbI_o I (by omega) (by omega) (by omega) (by omega) (by omega) (by omega)
      · exact up3_ne _ _ _ (by omega)
def bg0 (I : T2) (l w e g : Int32) : T2 := upr (up2 (up2 (up2 (up2 (up2 (ofC (up2 (up2 (up2 I 0 7 g) 0 8 w) 0 9 e) l) 12 1 0) 12 2 0) 19 2 0) 19 3 0) 19 4 0) 22 (flr (I 22) 200 0)
section DK3
variable {d : Nat} {I : T2} {J : T3} {G x : Nat}
theorem ofC_o {b : Int32} {o : Nat} (h2 : o ≠ 2) (h3 : o ≠ 3) (h5 : o ≠ 5) (h6 : o ≠ 6) (h7 : o ≠ 7) : ofC I b o = I o := by
  unfold ofC
  rw [fgC_o _ 3 (fun j hj => by omega), upr_ne _ _ h3, up2_ne _ _ _ h2, up2_ne _ _ _ h2, up2_ne _ _ _ h2, up2_ne _ _ _ h2]
theorem bg0_o {l w e g : Int32} {o : Nat} (h : 24 ≤ o) : bg0 I l w e g o = I o := by
  unfold bg0
  rw [upr_ne _ _ (by omega), up2_ne _ _ _ (by omega), up2_ne _ _ _ (by omega), up2_ne _ _ _ (by omega), up2_ne _ _ _ (by omega), up2_ne _ _ _ (by omega), ofC_o (by omega) (by omega) (by omega) (by omega) (by omega), up2_ne _ _ _ (by omega), up2_ne _ _ _ (by omega), up2_ne _ _ _ (by omega)]
theorem sp_begin (l w e g : Int32) : Mt (d + 3) mX6_begin [.ref 0, .int l, .int w, .int e, .int g] I J (fun v I' J' => v = none ∧ gbP (bg0 I l w e g) (up3 J 0 10 e.toInt64) e.toInt64 8 I' J') := by
  refine Mt.of (by decide +kernel) (Nat.le_of_ble_eq_true rfl) ?_
  refine BX6_begin_0 ?_
  refine CX6_begin_27 (sp_ofBegin l) (Nat.zero_le _) (fun v I1 J1 q1 => ?_)
  obtain ⟨rfl, rfl, rfl⟩ := q1
  refine BX6_begin_30 ?_
  refine CX6_begin_34 sp_plBegin (Nat.zero_le _) (fun v I1 J1 q1 => ?_)
  obtain ⟨rfl, rfl, rfl⟩ := q1
  refine BX6_begin_37 ?_
  refine CX6_begin_41 sp_adBegin (Nat.zero_le _) (fun v I1 J1 q1 => ?_)
  obtain ⟨rfl, rfl, rfl⟩ := q1
  refine BX6_begin_44 ?_
  refine CX6_begin_49 (sp_fill (by decide) 0) (Nat.zero_le _) (fun v I1 J1 q1 => ?_)
  obtain ⟨rfl, rfl, rfl⟩ := q1
  refine BX6_begin_52 ?_
  have e22 : up2 (up2 (up2 (up2 (up2 (ofC (up2 (up2 (up2 I 0 7 g) 0 8 w) 0 9 e) l) 12 1 0) 12 2 0) 19 2 0) 19 3 0) 19 4 0 22 = I 22 := by
    rw [up2_ne _ _ _ (by decide), up2_ne _ _ _ (by decide), up2_ne _ _ _ (by decide), up2_ne _ _ _ (by decide), up2_ne _ _ _ (by decide), ofC_o (by decide) (by decide) (by decide) (by decide) (by decide), up2_ne _ _ _ (by decide), up2_ne _ _ _ (by decide), up2_ne _ _ _ (by decide)]
  rw [e22]
  have key : ∀ q k : Nat, k + q = 8 → ∀ (I2 : T2) (J2 : T3), gbP (bg0 I l w e g) (up3 J 0 10 e.toInt64) e.toInt64 k I2 J2 → Ev (d + 3) 0 0 (fun _ => 0) mX6_begin 55 [some (.ref 0), some (.int l), some (.int w), some (.int e), some (.int g), some (.int (nI k))] [] I2 J2 0 (fun o I' J' _ => ∃ w', o = .inl w' ∧ w' = none ∧ gbP (bg0 I l w e g) (up3 J 0 10 e.toInt64) e.toInt64 8 I' J') := by
    intro q
    induction q with
    | zero =>
      intro k hk I2 J2 hp
      refine BX6_begin_55 ?_
      refine IX6_begin_59 (fun c => ?_) (fun c => absurd (show (8 : Int32) ≤ nI k from nI_le (a := 8) (by omega) (by omega)) c)
      refine RX6_begin_82 (Nat.zero_le _) ⟨_, rfl, rfl, ?_⟩
      rw [show k = 8 by omega] at hp
      exact hp
    | succ q ih =>
      intro k hk I2 J2 hp
      refine BX6_begin_55 ?_
      refine IX6_begin_59 (fun c => absurd c (show ¬ (8 : Int32) ≤ nI k from nI_ge (b := 8) (by omega) (by decide))) (fun c => ?_)
      refine BX6_begin_62 (vp_in_nI (by omega) (by decide)) ?_
      have hkd : kd (gP k) = 1 := kgt (by omega)
      have eJ : J2 0 10 = e.toInt64 := by
        rw [hp.2.1 0 (fun x _ => by show 0 ≠ 24 + 14 * x; omega), up3_v, if_pos ⟨rfl, rfl⟩]
      rw [nI_clamp (by omega), eJ]
      refine CX6_begin_73 hkd (sp_gtBegin hkd _) (Nat.zero_le _) (fun v I3 J3 q3 => ?_)
      obtain ⟨rfl, rfl, rfl⟩ := q3
      refine BX6_begin_76 ?_
      rw [nI_1]
      exact ih (k + 1) (by omega) _ _ (gbP_s hp)
  exact key 8 0 rfl _ _ ⟨fun _ _ => rfl, fun _ _ => rfl, fun x hx => absurd hx (Nat.not_lt_zero _)⟩
def okS (l w e g : Int32) : Prop := ¬ l < 1 ∧ l ≤ 1000000 ∧ ¬ w < 2 ∧ w ≤ 10000 ∧ ¬ e < 0 ∧ 2 * e.toInt64 < w.toInt64 ∧ ¬ g < 1 ∧ g ≤ 8
theorem lg_ge0 (x y : Int64) : 0 ≤ lg_cmp x y ↔ ¬ x < y := by
  rw [← lg_lt0, Int32.not_lt]
theorem sp_setup {l w e g : Int32} (h : okS l w e g) : Mt (d + 4) mX6_setup [.ref 0, .int l, .int w, .int e, .int g] I J (fun v I' J' => v = none ∧ gbP (bg0 I l w e g) (up3 J 0 10 e.toInt64) e.toInt64 8 I' J') := by
  obtain ⟨h1, h2, h3, h4, h5, h6, h7, h8⟩ := h
  refine Mt.of (by decide +kernel) (Nat.le_of_ble_eq_true rfl) ?_
  refine BX6_setup_0  ?_
  refine IX6_setup_2 (fun c2 => absurd c2 h1) (fun c2 => ?_)
  refine BX6_setup_5  ?_
  refine IX6_setup_8 (fun c8 => absurd c8 (Int32.not_lt.mpr h2)) (fun c8 => ?_)
  refine BX6_setup_11  ?_
  refine IX6_setup_13 (fun c13 => absurd c13 h3) (fun c13 => ?_)
  refine BX6_setup_16  ?_
  refine IX6_setup_20 (fun c20 => ?_) (fun c20 => absurd c20 (fun z => z h4))
  refine BX6_setup_31  ?_
  refine IX6_setup_32 (fun c32 => absurd c32 h5) (fun c32 => ?_)
  refine BX6_setup_35  ?_
  refine IX6_setup_44 (fun c44 => absurd c44 (fun z => (lg_ge0 _ _).mp z h6)) (fun c44 => ?_)
  refine BX6_setup_47  ?_
  refine IX6_setup_50 (fun c50 => absurd c50 h7) (fun c50 => ?_)
  refine BX6_setup_53  ?_
  refine IX6_setup_57 (fun c57 => ?_) (fun c57 => absurd c57 (fun z => z h8))
  refine BX6_setup_68  ?_
  refine CX6_setup_74 (sp_begin l w e g) (Nat.zero_le _) (fun v74 I74 J74 q74 => ?_)
  obtain ⟨rfl, q⟩ := q74
  exact RX6_setup_77  (Nat.zero_le _) ⟨_, rfl, ⟨rfl, q⟩⟩
theorem sp_setupT {l w e g : Int32} (h : ¬ okS l w e g) : Mth (d + 3) mX6_setup [.ref 0, .int l, .int w, .int e, .int g] I J eIA := by
  refine Mth.of (by decide +kernel) (Nat.le_of_ble_eq_true rfl) ?_
  refine BX6_setup_0  ?_
  refine IX6_setup_2 (fun c2 => ?_) (fun c2 => ?_)
  · skip
    exact TX6_setup_23 (by omega) (Nat.le_refl _) ⟨rfl, rfl, rfl⟩
  · skip
    refine BX6_setup_5  ?_
    refine IX6_setup_8 (fun c8 => ?_) (fun c8 => ?_)
    · skip
      exact TX6_setup_23 (by omega) (Nat.le_refl _) ⟨rfl, rfl, rfl⟩
    · skip
      refine BX6_setup_11  ?_
      refine IX6_setup_13 (fun c13 => ?_) (fun c13 => ?_)
      · skip
        exact TX6_setup_23 (by omega) (Nat.le_refl _) ⟨rfl, rfl, rfl⟩
      · skip
        refine BX6_setup_16  ?_
        refine IX6_setup_20 (fun c20 => ?_) (fun c20 => ?_)
        · skip
          refine BX6_setup_31  ?_
          refine IX6_setup_32 (fun c32 => ?_) (fun c32 => ?_)
          · skip
            exact TX6_setup_60 (by omega) (Nat.le_refl _) ⟨rfl, rfl, rfl⟩
          · skip
            refine BX6_setup_35  ?_
            refine IX6_setup_44 (fun c44 => ?_) (fun c44 => ?_)
            · skip
              exact TX6_setup_60 (by omega) (Nat.le_refl _) ⟨rfl, rfl, rfl⟩
            · skip
              refine BX6_setup_47  ?_
              refine IX6_setup_50 (fun c50 => ?_) (fun c50 => ?_)
              · skip
                exact TX6_setup_60 (by omega) (Nat.le_refl _) ⟨rfl, rfl, rfl⟩
              · skip
                refine BX6_setup_53  ?_
                refine IX6_setup_57 (fun c57 => absurd c57 (fun z => h ⟨c2, Int32.not_lt.mp c8, c13, c20, c32, Classical.not_not.mp (fun y => c44 ((lg_ge0 _ _).mpr y)), c50, z⟩)) (fun c57 => ?_)
                exact TX6_setup_60 (by omega) (Nat.le_refl _) ⟨rfl, rfl, rfl⟩
        · skip
          exact TX6_setup_23 (by omega) (Nat.le_refl _) ⟨rfl, rfl, rfl⟩
theorem AdC_ext {I' : T2} {J' : T3} {rs : Rw} (h : AdC I J rs) (h1 : I' 19 = I 19) (h2 : I' 21 = I 21) (h3 : J' 20 = J 20) : AdC I' J' rs := by
  obtain ⟨⟨f, a1, a2, a3, a4, a5⟩, b, c⟩ := h
  refine ⟨⟨f, by rw [h1]; exact a1, a2, by rw [h1]; exact a3, a4, fun i q hq => ?_⟩, by rw [h1]; exact b, c⟩
  rw [h2, h3]
  exact a5 i q hq
def amI (I : T2) (a wd q h p t : Nat) : T2 := up2 (up2 I (a + 2) (wd % 3) (nI (p + adN q h p))) (a + 3) (wd % 3) (nI (stN q h p t))
def amP (I : T2) (J : T3) (rs : Rw) (a wd q h p t : Nat) : Option Value → T2 → T3 → Prop := fun v I' J' => v = some (.int (nI (adN q h p))) ∧ ((adN q h p = 0 ∧ I' = amI I a wd q h p t ∧ J' = J) ∨ (0 < adN q h p ∧ ∃ I1, adP (amI I a wd q h p t) J rs (J 0 10) (adN q h p) none I1 J' ∧ I' = if wd < 200 then up2 I1 22 wd (I1 22 wd + nI (adN q h p)) else I1))
theorem sp_admit (hG : I 0 7 = nI G) (hG8 : G ≤ 8) (hx : x < G) {wd q h p t : Nat} {rs : Rw} (hq1 : 1 ≤ q) (hq2 : q ≤ 1000) (hu : ¬ I (gP x) 8 = 0) (hw : I (gP x) 7 = nI wd) (hwd : wd < 2 ^ 30) (hh : I (gP x + 1) (wd % 3) = nI h) (hp : I (gP x + 2) (wd % 3) = nI p) (ht : I (gP x + 3) (wd % 3) = nI t) (hpt : p ≤ t) (hth : t ≤ h) (hb : h < 2 ^ 30) (ha : AdC I J rs) (hl : rs.length < 512) (htt : tot rs ≤ 2000) : Mt (d + 3) mX6_admit [.ref 0, .int (nI x), .int (nI q)] I J (amP I J rs (gP x) wd q h p t) := by
  have hgp : gP x = 24 + 14 * x := rfl
  have hk : kd (gP x) = 1 := kgt (by omega)
  have hle : adN q h p ≤ q := Nat.min_le_left _ _
  refine Mt.of (by decide +kernel) (Nat.le_of_ble_eq_true rfl) ?_
  refine BX6_admit_0 ?_
  refine CX6_admit_2 (sp_gateAt hG hG8 hx) (Nat.zero_le _) (fun v I1 J1 q1 => ?_)
  obtain ⟨rfl, rfl, rfl⟩ := q1
  refine BX6_admit_5 ?_
  refine IX6_admit_8 (fun c => absurd c (nI_nlt (b := 1) hq1 (by omega))) (fun c => ?_)
  refine BX6_admit_11 ?_
  refine IX6_admit_15 (fun c => ?_) (fun c => absurd (nI_le (b := 1000) hq2 (by decide)) c)
  refine BX6_admit_26 hk ?_
  refine CX6_admit_30 (sp_up hu) (Nat.zero_le _) (fun v I1 J1 q1 => ?_)
  obtain ⟨rfl, rfl, rfl⟩ := q1
  refine BX6_admit_33 ?_
  refine CX6_admit_35 hk (sp_spend hk hw hwd hh hp ht hpt hth hb (by omega)) (Nat.zero_le _) (fun v I1 J1 q1 => ?_)
  obtain ⟨rfl, rfl, rfl⟩ := q1
  refine BX6_admit_38 ?_
  have e19 : amI I (gP x) wd q h p t 19 = I 19 := by unfold amI; rw [up2_ne _ _ _ (by omega), up2_ne _ _ _ (by omega)]
  have e21 : amI I (gP x) wd q h p t 21 = I 21 := by unfold amI; rw [up2_ne _ _ _ (by omega), up2_ne _ _ _ (by omega)]
  have eg : amI I (gP x) wd q h p t (gP x) = I (gP x) := by unfold amI; rw [up2_ne _ _ _ (by omega), up2_ne _ _ _ (by omega)]
  refine IX6_admit_42 (fun c => ?_) (fun c => ?_)
  · refine BX6_admit_82 ?_
    have c0 := (nI_leI (a := adN q h p) (b := 0) (by omega) (by decide)).mp c
    exact RX6_admit_84 (Nat.zero_le _) ⟨_, rfl, rfl, Or.inl ⟨by omega, rfl, rfl⟩⟩
  · have c0 : 0 < adN q h p := Nat.pos_of_ne_zero fun z => c (by rw [z]; decide)
    refine BX6_admit_45 ?_
    refine CX6_admit_55 (sp_add (rs := rs) (AdC_ext ha e19 e21 rfl) hl htt c0 (by omega)) (Nat.zero_le _) (fun v I1 J1 q1 => ?_)
    have q2 := q1
    obtain ⟨rfl, f1, f2, rs', r1, r2, r3⟩ := q2
    refine BX6_admit_58 hk ?_
    have ew : I1 (gP x) 7 = nI wd := by rw [f1 (gP x) (by omega) (by omega)]; rw [show up2 (up2 I (gP x + 2) (wd % 3) (nI (p + adN q h p))) (gP x + 3) (wd % 3) (nI (stN q h p t)) (gP x) = I (gP x) from eg, hw]
    rw [ew]
    refine CX6_admit_62 (sp_isC _) (Nat.zero_le _) (fun v I2 J2 q2 => ?_)
    obtain ⟨rfl, rfl, rfl⟩ := q2
    by_cases cw : wd < 200
    · have ei : icI (nI wd) = 1 := by
        unfold icI
        rw [if_neg (nI_pos (by omega)), if_neg (show ¬ (200 : Int32) ≤ nI wd from nI_ge (b := 200) cw (by decide))]
      rw [ei]
      refine IX6_admit_65 (fun c => absurd c (by decide)) (fun c => ?_)
      refine BX6_admit_68 hk (by rw [ew]; exact vp_in_nI cw (by decide)) ?_
      refine BX6_admit_82 ?_
      rw [ew, nI_clamp (by omega)]
      refine RX6_admit_84 (Nat.zero_le _) ⟨_, rfl, rfl, Or.inr ⟨c0, I1, q1, ?_⟩⟩
      rw [if_pos cw]
    · have ei : icI (nI wd) = 0 := by
        unfold icI
        rw [if_neg (nI_pos (by omega)), if_pos (show (200 : Int32) ≤ nI wd from nI_le (a := 200) (by omega) (by omega))]
      rw [ei]
      refine IX6_admit_65 (fun c => ?_) (fun c => absurd rfl c)
      refine BX6_admit_82 ?_
      refine RX6_admit_84 (Nat.zero_le _) ⟨_, rfl, rfl, Or.inr ⟨c0, I1, q1, ?_⟩⟩
      rw [if_neg cw]
theorem sp_admitB {x q : Int32} (hx : x < 0 ∨ I 0 7 ≤ x) : Mth (d + 4) mX6_admit [.ref 0, .int x, .int q] I J eIB := by
  refine Mth.of (by decide +kernel) (Nat.le_of_ble_eq_true rfl) ?_
  refine BX6_admit_0  ?_
  exact XX6_admit_2 (sp_gateAtT hx) (Nat.le_refl _) ⟨rfl, rfl, rfl⟩
theorem sp_admitA (hG : I 0 7 = nI G) (hG8 : G ≤ 8) (hx : x < G) {q : Int32} (h : q < 1 ∨ ¬ q ≤ 1000) : Mth (d + 4) mX6_admit [.ref 0, .int (nI x), .int q] I J eIA := by
  refine Mth.of (by decide +kernel) (Nat.le_of_ble_eq_true rfl) ?_
  refine BX6_admit_0  ?_
  refine CX6_admit_2 (sp_gateAt hG hG8 hx) (Nat.zero_le _) (fun v2 I2 J2 q2 => ?_)
  obtain ⟨rfl, rfl, rfl⟩ := q2
  refine BX6_admit_5  ?_
  refine IX6_admit_8 (fun c8 => ?_) (fun c8 => ?_)
  · skip
    exact TX6_admit_18 (by omega) (Nat.le_refl _) ⟨rfl, rfl, rfl⟩
  · skip
    refine BX6_admit_11  ?_
    refine IX6_admit_15 (fun c15 => absurd c15 (fun z => h.elim (fun y => c8 y) (fun y => y z))) (fun c15 => ?_)
    exact TX6_admit_18 (by omega) (Nat.le_refl _) ⟨rfl, rfl, rfl⟩
theorem sp_admitS (hG : I 0 7 = nI G) (hG8 : G ≤ 8) (hx : x < G) {q : Int32} (h1 : ¬ q < 1) (h2 : q ≤ 1000) (hu : I (gP x) 8 = 0) : Mth (d + 4) mX6_admit [.ref 0, .int (nI x), .int q] I J eIS := by
  refine Mth.of (by decide +kernel) (Nat.le_of_ble_eq_true rfl) ?_
  have hk : kd (gP x) = 1 := kgt (by omega)
  refine BX6_admit_0  ?_
  refine CX6_admit_2 (sp_gateAt hG hG8 hx) (Nat.zero_le _) (fun v2 I2 J2 q2 => ?_)
  obtain ⟨rfl, rfl, rfl⟩ := q2
  refine BX6_admit_5  ?_
  refine IX6_admit_8 (fun c8 => absurd c8 h1) (fun c8 => ?_)
  refine BX6_admit_11  ?_
  refine IX6_admit_15 (fun c15 => ?_) (fun c15 => absurd c15 (fun z => z h2))
  refine BX6_admit_26 (by assumption) ?_
  exact XX6_admit_30 ((by rw [hu]; exact sp_upT)) (Nat.le_refl _) ⟨rfl, rfl, rfl⟩
theorem sp_about0 (hG : I 0 7 = nI G) (hG8 : G ≤ 8) (hx : x < G) : Mt (d + 1) mX6_about [.ref 0, .int (nI x), .int 0] I J (RJ1 (J (gP x) 6) I J) := by
  refine Mt.of (by decide +kernel) (Nat.le_of_ble_eq_true rfl) ?_
  have hk : kd (gP x) = 1 := kgt (by omega)
  refine BX6_about_0 ?_
  refine CX6_about_2 (sp_gateAt hG hG8 hx) (Nat.zero_le _) (fun v I1 J1 q1 => ?_)
  obtain ⟨rfl, rfl, rfl⟩ := q1
  refine BX6_about_5 ?_
  refine Ev.swIn (off := 25) 32 dX6_about_7 (by decide) (by decide) (by decide) (by decide) ?_
  refine BX6_about_32 hk ?_
  exact RX6_about_36 (Nat.zero_le _) ⟨_, rfl, rfl, rfl, rfl⟩
theorem sp_about1 (hG : I 0 7 = nI G) (hG8 : G ≤ 8) (hx : x < G) : Mt (d + 1) mX6_about [.ref 0, .int (nI x), .int 1] I J (RJ1 (I (gP x) 7).toInt64 I J) := by
  refine Mt.of (by decide +kernel) (Nat.le_of_ble_eq_true rfl) ?_
  have hk : kd (gP x) = 1 := kgt (by omega)
  refine BX6_about_0 ?_
  refine CX6_about_2 (sp_gateAt hG hG8 hx) (Nat.zero_le _) (fun v I1 J1 q1 => ?_)
  obtain ⟨rfl, rfl, rfl⟩ := q1
  refine BX6_about_5 ?_
  refine Ev.swIn (off := 30) 37 dX6_about_7 (by decide) (by decide) (by decide) (by decide) ?_
  refine BX6_about_37 hk ?_
  exact RX6_about_42 (Nat.zero_le _) ⟨_, rfl, rfl, rfl, rfl⟩
theorem sp_about2 (hG : I 0 7 = nI G) (hG8 : G ≤ 8) (hx : x < G) : Mt (d + 1) mX6_about [.ref 0, .int (nI x), .int 2] I J (RJ1 (if I (gP x) 8 = 0 then 0 else 1) I J) := by
  refine Mt.of (by decide +kernel) (Nat.le_of_ble_eq_true rfl) ?_
  have hk : kd (gP x) = 1 := kgt (by omega)
  refine BX6_about_0 ?_
  refine CX6_about_2 (sp_gateAt hG hG8 hx) (Nat.zero_le _) (fun v I1 J1 q1 => ?_)
  obtain ⟨rfl, rfl, rfl⟩ := q1
  refine BX6_about_5 ?_
  refine Ev.swIn (off := 36) 43 dX6_about_7 (by decide) (by decide) (by decide) (by decide) ?_
  refine BX6_about_43 hk ?_
  refine IX6_about_47 (fun c => ?_) (fun c => ?_)
  · rw [if_pos c]
    refine BX6_about_54  ?_
    exact RX6_about_55  (Nat.zero_le _) ⟨_, rfl, ⟨rfl, rfl, rfl⟩⟩
  · rw [if_neg c]
    refine BX6_about_50  ?_
    exact RX6_about_55  (Nat.zero_le _) ⟨_, rfl, ⟨rfl, rfl, rfl⟩⟩
theorem sp_aboutB {x w : Int32} (hx : x < 0 ∨ I 0 7 ≤ x) : Mth (d + 4) mX6_about [.ref 0, .int x, .int w] I J eIB := by
  refine Mth.of (by decide +kernel) (Nat.le_of_ble_eq_true rfl) ?_
  refine BX6_about_0  ?_
  exact XX6_about_2 (sp_gateAtT hx) (Nat.le_refl _) ⟨rfl, rfl, rfl⟩
theorem sp_aboutT (hG : I 0 7 = nI G) (hG8 : G ≤ 8) (hx : x < G) {w : Int32} (h : w.toInt < 0 ∨ 2 < w.toInt) : Mth (d + 4) mX6_about [.ref 0, .int (nI x), .int w] I J eIA := by
  refine Mth.of (by decide +kernel) (Nat.le_of_ble_eq_true rfl) ?_
  refine BX6_about_0 ?_
  refine CX6_about_2 (sp_gateAt hG hG8 hx) (Nat.zero_le _) (fun v I1 J1 q1 => ?_)
  obtain ⟨rfl, rfl, rfl⟩ := q1
  refine BX6_about_5 ?_
  refine Ev.swOut 56 dX6_about_7 h (by decide) ?_
  exact TX6_about_56 (by omega) (Nat.le_refl _) ⟨rfl, rfl, rfl⟩
theorem sp_count0 : Mt (d + 1) mX6_count [.ref 0, .int 0] I J (RI (I 12 2) I J) := by
  refine Mt.of (by decide +kernel) (Nat.le_of_ble_eq_true rfl) ?_
  refine BX6_count_0 ?_
  refine Ev.swIn (off := 31) 32 dX6_count_1 (by decide) (by decide) (by decide) (by decide) ?_
  refine BX6_count_32  ?_
  exact RX6_count_39  (Nat.zero_le _) ⟨_, rfl, ⟨rfl, rfl, rfl⟩⟩
theorem sp_count1 : Mt (d + 1) mX6_count [.ref 0, .int 1] I J (RI (J 0 10 &&& 2147483647).toInt32 I J) := by
  refine Mt.of (by decide +kernel) (Nat.le_of_ble_eq_true rfl) ?_
  refine BX6_count_0 ?_
  refine Ev.swIn (off := 39) 40 dX6_count_1 (by decide) (by decide) (by decide) (by decide) ?_
  refine BX6_count_40  ?_
  exact RX6_count_49  (Nat.zero_le _) ⟨_, rfl, ⟨rfl, rfl, rfl⟩⟩
theorem sp_count2 : Mt (d + 1) mX6_count [.ref 0, .int 2] I J (RI (I 0 7) I J) := by
  refine Mt.of (by decide +kernel) (Nat.le_of_ble_eq_true rfl) ?_
  refine BX6_count_0 ?_
  refine Ev.swIn (off := 49) 50 dX6_count_1 (by decide) (by decide) (by decide) (by decide) ?_
  refine BX6_count_50  ?_
  exact RX6_count_54  (Nat.zero_le _) ⟨_, rfl, ⟨rfl, rfl, rfl⟩⟩
theorem sp_count3 : Mt (d + 1) mX6_count [.ref 0, .int 3] I J (RI (nI (cnS I 3)) I J) := by
  refine Mt.of (by decide +kernel) (Nat.le_of_ble_eq_true rfl) ?_
  refine BX6_count_0 ?_
  refine Ev.swIn (off := 54) 55 dX6_count_1 (by decide) (by decide) (by decide) (by decide) ?_
  refine BX6_count_55  ?_
  refine CX6_count_59 (sp_waiting) (Nat.zero_le _) (fun v59 I59 J59 q59 => ?_)
  obtain ⟨rfl, rfl, rfl⟩ := q59
  exact RX6_count_62  (Nat.zero_le _) ⟨_, rfl, ⟨rfl, rfl, rfl⟩⟩
theorem sp_countT {w : Int32} (h : w.toInt < 0 ∨ 3 < w.toInt) : Mth (d + 3) mX6_count [.ref 0, .int w] I J eIA := by
  refine Mth.of (by decide +kernel) (Nat.le_of_ble_eq_true rfl) ?_
  refine BX6_count_0 ?_
  refine Ev.swOut 63 dX6_count_1 h (by decide) ?_
  exact TX6_count_63 (by omega) (Nat.le_refl _) ⟨rfl, rfl, rfl⟩
def haC (I : T2) (a : Nat) (w : Int32) (k : Nat) : Int32 := if slI w (I a 7) = -1 then 0 else I (a + k) (slI w (I a 7)).toNatClampNeg
theorem sp_has (hG : I 0 7 = nI G) (hG8 : G ≤ 8) (hx : x < G) (w : Int32) {k : Nat} (hk3 : k < 3) : Mt (d + 1) mX6_has [.ref 0, .int (nI x), .int w, .int (nI k)] I J (RI (haC I (gP x) w (k + 1)) I J) := by
  refine Mt.of (by decide +kernel) (Nat.le_of_ble_eq_true rfl) ?_
  have hk : kd (gP x) = 1 := kgt (by omega)
  refine BX6_has_0 ?_
  refine CX6_has_2 (sp_gateAt hG hG8 hx) (Nat.zero_le _) (fun v I1 J1 q1 => ?_)
  obtain ⟨rfl, rfl, rfl⟩ := q1
  refine BX6_has_5 ?_
  refine IX6_has_8 (fun c => absurd c (nI_pos (by omega))) (fun c => ?_)
  refine BX6_has_11 ?_
  refine IX6_has_13 (fun c => ?_) (fun c => absurd (nI_le (b := 2) (by omega) (by decide)) c)
  refine BX6_has_24 hk ?_
  refine CX6_has_30 (sp_slot w _) (Nat.zero_le _) (fun v I1 J1 q1 => ?_)
  obtain ⟨rfl, rfl, rfl⟩ := q1
  refine BX6_has_33 ?_
  unfold haC
  refine IX6_has_38 (fun cs => ?_) (fun cs => ?_)
  · rw [if_neg cs]
    refine BX6_has_43 ?_
    by_cases k0 : k = 0
    · subst k0
      refine IX6_has_44 (fun z => absurd rfl z) (fun _ => ?_)
      refine BX6_has_47 hk (sl_in _ _ cs) ?_
      exact RX6_has_55 (Nat.zero_le _) ⟨_, rfl, rfl, rfl, rfl⟩
    · refine IX6_has_44 (fun _ => ?_) (fun z => absurd (nI_ne0 (by omega) (by omega)) z)
      refine BX6_has_56 ?_
      by_cases k1 : k = 1
      · subst k1
        refine IX6_has_58 (fun z => absurd rfl z) (fun _ => ?_)
        refine BX6_has_61 hk (sl_in _ _ cs) ?_
        exact RX6_has_80 (Nat.zero_le _) ⟨_, rfl, rfl, rfl, rfl⟩
      · have k2 : k = 2 := by omega
        subst k2
        refine IX6_has_58 (fun _ => ?_) (fun z => absurd (by decide) z)
        refine BX6_has_72 hk (sl_in _ _ cs) ?_
        exact RX6_has_80 (Nat.zero_le _) ⟨_, rfl, rfl, rfl, rfl⟩
  · rw [if_pos (Classical.not_not.mp cs)]
    refine BX6_has_41  ?_
    exact RX6_has_42  (Nat.zero_le _) ⟨_, rfl, ⟨rfl, rfl, rfl⟩⟩
theorem sp_hasB {x w k : Int32} (hx : x < 0 ∨ I 0 7 ≤ x) : Mth (d + 4) mX6_has [.ref 0, .int x, .int w, .int k] I J eIB := by
  refine Mth.of (by decide +kernel) (Nat.le_of_ble_eq_true rfl) ?_
  refine BX6_has_0  ?_
  exact XX6_has_2 (sp_gateAtT hx) (Nat.le_refl _) ⟨rfl, rfl, rfl⟩
theorem sp_hasT (hG : I 0 7 = nI G) (hG8 : G ≤ 8) (hx : x < G) {w k : Int32} (h : k < 0 ∨ ¬ k ≤ 2) : Mth (d + 4) mX6_has [.ref 0, .int (nI x), .int w, .int k] I J eIA := by
  refine Mth.of (by decide +kernel) (Nat.le_of_ble_eq_true rfl) ?_
  refine BX6_has_0  ?_
  refine CX6_has_2 (sp_gateAt hG hG8 hx) (Nat.zero_le _) (fun v2 I2 J2 q2 => ?_)
  obtain ⟨rfl, rfl, rfl⟩ := q2
  refine BX6_has_5  ?_
  refine IX6_has_8 (fun c8 => ?_) (fun c8 => ?_)
  · skip
    exact TX6_has_16 (by omega) (Nat.le_refl _) ⟨rfl, rfl, rfl⟩
  · skip
    refine BX6_has_11  ?_
    refine IX6_has_13 (fun c13 => absurd c13 (fun z => h.elim (fun y => c8 y) (fun y => y z))) (fun c13 => ?_)
    exact TX6_has_16 (by omega) (Nat.le_refl _) ⟨rfl, rfl, rfl⟩
end DK3

