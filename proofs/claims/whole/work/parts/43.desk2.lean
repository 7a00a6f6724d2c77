/-! QuotaDesk's own: what changes -/
def lkI (I : T2) (J : T3) (t : Int64) (w : Int32) (a : Nat) : T2 := up2 (dpC I a (I a 7).toNatClampNeg (wnI (ckC J I a t) w).toNatClampNeg 3) a 7 (wnI (ckC J I a t) w)
def lkJ (I : T2) (J : T3) (t : Int64) (a : Nat) : T3 := up3 J a 6 (ckC J I a t)
theorem lkI_o (I : T2) (J : T3) (t : Int64) (w : Int32) (a : Nat) {o : Nat} (h0 : o ≠ a) (h1 : o ≠ a + 1) (h2 : o ≠ a + 2) (h3 : o ≠ a + 3) : lkI I J t w a o = I o := by
  unfold lkI
  rw [up2_ne _ _ _ h0, dpC_o I a _ _ h1 h2 h3]
theorem lkJ_o (I : T2) (J : T3) (t : Int64) (a : Nat) {o : Nat} (h0 : o ≠ a) : lkJ I J t a o = J o := by
  funext j
  unfold lkJ
  rw [up3_v, if_neg (fun z => h0 z.1)]
/-- a look is possible -/
def lkOk (I : T2) (J : T3) (t : Int64) (w : Int32) (a : Nat) : Prop := (∃ wd, wd < 2 ^ 30 ∧ I a 7 = nI wd) ∧ ∃ nx, nx < 2 ^ 30 ∧ wnI (ckC J I a t) w = nI nx
theorem dpC_ext {I I' : T2} {a wd nx j : Nat} (h : I' (a + 1) = I (a + 1)) (h2 : I' (a + 2) = I (a + 2)) (h3 : I' (a + 3) = I (a + 3)) (hj : j = 1 ∨ j = 2 ∨ j = 3) : ∀ k, dpC I' a wd nx k (a + j) = dpC I a wd nx k (a + j)
  | 0 => by
    show I' (a + j) = I (a + j)
    rcases hj with e | e | e
    · rw [e, h]
    · rw [e, h2]
    · rw [e, h3]
  | k + 1 => by
    have ih := dpC_ext (wd := wd) (nx := nx) h h2 h3 hj k
    show (if wd + 2 < nx + k then up2 (up2 (up2 (dpC I' a wd nx k) (a + 1) ((nx + k - 1) % 3) 0) (a + 2) ((nx + k - 1) % 3) 0) (a + 3) ((nx + k - 1) % 3) 0 else dpC I' a wd nx k) (a + j) = (if wd + 2 < nx + k then up2 (up2 (up2 (dpC I a wd nx k) (a + 1) ((nx + k - 1) % 3) 0) (a + 2) ((nx + k - 1) % 3) 0) (a + 3) ((nx + k - 1) % 3) 0 else dpC I a wd nx k) (a + j)
    by_cases c : wd + 2 < nx + k
    · rw [if_pos c, if_pos c]
      funext i
      rw [up2_v, up2_v, up2_v, up2_v, up2_v, up2_v, ih]
    · rw [if_neg c, if_neg c, ih]
theorem lk_ext {I I' : T2} {J J' : T3} {t : Int64} {w : Int32} {a : Nat} (h0 : I' a = I a) (h1 : I' (a + 1) = I (a + 1)) (h2 : I' (a + 2) = I (a + 2)) (h3 : I' (a + 3) = I (a + 3)) (hJ : J' a = J a) : (∀ j, j < 4 → lkI I' J' t w a (a + j) = lkI I J t w a (a + j)) ∧ lkJ I' J' t a a = lkJ I J t a a ∧ ckC J' I' a t = ckC J I a t := by
  have hc : ckC J' I' a t = ckC J I a t := by unfold ckC; rw [h0, hJ]
  refine ⟨fun j hj => ?_, ?_, hc⟩
  · unfold lkI
    rw [hc, h0]
    funext i
    rw [up2_v, up2_v]
    by_cases c : a + j = a ∧ i = 7
    · rw [if_pos c, if_pos c]
    · rw [if_neg c, if_neg c]
      by_cases c2 : j = 0
      · subst c2
        show dpC I' a _ _ 3 a i = dpC I a _ _ 3 a i
        rw [dpC_o I' a _ _ (by omega) (by omega) (by omega), dpC_o I a _ _ (by omega) (by omega) (by omega), h0]
      · rw [dpC_ext h1 h2 h3 (by omega)]
  · unfold lkJ
    funext i
    rw [up3_v, up3_v, hc, hJ]
/-- the first k gates looked -/
def psP (I : T2) (J : T3) (t : Int64) (w : Int32) (k : Nat) (I' : T2) (J' : T3) : Prop := (∀ o, (∀ x j, x < k → j < 4 → o ≠ gP x + j) → I' o = I o) ∧ (∀ o, (∀ x, x < k → o ≠ gP x) → J' o = J o) ∧ ∀ x, x < k → (∀ j, j < 4 → I' (gP x + j) = lkI I J t w (gP x) (gP x + j)) ∧ J' (gP x) = lkJ I J t (gP x) (gP x)
theorem psP_s {I I' : T2} {J J' : T3} {t : Int64} {w : Int32} {k : Nat} (h : psP I J t w k I' J') : psP I J t w (k + 1) (lkI I' J' t w (gP k)) (lkJ I' J' t (gP k)) := by
  obtain ⟨h1, h2, h3⟩ := h
  have e : ∀ j, j < 4 → I' (gP k + j) = I (gP k + j) := fun j hj => h1 _ (fun x i hx hi => by show 24 + 14 * k + j ≠ 24 + 14 * x + i; omega)
  have eJ : J' (gP k) = J (gP k) := h2 _ (fun x hx => by show 24 + 14 * k ≠ 24 + 14 * x; omega)
  have e0 : I' (gP k) = I (gP k) := e 0 (by decide)
  obtain ⟨x1, x2, _⟩ := lk_ext (t := t) (w := w) e0 (e 1 (by decide)) (e 2 (by decide)) (e 3 (by decide)) eJ
  refine ⟨fun o ho => ?_, fun o ho => ?_, fun x hx => ⟨fun j hj => ?_, ?_⟩⟩
  · rw [lkI_o _ _ _ _ _ (show o ≠ gP k from ho k 0 (by omega) (by decide)) (ho k 1 (by omega) (by decide)) (ho k 2 (by omega) (by decide)) (ho k 3 (by omega) (by decide))]
    exact h1 o (fun x j hx hj => ho x j (by omega) hj)
  · rw [lkJ_o _ _ _ _ (ho k (by omega))]
    exact h2 o (fun x hx => ho x (by omega))
  · by_cases c : x = k
    · rw [c]; exact x1 j hj
    · rw [lkI_o _ _ _ _ _ (by show 24 + 14 * x + j ≠ 24 + 14 * k; omega) (by show 24 + 14 * x + j ≠ 24 + 14 * k + 1; omega) (by show 24 + 14 * x + j ≠ 24 + 14 * k + 2; omega) (by show 24 + 14 * x + j ≠ 24 + 14 * k + 3; omega)]
      exact (h3 x (by omega)).1 j hj
  · by_cases c : x = k
    · rw [c]; exact x2
    · rw [lkJ_o _ _ _ _ (by show 24 + 14 * x ≠ 24 + 14 * k; omega)]
      exact (h3 x (by omega)).2
theorem tnC_o (I : T2) (wd nx : Nat) {o : Nat} (h : o = 0 ∨ 8 ≤ o) : ∀ k, tnC I wd nx k o = I o
  | 0 => rfl
  | k + 1 => by
    show (if _ then _ else _ : T2) o = _
    by_cases c : wd + 2 < nx + k
    · rw [if_pos c, rnC_o _ (by omega) (by omega), tnC_o I wd nx h k]
    · rw [if_neg c, tnC_o I wd nx h k]
section DK2
variable {d : Nat} {I : T2} {J : T3} {G x : Nat}
theorem sp_lookX {a : Nat} (hk : kd a = 1) {t : Int64} {w : Int32} (h : lkOk I J t w a) : Mt (d + 1) mX1_look [.ref a, .long t, .int w] I J (RV (lkI I J t w a) (lkJ I J t a)) := by
  obtain ⟨⟨wd, h1, h2⟩, nx, h3, h4⟩ := h
  have := sp_look (d := d) hk h2 h4 h1 h3
  have e : lkI I J t w a = up2 (dpC I a wd nx 3) a 7 (nI nx) := by
    unfold lkI
    rw [h2, h4, nI_clamp (by omega), nI_clamp (by omega)]
  rw [e]
  exact this
theorem sp_error (hG : I 0 7 = nI G) (hG8 : G ≤ 8) (hx : x < G) {e : Int32} (h1 : ¬ e < -(I 0 9)) (h2 : e ≤ I 0 9) (h : lkOk (up2 I (gP x) 5 e) J (J 0 10) (I 0 8) (gP x)) : Mt (d + 2) mX6_error [.ref 0, .int (nI x), .int e] I J (RV (lkI (up2 I (gP x) 5 e) J (J 0 10) (I 0 8) (gP x)) (lkJ (up2 I (gP x) 5 e) J (J 0 10) (gP x))) := by
  refine Mt.of (by decide +kernel) (Nat.le_of_ble_eq_true rfl) ?_
  have hgp : gP x = 24 + 14 * x := rfl
  have hk : kd (gP x) = 1 := kgt (by omega)
  refine BX6_error_0 ?_
  refine CX6_error_2 (sp_gateAt hG hG8 hx) (Nat.zero_le _) (fun v I1 J1 q1 => ?_)
  obtain ⟨rfl, rfl, rfl⟩ := q1
  refine BX6_error_5 ?_
  refine IX6_error_12 (fun c => absurd c h1) (fun c => ?_)
  refine BX6_error_15 ?_
  refine IX6_error_20 (fun c => ?_) (fun c => absurd h2 c)
  refine BX6_error_31 hk ?_
  rw [up2_o _ _ _ _ (by show 0 ≠ 24 + 14 * x; omega)]
  refine CX6_error_45 hk (sp_lookX hk h) (Nat.zero_le _) (fun v I1 J1 q1 => ?_)
  obtain ⟨rfl, rfl, rfl⟩ := q1
  exact RX6_error_48 (Nat.zero_le _) ⟨_, rfl, rfl, rfl, rfl⟩
theorem sp_errorB {x e : Int32} (hx : x < 0 ∨ I 0 7 ≤ x) : Mth (d + 4) mX6_error [.ref 0, .int x, .int e] I J eIB := by
  refine Mth.of (by decide +kernel) (Nat.le_of_ble_eq_true rfl) ?_
  refine BX6_error_0  ?_
  exact XX6_error_2 (sp_gateAtT hx) (Nat.le_refl _) ⟨rfl, rfl, rfl⟩
theorem sp_errorT (hG : I 0 7 = nI G) (hG8 : G ≤ 8) (hx : x < G) {e : Int32} (h : e < -(I 0 9) ∨ ¬ e ≤ I 0 9) : Mth (d + 4) mX6_error [.ref 0, .int (nI x), .int e] I J eIA := by
  refine Mth.of (by decide +kernel) (Nat.le_of_ble_eq_true rfl) ?_
  refine BX6_error_0  ?_
  refine CX6_error_2 (sp_gateAt hG hG8 hx) (Nat.zero_le _) (fun v2 I2 J2 q2 => ?_)
  obtain ⟨rfl, rfl, rfl⟩ := q2
  refine BX6_error_5  ?_
  refine IX6_error_12 (fun c12 => ?_) (fun c12 => ?_)
  · skip
    exact TX6_error_23 (by omega) (Nat.le_refl _) ⟨rfl, rfl, rfl⟩
  · skip
    refine BX6_error_15  ?_
    refine IX6_error_20 (fun c20 => absurd c20 (fun z => h.elim (fun y => c12 y) (fun y => y z))) (fun c20 => ?_)
    exact TX6_error_23 (by omega) (Nat.le_refl _) ⟨rfl, rfl, rfl⟩
theorem sp_pass {q nx D : Nat} (hq : q ≤ 1000000) (hG : I 0 7 = nI G) (hG8 : G ≤ 8) (hD : I 2 4 = nI D) (hD2 : D < 2 ^ 30) (hn : wnI (J 0 10 + (nI q).toInt64) (I 0 8) = nI nx) (hn2 : nx < 2 ^ 30) (h : ∀ x, x < G → lkOk I J (J 0 10 + (nI q).toInt64) (I 0 8) (gP x)) : Mt (d + 3) mX6_pass [.ref 0, .int (nI q)] I J (fun v I' J' => v = none ∧ psP (up2 (tnC I D nx 3) 2 4 (nI nx)) (up3 J 0 10 (J 0 10 + (nI q).toInt64)) (J 0 10 + (nI q).toInt64) (I 0 8) G I' J') := by
  refine Mt.of (by decide +kernel) (Nat.le_of_ble_eq_true rfl) ?_
  refine BX6_pass_0 ?_
  refine IX6_pass_1 (fun c => absurd c (nI_pos (by omega))) (fun c => ?_)
  refine BX6_pass_4 ?_
  refine IX6_pass_7 (fun c => ?_) (fun c => absurd (nI_le (b := 1000000) hq (by decide)) c)
  refine BX6_pass_18 ?_
  have eJ : up3 J 0 10 (J 0 10 + (nI q).toInt64) 0 10 = J 0 10 + (nI q).toInt64 := by rw [up3_v, if_pos ⟨rfl, rfl⟩]
  rw [eJ]
  refine CX6_pass_41 (sp_wnd _ _) (Nat.zero_le _) (fun v I1 J1 q1 => ?_)
  obtain ⟨rfl, rfl, rfl⟩ := q1
  rw [hn]
  refine CX6_pass_44 (sp_turnTo hD hD2 hn2) (Nat.zero_le _) (fun v I1 J1 q1 => ?_)
  obtain ⟨rfl, rfl, rfl⟩ := q1
  refine BX6_pass_47 ?_
  have fr : ∀ o, o = 0 ∨ 8 ≤ o → up2 (tnC I D nx 3) 2 4 (nI nx) o = I o := fun o ho => by
    rw [up2_ne _ _ _ (by omega), tnC_o I D nx ho 3]
  have frJ : ∀ o, o ≠ 0 → up3 J 0 10 (J 0 10 + (nI q).toInt64) o = J o := fun o ho => by
    funext j
    rw [up3_v, if_neg (fun z => ho z.1)]
  generalize hI1 : up2 (tnC I D nx 3) 2 4 (nI nx) = I1 at *
  generalize hJ1 : up3 J 0 10 (J 0 10 + (nI q).toInt64) = J1 at *
  have key : ∀ q1 k : Nat, k + q1 = G → ∀ (I2 : T2) (J2 : T3), psP I1 J1 (J 0 10 + (nI q).toInt64) (I 0 8) k I2 J2 → Ev (d + 3) 0 0 (fun _ => 0) mX6_pass 49 [some (.ref 0), some (.int (nI q)), some (.int (nI k))] [] I2 J2 0 (fun o I' J' _ => ∃ w, o = .inl w ∧ w = none ∧ psP I1 J1 (J 0 10 + (nI q).toInt64) (I 0 8) G I' J') := by
    intro q1
    induction q1 with
    | zero =>
      intro k hk I2 J2 hp
      refine BX6_pass_49 ?_
      have e0 : I2 0 = I 0 := by rw [hp.1 0 (fun x j _ _ => by show 0 ≠ 24 + 14 * x + j; omega), fr 0 (Or.inl rfl)]
      rw [e0, hG]
      refine IX6_pass_54 (fun c => ?_) (fun c => absurd (nI_le (by omega) (by omega)) c)
      refine RX6_pass_80 (Nat.zero_le _) ⟨_, rfl, rfl, ?_⟩
      rw [show k = G by omega] at hp
      exact hp
    | succ q1 ih =>
      intro k hk I2 J2 hp
      refine BX6_pass_49 ?_
      have e0 : I2 0 = I 0 := by rw [hp.1 0 (fun x j _ _ => by show 0 ≠ 24 + 14 * x + j; omega), fr 0 (Or.inl rfl)]
      have eJ0 : J2 0 = J1 0 := hp.2.1 0 (fun x _ => by show 0 ≠ 24 + 14 * x; omega)
      rw [e0, hG]
      refine IX6_pass_54 (fun c => absurd c (nI_ge (by omega) (by omega))) (fun c => ?_)
      refine BX6_pass_57 (vp_in_nI (by omega) (by decide)) ?_
      rw [nI_clamp (by omega), e0, eJ0, eJ]
      have hkd : kd (gP k) = 1 := kgt (by omega)
      have eg : ∀ j, j < 4 → I2 (gP k + j) = I (gP k + j) := fun j hj => by
        rw [hp.1 _ (fun x i hx hi => by show 24 + 14 * k + j ≠ 24 + 14 * x + i; omega), fr _ (Or.inr (by show 8 ≤ 24 + 14 * k + j; omega))]
      have egJ : J2 (gP k) = J (gP k) := by
        rw [hp.2.1 _ (fun x hx => by show 24 + 14 * k ≠ 24 + 14 * x; omega), frJ _ (by show 24 + 14 * k ≠ 0; omega)]
      have hok : lkOk I2 J2 (J 0 10 + (nI q).toInt64) (I 0 8) (gP k) := by
        obtain ⟨a1, a2⟩ := h k (by omega)
        have eg0 : I2 (gP k) = I (gP k) := eg 0 (by decide)
        have ec := (lk_ext (t := J 0 10 + (nI q).toInt64) (w := I 0 8) eg0 (eg 1 (by decide)) (eg 2 (by decide)) (eg 3 (by decide)) egJ).2.2
        refine ⟨?_, ?_⟩
        · rw [eg0]; exact a1
        · rw [ec]; exact a2
      refine CX6_pass_71 hkd (sp_lookX hkd hok) (Nat.zero_le _) (fun v I3 J3 q3 => ?_)
      obtain ⟨rfl, rfl, rfl⟩ := q3
      refine BX6_pass_74 ?_
      rw [nI_1]
      exact ih (k + 1) (by omega) _ _ (psP_s hp)
  exact key G 0 (Nat.zero_add _) I1 J1 ⟨fun _ _ => rfl, fun _ _ => rfl, fun x hx => absurd hx (Nat.not_lt_zero _)⟩
theorem sp_passT {x : Int32} (h : x < 0 ∨ ¬ x ≤ 1000000) : Mth (d + 3) mX6_pass [.ref 0, .int x] I J eIA := by
  refine Mth.of (by decide +kernel) (Nat.le_of_ble_eq_true rfl) ?_
  refine BX6_pass_0  ?_
  refine IX6_pass_1 (fun c1 => ?_) (fun c1 => ?_)
  · skip
    exact TX6_pass_10 (by omega) (Nat.le_refl _) ⟨rfl, rfl, rfl⟩
  · skip
    refine BX6_pass_4  ?_
    refine IX6_pass_7 (fun c7 => absurd c7 (fun z => h.elim (fun y => c1 y) (fun y => y z))) (fun c7 => ?_)
    exact TX6_pass_10 (by omega) (Nat.le_refl _) ⟨rfl, rfl, rfl⟩
theorem sp_resend (hG : I 0 7 = nI G) (hG8 : G ≤ 8) (hx : x < G) {f n s r s' r' : Nat} (h : PlOk I f n) (hs : I (gP x + 4) 5 = nI s) (hr : I (gP x + 4) 6 = nI r) (hrs : r ≤ s) (hs2 : s < 2 ^ 30) (hs' : I (gP x + 9) 5 = nI s') (hr' : I (gP x + 9) 6 = nI r') (hrs' : r' ≤ s') (hs2' : s' < 2 ^ 30) : Mt (d + 2) mX6_resend [.ref 0, .int (nI x)] I J (RI (nI (s - r + (s' - r'))) (rsC (rsC I (gP x + 4) r (s - r)) (gP x + 9) r' (s' - r')) J) := by
  refine Mt.of (by decide +kernel) (Nat.le_of_ble_eq_true rfl) ?_
  have hgp : gP x = 24 + 14 * x := rfl
  have hk : kd (gP x) = 1 := kgt (by omega)
  obtain ⟨n', hn'⟩ := rsC_ok (gP x + 4) r h (s - r)
  refine BX6_resend_0 ?_
  refine CX6_resend_2 (sp_gateAt hG hG8 hx) (Nat.zero_le _) (fun v I1 J1 q1 => ?_)
  obtain ⟨rfl, rfl, rfl⟩ := q1
  refine BX6_resend_5 hk ?_
  refine CX6_resend_14 (kg_4 hk) (sp_sendAnew (kg_4 hk) h hs hr hrs hs2) (Nat.zero_le _) (fun v I1 J1 q1 => ?_)
  obtain ⟨rfl, rfl, rfl⟩ := q1
  refine BX6_resend_17 hk ?_
  refine CX6_resend_27 (kg_9 hk) (sp_sendAnew (kg_9 hk) hn' (by rw [rsC_o I _ _ (by omega) (by omega)]; exact hs') (by rw [rsC_o I _ _ (by omega) (by omega)]; exact hr') hrs' hs2') (Nat.zero_le _) (fun v I1 J1 q1 => ?_)
  obtain ⟨rfl, rfl, rfl⟩ := q1
  refine BX6_resend_30 ?_
  rw [nI_add]
  exact RX6_resend_31 (Nat.zero_le _) ⟨_, rfl, rfl, rfl, rfl⟩
theorem sp_resendB {x : Int32} (hx : x < 0 ∨ I 0 7 ≤ x) : Mth (d + 4) mX6_resend [.ref 0, .int x] I J eIB := by
  refine Mth.of (by decide +kernel) (Nat.le_of_ble_eq_true rfl) ?_
  refine BX6_resend_0  ?_
  exact XX6_resend_2 (sp_gateAtT hx) (Nat.le_refl _) ⟨rfl, rfl, rfl⟩
theorem sp_pleadX (hG : I 0 7 = nI G) (hG8 : G ≤ 8) (hx : x < G) {q f n s : Nat} (hq : 1 ≤ q) (hq2 : q ≤ 1000000) (hu : ¬ I (gP x) 8 = 0) (ho : I (gP x + 4) 5 - I (gP x + 4) 6 < 50) (h : PlOk I f n) (hs : I (gP x + 4) 5 = nI s) (hs2 : s < 2 ^ 30) : Mt (d + 2) mX6_plead [.ref 0, .int (nI x), .int (nI q)] I J (RV (sndC I (gP x + 4) s 0 (I (gP x) 7) (nI q) (siC I (gP x) (I (gP x) 7 - 1))) J) := by
  refine Mt.of (by decide +kernel) (Nat.le_of_ble_eq_true rfl) ?_
  have hgp : gP x = 24 + 14 * x := rfl
  have hk : kd (gP x) = 1 := kgt (by omega)
  have hk4 := kg_4 hk
  refine BX6_plead_0  ?_
  refine CX6_plead_2 (sp_gateAt hG hG8 hx) (Nat.zero_le _) (fun v2 I2 J2 q2 => ?_)
  obtain ⟨rfl, rfl, rfl⟩ := q2
  refine BX6_plead_5  ?_
  refine IX6_plead_8 (fun c8 => absurd c8 (nI_nlt (b := 1) hq (by omega))) (fun c8 => ?_)
  refine BX6_plead_11  ?_
  refine IX6_plead_14 (fun c14 => ?_) (fun c14 => absurd c14 (fun z => z (nI_le (b := 1000000) hq2 (by decide))))
  refine BX6_plead_25 (by assumption) ?_
  refine CX6_plead_29 (sp_up hu) (Nat.zero_le _) (fun v29 I29 J29 q29 => ?_)
  obtain ⟨rfl, rfl, rfl⟩ := q29
  refine BX6_plead_32 (by assumption) ?_
  refine CX6_plead_36 (sp_open hk4 ho) (Nat.zero_le _) (fun v36 I36 J36 q36 => ?_)
  obtain ⟨rfl, rfl, rfl⟩ := q36
  refine BX6_plead_39 (by assumption) ?_
  refine CX6_plead_60 (by assumption) (sp_spentIn hk _) (Nat.zero_le _) (fun v60 I60 J60 q60 => ?_)
  obtain ⟨rfl, rfl, rfl⟩ := q60
  refine CX6_plead_63 (by assumption) (sp_send hk4 h hs hs2 _ _ _ _) (Nat.zero_le _) (fun v63 I63 J63 q63 => ?_)
  obtain ⟨rfl, rfl, rfl⟩ := q63
  exact RX6_plead_66  (Nat.zero_le _) ⟨_, rfl, ⟨rfl, rfl, rfl⟩⟩
theorem sp_pleadB {x q : Int32} (hx : x < 0 ∨ I 0 7 ≤ x) : Mth (d + 4) mX6_plead [.ref 0, .int x, .int q] I J eIB := by
  refine Mth.of (by decide +kernel) (Nat.le_of_ble_eq_true rfl) ?_
  refine BX6_plead_0  ?_
  exact XX6_plead_2 (sp_gateAtT hx) (Nat.le_refl _) ⟨rfl, rfl, rfl⟩
theorem sp_pleadA (hG : I 0 7 = nI G) (hG8 : G ≤ 8) (hx : x < G) {q : Int32} (h : q < 1 ∨ ¬ q ≤ 1000000) : Mth (d + 4) mX6_plead [.ref 0, .int (nI x), .int q] I J eIA := by
  refine Mth.of (by decide +kernel) (Nat.le_of_ble_eq_true rfl) ?_
  refine BX6_plead_0  ?_
  refine CX6_plead_2 (sp_gateAt hG hG8 hx) (Nat.zero_le _) (fun v2 I2 J2 q2 => ?_)
  obtain ⟨rfl, rfl, rfl⟩ := q2
  refine BX6_plead_5  ?_
  refine IX6_plead_8 (fun c8 => ?_) (fun c8 => ?_)
  · skip
    exact TX6_plead_17 (by omega) (Nat.le_refl _) ⟨rfl, rfl, rfl⟩
  · skip
    refine BX6_plead_11  ?_
    refine IX6_plead_14 (fun c14 => absurd c14 (fun z => h.elim (fun y => c8 y) (fun y => y z))) (fun c14 => ?_)
    exact TX6_plead_17 (by omega) (Nat.le_refl _) ⟨rfl, rfl, rfl⟩
theorem sp_pleadS (hG : I 0 7 = nI G) (hG8 : G ≤ 8) (hx : x < G) {q : Int32} (h1 : ¬ q < 1) (h2 : q ≤ 1000000) (hu : I (gP x) 8 = 0) : Mth (d + 4) mX6_plead [.ref 0, .int (nI x), .int q] I J eIS := by
  refine Mth.of (by decide +kernel) (Nat.le_of_ble_eq_true rfl) ?_
  have hgp : gP x = 24 + 14 * x := rfl
  have hk : kd (gP x) = 1 := kgt (by omega)
  refine BX6_plead_0  ?_
  refine CX6_plead_2 (sp_gateAt hG hG8 hx) (Nat.zero_le _) (fun v2 I2 J2 q2 => ?_)
  obtain ⟨rfl, rfl, rfl⟩ := q2
  refine BX6_plead_5  ?_
  refine IX6_plead_8 (fun c8 => absurd c8 h1) (fun c8 => ?_)
  refine BX6_plead_11  ?_
  refine IX6_plead_14 (fun c14 => ?_) (fun c14 => absurd c14 (fun z => z h2))
  refine BX6_plead_25 (by assumption) ?_
  exact XX6_plead_29 ((by rw [hu]; exact sp_upT)) (Nat.le_refl _) ⟨rfl, rfl, rfl⟩
theorem sp_pleadU (hG : I 0 7 = nI G) (hG8 : G ≤ 8) (hx : x < G) {q : Int32} (h1 : ¬ q < 1) (h2 : q ≤ 1000000) (hu : ¬ I (gP x) 8 = 0) (ho : ¬ I (gP x + 4) 5 - I (gP x + 4) 6 < 50) : Mth (d + 4) mX6_plead [.ref 0, .int (nI x), .int q] I J eUO := by
  refine Mth.of (by decide +kernel) (Nat.le_of_ble_eq_true rfl) ?_
  have hgp : gP x = 24 + 14 * x := rfl
  have hk : kd (gP x) = 1 := kgt (by omega)
  have hk4 := kg_4 hk
  refine BX6_plead_0  ?_
  refine CX6_plead_2 (sp_gateAt hG hG8 hx) (Nat.zero_le _) (fun v2 I2 J2 q2 => ?_)
  obtain ⟨rfl, rfl, rfl⟩ := q2
  refine BX6_plead_5  ?_
  refine IX6_plead_8 (fun c8 => absurd c8 h1) (fun c8 => ?_)
  refine BX6_plead_11  ?_
  refine IX6_plead_14 (fun c14 => ?_) (fun c14 => absurd c14 (fun z => z h2))
  refine BX6_plead_25 (by assumption) ?_
  refine CX6_plead_29 (sp_up hu) (Nat.zero_le _) (fun v29 I29 J29 q29 => ?_)
  obtain ⟨rfl, rfl, rfl⟩ := q29
  refine BX6_plead_32 (by assumption) ?_
  exact XX6_plead_36 (sp_openT hk4 ho) (Nat.le_refl _) ⟨rfl, rfl, rfl⟩
theorem asC_o {a : Nat} {w n : Int32} {o : Nat} (h : o ≠ a + 1) : asC I a w n o = I o := by
  unfold asC
  by_cases c : slI w (I a 7) = -1
  · rw [if_pos c]
  · rw [if_neg c, up2_ne _ _ _ h]
theorem sp_backX (hG : I 0 7 = nI G) (hG8 : G ≤ 8) (hx : x < G) {w q : Int32} {f n s : Nat} (hu : ¬ I (gP x) 8 = 0) (h1 : ¬ q < 1) (h2 : q ≤ fiC I (gP x) w) (ho : I (gP x + 4) 5 - I (gP x + 4) 6 < 50) (h : PlOk I f n) (hs : I (gP x + 4) 5 = nI s) (hs2 : s < 2 ^ 30) : Mt (d + 2) mX6_back [.ref 0, .int (nI x), .int w, .int q] I J (RV (sndC (asC I (gP x) w (-q)) (gP x + 4) s 1 w q 0) J) := by
  refine Mt.of (by decide +kernel) (Nat.le_of_ble_eq_true rfl) ?_
  have hgp : gP x = 24 + 14 * x := rfl
  have hk : kd (gP x) = 1 := kgt (by omega)
  have hk4 := kg_4 hk
  have hP : PlOk (asC I (gP x) w (-q)) f n := ⟨by rw [asC_o (by omega)]; exact h.1, by rw [asC_o (by omega)]; exact h.2.1, h.2.2⟩
  have hS : asC I (gP x) w (-q) (gP x + 4) 5 = nI s := by rw [asC_o (by omega)]; exact hs
  refine BX6_back_0  ?_
  refine CX6_back_2 (sp_gateAt hG hG8 hx) (Nat.zero_le _) (fun v2 I2 J2 q2 => ?_)
  obtain ⟨rfl, rfl, rfl⟩ := q2
  refine BX6_back_5 (by assumption) ?_
  refine CX6_back_12 (sp_up hu) (Nat.zero_le _) (fun v12 I12 J12 q12 => ?_)
  obtain ⟨rfl, rfl, rfl⟩ := q12
  refine BX6_back_15  ?_
  refine IX6_back_17 (fun c17 => absurd c17 h1) (fun c17 => ?_)
  refine BX6_back_20  ?_
  refine CX6_back_24 (by assumption) (sp_freeIn hk w) (Nat.zero_le _) (fun v24 I24 J24 q24 => ?_)
  obtain ⟨rfl, rfl, rfl⟩ := q24
  refine IX6_back_27 (fun c27 => ?_) (fun c27 => absurd c27 (fun z => z h2))
  refine BX6_back_38 (by assumption) ?_
  refine CX6_back_43 (sp_open hk4 ho) (Nat.zero_le _) (fun v43 I43 J43 q43 => ?_)
  obtain ⟨rfl, rfl, rfl⟩ := q43
  refine BX6_back_46  ?_
  refine CX6_back_51 (by assumption) (sp_addShare hk w (-q)) (Nat.zero_le _) (fun v51 I51 J51 q51 => ?_)
  obtain ⟨rfl, rfl, rfl⟩ := q51
  refine BX6_back_54 (by assumption) ?_
  refine CX6_back_67 (by assumption) (sp_send hk4 hP hS hs2 _ _ _ _) (Nat.zero_le _) (fun v67 I67 J67 q67 => ?_)
  obtain ⟨rfl, rfl, rfl⟩ := q67
  exact RX6_back_70  (Nat.zero_le _) ⟨_, rfl, ⟨rfl, rfl, rfl⟩⟩
theorem sp_backB {x w q : Int32} (hx : x < 0 ∨ I 0 7 ≤ x) : Mth (d + 4) mX6_back [.ref 0, .int x, .int w, .int q] I J eIB := by
  refine Mth.of (by decide +kernel) (Nat.le_of_ble_eq_true rfl) ?_
  refine BX6_back_0  ?_
  exact XX6_back_2 (sp_gateAtT hx) (Nat.le_refl _) ⟨rfl, rfl, rfl⟩
theorem sp_backS (hG : I 0 7 = nI G) (hG8 : G ≤ 8) (hx : x < G) {w q : Int32} (hu : I (gP x) 8 = 0) : Mth (d + 4) mX6_back [.ref 0, .int (nI x), .int w, .int q] I J eIS := by
  refine Mth.of (by decide +kernel) (Nat.le_of_ble_eq_true rfl) ?_
  have hgp : gP x = 24 + 14 * x := rfl
  have hk : kd (gP x) = 1 := kgt (by omega)
  refine BX6_back_0  ?_
  refine CX6_back_2 (sp_gateAt hG hG8 hx) (Nat.zero_le _) (fun v2 I2 J2 q2 => ?_)
  obtain ⟨rfl, rfl, rfl⟩ := q2
  refine BX6_back_5 (by assumption) ?_
  exact XX6_back_12 ((by rw [hu]; exact sp_upT)) (Nat.le_refl _) ⟨rfl, rfl, rfl⟩
theorem sp_backA (hG : I 0 7 = nI G) (hG8 : G ≤ 8) (hx : x < G) {w q : Int32} (hu : ¬ I (gP x) 8 = 0) (h : q < 1 ∨ ¬ q ≤ fiC I (gP x) w) : Mth (d + 4) mX6_back [.ref 0, .int (nI x), .int w, .int q] I J eIA := by
  refine Mth.of (by decide +kernel) (Nat.le_of_ble_eq_true rfl) ?_
  have hgp : gP x = 24 + 14 * x := rfl
  have hk : kd (gP x) = 1 := kgt (by omega)
  refine BX6_back_0  ?_
  refine CX6_back_2 (sp_gateAt hG hG8 hx) (Nat.zero_le _) (fun v2 I2 J2 q2 => ?_)
  obtain ⟨rfl, rfl, rfl⟩ := q2
  refine BX6_back_5 (by assumption) ?_
  refine CX6_back_12 (sp_up hu) (Nat.zero_le _) (fun v12 I12 J12 q12 => ?_)
  obtain ⟨rfl, rfl, rfl⟩ := q12
  refine BX6_back_15  ?_
  refine IX6_back_17 (fun c17 => ?_) (fun c17 => ?_)
  · skip
    exact TX6_back_30 (by omega) (Nat.le_refl _) ⟨rfl, rfl, rfl⟩
  · skip
    refine BX6_back_20  ?_
    refine CX6_back_24 (by assumption) (sp_freeIn hk w) (Nat.zero_le _) (fun v24 I24 J24 q24 => ?_)
    obtain ⟨rfl, rfl, rfl⟩ := q24
    refine IX6_back_27 (fun c27 => absurd c27 (fun z => h.elim (fun y => c17 y) (fun y => y z))) (fun c27 => ?_)
    exact TX6_back_30 (by omega) (Nat.le_refl _) ⟨rfl, rfl, rfl⟩
theorem sp_backU (hG : I 0 7 = nI G) (hG8 : G ≤ 8) (hx : x < G) {w q : Int32} (hu : ¬ I (gP x) 8 = 0) (h1 : ¬ q < 1) (h2 : q ≤ fiC I (gP x) w) (ho : ¬ I (gP x + 4) 5 - I (gP x + 4) 6 < 50) : Mth (d + 4) mX6_back [.ref 0, .int (nI x), .int w, .int q] I J eUO := by
  refine Mth.of (by decide +kernel) (Nat.le_of_ble_eq_true rfl) ?_
  have hgp : gP x = 24 + 14 * x := rfl
  have hk : kd (gP x) = 1 := kgt (by omega)
  have hk4 := kg_4 hk
  refine BX6_back_0  ?_
  refine CX6_back_2 (sp_gateAt hG hG8 hx) (Nat.zero_le _) (fun v2 I2 J2 q2 => ?_)
  obtain ⟨rfl, rfl, rfl⟩ := q2
  refine BX6_back_5 (by assumption) ?_
  refine CX6_back_12 (sp_up hu) (Nat.zero_le _) (fun v12 I12 J12 q12 => ?_)
  obtain ⟨rfl, rfl, rfl⟩ := q12
  refine BX6_back_15  ?_
  refine IX6_back_17 (fun c17 => absurd c17 h1) (fun c17 => ?_)
  refine BX6_back_20  ?_
  refine CX6_back_24 (by assumption) (sp_freeIn hk w) (Nat.zero_le _) (fun v24 I24 J24 q24 => ?_)
  obtain ⟨rfl, rfl, rfl⟩ := q24
  refine IX6_back_27 (fun c27 => ?_) (fun c27 => absurd c27 (fun z => z h2))
  refine BX6_back_38 (by assumption) ?_
  exact XX6_back_43 (sp_openT hk4 ho) (Nat.le_refl _) ⟨rfl, rfl, rfl⟩
end DK2

