/-! the reference: back, letters that come -/
def pM (I : T2) (so g nu w u t : Int32) : T2 := ptM I (I 136 24).toNatClampNeg so g nu w u t
def sM (I : T2) (l : Nat) (so g w u t : Int32) : T2 := snM I (I 136 24).toNatClampNeg l (I 149 l).toNatClampNeg (I 148 l).toNatClampNeg so g w u t
def plM (I : T2) (x : Nat) (w u t : Int32) : T2 := if whI w (I 136 8) = -1 then I else if 0 < I 136 6 then up2 (up2 I 138 (3 * x + (whI w (I 136 8)).toNatClampNeg) (I 138 (3 * x + (whI w (I 136 8)).toNatClampNeg) + u)) 139 (3 * x + (whI w (I 136 8)).toNatClampNeg) t else if 0 < (if u < I 137 (whI w (I 136 8)).toNatClampNeg then u else I 137 (whI w (I 136 8)).toNatClampNeg) ∧ I 148 (8 + x) < 50 then sM (up2 I 137 (whI w (I 136 8)).toNatClampNeg (I 137 (whI w (I 136 8)).toNatClampNeg - (if u < I 137 (whI w (I 136 8)).toNatClampNeg then u else I 137 (whI w (I 136 8)).toNatClampNeg))) (8 + x) 2 (nI x) w (if u < I 137 (whI w (I 136 8)).toNatClampNeg then u else I 137 (whI w (I 136 8)).toNatClampNeg) 0 else I
/-- which gives an index -/
theorem wh_in {w c : Int32} (h : ¬ whI w c = -1) : ∃ j, j < 3 ∧ whI w c = nI j := by
  unfold whI at h ⊢
  by_cases c1 : w < 0
  · rw [if_pos c1] at h; exact absurd rfl h
  · rw [if_neg c1] at h ⊢
    by_cases c2 : w.toInt64 - c.toInt64 + 1 < 0
    · rw [if_pos c2] at h; exact absurd rfl h
    · rw [if_neg c2] at h ⊢
      by_cases c3 : 2 < w.toInt64 - c.toInt64 + 1
      · rw [if_pos c3] at h; exact absurd rfl h
      · rw [if_neg c3] at h ⊢
        obtain ⟨k, k1, k2⟩ := pk_lOf c2
        rw [k2] at c3 ⊢
        have k3 : k < 3 := Nat.lt_of_not_le fun z => c3 ((pk_lLT (a := 2) (by decide) k1).mpr (by omega))
        exact ⟨k, k3, lN_i k⟩
section RF4
variable {d : Nat} {I : T2} {J : T3} {G x : Nat}
theorem sm_put' {n : Nat} (hn : I 136 24 = nI n) (hn2 : n ≤ 200) (so g nu w u t : Int32) : Mt d mX7_put [.ref 136, .int so, .int g, .int nu, .int w, .int u, .int t] I J (RV (pM I so g nu w u t) J) := by
  have := sm_put (d := d) (J := J) hn hn2 so g nu w u t
  unfold pM
  rw [hn, nI_clamp (by omega)]
  exact this
theorem sm_send' {n l s k : Nat} (hn : I 136 24 = nI n) (hn2 : n ≤ 200) (hl : l < 16) (hs : I 149 l = nI s) (hs2 : s < 2 ^ 31) (hk : I 148 l = nI k) (hk2 : k < 50) (so g w u t : Int32) : Mt (d + 1) mX7_send [.ref 136, .int (nI l), .int so, .int g, .int w, .int u, .int t] I J (RV (sM I l so g w u t) J) := by
  have := sm_send (d := d) (J := J) hn hn2 hl hs hk hk2 so g w u t
  unfold sM
  rw [hn, hs, hk, nI_clamp (by omega), nI_clamp (by omega), nI_clamp (by omega)]
  exact this
/-- what all letters of the reference need -/
def MOk (I : T2) : Prop := (∃ n, n ≤ 200 ∧ I 136 24 = nI n) ∧ ∀ l, l < 16 → (∃ s, s < 2 ^ 30 ∧ I 149 l = nI s) ∧ ∃ k, k ≤ 50 ∧ I 148 l = nI k
theorem MOk_e {I' : T2} (h : MOk I) (h1 : I' 136 24 = I 136 24) (h2 : I' 149 = I 149) (h3 : I' 148 = I 148) : MOk I' := by
  unfold MOk
  rw [h1, h2, h3]
  exact h
set_option maxHeartbeats 1000000 in
theorem sm_plea (hm : MOk I) (hx : x < 8) (w u t : Int32) : Mt (d + 2) mX7_plea [.ref 136, .int (nI x), .int w, .int u, .int t] I J (RV (plM I x w u t) J) := by
  obtain ⟨⟨n, n1, n2⟩, hl⟩ := id hm
  obtain ⟨⟨s, s1, s2⟩, k, k1, k2⟩ := hl (8 + x) (by omega)
  refine Mt.of (by decide +kernel) (Nat.le_of_ble_eq_true rfl) ?_
  refine BX7_plea_0 ?_
  refine CX7_plea_5 (sm_which _ _) (Nat.zero_le _) (fun v I1 J1 q1 => ?_)
  obtain ⟨rfl, rfl, rfl⟩ := q1
  unfold plM
  by_cases cw : whI w (I 136 8) = -1
  · rw [if_pos cw, cw]
    refine BX7_plea_8  ?_
    refine IX7_plea_12 (fun c12 => absurd c12 (by decide)) (fun c12 => ?_)
    exact RX7_plea_15  (Nat.zero_le _) ⟨_, rfl, ⟨rfl, rfl, rfl⟩⟩
  · rw [if_neg cw]
    obtain ⟨j, j1, j2⟩ := wh_in cw
    rw [j2, nI_clamp (by omega)]
    refine BX7_plea_8 ?_
    refine IX7_plea_12 (fun _ => ?_) (fun z => absurd (nI_pos' (by omega)) z)
    refine BX7_plea_16 ?_
    refine IX7_plea_20 (fun c => ?_) (fun c => ?_)
    · rw [if_neg (Int32.not_lt.mpr c)]
      refine BX7_plea_52 (vp_in_nI j1 (by decide)) ?_
      rw [nI_clamp (by omega)]
      have fin : Ev (d + 2) 0 0 (fun _ => 0) mX7_plea 74 [some (.ref 136), some (.int (nI x)), some (.int w), some (.int u), some (.int t), some (.int (nI j)), none] [.int (if u < I 137 j then u else I 137 j)] I J 0 (fun o I' J' _ => ∃ v, o = .inl v ∧ RV (if 0 < (if u < I 137 j then u else I 137 j) ∧ I 148 (8 + x) < 50 then sM (up2 I 137 j (I 137 j - (if u < I 137 j then u else I 137 j))) (8 + x) 2 (nI x) w (if u < I 137 j then u else I 137 j) 0 else I) J v I' J') := by
        generalize (if u < I 137 j then u else I 137 j) = g
        refine BX7_plea_74 ?_
        refine IX7_plea_78 (fun c1 => ?_) (fun c1 => ?_)
        · rw [if_neg (fun z => absurd z.1 (Int32.not_lt.mpr c1))]
          exact RX7_plea_118  (Nat.zero_le _) ⟨_, rfl, ⟨rfl, rfl, rfl⟩⟩
        · refine BX7_plea_81 ?_
          rw [n8_]
          refine CX7_plea_86 (sm_canSend (by omega)) (Nat.zero_le _) (fun v I1 J1 q1 => ?_)
          obtain ⟨rfl, rfl, rfl⟩ := q1
          by_cases c2 : I 148 (8 + x) < 50
          · have e : csM I (8 + x) = 1 := if_pos c2
            rw [e, if_pos ⟨Int32.not_le.mp c1, c2⟩]
            refine IX7_plea_89 (fun z => absurd z (by decide)) (fun _ => ?_)
            refine BX7_plea_92 (vp_in_nI j1 (by decide)) ?_
            rw [nI_clamp (by omega), n8_]
            have hk50 : k < 50 := by
              rw [k2] at c2
              exact (nI_ltI (b := 50) (by omega) (by decide)).mp c2
            refine CX7_plea_115 (sm_send' (n := n) (s := s) (k := k) (by rw [up2_o _ _ _ _ (by decide)]; exact n2) n1 (by omega) (by rw [up2_o _ _ _ _ (by decide)]; exact s2) (by omega) (by rw [up2_o _ _ _ _ (by decide)]; exact k2) hk50 _ _ _ _ _) (Nat.zero_le _) (fun v I1 J1 q1 => ?_)
            obtain ⟨rfl, rfl, rfl⟩ := q1
            exact RX7_plea_118 (Nat.zero_le _) ⟨_, rfl, rfl, rfl, rfl⟩
          · have e : csM I (8 + x) = 0 := if_neg c2
            rw [e, if_neg (fun z => c2 z.2)]
            refine IX7_plea_89 (fun _ => ?_) (fun z => absurd rfl z)
            exact RX7_plea_118  (Nat.zero_le _) ⟨_, rfl, ⟨rfl, rfl, rfl⟩⟩
      refine IX7_plea_60 (fun c2 => ?_) (fun c2 => ?_)
      · refine BX7_plea_67 (vp_in_nI j1 (by decide)) ?_
        rw [nI_clamp (by omega)]
        have e : (if u < I 137 j then u else I 137 j) = I 137 j := if_neg (Int32.not_lt.mpr c2)
        rw [e] at fin
        rw [e]
        exact fin
      · refine BX7_plea_63 ?_
        have e : (if u < I 137 j then u else I 137 j) = u := if_pos (Int32.not_le.mp c2)
        rw [e] at fin
        rw [e]
        exact fin
    · rw [if_pos (Int32.not_le.mp c)]
      refine BX7_plea_23 (by rw [mul3', nI_add]; exact vp_in_nI (by omega) (by decide)) ?_
      rw [mul3', nI_add, nI_clamp (by omega)]
      exact RX7_plea_51 (Nat.zero_le _) ⟨_, rfl, rfl, rfl, rfl⟩
def shM (I : T2) (x : Nat) (w u : Int32) : T2 := if whI w (I 142 x) = -1 then I else up2 I 144 (3 * x + (whI w (I 142 x)).toNatClampNeg) (I 144 (3 * x + (whI w (I 142 x)).toNatClampNeg) + u)
def unM (I : T2) (w u : Int32) : T2 := if whI w (I 136 8) = -1 then I else up2 I 137 (whI w (I 136 8)).toNatClampNeg (I 137 (whI w (I 136 8)).toNatClampNeg + u)
def tkM (I : T2) (l : Nat) : T2 := up2 I 150 l (I 150 l + 1)
def rcpM (I : T2) (l x : Nat) (so : Int32) : T2 := pM I so (nI x) (I 150 l) 0 0 0
def cmF (I : T2) (so x : Nat) (nu w u t : Int32) : Int32 × T2 := if so = 2 then (if I 143 x = 0 then (if nu = I 150 (8 + x) + 1 then (1, rcpM (shM (tkM I (8 + x)) x w u) (8 + x) x 4) else (0, rcpM I (8 + x) x 4)) else (0, I)) else if so = 3 then (if I 143 x = 0 then (2, rvM x nu (I 148 x).toNatClampNeg I) else (0, I)) else if so = 4 then (if I 136 7 = 0 then (2, rvM (8 + x) nu (I 148 (8 + x)).toNatClampNeg I) else (0, I)) else if I 136 7 = 0 then (if nu = I 150 x + 1 then (1, rcpM (if so = 0 then plM (tkM I x) x w u t else unM (tkM I x) w u) x x 3) else (0, rcpM I x x 3)) else (0, I)
def cmM (I : T2) (i : Nat) : Int32 × T2 := cmF (rmM I (I 136 24).toNatClampNeg i) (I 151 (6 * i)).toNatClampNeg (I 151 (6 * i + 1)).toNatClampNeg (I 151 (6 * i + 2)) (I 151 (6 * i + 3)) (I 151 (6 * i + 4)) (I 151 (6 * i + 5))
theorem tkM_o {l o : Nat} (h : o ≠ 150) : tkM I l o = I o := up2_ne _ _ _ h
theorem shM_o {w u : Int32} {o : Nat} (h : o ≠ 144) : shM I x w u o = I o := by
  unfold shM
  by_cases c : whI w (I 142 x) = -1
  · rw [if_pos c]
  · rw [if_neg c, up2_ne _ _ _ h]
theorem unM_o {w u : Int32} {o : Nat} (h : o ≠ 137) : unM I w u o = I o := by
  unfold unM
  by_cases c : whI w (I 136 8) = -1
  · rw [if_pos c]
  · rw [if_neg c, up2_ne _ _ _ h]
theorem sM_o {l o : Nat} {so g w u t : Int32} (h1 : o ≠ 136) (h2 : o ≠ 151) (h3 : o ≠ 147) (h4 : o ≠ 148) (h5 : o ≠ 149) : sM I l so g w u t o = I o := by
  unfold sM snM kpM
  rw [ptM_o h1 h2, up2_ne _ _ _ h4, up2_ne _ _ _ h3, up2_ne _ _ _ h3, up2_ne _ _ _ h3, up2_ne _ _ _ h3, up2_ne _ _ _ h3, up2_ne _ _ _ h3, up2_ne _ _ _ h5]
theorem sM_n {n l : Nat} {so g w u t : Int32} (hn : I 136 24 = nI n) (hn2 : n ≤ 200) : sM I l so g w u t 136 24 = nI (plus n) := by
  unfold sM snM
  have e : kpM I l (I 149 l).toNatClampNeg (I 148 l).toNatClampNeg so g w u t 136 24 = nI n := by
    unfold kpM
    rw [up2_o _ _ _ _ (by decide), up2_o _ _ _ _ (by decide), up2_o _ _ _ _ (by decide), up2_o _ _ _ _ (by decide), up2_o _ _ _ _ (by decide), up2_o _ _ _ _ (by decide), up2_o _ _ _ _ (by decide), up2_o _ _ _ _ (by decide), hn]
  rw [hn, nI_clamp (by omega)]
  exact ptM_n e
theorem plM_150 {w u t : Int32} : plM I x w u t 150 = I 150 := by
  unfold plM
  by_cases c1 : whI w (I 136 8) = -1
  · rw [if_pos c1]
  · rw [if_neg c1]
    by_cases c2 : 0 < I 136 6
    · rw [if_pos c2, up2_ne _ _ _ (by decide), up2_ne _ _ _ (by decide)]
    · rw [if_neg c2]
      by_cases c3 : 0 < (if u < I 137 (whI w (I 136 8)).toNatClampNeg then u else I 137 (whI w (I 136 8)).toNatClampNeg) ∧ I 148 (8 + x) < 50
      · rw [if_pos c3, sM_o (by decide) (by decide) (by decide) (by decide) (by decide), up2_ne _ _ _ (by decide)]
      · rw [if_neg c3]
theorem plM_n {w u t : Int32} (h : ∃ n, n ≤ 200 ∧ I 136 24 = nI n) : ∃ n, n ≤ 200 ∧ plM I x w u t 136 24 = nI n := by
  unfold plM
  by_cases c1 : whI w (I 136 8) = -1
  · rw [if_pos c1]; exact h
  · rw [if_neg c1]
    by_cases c2 : 0 < I 136 6
    · rw [if_pos c2, up2_ne _ _ _ (by decide), up2_ne _ _ _ (by decide)]; exact h
    · rw [if_neg c2]
      by_cases c3 : 0 < (if u < I 137 (whI w (I 136 8)).toNatClampNeg then u else I 137 (whI w (I 136 8)).toNatClampNeg) ∧ I 148 (8 + x) < 50
      · rw [if_pos c3]
        obtain ⟨n, n1, n2⟩ := h
        exact ⟨plus n, plus_le n1, sM_n (by rw [up2_o _ _ _ _ (by decide)]; exact n2) n1⟩
      · rw [if_neg c3]; exact h
set_option maxHeartbeats 4000000 in
theorem sm_come {n i so : Nat} (hm : MOk I) (hn : I 136 24 = nI n) (hn2 : n ≤ 200) (hi : i < n) (hso : I 151 (6 * i) = nI so) (hso5 : so < 5) (hg : I 151 (6 * i + 1) = nI x) (hx : x < 8) : Mt (d + 3) mX7_come [.ref 136, .int (nI i)] I J (RI (cmM I i).1 (cmM I i).2 J) := by
  refine Mt.of (by decide +kernel) (Nat.le_of_ble_eq_true rfl) ?_
  refine BX7_come_0 (by rw [mul6']; exact vp_in_nI (by omega) (by decide)) (by rw [mul6', nI_1]; exact vp_in_nI (by omega) (by decide)) (by rw [mul6', nI_2]; exact vp_in_nI (by omega) (by decide)) (by rw [mul6', nI_3]; exact vp_in_nI (by omega) (by decide)) (by rw [mul6', nI_4]; exact vp_in_nI (by omega) (by decide)) (by rw [mul6', nI_5]; exact vp_in_nI (by omega) (by decide)) ?_
  rw [mul6', nI_1, nI_2, nI_3, nI_4, nI_5, nI_clamp (by omega), nI_clamp (by omega), nI_clamp (by omega), nI_clamp (by omega), nI_clamp (by omega), nI_clamp (by omega)]
  refine CX7_come_64 (sm_remove hn hn2 hi) (Nat.zero_le _) (fun v I1 J1 q1 => ?_)
  obtain ⟨rfl, rfl, rfl⟩ := q1
  unfold cmM
  rw [hso, hg, hn, nI_clamp (n := so) (by omega), nI_clamp (n := x) (by omega), nI_clamp (n := n) (by omega)]
  have hm0 : MOk (rmM I n i) := by
    obtain ⟨_, hl⟩ := hm
    refine ⟨⟨n - 1, by omega, ?_⟩, fun l h => ?_⟩
    · unfold rmM; rw [up2_s]
    · have e8 : rmM I n i 148 = I 148 := by unfold rmM; rw [up2_ne _ _ _ (by decide), upr_ne _ _ (by decide)]
      have e9 : rmM I n i 149 = I 149 := by unfold rmM; rw [up2_ne _ _ _ (by decide), upr_ne _ _ (by decide)]
      rw [e8, e9]
      exact hl l h
  generalize rmM I n i = I0 at hm0 ⊢
  generalize I 151 (6 * i + 2) = nu
  generalize I 151 (6 * i + 3) = w
  generalize I 151 (6 * i + 4) = u
  generalize I 151 (6 * i + 5) = t
  generalize 6 * i = z6
  obtain ⟨⟨n0, n01, n02⟩, hl0⟩ := id hm0
  -- the receipt
  have tail : ∀ (I1 : T2) (l : Nat) (td nx so' : Int32), l < 16 → (∃ n, n ≤ 200 ∧ I1 136 24 = nI n) → ((td = 0 ∧ so' = 4) ∨ (td = 1 ∧ so' = 3)) → (nx = 0 ∨ nx = 1) → Ev (d + 3) 0 0 (fun _ => 0) mX7_come 293 [some (.ref 136), some (.int (nI i)), some (.int (nI z6)), some (.int (nI so)), some (.int (nI x)), some (.int nu), some (.int w), some (.int u), some (.int t), some (.int td), some (.int (nI l)), some (.int nx), none] [] I1 J 0 (fun o I' J' _ => ∃ v, o = .inl v ∧ RI nx (rcpM I1 l x so') J v I' J') := by
    intro I1 l td nx so' hl ⟨n1, n11, n12⟩ htd hnx
    refine BX7_come_293 ?_
    have fin : Ev (d + 3) 0 0 (fun _ => 0) mX7_come 304 [some (.ref 136), some (.int (nI i)), some (.int (nI z6)), some (.int (nI so)), some (.int (nI x)), some (.int nu), some (.int w), some (.int u), some (.int t), some (.int td), some (.int (nI l)), some (.int nx), none] [.int so', .ref 136] I1 J 0 (fun o I' J' _ => ∃ v, o = .inl v ∧ RI nx (rcpM I1 l x so') J v I' J') := by
      refine BX7_come_304 (vp_in_nI hl (by decide)) ?_
      rw [nI_clamp (by omega)]
      refine CX7_come_316 (sm_put' n12 n11 _ _ _ _ _ _) (Nat.zero_le _) (fun v I2 J2 q2 => ?_)
      obtain ⟨rfl, rfl, rfl⟩ := q2
      refine BX7_come_319 ?_
      rcases hnx with e | e
      · subst e
        refine IX7_come_321 (fun _ => ?_) (fun z => absurd rfl z)
        refine BX7_come_328  ?_
        exact RX7_come_329  (Nat.zero_le _) ⟨_, rfl, ⟨rfl, rfl, rfl⟩⟩
      · subst e
        refine IX7_come_321 (fun z => absurd z (by decide)) (fun _ => ?_)
        refine BX7_come_324  ?_
        exact RX7_come_329  (Nat.zero_le _) ⟨_, rfl, ⟨rfl, rfl, rfl⟩⟩
    rcases htd with ⟨e1, e2⟩ | ⟨e1, e2⟩
    · subst e1 e2
      refine IX7_come_296 (fun _ => ?_) (fun z => absurd rfl z)
      refine BX7_come_303 ?_
      exact fin
    · subst e1 e2
      refine IX7_come_296 (fun z => absurd z (by decide)) (fun _ => ?_)
      refine BX7_come_299 ?_
      exact fin
  -- the line is known
  have line : ∀ (l : Nat) (td so' : Int32), l < 16 → (td = 0 ∧ so' = 4 ∧ so = 2 ∧ l = 8 + x) ∨ (td = 1 ∧ so' = 3 ∧ (so = 0 ∨ so = 1) ∧ l = x) → Ev (d + 3) 0 0 (fun _ => 0) mX7_come 163 [some (.ref 136), some (.int (nI i)), some (.int (nI z6)), some (.int (nI so)), some (.int (nI x)), some (.int nu), some (.int w), some (.int u), some (.int t), some (.int td), none, none, none] [.int (nI l)] I0 J 0 (fun o I' J' _ => ∃ v, o = .inl v ∧ RI (if nu = I0 150 l + 1 then 1 else 0) (if nu = I0 150 l + 1 then rcpM (if so = 2 then shM (tkM I0 l) x w u else if so = 0 then plM (tkM I0 l) x w u t else unM (tkM I0 l) w u) l x so' else rcpM I0 l x so') J v I' J') := by
    intro l td so' hl hc
    refine BX7_come_163 (vp_in_nI hl (by decide)) ?_
    rw [nI_clamp (by omega)]
    have htd : (td = 0 ∧ so' = 4) ∨ (td = 1 ∧ so' = 3) := hc.elim (fun z => Or.inl ⟨z.1, z.2.1⟩) (fun z => Or.inr ⟨z.1, z.2.1⟩)
    refine IX7_come_176 (fun c => ?_) (fun c => ?_)
    · rw [if_neg c, if_neg c]
      refine BX7_come_183 ?_
      refine BX7_come_184 ?_
      refine IX7_come_188 (fun _ => ?_) (fun z => absurd rfl z)
      exact tail I0 l td 0 so' hl ⟨n0, n01, n02⟩ htd (Or.inl rfl)
    · have c' := Classical.not_not.mp c
      rw [if_pos c', if_pos c']
      refine BX7_come_179 ?_
      refine BX7_come_184 ?_
      refine IX7_come_188 (fun z => absurd z (by decide)) (fun _ => ?_)
      refine BX7_come_191 (vp_in_nI hl (by decide)) ?_
      rw [nI_clamp (by omega)]
      have hm1 : MOk (tkM I0 l) := MOk_e hm0 (by rw [tkM_o (by decide)]) (tkM_o (by decide)) (tkM_o (by decide))
      have e1 : ∃ n, n ≤ 200 ∧ tkM I0 l 136 24 = nI n := hm1.1
      rw [show up2 I0 150 l (I0 150 l + 1) = tkM I0 l from rfl]
      generalize tkM I0 l = IT at hm1 e1 ⊢
      rcases hc with ⟨_, _, hs, hlx⟩ | ⟨_, _, hs, hlx⟩
      · subst hs
        rw [if_pos rfl]
        refine IX7_come_203 (fun _ => ?_) (fun z => absurd (by decide) z)
        refine BX7_come_221 ?_
        refine IX7_come_223 (fun _ => ?_) (fun z => absurd (by decide) z)
        refine BX7_come_257 (vp_in_nI hx (by decide)) ?_
        rw [nI_clamp (by omega)]
        refine CX7_come_266 (sm_which _ _) (Nat.zero_le _) (fun v I1 J1 q1 => ?_)
        obtain ⟨rfl, rfl, rfl⟩ := q1
        by_cases cw : whI w (IT 142 x) = -1
        · have e2 : shM (IT) x w u = IT := if_pos cw
          rw [e2, cw]
          refine BX7_come_269 ?_
          refine IX7_come_273 (fun _ => ?_) (fun z => absurd (by decide) z)
          refine Ev.weak (ls' := [some (.ref 136), some (.int (nI i)), some (.int (nI z6)), some (.int (nI 2)), some (.int (nI x)), some (.int nu), some (.int w), some (.int u), some (.int t), some (.int td), some (.int (nI l)), some (.int 1), none]) ⟨Or.inr rfl, Or.inr rfl, Or.inr rfl, Or.inr rfl, Or.inr rfl, Or.inr rfl, Or.inr rfl, Or.inr rfl, Or.inr rfl, Or.inr rfl, Or.inr rfl, Or.inr rfl, Or.inl rfl, trivial⟩ ?_
          exact tail (IT) l td 1 so' hl e1 htd (Or.inr rfl)
        · obtain ⟨j, j1, j2⟩ := wh_in cw
          have e2 : shM (IT) x w u = up2 (IT) 144 (3 * x + j) (IT 144 (3 * x + j) + u) := by
            unfold shM
            rw [if_neg cw, j2, nI_clamp (by omega)]
          rw [e2, j2]
          refine BX7_come_269 ?_
          refine IX7_come_273 (fun z => absurd z (nI_pos (by omega))) (fun _ => ?_)
          refine BX7_come_276 (by rw [mul3', nI_add]; exact vp_in_nI (by omega) (by decide)) ?_
          rw [mul3', nI_add, nI_clamp (by omega)]
          refine Ev.weak (ls' := [some (.ref 136), some (.int (nI i)), some (.int (nI z6)), some (.int (nI 2)), some (.int (nI x)), some (.int nu), some (.int w), some (.int u), some (.int t), some (.int td), some (.int (nI l)), some (.int 1), none]) ⟨Or.inr rfl, Or.inr rfl, Or.inr rfl, Or.inr rfl, Or.inr rfl, Or.inr rfl, Or.inr rfl, Or.inr rfl, Or.inr rfl, Or.inr rfl, Or.inr rfl, Or.inr rfl, Or.inl rfl, trivial⟩ ?_
          exact tail _ l td 1 so' hl (by rw [up2_o _ _ _ _ (by decide)]; exact e1) htd (Or.inr rfl)
      · rw [if_neg (by omega)]
        rcases hs with hs | hs
        · subst hs
          rw [if_pos rfl]
          refine IX7_come_203 (fun z => absurd rfl z) (fun _ => ?_)
          refine BX7_come_206 ?_
          refine CX7_come_215 (sm_plea hm1 hx _ _ _) (Nat.zero_le _) (fun v I1 J1 q1 => ?_)
          obtain ⟨rfl, rfl, rfl⟩ := q1
          refine BX7_come_218 ?_
          exact tail _ l td 1 so' hl (plM_n e1) htd (Or.inr rfl)
        · subst hs
          rw [if_neg (by decide)]
          refine IX7_come_203 (fun _ => ?_) (fun z => absurd (by decide) z)
          refine BX7_come_221 ?_
          refine IX7_come_223 (fun z => absurd rfl z) (fun _ => ?_)
          refine BX7_come_226 ?_
          refine CX7_come_232 (sm_which _ _) (Nat.zero_le _) (fun v I1 J1 q1 => ?_)
          obtain ⟨rfl, rfl, rfl⟩ := q1
          by_cases cw : whI w (IT 136 8) = -1
          · have e2 : unM (IT) w u = IT := if_pos cw
            rw [e2, cw]
            refine BX7_come_235 ?_
            refine IX7_come_239 (fun _ => ?_) (fun z => absurd (by decide) z)
            refine BX7_come_254 ?_
            refine Ev.weak (ls' := [some (.ref 136), some (.int (nI i)), some (.int (nI z6)), some (.int (nI 1)), some (.int (nI x)), some (.int nu), some (.int w), some (.int u), some (.int t), some (.int td), some (.int (nI l)), some (.int 1), none]) ⟨Or.inr rfl, Or.inr rfl, Or.inr rfl, Or.inr rfl, Or.inr rfl, Or.inr rfl, Or.inr rfl, Or.inr rfl, Or.inr rfl, Or.inr rfl, Or.inr rfl, Or.inr rfl, Or.inl rfl, trivial⟩ ?_
            exact tail (IT) l td 1 so' hl e1 htd (Or.inr rfl)
          · obtain ⟨j, j1, j2⟩ := wh_in cw
            have e2 : unM (IT) w u = up2 (IT) 137 j (IT 137 j + u) := by
              unfold unM
              rw [if_neg cw, j2, nI_clamp (by omega)]
            rw [e2, j2]
            refine BX7_come_235 ?_
            refine IX7_come_239 (fun z => absurd z (nI_pos (by omega))) (fun _ => ?_)
            refine BX7_come_242 (vp_in_nI j1 (by decide)) ?_
            rw [nI_clamp (by omega)]
            refine BX7_come_254 ?_
            refine Ev.weak (ls' := [some (.ref 136), some (.int (nI i)), some (.int (nI z6)), some (.int (nI 1)), some (.int (nI x)), some (.int nu), some (.int w), some (.int u), some (.int t), some (.int td), some (.int (nI l)), some (.int 1), none]) ⟨Or.inr rfl, Or.inr rfl, Or.inr rfl, Or.inr rfl, Or.inr rfl, Or.inr rfl, Or.inr rfl, Or.inr rfl, Or.inr rfl, Or.inr rfl, Or.inr rfl, Or.inr rfl, Or.inl rfl, trivial⟩ ?_
            exact tail _ l td 1 so' hl (by rw [up2_o _ _ _ _ (by decide)]; exact e1) htd (Or.inr rfl)
  refine BX7_come_67 ?_
  unfold cmF
  have c4 : so = 0 ∨ so = 1 ∨ so = 2 ∨ so = 3 ∨ so = 4 := by omega
  rcases c4 with e | e | e | e | e
  · subst e
    rw [if_neg (by decide), if_neg (by decide), if_neg (by decide)]
    refine IX7_come_68 (fun _ => ?_) (fun z => absurd rfl z)
    refine BX7_come_81 ?_
    refine BX7_come_86 ?_
    refine IX7_come_90 (fun z => absurd z (by decide)) (fun _ => ?_)
    refine BX7_come_93 ?_
    refine IX7_come_97 (fun c => ?_) (fun c => ?_)
    · rw [if_pos c]
      refine BX7_come_115 ?_
      refine IX7_come_117 (fun _ => ?_) (fun z => absurd (by decide) z)
      refine BX7_come_133 ?_
      refine IX7_come_135 (fun _ => ?_) (fun z => absurd (by decide) z)
      refine BX7_come_148 ?_
      refine IX7_come_150 (fun z => absurd z (by decide)) (fun _ => ?_)
      refine BX7_come_153 ?_
      have := line x 1 3 (by omega) (Or.inr ⟨rfl, rfl, Or.inl rfl, rfl⟩)
      by_cases cn : nu = I0 150 x + 1
      · rw [if_pos cn, if_pos cn, if_neg (by decide), if_pos rfl] at this
        rw [if_pos cn, if_pos rfl]
        exact this
      · rw [if_neg cn, if_neg cn] at this
        rw [if_neg cn]
        exact this
    · rw [if_neg c]
      refine BX7_come_100  ?_
      refine BX7_come_113  ?_
      exact RX7_come_114  (Nat.zero_le _) ⟨_, rfl, ⟨rfl, rfl, rfl⟩⟩
  · subst e
    rw [if_neg (by decide), if_neg (by decide), if_neg (by decide)]
    refine IX7_come_68 (fun z => absurd z (by decide)) (fun _ => ?_)
    refine BX7_come_71 ?_
    refine IX7_come_73 (fun _ => ?_) (fun z => absurd rfl z)
    refine BX7_come_81 ?_
    refine BX7_come_86 ?_
    refine IX7_come_90 (fun z => absurd z (by decide)) (fun _ => ?_)
    refine BX7_come_93 ?_
    refine IX7_come_97 (fun c => ?_) (fun c => ?_)
    · rw [if_pos c]
      refine BX7_come_115 ?_
      refine IX7_come_117 (fun _ => ?_) (fun z => absurd (by decide) z)
      refine BX7_come_133 ?_
      refine IX7_come_135 (fun _ => ?_) (fun z => absurd (by decide) z)
      refine BX7_come_148 ?_
      refine IX7_come_150 (fun z => absurd z (by decide)) (fun _ => ?_)
      refine BX7_come_153 ?_
      have := line x 1 3 (by omega) (Or.inr ⟨rfl, rfl, Or.inr rfl, rfl⟩)
      by_cases cn : nu = I0 150 x + 1
      · rw [if_pos cn, if_pos cn, if_neg (by decide), if_neg (by decide)] at this
        rw [if_pos cn, if_neg (by decide)]
        exact this
      · rw [if_neg cn, if_neg cn] at this
        rw [if_neg cn]
        exact this
    · rw [if_neg c]
      refine BX7_come_100  ?_
      refine BX7_come_113  ?_
      exact RX7_come_114  (Nat.zero_le _) ⟨_, rfl, ⟨rfl, rfl, rfl⟩⟩
  · subst e
    rw [if_pos rfl]
    refine IX7_come_68 (fun z => absurd z (by decide)) (fun _ => ?_)
    refine BX7_come_71 ?_
    refine IX7_come_73 (fun z => absurd z (by decide)) (fun _ => ?_)
    refine BX7_come_76 ?_
    refine IX7_come_78 (fun _ => ?_) (fun z => absurd (by decide) z)
    refine BX7_come_85 ?_
    refine BX7_come_86 ?_
    refine IX7_come_90 (fun _ => ?_) (fun z => absurd rfl z)
    refine BX7_come_103 (vp_in_nI hx (by decide)) ?_
    rw [nI_clamp (by omega)]
    refine IX7_come_110 (fun c => ?_) (fun c => ?_)
    · rw [if_pos c]
      refine BX7_come_115 ?_
      refine IX7_come_117 (fun _ => ?_) (fun z => absurd (by decide) z)
      refine BX7_come_133 ?_
      refine IX7_come_135 (fun _ => ?_) (fun z => absurd (by decide) z)
      refine BX7_come_148 ?_
      refine IX7_come_150 (fun _ => ?_) (fun z => absurd rfl z)
      refine BX7_come_158 ?_
      rw [n8_]
      have := line (8 + x) 0 4 (by omega) (Or.inl ⟨rfl, rfl, rfl, rfl⟩)
      by_cases cn : nu = I0 150 (8 + x) + 1
      · rw [if_pos cn, if_pos cn, if_pos rfl] at this
        rw [if_pos cn]
        exact this
      · rw [if_neg cn, if_neg cn] at this
        rw [if_neg cn]
        exact this
    · rw [if_neg c]
      refine BX7_come_113  ?_
      exact RX7_come_114  (Nat.zero_le _) ⟨_, rfl, ⟨rfl, rfl, rfl⟩⟩
  · subst e
    rw [if_neg (by decide), if_pos rfl]
    refine IX7_come_68 (fun z => absurd z (by decide)) (fun _ => ?_)
    refine BX7_come_71 ?_
    refine IX7_come_73 (fun z => absurd z (by decide)) (fun _ => ?_)
    refine BX7_come_76 ?_
    refine IX7_come_78 (fun _ => ?_) (fun z => absurd (by decide) z)
    refine BX7_come_85 ?_
    refine BX7_come_86 ?_
    refine IX7_come_90 (fun _ => ?_) (fun z => absurd rfl z)
    refine BX7_come_103 (vp_in_nI hx (by decide)) ?_
    rw [nI_clamp (by omega)]
    refine IX7_come_110 (fun c => ?_) (fun c => ?_)
    · rw [if_pos c]
      refine BX7_come_115 ?_
      refine IX7_come_117 (fun _ => ?_) (fun z => absurd (by decide) z)
      refine BX7_come_133 ?_
      refine IX7_come_135 (fun z => absurd rfl z) (fun _ => ?_)
      refine BX7_come_138 ?_
      obtain ⟨_, k, k1, k2⟩ := hl0 x (by omega)
      rw [k2, nI_clamp (n := k) (by omega)]
      refine CX7_come_143 (sm_received (by omega) k2 k1 nu) (Nat.zero_le _) (fun v I1 J1 q1 => ?_)
      obtain ⟨rfl, rfl, rfl⟩ := q1
      refine BX7_come_146  ?_
      exact RX7_come_147  (Nat.zero_le _) ⟨_, rfl, ⟨rfl, rfl, rfl⟩⟩
    · rw [if_neg c]
      refine BX7_come_113  ?_
      exact RX7_come_114  (Nat.zero_le _) ⟨_, rfl, ⟨rfl, rfl, rfl⟩⟩
  · subst e
    rw [if_neg (by decide), if_neg (by decide), if_pos rfl]
    refine IX7_come_68 (fun z => absurd z (by decide)) (fun _ => ?_)
    refine BX7_come_71 ?_
    refine IX7_come_73 (fun z => absurd z (by decide)) (fun _ => ?_)
    refine BX7_come_76 ?_
    refine IX7_come_78 (fun z => absurd rfl z) (fun _ => ?_)
    refine BX7_come_81 ?_
    refine BX7_come_86 ?_
    refine IX7_come_90 (fun z => absurd z (by decide)) (fun _ => ?_)
    refine BX7_come_93 ?_
    refine IX7_come_97 (fun c => ?_) (fun c => ?_)
    · rw [if_pos c]
      refine BX7_come_115 ?_
      refine IX7_come_117 (fun z => absurd rfl z) (fun _ => ?_)
      refine BX7_come_120 ?_
      obtain ⟨_, k, k1, k2⟩ := hl0 (8 + x) (by omega)
      rw [n8_, k2, nI_clamp (n := k) (by omega)]
      refine CX7_come_128 (sm_received (by omega) k2 k1 nu) (Nat.zero_le _) (fun v I1 J1 q1 => ?_)
      obtain ⟨rfl, rfl, rfl⟩ := q1
      refine BX7_come_131  ?_
      exact RX7_come_132  (Nat.zero_le _) ⟨_, rfl, ⟨rfl, rfl, rfl⟩⟩
    · rw [if_neg c]
      refine BX7_come_100  ?_
      refine BX7_come_113  ?_
      exact RX7_come_114  (Nat.zero_le _) ⟨_, rfl, ⟨rfl, rfl, rfl⟩⟩
end RF4

