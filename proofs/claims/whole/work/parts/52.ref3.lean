/-! the reference: letters -/
/-- the row of the pool without letter i -/
def rwM (r : Nat → Int32) (a b : Nat) : Nat → Int32 := fun j => if a ≤ j ∧ j < b then r (j + 6) else r j
theorem rw_0 (r : Nat → Int32) (a : Nat) : rwM r a a = r := by
  funext j
  exact if_neg fun z => by omega
theorem rw_s (r : Nat → Int32) {a b : Nat} (h : a ≤ b) : upd (rwM r a b) b (rwM r a b (b + 6)) = rwM r a (b + 1) := by
  funext j
  have e : rwM r a b (b + 6) = r (b + 6) := if_neg fun z => by omega
  rw [e]
  by_cases c : j = b
  · subst c
    rw [pk_us]
    exact (if_pos ⟨h, Nat.lt_succ_self _⟩).symm
  · rw [pk_un c]
    show (if a ≤ j ∧ j < b then r (j + 6) else r j) = (if a ≤ j ∧ j < b + 1 then r (j + 6) else r j)
    by_cases c2 : a ≤ j ∧ j < b
    · rw [if_pos c2, if_pos ⟨c2.1, by omega⟩]
    · rw [if_neg c2, if_neg fun z => c2 ⟨z.1, by omega⟩]
section RF3
variable {d : Nat} {I : T2} {J : T3} {G x : Nat}
def rmM (I : T2) (n i : Nat) : T2 := up2 (upr I 151 (rwM (I 151) (6 * i) (6 * (n - 1)))) 136 24 (nI (n - 1))
theorem sm_remove {n i : Nat} (hn : I 136 24 = nI n) (hn2 : n ≤ 200) (hi : i < n) : Mt d mX7_remove [.ref 136, .int (nI i)] I J (RV (rmM I n i) J) := by
  refine Mt.of (by decide +kernel) (Nat.le_of_ble_eq_true rfl) ?_
  refine BX7_remove_0 ?_
  rw [mul6']
  have e1 : nI n - 1 = nI (n - 1) := pk_sub (b := 1) (by omega)
  have key : ∀ q k : Nat, 6 * i ≤ k → k + q = 6 * (n - 1) → Ev d 0 0 (fun _ => 0) mX7_remove 5 [some (.ref 136), some (.int (nI i)), some (.int (nI k))] [] (upr I 151 (rwM (I 151) (6 * i) k)) J 0 (fun o I' J' _ => ∃ w, o = .inl w ∧ RV (rmM I n i) J w I' J') := by
    intro q
    induction q with
    | zero =>
      intro k hk1 hk
      refine BX7_remove_5 ?_
      rw [upr_ne _ _ (by decide), hn, e1, mul6']
      refine IX7_remove_15 (fun _ => ?_) (fun c => absurd (nI_le (by omega) (by omega)) c)
      refine BX7_remove_39 ?_
      rw [upr_ne _ _ (by decide), hn, e1]
      refine RX7_remove_49 (Nat.zero_le _) ⟨_, rfl, rfl, ?_, rfl⟩
      unfold rmM
      rw [show k = 6 * (n - 1) by omega]
    | succ q ih =>
      intro k hk1 hk
      refine BX7_remove_5 ?_
      rw [upr_ne _ _ (by decide), hn, e1, mul6']
      refine IX7_remove_15 (fun c => absurd c (nI_ge (by omega) (by omega))) (fun _ => ?_)
      refine BX7_remove_18 (by rw [nI_6]; exact vp_in_nI (by omega) (by decide)) (vp_in_nI (by omega) (by decide)) ?_
      rw [nI_6, nI_clamp (by omega), nI_clamp (by omega), nI_1, upr_at, up2_upr, rw_s _ hk1]
      exact ih (k + 1) (by omega) (by omega)
  have := key (6 * (n - 1) - 6 * i) (6 * i) (Nat.le_refl _) (by omega)
  rw [rw_0, upr_self] at this
  exact this
/-- the first letter kept of line l taken out, q stay -/
def k1M (I : T2) (l q : Nat) : T2 := up2 (upr I 147 (rwM (I 147) (300 * l) (300 * l + 6 * q))) 148 l (nI q)
def rvM (l : Nat) (nu : Int32) : Nat → T2 → T2
  | 0, I => I
  | q + 1, I => if I 147 (300 * l + 2) ≤ nu then rvM l nu q (k1M I l q) else I
set_option maxHeartbeats 1000000 in
theorem sm_received {l k : Nat} (hl : l < 16) (hk : I 148 l = nI k) (hk2 : k ≤ 50) (nu : Int32) : Mt d mX7_received [.ref 136, .int (nI l), .int nu] I J (RV (rvM l nu k I) J) := by
  refine Mt.of (by decide +kernel) (Nat.le_of_ble_eq_true rfl) ?_
  refine BX7_received_0 ?_
  rw [mul300']
  have key : ∀ (q : Nat) (I1 : T2), I1 148 l = nI q → q ≤ 50 → rvM l nu q I1 = rvM l nu k I → Ev d 0 0 (fun _ => 0) mX7_received 6 [some (.ref 136), some (.int (nI l)), some (.int nu), some (.int (nI (300 * l))), none] [] I1 J 0 (fun o I' J' _ => ∃ w, o = .inl w ∧ RV (rvM l nu k I) J w I' J') := by
    intro q
    induction q with
    | zero =>
      intro I1 h1 h2 h3
      refine BX7_received_6 (vp_in_nI hl (by decide)) ?_
      rw [nI_clamp (by omega), h1]
      refine IX7_received_12 (fun _ => ?_) (fun c => absurd (by decide) c)
      exact RX7_received_86 (Nat.zero_le _) ⟨_, rfl, rfl, h3.symm, rfl⟩
    | succ q ih =>
      intro I1 h1 h2 h3
      refine BX7_received_6 (vp_in_nI hl (by decide)) ?_
      rw [nI_clamp (by omega), h1]
      refine IX7_received_12 (fun c => absurd c (nI_nle (by omega) (by omega))) (fun _ => ?_)
      refine BX7_received_15 (by rw [nI_2]; exact vp_in_nI (by omega) (by decide)) ?_
      rw [nI_2, nI_clamp (by omega)]
      have hs : rvM l nu (q + 1) I1 = if I1 147 (300 * l + 2) ≤ nu then rvM l nu q (k1M I1 l q) else I1 := rfl
      refine IX7_received_24 (fun c => ?_) (fun c => ?_)
      · rw [if_neg (fun z => absurd c (Int32.not_lt.mpr z))] at hs
        exact RX7_received_86 (Nat.zero_le _) ⟨_, rfl, rfl, by rw [← h3, hs], rfl⟩
      · rw [if_pos (Int32.not_lt.mp c)] at hs
        refine BX7_received_27 ?_
        have inner : ∀ p j : Nat, j + p = 6 * q → Ev d 0 0 (fun _ => 0) mX7_received 30 [some (.ref 136), some (.int (nI l)), some (.int nu), some (.int (nI (300 * l))), some (.int (nI j))] [] (upr I1 147 (rwM (I1 147) (300 * l) (300 * l + j))) J 0 (fun o I' J' _ => ∃ w, o = .inl w ∧ RV (rvM l nu k I) J w I' J') := by
          intro p
          induction p with
          | zero =>
            intro j hj
            refine BX7_received_30 (vp_in_nI hl (by decide)) ?_
            rw [nI_clamp (by omega), upr_ne _ _ (by decide), h1, nI_pred, mul6']
            refine IX7_received_43 (fun _ => ?_) (fun c => absurd (nI_le (by omega) (by omega)) c)
            refine BX7_received_73 (vp_in_nI hl (by decide)) ?_
            rw [nI_clamp (by omega), upr_ne _ _ (by decide), h1, nI_pred]
            refine Ev.weak (ls' := [some (.ref 136), some (.int (nI l)), some (.int nu), some (.int (nI (300 * l))), none]) ⟨Or.inr rfl, Or.inr rfl, Or.inr rfl, Or.inr rfl, Or.inl rfl, trivial⟩ ?_
            rw [show j = 6 * q by omega]
            refine ih (k1M I1 l q) (by unfold k1M; rw [up2_s]) (by omega) (by rw [← hs]; exact h3)
          | succ p ihp =>
            intro j hj
            refine BX7_received_30 (vp_in_nI hl (by decide)) ?_
            rw [nI_clamp (by omega), upr_ne _ _ (by decide), h1, nI_pred, mul6']
            refine IX7_received_43 (fun c => absurd c (nI_ge (by omega) (by omega))) (fun _ => ?_)
            refine BX7_received_46 (by rw [nI_6, nI_add]; exact vp_in_nI (by omega) (by decide)) (by rw [nI_add]; exact vp_in_nI (by omega) (by decide)) ?_
            rw [nI_6, nI_add, nI_add, nI_clamp (by omega), nI_clamp (by omega), nI_1, upr_at, up2_upr, show 300 * l + 6 + j = 300 * l + j + 6 by omega, rw_s _ (by omega)]
            exact ihp (j + 1) (by omega)
        have := inner (6 * q) 0 (Nat.zero_add _)
        rw [show 300 * l + 0 = 300 * l from rfl, rw_0, upr_self] at this
        exact this
  exact key k I hk hk2 rfl
theorem sm_lose {n : Nat} (hn : I 136 24 = nI n) (hn2 : n ≤ 200) (hx : x < n) : Mt (d + 1) mX7_lose [.ref 136, .int (nI x)] I J (RV (rmM (tw I 0) n x) J) := by
  refine Mt.of (by decide +kernel) (Nat.le_of_ble_eq_true rfl) ?_
  refine BX7_lose_0  ?_
  refine CX7_lose_3 (sm_isLetter hn hn2 hx) (Nat.zero_le _) (fun v3 I3 J3 q3 => ?_)
  obtain ⟨rfl, rfl, rfl⟩ := q3
  refine IX7_lose_6 (fun c6 => absurd c6 (by decide)) (fun c6 => ?_)
  refine BX7_lose_9  ?_
  refine BX7_lose_14  ?_
  refine IX7_lose_21 (fun c21 => absurd c21 (fun z => z (by rw [up2_s]))) (fun c21 => ?_)
  refine BX7_lose_24  ?_
  refine CX7_lose_26 (sm_remove (I := tw I 0) (by rw [tw_k 0 (by decide)]; exact hn) hn2 hx) (Nat.zero_le _) (fun v26 I26 J26 q26 => ?_)
  obtain ⟨rfl, rfl, rfl⟩ := q26
  exact RX7_lose_29  (Nat.zero_le _) ⟨_, rfl, ⟨rfl, rfl, rfl⟩⟩
theorem sm_loseB {x : Int32} (hx : x < 0 ∨ I 136 24 ≤ x) : Mt (d + 1) mX7_lose [.ref 136, .int x] I J (RV (tw I 1) J) := by
  refine Mt.of (by decide +kernel) (Nat.le_of_ble_eq_true rfl) ?_
  refine BX7_lose_0  ?_
  refine CX7_lose_3 (sm_isLetter0 hx) (Nat.zero_le _) (fun v3 I3 J3 q3 => ?_)
  obtain ⟨rfl, rfl, rfl⟩ := q3
  refine IX7_lose_6 (fun c6 => ?_) (fun c6 => absurd c6 (fun z => z rfl))
  refine BX7_lose_13  ?_
  refine BX7_lose_14  ?_
  refine IX7_lose_21 (fun c21 => ?_) (fun c21 => absurd c21 (fun z => z (by rw [up2_s]; decide)))
  exact RX7_lose_29  (Nat.zero_le _) ⟨_, rfl, ⟨rfl, rfl, rfl⟩⟩
theorem sm_twiceB {x : Int32} (hx : x < 0 ∨ I 136 24 ≤ x) : Mt (d + 1) mX7_twice [.ref 136, .int x] I J (RV (tw I 1) J) := by
  refine Mt.of (by decide +kernel) (Nat.le_of_ble_eq_true rfl) ?_
  refine BX7_twice_0  ?_
  refine CX7_twice_3 (sm_isLetter0 hx) (Nat.zero_le _) (fun v3 I3 J3 q3 => ?_)
  obtain ⟨rfl, rfl, rfl⟩ := q3
  refine IX7_twice_6 (fun c6 => absurd c6 (fun z => z rfl)) (fun c6 => ?_)
  refine BX7_twice_9  ?_
  refine BX7_twice_28  ?_
  refine IX7_twice_35 (fun c35 => ?_) (fun c35 => absurd c35 (fun z => z (by rw [up2_s]; decide)))
  exact RX7_twice_93  (Nat.zero_le _) ⟨_, rfl, ⟨rfl, rfl, rfl⟩⟩
theorem sm_twiceT (hn : I 136 24 = nI 200) (hx : x < 200) : Mt (d + 1) mX7_twice [.ref 136, .int (nI x)] I J (RV (tw I 2) J) := by
  refine Mt.of (by decide +kernel) (Nat.le_of_ble_eq_true rfl) ?_
  refine BX7_twice_0  ?_
  refine CX7_twice_3 (sm_isLetter hn (by decide) hx) (Nat.zero_le _) (fun v3 I3 J3 q3 => ?_)
  obtain ⟨rfl, rfl, rfl⟩ := q3
  refine IX7_twice_6 (fun c6 => ?_) (fun c6 => absurd c6 (fun z => z (by decide)))
  refine BX7_twice_13  ?_
  refine IX7_twice_20 (fun c20 => absurd c20 (fun z => z (by rw [hn]; rfl))) (fun c20 => ?_)
  refine BX7_twice_23  ?_
  refine BX7_twice_28  ?_
  refine IX7_twice_35 (fun c35 => ?_) (fun c35 => absurd c35 (fun z => z (by rw [up2_s]; decide)))
  exact RX7_twice_93  (Nat.zero_le _) ⟨_, rfl, ⟨rfl, rfl, rfl⟩⟩
theorem sm_twice {n : Nat} (hn : I 136 24 = nI n) (hn2 : n < 200) (hx : x < n) : Mt (d + 1) mX7_twice [.ref 136, .int (nI x)] I J (RV (ptM (tw I 0) n (I 151 (6 * x)) (I 151 (6 * x + 1)) (I 151 (6 * x + 2)) (I 151 (6 * x + 3)) (I 151 (6 * x + 4)) (I 151 (6 * x + 5))) J) := by
  refine Mt.of (by decide +kernel) (Nat.le_of_ble_eq_true rfl) ?_
  refine BX7_twice_0 ?_
  refine CX7_twice_3 (sm_isLetter hn (by omega) hx) (Nat.zero_le _) (fun v I1 J1 q1 => ?_)
  obtain ⟨rfl, rfl, rfl⟩ := q1
  refine IX7_twice_6 (fun _ => ?_) (fun z => absurd (by decide) z)
  refine BX7_twice_13 ?_
  refine IX7_twice_20 (fun _ => ?_) (fun z => absurd (by rw [hn]; exact fun y => by have := (nI_eq (b := 200) (by omega) (by decide)).mp y; omega) z)
  refine BX7_twice_27 ?_
  refine BX7_twice_28 ?_
  refine IX7_twice_35 (fun z => absurd (by rw [up2_s]) z) (fun _ => ?_)
  refine BX7_twice_38 (by rw [mul6']; exact vp_in_nI (by omega) (by decide)) (by rw [mul6', nI_1]; exact vp_in_nI (by omega) (by decide)) (by rw [mul6', nI_2]; exact vp_in_nI (by omega) (by decide)) (by rw [mul6', nI_3]; exact vp_in_nI (by omega) (by decide)) (by rw [mul6', nI_4]; exact vp_in_nI (by omega) (by decide)) (by rw [mul6', nI_5]; exact vp_in_nI (by omega) (by decide)) ?_
  rw [mul6', nI_1, nI_2, nI_3, nI_4, nI_5, nI_clamp (by omega), nI_clamp (by omega), nI_clamp (by omega), nI_clamp (by omega), nI_clamp (by omega), nI_clamp (by omega), up2_ne _ _ _ (show 151 ≠ 136 by decide)]
  refine CX7_twice_90 (sm_put (n := n) (by rw [up2_k _ _ _ (by decide)]; exact hn) (by omega) _ _ _ _ _ _) (Nat.zero_le _) (fun v I1 J1 q1 => ?_)
  obtain ⟨rfl, rfl, rfl⟩ := q1
  exact RX7_twice_93 (Nat.zero_le _) ⟨_, rfl, rfl, rfl, rfl⟩
theorem ptM_o {n o : Nat} {so g nu w u t : Int32} (h1 : o ≠ 136) (h2 : o ≠ 151) : ptM I n so g nu w u t o = I o := by
  unfold ptM
  by_cases c : n < 200
  · rw [if_pos c, up2_ne _ _ _ h1, up2_ne _ _ _ h2, up2_ne _ _ _ h2, up2_ne _ _ _ h2, up2_ne _ _ _ h2, up2_ne _ _ _ h2, up2_ne _ _ _ h2]
  · rw [if_neg c]
theorem ptM_n {n : Nat} {so g nu w u t : Int32} (hn : I 136 24 = nI n) : ptM I n so g nu w u t 136 24 = nI (if n < 200 then n + 1 else n) := by
  unfold ptM
  by_cases c : n < 200
  · rw [if_pos c, if_pos c, up2_s]
  · rw [if_neg c, if_neg c, hn]
theorem ptM_k {n j : Nat} {so g nu w u t : Int32} (hj : j ≠ 24) : ptM I n so g nu w u t 136 j = I 136 j := by
  unfold ptM
  by_cases c : n < 200
  · rw [if_pos c, up2_k _ _ _ hj, up2_o _ _ _ _ (by decide), up2_o _ _ _ _ (by decide), up2_o _ _ _ _ (by decide), up2_o _ _ _ _ (by decide), up2_o _ _ _ _ (by decide), up2_o _ _ _ _ (by decide)]
  · rw [if_neg c]
/-- how many letters the pool has when one more was put -/
def plus (n : Nat) : Nat := if n < 200 then n + 1 else n
theorem plus_le {n : Nat} (h : n ≤ 200) : plus n ≤ 200 := by
  unfold plus
  by_cases c : n < 200
  · rw [if_pos c]; omega
  · rw [if_neg c]; exact h
/-- the first k letters kept of line l put anew -/
def raM (I : T2) (l n : Nat) : Nat → T2 × Nat
  | 0 => (I, n)
  | k + 1 => (ptM (raM I l n k).1 (raM I l n k).2 (I 147 (6 * (50 * l + k))) (I 147 (6 * (50 * l + k) + 1)) (I 147 (6 * (50 * l + k) + 2)) (I 147 (6 * (50 * l + k) + 3)) (I 147 (6 * (50 * l + k) + 4)) (I 147 (6 * (50 * l + k) + 5)), plus (raM I l n k).2)
theorem raM_p {l n : Nat} (hn : I 136 24 = nI n) (hn2 : n ≤ 200) : ∀ k, (raM I l n k).1 136 24 = nI (raM I l n k).2 ∧ (raM I l n k).2 ≤ 200 ∧ (∀ o, o ≠ 136 → o ≠ 151 → (raM I l n k).1 o = I o) ∧ ∀ j, j ≠ 24 → (raM I l n k).1 136 j = I 136 j
  | 0 => ⟨hn, hn2, fun _ _ _ => rfl, fun _ _ => rfl⟩
  | k + 1 => by
    obtain ⟨a, b, c, e⟩ := raM_p (l := l) hn hn2 k
    refine ⟨ptM_n a, plus_le b, fun o h1 h2 => ?_, fun j hj => ?_⟩
    · show ptM _ _ _ _ _ _ _ _ o = _
      rw [ptM_o h1 h2, c o h1 h2]
    · show ptM _ _ _ _ _ _ _ _ 136 j = _
      rw [ptM_k hj, e j hj]
set_option maxHeartbeats 1000000 in
/-- one side of resend -/
theorem re_side {n l k : Nat} {s x2 : Nat} (hx8 : x < 8) (hn : I 136 24 = nI n) (hn2 : n ≤ 200) (hl : l < 16) (hk : I 148 l = nI k) (hk2 : k ≤ 50) {Φ : Out → T2 → T3 → Nat → Prop} (K : Ev (d + 1) 0 0 (fun _ => 0) mX7_resend 28 [some (.ref 136), some (.int (nI x)), some (.int (nI (s + 1))), none, none, none] [] (raM I l n k).1 J 0 Φ) : Ev (d + 1) 0 0 (fun _ => 0) mX7_resend 49 [some (.ref 136), some (.int (nI x)), some (.int (nI s)), some (.int (nI l)), some (.int (nI 0)), none] [] I J 0 Φ := by
  have key : ∀ q j : Nat, j + q = k → Ev (d + 1) 0 0 (fun _ => 0) mX7_resend 49 [some (.ref 136), some (.int (nI x)), some (.int (nI s)), some (.int (nI l)), some (.int (nI j)), none] [] (raM I l n j).1 J 0 Φ := by
    intro q
    induction q with
    | zero =>
      intro j hj
      obtain ⟨a, b, c, e⟩ := raM_p (l := l) hn hn2 j
      refine BX7_resend_49 (vp_in_nI hl (by decide)) ?_
      rw [nI_clamp (by omega), c 148 (by decide) (by decide), hk]
      refine IX7_resend_57 (fun _ => ?_) (fun z => absurd (nI_le (by omega) (by omega)) z)
      refine BX7_resend_134 ?_
      rw [nI_1]
      refine Ev.weak (ls' := [some (.ref 136), some (.int (nI x)), some (.int (nI (s + 1))), none, none, none]) ⟨Or.inr rfl, Or.inr rfl, Or.inr rfl, Or.inl rfl, Or.inl rfl, Or.inr rfl, trivial⟩ ?_
      rw [show j = k by omega]
      exact K
    | succ q ih =>
      intro j hj
      obtain ⟨a, b, c, e⟩ := raM_p (l := l) hn hn2 j
      refine BX7_resend_49 (vp_in_nI hl (by decide)) ?_
      rw [nI_clamp (by omega), c 148 (by decide) (by decide), hk]
      refine IX7_resend_57 (fun z => absurd z (nI_ge (by omega) (by omega))) (fun _ => ?_)
      refine BX7_resend_60 (by rw [mul50', nI_add, mul6']; exact vp_in_nI (by omega) (by decide)) (by rw [mul50', nI_add, mul6', nI_1]; exact vp_in_nI (by omega) (by decide)) (by rw [mul50', nI_add, mul6', nI_2]; exact vp_in_nI (by omega) (by decide)) (by rw [mul50', nI_add, mul6', nI_3]; exact vp_in_nI (by omega) (by decide)) (by rw [mul50', nI_add, mul6', nI_4]; exact vp_in_nI (by omega) (by decide)) (by rw [mul50', nI_add, mul6', nI_5]; exact vp_in_nI (by omega) (by decide)) ?_
      rw [mul50', nI_add (50 * l) j, mul6', nI_1, nI_2, nI_3, nI_4, nI_5, nI_clamp (n := 6 * (50 * l + j)) (by omega), nI_clamp (n := 6 * (50 * l + j) + 1) (by omega), nI_clamp (n := 6 * (50 * l + j) + 2) (by omega), nI_clamp (n := 6 * (50 * l + j) + 3) (by omega), nI_clamp (n := 6 * (50 * l + j) + 4) (by omega), nI_clamp (n := 6 * (50 * l + j) + 5) (by omega), c 147 (by decide) (by decide)]
      refine CX7_resend_125 (sm_put a b _ _ _ _ _ _) (Nat.zero_le _) (fun v I1 J1 q1 => ?_)
      obtain ⟨rfl, rfl, rfl⟩ := q1
      refine BX7_resend_128 ?_
      rw [nI_1]
      refine Ev.weak (ls' := [some (.ref 136), some (.int (nI x)), some (.int (nI s)), some (.int (nI l)), some (.int (nI (j + 1))), none]) ⟨Or.inr rfl, Or.inr rfl, Or.inr rfl, Or.inr rfl, Or.inr rfl, Or.inl rfl, trivial⟩ ?_
      exact ih (j + 1) (by omega)
  exact key k 0 (Nat.zero_add _)
theorem sm_resendB {x : Int32} (hx : x < 0 ∨ I 136 4 ≤ x) : Mt (d + 1) mX7_resend [.ref 136, .int x] I J (RI 0 (tw I 1) J) := by
  refine Mt.of (by decide +kernel) (Nat.le_of_ble_eq_true rfl) ?_
  refine BX7_resend_0  ?_
  refine CX7_resend_3 (sm_isGate0 hx) (Nat.zero_le _) (fun v3 I3 J3 q3 => ?_)
  obtain ⟨rfl, rfl, rfl⟩ := q3
  refine IX7_resend_6 (fun c6 => ?_) (fun c6 => absurd c6 (fun z => z rfl))
  refine BX7_resend_13  ?_
  refine BX7_resend_14  ?_
  refine IX7_resend_21 (fun c21 => absurd c21 (by rw [up2_s]; decide)) (fun c21 => ?_)
  refine BX7_resend_24  ?_
  exact RX7_resend_25  (Nat.zero_le _) ⟨_, rfl, ⟨rfl, rfl, rfl⟩⟩
theorem sm_resend {n k k' : Nat} (hG : I 136 4 = nI G) (hG8 : G ≤ 8) (hx : x < G) (hn : I 136 24 = nI n) (hn2 : n ≤ 200) (hk : I 148 x = nI k) (hk2 : k ≤ 50) (hk' : I 148 (8 + x) = nI k') (hk2' : k' ≤ 50) : Mt (d + 1) mX7_resend [.ref 136, .int (nI x)] I J (RI (nI (k + k')) (raM (raM (tw I 0) x n k).1 (8 + x) (raM (tw I 0) x n k).2 k').1 J) := by
  refine Mt.of (by decide +kernel) (Nat.le_of_ble_eq_true rfl) ?_
  refine BX7_resend_0 ?_
  refine CX7_resend_3 (sm_isGate hG hG8 hx) (Nat.zero_le _) (fun v I1 J1 q1 => ?_)
  obtain ⟨rfl, rfl, rfl⟩ := q1
  refine IX7_resend_6 (fun z => absurd z (by decide)) (fun _ => ?_)
  refine BX7_resend_9 ?_
  refine BX7_resend_14 ?_
  refine IX7_resend_21 (fun _ => ?_) (fun z => absurd (by rw [up2_s]; decide) z)
  refine BX7_resend_26 ?_
  have h0 : tw I 0 136 24 = nI n := by rw [tw_k 0 (by decide)]; exact hn
  obtain ⟨a, b, c, e⟩ := raM_p (l := x) h0 hn2 k
  obtain ⟨a', b', c', e'⟩ := raM_p (l := 8 + x) a b k'
  refine BX7_resend_28 ?_
  refine IX7_resend_30 (fun z => absurd z (by decide)) (fun _ => ?_)
  refine BX7_resend_33 ?_
  refine IX7_resend_34 (fun z => absurd rfl z) (fun _ => ?_)
  refine BX7_resend_37 ?_
  refine BX7_resend_45 ?_
  refine re_side (s := 0) (x2 := 0) (by omega) h0 hn2 (by omega) (by rw [tw_o 0 (by decide)]; exact hk) hk2 ?_
  refine BX7_resend_28 ?_
  refine IX7_resend_30 (fun z => absurd z (by decide)) (fun _ => ?_)
  refine BX7_resend_33 ?_
  refine IX7_resend_34 (fun _ => ?_) (fun z => absurd (by decide) z)
  refine BX7_resend_41 ?_
  refine BX7_resend_45 ?_
  rw [n8_]
  refine re_side (s := 1) (x2 := 0) (by omega) a b (by omega) (by rw [c 148 (by decide) (by decide), tw_o 0 (by decide)]; exact hk') hk2' ?_
  refine BX7_resend_28 ?_
  refine IX7_resend_30 (fun _ => ?_) (fun z => absurd (by decide) z)
  refine BX7_resend_140 (vp_in_nI (by omega) (by decide)) (by rw [n8_]; exact vp_in_nI (by omega) (by decide)) ?_
  rw [n8_, nI_clamp (by omega), nI_clamp (by omega), c' 148 (by decide) (by decide), c 148 (by decide) (by decide), tw_o 0 (by decide), hk, hk', nI_add]
  exact RX7_resend_156 (Nat.zero_le _) ⟨_, rfl, rfl, rfl, rfl⟩
theorem sm_pleadB {x q : Int32} (hx : x < 0 ∨ I 136 4 ≤ x) : Mt (d + 1) mX7_plead [.ref 136, .int x, .int q] I J (RV (tw I 1) J) := by
  refine Mt.of (by decide +kernel) (Nat.le_of_ble_eq_true rfl) ?_
  refine BX7_plead_0  ?_
  refine CX7_plead_3 (sm_isGate0 hx) (Nat.zero_le _) (fun v3 I3 J3 q3 => ?_)
  obtain ⟨rfl, rfl, rfl⟩ := q3
  refine IX7_plead_6 (fun c6 => absurd c6 (fun z => z rfl)) (fun c6 => ?_)
  refine BX7_plead_9  ?_
  refine BX7_plead_54  ?_
  refine IX7_plead_61 (fun c61 => ?_) (fun c61 => absurd c61 (fun z => z (by rw [up2_s]; decide)))
  exact RX7_plead_86  (Nat.zero_le _) ⟨_, rfl, ⟨rfl, rfl, rfl⟩⟩
theorem sm_pleadA (hG : I 136 4 = nI G) (hG8 : G ≤ 8) (hx : x < G) {q : Int32} (h : q < 1 ∨ ¬ q ≤ 1000000) : Mt (d + 1) mX7_plead [.ref 136, .int (nI x), .int q] I J (RV (tw I 2) J) := by
  refine Mt.of (by decide +kernel) (Nat.le_of_ble_eq_true rfl) ?_
  refine BX7_plead_0  ?_
  refine CX7_plead_3 (sm_isGate hG hG8 hx) (Nat.zero_le _) (fun v3 I3 J3 q3 => ?_)
  obtain ⟨rfl, rfl, rfl⟩ := q3
  refine IX7_plead_6 (fun c6 => ?_) (fun c6 => absurd c6 (fun z => z (by decide)))
  refine BX7_plead_13  ?_
  refine IX7_plead_15 (fun c15 => ?_) (fun c15 => ?_)
  · skip
    refine BX7_plead_24  ?_
    refine BX7_plead_54  ?_
    refine IX7_plead_61 (fun c61 => ?_) (fun c61 => absurd c61 (fun z => z (by rw [up2_s]; decide)))
    exact RX7_plead_86  (Nat.zero_le _) ⟨_, rfl, ⟨rfl, rfl, rfl⟩⟩
  · skip
    refine BX7_plead_18  ?_
    refine IX7_plead_21 (fun c21 => absurd c21 (fun z => h.elim (fun y => c15 y) (fun y => y z))) (fun c21 => ?_)
    refine BX7_plead_24  ?_
    refine BX7_plead_54  ?_
    refine IX7_plead_61 (fun c61 => ?_) (fun c61 => absurd c61 (fun z => z (by rw [up2_s]; decide)))
    exact RX7_plead_86  (Nat.zero_le _) ⟨_, rfl, ⟨rfl, rfl, rfl⟩⟩
theorem sm_pleadS (hG : I 136 4 = nI G) (hG8 : G ≤ 8) (hx : x < G) {q : Int32} (h1 : ¬ q < 1) (h2 : q ≤ 1000000) (hu : ¬ I 143 x = 0) : Mt (d + 1) mX7_plead [.ref 136, .int (nI x), .int q] I J (RV (tw I 3) J) := by
  refine Mt.of (by decide +kernel) (Nat.le_of_ble_eq_true rfl) ?_
  refine BX7_plead_0  ?_
  refine CX7_plead_3 (sm_isGate hG hG8 hx) (Nat.zero_le _) (fun v3 I3 J3 q3 => ?_)
  obtain ⟨rfl, rfl, rfl⟩ := q3
  refine IX7_plead_6 (fun c6 => ?_) (fun c6 => absurd c6 (fun z => z (by decide)))
  refine BX7_plead_13  ?_
  refine IX7_plead_15 (fun c15 => absurd c15 h1) (fun c15 => ?_)
  refine BX7_plead_18  ?_
  refine IX7_plead_21 (fun c21 => ?_) (fun c21 => absurd c21 (fun z => z h2))
  refine BX7_plead_28 (vp_in_nI (show x < 8 by omega) (by decide)) ?_
  refine IX7_plead_34 (fun c34 => absurd c34 (fun z => hu (by rw [nI_clamp (by omega)] at z; exact z))) (fun c34 => ?_)
  refine BX7_plead_37  ?_
  refine BX7_plead_54  ?_
  refine IX7_plead_61 (fun c61 => ?_) (fun c61 => absurd c61 (fun z => z (by rw [up2_s]; decide)))
  exact RX7_plead_86  (Nat.zero_le _) ⟨_, rfl, ⟨rfl, rfl, rfl⟩⟩
theorem sm_pleadU (hG : I 136 4 = nI G) (hG8 : G ≤ 8) (hx : x < G) {q : Int32} (h1 : ¬ q < 1) (h2 : q ≤ 1000000) (hu : I 143 x = 0) (ho : ¬ I 148 x < 50) : Mt (d + 1) mX7_plead [.ref 136, .int (nI x), .int q] I J (RV (tw I 4) J) := by
  refine Mt.of (by decide +kernel) (Nat.le_of_ble_eq_true rfl) ?_
  have hc : csM I x = 0 := if_neg ho
  refine BX7_plead_0  ?_
  refine CX7_plead_3 (sm_isGate hG hG8 hx) (Nat.zero_le _) (fun v3 I3 J3 q3 => ?_)
  obtain ⟨rfl, rfl, rfl⟩ := q3
  refine IX7_plead_6 (fun c6 => ?_) (fun c6 => absurd c6 (fun z => z (by decide)))
  refine BX7_plead_13  ?_
  refine IX7_plead_15 (fun c15 => absurd c15 h1) (fun c15 => ?_)
  refine BX7_plead_18  ?_
  refine IX7_plead_21 (fun c21 => ?_) (fun c21 => absurd c21 (fun z => z h2))
  refine BX7_plead_28 (vp_in_nI (show x < 8 by omega) (by decide)) ?_
  refine IX7_plead_34 (fun c34 => ?_) (fun c34 => absurd c34 (fun z => z (by rw [nI_clamp (by omega)]; exact hu)))
  refine BX7_plead_41  ?_
  refine CX7_plead_43 (sm_canSend (show x < 16 by omega)) (Nat.zero_le _) (fun v43 I43 J43 q43 => ?_)
  obtain ⟨rfl, rfl, rfl⟩ := q43
  refine IX7_plead_46 (fun c46 => absurd c46 (fun z => z hc)) (fun c46 => ?_)
  refine BX7_plead_49  ?_
  refine BX7_plead_54  ?_
  refine IX7_plead_61 (fun c61 => ?_) (fun c61 => absurd c61 (fun z => z (by rw [up2_s]; decide)))
  exact RX7_plead_86  (Nat.zero_le _) ⟨_, rfl, ⟨rfl, rfl, rfl⟩⟩
theorem sm_plead {n s k : Nat} (hG : I 136 4 = nI G) (hG8 : G ≤ 8) (hx : x < G) {q : Int32} (h1 : ¬ q < 1) (h2 : q ≤ 1000000) (hu : I 143 x = 0) (hn : I 136 24 = nI n) (hn2 : n ≤ 200) (hs : I 149 x = nI s) (hk : I 148 x = nI k) (hk2 : k < 50) : Mt (d + 2) mX7_plead [.ref 136, .int (nI x), .int q] I J (RV (snM (tw I 0) n x s k 0 (nI x) (I 142 x) q (I 145 (3 * x))) J) := by
  refine Mt.of (by decide +kernel) (Nat.le_of_ble_eq_true rfl) ?_
  have hc : csM I x = 1 := if_pos (by rw [hk]; exact nI_lt (b := 50) hk2 (by decide))
  refine BX7_plead_0 ?_
  refine CX7_plead_3 (sm_isGate hG hG8 hx) (Nat.zero_le _) (fun v I1 J1 q1 => ?_)
  obtain ⟨rfl, rfl, rfl⟩ := q1
  refine IX7_plead_6 (fun _ => ?_) (fun z => absurd (by decide) z)
  refine BX7_plead_13 ?_
  refine IX7_plead_15 (fun z => absurd z h1) (fun _ => ?_)
  refine BX7_plead_18 ?_
  refine IX7_plead_21 (fun _ => ?_) (fun z => absurd h2 z)
  refine BX7_plead_28 (vp_in_nI (show x < 8 by omega) (by decide)) ?_
  rw [nI_clamp (by omega)]
  refine IX7_plead_34 (fun _ => ?_) (fun z => absurd hu z)
  refine BX7_plead_41 ?_
  refine CX7_plead_43 (sm_canSend (show x < 16 by omega)) (Nat.zero_le _) (fun v I1 J1 q1 => ?_)
  obtain ⟨rfl, rfl, rfl⟩ := q1
  rw [hc]
  refine IX7_plead_46 (fun _ => ?_) (fun z => absurd (by decide) z)
  refine BX7_plead_53 ?_
  refine BX7_plead_54 ?_
  refine IX7_plead_61 (fun z => absurd (by rw [up2_s]) z) (fun _ => ?_)
  refine BX7_plead_64 (vp_in_nI (show x < 8 by omega) (by decide)) (by rw [mul3']; exact vp_in_nI (by omega) (by decide)) ?_
  rw [mul3', nI_clamp (by omega), nI_clamp (by omega), up2_o _ _ _ _ (by decide), up2_o _ _ _ _ (by decide)]
  refine CX7_plead_83 (sm_send (n := n) (s := s) (k := k) (by rw [up2_k _ _ _ (by decide)]; exact hn) hn2 (by omega) (by rw [up2_o _ _ _ _ (by decide)]; exact hs) (by rw [up2_o _ _ _ _ (by decide)]; exact hk) hk2 _ _ _ _ _) (Nat.zero_le _) (fun v I1 J1 q1 => ?_)
  obtain ⟨rfl, rfl, rfl⟩ := q1
  exact RX7_plead_86 (Nat.zero_le _) ⟨_, rfl, rfl, rfl, rfl⟩
end RF3

