/-! numbers -/
theorem nI_nn {n : Nat} (h : n < 2 ^ 31) : (0 : Int32) ≤ nI n := nI_pos' h
theorem nI_xor' (a b : Nat) : nI a ^^^ nI b = nI (a ^^^ b) := by
  apply Int32.toBitVec_inj.1
  show BitVec.ofNat 32 a ^^^ BitVec.ofNat 32 b = BitVec.ofNat 32 (a ^^^ b)
  apply BitVec.eq_of_getLsbD_eq
  intro i hi
  simp [hi]
theorem rem_nI {a d : Nat} (ha : a < 2 ^ 31) (h0 : 0 < d) (hd : d < 2 ^ 31) : nI a - nI a / nI d * nI d = nI (a % d) := pk_rem ha h0 hd
theorem fm_nI {a d : Nat} (ha : a < 2 ^ 31) (h0 : 0 < d) (hd : d < 2 ^ 31) : fmI (nI a) (nI d) = nI (a % d) := by
  unfold fmI
  rw [nI_xor', if_pos (nI_nn (Nat.xor_lt_two_pow ha hd)), rem_nI ha h0 hd]
theorem fm_50 {a : Nat} (ha : a < 2 ^ 31) : fmI (nI a) 50 = nI (a % 50) := fm_nI ha (by decide) (by decide)
theorem fm_3 {a : Nat} (ha : a < 2 ^ 31) : fmI (nI a) 3 = nI (a % 3) := fm_nI ha (by decide) (by decide)
theorem rem_3 {a : Nat} (ha : a < 2 ^ 31) : nI a - nI a / 3 * 3 = nI (a % 3) := rem_nI ha (by decide) (by decide)
theorem rem_200 {a : Nat} (ha : a < 2 ^ 31) : nI a - nI a / 200 * 200 = nI (a % 200) := rem_nI ha (by decide) (by decide)
theorem rem_512 {a : Nat} (ha : a < 2 ^ 31) : nI a - nI a / 512 * 512 = nI (a % 512) := rem_nI ha (by decide) (by decide)
theorem mul_6 (a : Nat) : nI a * 6 = nI (a * 6) := pk_mul a 6
theorem sl_in (w c : Int32) (h : ¬ slI w c = -1) : vp_in (slI w c) 3 := by
  unfold slI at h ⊢
  by_cases h1 : w < 0
  · rw [if_pos h1] at h; exact absurd rfl h
  rw [if_neg h1] at h ⊢
  by_cases h2 : w < c - 1
  · rw [if_pos h2] at h; exact absurd rfl h
  rw [if_neg h2] at h ⊢
  by_cases h3 : c + 1 < w
  · rw [if_pos h3] at h; exact absurd rfl h
  rw [if_neg h3] at h ⊢
  obtain ⟨n, hn, rfl⟩ := nI_of h1
  rw [rem_3 hn]
  exact vp_in_nI (Nat.mod_lt _ (by decide)) (by decide)
/-- the pool's numbers are in range -/
def PlOk (I : T2) (f n : Nat) : Prop := I 12 1 = nI f ∧ I 12 2 = nI n ∧ f < 200 ∧ n ≤ 200
theorem plA_n {I : T2} {f n i : Nat} (h : PlOk I f n) (hi : i < 2 ^ 30) : plA I (nI i) = nI ((f + i) % 200 * 6) := by
  unfold plA
  rw [h.1, nI_add, rem_200 (by have := h.2.2.1; omega), mul_6]
theorem plA_in {I : T2} {f n i : Nat} (h : PlOk I f n) (hi : i < 2 ^ 30) {c : Nat} (hc : c < 6) : vp_in (plA I (nI i) + nI c) 1200 := by
  rw [plA_n h hi, nI_add]
  have := Nat.mod_lt (f + i) (show 200 > 0 by decide)
  exact vp_in_nI (by omega) (by decide)
section UP
variable (I : T2) (J : T3)
theorem up2_s (o k : Nat) (v : Int32) : up2 I o k v o k = v := by rw [up2_at]; exact if_pos rfl
theorem up2_k (o : Nat) {k j : Nat} (v : Int32) (h : j ≠ k) : up2 I o k v o j = I o j := by rw [up2_at]; exact if_neg h
theorem up2_o {o a : Nat} (k j : Nat) (v : Int32) (h : a ≠ o) : up2 I o k v a j = I a j := by rw [up2_ne _ _ _ h]
theorem up2_v (o k : Nat) (v : Int32) (a j : Nat) : up2 I o k v a j = if a = o ∧ j = k then v else I a j := by
  by_cases h : a = o
  · subst h
    by_cases h2 : j = k
    · subst h2; rw [up2_s, if_pos ⟨rfl, rfl⟩]
    · rw [up2_k _ _ _ h2, if_neg (fun q => h2 q.2)]
  · rw [up2_o _ _ _ _ h, if_neg (fun q => h q.1)]
theorem up3_v (o k : Nat) (v : Int64) (a j : Nat) : up3 J o k v a j = if a = o ∧ j = k then v else J a j := by
  by_cases h : a = o
  · subst h
    rw [up3_at]
    unfold vp_updL
    by_cases h2 : j = k
    · rw [if_pos h2, if_pos ⟨rfl, h2⟩]
    · rw [if_neg h2, if_neg (fun q => h2 q.2)]
  · rw [up3_ne _ _ _ h, if_neg (fun q => h q.1)]
theorem upr_v (o : Nat) (r : Nat → Int32) (a j : Nat) : upr I o r a j = if a = o then r j else I a j := by
  by_cases h : a = o
  · subst h; rw [upr_at, if_pos rfl]
  · rw [upr_ne _ _ h, if_neg h]
end UP
theorem putC_at {I : T2} {f n : Nat} (h : PlOk I f n) (hn : n < 200) (s g k w u t : Int32) : putC I s g k w u t = up2 (up2 (up2 (up2 (up2 (up2 (up2 I 13 ((f + n) % 200 * 6) s) 13 ((f + n) % 200 * 6 + 1) g) 13 ((f + n) % 200 * 6 + 2) k) 13 ((f + n) % 200 * 6 + 3) w) 13 ((f + n) % 200 * 6 + 4) u) 13 ((f + n) % 200 * 6 + 5) t) 12 2 (nI (n + 1)) := by
  have hm := Nat.mod_lt (f + n) (show 200 > 0 by decide)
  have e : ∀ c : Nat, c < 6 → (plA I (nI n) + nI c).toNatClampNeg = (f + n) % 200 * 6 + c := by
    intro c hc
    rw [plA_n h (by omega), nI_add, nI_clamp (by omega)]
  unfold putC
  rw [h.2.1, if_pos (show nI n < (200 : Int32) from nI_lt (b := 200) hn (by decide))]
  have e0 := e 0 (by decide); have e1 := e 1 (by decide); have e2 := e 2 (by decide); have e3 := e 3 (by decide); have e4 := e 4 (by decide); have e5 := e 5 (by decide)
  rw [show (0 : Int32) = nI 0 from rfl, show (1 : Int32) = nI 1 from rfl, show (2 : Int32) = nI 2 from rfl, show (3 : Int32) = nI 3 from rfl, show (4 : Int32) = nI 4 from rfl, show (5 : Int32) = nI 5 from rfl, e0, e1, e2, e3, e4, e5, nI_add]
  rfl
theorem putC_full {I : T2} {f : Nat} (h : PlOk I f 200) (s g k w u t : Int32) : putC I s g k w u t = I := by
  unfold putC
  rw [h.2.1, if_neg (show ¬ nI 200 < (200 : Int32) from nI_nlt (a := 200) (b := 200) (by decide) (by decide))]
theorem sp_put' {d : Nat} {I : T2} {J : T3} {f n : Nat} (h : PlOk I f n) (s g k w u t : Int32) : Mt d mX3_put [.ref 12, .int s, .int g, .int k, .int w, .int u, .int t] I J (RV (putC I s g k w u t) J) :=
  sp_put s g k w u t (fun _ c hc => by rw [h.2.1]; exact plA_in h (by have := h.2.2.2; omega) hc)

