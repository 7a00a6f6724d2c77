/-! letters: putting, taking out -/
def six (I : T2) (o b : Nat) (v0 v1 v2 v3 v4 v5 : Int32) : T2 := up2 (up2 (up2 (up2 (up2 (up2 I o b v0) o (b + 1) v1) o (b + 2) v2) o (b + 3) v3) o (b + 4) v4) o (b + 5) v5
def pk6 (v0 v1 v2 v3 v4 v5 : Int32) : Nat → Int32
  | 0 => v0 | 1 => v1 | 2 => v2 | 3 => v3 | 4 => v4 | _ => v5
section SIX
variable {I : T2} {o b : Nat} {v0 v1 v2 v3 v4 v5 : Int32}
theorem six_in {c : Nat} (hc : c < 6) : six I o b v0 v1 v2 v3 v4 v5 o (b + c) = pk6 v0 v1 v2 v3 v4 v5 c := by
  unfold six
  match c, hc with
  | 0, _ => rw [up2_k _ _ _ (by omega), up2_k _ _ _ (by omega), up2_k _ _ _ (by omega), up2_k _ _ _ (by omega), up2_k _ _ _ (by omega), Nat.add_zero, up2_s]; rfl
  | 1, _ => rw [up2_k _ _ _ (by omega), up2_k _ _ _ (by omega), up2_k _ _ _ (by omega), up2_k _ _ _ (by omega), up2_s]; rfl
  | 2, _ => rw [up2_k _ _ _ (by omega), up2_k _ _ _ (by omega), up2_k _ _ _ (by omega), up2_s]; rfl
  | 3, _ => rw [up2_k _ _ _ (by omega), up2_k _ _ _ (by omega), up2_s]; rfl
  | 4, _ => rw [up2_k _ _ _ (by omega), up2_s]; rfl
  | 5, _ => rw [up2_s]; rfl
theorem six_in0 : six I o b v0 v1 v2 v3 v4 v5 o b = v0 := six_in (c := 0) (by decide)
theorem six_out {j : Nat} (h : j < b ∨ b + 6 ≤ j) : six I o b v0 v1 v2 v3 v4 v5 o j = I o j := by
  unfold six
  rw [up2_k _ _ _ (by omega), up2_k _ _ _ (by omega), up2_k _ _ _ (by omega), up2_k _ _ _ (by omega), up2_k _ _ _ (by omega), up2_k _ _ _ (by omega)]
theorem six_o {a : Nat} (h : a ≠ o) : six I o b v0 v1 v2 v3 v4 v5 a = I a := by
  unfold six
  rw [up2_ne _ _ _ h, up2_ne _ _ _ h, up2_ne _ _ _ h, up2_ne _ _ _ h, up2_ne _ _ _ h, up2_ne _ _ _ h]
end SIX
section POOL
variable {A I : T2} {G : Nat} {U : Nat → Nat → Nat} {st tt : Nat → Nat}
theorem cPl_put (h : cPl G U st tt A I) {so g nu w u t : Int32} (hl : LtOk G U st tt so g nu u t) : cPl G U st tt (pM A so g nu w u t) (putC I so g nu w u t) := by
  obtain ⟨f, n, a1, a2, a3⟩ := h
  have hf := a1.2.2.1
  have hn2 := a1.2.2.2
  by_cases c : n < 200
  · have eA : pM A so g nu w u t = up2 (six A 151 (6 * n) so g nu w u t) 136 24 (nI (n + 1)) := by
      unfold pM ptM
      rw [a2, nI_clamp (by omega), if_pos c]; rfl
    have eI : putC I so g nu w u t = up2 (six I 13 ((f + n) % 200 * 6) so g nu w u t) 12 2 (nI (n + 1)) := by
      rw [putC_at a1 c]; rfl
    rw [eA, eI]
    have q1 : ∀ j, up2 (six A 151 (6 * n) so g nu w u t) 136 24 (nI (n + 1)) 151 j = six A 151 (6 * n) so g nu w u t 151 j := fun j => up2_o _ _ _ _ (by decide)
    have q2 : ∀ j, up2 (six I 13 ((f + n) % 200 * 6) so g nu w u t) 12 2 (nI (n + 1)) 13 j = six I 13 ((f + n) % 200 * 6) so g nu w u t 13 j := fun j => up2_o _ _ _ _ (by decide)
    refine ⟨f, n + 1, ⟨?_, by rw [up2_s], hf, by omega⟩, by rw [up2_s], fun i hi => ?_⟩
    · rw [up2_k _ _ _ (by decide), six_o (by decide)]; exact a1.1
    · by_cases ci : i = n
      · subst ci
        refine ⟨fun c hc => ?_, ?_⟩
        · unfold ltC
          rw [q2, q1, six_in hc, six_in hc]
        · rw [q1, q1, q1, q1, q1, six_in (b := 6 * i) (c := 1) (by decide), six_in (b := 6 * i) (c := 2) (by decide), six_in (b := 6 * i) (c := 4) (by decide), six_in (b := 6 * i) (c := 5) (by decide), six_in0]
          exact hl
      · have hi' : i < n := by omega
        obtain ⟨b1, b2⟩ := a3 i hi'
        refine ⟨fun c hc => ?_, ?_⟩
        · unfold ltC
          rw [q2, q1, six_out (by omega), six_out (by omega)]
          exact b1 c hc
        · rw [q1, q1, q1, q1, q1, six_out (by omega), six_out (by omega), six_out (by omega), six_out (by omega), six_out (by omega)]
          exact b2
  · have hn : n = 200 := by omega
    subst hn
    have eA : pM A so g nu w u t = A := by
      unfold pM ptM
      rw [a2, nI_clamp (by omega), if_neg (by decide)]
    rw [eA, putC_full a1]
    exact ⟨f, 200, a1, a2, a3⟩
theorem cPl_rem (h : cPl G U st tt A I) {f n i : Nat} (hp : PlOk I f n) (hi : i < n) : cPl G U st tt (rmM A n i) (remC I f n i) := by
  obtain ⟨f', n', a1, a2, a3⟩ := h
  have e1 : n' = n := (nI_eq (by have := a1.2.2.2; omega) (by have := hp.2.2.2; omega)).mp (by rw [← a1.2.1]; exact hp.2.1)
  have e2 : f' = f := (nI_eq (by have := a1.2.2.1; omega) (by have := hp.2.2.1; omega)).mp (by rw [← a1.1]; exact hp.1)
  subst e1 e2
  have hf := a1.2.2.1
  have hn2 := a1.2.2.2
  have q1 : ∀ j, rmM A n' i 151 j = rwM (A 151) (6 * i) (6 * (n' - 1)) j := fun j => by
    unfold rmM; rw [up2_o _ _ _ _ (by decide), upr_at]
  have r1 : ∀ j c, j < n' - 1 → c < 6 → rmM A n' i 151 (6 * j + c) = A 151 (6 * (if j < i then j else j + 1) + c) := fun j c hj hc => by
    rw [q1]
    unfold rwM
    by_cases c1 : j < i
    · rw [if_pos c1, if_neg (by omega)]
    · rw [if_neg c1, if_pos (by omega), show 6 * j + c + 6 = 6 * (j + 1) + c by omega]
  have q2 : ∀ j c, j < n' - 1 → c < 6 → ltC (remC I f' n' i) (if i = 0 then (f' + 1) % 200 else f') j c = ltC I f' (if j < i then j else j + 1) c := fun j c hj hc => by
    unfold ltC remC
    by_cases c0 : i = 0
    · rw [if_pos c0, if_pos c0, if_neg (by omega), up2_ne _ _ _ (by decide), up2_ne _ _ _ (by decide)]
      congr 1
      omega
    · rw [if_neg c0, if_neg c0, up2_o _ _ _ _ (by decide), upr_at]
      unfold rmR
      have hd : ((f' + j) % 200 * 6 + c) / 6 = (f' + j) % 200 := by omega
      have hm : ((f' + j) % 200 * 6 + c) % 6 = c := by omega
      have hb : ((f' + j) % 200 + 200 - f') % 200 = j := by omega
      rw [hd, hm, hb]
      by_cases c1 : j < i
      · rw [if_neg (by omega), if_pos c1]
      · rw [if_pos ⟨by omega, hj, by omega⟩, if_neg c1, show f' + (j + 1) = f' + j + 1 by omega]
  refine ⟨if i = 0 then (f' + 1) % 200 else f', n' - 1, remC_ok a1 hi, by unfold rmM; rw [up2_s], fun j hj => ?_⟩
  have hw : (if j < i then j else j + 1) < n' := by
    by_cases c1 : j < i
    · rw [if_pos c1]; omega
    · rw [if_neg c1]; omega
  obtain ⟨b1, b2⟩ := a3 _ hw
  refine ⟨fun c hc => by rw [q2 j c hj hc, r1 j c hj hc]; exact b1 c hc, ?_⟩
  have r0 := r1 j 0 hj (by decide)
  rw [Nat.add_zero, Nat.add_zero] at r0
  rw [r0, r1 j 1 hj (by decide), r1 j 2 hj (by decide), r1 j 4 hj (by decide), r1 j 5 hj (by decide)]
  exact b2
end POOL

