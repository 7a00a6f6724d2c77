/-! switches, System.arraycopy, fewer locals -/
def wk (ls' ls : List (Option Value)) : Prop := match ls', ls with
  | [], _ => True
  | a :: r, b :: s => (a = none ∨ a = b) ∧ wk r s
  | a :: r, [] => a = none ∧ wk r []
theorem wk_at : ∀ (ls' ls : List (Option Value)), wk ls' ls → ∀ (i : Nat) (v : Value), ls'[i]? = some (some v) → ls[i]? = some (some v) := by
  intro ls'
  induction ls' with
  | nil => intro ls _ i v h; simp at h
  | cons a r ih =>
    intro ls hw i v h
    cases ls with
    | nil =>
      obtain ⟨h1, h2⟩ := hw
      cases i with
      | zero => simp [h1] at h
      | succ i => simp at h; have := ih [] h2 i v h; simp at this
    | cons b s =>
      obtain ⟨h1, h2⟩ := hw
      cases i with
      | zero =>
        rcases h1 with h1 | h1
        · simp [h1] at h
        · rw [← h1]; exact h
      | succ i => simp at h ⊢; exact ih s h2 i v h
section E7
variable {d Z L : Nat} {xs : Nat → Int32} {M : MD} {pc : Nat} {ls ls' : List (Option Value)} {st rest : List Value} {I : T2} {J : T3} {z : Nat} {Φ : Out → T2 → T3 → Nat → Prop}
theorem Ev.weak (hw : wk ls' ls) (k : Ev d Z L xs M pc ls' st I J z Φ) : Ev d Z L xs M pc ls st I J z Φ := by
  intro l p e R s m args below meth c D cy b bs k0 w0 Q C hRm hRT hTH H locs arr hR hl
  exact k l p e R s m args below meth c D cy b bs k0 w0 Q C hRm hRT hTH H locs arr hR ⟨hl.1, hl.2.1, fun i v h => hl.2.2 i v (wk_at ls' ls hw i v h)⟩
theorem Ev.swIn {dflt lo hi off : Int} {offs : Array Int} {len : Nat} {x : Int32} (tgt : Nat) (hd : decode M.2.2.1 pc = .ok (.tableswitch dflt lo hi offs, len)) (h1 : ¬ x.toInt < lo) (h2 : ¬ hi < x.toInt) (ho : offs[(x.toInt - lo).toNat]? = some off) (ht : (pc : Int) + off = (tgt : Int)) (k : Ev d Z L xs M tgt ls st I J z Φ) : Ev d Z L xs M pc ls (.int x :: st) I J z Φ := by
  intro l p e R s m args below meth c D cy b bs k0 w0 Q C hRm hRT hTH H locs arr hR hl
  have a := k l p e R s m args below meth c D cy b bs k0 w0 Q C hRm hRT hTH H locs arr hR hl
  exact lv_tableIn C.1 C.2.1 hd h1 h2 ho ht a
theorem Ev.swOut {dflt lo hi : Int} {offs : Array Int} {len : Nat} {x : Int32} (tgt : Nat) (hd : decode M.2.2.1 pc = .ok (.tableswitch dflt lo hi offs, len)) (h : x.toInt < lo ∨ hi < x.toInt) (ht : (pc : Int) + dflt = (tgt : Int)) (k : Ev d Z L xs M tgt ls st I J z Φ) : Ev d Z L xs M pc ls (.int x :: st) I J z Φ := by
  intro l p e R s m args below meth c D cy b bs k0 w0 Q C hRm hRT hTH H locs arr hR hl
  have a := k l p e R s m args below meth c D cy b bs k0 w0 Q C hRm hRT hTH H locs arr hR hl
  exact lv_tableOut C.1 C.2.1 hd h ht a
def lkC (own i : Nat) : Bool := decide (Cond.methodLink (cC own) i arraycopyName ∈ wAll) && decide (Cond.native arraycopyName ∈ wAll) && decide (Cond.static arraycopyName ∈ wAll) && decide (Cond.initialized "java/lang/System" ∈ wAll)
theorem Ev.cpy {i o0 o1 : Nat} {sp dp n : Int32} (hd : decode M.2.2.1 pc = .ok (.invokestatic i, 3)) (hl : lkC M.1 i = true) (k0 : kd o0 = 8) (k1 : kd o1 = 8) (h1 : ¬ sp < 0) (h2 : ¬ dp < 0) (h3 : ¬ n < 0) (h4 : sp.toNatClampNeg + n.toNatClampNeg ≤ ln o0) (h5 : dp.toNatClampNeg + n.toNatClampNeg ≤ ln o1) (hw : (rest.map fun v => v.category).sum ≤ 8)
    (k : Ev d Z L xs M (pc + 3) ls rest (upr I o1 (va_cpy (I o0) (I o1) sp.toNatClampNeg dp.toNatClampNeg n.toNatClampNeg)) J z Φ) : Ev d Z L xs M pc ls (.int n :: .int dp :: .ref o1 :: .int sp :: .ref o0 :: rest) I J z Φ := by
  intro l p e R s m args below meth c D cy b bs k00 w0 Q C hRm hRT hTH H locs arr hR hlv
  have kk := k l p e R s m args below meth c D cy b bs k00 w0 Q C hRm hRT hTH
  obtain ⟨hx, hb, hml, hown, hr, hlk, hts, hK, hX, htr, hex⟩ := id C
  unfold lkC at hl
  simp only [Bool.and_eq_true, decide_eq_true_eq] at hl
  obtain ⟨⟨⟨l1, l2⟩, l3⟩, l4⟩ := hl
  obtain ⟨r1, r2, r3, r4⟩ := hRm
  refine va_copyi hx hb (hml.trans hlv.1.symm) hown (hts _ l1) (hts _ l2) (hts _ l3) (hts _ l4) hK.1 hR.1 (wl_D b 159 _) hR.2 o0 o1 0 0 (Rp.at k0 (by decide) (en_8 k0 _ _)) (Rp.at k1 (by decide) (en_8 k1 _ _)) rfl rfl rfl h1 h2 h3 h4 h5 (fun _ _ => rfl) (by omega) ?_ hd (fun H1 locs1 q1 q2 q3 => kk H1 locs1 arr (Rp.putr (en_8 k1 _ _) q1 q3) hlv)
  rw [sum_tr]
  have : nativeFrameWords "java/lang/System" "arraycopy" 5 ≤ 80 := by decide +kernel
  omega
end E7
