/-! windows: the class's slots against the reference's indices -/
def iL (z : Int) : Int64 := Int64.ofInt z
theorem iL_lN (n : Nat) : lN n = iL n := Int64.ofInt_eq_ofNat.symm
theorem iL_add (a b : Int) : iL a + iL b = iL (a + b) := (Int64.ofInt_add a b).symm
theorem iL_sub (a b : Int) : iL a - iL b = iL (a - b) := (Int64.ofInt_sub a b).symm
theorem iL_toInt {z : Int} (h1 : -9223372036854775808 ≤ z) (h2 : z < 9223372036854775808) : (iL z).toInt = z := Int64.toInt_ofInt_of_le h1 h2
theorem iL_lt {a b : Int} (h1 : -9223372036854775808 ≤ a) (h2 : a < 9223372036854775808) (h3 : -9223372036854775808 ≤ b) (h4 : b < 9223372036854775808) : iL a < iL b ↔ a < b := by rw [Int64.lt_iff_toInt_lt, iL_toInt h1 h2, iL_toInt h3 h4]
theorem iL_i {z : Int} (h : 0 ≤ z) : (iL z).toInt32 = nI z.toNat := by
  rw [← lN_i, iL_lN, Int.toNat_of_nonneg h]
/-- the slot of the window that the reference keeps at k -/
abbrev sl3 (w k : Nat) : Nat := (w + k + 2) % 3
theorem sl3_lt (w k : Nat) : sl3 w k < 3 := Nat.mod_lt _ (by decide)
theorem wx (v : Int32) {w : Nat} (hw : w < 2 ^ 30) : (slI v (nI w) = -1 ∧ whI v (nI w) = -1) ∨ ∃ k, k < 3 ∧ 1 ≤ w + k ∧ v = nI (w + k - 1) ∧ slI v (nI w) = nI (sl3 w k) ∧ whI v (nI w) = nI k := by
  by_cases c0 : v < 0
  · exact Or.inl ⟨if_pos c0, if_pos c0⟩
  · obtain ⟨j, j1, rfl⟩ := nI_of c0
    have e1 : nI w - 1 = iI ((w : Int) - 1) := by rw [iI_nI, iI_1, iI_sub]
    have e2 : nI w + 1 = iI ((w : Int) + 1) := by rw [iI_nI, iI_1, iI_add]
    have c1 : nI j < nI w - 1 ↔ (j : Int) < (w : Int) - 1 := by
      rw [e1, iI_nI]; exact iI_lt (by omega) (by omega) (by omega) (by omega)
    have c2 : nI w + 1 < nI j ↔ (w : Int) + 1 < (j : Int) := by
      rw [e2, iI_nI]; exact iI_lt (by omega) (by omega) (by omega) (by omega)
    have e3 : (nI j).toInt64 - (nI w).toInt64 + 1 = iL ((j : Int) - w + 1) := by
      rw [nI_l j1, nI_l (by omega), iL_lN, iL_lN, iL_sub, show (1 : Int64) = iL 1 from rfl, iL_add]
    have c3 : (nI j).toInt64 - (nI w).toInt64 + 1 < 0 ↔ (j : Int) - w + 1 < 0 := by
      rw [e3, show (0 : Int64) = iL 0 from rfl]; exact iL_lt (by omega) (by omega) (by omega) (by omega)
    have c4 : 2 < (nI j).toInt64 - (nI w).toInt64 + 1 ↔ 2 < (j : Int) - w + 1 := by
      rw [e3, show (2 : Int64) = iL 2 from rfl]; exact iL_lt (by omega) (by omega) (by omega) (by omega)
    by_cases d1 : (j : Int) < (w : Int) - 1
    · refine Or.inl ⟨?_, ?_⟩
      · unfold slI; rw [if_neg c0, if_pos (c1.mpr d1)]
      · unfold whI; rw [if_neg c0, if_pos (c3.mpr (by omega))]
    · by_cases d2 : (w : Int) + 1 < (j : Int)
      · refine Or.inl ⟨?_, ?_⟩
        · unfold slI; rw [if_neg c0, if_neg (fun z => d1 (c1.mp z)), if_pos (c2.mpr d2)]
        · unfold whI; rw [if_neg c0, if_neg (fun z => by have := c3.mp z; omega), if_pos (c4.mpr (by omega))]
      · refine Or.inr ⟨j + 1 - w, by omega, by omega, by congr 1; omega, ?_, ?_⟩
        · unfold slI
          rw [if_neg c0, if_neg (fun z => d1 (c1.mp z)), if_neg (fun z => d2 (c2.mp z)), rem_3 j1]
          congr 1
          show j % 3 = (w + (j + 1 - w) + 2) % 3
          omega
        · unfold whI
          rw [if_neg c0, if_neg (fun z => by have := c3.mp z; omega), if_neg (fun z => by have := c4.mp z; omega), e3, iL_i (by omega)]
          congr 1
          omega
/-- with a window given -/
theorem wx_k {w k : Nat} (hw : w < 2 ^ 30) (hk : k < 3) (h : 1 ≤ w + k) : slI (nI (w + k - 1)) (nI w) = nI (sl3 w k) ∧ whI (nI (w + k - 1)) (nI w) = nI k := by
  have h0 : ¬ nI (w + k - 1) < 0 := nI_pos (by omega)
  rcases wx (nI (w + k - 1)) hw with ⟨a, b⟩ | ⟨k', k1, k2, k3, k4, k5⟩
  · exfalso
    have e1 : nI w - 1 = iI ((w : Int) - 1) := by rw [iI_nI, iI_1, iI_sub]
    have e2 : nI w + 1 = iI ((w : Int) + 1) := by rw [iI_nI, iI_1, iI_add]
    unfold slI at a
    rw [if_neg h0, e1, e2, iI_nI (w + k - 1), if_neg (fun z => by have := (iI_lt (by omega) (by omega) (by omega) (by omega)).mp z; omega), if_neg (fun z => by have := (iI_lt (by omega) (by omega) (by omega) (by omega)).mp z; omega), ← iI_nI, rem_3 (by omega)] at a
    exact rE_ne (by omega) a
  · have := (nI_eq (by omega) (by omega)).mp k3
    have : k' = k := by omega
    subst this
    exact ⟨k4, k5⟩
theorem sl3_cl (w k : Nat) : (nI (sl3 w k)).toNatClampNeg = sl3 w k := nI_clamp (by have := sl3_lt w k; omega)
theorem sl3_inj {w k k' : Nat} (h : k < 3) (h' : k' < 3) (e : sl3 w k = sl3 w k') : k = k' := by
  unfold sl3 at e; omega
theorem sl3_ne (w k : Nat) : ¬ nI (sl3 w k) = -1 := rE_ne (by have := sl3_lt w k; omega)

