def cC (k : Nat) : String := match k with
  | 0 => RX0
  | 1 => RX1
  | 2 => RX2
  | 3 => RX3
  | 4 => RX4
  | 5 => RX5
  | 6 => RX6
  | 7 => RX7
  | 8 => RL
  | 9 => RJ7
  | 10 => RJ9
  | _ => ""
def cT (k : Nat) : u_T := match k with
  | 0 => TX0
  | 1 => TX1
  | 2 => TX2
  | 3 => TX3
  | 4 => TX4
  | 5 => TX5
  | 6 => TX6
  | 7 => TX7
  | _ => TX0
def cTy (k : Nat) : Nat → FieldType := match k with
  | 0 => tyX0
  | 1 => tyX1
  | 2 => tyX2
  | 3 => tyX3
  | 4 => tyX4
  | 5 => tyX5
  | 6 => tyX6
  | 7 => tyX7
  | _ => tyX0
def cN (k : Nat) : Nat := match k with
  | 0 => 5
  | 1 => 9
  | 2 => 7
  | 3 => 3
  | 4 => 5
  | 5 => 8
  | 6 => 11
  | 7 => 32
  | _ => 0
theorem cl_at {k : Nat} (h : k < 8) : vwCl[k]? = some (cC k, cT k, cN k) := by
  rcases (show k = 0 ∨ k = 1 ∨ k = 2 ∨ k = 3 ∨ k = 4 ∨ k = 5 ∨ k = 6 ∨ k = 7 by omega) with rfl | rfl | rfl | rfl | rfl | rfl | rfl | rfl <;> rfl
theorem cTy_ok {k : Nat} (h : k < 8) : ∀ j, j < cN k → parseFieldDescriptor (cT k j).2.2.1 = some (cTy k j) := by
  rcases (show k = 0 ∨ k = 1 ∨ k = 2 ∨ k = 3 ∨ k = 4 ∨ k = 5 ∨ k = 6 ∨ k = 7 by omega) with rfl | rfl | rfl | rfl | rfl | rfl | rfl | rfl
  · exact tyX0_ok
  · exact tyX1_ok
  · exact tyX2_ok
  · exact tyX3_ok
  · exact tyX4_ok
  · exact tyX5_ok
  · exact tyX6_ok
  · exact tyX7_ok
theorem cT_nm {k : Nat} (h : k < 8) : ∀ a, a < cN k → ∀ b, b < cN k → a ≠ b → (cT k a).2.1 ≠ (cT k b).2.1 := by
  rcases (show k = 0 ∨ k = 1 ∨ k = 2 ∨ k = 3 ∨ k = 4 ∨ k = 5 ∨ k = 6 ∨ k = 7 by omega) with rfl | rfl | rfl | rfl | rfl | rfl | rfl | rfl
  · exact nmX0
  · exact nmX1
  · exact nmX2
  · exact nmX3
  · exact nmX4
  · exact nmX5
  · exact nmX6
  · exact nmX7
theorem inX0 : ∀ w ∈ u_ws RX0 TX0 5, w ∈ wAll := by decide +kernel
theorem inX1 : ∀ w ∈ u_ws RX1 TX1 9, w ∈ wAll := by decide +kernel
theorem inX2 : ∀ w ∈ u_ws RX2 TX2 7, w ∈ wAll := by decide +kernel
theorem inX3 : ∀ w ∈ u_ws RX3 TX3 3, w ∈ wAll := by decide +kernel
theorem inX4 : ∀ w ∈ u_ws RX4 TX4 5, w ∈ wAll := by decide +kernel
theorem inX5 : ∀ w ∈ u_ws RX5 TX5 8, w ∈ wAll := by decide +kernel
theorem inX6 : ∀ w ∈ u_ws RX6 TX6 11, w ∈ wAll := by decide +kernel
theorem inX7 : ∀ w ∈ u_ws RX7 TX7 32, w ∈ wAll := by decide +kernel
theorem cT_in {k : Nat} (h : k < 8) : ∀ w ∈ u_ws (cC k) (cT k) (cN k), w ∈ wAll := by
  rcases (show k = 0 ∨ k = 1 ∨ k = 2 ∨ k = 3 ∨ k = 4 ∨ k = 5 ∨ k = 6 ∨ k = 7 by omega) with rfl | rfl | rfl | rfl | rfl | rfl | rfl | rfl
  · exact inX0
  · exact inX1
  · exact inX2
  · exact inX3
  · exact inX4
  · exact inX5
  · exact inX6
  · exact inX7
/-- the links of fields: (the class whose constant pool it is, the entry, the class, the field) -/
def lfA : List (Nat × Nat × Nat × Nat) := [(2, 9, 2, 0), (2, 17, 2, 1), (2, 20, 2, 2), (2, 23, 2, 3), (2, 27, 2, 4), (2, 30, 2, 5), (2, 33, 2, 6), (3, 11, 3, 0), (3, 15, 3, 1), (3, 19, 3, 2), (4, 9, 4, 0), (4, 15, 4, 1), (4, 18, 4, 2), (4, 21, 4, 3), (4, 25, 4, 4), (0, 9, 0, 0), (0, 13, 0, 1), (0, 17, 0, 2), (0, 21, 0, 3), (0, 24, 0, 4), (5, 22, 5, 0), (5, 9, 5, 1), (5, 13, 5, 2), (5, 16, 5, 3), (5, 19, 5, 4), (5, 26, 5, 5), (5, 29, 5, 6), (5, 32, 5, 7), (1, 26, 1, 0), (1, 30, 1, 1), (1, 9, 1, 2), (1, 15, 1, 3), (1, 18, 1, 4), (1, 42, 1, 5), (1, 46, 1, 6), (1, 50, 1, 7), (1, 53, 1, 8), (6, 11, 6, 0), (6, 18, 6, 1), (6, 25, 6, 2), (6, 32, 6, 3), (6, 39, 6, 4), (6, 43, 6, 5), (6, 47, 6, 6), (6, 63, 6, 7), (6, 67, 6, 8), (6, 70, 6, 9), (6, 73, 6, 10), (7, 79, 7, 0), (7, 83, 7, 1), (7, 86, 7, 2), (7, 89, 7, 3), (7, 92, 7, 4), (7, 95, 7, 5), (7, 99, 7, 6), (7, 102, 7, 7), (7, 106, 7, 8), (7, 7, 7, 9), (7, 13, 7, 10), (7, 16, 7, 11), (7, 19, 7, 12), (7, 22, 7, 13), (7, 26, 7, 14), (7, 29, 7, 15), (7, 33, 7, 16), (7, 36, 7, 17), (7, 39, 7, 18), (7, 42, 7, 19), (7, 45, 7, 20), (7, 48, 7, 21), (7, 51, 7, 22), (7, 54, 7, 23), (7, 109, 7, 24), (7, 57, 7, 25), (7, 60, 7, 26), (7, 112, 7, 27), (7, 63, 7, 28), (7, 66, 7, 29), (7, 69, 7, 30), (7, 72, 7, 31)]
def lfB : List (Nat × Nat × Nat × Nat) := [(6, 170, 2, 0), (6, 181, 2, 1), (6, 185, 2, 2), (6, 159, 2, 4), (6, 109, 2, 5), (6, 158, 2, 6), (6, 214, 3, 2), (6, 198, 4, 2), (6, 134, 1, 0), (6, 174, 1, 1), (6, 274, 1, 2), (6, 277, 1, 3), (6, 280, 1, 4), (6, 106, 1, 5), (6, 271, 1, 6), (6, 127, 1, 7), (6, 112, 1, 8)]
def lfT : List (Nat × Nat × Nat × Nat) := lfA ++ lfB
theorem lfA_ok : ∀ q ∈ lfA, Cond.fieldLink (cC q.1) q.2.1 (cC q.2.2.1) (cT q.2.2.1 q.2.2.2).2.1 (cT q.2.2.1 q.2.2.2).2.2.1 ∈ wAll := by decide +kernel
theorem lfB_ok : ∀ q ∈ lfB, Cond.fieldLinkNest (cC q.1) q.2.1 (cC q.2.2.1) (cT q.2.2.1 q.2.2.2).2.1 (cT q.2.2.1 q.2.2.2).2.2.1 "QuotaDesk" ∈ nwL := by decide +kernel
theorem lfT_k : ∀ q ∈ lfT, q.2.2.1 < 8 ∧ q.2.2.2 < cN q.2.2.1 ∧ (cT q.2.2.1 q.2.2.2).1 = cC q.2.2.1 := by decide +kernel
def ldA : List (Nat × Nat × Int32) := [(6, 57, 1000000), (7, 115, 1000000)]
def ldB : List (Nat × Nat × Int64) := [(6, 61, 2), (4, 80, -1), (6, 286, 2147483647), (7, 116, 2), (7, 118, 3), (7, 175, 2147483647)]
theorem ldA_ok : ∀ q ∈ ldA, Cond.constant (cC q.1) q.2.1 q.2.2 ∈ wAll := by decide +kernel
theorem ldB_ok : ∀ q ∈ ldB, Cond.constantLong (cC q.1) q.2.1 q.2.2 ∈ wAll := by decide +kernel
def ifT : List (Nat × Nat) := [(0, 2), (0, 3), (0, 4), (1, 5), (1, 7), (1, 8), (2, 3), (2, 4), (2, 5), (2, 6), (3, 1), (3, 2), (4, 4), (5, 0), (5, 5), (5, 6), (5, 7), (6, 7), (6, 8), (6, 9), (7, 0), (7, 1), (7, 2), (7, 3), (7, 4), (7, 6), (7, 7), (7, 8), (7, 24), (7, 27)]
def jfT : List (Nat × Nat) := [(1, 6), (6, 10), (7, 5)]
theorem fls_int {k j : Nat} (h : (k, j) ∈ ifT) (o : Nat) (r : Nat → Int32) (y : Nat → Int64) (x : Int32) : fls k o (upd r j x) y = (fls k o r y).set j (.int x) ∧ (fls k o r y)[j]? = some (.int (r j)) := by
  simp only [ifT, List.mem_cons, Prod.mk.injEq, List.not_mem_nil, or_false] at h
  rcases h with ⟨rfl, rfl⟩ | ⟨rfl, rfl⟩ | ⟨rfl, rfl⟩ | ⟨rfl, rfl⟩ | ⟨rfl, rfl⟩ | ⟨rfl, rfl⟩ | ⟨rfl, rfl⟩ | ⟨rfl, rfl⟩ | ⟨rfl, rfl⟩ | ⟨rfl, rfl⟩ | ⟨rfl, rfl⟩ | ⟨rfl, rfl⟩ | ⟨rfl, rfl⟩ | ⟨rfl, rfl⟩ | ⟨rfl, rfl⟩ | ⟨rfl, rfl⟩ | ⟨rfl, rfl⟩ | ⟨rfl, rfl⟩ | ⟨rfl, rfl⟩ | ⟨rfl, rfl⟩ | ⟨rfl, rfl⟩ | ⟨rfl, rfl⟩ | ⟨rfl, rfl⟩ | ⟨rfl, rfl⟩ | ⟨rfl, rfl⟩ | ⟨rfl, rfl⟩ | ⟨rfl, rfl⟩ | ⟨rfl, rfl⟩ | ⟨rfl, rfl⟩ | ⟨rfl, rfl⟩ <;> exact ⟨rfl, rfl⟩
theorem fls_long {k j : Nat} (h : (k, j) ∈ jfT) (o : Nat) (r : Nat → Int32) (y : Nat → Int64) (x : Int64) : fls k o r (vp_updL y j x) = (fls k o r y).set j (.long x) ∧ (fls k o r y)[j]? = some (.long (y j)) := by
  simp only [jfT, List.mem_cons, Prod.mk.injEq, List.not_mem_nil, or_false] at h
  rcases h with ⟨rfl, rfl⟩ | ⟨rfl, rfl⟩ | ⟨rfl, rfl⟩ <;> exact ⟨rfl, rfl⟩
theorem fls_len {k : Nat} (h : k < 8) (o : Nat) (r : Nat → Int32) (y : Nat → Int64) : (fls k o r y).length = cN k := by
  rcases (show k = 0 ∨ k = 1 ∨ k = 2 ∨ k = 3 ∨ k = 4 ∨ k = 5 ∨ k = 6 ∨ k = 7 by omega) with rfl | rfl | rfl | rfl | rfl | rfl | rfl | rfl <;> rfl
theorem fls_tr0 : True := trivial
def notRA (v : Value) : Bool := match v with
  | .retAddr _ => false
  | _ => true
theorem tr_notRA {v : Value} (h : notRA v = true) (b x y : Nat) : tr b x v = tr b y v := by
  cases v <;> first | rfl | cases h
theorem fls_notRA (k o : Nat) (r : Nat → Int32) (y : Nat → Int64) : (fls k o r y).all notRA = true := by
  unfold fls
  split <;> rfl
theorem fls_tr {k o j : Nat} {r : Nat → Int32} {y : Nat → Int64} {v : Value} (h : (fls k o r y)[j]? = some v) (b x z : Nat) : tr b x v = tr b z v :=
  tr_notRA (List.all_eq_true.mp (fls_notRA k o r y) v (List.mem_of_getElem? h)) b x z
theorem ifT_ty : ∀ q ∈ ifT, cTy q.1 q.2 = .int ∨ cTy q.1 q.2 = .boolean := by decide +kernel
theorem jfT_ty : ∀ q ∈ jfT, cTy q.1 q.2 = .long := by decide +kernel
