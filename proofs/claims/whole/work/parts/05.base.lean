/-! my own layer: the objects that the law makes lie side by side from b on, in the order in which they are made; the state is (I, J): what the int and long places of each hold -/
abbrev T2 : Type := Nat → Nat → Int32
abbrev T3 : Type := Nat → Nat → Int64
def up2 (f : T2) (o k : Nat) (v : Int32) : T2 := fun a => if a = o then upd (f a) k v else f a
def up3 (f : T3) (o k : Nat) (v : Int64) : T3 := fun a => if a = o then vp_updL (f a) k v else f a
theorem up2_at (f : T2) (o k : Nat) (v : Int32) : up2 f o k v o = upd (f o) k v := if_pos rfl
theorem up3_at (f : T3) (o k : Nat) (v : Int64) : up3 f o k v o = vp_updL (f o) k v := if_pos rfl
theorem up2_ne (f : T2) {o a : Nat} (k : Nat) (v : Int32) (h : a ≠ o) : up2 f o k v a = f a := if_neg h
theorem up3_ne (f : T3) {o a : Nat} (k : Nat) (v : Int64) (h : a ≠ o) : up3 f o k v a = f a := if_neg h
/-- a whole row anew -/
def upr (f : T2) (o : Nat) (r : Nat → Int32) : T2 := fun a => if a = o then r else f a
theorem upr_at (f : T2) (o : Nat) (r : Nat → Int32) : upr f o r o = r := if_pos rfl
theorem upr_ne (f : T2) {o a : Nat} (r : Nat → Int32) (h : a ≠ o) : upr f o r a = f a := if_neg h
def kdG : List Nat := [1, 8, 8, 8, 5, 8, 8, 8, 8, 5, 8, 8, 8, 8]
def lnG : List Nat := [0, 3, 3, 3, 0, 50, 50, 50, 50, 0, 50, 50, 50, 50]
def kdL : List Nat := [6, 11, 2, 8, 12, 8, 8, 8, 12, 8, 8, 8, 3, 8, 4, 8, 8, 8, 9, 0, 9, 8, 8, 8] ++ (kdG ++ kdG ++ kdG ++ kdG ++ kdG ++ kdG ++ kdG ++ kdG) ++ [7, 8, 8, 8, 8, 9, 8, 10, 8, 8, 8, 8, 8, 8, 8, 8, 8, 9, 8, 8, 9, 10, 9]
def lnL : List Nat := [0, 8, 0, 3, 3, 8, 8, 8, 3, 8, 8, 8, 0, 1200, 0, 8, 8, 8, 8, 0, 512, 512, 200, 6] ++ (lnG ++ lnG ++ lnG ++ lnG ++ lnG ++ lnG ++ lnG ++ lnG) ++ [0, 3, 24, 24, 8, 8, 8, 8, 24, 24, 24, 4800, 16, 16, 16, 1200, 200, 2000, 8, 8, 8, 8, 1]
/-- the kind of the thing at place o: a class's number, or 8 int[], 9 long[], 10 boolean[], 11 Gate[], 12 int[][] -/
def kd (o : Nat) : Nat := kdL.getD o 99
def ln (o : Nat) : Nat := lnL.getD o 0
theorem kd_lt {o k : Nat} (h : kd o = k) (hk : k < 99) : o < 159 := by
  refine Nat.lt_of_not_le fun hn => ?_
  have h1 : kdL.length = 159 := by decide +kernel
  have h2 : kdL[o]? = none := List.getElem?_eq_none (by omega)
  unfold kd at h
  rw [List.getD_eq_getElem?_getD, h2] at h
  simp at h
  omega
/-- an object's fields; a reference is the place of the thing that it names -/
def fls (k o : Nat) (r : Nat → Int32) (y : Nat → Int64) : List Value := match k with
  | 0 => [.ref (o + 1), .ref (o + 2), .int (r 2), .int (r 3), .int (r 4)]
  | 1 => [.ref (o + 4), .ref (o + 9), .ref (o + 1), .ref (o + 2), .ref (o + 3), .int (r 5), .long (y 6), .int (r 7), .int (r 8)]
  | 2 => [.ref (o + 1), .ref (o + 2), .ref (o + 6), .int (r 3), .int (r 4), .int (r 5), .int (r 6)]
  | 3 => [.ref (o + 1), .int (r 1), .int (r 2)]
  | 4 => [.ref (o + 1), .ref (o + 2), .ref (o + 3), .ref (o + 4), .int (r 4)]
  | 5 => [.int (r 0), .ref (o + 1), .ref (o + 2), .ref (o + 3), .ref (o + 4), .int (r 5), .int (r 6), .int (r 7)]
  | 6 => [.ref (o + 1), .ref (o + 2), .ref (o + 12), .ref (o + 14), .ref (o + 19), .ref (o + 22), .ref (o + 23), .int (r 7), .int (r 8), .int (r 9), .long (y 10)]
  | 7 => [.int (r 0), .int (r 1), .int (r 2), .int (r 3), .int (r 4), .long (y 5), .int (r 6), .int (r 7), .int (r 8), .ref (o + 1), .ref (o + 2), .ref (o + 3), .ref (o + 4), .ref (o + 5), .ref (o + 6), .ref (o + 7), .ref (o + 8), .ref (o + 9), .ref (o + 10), .ref (o + 11), .ref (o + 12), .ref (o + 13), .ref (o + 14), .ref (o + 15), .int (r 24), .ref (o + 16), .ref (o + 17), .int (r 27), .ref (o + 18), .ref (o + 19), .ref (o + 20), .ref (o + 21)]
  | _ => []
/-- a value as the machine has it: places count from b on; a mark stands for the script's array at bs -/
def tr (b bs : Nat) (v : Value) : Value := match v with
  | .ref o => .ref (b + o)
  | .retAddr _ => .ref bs
  | .int x => .int x
  | .long x => .long x
  | .float x => .float x
  | .double x => .double x
  | .null => .null
theorem tr_cat (b bs : Nat) (v : Value) : (tr b bs v).category = v.category := by cases v <;> rfl
def en (b : Nat) (cy : Nat → ClassId) (o : Nat) (r : Nat → Int32) (y : Nat → Int64) : va_E := match kd o with
  | 8 => .inl (cy 0, ln o, .inl r)
  | 9 => .inl (cy 1, ln o, .inr (.inl y))
  | 10 => .inl (cy 2, ln o, .inl r)
  | 11 => .inl (cy 3, ln o, .inr (.inr (.inr (.inr (fun k => some (b + (24 + 14 * k)))))))
  | 12 => .inl (cy 4, ln o, .inr (.inr (.inr (.inr (fun k => some (b + (o + 1 + k)))))))
  | k => .inr (k, (fls k o r y).map (tr b 0))
def En (b : Nat) (cy : Nat → ClassId) (I : T2) (J : T3) (o : Nat) : va_E := en b cy o (I o) (J o)
/-- n things side by side from b on -/
def wl (b n : Nat) (E : Nat → va_E) : va_W := (List.range n).map (fun o => (b + o, E o))
theorem wl_get {b n o : Nat} {E : Nat → va_E} (h : o < n) : (wl b n E)[o]? = some (b + o, E o) := by simp [wl, h]
theorem wl_len (b n : Nat) (E : Nat → va_E) : (wl b n E).length = n := by simp [wl]
theorem wl_set {b n o : Nat} {E : Nat → va_E} {e : va_E} : (wl b n E).set o (b + o, e) = wl b n (va_up E o e) := by
  apply List.ext_getElem?
  intro i
  by_cases hi : i < n
  · by_cases ho : o = i
    · subst ho
      rw [List.getElem?_set_self (by rw [wl_len]; exact hi), wl_get hi, va_up_self]
    · rw [List.getElem?_set_ne ho, wl_get hi, wl_get hi, va_up_ne _ _ (fun q => ho q.symm)]
  · rw [List.getElem?_eq_none (by rw [List.length_set, wl_len]; omega), List.getElem?_eq_none (by rw [wl_len]; omega)]
theorem wl_D (b n : Nat) (E : Nat → va_E) : va_D (fun q => b ≤ q) (wl b n E) := by
  have key : ∀ (k : Nat) (q : Nat × va_E), (wl b n E)[k]? = some q → q.1 = b + k := by
    intro k q h
    have hk : k < n := by have := (List.getElem?_eq_some_iff.mp h).1; rw [wl_len] at this; exact this
    rw [wl_get hk] at h
    cases h; rfl
  refine ⟨fun i j p q h1 h2 h3 => ?_, fun k q h => ?_⟩
  · have e1 := key i p h1
    have e2 := key j q h2
    omega
  · have e1 := key k q h
    show b ≤ q.1
    omega
theorem wl_congr {b n : Nat} {E E' : Nat → va_E} (h : ∀ o, o < n → E o = E' o) : wl b n E = wl b n E' := by
  unfold wl
  exact List.map_congr_left fun o ho => by rw [h o (List.mem_range.mp ho)]
theorem En_up2 {b : Nat} {cy : Nat → ClassId} {I : T2} {J : T3} {o j : Nat} {v : Int32} (a : Nat) : va_up (En b cy I J) o (en b cy o (upd (I o) j v) (J o)) a = En b cy (up2 I o j v) J a := by
  by_cases h : a = o
  · subst h
    rw [va_up_self]; unfold En; rw [up2_at]
  · rw [va_up_ne _ _ h]; unfold En; rw [up2_ne _ _ _ h]
theorem En_upr {b : Nat} {cy : Nat → ClassId} {I : T2} {J : T3} {o : Nat} {r : Nat → Int32} (a : Nat) : va_up (En b cy I J) o (en b cy o r (J o)) a = En b cy (upr I o r) J a := by
  by_cases h : a = o
  · subst h
    rw [va_up_self]; unfold En; rw [upr_at]
  · rw [va_up_ne _ _ h]; unfold En; rw [upr_ne _ _ h]
theorem En_up3 {b : Nat} {cy : Nat → ClassId} {I : T2} {J : T3} {o j : Nat} {v : Int64} (a : Nat) : va_up (En b cy I J) o (en b cy o (I o) (vp_updL (J o) j v)) a = En b cy I (up3 J o j v) a := by
  by_cases h : a = o
  · subst h
    rw [va_up_self]; unfold En; rw [up3_at]
  · rw [va_up_ne _ _ h]; unfold En; rw [up3_ne _ _ _ h]
/-- the array classes' numbers -/
def tyl (cy : Nat → ClassId) : List (ClassId × FieldType) := [(cy 0, .int), (cy 1, .long), (cy 2, .boolean), (cy 3, .object "QuotaDesk$Gate"), (cy 4, .array .int)]
/-- the words that every method needs: all good ones of the tables; and those of nest mates -/
def wAll : List Cond := lw_tbl.filter goodWord
def isNest (w : Cond) : Bool := match w with
  | .fieldLinkNest _ _ _ _ _ _ => true
  | .methodLinkNest _ _ _ _ => true
  | .declares _ => true
  | .castable _ _ => true
  | _ => false
def nwL : List Cond := lw_tbl.filter isNest
theorem wAll_good {w : Cond} (h : w ∈ wAll) : goodWord w = true := (List.mem_filter.mp h).2
/-- the exceptions, none of which is another -/
def exL : List String := ["java/lang/IndexOutOfBoundsException", "java/lang/IllegalArgumentException", "java/lang/IllegalStateException", "java/lang/UnsupportedOperationException"]
/-- what stands through a whole method: classes, array classes, nest mates' links, Throwable's two statics -/
def KS (D : va_G) (cy : Nat → ClassId) (b : Nat) (s : State) (H : Heap) : Prop :=
  va_K D vwCl (tyl cy) s ∧ (∀ w ∈ nwL, va_Nw w s) ∧ vx_Zq Bundle.tN "UNASSIGNED_STACK" Bundle.steD (fun q => b ≤ q) s H ∧ vx_Zq Bundle.tN "SUPPRESSED_SENTINEL" Bundle.listD (fun q => b ≤ q) s H ∧ ∀ x ∈ exL, ∀ y ∈ exL, x ≠ y → va_Nc x y s
/-- the heap holds the state (I, J); nothing below b has changed since H0 -/
def Rp (D : va_G) (cy : Nat → ClassId) (b : Nat) (I : T2) (J : T3) (H0 H : Heap) (locs : List Loc) : Prop :=
  va_P D vwCl (wl b 159 (En b cy I J)) H ∧ va_S (fun q => b ≤ q) H0 H locs
/-- the locals -/
def lvh (arr : Array Slot) (nL b bs : Nat) (ls : List (Option Value)) : Prop := arr.size = nL ∧ lv_wf arr ∧ ∀ (i : Nat) (v : Value), ls[i]? = some (some v) → arr[i]? = some (.val (tr b bs v))
