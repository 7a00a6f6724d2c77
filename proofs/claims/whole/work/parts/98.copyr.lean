/-! the layer for a world of 158 things -/
def kdL_r : List Nat := kdL.take 158
def lnL_r : List Nat := lnL.take 158
/-- the kind of the thing at place o: a class's number, or 8 int[], 9 long[], 10 boolean[], 11 Gate[], 12 int[][] -/
def kd_r (o : Nat) : Nat := kdL_r.getD o 99
def ln_r (o : Nat) : Nat := lnL_r.getD o 0
theorem kd_lt_r {o k : Nat} (h : kd_r o = k) (hk : k < 99) : o < 158 := by
  refine Nat.lt_of_not_le fun hn => ?_
  have h1 : kdL_r.length = 158 := by decide +kernel
  have h2 : kdL_r[o]? = none := List.getElem?_eq_none (by omega)
  unfold kd_r at h
  rw [List.getD_eq_getElem?_getD, h2] at h
  simp at h
  omega
def en_r (b : Nat) (cy : Nat → ClassId) (o : Nat) (r : Nat → Int32) (y : Nat → Int64) : va_E := match kd_r o with
  | 8 => .inl (cy 0, ln_r o, .inl r)
  | 9 => .inl (cy 1, ln_r o, .inr (.inl y))
  | 10 => .inl (cy 2, ln_r o, .inl r)
  | 11 => .inl (cy 3, ln_r o, .inr (.inr (.inr (.inr (fun k => some (b + (24 + 14 * k)))))))
  | 12 => .inl (cy 4, ln_r o, .inr (.inr (.inr (.inr (fun k => some (b + (o + 1 + k)))))))
  | k => .inr (k, (fls k o r y).map (tr b 0))
def En_r (b : Nat) (cy : Nat → ClassId) (I : T2) (J : T3) (o : Nat) : va_E := en_r b cy o (I o) (J o)
theorem En_up2_r {b : Nat} {cy : Nat → ClassId} {I : T2} {J : T3} {o j : Nat} {v : Int32} (a : Nat) : va_up (En_r b cy I J) o (en_r b cy o (upd (I o) j v) (J o)) a = En_r b cy (up2 I o j v) J a := by
  by_cases h : a = o
  · subst h
    rw [va_up_self]; unfold En_r; rw [up2_at]
  · rw [va_up_ne _ _ h]; unfold En_r; rw [up2_ne _ _ _ h]
theorem En_up3_r {b : Nat} {cy : Nat → ClassId} {I : T2} {J : T3} {o j : Nat} {v : Int64} (a : Nat) : va_up (En_r b cy I J) o (en_r b cy o (I o) (vp_updL (J o) j v)) a = En_r b cy I (up3 J o j v) a := by
  by_cases h : a = o
  · subst h
    rw [va_up_self]; unfold En_r; rw [up3_at]
  · rw [va_up_ne _ _ h]; unfold En_r; rw [up3_ne _ _ _ h]
/-- the heap holds the state (I, J); nothing below b has changed since H0 -/
def Rp_r (D : va_G) (cy : Nat → ClassId) (b : Nat) (I : T2) (J : T3) (H0 H : Heap) (locs : List Loc) : Prop :=
  va_P D vwCl (wl b 158 (En_r b cy I J)) H ∧ va_S (fun q => b ≤ q) H0 H locs
def s_put_r (k j : Nat) (pc : Nat) (ls : List (Option Value)) (st : List Value) (I : T2) (J : T3) : Option (Prop × AS) := match cTy k j, st with
  | .int, .int x :: .ref o :: r => some (kd_r o = k, pc + 3, ls, r, up2 I o j x, J)
  | .boolean, .int x :: .ref o :: r => some (kd_r o = k ∧ (x = 0 ∨ x = 1), pc + 3, ls, r, up2 I o j x, J)
  | .long, .long x :: .ref o :: r => some (kd_r o = k, pc + 3, ls, r, I, up3 J o j x)
  | _, _ => none
def s_get_r (k j : Nat) (pc : Nat) (ls : List (Option Value)) (st : List Value) (I : T2) (J : T3) : Option (Prop × AS) := match st with
  | .ref o :: r => match (fls k o (I o) (J o))[j]? with
    | some v => some (kd_r o = k, pc + 3, ls, v :: r, I, J)
    | none => none
  | _ => none
def s_iald_r (L : Nat) (xs : Nat → Int32) (pc : Nat) (ls : List (Option Value)) (st : List Value) (I : T2) (J : T3) : Option (Prop × AS) := match st with
  | .int i :: .ref o :: r => some (kd_r o = 8 ∧ vp_in i (ln_r o), pc + 1, ls, .int (I o i.toNatClampNeg) :: r, I, J)
  | .int i :: .retAddr _ :: r => some (vp_in i L, pc + 1, ls, .int (xs i.toNatClampNeg) :: r, I, J)
  | _ => none
def s_alen_r (L : Nat) (pc : Nat) (ls : List (Option Value)) (st : List Value) (I : T2) (J : T3) : Option (Prop × AS) := match st with
  | .ref o :: r => some (kd_r o = 8, pc + 1, ls, .int (nI (ln_r o)) :: r, I, J)
  | .retAddr _ :: r => some (0 < L, pc + 1, ls, .int (nI L) :: r, I, J)
  | _ => none
def stp_r (nL L : Nat) (xs : Nat → Int32) (op : OP) (pc : Nat) (ls : List (Option Value)) (st : List Value) (I : T2) (J : T3) : Option (Prop × AS) := match op with
  | (.iconst _, 1, _, _, v, _) => some (True, pc + 1, ls, .int v :: st, I, J)
  | (.bipush _, 2, _, _, v, _) => some (True, pc + 2, ls, .int v :: st, I, J)
  | (.sipush _, 3, _, _, v, _) => some (True, pc + 3, ls, .int v :: st, I, J)
  | (.ldc _, 2, _, _, v, _) => some (True, pc + 2, ls, .int v :: st, I, J)
  | (.lconst _, 1, _, _, _, w) => some (True, pc + 1, ls, .long w :: st, I, J)
  | (.ldc2_w _, 3, _, _, _, w) => some (True, pc + 3, ls, .long w :: st, I, J)
  | (.iload_n k, 1, _) => s_ld isI k 1 pc ls st I J
  | (.iload i, 2, _) => s_ld isI i 2 pc ls st I J
  | (.lload_n k, 1, _) => s_ld isJ k 1 pc ls st I J
  | (.lload i, 2, _) => s_ld isJ i 2 pc ls st I J
  | (.aload_n k, 1, _) => s_ld isA k 1 pc ls st I J
  | (.aload i, 2, _) => s_ld isA i 2 pc ls st I J
  | (.istore_n k, 1, _) => s_is k 1 nL pc ls st I J
  | (.istore i, 2, _) => s_is i 2 nL pc ls st I J
  | (.astore_n k, 1, _) => s_as k 1 nL pc ls st I J
  | (.astore i, 2, _) => s_as i 2 nL pc ls st I J
  | (.lstore_n k, 1, _) => s_ls k 1 nL pc ls st I J
  | (.lstore i, 2, _) => s_ls i 2 nL pc ls st I J
  | (.iinc i _, 3, _, _, v, _) => match ls[i]? with
    | some (some (.int x)) => if okst ls i && decide (i < nL) then some (True, pc + 3, ls.set i (some (.int (x + v))), st, I, J) else none
    | _ => none
  | (.iadd, 1, _) => s_bi (· + ·) (fun _ => True) pc ls st I J
  | (.isub, 1, _) => s_bi (· - ·) (fun _ => True) pc ls st I J
  | (.imul, 1, _) => s_bi (· * ·) (fun _ => True) pc ls st I J
  | (.iand, 1, _) => s_bi (· &&& ·) (fun _ => True) pc ls st I J
  | (.ixor, 1, _) => s_bi (· ^^^ ·) (fun _ => True) pc ls st I J
  | (.idiv, 1, _) => s_bi (· / ·) (fun y => ¬ y = 0) pc ls st I J
  | (.irem, 1, _) => s_bi (fun x y => x - x / y * y) (fun y => ¬ y = 0) pc ls st I J
  | (.ladd, 1, _) => s_bl (· + ·) (fun _ => True) pc ls st I J
  | (.lsub, 1, _) => s_bl (· - ·) (fun _ => True) pc ls st I J
  | (.lmul, 1, _) => s_bl (· * ·) (fun _ => True) pc ls st I J
  | (.land, 1, _) => s_bl (· &&& ·) (fun _ => True) pc ls st I J
  | (.ldiv, 1, _) => s_bl (· / ·) (fun y => ¬ y = 0) pc ls st I J
  | (.lrem, 1, _) => s_bl (fun x y => x - x / y * y) (fun y => ¬ y = 0) pc ls st I J
  | (.ineg, 1, _) => match st with
    | .int x :: r => some (True, pc + 1, ls, .int (-x) :: r, I, J)
    | _ => none
  | (.i2l, 1, _) => match st with
    | .int x :: r => some (True, pc + 1, ls, .long x.toInt64 :: r, I, J)
    | _ => none
  | (.l2i, 1, _) => match st with
    | .long x :: r => some (True, pc + 1, ls, .int x.toInt32 :: r, I, J)
    | _ => none
  | (.lcmp, 1, _) => match st with
    | .long y :: .long x :: r => some (True, pc + 1, ls, .int (lg_cmp x y) :: r, I, J)
    | _ => none
  | (.dup, 1, _) => match st with
    | v :: r => if v.category = 1 then some (True, pc + 1, ls, v :: v :: r, I, J) else none
    | _ => none
  | (.dup2, 1, _) => match st with
    | v :: w :: r => if v.category = 1 ∧ w.category = 1 then some (True, pc + 1, ls, v :: w :: v :: w :: r, I, J) else none
    | _ => none
  | (.pop, 1, _) => match st with
    | v :: r => if v.category = 1 then some (True, pc + 1, ls, r, I, J) else none
    | _ => none
  | (.goto _, 3, k, _) => some (True, k, ls, st, I, J)
  | (.getfield _, 3, k, j, _) => s_get_r k j pc ls st I J
  | (.putfield _, 3, k, j, _) => s_put_r k j pc ls st I J
  | (.iaload, 1, _) => s_iald_r L xs pc ls st I J
  | (.iastore, 1, _) => match st with
    | .int x :: .int i :: .ref o :: r => some (kd_r o = 8 ∧ vp_in i (ln_r o), pc + 1, ls, r, up2 I o i.toNatClampNeg x, J)
    | _ => none
  | (.laload, 1, _) => match st with
    | .int i :: .ref o :: r => some (kd_r o = 9 ∧ vp_in i (ln_r o), pc + 1, ls, .long (J o i.toNatClampNeg) :: r, I, J)
    | _ => none
  | (.lastore, 1, _) => match st with
    | .long x :: .int i :: .ref o :: r => some (kd_r o = 9 ∧ vp_in i (ln_r o), pc + 1, ls, r, I, up3 J o i.toNatClampNeg x)
    | _ => none
  | (.baload, 1, _) => match st with
    | .int i :: .ref o :: r => some (kd_r o = 10 ∧ vp_in i (ln_r o), pc + 1, ls, .int (I o i.toNatClampNeg) :: r, I, J)
    | _ => none
  | (.bastore, 1, _) => match st with
    | .int x :: .int i :: .ref o :: r => some (kd_r o = 10 ∧ vp_in i (ln_r o) ∧ (x = 0 ∨ x = 1), pc + 1, ls, r, up2 I o i.toNatClampNeg x, J)
    | _ => none
  | (.aaload, 1, k, _) => match st with
    | .int i :: .ref o :: r => if k = 11 then some (kd_r o = 11 ∧ vp_in i (ln_r o), pc + 1, ls, .ref (24 + 14 * i.toNatClampNeg) :: r, I, J)
      else if k = 12 then some (kd_r o = 12 ∧ vp_in i (ln_r o), pc + 1, ls, .ref (o + 1 + i.toNatClampNeg) :: r, I, J) else none
    | _ => none
  | (.arraylength, 1, _) => s_alen_r L pc ls st I J
  | _ => none
theorem en_obj_r {b : Nat} {cy : Nat → ClassId} {o k : Nat} (h : kd_r o = k) (hk : k < 8) (r : Nat → Int32) (y : Nat → Int64) : en_r b cy o r y = .inr (k, (fls k o r y).map (tr b 0)) := by
  unfold en_r
  rw [h]
  rcases (show k = 0 ∨ k = 1 ∨ k = 2 ∨ k = 3 ∨ k = 4 ∨ k = 5 ∨ k = 6 ∨ k = 7 by omega) with rfl | rfl | rfl | rfl | rfl | rfl | rfl | rfl <;> rfl
theorem en_8_r {b : Nat} {cy : Nat → ClassId} {o : Nat} (h : kd_r o = 8) (r : Nat → Int32) (y : Nat → Int64) : en_r b cy o r y = .inl (cy 0, ln_r o, .inl r) := by
  unfold en_r
  rw [h]
  rfl
theorem en_9_r {b : Nat} {cy : Nat → ClassId} {o : Nat} (h : kd_r o = 9) (r : Nat → Int32) (y : Nat → Int64) : en_r b cy o r y = .inl (cy 1, ln_r o, .inr (.inl y)) := by
  unfold en_r
  rw [h]
  rfl
theorem en_10_r {b : Nat} {cy : Nat → ClassId} {o : Nat} (h : kd_r o = 10) (r : Nat → Int32) (y : Nat → Int64) : en_r b cy o r y = .inl (cy 2, ln_r o, .inl r) := by
  unfold en_r
  rw [h]
  rfl
theorem en_11_r {b : Nat} {cy : Nat → ClassId} {o : Nat} (h : kd_r o = 11) (r : Nat → Int32) (y : Nat → Int64) : en_r b cy o r y = .inl (cy 3, ln_r o, .inr (.inr (.inr (.inr (fun k => some (b + (24 + 14 * k))))))) := by
  unfold en_r
  rw [h]
  rfl
theorem en_12_r {b : Nat} {cy : Nat → ClassId} {o : Nat} (h : kd_r o = 12) (r : Nat → Int32) (y : Nat → Int64) : en_r b cy o r y = .inl (cy 4, ln_r o, .inr (.inr (.inr (.inr (fun k => some (b + (o + 1 + k))))))) := by
  unfold en_r
  rw [h]
  rfl
section R1
variable {p : Program} {l : Launch} {e : Env} {R : Room} {s : State} {m : MethodId} {args : Array Value} {below : List Frame} {meth : Method} {c : Code} {H : Heap} {locs : List Loc} {cells slots : Nat} {Q : State → Prop}
variable {D : va_G} {cy : Nat → ClassId} {b bs L : Nat} {xs : Nat → Int32} {M : MD} {I : T2} {J : T3} {arr : Array Slot} {pc : Nat}
theorem Rp_r.put2 {o j : Nat} {x : Int32} {e0 : va_E} {H1 : Heap} {locs1 : List Loc} (he : en_r b cy o (upd (I o) j x) (J o) = e0) (h1 : va_P D vwCl ((wl b 158 (En_r b cy I J)).set o (b + o, e0)) H1) (h2 : va_S (fun q => b ≤ q) s.heap H1 locs1) : Rp_r D cy b (up2 I o j x) J s.heap H1 locs1 := by
  refine ⟨?_, h2⟩
  rw [wl_set, ← he, wl_congr (fun a _ => En_up2_r a)] at h1
  exact h1
theorem Rp_r.put3 {o j : Nat} {x : Int64} {e0 : va_E} {H1 : Heap} {locs1 : List Loc} (he : en_r b cy o (I o) (vp_updL (J o) j x) = e0) (h1 : va_P D vwCl ((wl b 158 (En_r b cy I J)).set o (b + o, e0)) H1) (h2 : va_S (fun q => b ≤ q) s.heap H1 locs1) : Rp_r D cy b I (up3 J o j x) s.heap H1 locs1 := by
  refine ⟨?_, h2⟩
  rw [wl_set, ← he, wl_congr (fun a _ => En_up3_r a)] at h1
  exact h1
theorem Rp_r.at {o k : Nat} {e0 : va_E} (hk : kd_r o = k) (hk9 : k < 99) (he : en_r b cy o (I o) (J o) = e0) : (wl b 158 (En_r b cy I J))[o]? = some (b + o, e0) := by
  rw [wl_get (kd_lt_r hk hk9)]
  show some (b + o, en_r b cy o (I o) (J o)) = _
  rw [he]
theorem r_get_r {i k j : Nat} {o : Nat} {v : Value} {rest : List Value} (C : Cx l p s m args meth c D cy b bs L xs M) (hR : Rp_r D cy b I J s.heap H locs) (hL : (M.1, i, k, j) ∈ lfT) (hk : kd_r o = k) (hv : (fls k o (I o) (J o))[j]? = some v) (hd : decode M.2.2.1 pc = .ok (.getfield i, 3))
    (kk : W p l e R s m args below meth c H locs cells slots Q (F0 m (pc + 3) arr (tr b bs v :: rest))) : W p l e R s m args below meth c H locs cells slots Q (F0 m pc arr (.ref (b + o) :: rest)) := by
  obtain ⟨hx, hb, hml, hown, hr, hlk, hts, hK, -⟩ := C
  obtain ⟨hk8, hj, hdec⟩ := lfT_k _ hL
  dsimp only at hk8 hj hdec
  have hat := Rp_r.at (b := b) (cy := cy) (I := I) (J := J) hk (by omega) (en_obj_r hk hk8 (I o) (J o))
  have hv' : ((fls k o (I o) (J o)).map (tr b 0))[j]? = some (tr b bs v) := by
    rw [List.getElem?_map, hv]
    show some (tr b 0 v) = _
    rw [fls_tr hv b 0 bs]
  rcases List.mem_append.mp hL with h | h
  · refine va_get (C := cC k) (T := cT k) (N := cN k) (ci := k) (own := cC M.1) (ref := cC k) hx hb hts (cT_in hk8) hown hK.1 hR.1 o hat (cl_at hk8) j hj (hts _ (lfA_ok _ h)) (fun x hx => ?_) hv' hd kk
    rw [← hdec]; exact hx
  · refine va_getN (C := cC k) (T := cT k) (N := cN k) (ci := k) (own := cC M.1) (ref := cC k) (host := "QuotaDesk") hx hb hts (cT_in hk8) hown hK.1 hR.1 o hat (cl_at hk8) j hj (va_Nw.use rfl (hK.2.1 _ (lfB_ok _ h))) (fun x hx => ?_) hv' hd kk
    rw [← hdec]; exact hx
theorem r_put_r {i k j : Nat} {o : Nat} {v : Value} {rest : List Value} {I' : T2} {J' : T3} (C : Cx l p s m args meth c D cy b bs L xs M) (hR : Rp_r D cy b I J s.heap H locs) (hL : (M.1, i, k, j) ∈ lfT) (hf : (cT k j).2.2.2 = false) (hk : kd_r o = k) (hn : narrow (cTy k j) v = v) (hfit : fits (cTy k j) v = true) (hd : decode M.2.2.1 pc = .ok (.putfield i, 3))
    (hst : ∀ (H1 : Heap) (locs1 : List Loc), va_P D vwCl ((wl b 158 (En_r b cy I J)).set o (b + o, .inr (k, ((fls k o (I o) (J o)).map (tr b 0)).set j v))) H1 → va_S (fun q => b ≤ q) s.heap H1 locs1 → Rp_r D cy b I' J' s.heap H1 locs1)
    (kk : ∀ (H1 : Heap) (locs1 : List Loc), Rp_r D cy b I' J' s.heap H1 locs1 → W p l e R s m args below meth c H1 locs1 cells slots Q (F0 m (pc + 3) arr rest)) : W p l e R s m args below meth c H locs cells slots Q (F0 m pc arr (v :: .ref (b + o) :: rest)) := by
  obtain ⟨hx, hb, hml, hown, hr, hlk, hts, hK, -⟩ := C
  obtain ⟨hk8, hj, hdec⟩ := lfT_k _ hL
  dsimp only at hk8 hj hdec
  have hat := Rp_r.at (b := b) (cy := cy) (I := I) (J := J) hk (by omega) (en_obj_r hk hk8 (I o) (J o))
  have hlen : j < ((fls k o (I o) (J o)).map (tr b 0)).length := by rw [List.length_map, fls_len hk8]; exact hj
  rcases List.mem_append.mp hL with h | h
  · refine va_put (C := cC k) (T := cT k) (N := cN k) (ci := k) (own := cC M.1) (ref := cC k) hx hb hts (cT_in hk8) (cTy k) (cTy_ok hk8) (cT_nm hk8) hown hK.1 hR.1 (wl_D b 158 _) hR.2 o hat (cl_at hk8) j hj (hts _ (lfA_ok _ h)) (fun x hx => ?_) hf (cTy_ok hk8 j hj) hn hfit hlen hd (fun H1 locs1 h1 h2 h3 => kk H1 locs1 (hst H1 locs1 h1 h3))
    rw [← hdec]; exact hx
  · refine va_putN (C := cC k) (T := cT k) (N := cN k) (ci := k) (own := cC M.1) (ref := cC k) (host := "QuotaDesk") hx hb hts (cT_in hk8) (cTy k) (cTy_ok hk8) (cT_nm hk8) hown hK.1 hR.1 (wl_D b 158 _) hR.2 o hat (cl_at hk8) j hj (va_Nw.use rfl (hK.2.1 _ (lfB_ok _ h))) (fun x hx => ?_) hf (cTy_ok hk8 j hj) hn hfit hlen hd (fun H1 locs1 h1 h2 h3 => kk H1 locs1 (hst H1 locs1 h1 h3))
    rw [← hdec]; exact hx
theorem set_int_r {k j o : Nat} (hk : kd_r o = k) (hk8 : k < 8) (h : (k, j) ∈ ifT) (x : Int32) : en_r b cy o (upd (I o) j x) (J o) = .inr (k, ((fls k o (I o) (J o)).map (tr b 0)).set j (.int x)) := by
  rw [en_obj_r hk hk8, (fls_int h o (I o) (J o) x).1, List.map_set]
  rfl
theorem set_long_r {k j o : Nat} (hk : kd_r o = k) (hk8 : k < 8) (h : (k, j) ∈ jfT) (x : Int64) : en_r b cy o (I o) (vp_updL (J o) j x) = .inr (k, ((fls k o (I o) (J o)).map (tr b 0)).set j (.long x)) := by
  rw [en_obj_r hk hk8, (fls_long h o (I o) (J o) x).1, List.map_set]
  rfl
end R1
section R2
variable {p : Program} {l : Launch} {e : Env} {R : Room} {s : State} {m : MethodId} {args : Array Value} {below : List Frame} {meth : Method} {c : Code} {H : Heap} {locs : List Loc} {cells slots : Nat} {Q : State → Prop}
variable {D : va_G} {cy : Nat → ClassId} {b bs L : Nat} {xs : Nat → Int32} {M : MD} {I I' : T2} {J J' : T3} {arr : Array Slot} {pc pc' : Nat} {ls ls' : List (Option Value)} {st st' : List Value} {G : Prop}
/-- where the machine goes on -/
abbrev KK_r (p : Program) (l : Launch) (e : Env) (R : Room) (s : State) (m : MethodId) (args : Array Value) (below : List Frame) (meth : Method) (c : Code) (cells slots : Nat) (Q : State → Prop) (D : va_G) (cy : Nat → ClassId) (b bs : Nat) (nL : Nat) (pc' : Nat) (ls' : List (Option Value)) (st' : List Value) (I' : T2) (J' : T3) : Prop :=
  ∀ (H' : Heap) (locs' : List Loc) (arr' : Array Slot), Rp_r D cy b I' J' s.heap H' locs' → lvh arr' nL b bs ls' → W p l e R s m args below meth c H' locs' cells slots Q (F0 m pc' arr' (st'.map (tr b bs)))
set_option maxHeartbeats 4000000 in
set_option maxRecDepth 100000 in
theorem stp_ok_r {op : OP} (C : Cx l p s m args meth c D cy b bs L xs M) (hd : decode M.2.2.1 pc = .ok (op.1, op.2.1)) (ho : opOk M.1 op pc = true) (h : stp_r M.2.2.2.1 L xs op pc ls st I J = some (G, pc', ls', st', I', J')) (hG : G) (hR : Rp_r D cy b I J s.heap H locs) (hl : lvh arr M.2.2.2.1 b bs ls)
    (kk : KK_r p l e R s m args below meth c cells slots Q D cy b bs M.2.2.2.1 pc' ls' st' I' J') : W p l e R s m args below meth c H locs cells slots Q (F0 m pc arr (st.map (tr b bs))) := by
  obtain ⟨hx, hb, hml, hown, hr, hlk, hts, hK, hX, -⟩ := id C
  have hD := wl_D b 158 (En_r b cy I J)
  unfold stp_r at h
  split at h
  · cases h; exact lv_iconst hx hb hd (of_decide_eq_true ho) (kk H locs arr hR hl)
  · cases h; exact lv_bipush hx hb hd (of_decide_eq_true ho) (kk H locs arr hR hl)
  · cases h; exact lv_sipush hx hb hd (of_decide_eq_true ho) (kk H locs arr hR hl)
  · cases h; exact lv_ldc hx hb hown (hts _ (ldA_ok _ (of_decide_eq_true ho))) hd (kk H locs arr hR hl)
  · cases h; exact lv_lconst hx hb hd (of_decide_eq_true ho) (kk H locs arr hR hl)
  · cases h; exact lv_ldc2 hx hb hown (hts _ (ldB_ok _ (of_decide_eq_true ho))) hd (kk H locs arr hR hl)
  · obtain ⟨v, h1, h2, rfl, rfl, rfl, rfl, rfl⟩ := k_ld h
    obtain ⟨x, rfl⟩ := isI_x h2
    exact lv_iload_n hx hb hd rfl (hl.at h1) (kk H locs arr hR hl)
  · obtain ⟨v, h1, h2, rfl, rfl, rfl, rfl, rfl⟩ := k_ld h
    obtain ⟨x, rfl⟩ := isI_x h2
    exact lv_iload hx hb hd (hl.at h1) (kk H locs arr hR hl)
  · obtain ⟨v, h1, h2, rfl, rfl, rfl, rfl, rfl⟩ := k_ld h
    obtain ⟨x, rfl⟩ := isJ_x h2
    exact lv_lload_n hx hb hd rfl (hl.at h1) (kk H locs arr hR hl)
  · obtain ⟨v, h1, h2, rfl, rfl, rfl, rfl, rfl⟩ := k_ld h
    obtain ⟨x, rfl⟩ := isJ_x h2
    exact lv_lload hx hb hd (hl.at h1) (kk H locs arr hR hl)
  · obtain ⟨v, h1, h2, rfl, rfl, rfl, rfl, rfl⟩ := k_ld h
    obtain ⟨x, e⟩ := isA_x h2 b bs
    have h3 := hl.at h1
    have h4 := kk H locs arr hR hl
    rw [e] at h3
    rw [List.map_cons, e] at h4
    exact lv_aload_n hx hb hd rfl h3 h4
  · obtain ⟨v, h1, h2, rfl, rfl, rfl, rfl, rfl⟩ := k_ld h
    obtain ⟨x, e⟩ := isA_x h2 b bs
    have h3 := hl.at h1
    have h4 := kk H locs arr hR hl
    rw [e] at h3
    rw [List.map_cons, e] at h4
    exact lv_aload hx hb hd h3 h4
  · obtain ⟨x, r, rfl, h1, h2, rfl, rfl, rfl, rfl, rfl⟩ := k_is h
    exact lv_istore_n hx hb hd rfl hl.has h2 rfl (fun ls' h3 => kk H locs ls' hR (lvh.st1 h1 h3))
  · obtain ⟨x, r, rfl, h1, h2, rfl, rfl, rfl, rfl, rfl⟩ := k_is h
    exact lv_istore hx hb hd hl.has h2 rfl (fun ls' h3 => kk H locs ls' hR (lvh.st1 h1 h3))
  · obtain ⟨x, r, rfl, h1, h2, rfl, rfl, rfl, rfl, rfl⟩ := k_as h
    exact lv_astore_n hx hb hd rfl hl.has h2 rfl (fun ls' h3 => kk H locs ls' hR (lvh.st1 h1 h3))
  · obtain ⟨x, r, rfl, h1, h2, rfl, rfl, rfl, rfl, rfl⟩ := k_as h
    exact lv_astore hx hb hd hl.has h2 rfl (fun ls' h3 => kk H locs ls' hR (lvh.st1 h1 h3))
  · obtain ⟨x, r, rfl, h1, h2, rfl, rfl, rfl, rfl, rfl⟩ := k_ls h
    exact lv_lstore_n hx hb hd rfl hl.has h2 rfl (fun ls' h3 => kk H locs ls' hR (lvh.st2 h1 h3))
  · obtain ⟨x, r, rfl, h1, h2, rfl, rfl, rfl, rfl, rfl⟩ := k_ls h
    exact lv_lstore hx hb hd hl.has h2 rfl (fun ls' h3 => kk H locs ls' hR (lvh.st2 h1 h3))
  · split at h
    · rename_i h1
      split at h
      · rename_i hc
        rw [Bool.and_eq_true] at hc
        cases h
        obtain ⟨k, hk⟩ := List.getElem?_of_mem (asc_mem (b := b) (bs := bs) (q := (_, .int _)).mpr ⟨_, h1, rfl⟩)
        exact lv_iinc hx hb hd hl.has hk (by rw [of_decide_eq_true ho]) (of_decide_eq_true hc.2) rfl (fun ls' h3 => kk H locs ls' hR (lvh.st1 (v := .int _) hc.1 h3))
      · cases h
    · cases h
  · obtain ⟨x, y, r, rfl, rfl, rfl, rfl, rfl, rfl, rfl⟩ := k_bi h; exact lv_iadd hx hb hd (kk H locs arr hR hl)
  · obtain ⟨x, y, r, rfl, rfl, rfl, rfl, rfl, rfl, rfl⟩ := k_bi h; exact lv_isub hx hb hd (kk H locs arr hR hl)
  · obtain ⟨x, y, r, rfl, rfl, rfl, rfl, rfl, rfl, rfl⟩ := k_bi h; exact lv_imul hx hb hd (kk H locs arr hR hl)
  · obtain ⟨x, y, r, rfl, rfl, rfl, rfl, rfl, rfl, rfl⟩ := k_bi h; exact lv_iand hx hb hd (kk H locs arr hR hl)
  · obtain ⟨x, y, r, rfl, rfl, rfl, rfl, rfl, rfl, rfl⟩ := k_bi h; exact lv_ixor hx hb hd (kk H locs arr hR hl)
  · obtain ⟨x, y, r, rfl, rfl, rfl, rfl, rfl, rfl, rfl⟩ := k_bi h; exact lv_idiv hx hb hd hG (kk H locs arr hR hl)
  · obtain ⟨x, y, r, rfl, rfl, rfl, rfl, rfl, rfl, rfl⟩ := k_bi h; exact lv_irem hx hb hd hG (kk H locs arr hR hl)
  · obtain ⟨x, y, r, rfl, rfl, rfl, rfl, rfl, rfl, rfl⟩ := k_bl h; exact lv_ladd hx hb hd (kk H locs arr hR hl)
  · obtain ⟨x, y, r, rfl, rfl, rfl, rfl, rfl, rfl, rfl⟩ := k_bl h; exact lv_lsub hx hb hd (kk H locs arr hR hl)
  · obtain ⟨x, y, r, rfl, rfl, rfl, rfl, rfl, rfl, rfl⟩ := k_bl h; exact lv_lmul hx hb hd (kk H locs arr hR hl)
  · obtain ⟨x, y, r, rfl, rfl, rfl, rfl, rfl, rfl, rfl⟩ := k_bl h; exact lv_land hx hb hd (kk H locs arr hR hl)
  · obtain ⟨x, y, r, rfl, rfl, rfl, rfl, rfl, rfl, rfl⟩ := k_bl h; exact lv_ldiv hx hb hd hG (kk H locs arr hR hl)
  · obtain ⟨x, y, r, rfl, rfl, rfl, rfl, rfl, rfl, rfl⟩ := k_bl h; exact lv_lrem hx hb hd hG (kk H locs arr hR hl)
  · split at h
    · cases h; exact lv_ineg hx hb hd (kk H locs arr hR hl)
    · cases h
  · split at h
    · cases h; exact lv_i2l hx hb hd rfl (kk H locs arr hR hl)
    · cases h
  · split at h
    · cases h; exact lv_l2i hx hb hd rfl (kk H locs arr hR hl)
    · cases h
  · split at h
    · cases h; exact W.lcmp hx hb hd (kk H locs arr hR hl)
    · cases h
  · split at h
    · split at h
      · rename_i hc; cases h; exact lv_dup hx hb hd (by rw [tr_cat]; exact hc) (kk H locs arr hR hl)
      · cases h
    · cases h
  · split at h
    · split at h
      · rename_i hc; cases h; exact lv_dup2_11 hx hb hd (by rw [tr_cat]; exact hc.1) (by rw [tr_cat]; exact hc.2) (kk H locs arr hR hl)
      · cases h
    · cases h
  · split at h
    · split at h
      · rename_i hc; cases h; exact lv_pop hx hb hd (by rw [tr_cat]; exact hc) (kk H locs arr hR hl)
      · cases h
    · cases h
  · cases h; exact lv_goto hx hb hd (of_decide_eq_true ho) (kk H locs arr hR hl)
  · unfold s_get_r at h
    split at h
    · split at h
      · rename_i hv
        cases h
        exact r_get_r C hR (of_decide_eq_true ho) hG hv hd (kk H locs arr hR hl)
      · cases h
    · cases h
  · rename_i idx k j w
    have ho : ((decide ((M.1, idx, k, j) ∈ lfT) && ((cT k j).2.2.2 == false)) && (decide ((k, j) ∈ ifT) || decide ((k, j) ∈ jfT))) = true := ho
    rw [Bool.and_eq_true, Bool.and_eq_true, Bool.or_eq_true] at ho
    obtain ⟨⟨h1, h2⟩, h3⟩ := ho
    have h1 := of_decide_eq_true h1
    have h2 := eq_of_beq h2
    obtain ⟨hk8, hj, -⟩ := lfT_k _ h1
    unfold s_put_r at h
    split at h
    · rename_i hty
      cases h
      have h3 : (k, j) ∈ ifT := by
        rcases h3 with h3 | h3
        · exact of_decide_eq_true h3
        · have h4 := jfT_ty _ (of_decide_eq_true h3)
          rw [hty] at h4; cases h4
      exact r_put_r C hR h1 h2 hG (by rw [hty]; rfl) (by rw [hty]; rfl) hd (fun H1 locs1 q1 q2 => Rp_r.put2 (set_int_r hG hk8 h3 _) q1 q2) (fun H1 locs1 q => kk H1 locs1 arr q hl)
    · rename_i hty
      cases h
      have h3 : (k, j) ∈ ifT := by
        rcases h3 with h3 | h3
        · exact of_decide_eq_true h3
        · have h4 := jfT_ty _ (of_decide_eq_true h3)
          rw [hty] at h4; cases h4
      exact r_put_r C hR h1 h2 hG.1 (by rw [hty]; exact (nb_narrow hG.2).1) (by rw [hty]; exact (nb_narrow hG.2).2.1) hd (fun H1 locs1 q1 q2 => Rp_r.put2 (set_int_r hG.1 hk8 h3 _) q1 q2) (fun H1 locs1 q => kk H1 locs1 arr q hl)
    · rename_i hty
      cases h
      have h3 : (k, j) ∈ jfT := by
        rcases h3 with h3 | h3
        · have h4 := ifT_ty _ (of_decide_eq_true h3)
          dsimp only at h4
          rw [hty] at h4
          rcases h4 with h4 | h4 <;> cases h4
        · exact of_decide_eq_true h3
      exact r_put_r C hR h1 h2 hG (by rw [hty]; rfl) (by rw [hty]; rfl) hd (fun H1 locs1 q1 q2 => Rp_r.put3 (set_long_r hG hk8 h3 _) q1 q2) (fun H1 locs1 q => kk H1 locs1 arr q hl)
    · cases h
  · unfold s_iald_r at h
    split at h
    · cases h
      exact va_iald hx hb hK.1 hR.1 _ 0 (Rp_r.at hG.1 (by decide) (en_8_r hG.1 _ _)) rfl hG.2 hd (kk H locs arr hR hl)
    · cases h
      obtain ⟨h1, h2, h3⟩ := hX (by
        refine Nat.pos_of_ne_zero fun e => ?_
        subst e
        exact hG (Or.inr (Nat.zero_le _)))
      exact va_sld hx hb h1 h2 h3 hR.2 hG hd (kk H locs arr hR hl)
    · cases h
  · split at h
    · cases h
      exact va_iast hx hb hK.1 hR.1 hD hR.2 _ 0 (Rp_r.at hG.1 (by decide) (en_8_r hG.1 _ _)) rfl hG.2 hd (fun H1 locs1 q1 q2 q3 => kk H1 locs1 arr (Rp_r.put2 (en_8_r hG.1 _ _) q1 q3) hl)
    · cases h
  · split at h
    · cases h
      exact va_lald hx hb hK.1 hR.1 _ 1 (Rp_r.at hG.1 (by decide) (en_9_r hG.1 _ _)) rfl hG.2 hd (kk H locs arr hR hl)
    · cases h
  · split at h
    · cases h
      exact va_last hx hb hK.1 hR.1 hD hR.2 _ 1 (Rp_r.at hG.1 (by decide) (en_9_r hG.1 _ _)) rfl hG.2 hd (fun H1 locs1 q1 q2 q3 => kk H1 locs1 arr (Rp_r.put3 (en_9_r hG.1 _ _) q1 q3) hl)
    · cases h
  · split at h
    · cases h
      exact va_zald hx hb hK.1 hR.1 _ 2 (Rp_r.at hG.1 (by decide) (en_10_r hG.1 _ _)) rfl hG.2 hd (kk H locs arr hR hl)
    · cases h
  · split at h
    · cases h
      refine va_zast hx hb hK.1 hR.1 hD hR.2 _ 2 (Rp_r.at hG.1 (by decide) (en_10_r hG.1 _ _)) rfl hG.2.1 hd (fun H1 locs1 q1 q2 q3 => kk H1 locs1 arr (Rp_r.put2 (en_10_r hG.1 _ _) ?_ q3) hl)
      rw [(nb_narrow hG.2.2).2.2] at q1
      exact q1
    · cases h
  · split at h
    · split at h
      · cases h
        exact va_aldq hx hb hK.1 hR.1 _ 3 (Rp_r.at hG.1 (by decide) (en_11_r hG.1 _ _)) rfl hG.2 hd (kk H locs arr hR hl)
      · split at h
        · cases h
          exact r_aald12 hx hb hK.1 hR.1 (Rp_r.at hG.1 (by decide) (en_12_r hG.1 _ _)) hG.2 hd (kk H locs arr hR hl)
        · cases h
    · cases h
  · unfold s_alen_r at h
    split at h
    · cases h
      exact va_alen hx hb hK.1 hR.1 _ 0 (Rp_r.at hG (by decide) (en_8_r hG _ _)) rfl rfl hd (kk H locs arr hR hl)
    · cases h
      obtain ⟨h1, h2, h3⟩ := hX hG
      exact va_slen hx hb h1 h2 h3 hR.2 hd (kk H locs arr hR hl)
    · cases h
  · cases h
end R2
def rb_r (nL L : Nat) (xs : Nat → Int32) (ops : List OP) (a : AS) : Option (Prop × AS) := match ops with
  | [] => some (True, a)
  | op :: r => match stp_r nL L xs op a.1 a.2.1 a.2.2.1 a.2.2.2.1 a.2.2.2.2 with
    | some (G, a1) => match rb_r nL L xs r a1 with
      | some (G1, a2) => some (G ∧ G1, a2)
      | none => none
    | none => none
theorem stp_pc_r {nL L : Nat} {xs : Nat → Int32} {op : OP} {pc pc' : Nat} {ls ls' : List (Option Value)} {st st' : List Value} {I I' : T2} {J J' : T3} {G : Prop} (h : stp_r nL L xs op pc ls st I J = some (G, pc', ls', st', I', J')) : pc' = nxt op pc := by
  unfold stp_r at h
  split at h
  all_goals first
    | (cases h; done)
    | (cases h; rfl)
    | (obtain ⟨_, _, _, rfl, _⟩ := k_ld h; rfl)
    | (obtain ⟨_, _, _, _, _, rfl, _⟩ := k_is h; rfl)
    | (obtain ⟨_, _, _, _, _, rfl, _⟩ := k_as h; rfl)
    | (obtain ⟨_, _, _, _, _, rfl, _⟩ := k_ls h; rfl)
    | (obtain ⟨_, _, _, _, _, rfl, _⟩ := k_bi h; rfl)
    | (obtain ⟨_, _, _, _, _, rfl, _⟩ := k_bl h; rfl)
    | (unfold s_get_r at h; split at h <;> first | (cases h; done) | (split at h <;> first | (cases h; done) | (cases h; rfl)))
    | (unfold s_put_r at h; split at h <;> first | (cases h; done) | (cases h; rfl))
    | (unfold s_iald_r at h; split at h <;> first | (cases h; done) | (cases h; rfl))
    | (unfold s_alen_r at h; split at h <;> first | (cases h; done) | (cases h; rfl))
    | (split at h <;> first | (cases h; done) | (cases h; rfl) | (split at h <;> first | (cases h; done) | (cases h; rfl) | (split at h <;> first | (cases h; done) | (cases h; rfl))))
def RT_r (p : Program) (l : Launch) (e : Env) (R : Room) (s : State) (m : MethodId) (args : Array Value) (below : List Frame) (meth : Method) (c : Code) (Q : State → Prop) (D : va_G) (cy : Nat → ClassId) (b bs k0 w0 Z : Nat) (M : MD) (Φ : Out → T2 → T3 → Nat → Prop) : Prop :=
  ∀ (ins : Instr) (v : Option Value) (I' : T2) (J' : T3) (z' : Nat) (H' : Heap) (locs' : List Loc) (arr' : Array Slot) (pcr : Nat), Φ (.inl v) I' J' z' → z' ≤ Z → Rp_r D cy b I' J' s.heap H' locs' → decode M.2.2.1 pcr = .ok (ins, 1) → rtOk ins v M.2.2.2.2.1 → W p l e R s m args below meth c H' locs' (k0 + z') (w0 + 6 * z') Q (F0 m pcr arr' (v.toList.map (tr b bs)))
def TH_r (s : State) (args : Array Value) (below : List Frame) (Q : State → Prop) (D : va_G) (cy : Nat → ClassId) (b k0 w0 Z : Nat) (Φ : Out → T2 → T3 → Nat → Prop) : Prop :=
  (∀ E I' J' z', ¬ Φ (.inr E) I' J' z') ∨ ∃ (Qc : Array Value → State → Outcome → State → Prop) (XC : String → State → State → Prop), Q = vx_MQ below Qc XC args s Z (6 * Z) (fun q => b ≤ q) ∧ k0 = 0 ∧ w0 = 0 ∧ ∀ E I' J' z' t, Φ (.inr E) I' J' z' → va_P D vwCl (wl b 158 (En_r b cy I' J')) t.heap → va_F (fun q => b ≤ q) s t → XC E s t
/-- from this place of the method M on, in any machine, all goes well, and what comes out of it meets Φ -/
def Ev_r (d Z L : Nat) (xs : Nat → Int32) (M : MD) (pc : Nat) (ls : List (Option Value)) (st : List Value) (I : T2) (J : T3) (z : Nat) (Φ : Out → T2 → T3 → Nat → Prop) : Prop :=
  ∀ (l : Launch) (p : Program) (e : Env) (R : Room) (s : State) (m : MethodId) (args : Array Value) (below : List Frame) (meth : Method) (c : Code) (D : va_G) (cy : Nat → ClassId) (b bs k0 w0 : Nat) (Q : State → Prop), Cx l p s m args meth c D cy b bs L xs M → Rm R d k0 w0 Z → RT_r p l e R s m args below meth c Q D cy b bs k0 w0 Z M Φ → TH_r s args below Q D cy b k0 w0 Z Φ → KK_r p l e R s m args below meth c (k0 + z) (w0 + 6 * z) Q D cy b bs M.2.2.2.1 pc ls st I J
section E1
variable {d Z L : Nat} {xs : Nat → Int32} {M : MD} {pc pc' : Nat} {ls ls' : List (Option Value)} {st st' : List Value} {I I' : T2} {J J' : T3} {z : Nat} {Φ : Out → T2 → T3 → Nat → Prop} {G : Prop}
theorem Ev_r.blk {ops : List OP} (hc : chk M ops pc = true) (h : rb_r M.2.2.2.1 L xs ops (pc, ls, st, I, J) = some (G, pc', ls', st', I', J')) (hG : G) (k : Ev_r d Z L xs M pc' ls' st' I' J' z Φ) : Ev_r d Z L xs M pc ls st I J z Φ := by
  induction ops generalizing pc ls st I J G with
  | nil => cases h; exact k
  | cons op r ih =>
    unfold chk at hc
    rw [Bool.and_eq_true, Bool.and_eq_true] at hc
    obtain ⟨h1, h2, h3⟩ := hc
    unfold rb_r at h
    split at h
    · rename_i G0 a1 hs
      obtain ⟨pc1, ls1, st1, I1, J1⟩ := a1
      split at h
      · rename_i G1 a2 hr
        cases h
        have hp := stp_pc_r hs
        subst hp
        intro l p e R s m args below meth c D cy b bs k0 w0 Q C hRm hRT hTH H locs arr hR hl
        exact stp_ok_r C (of_decide_eq_true h1) h2 hs hG.1 hR hl (ih h3 hr hG.2 l p e R s m args below meth c D cy b bs k0 w0 Q C hRm hRT hTH)
      · cases h
    · cases h
theorem Ev_r.ic {o : ClassFile.Cond} {x y : Int32} {off : Int} (tgt : Nat) (hd : decode M.2.2.1 pc = .ok (.if_icmp o off, 3)) (ht : (pc : Int) + off = (tgt : Int)) (kt : cmpI o x y → Ev_r d Z L xs M tgt ls st I J z Φ) (kf : ¬ cmpI o x y → Ev_r d Z L xs M (pc + 3) ls st I J z Φ) : Ev_r d Z L xs M pc ls (.int y :: .int x :: st) I J z Φ := by
  intro l p e R s m args below meth c D cy b bs k0 w0 Q C hRm hRT hTH H locs arr hR hl
  have a := fun h => kt h l p e R s m args below meth c D cy b bs k0 w0 Q C hRm hRT hTH H locs arr hR hl
  have b' := fun h => kf h l p e R s m args below meth c D cy b bs k0 w0 Q C hRm hRT hTH H locs arr hR hl
  obtain ⟨hx, hb, -⟩ := C
  cases o
  · exact lv_icmp_eq hx hb hd ht a b'
  · exact lv_icmp_ne hx hb hd ht a (fun h => b' (fun q => q h))
  · exact lv_icmp_lt hx hb hd ht a b'
  · exact lv_icmp_ge hx hb hd ht a b'
  · exact lv_icmp_gt hx hb hd ht a b'
  · exact lv_icmp_le hx hb hd ht a b'
theorem Ev_r.i0 {o : ClassFile.Cond} {x : Int32} {off : Int} (tgt : Nat) (hd : decode M.2.2.1 pc = .ok (.ifCond o off, 3)) (ht : (pc : Int) + off = (tgt : Int)) (kt : cmp0 o x → Ev_r d Z L xs M tgt ls st I J z Φ) (kf : ¬ cmp0 o x → Ev_r d Z L xs M (pc + 3) ls st I J z Φ) : Ev_r d Z L xs M pc ls (.int x :: st) I J z Φ := by
  intro l p e R s m args below meth c D cy b bs k0 w0 Q C hRm hRT hTH H locs arr hR hl
  have a := fun h => kt h l p e R s m args below meth c D cy b bs k0 w0 Q C hRm hRT hTH H locs arr hR hl
  have b' := fun h => kf h l p e R s m args below meth c D cy b bs k0 w0 Q C hRm hRT hTH H locs arr hR hl
  obtain ⟨hx, hb, -⟩ := C
  cases o
  · exact lv_if_eq hx hb hd ht a b'
  · exact lv_if_ne hx hb hd ht a (fun h => b' (fun q => q h))
  · exact lv_if_lt hx hb hd ht a b'
  · exact lv_if_ge hx hb hd ht a b'
  · exact lv_if_gt hx hb hd ht a b'
  · exact lv_if_le hx hb hd ht a b'
theorem Ev_r.ret {ins : Instr} (v : Option Value) (hd : decode M.2.2.1 pc = .ok (ins, 1)) (ho : rtOk ins v M.2.2.2.2.1) (hz : z ≤ Z) (h : Φ (.inl v) I J z) (hst : st = v.toList) : Ev_r d Z L xs M pc ls st I J z Φ := by
  intro l p e R s m args below meth c D cy b bs k0 w0 Q C hRm hRT hTH H locs arr hR hl
  subst hst
  exact hRT ins v I J z H locs arr pc h hz hR hd ho
end E1
def Pcm_r (D : va_G) (cy : Nat → ClassId) (b : Nat) (As : List Value) (I : T2) (J : T3) : Array Value → State → Prop := fun a U => a = (As.map (tr b 0)).toArray ∧ KS D cy b U U.heap ∧ va_P D vwCl (wl b 158 (En_r b cy I J)) U.heap
def Qcm_r (D : va_G) (cy : Nat → ClassId) (b : Nat) (Ψ : Option Value → T2 → T3 → Prop) : Array Value → State → Outcome → State → Prop := fun _ st o t => (∃ (v : Option Value) (I' : T2) (J' : T3), o = .returned (v.map (tr b 0)) ∧ (∀ w, v = some w → notRA w = true) ∧ Ψ v I' J' ∧ va_P D vwCl (wl b 158 (En_r b cy I' J')) t.heap) ∧ va_F (fun q => b ≤ q) st t
/-- a method that returns: from the state (I, J) with the arguments As it comes back, and its answer and the state behind it meet Ψ -/
def Mt_r (d : Nat) (M : MD) (As : List Value) (I : T2) (J : T3) (Ψ : Option Value → T2 → T3 → Prop) : Prop :=
  ∀ (l : Launch) (D : va_G) (cy : Nat → ClassId) (b : Nat), l.stackTraces = false → Met l M.2.1 (wsM M) (rmD d 0) (Pcm_r D cy b As I J) (Qcm_r D cy b Ψ) 0 0 (fun q => b ≤ q)
set_option maxHeartbeats 2000000 in
theorem Mt_r.of {d : Nat} {M : MD} {As : List Value} {I : T2} {J : T3} {Ψ : Option Value → T2 → T3 → Prop} (hM : mOk M = true) (hlen : (lsA As).length ≤ M.2.2.2.1) (h : Ev_r d 0 0 (fun _ => 0) M 0 (lsE M.2.2.2.1 As) [] I J 0 (fun o I' J' _ => ∃ v, o = .inl v ∧ Ψ v I' J')) : Mt_r d M As I J Ψ := by
  intro l D cy b htr
  unfold mOk at hM
  rw [Bool.and_eq_true, Bool.and_eq_true] at hM
  obtain ⟨⟨hM1, hM2⟩, hM3⟩ := hM
  have hM2 := of_decide_eq_true hM2
  have hM3 := List.isEmpty_iff.mp hM3
  refine Met.ofWF (cc := M.2.2.1) (maxL := M.2.2.2.1) (ret := M.2.2.2.2.1) hM1 rfl ?_
  intro p e s m args below meth c s₁ B hml hv
  obtain ⟨rfl, hK, hP⟩ := hv
  have hts0 := atoms_spec (ws := wsM M) B.pre
  have hown : s.vm.findClass (cC M.1) = some m.cls := by rw [← hM2]; exact findClass_of_methodNamed B.named
  have hex : c.exceptionTable.toList = tableOf M.2.2.2.2.2 := by
    rw [hM3, Array.isEmpty_iff.mp (B.noHandlers (hts0 _ List.mem_cons_self))]
    rfl
  have C : Cx l p s m ((As.map (tr b 0)).toArray) meth c D cy b 0 0 (fun _ => 0) M := ⟨B.exec, B.bytes, hml, hown, B.returns, B.notSynchronized, wAll_hts hts0, hK, fun q => absurd q (Nat.lt_irrefl 0), htr, hex⟩
  rw [lg_entry_eq]
  refine h l p e _ s m _ below meth c D cy b 0 0 0 _ C ⟨Nat.le_refl _, Nat.le_refl _, Nat.le_refl _, Nat.le_refl _⟩ ?_ (Or.inl fun E I' J' z' q => by obtain ⟨v, q, -⟩ := q; cases q) s.heap [] _ ⟨hP, va_S.rf⟩ (lvh_entry hlen)
  intro ins v I' J' z' H' locs' arr' pcr hΦ hz hR hd ho
  obtain ⟨v', e1, hΨ⟩ := hΦ
  cases e1
  obtain rfl : z' = 0 := by omega
  exact rt_W B.exec B.bytes B.returns B.notSynchronized ho hd (fun t ht hW => ⟨⟨v, I', J', rfl, rt_notRA ho, hΨ, by rw [ht]; exact hR.1⟩, hR.2.F ht⟩) hR.2.2.2
/-- a method that throws a thing of the class E, and changes nothing -/
def XCm_r (D : va_G) (cy : Nat → ClassId) (b : Nat) (E : String) (I : T2) (J : T3) : String → State → State → Prop := fun E' st t => (E' = E ∧ va_P D vwCl (wl b 158 (En_r b cy I J)) t.heap) ∧ va_F (fun q => b ≤ q) st t
def Mth_r (d : Nat) (M : MD) (As : List Value) (I : T2) (J : T3) (E : String) : Prop :=
  ∀ (l : Launch) (D : va_G) (cy : Nat → ClassId) (b : Nat), l.stackTraces = false → vx_Met l M.2.1 (wsM M) (rmD d 1) (Pcm_r D cy b As I J) (Qcm_r D cy b (fun _ _ _ => False)) (XCm_r D cy b E I J) 1 6 (fun q => b ≤ q)
set_option maxHeartbeats 2000000 in
theorem Mth_r.of {d : Nat} {M : MD} {As : List Value} {I : T2} {J : T3} {E : String} (hM : mOkX M = true) (hlen : (lsA As).length ≤ M.2.2.2.1) (h : Ev_r d 1 0 (fun _ => 0) M 0 (lsE M.2.2.2.1 As) [] I J 0 (fun o I' J' _ => o = .inr E ∧ I' = I ∧ J' = J)) : Mth_r d M As I J E := by
  intro l D cy b htr
  unfold mOkX at hM
  rw [Bool.and_eq_true, Bool.and_eq_true] at hM
  obtain ⟨⟨hM1, hM2⟩, hM3⟩ := hM
  have hM2 := of_decide_eq_true hM2
  have hM3 := List.isEmpty_iff.mp hM3
  refine vx_ofW (cc := M.2.2.1) (maxL := M.2.2.2.1) (ret := M.2.2.2.2.1) hM1 rfl ?_
  intro p e s m args below meth c s₁ B hml hno hv
  obtain ⟨rfl, hK, hP⟩ := hv
  have hts0 := atoms_spec (ws := wsM M) B.pre
  have hown : s.vm.findClass (cC M.1) = some m.cls := by rw [← hM2]; exact findClass_of_methodNamed B.named
  have hex : c.exceptionTable.toList = tableOf M.2.2.2.2.2 := by
    rw [hM3, Array.isEmpty_iff.mp (B.noHandlers (hts0 _ List.mem_cons_self))]
    rfl
  have C : Cx l p s m ((As.map (tr b 0)).toArray) meth c D cy b 0 0 (fun _ => 0) M := ⟨B.exec, B.bytes, hml, hown, B.returns, B.notSynchronized, wAll_hts hts0, hK, fun q => absurd q (Nat.lt_irrefl 0), htr, hex⟩
  rw [lg_entry_eq]
  refine h l p e _ s m _ below meth c D cy b 0 0 0 _ C ⟨Nat.le_refl _, Nat.le_refl _, Nat.le_refl _, Nat.le_refl _⟩ ?_ (Or.inr ⟨_, _, rfl, rfl, rfl, fun E' I' J' z' t q h1 h2 => ?_⟩) s.heap [] _ ⟨hP, va_S.rf⟩ (lvh_entry hlen)
  · intro ins v I' J' z' H' locs' arr' pcr hΦ hz hR hd ho
    cases hΦ.1
  · obtain ⟨q1, rfl, rfl⟩ := q
    cases q1
    exact ⟨⟨rfl, h1⟩, h2⟩
theorem BX7_begin_0_r {d Z L : Nat} {xs : Nat → Int32} {z : Nat} {Φ : Out → T2 → T3 → Nat → Prop} {I : T2} {J : T3} {x1 : Int32} {x2 : Int32} {x3 : Int32} {x4 : Int32}  (g1 : ¬ x2.toInt64 = (0 : Int64))
    (k : Ev_r d Z L xs mX7_begin 58 [some (.ref 136), some (.int x1), some (.int x2), some (.int x3), some (.int x4), none] [.int ((up2 (up2 (up2 (up2 (up2 (up2 (up2 I 136 1 x1) 136 2 x2) 136 3 x3) 136 4 x4) 136 6 0) 136 7 0) 136 8 ((((up3 J 136 5 x3.toInt64) 136 5) / x2.toInt64).toInt32)) 136 8), .int 0, .ref 137] (up2 (up2 (up2 (up2 (up2 (up2 (up2 I 136 1 x1) 136 2 x2) 136 3 x3) 136 4 x4) 136 6 0) 136 7 0) 136 8 ((((up3 J 136 5 x3.toInt64) 136 5) / x2.toInt64).toInt32)) (up3 J 136 5 x3.toInt64) z Φ) : Ev_r d Z L xs mX7_begin 0 [some (.ref 136), some (.int x1), some (.int x2), some (.int x3), some (.int x4), none] [] I J z Φ := by
  refine Ev_r.blk (ops := [o0 (.aload_n 0) 1, o0 (.iload_n 1) 1, oK (.putfield 83) 3 7 1, o0 (.aload_n 0) 1, o0 (.iload_n 2) 1, oK (.putfield 86) 3 7 2, o0 (.aload_n 0) 1, o0 (.iload_n 3) 1, oK (.putfield 89) 3 7 3, o0 (.aload_n 0) 1, o0 (.iload 4) 2, oK (.putfield 92) 3 7 4, o0 (.aload_n 0) 1, o0 (.iload_n 3) 1, o0 (.i2l) 1, oK (.putfield 95) 3 7 5, o0 (.aload_n 0) 1, oI (.iconst 0) 1 0, oK (.putfield 99) 3 7 6, o0 (.aload_n 0) 1, oI (.iconst 0) 1 0, oK (.putfield 102) 3 7 7, o0 (.aload_n 0) 1, o0 (.aload_n 0) 1, oK (.getfield 95) 3 7 5, o0 (.iload_n 2) 1, o0 (.i2l) 1, o0 (.ldiv) 1, o0 (.l2i) 1, oK (.putfield 106) 3 7 8, o0 (.aload_n 0) 1, oK (.getfield 7) 3 7 9, oI (.iconst 0) 1 0, o0 (.aload_n 0) 1, oK (.getfield 106) 3 7 8]) (G := True ∧ True ∧ (kd_r 136 = 7) ∧ True ∧ True ∧ (kd_r 136 = 7) ∧ True ∧ True ∧ (kd_r 136 = 7) ∧ True ∧ True ∧ (kd_r 136 = 7) ∧ True ∧ True ∧ True ∧ (kd_r 136 = 7) ∧ True ∧ True ∧ (kd_r 136 = 7) ∧ True ∧ True ∧ (kd_r 136 = 7 ∧ (0 = (0 : Int32) ∨ 0 = (1 : Int32))) ∧ True ∧ True ∧ (kd_r 136 = 7) ∧ True ∧ True ∧ (¬ x2.toInt64 = (0 : Int64)) ∧ True ∧ (kd_r 136 = 7) ∧ True ∧ (kd_r 136 = 7) ∧ True ∧ True ∧ (kd_r 136 = 7) ∧ True) (by decide +kernel) ?_ ⟨trivial, trivial, (by decide), trivial, trivial, (by decide), trivial, trivial, (by decide), trivial, trivial, (by decide), trivial, trivial, trivial, (by decide), trivial, trivial, (by decide), trivial, trivial, ⟨(by decide), Or.inl rfl⟩, trivial, trivial, (by decide), trivial, trivial, g1, trivial, (by decide), trivial, (by decide), trivial, trivial, (by decide), trivial⟩ k
  rfl
theorem BX7_begin_65_r {d Z L : Nat} {xs : Nat → Int32} {z : Nat} {Φ : Out → T2 → T3 → Nat → Prop} {I : T2} {J : T3} {x1 : Int32} {x2 : Int32} {x3 : Int32} {x4 : Int32} {as0 : Nat} {xs1 : Int32}  
    (k : Ev_r d Z L xs mX7_begin 66 [some (.ref 136), some (.int x1), some (.int x2), some (.int x3), some (.int x4), none] [.int 0, .int xs1, .ref as0] I J z Φ) : Ev_r d Z L xs mX7_begin 65 [some (.ref 136), some (.int x1), some (.int x2), some (.int x3), some (.int x4), none] [.int xs1, .ref as0] I J z Φ := by
  refine Ev_r.blk (ops := [oI (.iconst 0) 1 0]) (G := True ∧ True) (by decide +kernel) ?_ ⟨trivial, trivial⟩ k
  rfl
theorem BX7_begin_66_r {d Z L : Nat} {xs : Nat → Int32} {z : Nat} {Φ : Out → T2 → T3 → Nat → Prop} {I : T2} {J : T3} {x1 : Int32} {x2 : Int32} {x3 : Int32} {x4 : Int32} {as0 : Nat} {xs1 : Int32} {xs2 : Int32} (hk_as0 : kd_r as0 = 8) (g1 : vp_in xs1 (ln_r as0)) (g2 : vp_in 1 3) (g3 : vp_in 2 3)
    (k : Ev_r d Z L xs mX7_begin 84 [some (.ref 136), some (.int x1), some (.int x2), some (.int x3), some (.int x4), some (.int 0)] [] (up2 (up2 (up2 I as0 xs1.toNatClampNeg xs2) 137 (1 : Int32).toNatClampNeg x1) 137 (2 : Int32).toNatClampNeg x1) J z Φ) : Ev_r d Z L xs mX7_begin 66 [some (.ref 136), some (.int x1), some (.int x2), some (.int x3), some (.int x4), none] [.int xs2, .int xs1, .ref as0] I J z Φ := by
  refine Ev_r.blk (ops := [o0 (.iastore) 1, o0 (.aload_n 0) 1, oK (.getfield 7) 3 7 9, oI (.iconst 1) 1 1, o0 (.iload_n 1) 1, o0 (.iastore) 1, o0 (.aload_n 0) 1, oK (.getfield 7) 3 7 9, oI (.iconst 2) 1 2, o0 (.iload_n 1) 1, o0 (.iastore) 1, oI (.iconst 0) 1 0, o0 (.istore 5) 2]) (G := (kd_r as0 = 8 ∧ vp_in xs1 (ln_r as0)) ∧ True ∧ (kd_r 136 = 7) ∧ True ∧ True ∧ (kd_r 137 = 8 ∧ vp_in 1 (ln_r 137)) ∧ True ∧ (kd_r 136 = 7) ∧ True ∧ True ∧ (kd_r 137 = 8 ∧ vp_in 2 (ln_r 137)) ∧ True ∧ True ∧ True) (by decide +kernel) ?_ ⟨⟨hk_as0, g1⟩, trivial, (by decide), trivial, trivial, ⟨(by decide), g2⟩, trivial, (by decide), trivial, trivial, ⟨(by decide), g3⟩, trivial, trivial, trivial⟩ k
  rfl
theorem BX7_begin_84_r {d Z L : Nat} {xs : Nat → Int32} {z : Nat} {Φ : Out → T2 → T3 → Nat → Prop} {I : T2} {J : T3} {x1 : Int32} {x2 : Int32} {x3 : Int32} {x4 : Int32} {x5 : Int32}  
    (k : Ev_r d Z L xs mX7_begin 88 [some (.ref 136), some (.int x1), some (.int x2), some (.int x3), some (.int x4), some (.int x5)] [.int 24, .int x5] I J z Φ) : Ev_r d Z L xs mX7_begin 84 [some (.ref 136), some (.int x1), some (.int x2), some (.int x3), some (.int x4), some (.int x5)] [] I J z Φ := by
  refine Ev_r.blk (ops := [o0 (.iload 5) 2, oI (.bipush 24) 2 24]) (G := True ∧ True ∧ True) (by decide +kernel) ?_ ⟨trivial, trivial, trivial⟩ k
  rfl
theorem BX7_begin_91_r {d Z L : Nat} {xs : Nat → Int32} {z : Nat} {Φ : Out → T2 → T3 → Nat → Prop} {I : T2} {J : T3} {x1 : Int32} {x2 : Int32} {x3 : Int32} {x4 : Int32} {x5 : Int32}  (g1 : vp_in x5 24)
    (k : Ev_r d Z L xs mX7_begin 84 [some (.ref 136), some (.int x1), some (.int x2), some (.int x3), some (.int x4), some (.int (x5 + 1))] [] (up2 (up2 (up2 (up2 (up2 I 138 x5.toNatClampNeg 0) 139 x5.toNatClampNeg 0) 144 x5.toNatClampNeg 0) 145 x5.toNatClampNeg 0) 146 x5.toNatClampNeg 0) J z Φ) : Ev_r d Z L xs mX7_begin 91 [some (.ref 136), some (.int x1), some (.int x2), some (.int x3), some (.int x4), some (.int x5)] [] I J z Φ := by
  refine Ev_r.blk (ops := [o0 (.aload_n 0) 1, oK (.getfield 13) 3 7 10, o0 (.iload 5) 2, oI (.iconst 0) 1 0, o0 (.iastore) 1, o0 (.aload_n 0) 1, oK (.getfield 16) 3 7 11, o0 (.iload 5) 2, oI (.iconst 0) 1 0, o0 (.iastore) 1, o0 (.aload_n 0) 1, oK (.getfield 33) 3 7 16, o0 (.iload 5) 2, oI (.iconst 0) 1 0, o0 (.iastore) 1, o0 (.aload_n 0) 1, oK (.getfield 36) 3 7 17, o0 (.iload 5) 2, oI (.iconst 0) 1 0, o0 (.iastore) 1, o0 (.aload_n 0) 1, oK (.getfield 39) 3 7 18, o0 (.iload 5) 2, oI (.iconst 0) 1 0, o0 (.iastore) 1, oI (.iinc 5 1) 3 1, oK (.goto (-50)) 3 84 0]) (G := True ∧ (kd_r 136 = 7) ∧ True ∧ True ∧ (kd_r 138 = 8 ∧ vp_in x5 (ln_r 138)) ∧ True ∧ (kd_r 136 = 7) ∧ True ∧ True ∧ (kd_r 139 = 8 ∧ vp_in x5 (ln_r 139)) ∧ True ∧ (kd_r 136 = 7) ∧ True ∧ True ∧ (kd_r 144 = 8 ∧ vp_in x5 (ln_r 144)) ∧ True ∧ (kd_r 136 = 7) ∧ True ∧ True ∧ (kd_r 145 = 8 ∧ vp_in x5 (ln_r 145)) ∧ True ∧ (kd_r 136 = 7) ∧ True ∧ True ∧ (kd_r 146 = 8 ∧ vp_in x5 (ln_r 146)) ∧ True ∧ True ∧ True) (by decide +kernel) ?_ ⟨trivial, (by decide), trivial, trivial, ⟨(by decide), g1⟩, trivial, (by decide), trivial, trivial, ⟨(by decide), g1⟩, trivial, (by decide), trivial, trivial, ⟨(by decide), g1⟩, trivial, (by decide), trivial, trivial, ⟨(by decide), g1⟩, trivial, (by decide), trivial, trivial, ⟨(by decide), g1⟩, trivial, trivial, trivial⟩ k
  rfl
theorem BX7_begin_137_r {d Z L : Nat} {xs : Nat → Int32} {z : Nat} {Φ : Out → T2 → T3 → Nat → Prop} {I : T2} {J : T3} {x1 : Int32} {x2 : Int32} {x3 : Int32} {x4 : Int32} {x5 : Int32}  
    (k : Ev_r d Z L xs mX7_begin 140 [some (.ref 136), some (.int x1), some (.int x2), some (.int x3), some (.int x4), some (.int 0)] [] I J z Φ) : Ev_r d Z L xs mX7_begin 137 [some (.ref 136), some (.int x1), some (.int x2), some (.int x3), some (.int x4), some (.int x5)] [] I J z Φ := by
  refine Ev_r.blk (ops := [oI (.iconst 0) 1 0, o0 (.istore 5) 2]) (G := True ∧ True ∧ True) (by decide +kernel) ?_ ⟨trivial, trivial, trivial⟩ k
  rfl
theorem BX7_begin_140_r {d Z L : Nat} {xs : Nat → Int32} {z : Nat} {Φ : Out → T2 → T3 → Nat → Prop} {I : T2} {J : T3} {x1 : Int32} {x2 : Int32} {x3 : Int32} {x4 : Int32} {x5 : Int32}  
    (k : Ev_r d Z L xs mX7_begin 144 [some (.ref 136), some (.int x1), some (.int x2), some (.int x3), some (.int x4), some (.int x5)] [.int 8, .int x5] I J z Φ) : Ev_r d Z L xs mX7_begin 140 [some (.ref 136), some (.int x1), some (.int x2), some (.int x3), some (.int x4), some (.int x5)] [] I J z Φ := by
  refine Ev_r.blk (ops := [o0 (.iload 5) 2, oI (.bipush 8) 2 8]) (G := True ∧ True ∧ True) (by decide +kernel) ?_ ⟨trivial, trivial, trivial⟩ k
  rfl
theorem BX7_begin_147_r {d Z L : Nat} {xs : Nat → Int32} {z : Nat} {Φ : Out → T2 → T3 → Nat → Prop} {I : T2} {J : T3} {x1 : Int32} {x2 : Int32} {x3 : Int32} {x4 : Int32} {x5 : Int32}  (g1 : vp_in x5 8)
    (k : Ev_r d Z L xs mX7_begin 140 [some (.ref 136), some (.int x1), some (.int x2), some (.int x3), some (.int x4), some (.int (x5 + 1))] [] (up2 (up2 (up2 I 140 x5.toNatClampNeg 0) 142 x5.toNatClampNeg ((up2 I 140 x5.toNatClampNeg 0) 136 8)) 143 x5.toNatClampNeg 0) (up3 J 141 x5.toNatClampNeg (J 136 5)) z Φ) : Ev_r d Z L xs mX7_begin 147 [some (.ref 136), some (.int x1), some (.int x2), some (.int x3), some (.int x4), some (.int x5)] [] I J z Φ := by
  refine Ev_r.blk (ops := [o0 (.aload_n 0) 1, oK (.getfield 19) 3 7 12, o0 (.iload 5) 2, oI (.iconst 0) 1 0, o0 (.iastore) 1, o0 (.aload_n 0) 1, oK (.getfield 22) 3 7 13, o0 (.iload 5) 2, o0 (.aload_n 0) 1, oK (.getfield 95) 3 7 5, o0 (.lastore) 1, o0 (.aload_n 0) 1, oK (.getfield 26) 3 7 14, o0 (.iload 5) 2, o0 (.aload_n 0) 1, oK (.getfield 106) 3 7 8, o0 (.iastore) 1, o0 (.aload_n 0) 1, oK (.getfield 29) 3 7 15, o0 (.iload 5) 2, oI (.iconst 0) 1 0, o0 (.bastore) 1, oI (.iinc 5 1) 3 1, oK (.goto (-48)) 3 140 0]) (G := True ∧ (kd_r 136 = 7) ∧ True ∧ True ∧ (kd_r 140 = 8 ∧ vp_in x5 (ln_r 140)) ∧ True ∧ (kd_r 136 = 7) ∧ True ∧ True ∧ (kd_r 136 = 7) ∧ (kd_r 141 = 9 ∧ vp_in x5 (ln_r 141)) ∧ True ∧ (kd_r 136 = 7) ∧ True ∧ True ∧ (kd_r 136 = 7) ∧ (kd_r 142 = 8 ∧ vp_in x5 (ln_r 142)) ∧ True ∧ (kd_r 136 = 7) ∧ True ∧ True ∧ (kd_r 143 = 10 ∧ vp_in x5 (ln_r 143) ∧ (0 = (0 : Int32) ∨ 0 = (1 : Int32))) ∧ True ∧ True ∧ True) (by decide +kernel) ?_ ⟨trivial, (by decide), trivial, trivial, ⟨(by decide), g1⟩, trivial, (by decide), trivial, trivial, (by decide), ⟨(by decide), g1⟩, trivial, (by decide), trivial, trivial, (by decide), ⟨(by decide), g1⟩, trivial, (by decide), trivial, trivial, ⟨(by decide), g1, Or.inl rfl⟩, trivial, trivial, trivial⟩ k
  rfl
theorem BX7_begin_191_r {d Z L : Nat} {xs : Nat → Int32} {z : Nat} {Φ : Out → T2 → T3 → Nat → Prop} {I : T2} {J : T3} {x1 : Int32} {x2 : Int32} {x3 : Int32} {x4 : Int32} {x5 : Int32}  
    (k : Ev_r d Z L xs mX7_begin 194 [some (.ref 136), some (.int x1), some (.int x2), some (.int x3), some (.int x4), some (.int 0)] [] I J z Φ) : Ev_r d Z L xs mX7_begin 191 [some (.ref 136), some (.int x1), some (.int x2), some (.int x3), some (.int x4), some (.int x5)] [] I J z Φ := by
  refine Ev_r.blk (ops := [oI (.iconst 0) 1 0, o0 (.istore 5) 2]) (G := True ∧ True ∧ True) (by decide +kernel) ?_ ⟨trivial, trivial, trivial⟩ k
  rfl
theorem BX7_begin_194_r {d Z L : Nat} {xs : Nat → Int32} {z : Nat} {Φ : Out → T2 → T3 → Nat → Prop} {I : T2} {J : T3} {x1 : Int32} {x2 : Int32} {x3 : Int32} {x4 : Int32} {x5 : Int32}  
    (k : Ev_r d Z L xs mX7_begin 198 [some (.ref 136), some (.int x1), some (.int x2), some (.int x3), some (.int x4), some (.int x5)] [.int 16, .int x5] I J z Φ) : Ev_r d Z L xs mX7_begin 194 [some (.ref 136), some (.int x1), some (.int x2), some (.int x3), some (.int x4), some (.int x5)] [] I J z Φ := by
  refine Ev_r.blk (ops := [o0 (.iload 5) 2, oI (.bipush 16) 2 16]) (G := True ∧ True ∧ True) (by decide +kernel) ?_ ⟨trivial, trivial, trivial⟩ k
  rfl
theorem BX7_begin_201_r {d Z L : Nat} {xs : Nat → Int32} {z : Nat} {Φ : Out → T2 → T3 → Nat → Prop} {I : T2} {J : T3} {x1 : Int32} {x2 : Int32} {x3 : Int32} {x4 : Int32} {x5 : Int32}  (g1 : vp_in x5 16)
    (k : Ev_r d Z L xs mX7_begin 194 [some (.ref 136), some (.int x1), some (.int x2), some (.int x3), some (.int x4), some (.int (x5 + 1))] [] (up2 (up2 (up2 I 148 x5.toNatClampNeg 0) 149 x5.toNatClampNeg 0) 150 x5.toNatClampNeg 0) J z Φ) : Ev_r d Z L xs mX7_begin 201 [some (.ref 136), some (.int x1), some (.int x2), some (.int x3), some (.int x4), some (.int x5)] [] I J z Φ := by
  refine Ev_r.blk (ops := [o0 (.aload_n 0) 1, oK (.getfield 45) 3 7 20, o0 (.iload 5) 2, oI (.iconst 0) 1 0, o0 (.iastore) 1, o0 (.aload_n 0) 1, oK (.getfield 48) 3 7 21, o0 (.iload 5) 2, oI (.iconst 0) 1 0, o0 (.iastore) 1, o0 (.aload_n 0) 1, oK (.getfield 51) 3 7 22, o0 (.iload 5) 2, oI (.iconst 0) 1 0, o0 (.iastore) 1, oI (.iinc 5 1) 3 1, oK (.goto (-34)) 3 194 0]) (G := True ∧ (kd_r 136 = 7) ∧ True ∧ True ∧ (kd_r 148 = 8 ∧ vp_in x5 (ln_r 148)) ∧ True ∧ (kd_r 136 = 7) ∧ True ∧ True ∧ (kd_r 149 = 8 ∧ vp_in x5 (ln_r 149)) ∧ True ∧ (kd_r 136 = 7) ∧ True ∧ True ∧ (kd_r 150 = 8 ∧ vp_in x5 (ln_r 150)) ∧ True ∧ True ∧ True) (by decide +kernel) ?_ ⟨trivial, (by decide), trivial, trivial, ⟨(by decide), g1⟩, trivial, (by decide), trivial, trivial, ⟨(by decide), g1⟩, trivial, (by decide), trivial, trivial, ⟨(by decide), g1⟩, trivial, trivial, trivial⟩ k
  rfl
theorem BX7_begin_231_r {d Z L : Nat} {xs : Nat → Int32} {z : Nat} {Φ : Out → T2 → T3 → Nat → Prop} {I : T2} {J : T3} {x1 : Int32} {x2 : Int32} {x3 : Int32} {x4 : Int32} {x5 : Int32}  
    (k : Ev_r d Z L xs mX7_begin 239 [some (.ref 136), some (.int x1), some (.int x2), some (.int x3), some (.int x4), some (.int 0)] [] (up2 I 136 24 0) J z Φ) : Ev_r d Z L xs mX7_begin 231 [some (.ref 136), some (.int x1), some (.int x2), some (.int x3), some (.int x4), some (.int x5)] [] I J z Φ := by
  refine Ev_r.blk (ops := [o0 (.aload_n 0) 1, oI (.iconst 0) 1 0, oK (.putfield 109) 3 7 24, oI (.iconst 0) 1 0, o0 (.istore 5) 2]) (G := True ∧ True ∧ (kd_r 136 = 7) ∧ True ∧ True ∧ True) (by decide +kernel) ?_ ⟨trivial, trivial, (by decide), trivial, trivial, trivial⟩ k
  rfl
theorem BX7_begin_239_r {d Z L : Nat} {xs : Nat → Int32} {z : Nat} {Φ : Out → T2 → T3 → Nat → Prop} {I : T2} {J : T3} {x1 : Int32} {x2 : Int32} {x3 : Int32} {x4 : Int32} {x5 : Int32}  
    (k : Ev_r d Z L xs mX7_begin 244 [some (.ref 136), some (.int x1), some (.int x2), some (.int x3), some (.int x4), some (.int x5)] [.int 200, .int x5] I J z Φ) : Ev_r d Z L xs mX7_begin 239 [some (.ref 136), some (.int x1), some (.int x2), some (.int x3), some (.int x4), some (.int x5)] [] I J z Φ := by
  refine Ev_r.blk (ops := [o0 (.iload 5) 2, oI (.sipush 200) 3 200]) (G := True ∧ True ∧ True) (by decide +kernel) ?_ ⟨trivial, trivial, trivial⟩ k
  rfl
theorem BX7_begin_247_r {d Z L : Nat} {xs : Nat → Int32} {z : Nat} {Φ : Out → T2 → T3 → Nat → Prop} {I : T2} {J : T3} {x1 : Int32} {x2 : Int32} {x3 : Int32} {x4 : Int32} {x5 : Int32}  (g1 : vp_in x5 200)
    (k : Ev_r d Z L xs mX7_begin 239 [some (.ref 136), some (.int x1), some (.int x2), some (.int x3), some (.int x4), some (.int (x5 + 1))] [] (up2 I 152 x5.toNatClampNeg 0) J z Φ) : Ev_r d Z L xs mX7_begin 247 [some (.ref 136), some (.int x1), some (.int x2), some (.int x3), some (.int x4), some (.int x5)] [] I J z Φ := by
  refine Ev_r.blk (ops := [o0 (.aload_n 0) 1, oK (.getfield 57) 3 7 25, o0 (.iload 5) 2, oI (.iconst 0) 1 0, o0 (.iastore) 1, oI (.iinc 5 1) 3 1, oK (.goto (-19)) 3 239 0]) (G := True ∧ (kd_r 136 = 7) ∧ True ∧ True ∧ (kd_r 152 = 8 ∧ vp_in x5 (ln_r 152)) ∧ True ∧ True ∧ True) (by decide +kernel) ?_ ⟨trivial, (by decide), trivial, trivial, ⟨(by decide), g1⟩, trivial, trivial, trivial⟩ k
  rfl
theorem BX7_begin_261_r {d Z L : Nat} {xs : Nat → Int32} {z : Nat} {Φ : Out → T2 → T3 → Nat → Prop} {I : T2} {J : T3} {x1 : Int32} {x2 : Int32} {x3 : Int32} {x4 : Int32} {x5 : Int32}  
    (k : Ev_r d Z L xs mX7_begin 266 [some (.ref 136), some (.int x1), some (.int x2), some (.int x3), some (.int x4), some (.int x5)] [] (up2 I 136 27 0) J z Φ) : Ev_r d Z L xs mX7_begin 261 [some (.ref 136), some (.int x1), some (.int x2), some (.int x3), some (.int x4), some (.int x5)] [] I J z Φ := by
  refine Ev_r.blk (ops := [o0 (.aload_n 0) 1, oI (.iconst 0) 1 0, oK (.putfield 112) 3 7 27]) (G := True ∧ True ∧ (kd_r 136 = 7) ∧ True) (by decide +kernel) ?_ ⟨trivial, trivial, (by decide), trivial⟩ k
  rfl
theorem IX7_begin_58_r {d Z L : Nat} {xs : Nat → Int32} {z : Nat} {Φ : Out → T2 → T3 → Nat → Prop} {I : T2} {J : T3} {ls : List (Option Value)} {x : Int32} {st : List Value} (kt : x ≤ 0 → Ev_r d Z L xs mX7_begin 65 ls st I J z Φ) (kf : ¬ (x ≤ 0) → Ev_r d Z L xs mX7_begin 61 ls st I J z Φ) : Ev_r d Z L xs mX7_begin 58 ls (.int x :: st) I J z Φ := Ev_r.i0 65 dX7_begin_58 rfl kt kf
theorem IX7_begin_88_r {d Z L : Nat} {xs : Nat → Int32} {z : Nat} {Φ : Out → T2 → T3 → Nat → Prop} {I : T2} {J : T3} {ls : List (Option Value)} {x y : Int32} {st : List Value} (kt : y ≤ x → Ev_r d Z L xs mX7_begin 137 ls st I J z Φ) (kf : ¬ (y ≤ x) → Ev_r d Z L xs mX7_begin 91 ls st I J z Φ) : Ev_r d Z L xs mX7_begin 88 ls (.int y :: .int x :: st) I J z Φ := Ev_r.ic 137 dX7_begin_88 rfl kt kf
theorem IX7_begin_144_r {d Z L : Nat} {xs : Nat → Int32} {z : Nat} {Φ : Out → T2 → T3 → Nat → Prop} {I : T2} {J : T3} {ls : List (Option Value)} {x y : Int32} {st : List Value} (kt : y ≤ x → Ev_r d Z L xs mX7_begin 191 ls st I J z Φ) (kf : ¬ (y ≤ x) → Ev_r d Z L xs mX7_begin 147 ls st I J z Φ) : Ev_r d Z L xs mX7_begin 144 ls (.int y :: .int x :: st) I J z Φ := Ev_r.ic 191 dX7_begin_144 rfl kt kf
theorem IX7_begin_198_r {d Z L : Nat} {xs : Nat → Int32} {z : Nat} {Φ : Out → T2 → T3 → Nat → Prop} {I : T2} {J : T3} {ls : List (Option Value)} {x y : Int32} {st : List Value} (kt : y ≤ x → Ev_r d Z L xs mX7_begin 231 ls st I J z Φ) (kf : ¬ (y ≤ x) → Ev_r d Z L xs mX7_begin 201 ls st I J z Φ) : Ev_r d Z L xs mX7_begin 198 ls (.int y :: .int x :: st) I J z Φ := Ev_r.ic 231 dX7_begin_198 rfl kt kf
theorem IX7_begin_244_r {d Z L : Nat} {xs : Nat → Int32} {z : Nat} {Φ : Out → T2 → T3 → Nat → Prop} {I : T2} {J : T3} {ls : List (Option Value)} {x y : Int32} {st : List Value} (kt : y ≤ x → Ev_r d Z L xs mX7_begin 261 ls st I J z Φ) (kf : ¬ (y ≤ x) → Ev_r d Z L xs mX7_begin 247 ls st I J z Φ) : Ev_r d Z L xs mX7_begin 244 ls (.int y :: .int x :: st) I J z Φ := Ev_r.ic 261 dX7_begin_244 rfl kt kf
theorem RX7_begin_266_r {d Z L : Nat} {xs : Nat → Int32} {z : Nat} {Φ : Out → T2 → T3 → Nat → Prop} {I : T2} {J : T3} {ls : List (Option Value)} (hz : z ≤ Z) (h : Φ (.inl none) I J z) : Ev_r d Z L xs mX7_begin 266 ls [] I J z Φ := Ev_r.ret none dX7_begin_266 rfl hz h rfl
section RF7
variable {d : Nat} {I : T2} {J : T3} {G x : Nat}
set_option maxHeartbeats 2000000 in
theorem sm_begin_r {l w e g : Int32} (hw : ¬ w.toInt64 = 0) (hz : (e.toInt64 / w.toInt64).toInt32 = 0) : Mt_r d mX7_begin [.ref 136, .int l, .int w, .int e, .int g] I J (bgM I J l w e g) := by
  refine Mt_r.of (by decide +kernel) (Nat.le_of_ble_eq_true rfl) ?_
  refine BX7_begin_0_r hw ?_
  have eJ : up3 J 136 5 e.toInt64 136 5 = e.toInt64 := by rw [up3_v, if_pos ⟨rfl, rfl⟩]
  rw [eJ, hz, up2_s]
  refine IX7_begin_58_r (fun _ => ?_) (fun z => absurd (by decide) z)
  refine BX7_begin_65_r ?_
  refine BX7_begin_66_r (by decide) (vp_in_nI (show 0 < 3 by decide) (by decide)) (vp_in_nI (show 1 < 3 by decide) (by decide)) (vp_in_nI (show 2 < 3 by decide) (by decide)) ?_
  rw [t6_0, t6_1, t6_2]
  show Ev_r d 0 0 (fun _ => 0) mX7_begin 84 [some (.ref 136), some (.int l), some (.int w), some (.int e), some (.int g), some (.int (nI 0))] [] (b0M I l w e g) (up3 J 136 5 e.toInt64) 0 _
  generalize hJ1 : up3 J 136 5 e.toInt64 = J1 at *
  generalize hB : b0M I l w e g = B
  -- the last loop
  have L4 : ∀ q k : Nat, k + q = 200 → ∀ (B3 I1 : T2) (J2 : T3), (∀ o i, J2 o i = if o = 141 ∧ i < 8 then e.toInt64 else J1 o i) → (∀ o i, B3 o i = if o = 136 ∧ i = 24 then 0 else if sC o = true ∧ i < 16 then 0 else if sB o = true ∧ i < 8 then 0 else if sA o = true ∧ i < 24 then 0 else B o i) → (∀ o i, I1 o i = czM B3 sD k o i) → Ev_r d 0 0 (fun _ => 0) mX7_begin 239 [some (.ref 136), some (.int l), some (.int w), some (.int e), some (.int g), some (.int (nI k))] [] I1 J2 0 (fun o I' J' _ => ∃ v, o = .inl v ∧ bgM I J l w e g v I' J') := by
    intro q
    induction q with
    | zero =>
      intro k hk B3 I1 J2 hJ hB3 h1
      refine BX7_begin_239_r ?_
      refine IX7_begin_244_r (fun _ => ?_) (fun z => absurd (show (200 : Int32) ≤ nI k from nI_le (a := 200) (by omega) (by omega)) z)
      refine BX7_begin_261_r ?_
      refine RX7_begin_266_r (Nat.zero_le _) ⟨_, rfl, rfl, fun o i => ?_, fun o i => by rw [hJ, hJ1]⟩
      rw [up2_v, h1, hB]
      unfold czM
      rw [hB3, show k = 200 by omega]
      by_cases c27 : o = 136 ∧ i = 27
      · rw [if_pos c27, if_pos (show o = 136 ∧ (i = 24 ∨ i = 27) from ⟨c27.1, Or.inr c27.2⟩)]
      · rw [if_neg c27]
        by_cases cD : sD o = true ∧ i < 200
        · have : o = 152 := (sD_i o).mp cD.1
          rw [if_pos cD, if_neg (show ¬ (o = 136 ∧ (i = 24 ∨ i = 27)) from fun z => by omega), if_pos cD]
        · rw [if_neg cD]
          by_cases c24 : o = 136 ∧ i = 24
          · rw [if_pos c24, if_pos (show o = 136 ∧ (i = 24 ∨ i = 27) from ⟨c24.1, Or.inl c24.2⟩)]
          · rw [if_neg c24, if_neg (show ¬ (o = 136 ∧ (i = 24 ∨ i = 27)) from fun z => z.2.elim (fun y => c24 ⟨z.1, y⟩) (fun y => c27 ⟨z.1, y⟩)), if_neg cD]
    | succ q ih =>
      intro k hk B3 I1 J2 hJ hB3 h1
      refine BX7_begin_239_r ?_
      refine IX7_begin_244_r (fun z => absurd z (show ¬ (200 : Int32) ≤ nI k from nI_ge (b := 200) (by omega) (by decide))) (fun _ => ?_)
      refine BX7_begin_247_r (vp_in_nI (by omega) (by decide)) ?_
      rw [nI_clamp (by omega), nI_1]
      refine ih (k + 1) (by omega) B3 _ J2 hJ hB3 (cz_s h1 (fun o i => ?_))
      rw [up2_v]
      by_cases c : o = 152 ∧ i = k
      · rw [if_pos c, if_pos ⟨(sD_i o).mpr c.1, c.2⟩]
      · rw [if_neg c, if_neg (fun z => c ⟨(sD_i o).mp z.1, z.2⟩)]
  have L3 : ∀ q k : Nat, k + q = 16 → ∀ (B2 I1 : T2) (J2 : T3), (∀ o i, J2 o i = if o = 141 ∧ i < 8 then e.toInt64 else J1 o i) → (∀ o i, B2 o i = if sB o = true ∧ i < 8 then 0 else if sA o = true ∧ i < 24 then 0 else B o i) → (∀ o i, I1 o i = czM B2 sC k o i) → Ev_r d 0 0 (fun _ => 0) mX7_begin 194 [some (.ref 136), some (.int l), some (.int w), some (.int e), some (.int g), some (.int (nI k))] [] I1 J2 0 (fun o I' J' _ => ∃ v, o = .inl v ∧ bgM I J l w e g v I' J') := by
    intro q
    induction q with
    | zero =>
      intro k hk B2 I1 J2 hJ hB2 h1
      refine BX7_begin_194_r ?_
      refine IX7_begin_198_r (fun _ => ?_) (fun z => absurd (show (16 : Int32) ≤ nI k from nI_le (a := 16) (by omega) (by omega)) z)
      refine BX7_begin_231_r ?_
      refine L4 200 0 rfl _ _ J2 hJ (fun o i => ?_) (fun o i => (cz_0 _ _ o i).symm)
      rw [up2_v, h1]
      unfold czM
      rw [hB2, show k = 16 by omega]
    | succ q ih =>
      intro k hk B2 I1 J2 hJ hB2 h1
      refine BX7_begin_194_r ?_
      refine IX7_begin_198_r (fun z => absurd z (show ¬ (16 : Int32) ≤ nI k from nI_ge (b := 16) (by omega) (by decide))) (fun _ => ?_)
      refine BX7_begin_201_r (vp_in_nI (by omega) (by decide)) ?_
      rw [nI_clamp (by omega), nI_1]
      refine ih (k + 1) (by omega) B2 _ J2 hJ hB2 (cz_s h1 (fun o i => ?_))
      rw [u3_z]
      by_cases c : (o = 148 ∨ o = 149 ∨ o = 150) ∧ i = k
      · rw [if_pos c, if_pos ⟨(sC_i o).mpr c.1, c.2⟩]
      · rw [if_neg c, if_neg (fun z => c ⟨(sC_i o).mp z.1, z.2⟩)]
  have L2 : ∀ q k : Nat, k + q = 8 → ∀ (B1 I1 : T2) (J2 : T3), (∀ o i, J2 o i = if o = 141 ∧ i < k then e.toInt64 else J1 o i) → (∀ o i, B1 o i = if sA o = true ∧ i < 24 then 0 else B o i) → (∀ o i, I1 o i = czM B1 sB k o i) → Ev_r d 0 0 (fun _ => 0) mX7_begin 140 [some (.ref 136), some (.int l), some (.int w), some (.int e), some (.int g), some (.int (nI k))] [] I1 J2 0 (fun o I' J' _ => ∃ v, o = .inl v ∧ bgM I J l w e g v I' J') := by
    intro q
    induction q with
    | zero =>
      intro k hk B1 I1 J2 hJ hB1 h1
      refine BX7_begin_140_r ?_
      refine IX7_begin_144_r (fun _ => ?_) (fun z => absurd (show (8 : Int32) ≤ nI k from nI_le (a := 8) (by omega) (by omega)) z)
      refine BX7_begin_191_r ?_
      have hk8 : k = 8 := by omega
      subst hk8
      refine L3 16 0 rfl I1 I1 J2 hJ (fun o i => ?_) (fun o i => (cz_0 _ _ o i).symm)
      rw [h1]
      unfold czM
      rw [hB1]
    | succ q ih =>
      intro k hk B1 I1 J2 hJ hB1 h1
      refine BX7_begin_140_r ?_
      refine IX7_begin_144_r (fun z => absurd z (show ¬ (8 : Int32) ≤ nI k from nI_ge (b := 8) (by omega) (by decide))) (fun _ => ?_)
      refine BX7_begin_147_r (vp_in_nI (by omega) (by decide)) ?_
      have e8 : up2 I1 140 k 0 136 8 = 0 := by
        rw [up2_o _ _ _ _ (by decide), h1]
        unfold czM
        rw [if_neg (fun z => absurd z.1 (by decide : ¬ sB 136 = true)), hB1, if_neg (fun z => absurd z.1 (by decide : ¬ sA 136 = true)), ← hB]
        unfold b0M
        rw [up2_o _ _ _ _ (by decide), up2_o _ _ _ _ (by decide), up2_o _ _ _ _ (by decide), up2_s]
      have eT : J2 136 5 = e.toInt64 := by rw [hJ, if_neg (fun z => absurd z.1 (by decide))]; exact eJ
      rw [nI_clamp (by omega), nI_1, e8, eT]
      refine ih (k + 1) (by omega) B1 _ _ (fun o i => ?_) hB1 (cz_s h1 (fun o i => ?_))
      · rw [up3_v, hJ]
        by_cases c : o = 141 ∧ i = k
        · rw [if_pos c, if_pos ⟨c.1, by omega⟩]
        · rw [if_neg c]
          by_cases c2 : o = 141 ∧ i < k
          · rw [if_pos c2, if_pos ⟨c2.1, by omega⟩]
          · rw [if_neg c2, if_neg (fun z => c2 ⟨z.1, by
              have := z.2
              by_cases c3 : i = k
              · exact absurd ⟨z.1, c3⟩ c
              · omega⟩)]
      · rw [u3_z]
        by_cases c : (o = 140 ∨ o = 142 ∨ o = 143) ∧ i = k
        · rw [if_pos c, if_pos ⟨(sB_i o).mpr c.1, c.2⟩]
        · rw [if_neg c, if_neg (fun z => c ⟨(sB_i o).mp z.1, z.2⟩)]
  have L1 : ∀ q k : Nat, k + q = 24 → ∀ (I1 : T2), (∀ o i, I1 o i = czM B sA k o i) → Ev_r d 0 0 (fun _ => 0) mX7_begin 84 [some (.ref 136), some (.int l), some (.int w), some (.int e), some (.int g), some (.int (nI k))] [] I1 J1 0 (fun o I' J' _ => ∃ v, o = .inl v ∧ bgM I J l w e g v I' J') := by
    intro q
    induction q with
    | zero =>
      intro k hk I1 h1
      refine BX7_begin_84_r ?_
      refine IX7_begin_88_r (fun _ => ?_) (fun z => absurd (show (24 : Int32) ≤ nI k from nI_le (a := 24) (by omega) (by omega)) z)
      refine BX7_begin_137_r ?_
      have hk8 : k = 24 := by omega
      subst hk8
      exact L2 8 0 rfl I1 I1 J1 (fun o i => by rw [if_neg (fun z => absurd z.2 (Nat.not_lt_zero _))]) h1 (fun o i => (cz_0 _ _ o i).symm)
    | succ q ih =>
      intro k hk I1 h1
      refine BX7_begin_84_r ?_
      refine IX7_begin_88_r (fun z => absurd z (show ¬ (24 : Int32) ≤ nI k from nI_ge (b := 24) (by omega) (by decide))) (fun _ => ?_)
      refine BX7_begin_91_r (vp_in_nI (by omega) (by decide)) ?_
      rw [nI_clamp (by omega), nI_1]
      refine ih (k + 1) (by omega) _ (cz_s h1 (fun o i => ?_))
      rw [u3_z, up2_v, up2_v]
      by_cases c : i = k
      · by_cases c1 : o = 144 ∨ o = 145 ∨ o = 146
        · rw [if_pos ⟨c1, c⟩, if_pos ⟨(sA_i o).mpr (by omega), c⟩]
        · rw [if_neg (fun z => c1 z.1)]
          by_cases c2 : o = 139
          · rw [if_pos ⟨c2, c⟩, if_pos ⟨(sA_i o).mpr (by omega), c⟩]
          · rw [if_neg (fun z => c2 z.1)]
            by_cases c3 : o = 138
            · rw [if_pos ⟨c3, c⟩, if_pos ⟨(sA_i o).mpr (by omega), c⟩]
            · rw [if_neg (fun z => c3 z.1), if_neg (fun z => by have := (sA_i o).mp z.1; omega)]
      · rw [if_neg (fun z => c z.2), if_neg (fun z => c z.2), if_neg (fun z => c z.2), if_neg (fun z => c z.2)]
  exact L1 24 0 rfl B (fun o i => (cz_0 _ _ o i).symm)
end RF7
