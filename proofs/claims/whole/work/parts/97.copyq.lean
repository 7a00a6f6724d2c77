/-! the layer for a world of 136 things -/
def kdL_q : List Nat := kdL.take 136
def lnL_q : List Nat := lnL.take 136
/-- the kind of the thing at place o: a class's number, or 8 int[], 9 long[], 10 boolean[], 11 Gate[], 12 int[][] -/
def kd_q (o : Nat) : Nat := kdL_q.getD o 99
def ln_q (o : Nat) : Nat := lnL_q.getD o 0
theorem kd_lt_q {o k : Nat} (h : kd_q o = k) (hk : k < 99) : o < 136 := by
  refine Nat.lt_of_not_le fun hn => ?_
  have h1 : kdL_q.length = 136 := by decide +kernel
  have h2 : kdL_q[o]? = none := List.getElem?_eq_none (by omega)
  unfold kd_q at h
  rw [List.getD_eq_getElem?_getD, h2] at h
  simp at h
  omega
def en_q (b : Nat) (cy : Nat → ClassId) (o : Nat) (r : Nat → Int32) (y : Nat → Int64) : va_E := match kd_q o with
  | 8 => .inl (cy 0, ln_q o, .inl r)
  | 9 => .inl (cy 1, ln_q o, .inr (.inl y))
  | 10 => .inl (cy 2, ln_q o, .inl r)
  | 11 => .inl (cy 3, ln_q o, .inr (.inr (.inr (.inr (fun k => some (b + (24 + 14 * k)))))))
  | 12 => .inl (cy 4, ln_q o, .inr (.inr (.inr (.inr (fun k => some (b + (o + 1 + k)))))))
  | k => .inr (k, (fls k o r y).map (tr b 0))
def En_q (b : Nat) (cy : Nat → ClassId) (I : T2) (J : T3) (o : Nat) : va_E := en_q b cy o (I o) (J o)
theorem En_up2_q {b : Nat} {cy : Nat → ClassId} {I : T2} {J : T3} {o j : Nat} {v : Int32} (a : Nat) : va_up (En_q b cy I J) o (en_q b cy o (upd (I o) j v) (J o)) a = En_q b cy (up2 I o j v) J a := by
  by_cases h : a = o
  · subst h
    rw [va_up_self]; unfold En_q; rw [up2_at]
  · rw [va_up_ne _ _ h]; unfold En_q; rw [up2_ne _ _ _ h]
theorem En_up3_q {b : Nat} {cy : Nat → ClassId} {I : T2} {J : T3} {o j : Nat} {v : Int64} (a : Nat) : va_up (En_q b cy I J) o (en_q b cy o (I o) (vp_updL (J o) j v)) a = En_q b cy I (up3 J o j v) a := by
  by_cases h : a = o
  · subst h
    rw [va_up_self]; unfold En_q; rw [up3_at]
  · rw [va_up_ne _ _ h]; unfold En_q; rw [up3_ne _ _ _ h]
/-- the heap holds the state (I, J); nothing below b has changed since H0 -/
def Rp_q (D : va_G) (cy : Nat → ClassId) (b : Nat) (I : T2) (J : T3) (H0 H : Heap) (locs : List Loc) : Prop :=
  va_P D vwCl (wl b 136 (En_q b cy I J)) H ∧ va_S (fun q => b ≤ q) H0 H locs
def s_put_q (k j : Nat) (pc : Nat) (ls : List (Option Value)) (st : List Value) (I : T2) (J : T3) : Option (Prop × AS) := match cTy k j, st with
  | .int, .int x :: .ref o :: r => some (kd_q o = k, pc + 3, ls, r, up2 I o j x, J)
  | .boolean, .int x :: .ref o :: r => some (kd_q o = k ∧ (x = 0 ∨ x = 1), pc + 3, ls, r, up2 I o j x, J)
  | .long, .long x :: .ref o :: r => some (kd_q o = k, pc + 3, ls, r, I, up3 J o j x)
  | _, _ => none
def s_get_q (k j : Nat) (pc : Nat) (ls : List (Option Value)) (st : List Value) (I : T2) (J : T3) : Option (Prop × AS) := match st with
  | .ref o :: r => match (fls k o (I o) (J o))[j]? with
    | some v => some (kd_q o = k, pc + 3, ls, v :: r, I, J)
    | none => none
  | _ => none
def s_iald_q (L : Nat) (xs : Nat → Int32) (pc : Nat) (ls : List (Option Value)) (st : List Value) (I : T2) (J : T3) : Option (Prop × AS) := match st with
  | .int i :: .ref o :: r => some (kd_q o = 8 ∧ vp_in i (ln_q o), pc + 1, ls, .int (I o i.toNatClampNeg) :: r, I, J)
  | .int i :: .retAddr _ :: r => some (vp_in i L, pc + 1, ls, .int (xs i.toNatClampNeg) :: r, I, J)
  | _ => none
def s_alen_q (L : Nat) (pc : Nat) (ls : List (Option Value)) (st : List Value) (I : T2) (J : T3) : Option (Prop × AS) := match st with
  | .ref o :: r => some (kd_q o = 8, pc + 1, ls, .int (nI (ln_q o)) :: r, I, J)
  | .retAddr _ :: r => some (0 < L, pc + 1, ls, .int (nI L) :: r, I, J)
  | _ => none
def stp_q (nL L : Nat) (xs : Nat → Int32) (op : OP) (pc : Nat) (ls : List (Option Value)) (st : List Value) (I : T2) (J : T3) : Option (Prop × AS) := match op with
  | (.iconst _, 1, _, _, v, _) => some (True, pc + 1, ls, .int v :: st, I, J)
  | (.bipush _, 2, _, _, v, _) => some (True, pc + 2, ls, .int v :: st, I, J)
  | (.sipush _, 3, _, _, v, _) => some (True, pc + 3, ls, .int v :: st, I, J)
  | (.ldc _, 2, _, _, v, _) => some (True, pc + 2, ls, .int v :: st, I, J)
  | (.lconst _, 1, _, _, _, w) => some (True, pc + 1, ls, .long w :: st, I, J)
  | (.ldc2_w _, 3, _, _, _, w) => some (True, pc + 3, ls, .long w :: st, I, J)
  | (.iload_n k, 1, _) => s_ld isI k 1 pc ls st I J
  | (.iload i, 2, _) => s_ld isI i 2 pc ls st I J
  | (.lload_n k, 1, _) => s_ld isJ k 1 pc ls st I J
  | (.lload i, 2, _) => s_ld isJ i 2 pc ls st I J
  | (.aload_n k, 1, _) => s_ld isA k 1 pc ls st I J
  | (.aload i, 2, _) => s_ld isA i 2 pc ls st I J
  | (.istore_n k, 1, _) => s_is k 1 nL pc ls st I J
  | (.istore i, 2, _) => s_is i 2 nL pc ls st I J
  | (.astore_n k, 1, _) => s_as k 1 nL pc ls st I J
  | (.astore i, 2, _) => s_as i 2 nL pc ls st I J
  | (.lstore_n k, 1, _) => s_ls k 1 nL pc ls st I J
  | (.lstore i, 2, _) => s_ls i 2 nL pc ls st I J
  | (.iinc i _, 3, _, _, v, _) => match ls[i]? with
    | some (some (.int x)) => if okst ls i && decide (i < nL) then some (True, pc + 3, ls.set i (some (.int (x + v))), st, I, J) else none
    | _ => none
  | (.iadd, 1, _) => s_bi (· + ·) (fun _ => True) pc ls st I J
  | (.isub, 1, _) => s_bi (· - ·) (fun _ => True) pc ls st I J
  | (.imul, 1, _) => s_bi (· * ·) (fun _ => True) pc ls st I J
  | (.iand, 1, _) => s_bi (· &&& ·) (fun _ => True) pc ls st I J
  | (.ixor, 1, _) => s_bi (· ^^^ ·) (fun _ => True) pc ls st I J
  | (.idiv, 1, _) => s_bi (· / ·) (fun y => ¬ y = 0) pc ls st I J
  | (.irem, 1, _) => s_bi (fun x y => x - x / y * y) (fun y => ¬ y = 0) pc ls st I J
  | (.ladd, 1, _) => s_bl (· + ·) (fun _ => True) pc ls st I J
  | (.lsub, 1, _) => s_bl (· - ·) (fun _ => True) pc ls st I J
  | (.lmul, 1, _) => s_bl (· * ·) (fun _ => True) pc ls st I J
  | (.land, 1, _) => s_bl (· &&& ·) (fun _ => True) pc ls st I J
  | (.ldiv, 1, _) => s_bl (· / ·) (fun y => ¬ y = 0) pc ls st I J
  | (.lrem, 1, _) => s_bl (fun x y => x - x / y * y) (fun y => ¬ y = 0) pc ls st I J
  | (.ineg, 1, _) => match st with
    | .int x :: r => some (True, pc + 1, ls, .int (-x) :: r, I, J)
    | _ => none
  | (.i2l, 1, _) => match st with
    | .int x :: r => some (True, pc + 1, ls, .long x.toInt64 :: r, I, J)
    | _ => none
  | (.l2i, 1, _) => match st with
    | .long x :: r => some (True, pc + 1, ls, .int x.toInt32 :: r, I, J)
    | _ => none
  | (.lcmp, 1, _) => match st with
    | .long y :: .long x :: r => some (True, pc + 1, ls, .int (lg_cmp x y) :: r, I, J)
    | _ => none
  | (.dup, 1, _) => match st with
    | v :: r => if v.category = 1 then some (True, pc + 1, ls, v :: v :: r, I, J) else none
    | _ => none
  | (.dup2, 1, _) => match st with
    | v :: w :: r => if v.category = 1 ∧ w.category = 1 then some (True, pc + 1, ls, v :: w :: v :: w :: r, I, J) else none
    | _ => none
  | (.pop, 1, _) => match st with
    | v :: r => if v.category = 1 then some (True, pc + 1, ls, r, I, J) else none
    | _ => none
  | (.goto _, 3, k, _) => some (True, k, ls, st, I, J)
  | (.getfield _, 3, k, j, _) => s_get_q k j pc ls st I J
  | (.putfield _, 3, k, j, _) => s_put_q k j pc ls st I J
  | (.iaload, 1, _) => s_iald_q L xs pc ls st I J
  | (.iastore, 1, _) => match st with
    | .int x :: .int i :: .ref o :: r => some (kd_q o = 8 ∧ vp_in i (ln_q o), pc + 1, ls, r, up2 I o i.toNatClampNeg x, J)
    | _ => none
  | (.laload, 1, _) => match st with
    | .int i :: .ref o :: r => some (kd_q o = 9 ∧ vp_in i (ln_q o), pc + 1, ls, .long (J o i.toNatClampNeg) :: r, I, J)
    | _ => none
  | (.lastore, 1, _) => match st with
    | .long x :: .int i :: .ref o :: r => some (kd_q o = 9 ∧ vp_in i (ln_q o), pc + 1, ls, r, I, up3 J o i.toNatClampNeg x)
    | _ => none
  | (.baload, 1, _) => match st with
    | .int i :: .ref o :: r => some (kd_q o = 10 ∧ vp_in i (ln_q o), pc + 1, ls, .int (I o i.toNatClampNeg) :: r, I, J)
    | _ => none
  | (.bastore, 1, _) => match st with
    | .int x :: .int i :: .ref o :: r => some (kd_q o = 10 ∧ vp_in i (ln_q o) ∧ (x = 0 ∨ x = 1), pc + 1, ls, r, up2 I o i.toNatClampNeg x, J)
    | _ => none
  | (.aaload, 1, k, _) => match st with
    | .int i :: .ref o :: r => if k = 11 then some (kd_q o = 11 ∧ vp_in i (ln_q o), pc + 1, ls, .ref (24 + 14 * i.toNatClampNeg) :: r, I, J)
      else if k = 12 then some (kd_q o = 12 ∧ vp_in i (ln_q o), pc + 1, ls, .ref (o + 1 + i.toNatClampNeg) :: r, I, J) else none
    | _ => none
  | (.arraylength, 1, _) => s_alen_q L pc ls st I J
  | _ => none
theorem en_obj_q {b : Nat} {cy : Nat → ClassId} {o k : Nat} (h : kd_q o = k) (hk : k < 8) (r : Nat → Int32) (y : Nat → Int64) : en_q b cy o r y = .inr (k, (fls k o r y).map (tr b 0)) := by
  unfold en_q
  rw [h]
  rcases (show k = 0 ∨ k = 1 ∨ k = 2 ∨ k = 3 ∨ k = 4 ∨ k = 5 ∨ k = 6 ∨ k = 7 by omega) with rfl | rfl | rfl | rfl | rfl | rfl | rfl | rfl <;> rfl
theorem en_8_q {b : Nat} {cy : Nat → ClassId} {o : Nat} (h : kd_q o = 8) (r : Nat → Int32) (y : Nat → Int64) : en_q b cy o r y = .inl (cy 0, ln_q o, .inl r) := by
  unfold en_q
  rw [h]
  rfl
theorem en_9_q {b : Nat} {cy : Nat → ClassId} {o : Nat} (h : kd_q o = 9) (r : Nat → Int32) (y : Nat → Int64) : en_q b cy o r y = .inl (cy 1, ln_q o, .inr (.inl y)) := by
  unfold en_q
  rw [h]
  rfl
theorem en_10_q {b : Nat} {cy : Nat → ClassId} {o : Nat} (h : kd_q o = 10) (r : Nat → Int32) (y : Nat → Int64) : en_q b cy o r y = .inl (cy 2, ln_q o, .inl r) := by
  unfold en_q
  rw [h]
  rfl
theorem en_11_q {b : Nat} {cy : Nat → ClassId} {o : Nat} (h : kd_q o = 11) (r : Nat → Int32) (y : Nat → Int64) : en_q b cy o r y = .inl (cy 3, ln_q o, .inr (.inr (.inr (.inr (fun k => some (b + (24 + 14 * k))))))) := by
  unfold en_q
  rw [h]
  rfl
theorem en_12_q {b : Nat} {cy : Nat → ClassId} {o : Nat} (h : kd_q o = 12) (r : Nat → Int32) (y : Nat → Int64) : en_q b cy o r y = .inl (cy 4, ln_q o, .inr (.inr (.inr (.inr (fun k => some (b + (o + 1 + k))))))) := by
  unfold en_q
  rw [h]
  rfl
section R1
variable {p : Program} {l : Launch} {e : Env} {R : Room} {s : State} {m : MethodId} {args : Array Value} {below : List Frame} {meth : Method} {c : Code} {H : Heap} {locs : List Loc} {cells slots : Nat} {Q : State → Prop}
variable {D : va_G} {cy : Nat → ClassId} {b bs L : Nat} {xs : Nat → Int32} {M : MD} {I : T2} {J : T3} {arr : Array Slot} {pc : Nat}
theorem Rp_q.put2 {o j : Nat} {x : Int32} {e0 : va_E} {H1 : Heap} {locs1 : List Loc} (he : en_q b cy o (upd (I o) j x) (J o) = e0) (h1 : va_P D vwCl ((wl b 136 (En_q b cy I J)).set o (b + o, e0)) H1) (h2 : va_S (fun q => b ≤ q) s.heap H1 locs1) : Rp_q D cy b (up2 I o j x) J s.heap H1 locs1 := by
  refine ⟨?_, h2⟩
  rw [wl_set, ← he, wl_congr (fun a _ => En_up2_q a)] at h1
  exact h1
theorem Rp_q.put3 {o j : Nat} {x : Int64} {e0 : va_E} {H1 : Heap} {locs1 : List Loc} (he : en_q b cy o (I o) (vp_updL (J o) j x) = e0) (h1 : va_P D vwCl ((wl b 136 (En_q b cy I J)).set o (b + o, e0)) H1) (h2 : va_S (fun q => b ≤ q) s.heap H1 locs1) : Rp_q D cy b I (up3 J o j x) s.heap H1 locs1 := by
  refine ⟨?_, h2⟩
  rw [wl_set, ← he, wl_congr (fun a _ => En_up3_q a)] at h1
  exact h1
theorem Rp_q.at {o k : Nat} {e0 : va_E} (hk : kd_q o = k) (hk9 : k < 99) (he : en_q b cy o (I o) (J o) = e0) : (wl b 136 (En_q b cy I J))[o]? = some (b + o, e0) := by
  rw [wl_get (kd_lt_q hk hk9)]
  show some (b + o, en_q b cy o (I o) (J o)) = _
  rw [he]
theorem r_get_q {i k j : Nat} {o : Nat} {v : Value} {rest : List Value} (C : Cx l p s m args meth c D cy b bs L xs M) (hR : Rp_q D cy b I J s.heap H locs) (hL : (M.1, i, k, j) ∈ lfT) (hk : kd_q o = k) (hv : (fls k o (I o) (J o))[j]? = some v) (hd : decode M.2.2.1 pc = .ok (.getfield i, 3))
    (kk : W p l e R s m args below meth c H locs cells slots Q (F0 m (pc + 3) arr (tr b bs v :: rest))) : W p l e R s m args below meth c H locs cells slots Q (F0 m pc arr (.ref (b + o) :: rest)) := by
  obtain ⟨hx, hb, hml, hown, hr, hlk, hts, hK, -⟩ := C
  obtain ⟨hk8, hj, hdec⟩ := lfT_k _ hL
  dsimp only at hk8 hj hdec
  have hat := Rp_q.at (b := b) (cy := cy) (I := I) (J := J) hk (by omega) (en_obj_q hk hk8 (I o) (J o))
  have hv' : ((fls k o (I o) (J o)).map (tr b 0))[j]? = some (tr b bs v) := by
    rw [List.getElem?_map, hv]
    show some (tr b 0 v) = _
    rw [fls_tr hv b 0 bs]
  rcases List.mem_append.mp hL with h | h
  · refine va_get (C := cC k) (T := cT k) (N := cN k) (ci := k) (own := cC M.1) (ref := cC k) hx hb hts (cT_in hk8) hown hK.1 hR.1 o hat (cl_at hk8) j hj (hts _ (lfA_ok _ h)) (fun x hx => ?_) hv' hd kk
    rw [← hdec]; exact hx
  · refine va_getN (C := cC k) (T := cT k) (N := cN k) (ci := k) (own := cC M.1) (ref := cC k) (host := "QuotaDesk") hx hb hts (cT_in hk8) hown hK.1 hR.1 o hat (cl_at hk8) j hj (va_Nw.use rfl (hK.2.1 _ (lfB_ok _ h))) (fun x hx => ?_) hv' hd kk
    rw [← hdec]; exact hx
theorem r_put_q {i k j : Nat} {o : Nat} {v : Value} {rest : List Value} {I' : T2} {J' : T3} (C : Cx l p s m args meth c D cy b bs L xs M) (hR : Rp_q D cy b I J s.heap H locs) (hL : (M.1, i, k, j) ∈ lfT) (hf : (cT k j).2.2.2 = false) (hk : kd_q o = k) (hn : narrow (cTy k j) v = v) (hfit : fits (cTy k j) v = true) (hd : decode M.2.2.1 pc = .ok (.putfield i, 3))
    (hst : ∀ (H1 : Heap) (locs1 : List Loc), va_P D vwCl ((wl b 136 (En_q b cy I J)).set o (b + o, .inr (k, ((fls k o (I o) (J o)).map (tr b 0)).set j v))) H1 → va_S (fun q => b ≤ q) s.heap H1 locs1 → Rp_q D cy b I' J' s.heap H1 locs1)
    (kk : ∀ (H1 : Heap) (locs1 : List Loc), Rp_q D cy b I' J' s.heap H1 locs1 → W p l e R s m args below meth c H1 locs1 cells slots Q (F0 m (pc + 3) arr rest)) : W p l e R s m args below meth c H locs cells slots Q (F0 m pc arr (v :: .ref (b + o) :: rest)) := by
  obtain ⟨hx, hb, hml, hown, hr, hlk, hts, hK, -⟩ := C
  obtain ⟨hk8, hj, hdec⟩ := lfT_k _ hL
  dsimp only at hk8 hj hdec
  have hat := Rp_q.at (b := b) (cy := cy) (I := I) (J := J) hk (by omega) (en_obj_q hk hk8 (I o) (J o))
  have hlen : j < ((fls k o (I o) (J o)).map (tr b 0)).length := by rw [List.length_map, fls_len hk8]; exact hj
  rcases List.mem_append.mp hL with h | h
  · refine va_put (C := cC k) (T := cT k) (N := cN k) (ci := k) (own := cC M.1) (ref := cC k) hx hb hts (cT_in hk8) (cTy k) (cTy_ok hk8) (cT_nm hk8) hown hK.1 hR.1 (wl_D b 136 _) hR.2 o hat (cl_at hk8) j hj (hts _ (lfA_ok _ h)) (fun x hx => ?_) hf (cTy_ok hk8 j hj) hn hfit hlen hd (fun H1 locs1 h1 h2 h3 => kk H1 locs1 (hst H1 locs1 h1 h3))
    rw [← hdec]; exact hx
  · refine va_putN (C := cC k) (T := cT k) (N := cN k) (ci := k) (own := cC M.1) (ref := cC k) (host := "QuotaDesk") hx hb hts (cT_in hk8) (cTy k) (cTy_ok hk8) (cT_nm hk8) hown hK.1 hR.1 (wl_D b 136 _) hR.2 o hat (cl_at hk8) j hj (va_Nw.use rfl (hK.2.1 _ (lfB_ok _ h))) (fun x hx => ?_) hf (cTy_ok hk8 j hj) hn hfit hlen hd (fun H1 locs1 h1 h2 h3 => kk H1 locs1 (hst H1 locs1 h1 h3))
    rw [← hdec]; exact hx
theorem set_int_q {k j o : Nat} (hk : kd_q o = k) (hk8 : k < 8) (h : (k, j) ∈ ifT) (x : Int32) : en_q b cy o (upd (I o) j x) (J o) = .inr (k, ((fls k o (I o) (J o)).map (tr b 0)).set j (.int x)) := by
  rw [en_obj_q hk hk8, (fls_int h o (I o) (J o) x).1, List.map_set]
  rfl
theorem set_long_q {k j o : Nat} (hk : kd_q o = k) (hk8 : k < 8) (h : (k, j) ∈ jfT) (x : Int64) : en_q b cy o (I o) (vp_updL (J o) j x) = .inr (k, ((fls k o (I o) (J o)).map (tr b 0)).set j (.long x)) := by
  rw [en_obj_q hk hk8, (fls_long h o (I o) (J o) x).1, List.map_set]
  rfl
end R1
section R2
variable {p : Program} {l : Launch} {e : Env} {R : Room} {s : State} {m : MethodId} {args : Array Value} {below : List Frame} {meth : Method} {c : Code} {H : Heap} {locs : List Loc} {cells slots : Nat} {Q : State → Prop}
variable {D : va_G} {cy : Nat → ClassId} {b bs L : Nat} {xs : Nat → Int32} {M : MD} {I I' : T2} {J J' : T3} {arr : Array Slot} {pc pc' : Nat} {ls ls' : List (Option Value)} {st st' : List Value} {G : Prop}
/-- where the machine goes on -/
abbrev KK_q (p : Program) (l : Launch) (e : Env) (R : Room) (s : State) (m : MethodId) (args : Array Value) (below : List Frame) (meth : Method) (c : Code) (cells slots : Nat) (Q : State → Prop) (D : va_G) (cy : Nat → ClassId) (b bs : Nat) (nL : Nat) (pc' : Nat) (ls' : List (Option Value)) (st' : List Value) (I' : T2) (J' : T3) : Prop :=
  ∀ (H' : Heap) (locs' : List Loc) (arr' : Array Slot), Rp_q D cy b I' J' s.heap H' locs' → lvh arr' nL b bs ls' → W p l e R s m args below meth c H' locs' cells slots Q (F0 m pc' arr' (st'.map (tr b bs)))
set_option maxHeartbeats 4000000 in
set_option maxRecDepth 100000 in
theorem stp_ok_q {op : OP} (C : Cx l p s m args meth c D cy b bs L xs M) (hd : decode M.2.2.1 pc = .ok (op.1, op.2.1)) (ho : opOk M.1 op pc = true) (h : stp_q M.2.2.2.1 L xs op pc ls st I J = some (G, pc', ls', st', I', J')) (hG : G) (hR : Rp_q D cy b I J s.heap H locs) (hl : lvh arr M.2.2.2.1 b bs ls)
    (kk : KK_q p l e R s m args below meth c cells slots Q D cy b bs M.2.2.2.1 pc' ls' st' I' J') : W p l e R s m args below meth c H locs cells slots Q (F0 m pc arr (st.map (tr b bs))) := by
  obtain ⟨hx, hb, hml, hown, hr, hlk, hts, hK, hX, -⟩ := id C
  have hD := wl_D b 136 (En_q b cy I J)
  unfold stp_q at h
  split at h
  · cases h; exact lv_iconst hx hb hd (of_decide_eq_true ho) (kk H locs arr hR hl)
  · cases h; exact lv_bipush hx hb hd (of_decide_eq_true ho) (kk H locs arr hR hl)
  · cases h; exact lv_sipush hx hb hd (of_decide_eq_true ho) (kk H locs arr hR hl)
  · cases h; exact lv_ldc hx hb hown (hts _ (ldA_ok _ (of_decide_eq_true ho))) hd (kk H locs arr hR hl)
  · cases h; exact lv_lconst hx hb hd (of_decide_eq_true ho) (kk H locs arr hR hl)
  · cases h; exact lv_ldc2 hx hb hown (hts _ (ldB_ok _ (of_decide_eq_true ho))) hd (kk H locs arr hR hl)
  · obtain ⟨v, h1, h2, rfl, rfl, rfl, rfl, rfl⟩ := k_ld h
    obtain ⟨x, rfl⟩ := isI_x h2
    exact lv_iload_n hx hb hd rfl (hl.at h1) (kk H locs arr hR hl)
  · obtain ⟨v, h1, h2, rfl, rfl, rfl, rfl, rfl⟩ := k_ld h
    obtain ⟨x, rfl⟩ := isI_x h2
    exact lv_iload hx hb hd (hl.at h1) (kk H locs arr hR hl)
  · obtain ⟨v, h1, h2, rfl, rfl, rfl, rfl, rfl⟩ := k_ld h
    obtain ⟨x, rfl⟩ := isJ_x h2
    exact lv_lload_n hx hb hd rfl (hl.at h1) (kk H locs arr hR hl)
  · obtain ⟨v, h1, h2, rfl, rfl, rfl, rfl, rfl⟩ := k_ld h
    obtain ⟨x, rfl⟩ := isJ_x h2
    exact lv_lload hx hb hd (hl.at h1) (kk H locs arr hR hl)
  · obtain ⟨v, h1, h2, rfl, rfl, rfl, rfl, rfl⟩ := k_ld h
    obtain ⟨x, e⟩ := isA_x h2 b bs
    have h3 := hl.at h1
    have h4 := kk H locs arr hR hl
    rw [e] at h3
    rw [List.map_cons, e] at h4
    exact lv_aload_n hx hb hd rfl h3 h4
  · obtain ⟨v, h1, h2, rfl, rfl, rfl, rfl, rfl⟩ := k_ld h
    obtain ⟨x, e⟩ := isA_x h2 b bs
    have h3 := hl.at h1
    have h4 := kk H locs arr hR hl
    rw [e] at h3
    rw [List.map_cons, e] at h4
    exact lv_aload hx hb hd h3 h4
  · obtain ⟨x, r, rfl, h1, h2, rfl, rfl, rfl, rfl, rfl⟩ := k_is h
    exact lv_istore_n hx hb hd rfl hl.has h2 rfl (fun ls' h3 => kk H locs ls' hR (lvh.st1 h1 h3))
  · obtain ⟨x, r, rfl, h1, h2, rfl, rfl, rfl, rfl, rfl⟩ := k_is h
    exact lv_istore hx hb hd hl.has h2 rfl (fun ls' h3 => kk H locs ls' hR (lvh.st1 h1 h3))
  · obtain ⟨x, r, rfl, h1, h2, rfl, rfl, rfl, rfl, rfl⟩ := k_as h
    exact lv_astore_n hx hb hd rfl hl.has h2 rfl (fun ls' h3 => kk H locs ls' hR (lvh.st1 h1 h3))
  · obtain ⟨x, r, rfl, h1, h2, rfl, rfl, rfl, rfl, rfl⟩ := k_as h
    exact lv_astore hx hb hd hl.has h2 rfl (fun ls' h3 => kk H locs ls' hR (lvh.st1 h1 h3))
  · obtain ⟨x, r, rfl, h1, h2, rfl, rfl, rfl, rfl, rfl⟩ := k_ls h
    exact lv_lstore_n hx hb hd rfl hl.has h2 rfl (fun ls' h3 => kk H locs ls' hR (lvh.st2 h1 h3))
  · obtain ⟨x, r, rfl, h1, h2, rfl, rfl, rfl, rfl, rfl⟩ := k_ls h
    exact lv_lstore hx hb hd hl.has h2 rfl (fun ls' h3 => kk H locs ls' hR (lvh.st2 h1 h3))
  · split at h
    · rename_i h1
      split at h
      · rename_i hc
        rw [Bool.and_eq_true] at hc
        cases h
        obtain ⟨k, hk⟩ := List.getElem?_of_mem (asc_mem (b := b) (bs := bs) (q := (_, .int _)).mpr ⟨_, h1, rfl⟩)
        exact lv_iinc hx hb hd hl.has hk (by rw [of_decide_eq_true ho]) (of_decide_eq_true hc.2) rfl (fun ls' h3 => kk H locs ls' hR (lvh.st1 (v := .int _) hc.1 h3))
      · cases h
    · cases h
  · obtain ⟨x, y, r, rfl, rfl, rfl, rfl, rfl, rfl, rfl⟩ := k_bi h; exact lv_iadd hx hb hd (kk H locs arr hR hl)
  · obtain ⟨x, y, r, rfl, rfl, rfl, rfl, rfl, rfl, rfl⟩ := k_bi h; exact lv_isub hx hb hd (kk H locs arr hR hl)
  · obtain ⟨x, y, r, rfl, rfl, rfl, rfl, rfl, rfl, rfl⟩ := k_bi h; exact lv_imul hx hb hd (kk H locs arr hR hl)
  · obtain ⟨x, y, r, rfl, rfl, rfl, rfl, rfl, rfl, rfl⟩ := k_bi h; exact lv_iand hx hb hd (kk H locs arr hR hl)
  · obtain ⟨x, y, r, rfl, rfl, rfl, rfl, rfl, rfl, rfl⟩ := k_bi h; exact lv_ixor hx hb hd (kk H locs arr hR hl)
  · obtain ⟨x, y, r, rfl, rfl, rfl, rfl, rfl, rfl, rfl⟩ := k_bi h; exact lv_idiv hx hb hd hG (kk H locs arr hR hl)
  · obtain ⟨x, y, r, rfl, rfl, rfl, rfl, rfl, rfl, rfl⟩ := k_bi h; exact lv_irem hx hb hd hG (kk H locs arr hR hl)
  · obtain ⟨x, y, r, rfl, rfl, rfl, rfl, rfl, rfl, rfl⟩ := k_bl h; exact lv_ladd hx hb hd (kk H locs arr hR hl)
  · obtain ⟨x, y, r, rfl, rfl, rfl, rfl, rfl, rfl, rfl⟩ := k_bl h; exact lv_lsub hx hb hd (kk H locs arr hR hl)
  · obtain ⟨x, y, r, rfl, rfl, rfl, rfl, rfl, rfl, rfl⟩ := k_bl h; exact lv_lmul hx hb hd (kk H locs arr hR hl)
  · obtain ⟨x, y, r, rfl, rfl, rfl, rfl, rfl, rfl, rfl⟩ := k_bl h; exact lv_land hx hb hd (kk H locs arr hR hl)
  · obtain ⟨x, y, r, rfl, rfl, rfl, rfl, rfl, rfl, rfl⟩ := k_bl h; exact lv_ldiv hx hb hd hG (kk H locs arr hR hl)
  · obtain ⟨x, y, r, rfl, rfl, rfl, rfl, rfl, rfl, rfl⟩ := k_bl h; exact lv_lrem hx hb hd hG (kk H locs arr hR hl)
  · split at h
    · cases h; exact lv_ineg hx hb hd (kk H locs arr hR hl)
    · cases h
  · split at h
    · cases h; exact lv_i2l hx hb hd rfl (kk H locs arr hR hl)
    · cases h
  · split at h
    · cases h; exact lv_l2i hx hb hd rfl (kk H locs arr hR hl)
    · cases h
  · split at h
    · cases h; exact W.lcmp hx hb hd (kk H locs arr hR hl)
    · cases h
  · split at h
    · split at h
      · rename_i hc; cases h; exact lv_dup hx hb hd (by rw [tr_cat]; exact hc) (kk H locs arr hR hl)
      · cases h
    · cases h
  · split at h
    · split at h
      · rename_i hc; cases h; exact lv_dup2_11 hx hb hd (by rw [tr_cat]; exact hc.1) (by rw [tr_cat]; exact hc.2) (kk H locs arr hR hl)
      · cases h
    · cases h
  · split at h
    · split at h
      · rename_i hc; cases h; exact lv_pop hx hb hd (by rw [tr_cat]; exact hc) (kk H locs arr hR hl)
      · cases h
    · cases h
  · cases h; exact lv_goto hx hb hd (of_decide_eq_true ho) (kk H locs arr hR hl)
  · unfold s_get_q at h
    split at h
    · split at h
      · rename_i hv
        cases h
        exact r_get_q C hR (of_decide_eq_true ho) hG hv hd (kk H locs arr hR hl)
      · cases h
    · cases h
  · rename_i idx k j w
    have ho : ((decide ((M.1, idx, k, j) ∈ lfT) && ((cT k j).2.2.2 == false)) && (decide ((k, j) ∈ ifT) || decide ((k, j) ∈ jfT))) = true := ho
    rw [Bool.and_eq_true, Bool.and_eq_true, Bool.or_eq_true] at ho
    obtain ⟨⟨h1, h2⟩, h3⟩ := ho
    have h1 := of_decide_eq_true h1
    have h2 := eq_of_beq h2
    obtain ⟨hk8, hj, -⟩ := lfT_k _ h1
    unfold s_put_q at h
    split at h
    · rename_i hty
      cases h
      have h3 : (k, j) ∈ ifT := by
        rcases h3 with h3 | h3
        · exact of_decide_eq_true h3
        · have h4 := jfT_ty _ (of_decide_eq_true h3)
          rw [hty] at h4; cases h4
      exact r_put_q C hR h1 h2 hG (by rw [hty]; rfl) (by rw [hty]; rfl) hd (fun H1 locs1 q1 q2 => Rp_q.put2 (set_int_q hG hk8 h3 _) q1 q2) (fun H1 locs1 q => kk H1 locs1 arr q hl)
    · rename_i hty
      cases h
      have h3 : (k, j) ∈ ifT := by
        rcases h3 with h3 | h3
        · exact of_decide_eq_true h3
        · have h4 := jfT_ty _ (of_decide_eq_true h3)
          rw [hty] at h4; cases h4
      exact r_put_q C hR h1 h2 hG.1 (by rw [hty]; exact (nb_narrow hG.2).1) (by rw [hty]; exact (nb_narrow hG.2).2.1) hd (fun H1 locs1 q1 q2 => Rp_q.put2 (set_int_q hG.1 hk8 h3 _) q1 q2) (fun H1 locs1 q => kk H1 locs1 arr q hl)
    · rename_i hty
      cases h
      have h3 : (k, j) ∈ jfT := by
        rcases h3 with h3 | h3
        · have h4 := ifT_ty _ (of_decide_eq_true h3)
          dsimp only at h4
          rw [hty] at h4
          rcases h4 with h4 | h4 <;> cases h4
        · exact of_decide_eq_true h3
      exact r_put_q C hR h1 h2 hG (by rw [hty]; rfl) (by rw [hty]; rfl) hd (fun H1 locs1 q1 q2 => Rp_q.put3 (set_long_q hG hk8 h3 _) q1 q2) (fun H1 locs1 q => kk H1 locs1 arr q hl)
    · cases h
  · unfold s_iald_q at h
    split at h
    · cases h
      exact va_iald hx hb hK.1 hR.1 _ 0 (Rp_q.at hG.1 (by decide) (en_8_q hG.1 _ _)) rfl hG.2 hd (kk H locs arr hR hl)
    · cases h
      obtain ⟨h1, h2, h3⟩ := hX (by
        refine Nat.pos_of_ne_zero fun e => ?_
        subst e
        exact hG (Or.inr (Nat.zero_le _)))
      exact va_sld hx hb h1 h2 h3 hR.2 hG hd (kk H locs arr hR hl)
    · cases h
  · split at h
    · cases h
      exact va_iast hx hb hK.1 hR.1 hD hR.2 _ 0 (Rp_q.at hG.1 (by decide) (en_8_q hG.1 _ _)) rfl hG.2 hd (fun H1 locs1 q1 q2 q3 => kk H1 locs1 arr (Rp_q.put2 (en_8_q hG.1 _ _) q1 q3) hl)
    · cases h
  · split at h
    · cases h
      exact va_lald hx hb hK.1 hR.1 _ 1 (Rp_q.at hG.1 (by decide) (en_9_q hG.1 _ _)) rfl hG.2 hd (kk H locs arr hR hl)
    · cases h
  · split at h
    · cases h
      exact va_last hx hb hK.1 hR.1 hD hR.2 _ 1 (Rp_q.at hG.1 (by decide) (en_9_q hG.1 _ _)) rfl hG.2 hd (fun H1 locs1 q1 q2 q3 => kk H1 locs1 arr (Rp_q.put3 (en_9_q hG.1 _ _) q1 q3) hl)
    · cases h
  · split at h
    · cases h
      exact va_zald hx hb hK.1 hR.1 _ 2 (Rp_q.at hG.1 (by decide) (en_10_q hG.1 _ _)) rfl hG.2 hd (kk H locs arr hR hl)
    · cases h
  · split at h
    · cases h
      refine va_zast hx hb hK.1 hR.1 hD hR.2 _ 2 (Rp_q.at hG.1 (by decide) (en_10_q hG.1 _ _)) rfl hG.2.1 hd (fun H1 locs1 q1 q2 q3 => kk H1 locs1 arr (Rp_q.put2 (en_10_q hG.1 _ _) ?_ q3) hl)
      rw [(nb_narrow hG.2.2).2.2] at q1
      exact q1
    · cases h
  · split at h
    · split at h
      · cases h
        exact va_aldq hx hb hK.1 hR.1 _ 3 (Rp_q.at hG.1 (by decide) (en_11_q hG.1 _ _)) rfl hG.2 hd (kk H locs arr hR hl)
      · split at h
        · cases h
          exact r_aald12 hx hb hK.1 hR.1 (Rp_q.at hG.1 (by decide) (en_12_q hG.1 _ _)) hG.2 hd (kk H locs arr hR hl)
        · cases h
    · cases h
  · unfold s_alen_q at h
    split at h
    · cases h
      exact va_alen hx hb hK.1 hR.1 _ 0 (Rp_q.at hG (by decide) (en_8_q hG _ _)) rfl rfl hd (kk H locs arr hR hl)
    · cases h
      obtain ⟨h1, h2, h3⟩ := hX hG
      exact va_slen hx hb h1 h2 h3 hR.2 hd (kk H locs arr hR hl)
    · cases h
  · cases h
end R2
def rb_q (nL L : Nat) (xs : Nat → Int32) (ops : List OP) (a : AS) : Option (Prop × AS) := match ops with
  | [] => some (True, a)
  | op :: r => match stp_q nL L xs op a.1 a.2.1 a.2.2.1 a.2.2.2.1 a.2.2.2.2 with
    | some (G, a1) => match rb_q nL L xs r a1 with
      | some (G1, a2) => some (G ∧ G1, a2)
      | none => none
    | none => none
theorem stp_pc_q {nL L : Nat} {xs : Nat → Int32} {op : OP} {pc pc' : Nat} {ls ls' : List (Option Value)} {st st' : List Value} {I I' : T2} {J J' : T3} {G : Prop} (h : stp_q nL L xs op pc ls st I J = some (G, pc', ls', st', I', J')) : pc' = nxt op pc := by
  unfold stp_q at h
  split at h
  all_goals first
    | (cases h; done)
    | (cases h; rfl)
    | (obtain ⟨_, _, _, rfl, _⟩ := k_ld h; rfl)
    | (obtain ⟨_, _, _, _, _, rfl, _⟩ := k_is h; rfl)
    | (obtain ⟨_, _, _, _, _, rfl, _⟩ := k_as h; rfl)
    | (obtain ⟨_, _, _, _, _, rfl, _⟩ := k_ls h; rfl)
    | (obtain ⟨_, _, _, _, _, rfl, _⟩ := k_bi h; rfl)
    | (obtain ⟨_, _, _, _, _, rfl, _⟩ := k_bl h; rfl)
    | (unfold s_get_q at h; split at h <;> first | (cases h; done) | (split at h <;> first | (cases h; done) | (cases h; rfl)))
    | (unfold s_put_q at h; split at h <;> first | (cases h; done) | (cases h; rfl))
    | (unfold s_iald_q at h; split at h <;> first | (cases h; done) | (cases h; rfl))
    | (unfold s_alen_q at h; split at h <;> first | (cases h; done) | (cases h; rfl))
    | (split at h <;> first | (cases h; done) | (cases h; rfl) | (split at h <;> first | (cases h; done) | (cases h; rfl) | (split at h <;> first | (cases h; done) | (cases h; rfl))))
def RT_q (p : Program) (l : Launch) (e : Env) (R : Room) (s : State) (m : MethodId) (args : Array Value) (below : List Frame) (meth : Method) (c : Code) (Q : State → Prop) (D : va_G) (cy : Nat → ClassId) (b bs k0 w0 Z : Nat) (M : MD) (Φ : Out → T2 → T3 → Nat → Prop) : Prop :=
  ∀ (ins : Instr) (v : Option Value) (I' : T2) (J' : T3) (z' : Nat) (H' : Heap) (locs' : List Loc) (arr' : Array Slot) (pcr : Nat), Φ (.inl v) I' J' z' → z' ≤ Z → Rp_q D cy b I' J' s.heap H' locs' → decode M.2.2.1 pcr = .ok (ins, 1) → rtOk ins v M.2.2.2.2.1 → W p l e R s m args below meth c H' locs' (k0 + z') (w0 + 6 * z') Q (F0 m pcr arr' (v.toList.map (tr b bs)))
def TH_q (s : State) (args : Array Value) (below : List Frame) (Q : State → Prop) (D : va_G) (cy : Nat → ClassId) (b k0 w0 Z : Nat) (Φ : Out → T2 → T3 → Nat → Prop) : Prop :=
  (∀ E I' J' z', ¬ Φ (.inr E) I' J' z') ∨ ∃ (Qc : Array Value → State → Outcome → State → Prop) (XC : String → State → State → Prop), Q = vx_MQ below Qc XC args s Z (6 * Z) (fun q => b ≤ q) ∧ k0 = 0 ∧ w0 = 0 ∧ ∀ E I' J' z' t, Φ (.inr E) I' J' z' → va_P D vwCl (wl b 136 (En_q b cy I' J')) t.heap → va_F (fun q => b ≤ q) s t → XC E s t
/-- from this place of the method M on, in any machine, all goes well, and what comes out of it meets Φ -/
def Ev_q (d Z L : Nat) (xs : Nat → Int32) (M : MD) (pc : Nat) (ls : List (Option Value)) (st : List Value) (I : T2) (J : T3) (z : Nat) (Φ : Out → T2 → T3 → Nat → Prop) : Prop :=
  ∀ (l : Launch) (p : Program) (e : Env) (R : Room) (s : State) (m : MethodId) (args : Array Value) (below : List Frame) (meth : Method) (c : Code) (D : va_G) (cy : Nat → ClassId) (b bs k0 w0 : Nat) (Q : State → Prop), Cx l p s m args meth c D cy b bs L xs M → Rm R d k0 w0 Z → RT_q p l e R s m args below meth c Q D cy b bs k0 w0 Z M Φ → TH_q s args below Q D cy b k0 w0 Z Φ → KK_q p l e R s m args below meth c (k0 + z) (w0 + 6 * z) Q D cy b bs M.2.2.2.1 pc ls st I J
section E1
variable {d Z L : Nat} {xs : Nat → Int32} {M : MD} {pc pc' : Nat} {ls ls' : List (Option Value)} {st st' : List Value} {I I' : T2} {J J' : T3} {z : Nat} {Φ : Out → T2 → T3 → Nat → Prop} {G : Prop}
theorem Ev_q.blk {ops : List OP} (hc : chk M ops pc = true) (h : rb_q M.2.2.2.1 L xs ops (pc, ls, st, I, J) = some (G, pc', ls', st', I', J')) (hG : G) (k : Ev_q d Z L xs M pc' ls' st' I' J' z Φ) : Ev_q d Z L xs M pc ls st I J z Φ := by
  induction ops generalizing pc ls st I J G with
  | nil => cases h; exact k
  | cons op r ih =>
    unfold chk at hc
    rw [Bool.and_eq_true, Bool.and_eq_true] at hc
    obtain ⟨h1, h2, h3⟩ := hc
    unfold rb_q at h
    split at h
    · rename_i G0 a1 hs
      obtain ⟨pc1, ls1, st1, I1, J1⟩ := a1
      split at h
      · rename_i G1 a2 hr
        cases h
        have hp := stp_pc_q hs
        subst hp
        intro l p e R s m args below meth c D cy b bs k0 w0 Q C hRm hRT hTH H locs arr hR hl
        exact stp_ok_q C (of_decide_eq_true h1) h2 hs hG.1 hR hl (ih h3 hr hG.2 l p e R s m args below meth c D cy b bs k0 w0 Q C hRm hRT hTH)
      · cases h
    · cases h
theorem Ev_q.ic {o : ClassFile.Cond} {x y : Int32} {off : Int} (tgt : Nat) (hd : decode M.2.2.1 pc = .ok (.if_icmp o off, 3)) (ht : (pc : Int) + off = (tgt : Int)) (kt : cmpI o x y → Ev_q d Z L xs M tgt ls st I J z Φ) (kf : ¬ cmpI o x y → Ev_q d Z L xs M (pc + 3) ls st I J z Φ) : Ev_q d Z L xs M pc ls (.int y :: .int x :: st) I J z Φ := by
  intro l p e R s m args below meth c D cy b bs k0 w0 Q C hRm hRT hTH H locs arr hR hl
  have a := fun h => kt h l p e R s m args below meth c D cy b bs k0 w0 Q C hRm hRT hTH H locs arr hR hl
  have b' := fun h => kf h l p e R s m args below meth c D cy b bs k0 w0 Q C hRm hRT hTH H locs arr hR hl
  obtain ⟨hx, hb, -⟩ := C
  cases o
  · exact lv_icmp_eq hx hb hd ht a b'
  · exact lv_icmp_ne hx hb hd ht a (fun h => b' (fun q => q h))
  · exact lv_icmp_lt hx hb hd ht a b'
  · exact lv_icmp_ge hx hb hd ht a b'
  · exact lv_icmp_gt hx hb hd ht a b'
  · exact lv_icmp_le hx hb hd ht a b'
theorem Ev_q.ret {ins : Instr} (v : Option Value) (hd : decode M.2.2.1 pc = .ok (ins, 1)) (ho : rtOk ins v M.2.2.2.2.1) (hz : z ≤ Z) (h : Φ (.inl v) I J z) (hst : st = v.toList) : Ev_q d Z L xs M pc ls st I J z Φ := by
  intro l p e R s m args below meth c D cy b bs k0 w0 Q C hRm hRT hTH H locs arr hR hl
  subst hst
  exact hRT ins v I J z H locs arr pc h hz hR hd ho
end E1
def Pcm_q (D : va_G) (cy : Nat → ClassId) (b : Nat) (As : List Value) (I : T2) (J : T3) : Array Value → State → Prop := fun a U => a = (As.map (tr b 0)).toArray ∧ KS D cy b U U.heap ∧ va_P D vwCl (wl b 136 (En_q b cy I J)) U.heap
def Qcm_q (D : va_G) (cy : Nat → ClassId) (b : Nat) (Ψ : Option Value → T2 → T3 → Prop) : Array Value → State → Outcome → State → Prop := fun _ st o t => (∃ (v : Option Value) (I' : T2) (J' : T3), o = .returned (v.map (tr b 0)) ∧ (∀ w, v = some w → notRA w = true) ∧ Ψ v I' J' ∧ va_P D vwCl (wl b 136 (En_q b cy I' J')) t.heap) ∧ va_F (fun q => b ≤ q) st t
/-- a method that returns: from the state (I, J) with the arguments As it comes back, and its answer and the state behind it meet Ψ -/
def Mt_q (d : Nat) (M : MD) (As : List Value) (I : T2) (J : T3) (Ψ : Option Value → T2 → T3 → Prop) : Prop :=
  ∀ (l : Launch) (D : va_G) (cy : Nat → ClassId) (b : Nat), l.stackTraces = false → Met l M.2.1 (wsM M) (rmD d 0) (Pcm_q D cy b As I J) (Qcm_q D cy b Ψ) 0 0 (fun q => b ≤ q)
theorem Pcm_q.blind {D : va_G} {cy : Nat → ClassId} {b : Nat} {As : List Value} {I : T2} {J : T3} : FrameBlind (Pcm_q D cy b As I J) := by
  intro a U g mk h
  obtain ⟨h1, h2, h3⟩ := h
  exact ⟨h1, KS.same (s := U) rfl h2, h3⟩
set_option maxHeartbeats 2000000 in
theorem Mt_q.of {d : Nat} {M : MD} {As : List Value} {I : T2} {J : T3} {Ψ : Option Value → T2 → T3 → Prop} (hM : mOk M = true) (hlen : (lsA As).length ≤ M.2.2.2.1) (h : Ev_q d 0 0 (fun _ => 0) M 0 (lsE M.2.2.2.1 As) [] I J 0 (fun o I' J' _ => ∃ v, o = .inl v ∧ Ψ v I' J')) : Mt_q d M As I J Ψ := by
  intro l D cy b htr
  unfold mOk at hM
  rw [Bool.and_eq_true, Bool.and_eq_true] at hM
  obtain ⟨⟨hM1, hM2⟩, hM3⟩ := hM
  have hM2 := of_decide_eq_true hM2
  have hM3 := List.isEmpty_iff.mp hM3
  refine Met.ofWF (cc := M.2.2.1) (maxL := M.2.2.2.1) (ret := M.2.2.2.2.1) hM1 rfl ?_
  intro p e s m args below meth c s₁ B hml hv
  obtain ⟨rfl, hK, hP⟩ := hv
  have hts0 := atoms_spec (ws := wsM M) B.pre
  have hown : s.vm.findClass (cC M.1) = some m.cls := by rw [← hM2]; exact findClass_of_methodNamed B.named
  have hex : c.exceptionTable.toList = tableOf M.2.2.2.2.2 := by
    rw [hM3, Array.isEmpty_iff.mp (B.noHandlers (hts0 _ List.mem_cons_self))]
    rfl
  have C : Cx l p s m ((As.map (tr b 0)).toArray) meth c D cy b 0 0 (fun _ => 0) M := ⟨B.exec, B.bytes, hml, hown, B.returns, B.notSynchronized, wAll_hts hts0, hK, fun q => absurd q (Nat.lt_irrefl 0), htr, hex⟩
  rw [lg_entry_eq]
  refine h l p e _ s m _ below meth c D cy b 0 0 0 _ C ⟨Nat.le_refl _, Nat.le_refl _, Nat.le_refl _, Nat.le_refl _⟩ ?_ (Or.inl fun E I' J' z' q => by obtain ⟨v, q, -⟩ := q; cases q) s.heap [] _ ⟨hP, va_S.rf⟩ (lvh_entry hlen)
  intro ins v I' J' z' H' locs' arr' pcr hΦ hz hR hd ho
  obtain ⟨v', e1, hΨ⟩ := hΦ
  cases e1
  obtain rfl : z' = 0 := by omega
  exact rt_W B.exec B.bytes B.returns B.notSynchronized ho hd (fun t ht hW => ⟨⟨v, I', J', rfl, rt_notRA ho, hΨ, by rw [ht]; exact hR.1⟩, hR.2.F ht⟩) hR.2.2.2
theorem pre_my_q {D : va_G} {cy : Nat → ClassId} {b bs : Nat} {s : State} {H : Heap} {locs : List Loc} {As : List Value} {I : T2} {J : T3} (hK : KS D cy b s s.heap) (hR : Rp_q D cy b I J s.heap H locs) (hA : As.all notRA = true) : PreS s H (Pcm_q D cy b As I J) (As.map (tr b bs)) := by
  refine ⟨Pcm_q.blind, fun U hU hW => ⟨?_, ?_, ?_⟩⟩
  · congr 1
    exact List.map_congr_left fun v hv => tr_notRA (List.all_eq_true.mp hA v hv) b bs 0
  · rw [hU]
    exact hK.moved hW (fun a h1 h2 => hR.2.2.1 a h1 h2)
  · rw [hU]; exact hR.1
section E2
variable {p : Program} {l : Launch} {e : Env} {R : Room} {s : State} {m : MethodId} {args : Array Value} {below : List Frame} {meth : Method} {c : Code} {H : Heap} {locs : List Loc} {cells slots : Nat} {Q : State → Prop}
variable {D : va_G} {cy : Nat → ClassId} {b bs : Nat} {I : T2} {J : T3} {arr : Array Slot} {pc : Nat} {rest : List Value} {st0 : List Value} {a : Array Value} {Ψ : Option Value → T2 → T3 → Prop} {nL : Nat} {ls : List (Option Value)}
/-- behind a call that returns -/
theorem call_go_q (hr : va_Run p l e R s m args below meth c H locs cells slots 0 0 (F0 m pc arr st0) (rest.map (tr b bs)) (Qcm_q D cy b Ψ a) (fun q => b ≤ q)) (hR : Rp_q D cy b I J s.heap H locs) (hl : lvh arr nL b bs ls)
    (kk : ∀ v I' J', Ψ v I' J' → KK_q p l e R s m args below meth c cells slots Q D cy b bs nL (pc + 3) ls (v.toList ++ rest) I' J') : W p l e R s m args below meth c H locs cells slots Q (F0 m pc arr st0) := by
  intro T hT X
  obtain ⟨v, st₀, t, T', Ls, h0, X', hL, e1, e2, ⟨⟨v', I', J', hv, hn, hΨ, hP⟩, hF⟩, st⟩ := hr T hT X
  have hv' : v = v'.map (tr b 0) := Outcome.returned.inj hv
  subst hv'
  have hz : H.size ≤ T'.heap.size := by rw [e1, ← h0]; exact hF.1
  have hS : va_S (fun q => b ≤ q) s.heap T'.heap (locs ++ Ls) := by
    refine ⟨Nat.le_trans hR.2.1 hz, fun q h1 h2 => ?_, fun q hq => ?_⟩
    · rw [e1, hF.2 q (by rw [h0]; exact Nat.lt_of_lt_of_le h1 hR.2.1) h2, h0]
      exact hR.2.2.1 q h1 h2
    · rcases List.mem_append.mp hq with h | h
      · exact hR.2.2.2 q h
      · exact hL q h
  obtain ⟨t2, a1, b1⟩ := kk v' I' J' hΨ T'.heap (locs ++ Ls) arr ⟨by rw [e1]; exact hP, hS⟩ hl T' rfl X'
  refine ⟨t2, st t2 ?_, b1⟩
  have e3 : (v'.map (tr b 0)).toList ++ rest.map (tr b bs) = (v'.toList ++ rest).map (tr b bs) := by
    cases v' with
    | none => rfl
    | some w => show tr b 0 w :: _ = tr b bs w :: _; rw [tr_notRA (hn w rfl) b 0 bs]; rfl
  show Steps p.tables e below (T'.setTop (F0 m (pc + 3) arr ((v'.map (tr b 0)).toList ++ rest.map (tr b bs)))) t2
  rw [e3]
  exact a1
end E2
section E3
variable {d Z L : Nat} {xs : Nat → Int32} {M N : MD} {pc i n : Nat} {ls : List (Option Value)} {rest As : List Value} {I : T2} {J : T3} {z : Nat} {Φ : Out → T2 → T3 → Nat → Prop} {Ψ : Option Value → T2 → T3 → Prop}
/-- a static method is called -/
theorem Ev_q.callS (hM : Mt_q d N As I J Ψ) (hd : decode M.2.2.1 pc = .ok (.invokestatic i, 3)) (hB : lkB N n = true) (hl : lkS M.1 i N = true ∨ lkN M.1 i N = true) (hn : As.length = n) (hA : As.all notRA = true) (hw : (rest.map fun v => v.category).sum ≤ 8) {st : List Value} (hst : st = As.reverse ++ rest) (hz : z ≤ Z)
    (k : ∀ v I' J', Ψ v I' J' → Ev_q (d + 1) Z L xs M (pc + 3) ls (v.toList ++ rest) I' J' z Φ) : Ev_q (d + 1) Z L xs M pc ls st I J z Φ := by
  subst hst
  intro l p e R s m args below meth c D cy b bs k0 w0 Q C hRm hRT hTH H locs arr hR hlv
  obtain ⟨hx, hb, hml, hown, hr, hlk, hts, hK, hX, htr, hex⟩ := id C
  have hroom : k0 + z + 0 ≤ R.cells ∧ w0 + 6 * z + 0 ≤ R.slots := by obtain ⟨-, -, h3, h4⟩ := hRm; omega
  have hstk : (As.reverse ++ rest).map (tr b bs) = (As.map (tr b bs)).reverse ++ rest.map (tr b bs) := by rw [List.map_append, List.map_reverse]
  have hgo : va_Run p l e R s m args below meth c H locs (k0 + z) (w0 + 6 * z) 0 0 (F0 m pc arr ((As.reverse ++ rest).map (tr b bs))) (rest.map (tr b bs)) (Qcm_q D cy b Ψ (As.map (tr b bs)).toArray) (fun q => b ≤ q) := by
    rcases hl with hl | hl
    · unfold lkS at hl
      simp only [Bool.and_eq_true, decide_eq_true_eq] at hl
      exact va_runS (n := n) ⟨hx, hb, hml, hown, hts⟩ (hM l D cy b htr) ⟨callB_my hts hB hRm (hts _ hl.1), hts _ hl.2⟩ (pre_my_q hK hR hA) rfl (by rw [List.length_map]; exact hn) hlv.1 hstk (lv_room (by rw [sum_tr]; exact hw)) hd hroom
    · unfold lkN at hl
      simp only [Bool.and_eq_true, decide_eq_true_eq] at hl
      obtain ⟨h1, h2, h3, h4, h5⟩ := lkB_spec hB
      have hRm' := hRm
      obtain ⟨r1, r2, r3, r4⟩ := hRm'
      refine va_runSN (n := n) (host := "QuotaDesk") ⟨hx, hb, hml, hown, hts⟩ (hM l D cy b htr) ⟨⟨⟨rfl, rfl, ?_, ?_, wAll_pay hts h1, List.mem_cons_self⟩, hts _ h1, hts _ h2, h3, h4, va_Nw.use rfl (hK.2.1 _ hl.1)⟩, hts _ hl.2, trivial⟩ (pre_my_q hK hR hA) rfl (by rw [List.length_map]; exact hn) hlv.1 hstk (lv_room (by rw [sum_tr]; exact hw)) hd hroom
      · show d + 3 + 1 ≤ R.frames
        omega
      · show 8 + (N.2.2.2.1 + 11) + (32 * d + 100) ≤ R.locals
        omega
  exact call_go_q hgo hR hlv (fun v I' J' q => k v I' J' q l p e R s m args below meth c D cy b bs k0 w0 Q C hRm hRT hTH)
/-- a method of an object of ours is called -/
theorem Ev_q.callV {o : Nat} (hM : Mt_q d N (.ref o :: As) I J Ψ) (hd : decode M.2.2.1 pc = .ok (.invokevirtual i, 3)) (hB : lkB N n = true) (hl : lkV M.1 i N = true) (hk : kd_q o = N.1) (hn : As.length = n) (hA : As.all notRA = true) (hw : (rest.map fun v => v.category).sum ≤ 8) {st : List Value} (hst : st = As.reverse ++ .ref o :: rest) (hz : z ≤ Z)
    (k : ∀ v I' J', Ψ v I' J' → Ev_q (d + 1) Z L xs M (pc + 3) ls (v.toList ++ rest) I' J' z Φ) : Ev_q (d + 1) Z L xs M pc ls st I J z Φ := by
  subst hst
  intro l p e R s m args below meth c D cy b bs k0 w0 Q C hRm hRT hTH H locs arr hR hlv
  obtain ⟨hx, hb, hml, hown, hr, hlk, hts, hK, hX, htr, hex⟩ := id C
  have hroom : k0 + z + 0 ≤ R.cells ∧ w0 + 6 * z + 0 ≤ R.slots := by obtain ⟨-, -, h3, h4⟩ := hRm; omega
  have hstk : (As.reverse ++ .ref o :: rest).map (tr b bs) = (As.map (tr b bs)).reverse ++ .ref (b + o) :: rest.map (tr b bs) := by rw [List.map_append, List.map_reverse]; rfl
  unfold lkV at hl
  simp only [Bool.and_eq_true, decide_eq_true_eq] at hl
  obtain ⟨⟨⟨⟨l1, l2⟩, l3⟩, l4⟩, l5⟩ := hl
  have hpre := pre_my_q (bs := bs) (As := .ref o :: As) hK hR (by simpa [notRA] using hA)
  have hcell := va_recv hK.1 hR.1 (cl_at l5) (Rp_q.at (I := I) (J := J) (b := b) (cy := cy) hk (by omega) (en_obj_q hk l5 (I o) (J o)))
  have hgo : va_Run p l e R s m args below meth c H locs (k0 + z) (w0 + 6 * z) 0 0 (F0 m pc arr ((As.reverse ++ .ref o :: rest).map (tr b bs))) (rest.map (tr b bs)) (Qcm_q D cy b Ψ (.ref (b + o) :: As.map (tr b bs)).toArray) (fun q => b ≤ q) :=
    va_runV (n := n) (C := cC N.1) ⟨hx, hb, hml, hown, hts⟩ (hM l D cy b htr) ⟨callB_my hts hB hRm (hts _ l1), hts _ l2, by rw [← l4]; exact hts _ l3⟩ ⟨hpre.1, hcell, hpre.2⟩ rfl (by rw [List.length_map]; exact hn) hlv.1 hstk (lv_room (by rw [sum_tr]; exact hw)) hd hroom
  exact call_go_q hgo hR hlv (fun v I' J' q => k v I' J' q l p e R s m args below meth c D cy b bs k0 w0 Q C hRm hRT hTH)
end E3
/-- a method that throws a thing of the class E, and changes nothing -/
def XCm_q (D : va_G) (cy : Nat → ClassId) (b : Nat) (E : String) (I : T2) (J : T3) : String → State → State → Prop := fun E' st t => (E' = E ∧ va_P D vwCl (wl b 136 (En_q b cy I J)) t.heap) ∧ va_F (fun q => b ≤ q) st t
def Mth_q (d : Nat) (M : MD) (As : List Value) (I : T2) (J : T3) (E : String) : Prop :=
  ∀ (l : Launch) (D : va_G) (cy : Nat → ClassId) (b : Nat), l.stackTraces = false → vx_Met l M.2.1 (wsM M) (rmD d 1) (Pcm_q D cy b As I J) (Qcm_q D cy b (fun _ _ _ => False)) (XCm_q D cy b E I J) 1 6 (fun q => b ≤ q)
set_option maxHeartbeats 2000000 in
theorem Mth_q.of {d : Nat} {M : MD} {As : List Value} {I : T2} {J : T3} {E : String} (hM : mOkX M = true) (hlen : (lsA As).length ≤ M.2.2.2.1) (h : Ev_q d 1 0 (fun _ => 0) M 0 (lsE M.2.2.2.1 As) [] I J 0 (fun o I' J' _ => o = .inr E ∧ I' = I ∧ J' = J)) : Mth_q d M As I J E := by
  intro l D cy b htr
  unfold mOkX at hM
  rw [Bool.and_eq_true, Bool.and_eq_true] at hM
  obtain ⟨⟨hM1, hM2⟩, hM3⟩ := hM
  have hM2 := of_decide_eq_true hM2
  have hM3 := List.isEmpty_iff.mp hM3
  refine vx_ofW (cc := M.2.2.1) (maxL := M.2.2.2.1) (ret := M.2.2.2.2.1) hM1 rfl ?_
  intro p e s m args below meth c s₁ B hml hno hv
  obtain ⟨rfl, hK, hP⟩ := hv
  have hts0 := atoms_spec (ws := wsM M) B.pre
  have hown : s.vm.findClass (cC M.1) = some m.cls := by rw [← hM2]; exact findClass_of_methodNamed B.named
  have hex : c.exceptionTable.toList = tableOf M.2.2.2.2.2 := by
    rw [hM3, Array.isEmpty_iff.mp (B.noHandlers (hts0 _ List.mem_cons_self))]
    rfl
  have C : Cx l p s m ((As.map (tr b 0)).toArray) meth c D cy b 0 0 (fun _ => 0) M := ⟨B.exec, B.bytes, hml, hown, B.returns, B.notSynchronized, wAll_hts hts0, hK, fun q => absurd q (Nat.lt_irrefl 0), htr, hex⟩
  rw [lg_entry_eq]
  refine h l p e _ s m _ below meth c D cy b 0 0 0 _ C ⟨Nat.le_refl _, Nat.le_refl _, Nat.le_refl _, Nat.le_refl _⟩ ?_ (Or.inr ⟨_, _, rfl, rfl, rfl, fun E' I' J' z' t q h1 h2 => ?_⟩) s.heap [] _ ⟨hP, va_S.rf⟩ (lvh_entry hlen)
  · intro ins v I' J' z' H' locs' arr' pcr hΦ hz hR hd ho
    cases hΦ.1
  · obtain ⟨q1, rfl, rfl⟩ := q
    cases q1
    exact ⟨⟨rfl, h1⟩, h2⟩
theorem kg_all_q : ∀ o : Nat, o < 136 → kd_q o = 1 → (kd_q (o + 1) = 8 ∧ ln_q (o + 1) = 3) ∧ (kd_q (o + 2) = 8 ∧ ln_q (o + 2) = 3) ∧ (kd_q (o + 3) = 8 ∧ ln_q (o + 3) = 3) ∧ kd_q (o + 4) = 5 ∧ kd_q (o + 9) = 5 := by decide +kernel
section KG
variable {o : Nat}
theorem kg_1_q (h : kd_q o = 1) : kd_q (o + 1) = 8 := (kg_all_q o (kd_lt_q h (by decide)) h).1.1
theorem lg_1_q (h : kd_q o = 1) : ln_q (o + 1) = 3 := (kg_all_q o (kd_lt_q h (by decide)) h).1.2
theorem kg_2_q (h : kd_q o = 1) : kd_q (o + 2) = 8 := (kg_all_q o (kd_lt_q h (by decide)) h).2.1.1
theorem lg_2_q (h : kd_q o = 1) : ln_q (o + 2) = 3 := (kg_all_q o (kd_lt_q h (by decide)) h).2.1.2
theorem kg_3_q (h : kd_q o = 1) : kd_q (o + 3) = 8 := (kg_all_q o (kd_lt_q h (by decide)) h).2.2.1.1
theorem lg_3_q (h : kd_q o = 1) : ln_q (o + 3) = 3 := (kg_all_q o (kd_lt_q h (by decide)) h).2.2.1.2
theorem kg_4_q (h : kd_q o = 1) : kd_q (o + 4) = 5 := (kg_all_q o (kd_lt_q h (by decide)) h).2.2.2.1
theorem kg_9_q (h : kd_q o = 1) : kd_q (o + 9) = 5 := (kg_all_q o (kd_lt_q h (by decide)) h).2.2.2.2
end KG
theorem kgt_q {i : Nat} (h : i < 8) : kd_q (24 + 14 * i) = 1 := (show ∀ i : Nat, i < 8 → kd_q (24 + 14 * i) = 1 by decide +kernel) i h
theorem kr4_q {i : Nat} (h : i < 3) : kd_q (4 + 1 + i) = 8 := (show ∀ i : Nat, i < 3 → kd_q (4 + 1 + i) = 8 by decide +kernel) i h
theorem lr4_q {i : Nat} (h : i < 3) : ln_q (4 + 1 + i) = 8 := (show ∀ i : Nat, i < 3 → ln_q (4 + 1 + i) = 8 by decide +kernel) i h
theorem BX0_begin_0_q {d Z L : Nat} {xs : Nat → Int32} {z : Nat} {Φ : Out → T2 → T3 → Nat → Prop} {I : T2} {J : T3}   
    (k : Ev_q d Z L xs mX0_begin 15 [some (.ref 19)] [] (up2 (up2 (up2 I 19 2 0) 19 3 0) 19 4 0) J z Φ) : Ev_q d Z L xs mX0_begin 0 [some (.ref 19)] [] I J z Φ := by
  refine Ev_q.blk (ops := [o0 (.aload_n 0) 1, oI (.iconst 0) 1 0, oK (.putfield 17) 3 0 2, o0 (.aload_n 0) 1, oI (.iconst 0) 1 0, oK (.putfield 21) 3 0 3, o0 (.aload_n 0) 1, oI (.iconst 0) 1 0, oK (.putfield 24) 3 0 4]) (G := True ∧ True ∧ (kd_q 19 = 0) ∧ True ∧ True ∧ (kd_q 19 = 0) ∧ True ∧ True ∧ (kd_q 19 = 0) ∧ True) (by decide +kernel) ?_ ⟨trivial, trivial, (by decide), trivial, trivial, (by decide), trivial, trivial, (by decide), trivial⟩ k
  rfl
theorem BX1_begin_0_q {d Z L : Nat} {xs : Nat → Int32} {z : Nat} {Φ : Out → T2 → T3 → Nat → Prop} {I : T2} {J : T3} {a0 : Nat} {y1 : Int64} (hk_a0 : kd_q a0 = 1) 
    (k : Ev_q d Z L xs mX1_begin 4 [some (.ref a0), some (.long y1), none] [.ref (a0 + 4)] I J z Φ) : Ev_q d Z L xs mX1_begin 0 [some (.ref a0), some (.long y1), none] [] I J z Φ := by
  refine Ev_q.blk (ops := [o0 (.aload_n 0) 1, oK (.getfield 26) 3 1 0]) (G := True ∧ (kd_q a0 = 1) ∧ True) (by decide +kernel) ?_ ⟨trivial, hk_a0, trivial⟩ k
  rfl
theorem BX1_begin_7_q {d Z L : Nat} {xs : Nat → Int32} {z : Nat} {Φ : Out → T2 → T3 → Nat → Prop} {I : T2} {J : T3} {a0 : Nat} {y1 : Int64} (hk_a0 : kd_q a0 = 1) 
    (k : Ev_q d Z L xs mX1_begin 11 [some (.ref a0), some (.long y1), none] [.ref (a0 + 9)] I J z Φ) : Ev_q d Z L xs mX1_begin 7 [some (.ref a0), some (.long y1), none] [] I J z Φ := by
  refine Ev_q.blk (ops := [o0 (.aload_n 0) 1, oK (.getfield 30) 3 1 1]) (G := True ∧ (kd_q a0 = 1) ∧ True) (by decide +kernel) ?_ ⟨trivial, hk_a0, trivial⟩ k
  rfl
theorem BX1_begin_14_q {d Z L : Nat} {xs : Nat → Int32} {z : Nat} {Φ : Out → T2 → T3 → Nat → Prop} {I : T2} {J : T3} {a0 : Nat} {y1 : Int64} (hk_a0 : kd_q a0 = 1) 
    (k : Ev_q d Z L xs mX1_begin 19 [some (.ref a0), some (.long y1), none] [.int 0, .ref (a0 + 1)] I J z Φ) : Ev_q d Z L xs mX1_begin 14 [some (.ref a0), some (.long y1), none] [] I J z Φ := by
  refine Ev_q.blk (ops := [o0 (.aload_n 0) 1, oK (.getfield 9) 3 1 2, oI (.iconst 0) 1 0]) (G := True ∧ (kd_q a0 = 1) ∧ True ∧ True) (by decide +kernel) ?_ ⟨trivial, hk_a0, trivial, trivial⟩ k
  rfl
theorem BX1_begin_22_q {d Z L : Nat} {xs : Nat → Int32} {z : Nat} {Φ : Out → T2 → T3 → Nat → Prop} {I : T2} {J : T3} {a0 : Nat} {y1 : Int64} (hk_a0 : kd_q a0 = 1) 
    (k : Ev_q d Z L xs mX1_begin 27 [some (.ref a0), some (.long y1), none] [.int 0, .ref (a0 + 2)] I J z Φ) : Ev_q d Z L xs mX1_begin 22 [some (.ref a0), some (.long y1), none] [] I J z Φ := by
  refine Ev_q.blk (ops := [o0 (.aload_n 0) 1, oK (.getfield 15) 3 1 3, oI (.iconst 0) 1 0]) (G := True ∧ (kd_q a0 = 1) ∧ True ∧ True) (by decide +kernel) ?_ ⟨trivial, hk_a0, trivial, trivial⟩ k
  rfl
theorem BX1_begin_30_q {d Z L : Nat} {xs : Nat → Int32} {z : Nat} {Φ : Out → T2 → T3 → Nat → Prop} {I : T2} {J : T3} {a0 : Nat} {y1 : Int64} (hk_a0 : kd_q a0 = 1) 
    (k : Ev_q d Z L xs mX1_begin 35 [some (.ref a0), some (.long y1), none] [.int 0, .ref (a0 + 3)] I J z Φ) : Ev_q d Z L xs mX1_begin 30 [some (.ref a0), some (.long y1), none] [] I J z Φ := by
  refine Ev_q.blk (ops := [o0 (.aload_n 0) 1, oK (.getfield 18) 3 1 4, oI (.iconst 0) 1 0]) (G := True ∧ (kd_q a0 = 1) ∧ True ∧ True) (by decide +kernel) ?_ ⟨trivial, hk_a0, trivial, trivial⟩ k
  rfl
theorem BX1_begin_38_q {d Z L : Nat} {xs : Nat → Int32} {z : Nat} {Φ : Out → T2 → T3 → Nat → Prop} {I : T2} {J : T3} {a0 : Nat} {y1 : Int64} (hk_a0 : kd_q a0 = 1) 
    (k : Ev_q d Z L xs mX1_begin 58 [some (.ref a0), some (.long y1), none] [] (up2 (up2 (up2 I a0 5 0) a0 7 0) a0 8 1) (up3 J a0 6 y1) z Φ) : Ev_q d Z L xs mX1_begin 38 [some (.ref a0), some (.long y1), none] [] I J z Φ := by
  refine Ev_q.blk (ops := [o0 (.aload_n 0) 1, oI (.iconst 0) 1 0, oK (.putfield 42) 3 1 5, o0 (.aload_n 0) 1, o0 (.lload_n 1) 1, oK (.putfield 46) 3 1 6, o0 (.aload_n 0) 1, oI (.iconst 0) 1 0, oK (.putfield 50) 3 1 7, o0 (.aload_n 0) 1, oI (.iconst 1) 1 1, oK (.putfield 53) 3 1 8]) (G := True ∧ True ∧ (kd_q a0 = 1) ∧ True ∧ True ∧ (kd_q a0 = 1) ∧ True ∧ True ∧ (kd_q a0 = 1) ∧ True ∧ True ∧ (kd_q a0 = 1 ∧ (1 = (0 : Int32) ∨ 1 = (1 : Int32))) ∧ True) (by decide +kernel) ?_ ⟨trivial, trivial, hk_a0, trivial, trivial, hk_a0, trivial, trivial, hk_a0, trivial, trivial, ⟨hk_a0, Or.inr rfl⟩, trivial⟩ k
  rfl
theorem BX2_begin_0_q {d Z L : Nat} {xs : Nat → Int32} {z : Nat} {Φ : Out → T2 → T3 → Nat → Prop} {I : T2} {J : T3} {x1 : Int32}  
    (k : Ev_q d Z L xs mX2_begin 28 [some (.ref 2), some (.int x1)] [.int ((up2 (up2 (up2 (up2 I 2 3 x1) 2 4 0) 2 5 0) 2 6 1) 2 3), .ref 3] (up2 (up2 (up2 (up2 I 2 3 x1) 2 4 0) 2 5 0) 2 6 1) J z Φ) : Ev_q d Z L xs mX2_begin 0 [some (.ref 2), some (.int x1)] [] I J z Φ := by
  refine Ev_q.blk (ops := [o0 (.aload_n 0) 1, o0 (.iload_n 1) 1, oK (.putfield 23) 3 2 3, o0 (.aload_n 0) 1, oI (.iconst 0) 1 0, oK (.putfield 27) 3 2 4, o0 (.aload_n 0) 1, oI (.iconst 0) 1 0, oK (.putfield 30) 3 2 5, o0 (.aload_n 0) 1, oI (.iconst 1) 1 1, oK (.putfield 33) 3 2 6, o0 (.aload_n 0) 1, oK (.getfield 9) 3 2 0, o0 (.aload_n 0) 1, oK (.getfield 23) 3 2 3]) (G := True ∧ True ∧ (kd_q 2 = 2) ∧ True ∧ True ∧ (kd_q 2 = 2) ∧ True ∧ True ∧ (kd_q 2 = 2) ∧ True ∧ True ∧ (kd_q 2 = 2 ∧ (1 = (0 : Int32) ∨ 1 = (1 : Int32))) ∧ True ∧ (kd_q 2 = 2) ∧ True ∧ (kd_q 2 = 2) ∧ True) (by decide +kernel) ?_ ⟨trivial, trivial, (by decide), trivial, trivial, (by decide), trivial, trivial, (by decide), trivial, trivial, ⟨(by decide), Or.inr rfl⟩, trivial, (by decide), trivial, (by decide), trivial⟩ k
  rfl
theorem BX2_begin_31_q {d Z L : Nat} {xs : Nat → Int32} {z : Nat} {Φ : Out → T2 → T3 → Nat → Prop} {I : T2} {J : T3} {x1 : Int32}  
    (k : Ev_q d Z L xs mX2_begin 32 [some (.ref 2), some (.int x1)] [.ref 2] I J z Φ) : Ev_q d Z L xs mX2_begin 31 [some (.ref 2), some (.int x1)] [] I J z Φ := by
  refine Ev_q.blk (ops := [o0 (.aload_n 0) 1]) (G := True ∧ True) (by decide +kernel) ?_ ⟨trivial, trivial⟩ k
  rfl
theorem BX2_forgetPleas_0_q {d Z L : Nat} {xs : Nat → Int32} {z : Nat} {Φ : Out → T2 → T3 → Nat → Prop} {I : T2} {J : T3}   
    (k : Ev_q d Z L xs mX2_forgetPleas 2 [some (.ref 2), some (.int 0)] [] I J z Φ) : Ev_q d Z L xs mX2_forgetPleas 0 [some (.ref 2), none] [] I J z Φ := by
  refine Ev_q.blk (ops := [oI (.iconst 0) 1 0, o0 (.istore_n 1) 1]) (G := True ∧ True ∧ True) (by decide +kernel) ?_ ⟨trivial, trivial, trivial⟩ k
  rfl
theorem BX2_forgetPleas_2_q {d Z L : Nat} {xs : Nat → Int32} {z : Nat} {Φ : Out → T2 → T3 → Nat → Prop} {I : T2} {J : T3} {x1 : Int32}  
    (k : Ev_q d Z L xs mX2_forgetPleas 4 [some (.ref 2), some (.int x1)] [.int 3, .int x1] I J z Φ) : Ev_q d Z L xs mX2_forgetPleas 2 [some (.ref 2), some (.int x1)] [] I J z Φ := by
  refine Ev_q.blk (ops := [o0 (.iload_n 1) 1, oI (.iconst 3) 1 3]) (G := True ∧ True ∧ True) (by decide +kernel) ?_ ⟨trivial, trivial, trivial⟩ k
  rfl
theorem BX2_forgetPleas_7_q {d Z L : Nat} {xs : Nat → Int32} {z : Nat} {Φ : Out → T2 → T3 → Nat → Prop} {I : T2} {J : T3} {x1 : Int32}  (g1 : vp_in x1 3)
    (k : Ev_q d Z L xs mX2_forgetPleas 14 [some (.ref 2), some (.int x1)] [.int 0, .ref (4 + 1 + x1.toNatClampNeg)] I J z Φ) : Ev_q d Z L xs mX2_forgetPleas 7 [some (.ref 2), some (.int x1)] [] I J z Φ := by
  refine Ev_q.blk (ops := [o0 (.aload_n 0) 1, oK (.getfield 17) 3 2 1, o0 (.iload_n 1) 1, oK (.aaload) 1 12 0, oI (.iconst 0) 1 0]) (G := True ∧ (kd_q 2 = 2) ∧ True ∧ (kd_q 4 = 12 ∧ vp_in x1 (ln_q 4)) ∧ True ∧ True) (by decide +kernel) ?_ ⟨trivial, (by decide), trivial, ⟨(by decide), g1⟩, trivial, trivial⟩ k
  rfl
theorem BX2_forgetPleas_17_q {d Z L : Nat} {xs : Nat → Int32} {z : Nat} {Φ : Out → T2 → T3 → Nat → Prop} {I : T2} {J : T3} {x1 : Int32}  
    (k : Ev_q d Z L xs mX2_forgetPleas 2 [some (.ref 2), some (.int (x1 + 1))] [] I J z Φ) : Ev_q d Z L xs mX2_forgetPleas 17 [some (.ref 2), some (.int x1)] [] I J z Φ := by
  refine Ev_q.blk (ops := [oI (.iinc 1 1) 3 1, oK (.goto (-18)) 3 2 0]) (G := True ∧ True ∧ True) (by decide +kernel) ?_ ⟨trivial, trivial, trivial⟩ k
  rfl
theorem BX3_begin_0_q {d Z L : Nat} {xs : Nat → Int32} {z : Nat} {Φ : Out → T2 → T3 → Nat → Prop} {I : T2} {J : T3}   
    (k : Ev_q d Z L xs mX3_begin 10 [some (.ref 12)] [] (up2 (up2 I 12 1 0) 12 2 0) J z Φ) : Ev_q d Z L xs mX3_begin 0 [some (.ref 12)] [] I J z Φ := by
  refine Ev_q.blk (ops := [o0 (.aload_n 0) 1, oI (.iconst 0) 1 0, oK (.putfield 15) 3 3 1, o0 (.aload_n 0) 1, oI (.iconst 0) 1 0, oK (.putfield 19) 3 3 2]) (G := True ∧ True ∧ (kd_q 12 = 3) ∧ True ∧ True ∧ (kd_q 12 = 3) ∧ True) (by decide +kernel) ?_ ⟨trivial, trivial, (by decide), trivial, trivial, (by decide), trivial⟩ k
  rfl
theorem BX5_begin_0_q {d Z L : Nat} {xs : Nat → Int32} {z : Nat} {Φ : Out → T2 → T3 → Nat → Prop} {I : T2} {J : T3} {a0 : Nat} (hk_a0 : kd_q a0 = 5) 
    (k : Ev_q d Z L xs mX5_begin 15 [some (.ref a0)] [] (up2 (up2 (up2 I a0 5 0) a0 6 0) a0 7 0) J z Φ) : Ev_q d Z L xs mX5_begin 0 [some (.ref a0)] [] I J z Φ := by
  refine Ev_q.blk (ops := [o0 (.aload_n 0) 1, oI (.iconst 0) 1 0, oK (.putfield 26) 3 5 5, o0 (.aload_n 0) 1, oI (.iconst 0) 1 0, oK (.putfield 29) 3 5 6, o0 (.aload_n 0) 1, oI (.iconst 0) 1 0, oK (.putfield 32) 3 5 7]) (G := True ∧ True ∧ (kd_q a0 = 5) ∧ True ∧ True ∧ (kd_q a0 = 5) ∧ True ∧ True ∧ (kd_q a0 = 5) ∧ True) (by decide +kernel) ?_ ⟨trivial, trivial, hk_a0, trivial, trivial, hk_a0, trivial, trivial, hk_a0, trivial⟩ k
  rfl
theorem BX6_begin_0_q {d Z L : Nat} {xs : Nat → Int32} {z : Nat} {Φ : Out → T2 → T3 → Nat → Prop} {I : T2} {J : T3} {x1 : Int32} {x2 : Int32} {x3 : Int32} {x4 : Int32}  
    (k : Ev_q d Z L xs mX6_begin 27 [some (.ref 0), some (.int x1), some (.int x2), some (.int x3), some (.int x4), none] [.int x1, .ref 2] (up2 (up2 (up2 I 0 7 x4) 0 8 x2) 0 9 x3) (up3 J 0 10 x3.toInt64) z Φ) : Ev_q d Z L xs mX6_begin 0 [some (.ref 0), some (.int x1), some (.int x2), some (.int x3), some (.int x4), none] [] I J z Φ := by
  refine Ev_q.blk (ops := [o0 (.aload_n 0) 1, o0 (.iload 4) 2, oK (.putfield 63) 3 6 7, o0 (.aload_n 0) 1, o0 (.iload_n 2) 1, oK (.putfield 67) 3 6 8, o0 (.aload_n 0) 1, o0 (.iload_n 3) 1, oK (.putfield 70) 3 6 9, o0 (.aload_n 0) 1, o0 (.iload_n 3) 1, o0 (.i2l) 1, oK (.putfield 73) 3 6 10, o0 (.aload_n 0) 1, oK (.getfield 18) 3 6 1, o0 (.iload_n 1) 1]) (G := True ∧ True ∧ (kd_q 0 = 6) ∧ True ∧ True ∧ (kd_q 0 = 6) ∧ True ∧ True ∧ (kd_q 0 = 6) ∧ True ∧ True ∧ True ∧ (kd_q 0 = 6) ∧ True ∧ (kd_q 0 = 6) ∧ True ∧ True) (by decide +kernel) ?_ ⟨trivial, trivial, (by decide), trivial, trivial, (by decide), trivial, trivial, (by decide), trivial, trivial, trivial, (by decide), trivial, (by decide), trivial, trivial⟩ k
  rfl
theorem BX6_begin_30_q {d Z L : Nat} {xs : Nat → Int32} {z : Nat} {Φ : Out → T2 → T3 → Nat → Prop} {I : T2} {J : T3} {x1 : Int32} {x2 : Int32} {x3 : Int32} {x4 : Int32}  
    (k : Ev_q d Z L xs mX6_begin 34 [some (.ref 0), some (.int x1), some (.int x2), some (.int x3), some (.int x4), none] [.ref 12] I J z Φ) : Ev_q d Z L xs mX6_begin 30 [some (.ref 0), some (.int x1), some (.int x2), some (.int x3), some (.int x4), none] [] I J z Φ := by
  refine Ev_q.blk (ops := [o0 (.aload_n 0) 1, oK (.getfield 25) 3 6 2]) (G := True ∧ (kd_q 0 = 6) ∧ True) (by decide +kernel) ?_ ⟨trivial, (by decide), trivial⟩ k
  rfl
theorem BX6_begin_37_q {d Z L : Nat} {xs : Nat → Int32} {z : Nat} {Φ : Out → T2 → T3 → Nat → Prop} {I : T2} {J : T3} {x1 : Int32} {x2 : Int32} {x3 : Int32} {x4 : Int32}  
    (k : Ev_q d Z L xs mX6_begin 41 [some (.ref 0), some (.int x1), some (.int x2), some (.int x3), some (.int x4), none] [.ref 19] I J z Φ) : Ev_q d Z L xs mX6_begin 37 [some (.ref 0), some (.int x1), some (.int x2), some (.int x3), some (.int x4), none] [] I J z Φ := by
  refine Ev_q.blk (ops := [o0 (.aload_n 0) 1, oK (.getfield 39) 3 6 4]) (G := True ∧ (kd_q 0 = 6) ∧ True) (by decide +kernel) ?_ ⟨trivial, (by decide), trivial⟩ k
  rfl
theorem BX6_begin_44_q {d Z L : Nat} {xs : Nat → Int32} {z : Nat} {Φ : Out → T2 → T3 → Nat → Prop} {I : T2} {J : T3} {x1 : Int32} {x2 : Int32} {x3 : Int32} {x4 : Int32}  
    (k : Ev_q d Z L xs mX6_begin 49 [some (.ref 0), some (.int x1), some (.int x2), some (.int x3), some (.int x4), none] [.int 0, .ref 22] I J z Φ) : Ev_q d Z L xs mX6_begin 44 [some (.ref 0), some (.int x1), some (.int x2), some (.int x3), some (.int x4), none] [] I J z Φ := by
  refine Ev_q.blk (ops := [o0 (.aload_n 0) 1, oK (.getfield 43) 3 6 5, oI (.iconst 0) 1 0]) (G := True ∧ (kd_q 0 = 6) ∧ True ∧ True) (by decide +kernel) ?_ ⟨trivial, (by decide), trivial, trivial⟩ k
  rfl
theorem BX6_begin_52_q {d Z L : Nat} {xs : Nat → Int32} {z : Nat} {Φ : Out → T2 → T3 → Nat → Prop} {I : T2} {J : T3} {x1 : Int32} {x2 : Int32} {x3 : Int32} {x4 : Int32}  
    (k : Ev_q d Z L xs mX6_begin 55 [some (.ref 0), some (.int x1), some (.int x2), some (.int x3), some (.int x4), some (.int 0)] [] I J z Φ) : Ev_q d Z L xs mX6_begin 52 [some (.ref 0), some (.int x1), some (.int x2), some (.int x3), some (.int x4), none] [] I J z Φ := by
  refine Ev_q.blk (ops := [oI (.iconst 0) 1 0, o0 (.istore 5) 2]) (G := True ∧ True ∧ True) (by decide +kernel) ?_ ⟨trivial, trivial, trivial⟩ k
  rfl
theorem BX6_begin_55_q {d Z L : Nat} {xs : Nat → Int32} {z : Nat} {Φ : Out → T2 → T3 → Nat → Prop} {I : T2} {J : T3} {x1 : Int32} {x2 : Int32} {x3 : Int32} {x4 : Int32} {x5 : Int32}  
    (k : Ev_q d Z L xs mX6_begin 59 [some (.ref 0), some (.int x1), some (.int x2), some (.int x3), some (.int x4), some (.int x5)] [.int 8, .int x5] I J z Φ) : Ev_q d Z L xs mX6_begin 55 [some (.ref 0), some (.int x1), some (.int x2), some (.int x3), some (.int x4), some (.int x5)] [] I J z Φ := by
  refine Ev_q.blk (ops := [o0 (.iload 5) 2, oI (.bipush 8) 2 8]) (G := True ∧ True ∧ True) (by decide +kernel) ?_ ⟨trivial, trivial, trivial⟩ k
  rfl
theorem BX6_begin_62_q {d Z L : Nat} {xs : Nat → Int32} {z : Nat} {Φ : Out → T2 → T3 → Nat → Prop} {I : T2} {J : T3} {x1 : Int32} {x2 : Int32} {x3 : Int32} {x4 : Int32} {x5 : Int32}  (g1 : vp_in x5 8)
    (k : Ev_q d Z L xs mX6_begin 73 [some (.ref 0), some (.int x1), some (.int x2), some (.int x3), some (.int x4), some (.int x5)] [.long (J 0 10), .ref (24 + 14 * x5.toNatClampNeg)] I J z Φ) : Ev_q d Z L xs mX6_begin 62 [some (.ref 0), some (.int x1), some (.int x2), some (.int x3), some (.int x4), some (.int x5)] [] I J z Φ := by
  refine Ev_q.blk (ops := [o0 (.aload_n 0) 1, oK (.getfield 11) 3 6 0, o0 (.iload 5) 2, oK (.aaload) 1 11 0, o0 (.aload_n 0) 1, oK (.getfield 73) 3 6 10]) (G := True ∧ (kd_q 0 = 6) ∧ True ∧ (kd_q 1 = 11 ∧ vp_in x5 (ln_q 1)) ∧ True ∧ (kd_q 0 = 6) ∧ True) (by decide +kernel) ?_ ⟨trivial, (by decide), trivial, ⟨(by decide), g1⟩, trivial, (by decide), trivial⟩ k
  rfl
theorem BX6_begin_76_q {d Z L : Nat} {xs : Nat → Int32} {z : Nat} {Φ : Out → T2 → T3 → Nat → Prop} {I : T2} {J : T3} {x1 : Int32} {x2 : Int32} {x3 : Int32} {x4 : Int32} {x5 : Int32}  
    (k : Ev_q d Z L xs mX6_begin 55 [some (.ref 0), some (.int x1), some (.int x2), some (.int x3), some (.int x4), some (.int (x5 + 1))] [] I J z Φ) : Ev_q d Z L xs mX6_begin 76 [some (.ref 0), some (.int x1), some (.int x2), some (.int x3), some (.int x4), some (.int x5)] [] I J z Φ := by
  refine Ev_q.blk (ops := [oI (.iinc 5 1) 3 1, oK (.goto (-24)) 3 55 0]) (G := True ∧ True ∧ True) (by decide +kernel) ?_ ⟨trivial, trivial, trivial⟩ k
  rfl
theorem BJ7_fill_53178_0_q {d Z L : Nat} {xs : Nat → Int32} {z : Nat} {Φ : Out → T2 → T3 → Nat → Prop} {I : T2} {J : T3} {a0 : Nat} {x1 : Int32} (hk_a0 : kd_q a0 = 8) 
    (k : Ev_q d Z L xs mJ7_fill_53178 5 [some (.ref a0), some (.int x1), some (.int 0), some (.int (nI (ln_q a0)))] [] I J z Φ) : Ev_q d Z L xs mJ7_fill_53178 0 [some (.ref a0), some (.int x1), none, none] [] I J z Φ := by
  refine Ev_q.blk (ops := [oI (.iconst 0) 1 0, o0 (.istore_n 2) 1, o0 (.aload_n 0) 1, o0 (.arraylength) 1, o0 (.istore_n 3) 1]) (G := True ∧ True ∧ True ∧ (kd_q a0 = 8) ∧ True ∧ True) (by decide +kernel) ?_ ⟨trivial, trivial, trivial, hk_a0, trivial, trivial⟩ k
  rfl
theorem BJ7_fill_53178_5_q {d Z L : Nat} {xs : Nat → Int32} {z : Nat} {Φ : Out → T2 → T3 → Nat → Prop} {I : T2} {J : T3} {a0 : Nat} {x1 : Int32} {x2 : Int32} {x3 : Int32}  
    (k : Ev_q d Z L xs mJ7_fill_53178 7 [some (.ref a0), some (.int x1), some (.int x2), some (.int x3)] [.int x3, .int x2] I J z Φ) : Ev_q d Z L xs mJ7_fill_53178 5 [some (.ref a0), some (.int x1), some (.int x2), some (.int x3)] [] I J z Φ := by
  refine Ev_q.blk (ops := [o0 (.iload_n 2) 1, o0 (.iload_n 3) 1]) (G := True ∧ True ∧ True) (by decide +kernel) ?_ ⟨trivial, trivial, trivial⟩ k
  rfl
theorem BJ7_fill_53178_10_q {d Z L : Nat} {xs : Nat → Int32} {z : Nat} {Φ : Out → T2 → T3 → Nat → Prop} {I : T2} {J : T3} {a0 : Nat} {x1 : Int32} {x2 : Int32} {x3 : Int32} (hk_a0 : kd_q a0 = 8) (g1 : vp_in x2 (ln_q a0))
    (k : Ev_q d Z L xs mJ7_fill_53178 5 [some (.ref a0), some (.int x1), some (.int (x2 + 1)), some (.int x3)] [] (up2 I a0 x2.toNatClampNeg x1) J z Φ) : Ev_q d Z L xs mJ7_fill_53178 10 [some (.ref a0), some (.int x1), some (.int x2), some (.int x3)] [] I J z Φ := by
  refine Ev_q.blk (ops := [o0 (.aload_n 0) 1, o0 (.iload_n 2) 1, o0 (.iload_n 1) 1, o0 (.iastore) 1, oI (.iinc 2 1) 3 1, oK (.goto (-12)) 3 5 0]) (G := True ∧ True ∧ True ∧ (kd_q a0 = 8 ∧ vp_in x2 (ln_q a0)) ∧ True ∧ True ∧ True) (by decide +kernel) ?_ ⟨trivial, trivial, trivial, ⟨hk_a0, g1⟩, trivial, trivial, trivial⟩ k
  rfl
theorem RX0_begin_15_q {d Z L : Nat} {xs : Nat → Int32} {z : Nat} {Φ : Out → T2 → T3 → Nat → Prop} {I : T2} {J : T3} {ls : List (Option Value)} (hz : z ≤ Z) (h : Φ (.inl none) I J z) : Ev_q d Z L xs mX0_begin 15 ls [] I J z Φ := Ev_q.ret none dX0_begin_15 rfl hz h rfl
theorem CX1_begin_4_q {d Z L : Nat} {xs : Nat → Int32} {z : Nat} {Φ : Out → T2 → T3 → Nat → Prop} {I : T2} {J : T3} {ls : List (Option Value)} {ar0 : Nat} {Ψ : Option Value → T2 → T3 → Prop} (hk : kd_q ar0 = 5) (hM : Mt_q d mX5_begin (.ref ar0 :: []) I J Ψ) (hz : z ≤ Z) (k : ∀ v I' J', Ψ v I' J' → Ev_q (d + 1) Z L xs mX1_begin 7 ls (v.toList ++ []) I' J' z Φ) : Ev_q (d + 1) Z L xs mX1_begin 4 ls [.ref ar0] I J z Φ := Ev_q.callV (M := mX1_begin) (N := mX5_begin) (i := 33) (n := 0) (As := []) (rest := []) (o := ar0) hM dX1_begin_4 lbX5_begin lV1_33 hk rfl rfl (by simp only [List.map_cons, List.map_nil, Value.category, List.sum_cons, List.sum_nil]; decide) rfl hz k
theorem CX1_begin_11_q {d Z L : Nat} {xs : Nat → Int32} {z : Nat} {Φ : Out → T2 → T3 → Nat → Prop} {I : T2} {J : T3} {ls : List (Option Value)} {ar0 : Nat} {Ψ : Option Value → T2 → T3 → Prop} (hk : kd_q ar0 = 5) (hM : Mt_q d mX5_begin (.ref ar0 :: []) I J Ψ) (hz : z ≤ Z) (k : ∀ v I' J', Ψ v I' J' → Ev_q (d + 1) Z L xs mX1_begin 14 ls (v.toList ++ []) I' J' z Φ) : Ev_q (d + 1) Z L xs mX1_begin 11 ls [.ref ar0] I J z Φ := Ev_q.callV (M := mX1_begin) (N := mX5_begin) (i := 33) (n := 0) (As := []) (rest := []) (o := ar0) hM dX1_begin_11 lbX5_begin lV1_33 hk rfl rfl (by simp only [List.map_cons, List.map_nil, Value.category, List.sum_cons, List.sum_nil]; decide) rfl hz k
theorem CX1_begin_19_q {d Z L : Nat} {xs : Nat → Int32} {z : Nat} {Φ : Out → T2 → T3 → Nat → Prop} {I : T2} {J : T3} {ls : List (Option Value)} {ap0 : Nat} {xp1 : Int32} {Ψ : Option Value → T2 → T3 → Prop} (hM : Mt_q d mJ7_fill_53178 [.ref ap0, .int xp1] I J Ψ) (hz : z ≤ Z) (k : ∀ v I' J', Ψ v I' J' → Ev_q (d + 1) Z L xs mX1_begin 22 ls (v.toList ++ []) I' J' z Φ) : Ev_q (d + 1) Z L xs mX1_begin 19 ls [.int xp1, .ref ap0] I J z Φ := Ev_q.callS (M := mX1_begin) (N := mJ7_fill_53178) (i := 36) (n := 2) (As := [.ref ap0, .int xp1]) (rest := []) hM dX1_begin_19 lbJ7_fill_53178 (Or.inl lS1_36) rfl rfl (by simp only [List.map_cons, List.map_nil, Value.category, List.sum_cons, List.sum_nil]; decide) rfl hz k
theorem CX1_begin_27_q {d Z L : Nat} {xs : Nat → Int32} {z : Nat} {Φ : Out → T2 → T3 → Nat → Prop} {I : T2} {J : T3} {ls : List (Option Value)} {ap0 : Nat} {xp1 : Int32} {Ψ : Option Value → T2 → T3 → Prop} (hM : Mt_q d mJ7_fill_53178 [.ref ap0, .int xp1] I J Ψ) (hz : z ≤ Z) (k : ∀ v I' J', Ψ v I' J' → Ev_q (d + 1) Z L xs mX1_begin 30 ls (v.toList ++ []) I' J' z Φ) : Ev_q (d + 1) Z L xs mX1_begin 27 ls [.int xp1, .ref ap0] I J z Φ := Ev_q.callS (M := mX1_begin) (N := mJ7_fill_53178) (i := 36) (n := 2) (As := [.ref ap0, .int xp1]) (rest := []) hM dX1_begin_27 lbJ7_fill_53178 (Or.inl lS1_36) rfl rfl (by simp only [List.map_cons, List.map_nil, Value.category, List.sum_cons, List.sum_nil]; decide) rfl hz k
theorem CX1_begin_35_q {d Z L : Nat} {xs : Nat → Int32} {z : Nat} {Φ : Out → T2 → T3 → Nat → Prop} {I : T2} {J : T3} {ls : List (Option Value)} {ap0 : Nat} {xp1 : Int32} {Ψ : Option Value → T2 → T3 → Prop} (hM : Mt_q d mJ7_fill_53178 [.ref ap0, .int xp1] I J Ψ) (hz : z ≤ Z) (k : ∀ v I' J', Ψ v I' J' → Ev_q (d + 1) Z L xs mX1_begin 38 ls (v.toList ++ []) I' J' z Φ) : Ev_q (d + 1) Z L xs mX1_begin 35 ls [.int xp1, .ref ap0] I J z Φ := Ev_q.callS (M := mX1_begin) (N := mJ7_fill_53178) (i := 36) (n := 2) (As := [.ref ap0, .int xp1]) (rest := []) hM dX1_begin_35 lbJ7_fill_53178 (Or.inl lS1_36) rfl rfl (by simp only [List.map_cons, List.map_nil, Value.category, List.sum_cons, List.sum_nil]; decide) rfl hz k
theorem RX1_begin_58_q {d Z L : Nat} {xs : Nat → Int32} {z : Nat} {Φ : Out → T2 → T3 → Nat → Prop} {I : T2} {J : T3} {ls : List (Option Value)} (hz : z ≤ Z) (h : Φ (.inl none) I J z) : Ev_q d Z L xs mX1_begin 58 ls [] I J z Φ := Ev_q.ret none dX1_begin_58 rfl hz h rfl
theorem CX2_begin_28_q {d Z L : Nat} {xs : Nat → Int32} {z : Nat} {Φ : Out → T2 → T3 → Nat → Prop} {I : T2} {J : T3} {ls : List (Option Value)} {ap0 : Nat} {xp1 : Int32} {Ψ : Option Value → T2 → T3 → Prop} (hM : Mt_q d mJ7_fill_53178 [.ref ap0, .int xp1] I J Ψ) (hz : z ≤ Z) (k : ∀ v I' J', Ψ v I' J' → Ev_q (d + 1) Z L xs mX2_begin 31 ls (v.toList ++ []) I' J' z Φ) : Ev_q (d + 1) Z L xs mX2_begin 28 ls [.int xp1, .ref ap0] I J z Φ := Ev_q.callS (M := mX2_begin) (N := mJ7_fill_53178) (i := 37) (n := 2) (As := [.ref ap0, .int xp1]) (rest := []) hM dX2_begin_28 lbJ7_fill_53178 (Or.inl lS2_37) rfl rfl (by simp only [List.map_cons, List.map_nil, Value.category, List.sum_cons, List.sum_nil]; decide) rfl hz k
theorem CX2_begin_32_q {d Z L : Nat} {xs : Nat → Int32} {z : Nat} {Φ : Out → T2 → T3 → Nat → Prop} {I : T2} {J : T3} {ls : List (Option Value)}  {Ψ : Option Value → T2 → T3 → Prop} (hM : Mt_q d mX2_forgetPleas (.ref 2 :: []) I J Ψ) (hz : z ≤ Z) (k : ∀ v I' J', Ψ v I' J' → Ev_q (d + 1) Z L xs mX2_begin 35 ls (v.toList ++ []) I' J' z Φ) : Ev_q (d + 1) Z L xs mX2_begin 32 ls [.ref 2] I J z Φ := Ev_q.callV (M := mX2_begin) (N := mX2_forgetPleas) (i := 43) (n := 0) (As := []) (rest := []) (o := 2) hM dX2_begin_32 lbX2_forgetPleas lV2_43 (by decide) rfl rfl (by simp only [List.map_cons, List.map_nil, Value.category, List.sum_cons, List.sum_nil]; decide) rfl hz k
theorem RX2_begin_35_q {d Z L : Nat} {xs : Nat → Int32} {z : Nat} {Φ : Out → T2 → T3 → Nat → Prop} {I : T2} {J : T3} {ls : List (Option Value)} (hz : z ≤ Z) (h : Φ (.inl none) I J z) : Ev_q d Z L xs mX2_begin 35 ls [] I J z Φ := Ev_q.ret none dX2_begin_35 rfl hz h rfl
theorem IX2_forgetPleas_4_q {d Z L : Nat} {xs : Nat → Int32} {z : Nat} {Φ : Out → T2 → T3 → Nat → Prop} {I : T2} {J : T3} {ls : List (Option Value)} {x y : Int32} {st : List Value} (kt : y ≤ x → Ev_q d Z L xs mX2_forgetPleas 23 ls st I J z Φ) (kf : ¬ (y ≤ x) → Ev_q d Z L xs mX2_forgetPleas 7 ls st I J z Φ) : Ev_q d Z L xs mX2_forgetPleas 4 ls (.int y :: .int x :: st) I J z Φ := Ev_q.ic 23 dX2_forgetPleas_4 rfl kt kf
theorem CX2_forgetPleas_14_q {d Z L : Nat} {xs : Nat → Int32} {z : Nat} {Φ : Out → T2 → T3 → Nat → Prop} {I : T2} {J : T3} {ls : List (Option Value)} {ap0 : Nat} {xp1 : Int32} {Ψ : Option Value → T2 → T3 → Prop} (hM : Mt_q d mJ7_fill_53178 [.ref ap0, .int xp1] I J Ψ) (hz : z ≤ Z) (k : ∀ v I' J', Ψ v I' J' → Ev_q (d + 1) Z L xs mX2_forgetPleas 17 ls (v.toList ++ []) I' J' z Φ) : Ev_q (d + 1) Z L xs mX2_forgetPleas 14 ls [.int xp1, .ref ap0] I J z Φ := Ev_q.callS (M := mX2_forgetPleas) (N := mJ7_fill_53178) (i := 37) (n := 2) (As := [.ref ap0, .int xp1]) (rest := []) hM dX2_forgetPleas_14 lbJ7_fill_53178 (Or.inl lS2_37) rfl rfl (by simp only [List.map_cons, List.map_nil, Value.category, List.sum_cons, List.sum_nil]; decide) rfl hz k
theorem RX2_forgetPleas_23_q {d Z L : Nat} {xs : Nat → Int32} {z : Nat} {Φ : Out → T2 → T3 → Nat → Prop} {I : T2} {J : T3} {ls : List (Option Value)} (hz : z ≤ Z) (h : Φ (.inl none) I J z) : Ev_q d Z L xs mX2_forgetPleas 23 ls [] I J z Φ := Ev_q.ret none dX2_forgetPleas_23 rfl hz h rfl
theorem RX3_begin_10_q {d Z L : Nat} {xs : Nat → Int32} {z : Nat} {Φ : Out → T2 → T3 → Nat → Prop} {I : T2} {J : T3} {ls : List (Option Value)} (hz : z ≤ Z) (h : Φ (.inl none) I J z) : Ev_q d Z L xs mX3_begin 10 ls [] I J z Φ := Ev_q.ret none dX3_begin_10 rfl hz h rfl
theorem RX5_begin_15_q {d Z L : Nat} {xs : Nat → Int32} {z : Nat} {Φ : Out → T2 → T3 → Nat → Prop} {I : T2} {J : T3} {ls : List (Option Value)} (hz : z ≤ Z) (h : Φ (.inl none) I J z) : Ev_q d Z L xs mX5_begin 15 ls [] I J z Φ := Ev_q.ret none dX5_begin_15 rfl hz h rfl
theorem CX6_begin_27_q {d Z L : Nat} {xs : Nat → Int32} {z : Nat} {Φ : Out → T2 → T3 → Nat → Prop} {I : T2} {J : T3} {ls : List (Option Value)} {xp0 : Int32} {Ψ : Option Value → T2 → T3 → Prop} (hM : Mt_q d mX2_begin (.ref 2 :: [.int xp0]) I J Ψ) (hz : z ≤ Z) (k : ∀ v I' J', Ψ v I' J' → Ev_q (d + 1) Z L xs mX6_begin 30 ls (v.toList ++ []) I' J' z Φ) : Ev_q (d + 1) Z L xs mX6_begin 27 ls [.int xp0, .ref 2] I J z Φ := Ev_q.callV (M := mX6_begin) (N := mX2_begin) (i := 77) (n := 1) (As := [.int xp0]) (rest := []) (o := 2) hM dX6_begin_27 lbX2_begin lV6_77 (by decide) rfl rfl (by simp only [List.map_cons, List.map_nil, Value.category, List.sum_cons, List.sum_nil]; decide) rfl hz k
theorem CX6_begin_34_q {d Z L : Nat} {xs : Nat → Int32} {z : Nat} {Φ : Out → T2 → T3 → Nat → Prop} {I : T2} {J : T3} {ls : List (Option Value)}  {Ψ : Option Value → T2 → T3 → Prop} (hM : Mt_q d mX3_begin (.ref 12 :: []) I J Ψ) (hz : z ≤ Z) (k : ∀ v I' J', Ψ v I' J' → Ev_q (d + 1) Z L xs mX6_begin 37 ls (v.toList ++ []) I' J' z Φ) : Ev_q (d + 1) Z L xs mX6_begin 34 ls [.ref 12] I J z Φ := Ev_q.callV (M := mX6_begin) (N := mX3_begin) (i := 79) (n := 0) (As := []) (rest := []) (o := 12) hM dX6_begin_34 lbX3_begin lV6_79 (by decide) rfl rfl (by simp only [List.map_cons, List.map_nil, Value.category, List.sum_cons, List.sum_nil]; decide) rfl hz k
theorem CX6_begin_41_q {d Z L : Nat} {xs : Nat → Int32} {z : Nat} {Φ : Out → T2 → T3 → Nat → Prop} {I : T2} {J : T3} {ls : List (Option Value)}  {Ψ : Option Value → T2 → T3 → Prop} (hM : Mt_q d mX0_begin (.ref 19 :: []) I J Ψ) (hz : z ≤ Z) (k : ∀ v I' J', Ψ v I' J' → Ev_q (d + 1) Z L xs mX6_begin 44 ls (v.toList ++ []) I' J' z Φ) : Ev_q (d + 1) Z L xs mX6_begin 41 ls [.ref 19] I J z Φ := Ev_q.callV (M := mX6_begin) (N := mX0_begin) (i := 81) (n := 0) (As := []) (rest := []) (o := 19) hM dX6_begin_41 lbX0_begin lV6_81 (by decide) rfl rfl (by simp only [List.map_cons, List.map_nil, Value.category, List.sum_cons, List.sum_nil]; decide) rfl hz k
theorem CX6_begin_49_q {d Z L : Nat} {xs : Nat → Int32} {z : Nat} {Φ : Out → T2 → T3 → Nat → Prop} {I : T2} {J : T3} {ls : List (Option Value)} {ap0 : Nat} {xp1 : Int32} {Ψ : Option Value → T2 → T3 → Prop} (hM : Mt_q d mJ7_fill_53178 [.ref ap0, .int xp1] I J Ψ) (hz : z ≤ Z) (k : ∀ v I' J', Ψ v I' J' → Ev_q (d + 1) Z L xs mX6_begin 52 ls (v.toList ++ []) I' J' z Φ) : Ev_q (d + 1) Z L xs mX6_begin 49 ls [.int xp1, .ref ap0] I J z Φ := Ev_q.callS (M := mX6_begin) (N := mJ7_fill_53178) (i := 82) (n := 2) (As := [.ref ap0, .int xp1]) (rest := []) hM dX6_begin_49 lbJ7_fill_53178 (Or.inl lS6_82) rfl rfl (by simp only [List.map_cons, List.map_nil, Value.category, List.sum_cons, List.sum_nil]; decide) rfl hz k
theorem IX6_begin_59_q {d Z L : Nat} {xs : Nat → Int32} {z : Nat} {Φ : Out → T2 → T3 → Nat → Prop} {I : T2} {J : T3} {ls : List (Option Value)} {x y : Int32} {st : List Value} (kt : y ≤ x → Ev_q d Z L xs mX6_begin 82 ls st I J z Φ) (kf : ¬ (y ≤ x) → Ev_q d Z L xs mX6_begin 62 ls st I J z Φ) : Ev_q d Z L xs mX6_begin 59 ls (.int y :: .int x :: st) I J z Φ := Ev_q.ic 82 dX6_begin_59 rfl kt kf
theorem CX6_begin_73_q {d Z L : Nat} {xs : Nat → Int32} {z : Nat} {Φ : Out → T2 → T3 → Nat → Prop} {I : T2} {J : T3} {ls : List (Option Value)} {yp0 : Int64} {ar0 : Nat} {Ψ : Option Value → T2 → T3 → Prop} (hk : kd_q ar0 = 1) (hM : Mt_q d mX1_begin (.ref ar0 :: [.long yp0]) I J Ψ) (hz : z ≤ Z) (k : ∀ v I' J', Ψ v I' J' → Ev_q (d + 1) Z L xs mX6_begin 76 ls (v.toList ++ []) I' J' z Φ) : Ev_q (d + 1) Z L xs mX6_begin 73 ls [.long yp0, .ref ar0] I J z Φ := Ev_q.callV (M := mX6_begin) (N := mX1_begin) (i := 88) (n := 1) (As := [.long yp0]) (rest := []) (o := ar0) hM dX6_begin_73 lbX1_begin lV6_88 hk rfl rfl (by simp only [List.map_cons, List.map_nil, Value.category, List.sum_cons, List.sum_nil]; decide) rfl hz k
theorem RX6_begin_82_q {d Z L : Nat} {xs : Nat → Int32} {z : Nat} {Φ : Out → T2 → T3 → Nat → Prop} {I : T2} {J : T3} {ls : List (Option Value)} (hz : z ≤ Z) (h : Φ (.inl none) I J z) : Ev_q d Z L xs mX6_begin 82 ls [] I J z Φ := Ev_q.ret none dX6_begin_82 rfl hz h rfl
theorem IJ7_fill_53178_7_q {d Z L : Nat} {xs : Nat → Int32} {z : Nat} {Φ : Out → T2 → T3 → Nat → Prop} {I : T2} {J : T3} {ls : List (Option Value)} {x y : Int32} {st : List Value} (kt : y ≤ x → Ev_q d Z L xs mJ7_fill_53178 20 ls st I J z Φ) (kf : ¬ (y ≤ x) → Ev_q d Z L xs mJ7_fill_53178 10 ls st I J z Φ) : Ev_q d Z L xs mJ7_fill_53178 7 ls (.int y :: .int x :: st) I J z Φ := Ev_q.ic 20 dJ7_fill_53178_7 rfl kt kf
theorem RJ7_fill_53178_20_q {d Z L : Nat} {xs : Nat → Int32} {z : Nat} {Φ : Out → T2 → T3 → Nat → Prop} {I : T2} {J : T3} {ls : List (Option Value)} (hz : z ≤ Z) (h : Φ (.inl none) I J z) : Ev_q d Z L xs mJ7_fill_53178 20 ls [] I J z Φ := Ev_q.ret none dJ7_fill_53178_20 rfl hz h rfl
section LF
variable {d : Nat} {I : T2} {J : T3}
theorem ln_le_q (o : Nat) : ln_q o ≤ 4800 := by
  unfold ln_q
  rw [List.getD_eq_getElem?_getD]
  cases h : lnL_q[o]? with
  | none => exact Nat.zero_le _
  | some n =>
    have h1 : ∀ n ∈ lnL_q, n ≤ 4800 := by decide +kernel
    exact h1 n (List.mem_of_getElem? h)
theorem sp_fill_q {a : Nat} (hk : kd_q a = 8) (v : Int32) : Mt_q d mJ7_fill_53178 [.ref a, .int v] I J (RV (upr I a (flr (I a) (ln_q a) v)) J) := by
  refine Mt_q.of (by decide +kernel) (Nat.le_of_ble_eq_true rfl) ?_
  refine BJ7_fill_53178_0_q hk ?_
  have hln := ln_le_q a
  have key : ∀ n i : Nat, i + n = ln_q a → Ev_q d 0 0 (fun _ => 0) mJ7_fill_53178 5 [some (.ref a), some (.int v), some (.int (nI i)), some (.int (nI (ln_q a)))] [] (upr I a (flr (I a) i v)) J 0 (fun o I' J' _ => ∃ w, o = .inl w ∧ RV (upr I a (flr (I a) (ln_q a) v)) J w I' J') := by
    intro n
    induction n with
    | zero =>
      intro i hi
      refine BJ7_fill_53178_5_q ?_
      refine IJ7_fill_53178_7_q (fun c => ?_) (fun c => ?_)
      · have e : i = ln_q a := by omega
        exact RJ7_fill_53178_20_q (Nat.le_refl _) ⟨_, rfl, by rw [e]; exact ⟨rfl, rfl, rfl⟩⟩
      · exact absurd (nI_le (show ln_q a ≤ i by omega) (by omega)) c
    | succ n ih =>
      intro i hi
      refine BJ7_fill_53178_5_q ?_
      refine IJ7_fill_53178_7_q (fun c => ?_) (fun c => ?_)
      · exact absurd c (nI_ge (show i < ln_q a by omega) (by omega))
      · refine BJ7_fill_53178_10_q hk (vp_in_nI (by omega) (by omega)) ?_
        rw [nI_1, nI_clamp (by omega), up2_upr, flr_s]
        exact ih (i + 1) (by omega)
  have h0 := key (ln_q a) 0 (by omega)
  rw [flr_0, upr_self] at h0
  exact h0
end LF
section SM
variable {d : Nat} {I : T2} {J : T3}
theorem sp_plBegin_q : Mt_q d mX3_begin [.ref 12] I J (RV (up2 (up2 I 12 1 0) 12 2 0) J) := by
  refine Mt_q.of (by decide +kernel) (Nat.le_of_ble_eq_true rfl) ?_
  refine BX3_begin_0_q  ?_
  exact RX3_begin_10_q  (Nat.zero_le _) ⟨_, rfl, ⟨rfl, rfl, rfl⟩⟩
end SM
section WY
variable {d : Nat} {I : T2} {J : T3}
theorem sp_wyBegin_q {a : Nat} (hk : kd_q a = 5) : Mt_q d mX5_begin [.ref a] I J (RV (up2 (up2 (up2 I a 5 0) a 6 0) a 7 0) J) := by
  refine Mt_q.of (by decide +kernel) (Nat.le_of_ble_eq_true rfl) ?_
  refine BX5_begin_0_q (by assumption) ?_
  exact RX5_begin_15_q  (Nat.zero_le _) ⟨_, rfl, ⟨rfl, rfl, rfl⟩⟩
end WY
section GT
variable {d : Nat} {I : T2} {J : T3}
theorem sp_gtBegin_q {a : Nat} (hk : kd_q a = 1) (t : Int64) : Mt_q (d + 1) mX1_begin [.ref a, .long t] I J (RV (up2 (up2 (up2 (upr (upr (upr (up2 (up2 (up2 (up2 (up2 (up2 I (a + 4) 5 0) (a + 4) 6 0) (a + 4) 7 0) (a + 9) 5 0) (a + 9) 6 0) (a + 9) 7 0) (a + 1) (flr (I (a + 1)) 3 0)) (a + 2) (flr (I (a + 2)) 3 0)) (a + 3) (flr (I (a + 3)) 3 0)) a 5 0) a 7 0) a 8 1) (up3 J a 6 t)) := by
  refine Mt_q.of (by decide +kernel) (Nat.le_of_ble_eq_true rfl) ?_
  refine BX1_begin_0_q hk ?_
  refine CX1_begin_4_q (kg_4_q hk) (sp_wyBegin_q (kg_4_q hk)) (Nat.zero_le _) (fun v I1 J1 q1 => ?_)
  obtain ⟨rfl, rfl, rfl⟩ := q1
  refine BX1_begin_7_q hk ?_
  refine CX1_begin_11_q (kg_9_q hk) (sp_wyBegin_q (kg_9_q hk)) (Nat.zero_le _) (fun v I1 J1 q1 => ?_)
  obtain ⟨rfl, rfl, rfl⟩ := q1
  refine BX1_begin_14_q hk ?_
  refine CX1_begin_19_q (sp_fill_q (kg_1_q hk) 0) (Nat.zero_le _) (fun v I1 J1 q1 => ?_)
  obtain ⟨rfl, rfl, rfl⟩ := q1
  rw [lg_1_q hk, up2_ne _ _ _ (by omega), up2_ne _ _ _ (by omega), up2_ne _ _ _ (by omega), up2_ne _ _ _ (by omega), up2_ne _ _ _ (by omega), up2_ne _ _ _ (by omega)]
  refine BX1_begin_22_q hk ?_
  refine CX1_begin_27_q (sp_fill_q (kg_2_q hk) 0) (Nat.zero_le _) (fun v I1 J1 q1 => ?_)
  obtain ⟨rfl, rfl, rfl⟩ := q1
  rw [lg_2_q hk, upr_ne _ _ (by omega), up2_ne _ _ _ (by omega), up2_ne _ _ _ (by omega), up2_ne _ _ _ (by omega), up2_ne _ _ _ (by omega), up2_ne _ _ _ (by omega), up2_ne _ _ _ (by omega)]
  refine BX1_begin_30_q hk ?_
  refine CX1_begin_35_q (sp_fill_q (kg_3_q hk) 0) (Nat.zero_le _) (fun v I1 J1 q1 => ?_)
  obtain ⟨rfl, rfl, rfl⟩ := q1
  rw [lg_3_q hk, upr_ne _ _ (by omega), upr_ne _ _ (by omega), up2_ne _ _ _ (by omega), up2_ne _ _ _ (by omega), up2_ne _ _ _ (by omega), up2_ne _ _ _ (by omega), up2_ne _ _ _ (by omega), up2_ne _ _ _ (by omega)]
  refine BX1_begin_38_q hk ?_
  exact RX1_begin_58_q (Nat.zero_le _) ⟨_, rfl, rfl, rfl, rfl⟩
end GT
section OF
variable {d : Nat} {I : T2} {J : T3}
theorem sp_forget_q : Mt_q (d + 1) mX2_forgetPleas [.ref 2] I J (RV (fgC I 3) J) := by
  refine Mt_q.of (by decide +kernel) (Nat.le_of_ble_eq_true rfl) ?_
  refine BX2_forgetPleas_0_q ?_
  have key : ∀ q k : Nat, k + q = 3 → Ev_q (d + 1) 0 0 (fun _ => 0) mX2_forgetPleas 2 [some (.ref 2), some (.int (nI k))] [] (fgC I k) J 0 (fun o I' J' _ => ∃ w, o = .inl w ∧ RV (fgC I 3) J w I' J') := by
    intro q
    induction q with
    | zero =>
      intro k hk2
      refine BX2_forgetPleas_2_q ?_
      refine IX2_forgetPleas_4_q (fun c => ?_) (fun c => ?_)
      · refine RX2_forgetPleas_23_q (Nat.zero_le _) ⟨_, rfl, rfl, ?_, rfl⟩
        rw [show k = 3 by omega]
      · exact absurd (show (3 : Int32) ≤ nI k from nI_le (a := 3) (by omega) (by omega)) c
    | succ q ih =>
      intro k hk2
      refine BX2_forgetPleas_2_q ?_
      refine IX2_forgetPleas_4_q (fun c => ?_) (fun c => ?_)
      · exact absurd c (show ¬ (3 : Int32) ≤ nI k from nI_ge (b := 3) (by omega) (by decide))
      · refine BX2_forgetPleas_7_q (vp_in_nI (by omega) (by decide)) ?_
        rw [nI_clamp (by omega)]
        refine CX2_forgetPleas_14_q (sp_fill_q (kr4_q (by omega)) 0) (Nat.zero_le _) (fun v I1 J1 q1 => ?_)
        obtain ⟨rfl, rfl, rfl⟩ := q1
        rw [lr4_q (by omega), fgC_o I k (fun j hj => by omega)]
        refine BX2_forgetPleas_17_q ?_
        rw [nI_1]
        exact ih (k + 1) (by omega)
  exact key 3 0 rfl
theorem sp_ofBegin_q (b : Int32) : Mt_q (d + 2) mX2_begin [.ref 2, .int b] I J (RV (ofC I b) J) := by
  refine Mt_q.of (by decide +kernel) (Nat.le_of_ble_eq_true rfl) ?_
  refine BX2_begin_0_q ?_
  rw [up2_k _ _ _ (by decide), up2_k _ _ _ (by decide), up2_k _ _ _ (by decide), up2_s]
  refine CX2_begin_28_q (sp_fill_q (by decide) b) (Nat.zero_le _) (fun v I1 J1 q1 => ?_)
  obtain ⟨rfl, rfl, rfl⟩ := q1
  rw [show ln_q 3 = 3 from rfl, up2_ne _ _ _ (by decide), up2_ne _ _ _ (by decide), up2_ne _ _ _ (by decide), up2_ne _ _ _ (by decide)]
  refine BX2_begin_31_q ?_
  refine CX2_begin_32_q (sp_forget_q) (Nat.zero_le _) (fun v I1 J1 q1 => ?_)
  obtain ⟨rfl, rfl, rfl⟩ := q1
  exact RX2_begin_35_q (Nat.zero_le _) ⟨_, rfl, rfl, rfl, rfl⟩
end OF
section AD
variable {d : Nat} {I : T2} {J : T3}
theorem sp_adBegin_q : Mt_q d mX0_begin [.ref 19] I J (RV (up2 (up2 (up2 I 19 2 0) 19 3 0) 19 4 0) J) := by
  refine Mt_q.of (by decide +kernel) (Nat.le_of_ble_eq_true rfl) ?_
  refine BX0_begin_0_q  ?_
  exact RX0_begin_15_q  (Nat.zero_le _) ⟨_, rfl, ⟨rfl, rfl, rfl⟩⟩
end AD
section DK3
variable {d : Nat} {I : T2} {J : T3} {G x : Nat}
theorem sp_begin_q (l w e g : Int32) : Mt_q (d + 3) mX6_begin [.ref 0, .int l, .int w, .int e, .int g] I J (fun v I' J' => v = none ∧ gbP (bg0 I l w e g) (up3 J 0 10 e.toInt64) e.toInt64 8 I' J') := by
  refine Mt_q.of (by decide +kernel) (Nat.le_of_ble_eq_true rfl) ?_
  refine BX6_begin_0_q ?_
  refine CX6_begin_27_q (sp_ofBegin_q l) (Nat.zero_le _) (fun v I1 J1 q1 => ?_)
  obtain ⟨rfl, rfl, rfl⟩ := q1
  refine BX6_begin_30_q ?_
  refine CX6_begin_34_q sp_plBegin_q (Nat.zero_le _) (fun v I1 J1 q1 => ?_)
  obtain ⟨rfl, rfl, rfl⟩ := q1
  refine BX6_begin_37_q ?_
  refine CX6_begin_41_q sp_adBegin_q (Nat.zero_le _) (fun v I1 J1 q1 => ?_)
  obtain ⟨rfl, rfl, rfl⟩ := q1
  refine BX6_begin_44_q ?_
  refine CX6_begin_49_q (sp_fill_q (by decide) 0) (Nat.zero_le _) (fun v I1 J1 q1 => ?_)
  obtain ⟨rfl, rfl, rfl⟩ := q1
  refine BX6_begin_52_q ?_
  have e22 : up2 (up2 (up2 (up2 (up2 (ofC (up2 (up2 (up2 I 0 7 g) 0 8 w) 0 9 e) l) 12 1 0) 12 2 0) 19 2 0) 19 3 0) 19 4 0 22 = I 22 := by
    rw [up2_ne _ _ _ (by decide), up2_ne _ _ _ (by decide), up2_ne _ _ _ (by decide), up2_ne _ _ _ (by decide), up2_ne _ _ _ (by decide), ofC_o (by decide) (by decide) (by decide) (by decide) (by decide), up2_ne _ _ _ (by decide), up2_ne _ _ _ (by decide), up2_ne _ _ _ (by decide)]
  rw [e22]
  have key : ∀ q k : Nat, k + q = 8 → ∀ (I2 : T2) (J2 : T3), gbP (bg0 I l w e g) (up3 J 0 10 e.toInt64) e.toInt64 k I2 J2 → Ev_q (d + 3) 0 0 (fun _ => 0) mX6_begin 55 [some (.ref 0), some (.int l), some (.int w), some (.int e), some (.int g), some (.int (nI k))] [] I2 J2 0 (fun o I' J' _ => ∃ w', o = .inl w' ∧ w' = none ∧ gbP (bg0 I l w e g) (up3 J 0 10 e.toInt64) e.toInt64 8 I' J') := by
    intro q
    induction q with
    | zero =>
      intro k hk I2 J2 hp
      refine BX6_begin_55_q ?_
      refine IX6_begin_59_q (fun c => ?_) (fun c => absurd (show (8 : Int32) ≤ nI k from nI_le (a := 8) (by omega) (by omega)) c)
      refine RX6_begin_82_q (Nat.zero_le _) ⟨_, rfl, rfl, ?_⟩
      rw [show k = 8 by omega] at hp
      exact hp
    | succ q ih =>
      intro k hk I2 J2 hp
      refine BX6_begin_55_q ?_
      refine IX6_begin_59_q (fun c => absurd c (show ¬ (8 : Int32) ≤ nI k from nI_ge (b := 8) (by omega) (by decide))) (fun c => ?_)
      refine BX6_begin_62_q (vp_in_nI (by omega) (by decide)) ?_
      have hkd : kd_q (gP k) = 1 := kgt_q (by omega)
      have eJ : J2 0 10 = e.toInt64 := by
        rw [hp.2.1 0 (fun x _ => by show 0 ≠ 24 + 14 * x; omega), up3_v, if_pos ⟨rfl, rfl⟩]
      rw [nI_clamp (by omega), eJ]
      refine CX6_begin_73_q hkd (sp_gtBegin_q hkd _) (Nat.zero_le _) (fun v I3 J3 q3 => ?_)
      obtain ⟨rfl, rfl, rfl⟩ := q3
      refine BX6_begin_76_q ?_
      rw [nI_1]
      exact ih (k + 1) (by omega) _ _ (gbP_s hp)
  exact key 8 0 rfl _ _ ⟨fun _ _ => rfl, fun _ _ => rfl, fun x hx => absurd hx (Nat.not_lt_zero _)⟩
end DK3
