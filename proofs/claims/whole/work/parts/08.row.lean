/-! the step function is right: each of its instructions by a row of the kit -/
/-- a method: its class's number, its name, its code, its locals, what it returns, its handlers -/
abbrev MD : Type := Nat × MethodName × ByteArray × Nat × Option FieldType × List (Nat × Nat × Nat × Nat)
def asc (b bs : Nat) (ls : List (Option Value)) : List (Nat × Value) := (List.range ls.length).filterMap (fun i => match ls[i]? with
  | some (some v) => some (i, tr b bs v)
  | _ => none)
theorem asc_mem {b bs : Nat} {ls : List (Option Value)} {q : Nat × Value} : q ∈ asc b bs ls ↔ ∃ v, ls[q.1]? = some (some v) ∧ q.2 = tr b bs v := by
  obtain ⟨i, w⟩ := q
  unfold asc
  rw [List.mem_filterMap]
  constructor
  · rintro ⟨j, -, h⟩
    split at h
    · rename_i v hv
      cases h
      exact ⟨v, hv, rfl⟩
    · cases h
  · rintro ⟨v, h1, h2⟩
    dsimp only at h1 h2
    subst h2
    refine ⟨i, List.mem_range.mpr (List.getElem?_eq_some_iff.mp h1).1, ?_⟩
    rw [h1]
theorem lvh.has {arr : Array Slot} {nL b bs : Nat} {ls : List (Option Value)} (h : lvh arr nL b bs ls) : lv_has arr nL (asc b bs ls) :=
  ⟨h.1, h.2.1, fun q hq => by
    obtain ⟨v, h1, h2⟩ := asc_mem.mp hq
    rw [h2]
    exact h.2.2 _ _ h1⟩
theorem lvh.at {arr : Array Slot} {nL b bs : Nat} {ls : List (Option Value)} (h : lvh arr nL b bs ls) {i : Nat} {v : Value} (hv : ls[i]? = some (some v)) : arr[i]? = some (.val (tr b bs v)) := h.2.2 i v hv
theorem okst_no {ls : List (Option Value)} {i j : Nat} {v : Value} (h : okst ls i = true) (hj : j + 1 = i) (hv : ls[j]? = some (some v)) : (v.category == 2) = false := by
  subst hj
  have h : (match ls[j]? with
    | some (some (.long _)) => false
    | some (some (.double _)) => false
    | _ => true) = true := h
  rw [hv] at h
  cases v <;> first | rfl | cases h
theorem lvh.st1 {arr' : Array Slot} {nL b bs i : Nat} {ls : List (Option Value)} {v : Value} (hok : okst ls i = true) (h : lv_has arr' nL ((i, tr b bs v) :: (asc b bs ls).filter (fun q => !(q.1 == i) && !(q.1 + 1 == i && q.2.category == 2)))) : lvh arr' nL b bs (ls.set i (some v)) := by
  refine ⟨h.1, h.2.1, fun j w hw => ?_⟩
  by_cases hj : i = j
  · subst hj
    have hlt : i < ls.length := by
      have := (List.getElem?_eq_some_iff.mp hw).1
      rwa [List.length_set] at this
    rw [List.getElem?_set_self hlt] at hw
    cases hw
    exact h.2.2 _ List.mem_cons_self
  · rw [List.getElem?_set_ne hj] at hw
    refine h.2.2 (j, tr b bs w) (List.mem_cons_of_mem _ (List.mem_filter.mpr ⟨asc_mem.mpr ⟨w, hw, rfl⟩, ?_⟩))
    have h1 : (j == i) = false := by simpa using fun q => hj q.symm
    simp only [h1, Bool.not_false, Bool.true_and, Bool.not_eq_true']
    by_cases h2 : j + 1 = i
    · rw [tr_cat, okst_no hok h2 hw, Bool.and_false]
    · have h3 : (j + 1 == i) = false := by simpa using h2
      rw [h3, Bool.false_and]
theorem lvh.st2 {arr' : Array Slot} {nL b bs i : Nat} {ls : List (Option Value)} {v : Value} (hok : okst ls i = true) (h : lv_has arr' nL ((i, tr b bs v) :: (asc b bs ls).filter (fun q => !(q.1 == i) && (!(q.1 == i + 1) && !(q.1 + 1 == i && q.2.category == 2))))) : lvh arr' nL b bs ((ls.set i (some v)).set (i + 1) none) := by
  refine ⟨h.1, h.2.1, fun j w hw => ?_⟩
  have hne : i + 1 ≠ j := by
    intro e
    subst e
    have hlt : i + 1 < (ls.set i (some v)).length := by
      have := (List.getElem?_eq_some_iff.mp hw).1
      rwa [List.length_set] at this
    rw [List.getElem?_set_self hlt] at hw
    cases hw
  rw [List.getElem?_set_ne hne] at hw
  by_cases hj : i = j
  · subst hj
    have hlt : i < ls.length := by
      have := (List.getElem?_eq_some_iff.mp hw).1
      rwa [List.length_set] at this
    rw [List.getElem?_set_self hlt] at hw
    cases hw
    exact h.2.2 _ List.mem_cons_self
  · rw [List.getElem?_set_ne hj] at hw
    refine h.2.2 (j, tr b bs w) (List.mem_cons_of_mem _ (List.mem_filter.mpr ⟨asc_mem.mpr ⟨w, hw, rfl⟩, ?_⟩))
    have h1 : (j == i) = false := by simpa using fun q => hj q.symm
    have h4 : (j == i + 1) = false := by simpa using fun q => hne q.symm
    simp only [h1, h4, Bool.not_false, Bool.true_and, Bool.not_eq_true']
    by_cases h2 : j + 1 = i
    · rw [tr_cat, okst_no hok h2 hw, Bool.and_false]
    · have h3 : (j + 1 == i) = false := by simpa using h2
      rw [h3, Bool.false_and]
theorem en_obj {b : Nat} {cy : Nat → ClassId} {o k : Nat} (h : kd o = k) (hk : k < 8) (r : Nat → Int32) (y : Nat → Int64) : en b cy o r y = .inr (k, (fls k o r y).map (tr b 0)) := by
  unfold en
  rw [h]
  rcases (show k = 0 ∨ k = 1 ∨ k = 2 ∨ k = 3 ∨ k = 4 ∨ k = 5 ∨ k = 6 ∨ k = 7 by omega) with rfl | rfl | rfl | rfl | rfl | rfl | rfl | rfl <;> rfl
theorem en_8 {b : Nat} {cy : Nat → ClassId} {o : Nat} (h : kd o = 8) (r : Nat → Int32) (y : Nat → Int64) : en b cy o r y = .inl (cy 0, ln o, .inl r) := by
  unfold en
  rw [h]
  rfl
theorem en_9 {b : Nat} {cy : Nat → ClassId} {o : Nat} (h : kd o = 9) (r : Nat → Int32) (y : Nat → Int64) : en b cy o r y = .inl (cy 1, ln o, .inr (.inl y)) := by
  unfold en
  rw [h]
  rfl
theorem en_10 {b : Nat} {cy : Nat → ClassId} {o : Nat} (h : kd o = 10) (r : Nat → Int32) (y : Nat → Int64) : en b cy o r y = .inl (cy 2, ln o, .inl r) := by
  unfold en
  rw [h]
  rfl
theorem en_11 {b : Nat} {cy : Nat → ClassId} {o : Nat} (h : kd o = 11) (r : Nat → Int32) (y : Nat → Int64) : en b cy o r y = .inl (cy 3, ln o, .inr (.inr (.inr (.inr (fun k => some (b + (24 + 14 * k))))))) := by
  unfold en
  rw [h]
  rfl
theorem en_12 {b : Nat} {cy : Nat → ClassId} {o : Nat} (h : kd o = 12) (r : Nat → Int32) (y : Nat → Int64) : en b cy o r y = .inl (cy 4, ln o, .inr (.inr (.inr (.inr (fun k => some (b + (o + 1 + k))))))) := by
  unfold en
  rw [h]
  rfl
/-- what stands through the whole body of a method -/
def Cx (l : Launch) (p : Program) (s : State) (m : MethodId) (args : Array Value) (meth : Method) (c : Code) (D : va_G) (cy : Nat → ClassId) (b bs L : Nat) (xs : Nat → Int32) (M : MD) : Prop :=
  p.tables.exec = Jvm.exec ∧ c.code = M.2.2.1 ∧ c.maxLocals = M.2.2.2.1 ∧ s.vm.findClass (cC M.1) = some m.cls ∧ meth.sig.returnType = M.2.2.2.2.1 ∧ meth.locks = false ∧ (∀ w ∈ wAll, w.before args s = true) ∧ KS D cy b s s.heap ∧ (0 < L → va_X bs L xs s s.heap ∧ bs < s.heap.size ∧ ¬ b ≤ bs) ∧ l.stackTraces = false ∧ c.exceptionTable.toList = tableOf M.2.2.2.2.2
section R1
variable {p : Program} {l : Launch} {e : Env} {R : Room} {s : State} {m : MethodId} {args : Array Value} {below : List Frame} {meth : Method} {c : Code} {H : Heap} {locs : List Loc} {cells slots : Nat} {Q : State → Prop}
variable {D : va_G} {cy : Nat → ClassId} {b bs L : Nat} {xs : Nat → Int32} {M : MD} {I : T2} {J : T3} {arr : Array Slot} {pc : Nat}
theorem Rp.put2 {o j : Nat} {x : Int32} {e0 : va_E} {H1 : Heap} {locs1 : List Loc} (he : en b cy o (upd (I o) j x) (J o) = e0) (h1 : va_P D vwCl ((wl b 159 (En b cy I J)).set o (b + o, e0)) H1) (h2 : va_S (fun q => b ≤ q) s.heap H1 locs1) : Rp D cy b (up2 I o j x) J s.heap H1 locs1 := by
  refine ⟨?_, h2⟩
  rw [wl_set, ← he, wl_congr (fun a _ => En_up2 a)] at h1
  exact h1
theorem Rp.putr {o : Nat} {r : Nat → Int32} {e0 : va_E} {H1 : Heap} {locs1 : List Loc} (he : en b cy o r (J o) = e0) (h1 : va_P D vwCl ((wl b 159 (En b cy I J)).set o (b + o, e0)) H1) (h2 : va_S (fun q => b ≤ q) s.heap H1 locs1) : Rp D cy b (upr I o r) J s.heap H1 locs1 := by
  refine ⟨?_, h2⟩
  rw [wl_set, ← he, wl_congr (fun a _ => En_upr a)] at h1
  exact h1
theorem Rp.put3 {o j : Nat} {x : Int64} {e0 : va_E} {H1 : Heap} {locs1 : List Loc} (he : en b cy o (I o) (vp_updL (J o) j x) = e0) (h1 : va_P D vwCl ((wl b 159 (En b cy I J)).set o (b + o, e0)) H1) (h2 : va_S (fun q => b ≤ q) s.heap H1 locs1) : Rp D cy b I (up3 J o j x) s.heap H1 locs1 := by
  refine ⟨?_, h2⟩
  rw [wl_set, ← he, wl_congr (fun a _ => En_up3 a)] at h1
  exact h1
theorem Rp.at {o k : Nat} {e0 : va_E} (hk : kd o = k) (hk9 : k < 99) (he : en b cy o (I o) (J o) = e0) : (wl b 159 (En b cy I J))[o]? = some (b + o, e0) := by
  rw [wl_get (kd_lt hk hk9)]
  show some (b + o, en b cy o (I o) (J o)) = _
  rw [he]
theorem r_get {i k j : Nat} {o : Nat} {v : Value} {rest : List Value} (C : Cx l p s m args meth c D cy b bs L xs M) (hR : Rp D cy b I J s.heap H locs) (hL : (M.1, i, k, j) ∈ lfT) (hk : kd o = k) (hv : (fls k o (I o) (J o))[j]? = some v) (hd : decode M.2.2.1 pc = .ok (.getfield i, 3))
    (kk : W p l e R s m args below meth c H locs cells slots Q (F0 m (pc + 3) arr (tr b bs v :: rest))) : W p l e R s m args below meth c H locs cells slots Q (F0 m pc arr (.ref (b + o) :: rest)) := by
  obtain ⟨hx, hb, hml, hown, hr, hlk, hts, hK, -⟩ := C
  obtain ⟨hk8, hj, hdec⟩ := lfT_k _ hL
  dsimp only at hk8 hj hdec
  have hat := Rp.at (b := b) (cy := cy) (I := I) (J := J) hk (by omega) (en_obj hk hk8 (I o) (J o))
  have hv' : ((fls k o (I o) (J o)).map (tr b 0))[j]? = some (tr b bs v) := by
    rw [List.getElem?_map, hv]
    show some (tr b 0 v) = _
    rw [fls_tr hv b 0 bs]
  rcases List.mem_append.mp hL with h | h
  · refine va_get (C := cC k) (T := cT k) (N := cN k) (ci := k) (own := cC M.1) (ref := cC k) hx hb hts (cT_in hk8) hown hK.1 hR.1 o hat (cl_at hk8) j hj (hts _ (lfA_ok _ h)) (fun x hx => ?_) hv' hd kk
    rw [← hdec]; exact hx
  · refine va_getN (C := cC k) (T := cT k) (N := cN k) (ci := k) (own := cC M.1) (ref := cC k) (host := "QuotaDesk") hx hb hts (cT_in hk8) hown hK.1 hR.1 o hat (cl_at hk8) j hj (va_Nw.use rfl (hK.2.1 _ (lfB_ok _ h))) (fun x hx => ?_) hv' hd kk
    rw [← hdec]; exact hx
theorem r_put {i k j : Nat} {o : Nat} {v : Value} {rest : List Value} {I' : T2} {J' : T3} (C : Cx l p s m args meth c D cy b bs L xs M) (hR : Rp D cy b I J s.heap H locs) (hL : (M.1, i, k, j) ∈ lfT) (hf : (cT k j).2.2.2 = false) (hk : kd o = k) (hn : narrow (cTy k j) v = v) (hfit : fits (cTy k j) v = true) (hd : decode M.2.2.1 pc = .ok (.putfield i, 3))
    (hst : ∀ (H1 : Heap) (locs1 : List Loc), va_P D vwCl ((wl b 159 (En b cy I J)).set o (b + o, .inr (k, ((fls k o (I o) (J o)).map (tr b 0)).set j v))) H1 → va_S (fun q => b ≤ q) s.heap H1 locs1 → Rp D cy b I' J' s.heap H1 locs1)
    (kk : ∀ (H1 : Heap) (locs1 : List Loc), Rp D cy b I' J' s.heap H1 locs1 → W p l e R s m args below meth c H1 locs1 cells slots Q (F0 m (pc + 3) arr rest)) : W p l e R s m args below meth c H locs cells slots Q (F0 m pc arr (v :: .ref (b + o) :: rest)) := by
  obtain ⟨hx, hb, hml, hown, hr, hlk, hts, hK, -⟩ := C
  obtain ⟨hk8, hj, hdec⟩ := lfT_k _ hL
  dsimp only at hk8 hj hdec
  have hat := Rp.at (b := b) (cy := cy) (I := I) (J := J) hk (by omega) (en_obj hk hk8 (I o) (J o))
  have hlen : j < ((fls k o (I o) (J o)).map (tr b 0)).length := by rw [List.length_map, fls_len hk8]; exact hj
  rcases List.mem_append.mp hL with h | h
  · refine va_put (C := cC k) (T := cT k) (N := cN k) (ci := k) (own := cC M.1) (ref := cC k) hx hb hts (cT_in hk8) (cTy k) (cTy_ok hk8) (cT_nm hk8) hown hK.1 hR.1 (wl_D b 159 _) hR.2 o hat (cl_at hk8) j hj (hts _ (lfA_ok _ h)) (fun x hx => ?_) hf (cTy_ok hk8 j hj) hn hfit hlen hd (fun H1 locs1 h1 h2 h3 => kk H1 locs1 (hst H1 locs1 h1 h3))
    rw [← hdec]; exact hx
  · refine va_putN (C := cC k) (T := cT k) (N := cN k) (ci := k) (own := cC M.1) (ref := cC k) (host := "QuotaDesk") hx hb hts (cT_in hk8) (cTy k) (cTy_ok hk8) (cT_nm hk8) hown hK.1 hR.1 (wl_D b 159 _) hR.2 o hat (cl_at hk8) j hj (va_Nw.use rfl (hK.2.1 _ (lfB_ok _ h))) (fun x hx => ?_) hf (cTy_ok hk8 j hj) hn hfit hlen hd (fun H1 locs1 h1 h2 h3 => kk H1 locs1 (hst H1 locs1 h1 h3))
    rw [← hdec]; exact hx
theorem nb_narrow {x : Int32} (h : x = 0 ∨ x = 1) : narrow .boolean (.int x) = .int x ∧ fits .boolean (.int x) = true ∧ vp_nar .boolean x = x := by
  rcases h with rfl | rfl <;> exact ⟨by decide, by decide, by decide⟩
theorem set_int {k j o : Nat} (hk : kd o = k) (hk8 : k < 8) (h : (k, j) ∈ ifT) (x : Int32) : en b cy o (upd (I o) j x) (J o) = .inr (k, ((fls k o (I o) (J o)).map (tr b 0)).set j (.int x)) := by
  rw [en_obj hk hk8, (fls_int h o (I o) (J o) x).1, List.map_set]
  rfl
theorem set_long {k j o : Nat} (hk : kd o = k) (hk8 : k < 8) (h : (k, j) ∈ jfT) (x : Int64) : en b cy o (I o) (vp_updL (J o) j x) = .inr (k, ((fls k o (I o) (J o)).map (tr b 0)).set j (.long x)) := by
  rw [en_obj hk hk8, (fls_long h o (I o) (J o) x).1, List.map_set]
  rfl
end R1
