/-! the world while it is made -/
def blk (k : Nat) : List Value := match k with
  | 0 => [.null, .null, .int 0, .int 0, .int 0]
  | 1 => [.null, .null, .null, .null, .null, .int 0, .long 0, .int 0, .int 0]
  | 2 => [.null, .null, .null, .int 0, .int 0, .int 0, .int 0]
  | 3 => [.null, .int 0, .int 0]
  | 4 => [.null, .null, .null, .null, .int 0]
  | 5 => [.int 0, .null, .null, .null, .null, .int 0, .int 0, .int 0]
  | 6 => [.null, .null, .null, .null, .null, .null, .null, .int 0, .int 0, .int 0, .long 0]
  | 7 => [.int 0, .int 0, .int 0, .int 0, .int 0, .long 0, .int 0, .int 0, .int 0, .null, .null, .null, .null, .null, .null, .null, .null, .null, .null, .null, .null, .null, .null, .null, .int 0, .null, .null, .int 0, .null, .null, .null, .null]
  | _ => []
theorem blk_tr {k : Nat} (h : k < 8) (b : Nat) : (blk k).map (tr b 0) = blk k := by
  rcases (show k = 0 ∨ k = 1 ∨ k = 2 ∨ k = 3 ∨ k = 4 ∨ k = 5 ∨ k = 6 ∨ k = 7 by omega) with rfl | rfl | rfl | rfl | rfl | rfl | rfl | rfl <;> rfl
theorem blk_ok {k : Nat} (h : k < 8) : ∀ j, j < cN k → defaultValue (cTy k j) = vp_V (blk k) j := by
  rcases (show k = 0 ∨ k = 1 ∨ k = 2 ∨ k = 3 ∨ k = 4 ∨ k = 5 ∨ k = 6 ∨ k = 7 by omega) with rfl | rfl | rfl | rfl | rfl | rfl | rfl | rfl <;> decide +kernel
/-- what there is at the end, before begin -/
def gI0 : T2 := fun o j => if kd o = 5 ∧ j = 0 then nI ((o - 24) / 14) else 0
def gJ0 : T3 := fun _ _ => 0
def gF (b : Nat) (cy : Nat → ClassId) : Nat → va_E := En b cy gI0 gJ0
/-- below o what there was, at o an object in the making, behind it what F says -/
def Cn (b : Nat) (F E : Nat → va_E) (o k : Nat) (fs : List Value) : Nat → va_E := fun q => if q = o then .inr (k, fs.map (tr b 0)) else if q < o then E q else F q
theorem Cn_at {b : Nat} {F E : Nat → va_E} {o k : Nat} {fs : List Value} : Cn b F E o k fs o = .inr (k, fs.map (tr b 0)) := if_pos rfl
theorem Cn_lo {b : Nat} {F E : Nat → va_E} {o k q : Nat} {fs : List Value} (h : q < o) : Cn b F E o k fs q = E q := by
  unfold Cn
  rw [if_neg (by omega), if_pos h]
theorem Cn_hi {b : Nat} {F E : Nat → va_E} {o k q : Nat} {fs : List Value} (h : o < q) : Cn b F E o k fs q = F q := by
  unfold Cn
  rw [if_neg (by omega), if_neg (by omega)]
theorem Cn_up {b : Nat} {F E : Nat → va_E} {o k : Nat} {fs fs' : List Value} (q : Nat) : va_up (Cn b F E o k fs) o (.inr (k, fs'.map (tr b 0))) q = Cn b F E o k fs' q := by
  by_cases h : q = o
  · subst h
    rw [va_up_self, Cn_at]
  · rw [va_up_ne _ _ h]
    unfold Cn
    rw [if_neg h, if_neg h]
theorem gF_8 {b : Nat} {cy : Nat → ClassId} {o : Nat} (h : kd o = 8) : gF b cy o = .inl (cy 0, ln o, .inl (fun _ => 0)) := by
  show en b cy o (gI0 o) (gJ0 o) = _
  rw [en_8 h]
  have e : gI0 o = fun _ => 0 := by funext j; unfold gI0; rw [if_neg (fun z => absurd (h.symm.trans z.1) (by decide))]
  rw [e]
theorem gF_9 {b : Nat} {cy : Nat → ClassId} {o : Nat} (h : kd o = 9) : gF b cy o = .inl (cy 1, ln o, .inr (.inl (fun _ => 0))) := by
  show en b cy o (gI0 o) (gJ0 o) = _
  rw [en_9 h]
  rfl
theorem gF_10 {b : Nat} {cy : Nat → ClassId} {o : Nat} (h : kd o = 10) : gF b cy o = .inl (cy 2, ln o, .inl (fun _ => 0)) := by
  show en b cy o (gI0 o) (gJ0 o) = _
  rw [en_10 h]
  have e : gI0 o = fun _ => 0 := by funext j; unfold gI0; rw [if_neg (fun z => absurd (h.symm.trans z.1) (by decide))]
  rw [e]
theorem gF_12 {b : Nat} {cy : Nat → ClassId} {o : Nat} (h : kd o = 12) : gF b cy o = .inl (cy 4, ln o, .inr (.inr (.inr (.inr (fun k => some (b + (o + 1 + k))))))) := by
  show en b cy o (gI0 o) (gJ0 o) = _
  rw [en_12 h]
theorem gF_obj {b : Nat} {cy : Nat → ClassId} {o k : Nat} (h : kd o = k) (hk : k < 8) : gF b cy o = .inr (k, (fls k o (gI0 o) (gJ0 o)).map (tr b 0)) := by
  show en b cy o (gI0 o) (gJ0 o) = _
  rw [en_obj h hk]
def Gw (D : va_G) (b n : Nat) (E : Nat → va_E) (H0 H : Heap) (locs : List Loc) : Prop := va_P D vwCl (wl b n E) H ∧ H.size = b + n ∧ va_S (fun q => b ≤ q) H0 H locs
section G0
variable {D : va_G} {b n : Nat} {E E' : Nat → va_E} {H0 H H1 : Heap} {locs locs1 : List Loc}
theorem wl_grow (hP : va_P D vwCl (wl b n E) H) (h1 : ∀ q, q < b + n → H1[q]? = H[q]?) (hx : va_at D vwCl (b + n, E n) H1) : va_P D vwCl (wl b (n + 1) E) H1 := by
  intro k q hq
  have hk : k < n + 1 := by have := (List.getElem?_eq_some_iff.mp hq).1; rw [wl_len] at this; exact this
  rw [wl_get hk] at hq
  cases hq
  by_cases h : k < n
  · exact (hP k _ (wl_get h)).kept (h1 (b + k) (by omega))
  · obtain rfl : k = n := by omega
    exact hx
theorem Gw.grow (h : Gw D b n E H0 H locs) (z : H1.size = b + n + 1) (h1 : ∀ q, q < b + n → H1[q]? = H[q]?) (hx : va_at D vwCl (b + n, E n) H1) : Gw D b (n + 1) E H0 H1 locs :=
  ⟨wl_grow h.1 h1 hx, z, Nat.le_trans h.2.2.1 (by have := h.2.1; omega), fun q a1 a2 => (h1 q (by have := h.2.2.1; have := h.2.1; omega)).trans (h.2.2.2.1 q a1 a2), h.2.2.2.2⟩
theorem Gw.congr (h : Gw D b n E H0 H locs) (hE : ∀ q, q < n → E q = E' q) : Gw D b n E' H0 H locs := by
  refine ⟨?_, h.2⟩
  rw [← wl_congr hE]
  exact h.1
theorem Gw.put {o : Nat} {e0 : va_E} (h1 : va_P D vwCl ((wl b n E).set o (b + o, e0)) H1) (z : H1.size = b + n) (h2 : va_S (fun q => b ≤ q) H0 H1 locs1) : Gw D b n (va_up E o e0) H0 H1 locs1 := by
  refine ⟨?_, z, h2⟩
  rw [wl_set] at h1
  exact h1
end G0
/-- where the machine goes on, in a world that grows -/
abbrev GK (p : Program) (l : Launch) (e : Env) (R : Room) (s : State) (m : MethodId) (args : Array Value) (below : List Frame) (meth : Method) (c : Code) (cells slots : Nat) (Q : State → Prop) (D : va_G) (b bs nL pc : Nat) (ls : List (Option Value)) (st : List Value) (n : Nat) (E : Nat → va_E) : Prop :=
  ∀ (H : Heap) (locs : List Loc) (arr : Array Slot), Gw D b n E s.heap H locs → lvh arr nL b bs ls → W p l e R s m args below meth c H locs cells slots Q (F0 m pc arr (st.map (tr b bs)))
section G1
variable {p : Program} {l : Launch} {e : Env} {R : Room} {s : State} {m : MethodId} {args : Array Value} {below : List Frame} {meth : Method} {c : Code} {cells slots : Nat} {Q : State → Prop}
variable {D : va_G} {cy : Nat → ClassId} {b bs L : Nat} {xs : Nat → Int32} {M : MD} {pc n : Nat} {ls : List (Option Value)} {st : List Value} {E E' : Nat → va_E}
theorem GK.congr (hE : ∀ q, q < n → E q = E' q) (kk : GK p l e R s m args below meth c cells slots Q D b bs M.2.2.2.1 pc ls st n E') : GK p l e R s m args below meth c cells slots Q D b bs M.2.2.2.1 pc ls st n E :=
  fun H locs arr hG hl => kk H locs arr (hG.congr hE) hl
theorem GK.aload {k : Fin 4} {x : Nat} (C : Cx l p s m args meth c D cy b bs L xs M) (hd : decode M.2.2.1 pc = .ok (.aload_n k, 1)) (hv : ls[(k : Nat)]? = some (some (.ref x))) (kk : GK p l e R s m args below meth c cells slots Q D b bs M.2.2.2.1 (pc + 1) ls (.ref x :: st) n E) : GK p l e R s m args below meth c cells slots Q D b bs M.2.2.2.1 pc ls st n E :=
  fun H locs arr hG hl => lv_aload_n C.1 C.2.1 hd rfl (hl.at hv) (kk H locs arr hG hl)
theorem GK.iload {k : Fin 4} {x : Int32} (C : Cx l p s m args meth c D cy b bs L xs M) (hd : decode M.2.2.1 pc = .ok (.iload_n k, 1)) (hv : ls[(k : Nat)]? = some (some (.int x))) (kk : GK p l e R s m args below meth c cells slots Q D b bs M.2.2.2.1 (pc + 1) ls (.int x :: st) n E) : GK p l e R s m args below meth c cells slots Q D b bs M.2.2.2.1 pc ls st n E :=
  fun H locs arr hG hl => lv_iload_n C.1 C.2.1 hd rfl (hl.at hv) (kk H locs arr hG hl)
theorem GK.iconst {i : Int} (v : Int32) (C : Cx l p s m args meth c D cy b bs L xs M) (hd : decode M.2.2.1 pc = .ok (.iconst i, 1)) (hv : Int32.ofInt i = v) (kk : GK p l e R s m args below meth c cells slots Q D b bs M.2.2.2.1 (pc + 1) ls (.int v :: st) n E) : GK p l e R s m args below meth c cells slots Q D b bs M.2.2.2.1 pc ls st n E :=
  fun H locs arr hG hl => lv_iconst C.1 C.2.1 hd hv (kk H locs arr hG hl)
theorem GK.bipush {i : Int} (v : Int32) (C : Cx l p s m args meth c D cy b bs L xs M) (hd : decode M.2.2.1 pc = .ok (.bipush i, 2)) (hv : (Int8.ofInt i).toInt32 = v) (kk : GK p l e R s m args below meth c cells slots Q D b bs M.2.2.2.1 (pc + 2) ls (.int v :: st) n E) : GK p l e R s m args below meth c cells slots Q D b bs M.2.2.2.1 pc ls st n E :=
  fun H locs arr hG hl => lv_bipush C.1 C.2.1 hd hv (kk H locs arr hG hl)
theorem GK.sipush {i : Int} (v : Int32) (C : Cx l p s m args meth c D cy b bs L xs M) (hd : decode M.2.2.1 pc = .ok (.sipush i, 3)) (hv : (Int16.ofInt i).toInt32 = v) (kk : GK p l e R s m args below meth c cells slots Q D b bs M.2.2.2.1 (pc + 3) ls (.int v :: st) n E) : GK p l e R s m args below meth c cells slots Q D b bs M.2.2.2.1 pc ls st n E :=
  fun H locs arr hG hl => lv_sipush C.1 C.2.1 hd hv (kk H locs arr hG hl)
theorem GK.dup {x : Nat} (C : Cx l p s m args meth c D cy b bs L xs M) (hd : decode M.2.2.1 pc = .ok (.dup, 1)) (kk : GK p l e R s m args below meth c cells slots Q D b bs M.2.2.2.1 (pc + 1) ls (.ref x :: .ref x :: st) n E) : GK p l e R s m args below meth c cells slots Q D b bs M.2.2.2.1 pc ls (.ref x :: st) n E :=
  fun H locs arr hG hl => lv_dup (va := .ref (b + x)) C.1 C.2.1 hd rfl (kk H locs arr hG hl)
theorem GK.istore_n {k : Fin 4} {x : Int32} (C : Cx l p s m args meth c D cy b bs L xs M) (hd : decode M.2.2.1 pc = .ok (.istore_n k, 1)) (ho : okst ls k = true) (hn : (k : Nat) < M.2.2.2.1) (kk : GK p l e R s m args below meth c cells slots Q D b bs M.2.2.2.1 (pc + 1) (ls.set k (some (.int x))) st n E) : GK p l e R s m args below meth c cells slots Q D b bs M.2.2.2.1 pc ls (.int x :: st) n E :=
  fun H locs _ hG hl => lv_istore_n C.1 C.2.1 hd rfl hl.has hn rfl (fun ls' h3 => kk H locs ls' hG (lvh.st1 (v := .int x) ho h3))
theorem GK.istore {i : Nat} {x : Int32} (C : Cx l p s m args meth c D cy b bs L xs M) (hd : decode M.2.2.1 pc = .ok (.istore i, 2)) (ho : okst ls i = true) (hn : i < M.2.2.2.1) (kk : GK p l e R s m args below meth c cells slots Q D b bs M.2.2.2.1 (pc + 2) (ls.set i (some (.int x))) st n E) : GK p l e R s m args below meth c cells slots Q D b bs M.2.2.2.1 pc ls (.int x :: st) n E :=
  fun H locs _ hG hl => lv_istore C.1 C.2.1 hd hl.has hn rfl (fun ls' h3 => kk H locs ls' hG (lvh.st1 (v := .int x) ho h3))
theorem GK.astore {k : Fin 4} {x : Nat} (C : Cx l p s m args meth c D cy b bs L xs M) (hd : decode M.2.2.1 pc = .ok (.astore_n k, 1)) (ho : okst ls k = true) (hn : (k : Nat) < M.2.2.2.1) (kk : GK p l e R s m args below meth c cells slots Q D b bs M.2.2.2.1 (pc + 1) (ls.set k (some (.ref x))) st n E) : GK p l e R s m args below meth c cells slots Q D b bs M.2.2.2.1 pc ls (.ref x :: st) n E :=
  fun H locs _ hG hl => lv_astore_n C.1 C.2.1 hd rfl hl.has hn rfl (fun ls' h3 => kk H locs ls' hG (lvh.st1 (v := .ref x) ho h3))
theorem GK.iinc {i : Nat} {j : Int} {x v : Int32} (C : Cx l p s m args meth c D cy b bs L xs M) (hd : decode M.2.2.1 pc = .ok (.iinc i j, 3)) (hv : ls[i]? = some (some (.int x))) (hj : x + Int32.ofInt j = v) (ho : okst ls i = true) (hn : i < M.2.2.2.1) (kk : GK p l e R s m args below meth c cells slots Q D b bs M.2.2.2.1 (pc + 3) (ls.set i (some (.int v))) st n E) : GK p l e R s m args below meth c cells slots Q D b bs M.2.2.2.1 pc ls st n E := by
  intro H locs arr hG hl
  obtain ⟨k, hk⟩ := List.getElem?_of_mem (asc_mem (b := b) (bs := bs) (q := (_, .int _)).mpr ⟨_, hv, rfl⟩)
  exact lv_iinc C.1 C.2.1 hd hl.has hk hj hn rfl (fun ls' h3 => kk H locs ls' hG (lvh.st1 (v := .int v) ho h3))
theorem GK.goto {off : Int} (tgt : Nat) (C : Cx l p s m args meth c D cy b bs L xs M) (hd : decode M.2.2.1 pc = .ok (.goto off, 3)) (ht : (pc : Int) + off = (tgt : Int)) (kk : GK p l e R s m args below meth c cells slots Q D b bs M.2.2.2.1 tgt ls st n E) : GK p l e R s m args below meth c cells slots Q D b bs M.2.2.2.1 pc ls st n E :=
  fun H locs arr hG hl => lv_goto C.1 C.2.1 hd ht (kk H locs arr hG hl)
theorem GK.icmp_ge {x y : Int32} {off : Int} (tgt : Nat) (C : Cx l p s m args meth c D cy b bs L xs M) (hd : decode M.2.2.1 pc = .ok (.if_icmp .ge off, 3)) (ht : (pc : Int) + off = (tgt : Int)) (kt : y ≤ x → GK p l e R s m args below meth c cells slots Q D b bs M.2.2.2.1 tgt ls st n E) (kf : ¬ y ≤ x → GK p l e R s m args below meth c cells slots Q D b bs M.2.2.2.1 (pc + 3) ls st n E) : GK p l e R s m args below meth c cells slots Q D b bs M.2.2.2.1 pc ls (.int y :: .int x :: st) n E :=
  fun H locs arr hG hl => lv_icmp_ge C.1 C.2.1 hd ht (fun h => kt h H locs arr hG hl) (fun h => kf h H locs arr hG hl)
/-- java.lang.Object's constructor -/
theorem GK.obj {i x : Nat} (C : Cx l p s m args meth c D cy b bs L xs M) (hd : decode M.2.2.1 pc = .ok (.invokespecial i, 3)) (h1 : Cond.methodLink (cC M.1) i Lib.objectInit ∈ wAll) (hf : 1 ≤ R.frames) (hlo : 20 ≤ R.locals) (kk : GK p l e R s m args below meth c cells slots Q D b bs M.2.2.2.1 (pc + 3) ls [] n E) : GK p l e R s m args below meth c cells slots Q D b bs M.2.2.2.1 pc ls [.ref x] n E := by
  intro H locs arr hG hl
  obtain ⟨hx, hb, hml, hown, hr, hlk, hts, -⟩ := C
  refine W.objInit hx hb hown (hts _ h1) (hts (.instanceMethod Lib.objectInit) (by decide +kernel)) (hts (.code Lib.objectInit ⟨#[0xb1]⟩ 1 none) (by decide +kernel)) rfl (hl.1.trans hml.symm) rfl hd hf ?_ (kk H locs arr hG hl)
  have := lv_room (m := m) (pc := pc) (ls := arr) (rest := [.ref (b + x)]) (st := []) (by decide)
  show 2 * (F0 m pc arr [.ref (b + x)]).monitorRoom + 0 + 12 ≤ R.locals
  have e0 : (([] : List Value).map fun v => v.category).sum = 0 := rfl
  rw [e0] at this
  omega
theorem GK.new {i : Nat} (k : Nat) (C : Cx l p s m args meth c D cy b bs L xs M) (hd : decode M.2.2.1 pc = .ok (.new i, 3)) (hk : k < 8) (hl0 : Cond.classLink (cC M.1) i (cC k) ∈ wAll) (h1 : Cond.instantiable (cC k) (cN k) ∈ wAll) (h2 : Cond.initialized (cC k) ∈ wAll) (hc : cells + 1 ≤ R.cells) (hs : slots + cN k ≤ R.slots) (he : E n = .inr (k, (blk k).map (tr b 0)))
    (kk : GK p l e R s m args below meth c (cells + 1) (slots + cN k) Q D b bs M.2.2.2.1 (pc + 3) ls (.ref n :: st) (n + 1) E) : GK p l e R s m args below meth c cells slots Q D b bs M.2.2.2.1 pc ls st n E := by
  intro H locs arr hG hl
  obtain ⟨hx, hb, hml, hown, hr, hlk, hts, hK, -⟩ := C
  have hKn := hK.1.1 k _ (cl_at hk)
  refine W.newcK hx hb hown (hts _ hl0) (hts _ h1) (hts _ h2) rfl hd hc hs hKn.2.1 hG.2.1 fun H1 kC hkC e1 z1 o1 => ?_
  refine kk H1 locs arr (hG.grow z1 o1 ?_) hl
  rw [he, blk_tr hk]
  exact ⟨_, cl_at hk, (u_born (cTy k) hts (cT_in hk) hKn hkC e1 (cTy_ok hk)).to (blk_ok hk)⟩
theorem GK.newa {at0 : ArrayType} {ty : FieldType} {v : Int32} {N t : Nat} {a0 : vp_A} (C : Cx l p s m args meth c D cy b bs L xs M) (hd : decode M.2.2.1 pc = .ok (.newarray at0, 2)) (hty : newarray.typeOf at0 = ty) (hp : ty = .int ∨ ty = .long ∨ ty = .boolean) (ht : (tyl cy)[t]? = some (cy t, ty)) (ha : ∀ cA : ClassId, vp_cell cA a0 = arrV cA N (fun _ => defaultValue ty)) (hw : Cond.arrayClass ty ∈ wAll) (hn : ¬ v < 0) (hN : v.toNatClampNeg = N) (hby : N ≤ 60000) (hc : cells + 1 ≤ R.cells) (hs : slots + N ≤ R.slots) (he : E n = .inl (cy t, a0))
    (kk : GK p l e R s m args below meth c (cells + 1) (slots + N) Q D b bs M.2.2.2.1 (pc + 2) ls (.ref n :: st) (n + 1) E) : GK p l e R s m args below meth c cells slots Q D b bs M.2.2.2.1 pc ls (.int v :: st) n E := by
  intro H locs arr hG hl
  obtain ⟨hx, hb, hml, hown, hr, hlk, hts, hK, -⟩ := C
  subst hty
  have hcb : componentBytes (newarray.typeOf at0) ≤ 8 := by rcases hp with h | h | h <;> rw [h] <;> decide
  refine va_newaK hx hb (hts _ hw) rfl hd rfl hn hN (by have := Nat.mul_le_mul hby hcb; omega) hc hs hG.2.1 fun H1 cA e1 z1 o1 hAr hNm => ?_
  have hcA : cA = cy t := by
    have h3 := (hK.1.2 t _ ht).2
    have h4 : s.vm.findClass ("[" ++ (newarray.typeOf at0).toString) = some (cy t) := by
      rcases hp with h | h | h <;> rw [h] at h3 ⊢ <;> exact h3
    exact Option.some.inj (hNm.symm.trans h4)
  subst hcA
  refine kk H1 locs arr (hG.grow z1 o1 ?_) hl
  rw [he]
  show H1[b + n]? = some (vp_cell _ _)
  rw [ha]
  exact e1
theorem GK.newq {i : Nat} {v : Int32} {N : Nat} (C : Cx l p s m args meth c D cy b bs L xs M) (hAO : va_AO "QuotaDesk$Gate" s) (hd : decode M.2.2.1 pc = .ok (.anewarray i, 3)) (hl0 : Cond.classLink (cC M.1) i "QuotaDesk$Gate" ∈ wAll) (hn : ¬ v < 0) (hN : v.toNatClampNeg = N) (hby : N ≤ 60000) (hc : cells + 1 ≤ R.cells) (hs : slots + N ≤ R.slots) (he : E n = .inl (cy 3, N, .inr (.inr (.inr (.inr (fun _ => none))))))
    (kk : GK p l e R s m args below meth c (cells + 1) (slots + N) Q D b bs M.2.2.2.1 (pc + 3) ls (.ref n :: st) (n + 1) E) : GK p l e R s m args below meth c cells slots Q D b bs M.2.2.2.1 pc ls (.int v :: st) n E := by
  intro H locs arr hG hl
  obtain ⟨hx, hb, hml, hown, hr, hlk, hts, hK, -⟩ := C
  subst hN
  refine W.anew hx hb hown (hts _ hl0) (va_AO.use hAO) rfl hd rfl hn (by omega) hc hs fun cA kA comp f1 f2 f3 f4 => ?_
  have hcA : cA = cy 3 := by
    obtain ⟨kA', comp', -, -, -, h4⟩ := (hK.1.2 3 (cy 3, .object "QuotaDesk$Gate") rfl).2
    exact Option.some.inj (f1.symm.trans h4)
  subst hcA
  generalize hH1 : H.push ({ cls := cy 3, slots := Array.replicate v.toNatClampNeg .null, vm := .none } : Cell) = H1
  have z1 : H1.size = b + n + 1 := by rw [← hH1, Array.size_push, hG.2.1]
  have e1 : H1[b + n]? = some (arrV (cy 3) v.toNatClampNeg (fun _ => .null)) := by rw [← hG.2.1, ← hH1, Array.getElem?_push_size, ← arrV_new]
  have o1 : ∀ q : Nat, q < b + n → H1[q]? = H[q]? := fun q hq => by rw [← hH1, Array.getElem?_push, if_neg (by rw [hG.2.1]; exact Nat.ne_of_lt hq)]
  have k1 := kk H1 locs arr (hG.grow z1 o1 (by
    rw [he]
    exact e1)) hl
  have eH : H.size = b + n := hG.2.1
  rw [eH]
  exact k1
/-- a field is set in a constructor -/
theorem GK.putF {i k j o : Nat} {v : Value} {fs : List Value} (C : Cx l p s m args meth c D cy b bs L xs M) (hin2 : meth.name = "<init>") (hd : decode M.2.2.1 pc = .ok (.putfield i, 3)) (hL : (M.1, i, k, j) ∈ lfA) (hf : (cT k j).2.2.2 = true) (hM : (cT k j).1 = cC M.1) (ho : o < n) (he : E o = .inr (k, fs.map (tr b 0))) (hj : j < fs.length) (hnr : narrow (cTy k j) (tr b bs v) = tr b bs v) (hfit : fits (cTy k j) (tr b bs v) = true) (hv : notRA v = true)
    (kk : GK p l e R s m args below meth c cells slots Q D b bs M.2.2.2.1 (pc + 3) ls st n (va_up E o (.inr (k, (fs.set j v).map (tr b 0))))) : GK p l e R s m args below meth c cells slots Q D b bs M.2.2.2.1 pc ls (v :: .ref o :: st) n E := by
  intro H locs arr hG hl
  obtain ⟨hx, hb, hml, hown, hr, hlk, hts, hK, -⟩ := C
  obtain ⟨hk8, hjN, hdec⟩ := lfT_k _ (List.mem_append_left _ hL)
  dsimp only at hk8 hjN hdec
  have hat : (wl b n E)[o]? = some (b + o, .inr (k, fs.map (tr b 0))) := by rw [wl_get ho, he]
  have hlen : j < (fs.map (tr b 0)).length := by rw [List.length_map]; exact hj
  have hD := wl_D b n E
  have hap := va_apart (own := cC M.1) hts (cT_in hk8) (cTy k) (cTy_ok hk8) (cT_nm hk8) hK.1 (cl_at hk8)
  obtain ⟨r, h1, cell, q1, q2, q3, q4⟩ := hG.1 o _ hat
  have hr' : r = (cC k, cT k, cN k) := Option.some.inj (h1.symm.trans (cl_at hk8))
  subst hr'
  obtain ⟨hS, hfc, kC, hkC, hkind⟩ := hK.1.1 k _ (cl_at hk8)
  obtain ⟨cf, kf, fi, f, hi, hsl⟩ := hS j hjN
  have hlay := hts _ (cT_in hk8 _ (u_in_lay hjN))
  unfold u_lay at hlay
  rw [if_pos hf] at hlay
  have hst := (u_facts hfc hkC (u_lays hts (cT_in hk8) hjN) hi).1
  have hcf : m.cls = cf := by
    obtain ⟨_, _, c', _, _, _, -, -, hf', -, -, -, hown2, -⟩ := Cond.laysFinal_spec hlay
    have e1 : c' = cf := by have := hi.symm.trans hf'; simp at this; exact this.1.symm
    rw [hM] at hown2
    rw [← e1]; exact Option.some.inj (hown.symm.trans hown2)
  have h6 := u_fits hfc hkC hkind (Or.inr hlay) hi (cTy_ok hk8 j hjN) hnr hfit
  refine W.putFinK hx hb hown (hts _ (lfA_ok _ hL)) (by rw [← hdec]; exact hi) hst hcf hin2 (by rw [q2]; exact h6) q1 q3 (by rw [hsl]; exact k2_hasslot (q4 j hjN)) rfl rfl hd fun H' e1 e2 e3 => ?_
  rw [hsl] at e1 ⊢
  refine kk H' _ arr (Gw.put (o := o) ?_ (e2.trans hG.2.1) (hG.2.2.put e2 e3 (hD.2 o _ hat))) hl
  have h9 := hG.1.set hD hat (e := .inr (k, (fs.map (tr b 0)).set j (tr b bs v))) ⟨_, cl_at hk8, t_OB.to (V := updV (vp_V (fs.map (tr b 0))) j (tr b bs v)) ⟨_, e1, q2, q3, t_set q4 hap hjN (tr b bs v)⟩ (fun x _ => vp_updV_set hlen (tr b bs v) x)⟩ e3
  rw [List.map_set, tr_notRA hv b 0 bs]
  exact h9
/-- a final field is read -/
theorem GK.get {i k j o : Nat} {v : Value} {fs : List Value} (C : Cx l p s m args meth c D cy b bs L xs M) (hd : decode M.2.2.1 pc = .ok (.getfield i, 3)) (hL : (M.1, i, k, j) ∈ lfA) (ho : o < n) (he : E o = .inr (k, fs.map (tr b 0))) (hj : fs[j]? = some v) (hv : notRA v = true)
    (kk : GK p l e R s m args below meth c cells slots Q D b bs M.2.2.2.1 (pc + 3) ls (v :: st) n E) : GK p l e R s m args below meth c cells slots Q D b bs M.2.2.2.1 pc ls (.ref o :: st) n E := by
  intro H locs arr hG hl
  obtain ⟨hx, hb, hml, hown, hr, hlk, hts, hK, -⟩ := C
  obtain ⟨hk8, hjN, hdec⟩ := lfT_k _ (List.mem_append_left _ hL)
  dsimp only at hk8 hjN hdec
  have hat : (wl b n E)[o]? = some (b + o, .inr (k, fs.map (tr b 0))) := by rw [wl_get ho, he]
  have hv' : (fs.map (tr b 0))[j]? = some (tr b bs v) := by
    rw [List.getElem?_map, hj]
    show some (tr b 0 v) = _
    rw [tr_notRA hv b 0 bs]
  refine va_get (C := cC k) (T := cT k) (N := cN k) (ci := k) (own := cC M.1) (ref := cC k) hx hb hts (cT_in hk8) hown hK.1 hG.1 o hat (cl_at hk8) j hjN (hts _ (lfA_ok _ hL)) (fun x hx => ?_) hv' hd (kk H locs arr hG hl)
  rw [← hdec]; exact hx
/-- a gate is put into the row of gates -/
theorem GK.aast {g o q : Nat} {v : Int32} {N : Nat} {f : Nat → Option Nat} {fs : List Value} (C : Cx l p s m args meth c D cy b bs L xs M) (hd : decode M.2.2.1 pc = .ok (.aastore, 1)) (ho : o < n) (he : E o = .inl (cy 3, N, .inr (.inr (.inr (.inr f))))) (hq : q < n) (heq : E q = .inr (1, fs)) (hvi : vp_in v N) (hg : v.toNatClampNeg = g)
    (kk : GK p l e R s m args below meth c cells slots Q D b bs M.2.2.2.1 (pc + 1) ls st n (va_up E o (.inl (cy 3, N, .inr (.inr (.inr (.inr (va_up f g (some (b + q)))))))))) : GK p l e R s m args below meth c cells slots Q D b bs M.2.2.2.1 pc ls (.ref q :: .int v :: .ref o :: st) n E := by
  intro H locs arr hG hl
  obtain ⟨hx, hb, hml, hown, hr, hlk, hts, hK, -⟩ := C
  subst hg
  have hD := wl_D b n E
  have ha : (wl b n E)[o]? = some (b + o, .inl (cy 3, N, .inr (.inr (.inr (.inr f))))) := by rw [wl_get ho, he]
  have hv : (wl b n E)[q]? = some (b + q, .inr (1, fs)) := by rw [wl_get hq, heq]
  have hlt : v.toNatClampNeg < N := Nat.not_le.mp fun z => hvi (Or.inr z)
  have h0 : ¬ v < 0 := fun z => hvi (Or.inl z)
  obtain ⟨r', hr', cellV, g1, g2, g3, -⟩ := hG.1 q _ hv
  have hcls := (hK.1.1 1 _ (cl_at (k := 1) (by decide))).2
  obtain ⟨kA, comp, k1, k2, k3, -⟩ := (hK.1.2 3 (cy 3, .object "QuotaDesk$Gate") rfl).2
  have hcomp : comp = D.1 1 := Option.some.inj (k3.symm.trans hcls.1)
  subst hcomp
  obtain ⟨kC, hkC, -⟩ := hcls.2
  refine W.aast hx hb (hG.1 o _ ha) (fun z h => by cases h) (fun h => by cases h) k1 k2 rfl hkC ⟨h0, by show _ < (arrV _ _ _).slots.size; rw [arrV_size]; exact hlt⟩ g1 (fun z h => by rw [g3] at h; cases h) (by rw [g2]; exact hkC) (by rw [g2]; exact va_assign hcls) rfl rfl hd fun H1 e1 z1 oq => ?_
  refine kk H1 _ arr (Gw.put (o := o) (hG.1.set hD ha ?_ oq) (z1.trans hG.2.1) (hG.2.2.put z1 oq (hD.2 o _ ha))) hl
  show H1[b + o]? = some (vp_cell _ _)
  rw [e1]
  rw [vp_cell_q, vp_cell_q, arrV_store]
  congr 2
  funext x
  by_cases hq : x = v.toNatClampNeg
  · subst hq
    simp [updV, va_up, va_rf]
  · simp [updV, va_up, hq]
end G1
