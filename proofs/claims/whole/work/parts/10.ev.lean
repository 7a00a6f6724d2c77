/-! blocks, branches, ends -/
def rb (nL L : Nat) (xs : Nat → Int32) (ops : List OP) (a : AS) : Option (Prop × AS) := match ops with
  | [] => some (True, a)
  | op :: r => match stp nL L xs op a.1 a.2.1 a.2.2.1 a.2.2.2.1 a.2.2.2.2 with
    | some (G, a1) => match rb nL L xs r a1 with
      | some (G1, a2) => some (G ∧ G1, a2)
      | none => none
    | none => none
def nxt (op : OP) (pc : Nat) : Nat := match op.1 with
  | .goto _ => op.2.2.1
  | _ => pc + op.2.1
def chk (M : MD) (ops : List OP) (pc : Nat) : Bool := match ops with
  | [] => true
  | op :: r => decide (decode M.2.2.1 pc = .ok (op.1, op.2.1)) && (opOk M.1 op pc && chk M r (nxt op pc))
theorem stp_pc {nL L : Nat} {xs : Nat → Int32} {op : OP} {pc pc' : Nat} {ls ls' : List (Option Value)} {st st' : List Value} {I I' : T2} {J J' : T3} {G : Prop} (h : stp nL L xs op pc ls st I J = some (G, pc', ls', st', I', J')) : pc' = nxt op pc := by
  unfold stp at h
  split at h
  all_goals first
    | (cases h; done)
    | (cases h; rfl)
    | (obtain ⟨_, _, _, rfl, _⟩ := k_ld h; rfl)
    | (obtain ⟨_, _, _, _, _, rfl, _⟩ := k_is h; rfl)
    | (obtain ⟨_, _, _, _, _, rfl, _⟩ := k_as h; rfl)
    | (obtain ⟨_, _, _, _, _, rfl, _⟩ := k_ls h; rfl)
    | (obtain ⟨_, _, _, _, _, rfl, _⟩ := k_bi h; rfl)
    | (obtain ⟨_, _, _, _, _, rfl, _⟩ := k_bl h; rfl)
    | (unfold s_get at h; split at h <;> first | (cases h; done) | (split at h <;> first | (cases h; done) | (cases h; rfl)))
    | (unfold s_put at h; split at h <;> first | (cases h; done) | (cases h; rfl))
    | (unfold s_iald at h; split at h <;> first | (cases h; done) | (cases h; rfl))
    | (unfold s_alen at h; split at h <;> first | (cases h; done) | (cases h; rfl))
    | (split at h <;> first | (cases h; done) | (cases h; rfl) | (split at h <;> first | (cases h; done) | (cases h; rfl) | (split at h <;> first | (cases h; done) | (cases h; rfl))))
/-- how a method ends: it returns, or throws something of a class -/
abbrev Out : Type := Option Value ⊕ String
/-- the room for d calls more, Z things more -/
def Rm (R : Room) (d k0 w0 Z : Nat) : Prop := d + 3 ≤ R.frames ∧ 32 * d + 100 ≤ R.locals ∧ k0 + Z ≤ R.cells ∧ w0 + 6 * Z ≤ R.slots
def rtOk (ins : Instr) (v : Option Value) (ret : Option FieldType) : Prop := match ins, v with
  | .ireturn, some (.int x) => ret = some .int ∨ (ret = some .boolean ∧ (x = 0 ∨ x = 1))
  | .lreturn, some (.long _) => ret = some .long
  | .areturn, some (.ref _) => ∃ n, ret = some (.object n)
  | .return_, none => ret = none
  | _, _ => False
def RT (p : Program) (l : Launch) (e : Env) (R : Room) (s : State) (m : MethodId) (args : Array Value) (below : List Frame) (meth : Method) (c : Code) (Q : State → Prop) (D : va_G) (cy : Nat → ClassId) (b bs k0 w0 Z : Nat) (M : MD) (Φ : Out → T2 → T3 → Nat → Prop) : Prop :=
  ∀ (ins : Instr) (v : Option Value) (I' : T2) (J' : T3) (z' : Nat) (H' : Heap) (locs' : List Loc) (arr' : Array Slot) (pcr : Nat), Φ (.inl v) I' J' z' → z' ≤ Z → Rp D cy b I' J' s.heap H' locs' → decode M.2.2.1 pcr = .ok (ins, 1) → rtOk ins v M.2.2.2.2.1 → W p l e R s m args below meth c H' locs' (k0 + z') (w0 + 6 * z') Q (F0 m pcr arr' (v.toList.map (tr b bs)))
def TH (s : State) (args : Array Value) (below : List Frame) (Q : State → Prop) (D : va_G) (cy : Nat → ClassId) (b k0 w0 Z : Nat) (Φ : Out → T2 → T3 → Nat → Prop) : Prop :=
  (∀ E I' J' z', ¬ Φ (.inr E) I' J' z') ∨ ∃ (Qc : Array Value → State → Outcome → State → Prop) (XC : String → State → State → Prop), Q = vx_MQ below Qc XC args s Z (6 * Z) (fun q => b ≤ q) ∧ k0 = 0 ∧ w0 = 0 ∧ ∀ E I' J' z' t, Φ (.inr E) I' J' z' → va_P D vwCl (wl b 159 (En b cy I' J')) t.heap → va_F (fun q => b ≤ q) s t → XC E s t
/-- from this place of the method M on, in any machine, all goes well, and what comes out of it meets Φ -/
def Ev (d Z L : Nat) (xs : Nat → Int32) (M : MD) (pc : Nat) (ls : List (Option Value)) (st : List Value) (I : T2) (J : T3) (z : Nat) (Φ : Out → T2 → T3 → Nat → Prop) : Prop :=
  ∀ (l : Launch) (p : Program) (e : Env) (R : Room) (s : State) (m : MethodId) (args : Array Value) (below : List Frame) (meth : Method) (c : Code) (D : va_G) (cy : Nat → ClassId) (b bs k0 w0 : Nat) (Q : State → Prop), Cx l p s m args meth c D cy b bs L xs M → Rm R d k0 w0 Z → RT p l e R s m args below meth c Q D cy b bs k0 w0 Z M Φ → TH s args below Q D cy b k0 w0 Z Φ → KK p l e R s m args below meth c (k0 + z) (w0 + 6 * z) Q D cy b bs M.2.2.2.1 pc ls st I J
section E1
variable {d Z L : Nat} {xs : Nat → Int32} {M : MD} {pc pc' : Nat} {ls ls' : List (Option Value)} {st st' : List Value} {I I' : T2} {J J' : T3} {z : Nat} {Φ : Out → T2 → T3 → Nat → Prop} {G : Prop}
theorem Ev.blk {ops : List OP} (hc : chk M ops pc = true) (h : rb M.2.2.2.1 L xs ops (pc, ls, st, I, J) = some (G, pc', ls', st', I', J')) (hG : G) (k : Ev d Z L xs M pc' ls' st' I' J' z Φ) : Ev d Z L xs M pc ls st I J z Φ := by
  induction ops generalizing pc ls st I J G with
  | nil => cases h; exact k
  | cons op r ih =>
    unfold chk at hc
    rw [Bool.and_eq_true, Bool.and_eq_true] at hc
    obtain ⟨h1, h2, h3⟩ := hc
    unfold rb at h
    split at h
    · rename_i G0 a1 hs
      obtain ⟨pc1, ls1, st1, I1, J1⟩ := a1
      split at h
      · rename_i G1 a2 hr
        cases h
        have hp := stp_pc hs
        subst hp
        intro l p e R s m args below meth c D cy b bs k0 w0 Q C hRm hRT hTH H locs arr hR hl
        exact stp_ok C (of_decide_eq_true h1) h2 hs hG.1 hR hl (ih h3 hr hG.2 l p e R s m args below meth c D cy b bs k0 w0 Q C hRm hRT hTH)
      · cases h
    · cases h
def cmpI (o : ClassFile.Cond) (x y : Int32) : Prop := match o with
  | .eq => x = y
  | .ne => ¬ x = y
  | .lt => x < y
  | .ge => y ≤ x
  | .gt => y < x
  | .le => x ≤ y
def cmp0 (o : ClassFile.Cond) (x : Int32) : Prop := match o with
  | .eq => x = 0
  | .ne => ¬ x = 0
  | .lt => x < 0
  | .ge => 0 ≤ x
  | .gt => 0 < x
  | .le => x ≤ 0
theorem Ev.ic {o : ClassFile.Cond} {x y : Int32} {off : Int} (tgt : Nat) (hd : decode M.2.2.1 pc = .ok (.if_icmp o off, 3)) (ht : (pc : Int) + off = (tgt : Int)) (kt : cmpI o x y → Ev d Z L xs M tgt ls st I J z Φ) (kf : ¬ cmpI o x y → Ev d Z L xs M (pc + 3) ls st I J z Φ) : Ev d Z L xs M pc ls (.int y :: .int x :: st) I J z Φ := by
  intro l p e R s m args below meth c D cy b bs k0 w0 Q C hRm hRT hTH H locs arr hR hl
  have a := fun h => kt h l p e R s m args below meth c D cy b bs k0 w0 Q C hRm hRT hTH H locs arr hR hl
  have b' := fun h => kf h l p e R s m args below meth c D cy b bs k0 w0 Q C hRm hRT hTH H locs arr hR hl
  obtain ⟨hx, hb, -⟩ := C
  cases o
  · exact lv_icmp_eq hx hb hd ht a b'
  · exact lv_icmp_ne hx hb hd ht a (fun h => b' (fun q => q h))
  · exact lv_icmp_lt hx hb hd ht a b'
  · exact lv_icmp_ge hx hb hd ht a b'
  · exact lv_icmp_gt hx hb hd ht a b'
  · exact lv_icmp_le hx hb hd ht a b'
theorem Ev.i0 {o : ClassFile.Cond} {x : Int32} {off : Int} (tgt : Nat) (hd : decode M.2.2.1 pc = .ok (.ifCond o off, 3)) (ht : (pc : Int) + off = (tgt : Int)) (kt : cmp0 o x → Ev d Z L xs M tgt ls st I J z Φ) (kf : ¬ cmp0 o x → Ev d Z L xs M (pc + 3) ls st I J z Φ) : Ev d Z L xs M pc ls (.int x :: st) I J z Φ := by
  intro l p e R s m args below meth c D cy b bs k0 w0 Q C hRm hRT hTH H locs arr hR hl
  have a := fun h => kt h l p e R s m args below meth c D cy b bs k0 w0 Q C hRm hRT hTH H locs arr hR hl
  have b' := fun h => kf h l p e R s m args below meth c D cy b bs k0 w0 Q C hRm hRT hTH H locs arr hR hl
  obtain ⟨hx, hb, -⟩ := C
  cases o
  · exact lv_if_eq hx hb hd ht a b'
  · exact lv_if_ne hx hb hd ht a (fun h => b' (fun q => q h))
  · exact lv_if_lt hx hb hd ht a b'
  · exact lv_if_ge hx hb hd ht a b'
  · exact lv_if_gt hx hb hd ht a b'
  · exact lv_if_le hx hb hd ht a b'
theorem Ev.ret {ins : Instr} (v : Option Value) (hd : decode M.2.2.1 pc = .ok (ins, 1)) (ho : rtOk ins v M.2.2.2.2.1) (hz : z ≤ Z) (h : Φ (.inl v) I J z) (hst : st = v.toList) : Ev d Z L xs M pc ls st I J z Φ := by
  intro l p e R s m args below meth c D cy b bs k0 w0 Q C hRm hRT hTH H locs arr hR hl
  subst hst
  exact hRT ins v I J z H locs arr pc h hz hR hd ho
theorem Ev.mono {Φ' : Out → T2 → T3 → Nat → Prop} (h : Ev d Z L xs M pc ls st I J z Φ) (hΦ : ∀ o I' J' z', Φ o I' J' z' → Φ' o I' J' z') : Ev d Z L xs M pc ls st I J z Φ' := by
  intro l p e R s m args below meth c D cy b bs k0 w0 Q C hRm hRT hTH
  refine h l p e R s m args below meth c D cy b bs k0 w0 Q C hRm (fun ins v I' J' z' H' locs' arr' pcr q => hRT ins v I' J' z' H' locs' arr' pcr (hΦ _ _ _ _ q)) ?_
  rcases hTH with h1 | ⟨Qc, XC, h1, h2, h3, h4⟩
  · exact Or.inl fun E I' J' z' q => h1 E I' J' z' (hΦ _ _ _ _ q)
  · exact Or.inr ⟨Qc, XC, h1, h2, h3, fun E I' J' z' t q => h4 E I' J' z' t (hΦ _ _ _ _ q)⟩
end E1
/-! contracts -/
def rmD (d Z : Nat) : Room := { frames := d + 3, cells := Z, slots := 6 * Z, locals := 32 * d + 100 }
def Pcm (D : va_G) (cy : Nat → ClassId) (b : Nat) (As : List Value) (I : T2) (J : T3) : Array Value → State → Prop := fun a U => a = (As.map (tr b 0)).toArray ∧ KS D cy b U U.heap ∧ va_P D vwCl (wl b 159 (En b cy I J)) U.heap
def Qcm (D : va_G) (cy : Nat → ClassId) (b : Nat) (Ψ : Option Value → T2 → T3 → Prop) : Array Value → State → Outcome → State → Prop := fun _ st o t => (∃ (v : Option Value) (I' : T2) (J' : T3), o = .returned (v.map (tr b 0)) ∧ (∀ w, v = some w → notRA w = true) ∧ Ψ v I' J' ∧ va_P D vwCl (wl b 159 (En b cy I' J')) t.heap) ∧ va_F (fun q => b ≤ q) st t
def wsM (M : MD) : List Cond := .code M.2.1 M.2.2.1 M.2.2.2.1 M.2.2.2.2.1 :: wAll
/-- a method that returns: from the state (I, J) with the arguments As it comes back, and its answer and the state behind it meet Ψ -/
def Mt (d : Nat) (M : MD) (As : List Value) (I : T2) (J : T3) (Ψ : Option Value → T2 → T3 → Prop) : Prop :=
  ∀ (l : Launch) (D : va_G) (cy : Nat → ClassId) (b : Nat), l.stackTraces = false → Met l M.2.1 (wsM M) (rmD d 0) (Pcm D cy b As I J) (Qcm D cy b Ψ) 0 0 (fun q => b ≤ q)
theorem KS.moved {D : va_G} {cy : Nat → ClassId} {b : Nat} {s U : State} {H H1 : Heap} (hW : s.WarmedH U.vm) (h : KS D cy b s H) (hq : ∀ a : Nat, a < H.size → ¬ b ≤ a → H1[a]? = H[a]?) : KS D cy b U H1 := by
  obtain ⟨h1, h2, h3, h4, h5⟩ := h
  refine ⟨va_K.moved hW.alike h1, fun w hw => ?_, vx_Zq.kept (vx_Zq.moved hW.alike h3) hq, vx_Zq.kept (vx_Zq.moved hW.alike h4) hq, fun x hx y hy hne => (h5 x hx y hy hne).moved hW.alike⟩
  have hn := (List.mem_filter.mp hw).2
  have h2 := h2 w hw
  unfold isNest at hn
  split at hn
  · exact va_Nw.warmF hW h2
  · exact va_Nw.warmM hW h2
  · exact va_Nw.warmD hW h2
  · exact va_Nw.warmC hW h2
  · cases hn
theorem KS.same {D : va_G} {cy : Nat → ClassId} {b : Nat} {s U : State} {H : Heap} (hv : s.vm = U.vm) (h : KS D cy b s H) : KS D cy b U H := by
  obtain ⟨h1, h2, h3, h4, h5⟩ := h
  have ha : s.vm.Alike U.vm := by rw [hv]; exact Vm.Alike.refl _
  refine ⟨va_K.moved ha h1, fun w hw => ?_, vx_Zq.moved ha h3, vx_Zq.moved ha h4, fun x hx y hy hne => (h5 x hx y hy hne).moved ha⟩
  have hn := (List.mem_filter.mp hw).2
  have h2 := h2 w hw
  unfold isNest at hn
  split at hn
  · exact va_Nw.same rfl hv h2
  · exact va_Nw.same rfl hv h2
  · exact va_Nw.same rfl hv h2
  · exact va_Nw.same rfl hv h2
  · cases hn
theorem Pcm.blind {D : va_G} {cy : Nat → ClassId} {b : Nat} {As : List Value} {I : T2} {J : T3} : FrameBlind (Pcm D cy b As I J) := by
  intro a U g mk h
  obtain ⟨h1, h2, h3⟩ := h
  exact ⟨h1, KS.same (s := U) rfl h2, h3⟩
/-- the locals at the entry -/
def lsA (As : List Value) : List (Option Value) := As.flatMap fun v => if v.category = 2 then [some v, none] else [some v]
def lsE (nL : Nat) (As : List Value) : List (Option Value) := lsA As ++ List.replicate (nL - (lsA As).length) none
