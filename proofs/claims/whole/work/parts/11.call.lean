/-! from Ev to a contract; calls -/
theorem lsA_at {b : Nat} : ∀ (As : List Value) (i : Nat) (v : Value), (lsA As)[i]? = some (some v) → (lg_sl (As.map (tr b 0)))[i]? = some (.val (tr b 0 v)) := by
  intro As
  induction As with
  | nil => intro i v h; simp [lsA] at h
  | cons a r ih =>
    intro i v h
    have e1 : lsA (a :: r) = (if a.category = 2 then [some a, none] else [some a]) ++ lsA r := by simp [lsA]
    have e2 : lg_sl ((a :: r).map (tr b 0)) = (if a.category = 2 then [.val (tr b 0 a), .second] else [.val (tr b 0 a)]) ++ lg_sl (r.map (tr b 0)) := by simp [lg_sl, tr_cat]
    rw [e1] at h
    rw [e2]
    by_cases hc : a.category = 2
    · rw [if_pos hc] at h ⊢
      match i, h with
      | 0, h => simp at h; subst h; rfl
      | 1, h => simp at h
      | i + 2, h => simp at h ⊢; exact ih i v h
    · rw [if_neg hc] at h ⊢
      match i, h with
      | 0, h => simp at h; subst h; rfl
      | i + 1, h => simp at h ⊢; exact ih i v h
theorem lsA_len (b : Nat) (As : List Value) : (lg_sl (As.map (tr b 0))).length = (lsA As).length := by
  induction As with
  | nil => rfl
  | cons a r ih =>
    have e1 : lsA (a :: r) = (if a.category = 2 then [some a, none] else [some a]) ++ lsA r := by simp [lsA]
    have e2 : lg_sl ((a :: r).map (tr b 0)) = (if a.category = 2 then [.val (tr b 0 a), .second] else [.val (tr b 0 a)]) ++ lg_sl (r.map (tr b 0)) := by simp [lg_sl, tr_cat]
    rw [e1, e2, List.length_append, List.length_append, ih]
    by_cases hc : a.category = 2 <;> simp [hc]
theorem lvh_entry {b nL : Nat} {As : List Value} (h : (lsA As).length ≤ nL) : lvh ((lg_sl (As.map (tr b 0)) ++ List.replicate (nL - (lg_sl (As.map (tr b 0))).length) Slot.unset).toArray) nL b 0 (lsE nL As) := by
  have hh := lv_entry (As.map (tr b 0)) (n := nL) (by rw [lsA_len]; exact h)
  refine ⟨hh.1, hh.2.1, fun i v hv => ?_⟩
  unfold lsE at hv
  by_cases hi : i < (lsA As).length
  · rw [List.getElem?_append_left hi] at hv
    have h2 := lsA_at (b := b) As i v hv
    rw [List.getElem?_toArray, List.getElem?_append_left (by rw [lsA_len]; exact hi)]
    exact h2
  · rw [List.getElem?_append_right (by omega)] at hv
    have := List.mem_of_getElem? hv
    have h3 := (List.mem_replicate.mp this).2
    cases h3
theorem rt_notRA {ins : Instr} {v : Option Value} {ret : Option FieldType} (h : rtOk ins v ret) : ∀ w, v = some w → notRA w = true := by
  intro w hw
  unfold rtOk at h
  split at h
  · cases hw; rfl
  · cases hw; rfl
  · cases hw; rfl
  · cases hw
  · exact h.elim
set_option maxHeartbeats 2000000 in
theorem rt_W {p : Program} {l : Launch} {e : Env} {R : Room} {s : State} {m : MethodId} {args : Array Value} {below : List Frame} {meth : Method} {c : Code} {H : Heap} {locs : List Loc} {cells slots : Nat} {arr : Array Slot} {pc b bs : Nat} {ins : Instr} {v : Option Value} {ret : Option FieldType} {cc : ByteArray} {Qc : Array Value → State → Outcome → State → Prop} {free : Addr → Prop}
    (hx : p.tables.exec = Jvm.exec) (hb : c.code = cc) (hr : meth.sig.returnType = ret) (hlk : meth.locks = false) (ho : rtOk ins v ret) (hd : decode cc pc = .ok (ins, 1)) (hq : ∀ t : State, t.heap = H → s.WarmedH t.vm → Qc args s (.returned (v.map (tr b bs))) t) (hf : ∀ q ∈ locs, free q.base) : W p l e R s m args below meth c H locs cells slots (MQ below Qc args s cells slots free) (F0 m pc arr (v.toList.map (tr b bs))) := by
  unfold rtOk at ho
  split at ho
  · rcases ho with ho | ⟨ho, h1⟩
    · exact W.iret hx hb (hr.trans ho) hq hf hd hlk
    · exact W.zret (ty := .boolean) hx hb (hr.trans ho) (nb_narrow h1).1 hq hf hd hlk
  · exact W.lret hx hb (hr.trans ho) hq hf hd hlk
  · obtain ⟨n, ho⟩ := ho
    exact W.aret hx hb (hr.trans ho) (Or.inl ⟨n, rfl⟩) (Or.inr ⟨_, rfl⟩) hq hf hd hlk
  · exact W.vret hx hb (hr.trans ho) hq hf hd hlk
  · exact ho.elim
theorem wAll_hts {M : MD} {args : Array Value} {s : State} (h : ∀ w ∈ wsM M, w.before args s = true) : ∀ w ∈ wAll, w.before args s = true := fun w hw => h w (List.mem_cons_of_mem _ hw)
/-- what is fixed of a method that has no handlers -/
def mOk (M : MD) : Bool := plainFor M.2.1 && decide (M.2.1.cls = cC M.1) && M.2.2.2.2.2.isEmpty
def mOkX (M : MD) : Bool := plainName M.2.1.cls && decide (M.2.1.cls = cC M.1) && M.2.2.2.2.2.isEmpty
theorem Met.ofWF {l : Launch} {y : MethodName} {ws ws' : List Cond} {rm : Room} {Pc : Array Value → State → Prop} {Qc : Array Value → State → Outcome → State → Prop} {mc ms : Nat} {free : Addr → Prop} {cc : ByteArray} {maxL : Nat} {ret : Option FieldType}
    (hy : plainFor y = true) (hw : ws = Cond.code y cc maxL ret :: ws')
    (body : ∀ p e s m args below meth c s₁, BodyLoose p l y (headSpec ws rm) cc maxL ret e s m args below meth c s₁ → c.maxLocals = maxL → Pc args s →
      W p l e (headSpec ws rm).room s m args below meth c s.heap [] 0 0 (MQ below Qc args s mc ms free) (entryFrame m args maxL)) : Met l y ws rm Pc Qc mc ms free := by
  refine MetFree.of_bodySF (code := cc) (maxLocals := maxL) (ret := ret) hy ?_ ?_
  · intro args s m h hn
    obtain ⟨meth, c, h1, h2, h3, h4, h5, h6, -, -⟩ := Cond.code_spec hn (atoms_spec (ws := ws) h _ (by rw [hw]; exact List.mem_cons_self))
    exact ⟨meth, c, h1, h2, h3, h4, h5, h6⟩
  · intro p e s m args below meth c s₁ B hml hP _
    have hh0 : s₁.heap = s.heap := by rw [B.state]; rfl
    obtain ⟨t, a1, o, b1, b2, b3⟩ := body p e s m args below meth c s₁ B hml hP s₁ hh0 (Stand.of_body B)
    exact ⟨t, o, a1, b1, b2, ⟨b3.1, b3.2⟩⟩
set_option maxHeartbeats 2000000 in
theorem Mt.of {d : Nat} {M : MD} {As : List Value} {I : T2} {J : T3} {Ψ : Option Value → T2 → T3 → Prop} (hM : mOk M = true) (hlen : (lsA As).length ≤ M.2.2.2.1) (h : Ev d 0 0 (fun _ => 0) M 0 (lsE M.2.2.2.1 As) [] I J 0 (fun o I' J' _ => ∃ v, o = .inl v ∧ Ψ v I' J')) : Mt d M As I J Ψ := by
  intro l D cy b htr
  unfold mOk at hM
  rw [Bool.and_eq_true, Bool.and_eq_true] at hM
  obtain ⟨⟨hM1, hM2⟩, hM3⟩ := hM
  have hM2 := of_decide_eq_true hM2
  have hM3 := List.isEmpty_iff.mp hM3
  refine Met.ofWF (cc := M.2.2.1) (maxL := M.2.2.2.1) (ret := M.2.2.2.2.1) hM1 rfl ?_
  intro p e s m args below meth c s₁ B hml hv
  obtain ⟨rfl, hK, hP⟩ := hv
  have hts0 := atoms_spec (ws := wsM M) B.pre
  have hown : s.vm.findClass (cC M.1) = some m.cls := by rw [← hM2]; exact findClass_of_methodNamed B.named
  have hex : c.exceptionTable.toList = tableOf M.2.2.2.2.2 := by
    rw [hM3, Array.isEmpty_iff.mp (B.noHandlers (hts0 _ List.mem_cons_self))]
    rfl
  have C : Cx l p s m ((As.map (tr b 0)).toArray) meth c D cy b 0 0 (fun _ => 0) M := ⟨B.exec, B.bytes, hml, hown, B.returns, B.notSynchronized, wAll_hts hts0, hK, fun q => absurd q (Nat.lt_irrefl 0), htr, hex⟩
  rw [lg_entry_eq]
  refine h l p e _ s m _ below meth c D cy b 0 0 0 _ C ⟨Nat.le_refl _, Nat.le_refl _, Nat.le_refl _, Nat.le_refl _⟩ ?_ (Or.inl fun E I' J' z' q => by obtain ⟨v, q, -⟩ := q; cases q) s.heap [] _ ⟨hP, va_S.rf⟩ (lvh_entry hlen)
  intro ins v I' J' z' H' locs' arr' pcr hΦ hz hR hd ho
  obtain ⟨v', e1, hΨ⟩ := hΦ
  cases e1
  obtain rfl : z' = 0 := by omega
  exact rt_W B.exec B.bytes B.returns B.notSynchronized ho hd (fun t ht hW => ⟨⟨v, I', J', rfl, rt_notRA ho, hΨ, by rw [ht]; exact hR.1⟩, hR.2.F ht⟩) hR.2.2.2
/-! links of calls -/
theorem mw {w : Cond} (i : Nat) (h : lw_tbl[i]? = some w) (hg : goodWord w = true) : w ∈ wAll := List.mem_filter.mpr ⟨List.mem_of_getElem? h, hg⟩
theorem mn {w : Cond} (i : Nat) (h : lw_tbl[i]? = some w) (hg : isNest w = true) : w ∈ nwL := List.mem_filter.mpr ⟨List.mem_of_getElem? h, hg⟩

def lkB (N : MD) (n : Nat) : Bool := decide (Cond.code N.2.1 N.2.2.1 N.2.2.2.1 N.2.2.2.2.1 ∈ wAll) && decide (Cond.initialized N.2.1.cls ∈ wAll) && decide (N.2.1.cls ≠ "java/lang/invoke/MethodHandle") && decide (N.2.1.cls ≠ "java/lang/invoke/VarHandle") && decide ((parseMethodDescriptor N.2.1.desc).map (fun d => d.parameters.length) = some n) && decide (N.2.2.2.1 ≤ 13)
def lkS (own i : Nat) (N : MD) : Bool := decide (Cond.methodLink (cC own) i N.2.1 ∈ wAll) && decide (Cond.static N.2.1 ∈ wAll)
def lkN (own i : Nat) (N : MD) : Bool := decide (Cond.methodLinkNest (cC own) i N.2.1 "QuotaDesk" ∈ nwL) && decide (Cond.static N.2.1 ∈ wAll)
def lkV (own i : Nat) (N : MD) : Bool := decide (Cond.methodLink (cC own) i N.2.1 ∈ wAll) && decide (Cond.instanceMethod N.2.1 ∈ wAll) && decide (Cond.selects N.2.1.cls N.2.1 N.2.1 ∈ wAll) && decide (N.2.1.cls = cC N.1) && decide (N.1 < 8)
theorem lkB_of {N : MD} {n : Nat} (h1 : Cond.code N.2.1 N.2.2.1 N.2.2.2.1 N.2.2.2.2.1 ∈ wAll) (h2 : Cond.initialized N.2.1.cls ∈ wAll) (h3 : (decide (N.2.1.cls ≠ "java/lang/invoke/MethodHandle") && decide (N.2.1.cls ≠ "java/lang/invoke/VarHandle") && decide ((parseMethodDescriptor N.2.1.desc).map (fun d => d.parameters.length) = some n) && decide (N.2.2.2.1 ≤ 13)) = true) : lkB N n = true := by
  unfold lkB
  simp only [Bool.and_eq_true, decide_eq_true_eq] at h3 ⊢
  exact ⟨⟨⟨⟨⟨h1, h2⟩, h3.1.1.1⟩, h3.1.1.2⟩, h3.1.2⟩, h3.2⟩
theorem lkS_of {own i : Nat} {N : MD} (h1 : Cond.methodLink (cC own) i N.2.1 ∈ wAll) (h2 : Cond.static N.2.1 ∈ wAll) : lkS own i N = true := by
  unfold lkS
  simp only [Bool.and_eq_true, decide_eq_true_eq]
  exact ⟨h1, h2⟩
theorem lkN_of {own i : Nat} {N : MD} (h1 : Cond.methodLinkNest (cC own) i N.2.1 "QuotaDesk" ∈ nwL) (h2 : Cond.static N.2.1 ∈ wAll) : lkN own i N = true := by
  unfold lkN
  simp only [Bool.and_eq_true, decide_eq_true_eq]
  exact ⟨h1, h2⟩
theorem lkV_of {own i : Nat} {N : MD} (h1 : Cond.methodLink (cC own) i N.2.1 ∈ wAll) (h2 : Cond.instanceMethod N.2.1 ∈ wAll) (h3 : Cond.selects N.2.1.cls N.2.1 N.2.1 ∈ wAll) (h4 : (decide (N.2.1.cls = cC N.1) && decide (N.1 < 8)) = true) : lkV own i N = true := by
  unfold lkV
  simp only [Bool.and_eq_true, decide_eq_true_eq] at h4 ⊢
  exact ⟨⟨⟨⟨h1, h2⟩, h3⟩, h4.1⟩, h4.2⟩
theorem lkB_spec {N : MD} {n : Nat} (h : lkB N n = true) : Cond.code N.2.1 N.2.2.1 N.2.2.2.1 N.2.2.2.2.1 ∈ wAll ∧ Cond.initialized N.2.1.cls ∈ wAll ∧ (N.2.1.cls ≠ "java/lang/invoke/MethodHandle" ∧ N.2.1.cls ≠ "java/lang/invoke/VarHandle") ∧ (∀ sig, parseMethodDescriptor N.2.1.desc = some sig → n = sig.parameters.length) ∧ N.2.2.2.1 ≤ 13 := by
  unfold lkB at h
  simp only [Bool.and_eq_true, decide_eq_true_eq] at h
  obtain ⟨⟨⟨⟨⟨h1, h2⟩, h3⟩, h4⟩, h5⟩, h6⟩ := h
  refine ⟨h1, h2, ⟨h3, h4⟩, fun sig hs => ?_, h6⟩
  rw [hs] at h5
  exact (Option.some.inj h5).symm
theorem wAll_pay {args : Array Value} {s : State} {N : MD} (hts : ∀ w ∈ wAll, w.before args s = true) (hc : Cond.code N.2.1 N.2.2.1 N.2.2.2.1 N.2.2.2.2.1 ∈ wAll) : ∀ w ∈ wsM N, ∀ (a' : Array Value) (U : State), s.WarmedH U.vm → w.before a' U = true := by
  intro w hw a' U hW
  have hw' : w ∈ wAll := by
    rcases List.mem_cons.mp hw with e | h
    · rw [e]; exact hc
    · exact h
  exact word_at hW (good_of_word (wAll_good hw')) (hts w hw')
theorem callB_my {R : Room} {s : State} {args : Array Value} {own i d n k0 w0 Z : Nat} {N : MD} (hts : ∀ w ∈ wAll, w.before args s = true) (hB : lkB N n = true) (hR : Rm R (d + 1) k0 w0 Z) (hl : (Cond.methodLink (cC own) i N.2.1).before args s = true) :
    CallB R s args (cC own) i N.2.1 N.2.2.1 N.2.2.2.1 N.2.2.2.2.1 (wsM N) (rmD d 0) 0 0 n := by
  obtain ⟨h1, h2, h3, h4, h5⟩ := lkB_spec hB
  obtain ⟨r1, r2, r3, r4⟩ := hR
  refine ⟨rfl, rfl, ?_, ?_, wAll_pay hts h1, List.mem_cons_self, hts _ h1, hts _ h2, h3, h4, hl⟩
  · show d + 3 + 1 ≤ R.frames
    omega
  · show 8 + (N.2.2.2.1 + 11) + (32 * d + 100) ≤ R.locals
    omega
theorem pre_my {D : va_G} {cy : Nat → ClassId} {b bs : Nat} {s : State} {H : Heap} {locs : List Loc} {As : List Value} {I : T2} {J : T3} (hK : KS D cy b s s.heap) (hR : Rp D cy b I J s.heap H locs) (hA : As.all notRA = true) : PreS s H (Pcm D cy b As I J) (As.map (tr b bs)) := by
  refine ⟨Pcm.blind, fun U hU hW => ⟨?_, ?_, ?_⟩⟩
  · congr 1
    exact List.map_congr_left fun v hv => tr_notRA (List.all_eq_true.mp hA v hv) b bs 0
  · rw [hU]
    exact hK.moved hW (fun a h1 h2 => hR.2.2.1 a h1 h2)
  · rw [hU]; exact hR.1
section E2
variable {p : Program} {l : Launch} {e : Env} {R : Room} {s : State} {m : MethodId} {args : Array Value} {below : List Frame} {meth : Method} {c : Code} {H : Heap} {locs : List Loc} {cells slots : Nat} {Q : State → Prop}
variable {D : va_G} {cy : Nat → ClassId} {b bs : Nat} {I : T2} {J : T3} {arr : Array Slot} {pc : Nat} {rest : List Value} {st0 : List Value} {a : Array Value} {Ψ : Option Value → T2 → T3 → Prop} {nL : Nat} {ls : List (Option Value)}
/-- behind a call that returns -/
theorem call_go (hr : va_Run p l e R s m args below meth c H locs cells slots 0 0 (F0 m pc arr st0) (rest.map (tr b bs)) (Qcm D cy b Ψ a) (fun q => b ≤ q)) (hR : Rp D cy b I J s.heap H locs) (hl : lvh arr nL b bs ls)
    (kk : ∀ v I' J', Ψ v I' J' → KK p l e R s m args below meth c cells slots Q D cy b bs nL (pc + 3) ls (v.toList ++ rest) I' J') : W p l e R s m args below meth c H locs cells slots Q (F0 m pc arr st0) := by
  intro T hT X
  obtain ⟨v, st₀, t, T', Ls, h0, X', hL, e1, e2, ⟨⟨v', I', J', hv, hn, hΨ, hP⟩, hF⟩, st⟩ := hr T hT X
  have hv' : v = v'.map (tr b 0) := Outcome.returned.inj hv
  subst hv'
  have hz : H.size ≤ T'.heap.size := by rw [e1, ← h0]; exact hF.1
  have hS : va_S (fun q => b ≤ q) s.heap T'.heap (locs ++ Ls) := by
    refine ⟨Nat.le_trans hR.2.1 hz, fun q h1 h2 => ?_, fun q hq => ?_⟩
    · rw [e1, hF.2 q (by rw [h0]; exact Nat.lt_of_lt_of_le h1 hR.2.1) h2, h0]
      exact hR.2.2.1 q h1 h2
    · rcases List.mem_append.mp hq with h | h
      · exact hR.2.2.2 q h
      · exact hL q h
  obtain ⟨t2, a1, b1⟩ := kk v' I' J' hΨ T'.heap (locs ++ Ls) arr ⟨by rw [e1]; exact hP, hS⟩ hl T' rfl X'
  refine ⟨t2, st t2 ?_, b1⟩
  have e3 : (v'.map (tr b 0)).toList ++ rest.map (tr b bs) = (v'.toList ++ rest).map (tr b bs) := by
    cases v' with
    | none => rfl
    | some w => show tr b 0 w :: _ = tr b bs w :: _; rw [tr_notRA (hn w rfl) b 0 bs]; rfl
  show Steps p.tables e below (T'.setTop (F0 m (pc + 3) arr ((v'.map (tr b 0)).toList ++ rest.map (tr b bs)))) t2
  rw [e3]
  exact a1
end E2
theorem sum_tr (b bs : Nat) (r : List Value) : ((r.map (tr b bs)).map fun v => v.category).sum = (r.map fun v => v.category).sum := by
  rw [List.map_map]
  congr 1
  exact List.map_congr_left fun v _ => tr_cat b bs v
section E3
variable {d Z L : Nat} {xs : Nat → Int32} {M N : MD} {pc i n : Nat} {ls : List (Option Value)} {rest As : List Value} {I : T2} {J : T3} {z : Nat} {Φ : Out → T2 → T3 → Nat → Prop} {Ψ : Option Value → T2 → T3 → Prop}
/-- a static method is called -/
theorem Ev.callS (hM : Mt d N As I J Ψ) (hd : decode M.2.2.1 pc = .ok (.invokestatic i, 3)) (hB : lkB N n = true) (hl : lkS M.1 i N = true ∨ lkN M.1 i N = true) (hn : As.length = n) (hA : As.all notRA = true) (hw : (rest.map fun v => v.category).sum ≤ 8) {st : List Value} (hst : st = As.reverse ++ rest) (hz : z ≤ Z)
    (k : ∀ v I' J', Ψ v I' J' → Ev (d + 1) Z L xs M (pc + 3) ls (v.toList ++ rest) I' J' z Φ) : Ev (d + 1) Z L xs M pc ls st I J z Φ := by
  subst hst
  intro l p e R s m args below meth c D cy b bs k0 w0 Q C hRm hRT hTH H locs arr hR hlv
  obtain ⟨hx, hb, hml, hown, hr, hlk, hts, hK, hX, htr, hex⟩ := id C
  have hroom : k0 + z + 0 ≤ R.cells ∧ w0 + 6 * z + 0 ≤ R.slots := by obtain ⟨-, -, h3, h4⟩ := hRm; omega
  have hstk : (As.reverse ++ rest).map (tr b bs) = (As.map (tr b bs)).reverse ++ rest.map (tr b bs) := by rw [List.map_append, List.map_reverse]
  have hgo : va_Run p l e R s m args below meth c H locs (k0 + z) (w0 + 6 * z) 0 0 (F0 m pc arr ((As.reverse ++ rest).map (tr b bs))) (rest.map (tr b bs)) (Qcm D cy b Ψ (As.map (tr b bs)).toArray) (fun q => b ≤ q) := by
    rcases hl with hl | hl
    · unfold lkS at hl
      simp only [Bool.and_eq_true, decide_eq_true_eq] at hl
      exact va_runS (n := n) ⟨hx, hb, hml, hown, hts⟩ (hM l D cy b htr) ⟨callB_my hts hB hRm (hts _ hl.1), hts _ hl.2⟩ (pre_my hK hR hA) rfl (by rw [List.length_map]; exact hn) hlv.1 hstk (lv_room (by rw [sum_tr]; exact hw)) hd hroom
    · unfold lkN at hl
      simp only [Bool.and_eq_true, decide_eq_true_eq] at hl
      obtain ⟨h1, h2, h3, h4, h5⟩ := lkB_spec hB
      have hRm' := hRm
      obtain ⟨r1, r2, r3, r4⟩ := hRm'
      refine va_runSN (n := n) (host := "QuotaDesk") ⟨hx, hb, hml, hown, hts⟩ (hM l D cy b htr) ⟨⟨⟨rfl, rfl, ?_, ?_, wAll_pay hts h1, List.mem_cons_self⟩, hts _ h1, hts _ h2, h3, h4, va_Nw.use rfl (hK.2.1 _ hl.1)⟩, hts _ hl.2, trivial⟩ (pre_my hK hR hA) rfl (by rw [List.length_map]; exact hn) hlv.1 hstk (lv_room (by rw [sum_tr]; exact hw)) hd hroom
      · show d + 3 + 1 ≤ R.frames
        omega
      · show 8 + (N.2.2.2.1 + 11) + (32 * d + 100) ≤ R.locals
        omega
  exact call_go hgo hR hlv (fun v I' J' q => k v I' J' q l p e R s m args below meth c D cy b bs k0 w0 Q C hRm hRT hTH)
/-- a method of an object of ours is called -/
theorem Ev.callV {o : Nat} (hM : Mt d N (.ref o :: As) I J Ψ) (hd : decode M.2.2.1 pc = .ok (.invokevirtual i, 3)) (hB : lkB N n = true) (hl : lkV M.1 i N = true) (hk : kd o = N.1) (hn : As.length = n) (hA : As.all notRA = true) (hw : (rest.map fun v => v.category).sum ≤ 8) {st : List Value} (hst : st = As.reverse ++ .ref o :: rest) (hz : z ≤ Z)
    (k : ∀ v I' J', Ψ v I' J' → Ev (d + 1) Z L xs M (pc + 3) ls (v.toList ++ rest) I' J' z Φ) : Ev (d + 1) Z L xs M pc ls st I J z Φ := by
  subst hst
  intro l p e R s m args below meth c D cy b bs k0 w0 Q C hRm hRT hTH H locs arr hR hlv
  obtain ⟨hx, hb, hml, hown, hr, hlk, hts, hK, hX, htr, hex⟩ := id C
  have hroom : k0 + z + 0 ≤ R.cells ∧ w0 + 6 * z + 0 ≤ R.slots := by obtain ⟨-, -, h3, h4⟩ := hRm; omega
  have hstk : (As.reverse ++ .ref o :: rest).map (tr b bs) = (As.map (tr b bs)).reverse ++ .ref (b + o) :: rest.map (tr b bs) := by rw [List.map_append, List.map_reverse]; rfl
  unfold lkV at hl
  simp only [Bool.and_eq_true, decide_eq_true_eq] at hl
  obtain ⟨⟨⟨⟨l1, l2⟩, l3⟩, l4⟩, l5⟩ := hl
  have hpre := pre_my (bs := bs) (As := .ref o :: As) hK hR (by simpa [notRA] using hA)
  have hcell := va_recv hK.1 hR.1 (cl_at l5) (Rp.at (I := I) (J := J) (b := b) (cy := cy) hk (by omega) (en_obj hk l5 (I o) (J o)))
  have hgo : va_Run p l e R s m args below meth c H locs (k0 + z) (w0 + 6 * z) 0 0 (F0 m pc arr ((As.reverse ++ .ref o :: rest).map (tr b bs))) (rest.map (tr b bs)) (Qcm D cy b Ψ (.ref (b + o) :: As.map (tr b bs)).toArray) (fun q => b ≤ q) :=
    va_runV (n := n) (C := cC N.1) ⟨hx, hb, hml, hown, hts⟩ (hM l D cy b htr) ⟨callB_my hts hB hRm (hts _ l1), hts _ l2, by rw [← l4]; exact hts _ l3⟩ ⟨hpre.1, hcell, hpre.2⟩ rfl (by rw [List.length_map]; exact hn) hlv.1 hstk (lv_room (by rw [sum_tr]; exact hw)) hd hroom
  exact call_go hgo hR hlv (fun v I' J' q => k v I' J' q l p e R s m args below meth c D cy b bs k0 w0 Q C hRm hRT hTH)
end E3
