/-! methods that catch: their contract, the throw that is caught, the call of them -/
def exIx (c : Nat) : String := if c = 13 then eIA else if c = 23 then eIB else if c = 32 then eIS else eUO
def exNo : List Nat := [13, 23, 32, 37]
theorem cl_13 : Cond.classLink (cC 8) 13 eIA ∈ wAll := by decide +kernel
theorem cl_23 : Cond.classLink (cC 8) 23 eIB ∈ wAll := by decide +kernel
theorem cl_32 : Cond.classLink (cC 8) 32 eIS ∈ wAll := by decide +kernel
theorem cl_37 : Cond.classLink (cC 8) 37 eUO ∈ wAll := by decide +kernel
theorem cl_all : ∀ c ∈ exNo, Cond.classLink (cC 8) c (exIx c) ∈ wAll ∧ c ≠ 0 ∧ exIx c ∈ exL := by
  intro c hc
  simp only [exNo, List.mem_cons, List.not_mem_nil, or_false] at hc
  rcases hc with rfl | rfl | rfl | rfl
  · exact ⟨cl_13, by decide, by decide⟩
  · exact ⟨cl_23, by decide, by decide⟩
  · exact ⟨cl_32, by decide, by decide⟩
  · exact ⟨cl_37, by decide, by decide⟩
theorem cs_IB : Cond.castable eIB eIB ∈ nwL := by decide +kernel
theorem cs_IA : Cond.castable eIA eIA ∈ nwL := by decide +kernel
theorem cs_IS : Cond.castable eIS eIS ∈ nwL := by decide +kernel
theorem cs_UO : Cond.castable eUO eUO ∈ nwL := by decide +kernel
theorem cs_all : ∀ E ∈ exL, Cond.castable E E ∈ nwL := by
  intro E hE
  simp only [exL, List.mem_cons, List.not_mem_nil, or_false] at hE
  rcases hE with rfl | rfl | rfl | rfl
  · exact cs_IB
  · exact cs_IA
  · exact cs_IS
  · exact cs_UO
def hnd (E : String) (pc : Nat) : List (Nat × Nat × Nat × Nat) → Option Nat
  | [] => none
  | x :: r => if x.1 ≤ pc ∧ pc < x.2.1 ∧ exIx x.2.2.2 = E then some x.2.2.1 else hnd E pc r
theorem hnd_spec {E : String} {pc h : Nat} : ∀ {hh : List (Nat × Nat × Nat × Nat)}, hnd E pc hh = some h → (∀ x ∈ hh, x.2.2.2 ∈ exNo) → ∃ pre x suf, tableOf hh = pre ++ x :: suf ∧ x.handlerPc = h ∧ covers x pc = true ∧ x.catchType ∈ exNo ∧ exIx x.catchType = E ∧ ∀ z ∈ pre, covers z pc = false ∨ (z.catchType ∈ exNo ∧ exIx z.catchType ≠ E)
  | [], h0, _ => by cases h0
  | x :: r, h0, ha => by
    have h1 : (if x.1 ≤ pc ∧ pc < x.2.1 ∧ exIx x.2.2.2 = E then some x.2.2.1 else hnd E pc r) = some h := h0
    obtain ⟨a, b, h', c⟩ := x
    by_cases q : a ≤ pc ∧ pc < b ∧ exIx c = E
    · rw [if_pos q] at h1
      refine ⟨[], ⟨a, b, h', c⟩, tableOf r, rfl, Option.some.inj h1, ?_, ha _ List.mem_cons_self, q.2.2, fun z hz => nomatch hz⟩
      show (decide (a ≤ pc) && decide (pc < b)) = true
      rw [decide_eq_true q.1, decide_eq_true q.2.1]; rfl
    · rw [if_neg q] at h1
      obtain ⟨pre, y, suf, e1, e2, e3, e4, e5, e6⟩ := hnd_spec h1 (fun x hx => ha x (List.mem_cons_of_mem _ hx))
      refine ⟨⟨a, b, h', c⟩ :: pre, y, suf, ?_, e2, e3, e4, e5, fun z hz => ?_⟩
      · show (⟨a, b, h', c⟩ : ExceptionTableEntry) :: tableOf r = _
        rw [e1]; rfl
      · rcases List.mem_cons.mp hz with rfl | hz
        · by_cases q1 : a ≤ pc ∧ pc < b
          · exact Or.inr ⟨ha _ List.mem_cons_self, fun e => q ⟨q1.1, q1.2, e⟩⟩
          · refine Or.inl ?_
            show (decide (a ≤ pc) && decide (pc < b)) = false
            rw [Bool.and_eq_false_iff, decide_eq_false_iff_not, decide_eq_false_iff_not]
            by_cases q2 : a ≤ pc
            · exact Or.inr fun q3 => q1 ⟨q2, q3⟩
            · exact Or.inl q2
        · exact e6 z hz
def wsH (M : MD) : List Cond := .codeWith M.2.1 M.2.2.1 M.2.2.2.1 M.2.2.2.2.1 M.2.2.2.2.2 :: wAll
/-- a method that returns, though something may be thrown and caught inside it -/
def Mz (d : Nat) (M : MD) (As : List Value) (I : T2) (J : T3) (Ψ : Option Value → T2 → T3 → Prop) : Prop :=
  ∀ (l : Launch) (D : va_G) (cy : Nat → ClassId) (b : Nat), l.stackTraces = false → Met l M.2.1 (wsH M) (rmD d 1) (Pcm D cy b As I J) (Qcm D cy b Ψ) 1 6 (fun q => b ≤ q)
def mOkH (M : MD) : Bool := plainName M.2.1.cls && decide (M.2.1.cls = cC M.1)
set_option maxHeartbeats 2000000 in
theorem Mz.of {d : Nat} {M : MD} {As : List Value} {I : T2} {J : T3} {Ψ : Option Value → T2 → T3 → Prop} (hM : mOkH M = true) (hlen : (lsA As).length ≤ M.2.2.2.1) (h : Ev d 1 0 (fun _ => 0) M 0 (lsE M.2.2.2.1 As) [] I J 0 (fun o I' J' _ => ∃ v, o = .inl v ∧ Ψ v I' J')) : Mz d M As I J Ψ := by
  intro l D cy b htr
  unfold mOkH at hM
  rw [Bool.and_eq_true] at hM
  obtain ⟨hM1, hM2⟩ := hM
  have hM2 := of_decide_eq_true hM2
  refine va_MetW (hh := M.2.2.2.2.2) (cc := M.2.2.1) (maxL := M.2.2.2.1) (ret := M.2.2.2.2.1) hM1 rfl ?_
  intro p e s m args below meth c s₁ B hml hv
  obtain ⟨rfl, hK, hP⟩ := hv
  have hts0 := atoms_spec (ws := wsH M) B.pre
  have hown : s.vm.findClass (cC M.1) = some m.cls := by rw [← hM2]; exact findClass_of_methodNamed B.named
  have hex : c.exceptionTable.toList = tableOf M.2.2.2.2.2 := vx_table (x := M.2.1) B (hts0 _ List.mem_cons_self)
  have C : Cx l p s m ((As.map (tr b 0)).toArray) meth c D cy b 0 0 (fun _ => 0) M := ⟨B.exec, B.bytes, hml, hown, B.returns, B.notSynchronized, fun w hw => hts0 w (List.mem_cons_of_mem _ hw), hK, fun q => absurd q (Nat.lt_irrefl 0), htr, hex⟩
  rw [lg_entry_eq]
  refine h l p e _ s m _ below meth c D cy b 0 0 0 _ C ⟨Nat.le_refl _, Nat.le_refl _, Nat.le_refl _, Nat.le_refl _⟩ ?_ (Or.inl fun E I' J' z' q => by obtain ⟨v, q, -⟩ := q; cases q) s.heap [] _ ⟨hP, va_S.rf⟩ (lvh_entry hlen)
  intro ins v I' J' z' H' locs' arr' pcr hΦ hz hR hd ho
  obtain ⟨v', e1, hΨ⟩ := hΦ
  cases e1
  refine W.widen (k := 1) (n := 6) (by omega) (by omega) ?_
  exact rt_W B.exec B.bytes B.returns B.notSynchronized ho hd (fun t ht hW => ⟨⟨v, I', J', rfl, rt_notRA ho, hΨ, by rw [ht]; exact hR.1⟩, hR.2.F ht⟩) hR.2.2.2
section E2b
variable {p : Program} {l : Launch} {e : Env} {R : Room} {s : State} {m : MethodId} {args : Array Value} {below : List Frame} {meth : Method} {c : Code} {H : Heap} {locs : List Loc} {cells slots : Nat} {Q : State → Prop}
variable {D : va_G} {cy : Nat → ClassId} {b bs : Nat} {I : T2} {J : T3} {arr : Array Slot} {pc : Nat} {rest : List Value} {st0 : List Value} {a : Array Value} {Ψ : Option Value → T2 → T3 → Prop} {nL : Nat} {ls : List (Option Value)}
/-- behind a call that returns -/
theorem call_go1 (hr : va_Run p l e R s m args below meth c H locs cells slots 1 6 (F0 m pc arr st0) (rest.map (tr b bs)) (Qcm D cy b Ψ a) (fun q => b ≤ q)) (hR : Rp D cy b I J s.heap H locs) (hl : lvh arr nL b bs ls)
    (kk : ∀ v I' J', Ψ v I' J' → KK p l e R s m args below meth c (cells + 1) (slots + 6) Q D cy b bs nL (pc + 3) ls (v.toList ++ rest) I' J') : W p l e R s m args below meth c H locs cells slots Q (F0 m pc arr st0) := by
  intro T hT X
  obtain ⟨v, st₀, t, T', Ls, h0, X', hL, e1, e2, ⟨⟨v', I', J', hv, hn, hΨ, hP⟩, hF⟩, st⟩ := hr T hT X
  have hv' : v = v'.map (tr b 0) := Outcome.returned.inj hv
  subst hv'
  have hz : H.size ≤ T'.heap.size := by rw [e1, ← h0]; exact hF.1
  have hS : va_S (fun q => b ≤ q) s.heap T'.heap (locs ++ Ls) := by
    refine ⟨Nat.le_trans hR.2.1 hz, fun q h1 h2 => ?_, fun q hq => ?_⟩
    · rw [e1, hF.2 q (by rw [h0]; exact Nat.lt_of_lt_of_le h1 hR.2.1) h2, h0]
      exact hR.2.2.1 q h1 h2
    · rcases List.mem_append.mp hq with h | h
      · exact hR.2.2.2 q h
      · exact hL q h
  obtain ⟨t2, a1, b1⟩ := kk v' I' J' hΨ T'.heap (locs ++ Ls) arr ⟨by rw [e1]; exact hP, hS⟩ hl T' rfl X'
  refine ⟨t2, st t2 ?_, b1⟩
  have e3 : (v'.map (tr b 0)).toList ++ rest.map (tr b bs) = (v'.toList ++ rest).map (tr b bs) := by
    cases v' with
    | none => rfl
    | some w => show tr b 0 w :: _ = tr b bs w :: _; rw [tr_notRA (hn w rfl) b 0 bs]; rfl
  show Steps p.tables e below (T'.setTop (F0 m (pc + 3) arr ((v'.map (tr b 0)).toList ++ rest.map (tr b bs)))) t2
  rw [e3]
  exact a1
end E2b
section E8
variable {d Z L : Nat} {xs : Nat → Int32} {M N : MD} {pc i n : Nat} {ls : List (Option Value)} {rest As : List Value} {I : T2} {J : T3} {z : Nat} {Φ : Out → T2 → T3 → Nat → Prop} {E : String} {Ψ : Option Value → T2 → T3 → Prop}
/-- how a handler of the law's goes on: the thing put away, a number given back -/
def hdOk (M : MD) (h : Nat) (K : Int32) : Prop := ∃ (i a : Nat) (q : Int), i < M.2.2.2.1 ∧ ((∃ k : Fin 4, (k : Nat) = i ∧ decode M.2.2.1 h = .ok (.astore_n k, 1) ∧ a = h + 1) ∨ (decode M.2.2.1 h = .ok (.astore i, 2) ∧ a = h + 2)) ∧ decode M.2.2.1 a = .ok (.iconst q, 1) ∧ Int32.ofInt q = K ∧ decode M.2.2.1 (a + 1) = .ok (.ireturn, 1)
/-- a called method of an object throws, and it is caught: a number goes back -/
theorem Ev.callVC {o h : Nat} {K : Int32} (hM : Mth d N (.ref o :: As) I J E) (hd : decode M.2.2.1 pc = .ok (.invokevirtual i, 3)) (hB : lkB N n = true) (hl : lkV M.1 i N = true) (hk : kd o = N.1) (hn : As.length = n) (hA : As.all notRA = true) (hw : (rest.map fun v => v.category).sum ≤ 8) {st : List Value} (hst : st = As.reverse ++ .ref o :: rest) (hM8 : M.1 = 8) (hE : E ∈ exL) (hh : hnd E pc M.2.2.2.2.2 = some h) (hc : ∀ x ∈ M.2.2.2.2.2, x.2.2.2 ∈ exNo) (ho : hdOk M h K) (hr : M.2.2.2.2.1 = some .int) (hz : z + 1 ≤ Z) (hΦ : Φ (.inl (some (.int K))) I J (z + 1)) : Ev (d + 1) Z L xs M pc ls st I J z Φ := by
  subst hst
  intro l p e R s m args below meth c D cy b bs k0 w0 Q C hRm hRT hTH H locs arr hR hlv
  obtain ⟨hx, hb, hml, hown, hr9, hlk, hts, hK, hX, htr, hex⟩ := id C
  have hroom : k0 + z + 1 ≤ R.cells ∧ w0 + 6 * z + 6 ≤ R.slots := by obtain ⟨-, -, h3, h4⟩ := hRm; omega
  have hstk : (As.reverse ++ .ref o :: rest).map (tr b bs) = (As.map (tr b bs)).reverse ++ .ref (b + o) :: rest.map (tr b bs) := by rw [List.map_append, List.map_reverse]; rfl
  unfold lkV at hl
  simp only [Bool.and_eq_true, decide_eq_true_eq] at hl
  obtain ⟨⟨⟨⟨l1, l2⟩, l3⟩, l4⟩, l5⟩ := hl
  have hpre := pre_my (bs := bs) (As := .ref o :: As) hK hR (by simpa [notRA] using hA)
  have hcell := va_recv hK.1 hR.1 (cl_at l5) (Rp.at (I := I) (J := J) (b := b) (cy := cy) hk (by omega) (en_obj hk l5 (I o) (J o)))
  have hgo : vx_Run p l e R s m args below meth c H locs (k0 + z) (w0 + 6 * z) 1 6 (F0 m pc arr ((As.reverse ++ .ref o :: rest).map (tr b bs))) (rest.map (tr b bs)) (Qcm D cy b (fun _ _ _ => False) (.ref (b + o) :: As.map (tr b bs)).toArray) (XCm D cy b E I J) (fun q => b ≤ q) :=
    vx_runV (n := n) (C := cC N.1) ⟨hx, hb, hml, hown, hts⟩ (hM l D cy b htr) ⟨callB_my1 hts hB hRm (hts _ l1), hts _ l2, by rw [← l4]; exact hts _ l3⟩ ⟨hpre.1, hcell, hpre.2⟩ rfl (by rw [List.length_map]; exact hn) hlv.1 hstk (lv_room (by rw [sum_tr]; exact hw)) hd hroom
  refine call_thr hgo hR ?_
  intro q ce H' locs' hR' hce hv hcl
  obtain ⟨pre, x, suf, e1, e2, e3, e4, e5, e6⟩ := hnd_spec hh hc
  have hlink : ∀ c ∈ exNo, (Cond.classLink (cC M.1) c (exIx c)).before args s = true := fun c hc9 => by rw [hM8]; exact hts _ (cl_all c hc9).1
  have hcast : (Cond.castable E E).before args s = true := va_Nw.use (nwL_ot (cs_all E hE)) (hK.2.1 _ (cs_all E hE))
  refine vx_catch (own := cC M.1) (name := E) (E := E) hown pre x suf (by rw [hex]; exact e1) (fun z9 hz9 => ?_) e3 (cl_all _ e4).2.1 (by have := hlink _ e4; rw [e5] at this; exact this) hcast hce hv hcl ?_
  · rcases e6 z9 hz9 with q1 | ⟨q1, q2⟩
    · exact Or.inl q1
    · exact Or.inr ⟨(cl_all _ q1).2.1, exIx z9.catchType, hlink _ q1, hK.2.2.2.2 E hE _ (cl_all _ q1).2.2 (fun e => q2 e.symm)⟩
  · rw [e2]
    obtain ⟨j, a, qn, j1, j2, j3, j4, j5⟩ := ho
    have tail : ∀ arr' : Array Slot, W p l e R s m args below meth c H' locs' (k0 + z + 1) (w0 + 6 * z + 6) Q (F0 m a arr' []) := fun arr' => by
      refine lv_iconst hx hb j3 j4 ?_
      exact hRT .ireturn (some (.int K)) I J (z + 1) H' locs' arr' (a + 1) hΦ hz hR' j5 (Or.inl hr)
    rcases j2 with ⟨k9, k1, k2, k3⟩ | ⟨k2, k3⟩
    · rw [k3] at tail
      exact lv_astore_n hx hb k2 k1 hlv.has j1 rfl (fun arr' _ => tail arr')
    · rw [k3] at tail
      exact lv_astore hx hb k2 hlv.has j1 rfl (fun arr' _ => tail arr')
def lkH (N : MD) (n : Nat) : Prop := Cond.codeWith N.2.1 N.2.2.1 N.2.2.2.1 N.2.2.2.2.1 N.2.2.2.2.2 ∈ wAll ∧ Cond.initialized N.2.1.cls ∈ wAll ∧ (decide (N.2.1.cls ≠ "java/lang/invoke/MethodHandle") && decide (N.2.1.cls ≠ "java/lang/invoke/VarHandle") && decide ((parseMethodDescriptor N.2.1.desc).map (fun d => d.parameters.length) = some n) && decide (N.2.2.2.1 ≤ 13)) = true
/-- the law calls a helper that catches -/
theorem Ev.callSH (hM : Mz d N As I J Ψ) (hd : decode M.2.2.1 pc = .ok (.invokestatic i, 3)) (hB : lkH N n) (hl : Cond.methodLink (cC M.1) i N.2.1 ∈ wAll ∧ Cond.static N.2.1 ∈ wAll) (hn : As.length = n) (hA : As.all notRA = true) (hw : (rest.map fun v => v.category).sum ≤ 8) {st : List Value} (hst : st = As.reverse ++ rest) (hz : z + 1 ≤ Z) (k : ∀ v I' J', Ψ v I' J' → Ev (d + 1) Z L xs M (pc + 3) ls (v.toList ++ rest) I' J' (z + 1) Φ) : Ev (d + 1) Z L xs M pc ls st I J z Φ := by
  subst hst
  intro l p e R s m args below meth c D cy b bs k0 w0 Q C hRm hRT hTH H locs arr hR hlv
  obtain ⟨hx, hb, hml, hown, hr9, hlk, hts, hK, hX, htr, hex⟩ := id C
  obtain ⟨r1, r2, r3, r4⟩ := hRm
  obtain ⟨b1, b2, b3⟩ := hB
  simp only [Bool.and_eq_true, decide_eq_true_eq] at b3
  obtain ⟨⟨⟨b4, b5⟩, b6⟩, b7⟩ := b3
  have hstk : (As.reverse ++ rest).map (tr b bs) = (As.map (tr b bs)).reverse ++ rest.map (tr b bs) := by rw [List.map_append, List.map_reverse]
  have hpay : ∀ w ∈ wsH N, ∀ (a' : Array Value) (U : State), s.WarmedH U.vm → w.before a' U = true := by
    intro w hw9 a' U hW
    have hw' : w ∈ wAll := by
      rcases List.mem_cons.mp hw9 with e9 | h9
      · rw [e9]; exact b1
      · exact h9
    exact word_at hW (good_of_word (wAll_good hw')) (hts w hw')
  have cw : vx_CSW R s args (cC M.1) i N.2.1 N.2.2.1 N.2.2.2.1 N.2.2.2.2.1 N.2.2.2.2.2 (wsH N) (rmD d 1) 1 6 n := by
    refine ⟨⟨rfl, rfl, ?_, ?_, hpay, List.mem_cons_self⟩, hts _ b1, hts _ b2, ⟨b4, b5⟩, fun sig hs => ?_, hts _ hl.1, hts _ hl.2⟩
    · show d + 3 + 1 ≤ R.frames
      omega
    · show 8 + (N.2.2.2.1 + 11) + (32 * d + 100) ≤ R.locals
      omega
    · rw [hs] at b6
      exact (Option.some.inj b6).symm
  have hgo : va_Run p l e R s m args below meth c H locs (k0 + z) (w0 + 6 * z) 1 6 (F0 m pc arr ((As.reverse ++ rest).map (tr b bs))) (rest.map (tr b bs)) (Qcm D cy b Ψ (As.map (tr b bs)).toArray) (fun q => b ≤ q) :=
    vx_runSW (n := n) ⟨hx, hb, hml, hown, hts⟩ (hM l D cy b htr) cw (pre_my hK hR hA) rfl (by rw [List.length_map]; exact hn) hlv.1 hstk (lv_room (by rw [sum_tr]; exact hw)) hd ⟨by omega, by omega⟩
  exact call_go1 hgo hR hlv (fun v I' J' hΨ => k v I' J' hΨ l p e R s m args below meth c D cy b bs k0 w0 Q C ⟨r1, r2, r3, r4⟩ hRT hTH)
end E8

