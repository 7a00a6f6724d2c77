/-! the world while it is made: rows of rows, calls, contracts -/
def gAA (s : State) : Prop := ∀ a : Array Value, (Cond.arrayOver (.array .int)).before a s = true
theorem gAA.moved {u U : State} (hvm : u.vm.Alike U.vm) (h : gAA u) : gAA U := fun _ => Jvm.Stand.arrayOver_alikeB hvm (h #[])
theorem gr_outer (c : ClassId) (N h0 : Nat) : ∀ i : Nat, Jvm.Free.Multi.outerC c N h0 i = arrV c N (fun j => va_rf (if j < i then some (h0 + 1 + j) else none))
  | 0 => by
    show ({ cls := c, slots := Array.replicate N .null, vm := .none } : Cell) = _
    rw [arrV_new]
    refine congrArg (arrV c N) (funext fun j => ?_)
    simp [va_rf]
  | i + 1 => by
    show (Jvm.Free.Multi.outerC c N h0 i).setSlot i (.ref (h0 + 1 + i)) = _
    rw [gr_outer c N h0 i, arrV_store]
    refine congrArg (arrV c N) (funext fun j => ?_)
    by_cases e : j = i
    · subst e
      simp [updV, va_rf]
    · by_cases h : j < i
      · simp [updV, e, h, Nat.lt_succ_of_lt h]
      · simp [updV, e, h, show ¬ j < i + 1 by omega]
theorem arrV_same {c : ClassId} {N : Nat} {f g : Nat → Value} (h : ∀ j, j < N → f j = g j) : arrV c N f = arrV c N g := by
  unfold arrV
  congr 1
  apply congrArg
  funext j
  exact h j.val j.isLt
theorem wl_growN {D : va_G} {b n k : Nat} {E : Nat → va_E} {H H1 : Heap} (hP : va_P D vwCl (wl b n E) H) (h1 : ∀ q, q < b + n → H1[q]? = H[q]?) (hx : ∀ j, j < k → va_at D vwCl (b + (n + j), E (n + j)) H1) : va_P D vwCl (wl b (n + k) E) H1 := by
  intro i q hq
  have hk : i < n + k := by have := (List.getElem?_eq_some_iff.mp hq).1; rw [wl_len] at this; exact this
  rw [wl_get hk] at hq
  cases hq
  by_cases h : i < n
  · exact (hP i _ (wl_get h)).kept (h1 (b + i) (by omega))
  · have h2 := hx (i - n) (by omega)
    rw [show n + (i - n) = i by omega] at h2
    exact h2
def rmG (d mc ms : Nat) : Room := { frames := d + 3, cells := mc, slots := ms, locals := 32 * d + 100 }
def PcG (D : va_G) (cy : Nat → ClassId) (b : Nat) (As : List Value) (n : Nat) (E : Nat → va_E) : Array Value → State → Prop := fun a U => a = (As.map (tr b 0)).toArray ∧ KS D cy b U U.heap ∧ (va_AO "QuotaDesk$Gate" U ∧ gAA U) ∧ va_P D vwCl (wl b n E) U.heap ∧ U.heap.size = b + n
def QcG (D : va_G) (b n : Nat) (Ψ : (Nat → va_E) → Prop) : Array Value → State → Outcome → State → Prop := fun _ st o t => (∃ E : Nat → va_E, o = .returned none ∧ Ψ E ∧ va_P D vwCl (wl b n E) t.heap ∧ t.heap.size = b + n) ∧ va_F (fun q => b ≤ q) st t
/-- a constructor: it makes mc things (ms places), and the world behind it meets Ψ -/
def Mg (l : Launch) (D : va_G) (cy : Nat → ClassId) (b d : Nat) (M : MD) (mc ms : Nat) (As : List Value) (n : Nat) (E : Nat → va_E) (n' : Nat) (Ψ : (Nat → va_E) → Prop) : Prop :=
  Met l M.2.1 (wsM M) (rmG d mc ms) (PcG D cy b As n E) (QcG D b n' Ψ) mc ms (fun q => b ≤ q)
theorem PcG.blind {D : va_G} {cy : Nat → ClassId} {b n : Nat} {As : List Value} {E : Nat → va_E} : FrameBlind (PcG D cy b As n E) := by
  intro a U g mk h
  obtain ⟨h1, h2, ⟨h3, h4⟩, h5⟩ := h
  exact ⟨h1, KS.same (s := U) rfl h2, ⟨va_AO.moved (u := U) (Vm.Alike.refl _) h3, gAA.moved (u := U) (Vm.Alike.refl _) h4⟩, h5⟩
set_option maxHeartbeats 2000000 in
theorem Mg.of {l : Launch} {D : va_G} {cy : Nat → ClassId} {b d : Nat} {M : MD} {mc ms : Nat} {As : List Value} {n n' : Nat} {E : Nat → va_E} {Ψ : (Nat → va_E) → Prop} (hM : mOk M = true) (hlen : (lsA As).length ≤ M.2.2.2.1) (hnm : M.2.1.name = "<init>") (htr : l.stackTraces = false)
    (h : ∀ p e s m args below meth c, Cx l p s m args meth c D cy b 0 0 (fun _ => 0) M → meth.name = "<init>" → va_AO "QuotaDesk$Gate" s → gAA s → s.heap.size = b + n → GK p l e (rmG d mc ms) s m args below meth c 0 0 (MQ below (QcG D b n' Ψ) args s mc ms (fun q => b ≤ q)) D b 0 M.2.2.2.1 0 (lsE M.2.2.2.1 As) [] n E) : Mg l D cy b d M mc ms As n E n' Ψ := by
  unfold mOk at hM
  rw [Bool.and_eq_true, Bool.and_eq_true] at hM
  obtain ⟨⟨hM1, hM2⟩, hM3⟩ := hM
  have hM2 := of_decide_eq_true hM2
  have hM3 := List.isEmpty_iff.mp hM3
  refine Met.ofWF (cc := M.2.2.1) (maxL := M.2.2.2.1) (ret := M.2.2.2.2.1) hM1 rfl ?_
  intro p e s m args below meth c s₁ B hml hv
  obtain ⟨rfl, hK, ⟨hAO, hAA⟩, hP, hz⟩ := hv
  have hts0 := atoms_spec (ws := wsM M) B.pre
  have hown : s.vm.findClass (cC M.1) = some m.cls := by rw [← hM2]; exact findClass_of_methodNamed B.named
  have hex : c.exceptionTable.toList = tableOf M.2.2.2.2.2 := by
    rw [hM3, Array.isEmpty_iff.mp (B.noHandlers (hts0 _ List.mem_cons_self))]
    rfl
  have C : Cx l p s m ((As.map (tr b 0)).toArray) meth c D cy b 0 0 (fun _ => 0) M := ⟨B.exec, B.bytes, hml, hown, B.returns, B.notSynchronized, wAll_hts hts0, hK, fun q => absurd q (Nat.lt_irrefl 0), htr, hex⟩
  have hin : meth.name = "<init>" := (name_of_methodNamed B.named B.method).1.trans hnm
  rw [lg_entry_eq]
  exact h p e s m _ below meth c C hin hAO hAA hz s.heap [] _ ⟨hP, hz, va_S.rf⟩ (lvh_entry hlen)
section G2
variable {p : Program} {l : Launch} {e : Env} {R : Room} {s : State} {m : MethodId} {args : Array Value} {below : List Frame} {meth : Method} {c : Code} {cells slots : Nat} {Q : State → Prop}
variable {D : va_G} {cy : Nat → ClassId} {b bs L : Nat} {xs : Nat → Int32} {M : MD} {pc n : Nat} {ls : List (Option Value)} {st : List Value} {E E' : Nat → va_E} {Ψ : (Nat → va_E) → Prop}
theorem GK.cs {cells' slots' : Nat} (h1 : cells = cells') (h2 : slots = slots') (kk : GK p l e R s m args below meth c cells' slots' Q D b bs M.2.2.2.1 pc ls st n E) : GK p l e R s m args below meth c cells slots Q D b bs M.2.2.2.1 pc ls st n E := by
  subst h1; subst h2; exact kk
theorem GK.ret (C : Cx l p s m args meth c D cy b bs L xs M) (hd : decode M.2.2.1 pc = .ok (.return_, 1)) (hr : M.2.2.2.2.1 = none) (hΨ : Ψ E) : GK p l e R s m args below meth c cells slots (MQ below (QcG D b n Ψ) args s cells slots (fun q => b ≤ q)) D b bs M.2.2.2.1 pc ls [] n E := by
  intro H locs arr hG hl
  exact rt_W (ins := .return_) (b := b) (bs := bs) (v := none) C.1 C.2.1 C.2.2.2.2.1 C.2.2.2.2.2.1 hr hd (fun t ht hW => ⟨⟨E, rfl, hΨ, by rw [ht]; exact hG.1, by rw [ht]; exact hG.2.1⟩, hG.2.2.F ht⟩) hG.2.2.2.2
theorem GK.mna {i : Nat} {v w : Int32} {N K : Nat} (C : Cx l p s m args meth c D cy b bs L xs M) (hAA : gAA s) (hd : decode M.2.2.1 pc = .ok (.multianewarray i 2, 4)) (hl0 : Cond.classLink (cC M.1) i "[[I" ∈ wAll) (hw : Cond.arrayClass .int ∈ wAll) (hn : ¬ v < 0) (hk : ¬ w < 0) (hN : v.toNatClampNeg = N) (hK : w.toNatClampNeg = K) (hb1 : N ≤ 60000) (hb2 : K ≤ 60000) (hc : cells + (1 + N) ≤ R.cells) (hs : slots + (N + N * K) ≤ R.slots)
    (he : E n = .inl (cy 4, N, .inr (.inr (.inr (.inr (fun k => some (b + (n + 1 + k)))))))) (her : ∀ j, j < N → E (n + 1 + j) = .inl (cy 0, K, .inl (fun _ => 0)))
    (kk : GK p l e R s m args below meth c (cells + 1 + N) (slots + N + N * K) Q D b bs M.2.2.2.1 (pc + 4) ls (.ref n :: st) (n + (1 + N)) E) : GK p l e R s m args below meth c cells slots Q D b bs M.2.2.2.1 pc ls (.int w :: .int v :: st) n E := by
  intro H locs arr hG hl T hT Xs
  obtain ⟨hx, hb, hml, hown, hr, hlk, hts, hKS, -⟩ := C
  subst hN
  subst hK
  have e0 : "[" ++ (FieldType.array .int).toString = "[[I" := by decide
  obtain ⟨vm₁, cA, comp, -, fA, fC, hO, -, X', step⟩ := Stand.multianewarray2F Xs hx (ty := .int) hown (by rw [e0]; exact hts _ hl0) (hAA args) (hts _ hw) (g := F0 m pc arr (.int w :: .int v :: st.map (tr b bs))) rfl (by rw [hb]; exact hd) rfl hn hk (by omega) (by show _ * 4 ≤ _; omega) (by omega) (by decide) (by decide) hc hs
  have ec : comp = cy 0 := Option.some.inj (fC.symm.trans (hKS.1.2 0 (cy 0, .int) rfl).2)
  have eA : cA = cy 4 := Option.some.inj (fA.symm.trans (hKS.1.2 4 (cy 4, .array .int) rfl).2)
  subst ec
  subst eA
  generalize hF : Jvm.Free.Multi.fill (T.setVm vm₁) (cy 4) (cy 0) v.toNatClampNeg w.toNatClampNeg (defaultValue .int) v.toNatClampNeg = F at X' step
  have hTh : (T.setVm vm₁).heap = H := hT
  obtain ⟨f1, f2, -, -⟩ := Jvm.Free.Multi.fill_facts (T.setVm vm₁) (cy 4) (cy 0) v.toNatClampNeg w.toNatClampNeg (defaultValue .int) v.toNatClampNeg
  rw [hF, hTh] at f1 f2
  have hold : ∀ x : Nat, x < b + n → F.heap[x]? = H[x]? := fun x hx => by
    have := Jvm.Free.Multi.fill_old (T.setVm vm₁) (cy 4) (cy 0) v.toNatClampNeg w.toNatClampNeg (defaultValue .int) (a := x) (by rw [hTh, hG.2.1]; exact hx) v.toNatClampNeg
    rw [hF, hTh] at this
    exact this
  have hrow : ∀ j : Nat, j < v.toNatClampNeg → F.heap[H.size + 1 + j]? = some (vp_cell (cy 0) (w.toNatClampNeg, .inl (fun _ => 0))) := fun j hj => by
    have := Jvm.Free.Multi.fill_inner (T.setVm vm₁) (cy 4) (cy 0) v.toNatClampNeg w.toNatClampNeg (defaultValue .int) v.toNatClampNeg j hj
    rw [hF, hTh] at this
    rw [this, vp_cell_i, ← arrV_new]
    rfl
  have hout : Jvm.Free.Multi.outerC (cy 4) v.toNatClampNeg H.size v.toNatClampNeg = vp_cell (cy 4) (v.toNatClampNeg, .inr (.inr (.inr (.inr (fun k => some (b + (n + 1 + k))))))) := by
    rw [vp_cell_q, gr_outer]
    refine arrV_same fun j hj => ?_
    rw [if_pos hj, hG.2.1]
    congr 2
    omega
  rw [hout] at f2
  have hz : F.heap.size = b + (n + (1 + v.toNatClampNeg)) := by rw [f1, hG.2.1]; omega
  have hP1 : va_P D vwCl (wl b (n + (1 + v.toNatClampNeg)) E) F.heap := wl_growN hG.1 hold (fun j hj => by
    match j, hj with
    | 0, _ =>
      show va_at D vwCl (b + n, E n) F.heap
      rw [he]
      show F.heap[b + n]? = _
      rw [← hG.2.1]
      exact f2
    | j + 1, hj =>
      have h3 := hrow j (by omega)
      rw [show n + (j + 1) = n + 1 + j by omega, her j (by omega)]
      show F.heap[b + (n + 1 + j)]? = _
      rw [show b + (n + 1 + j) = H.size + 1 + j by rw [hG.2.1]; omega]
      exact h3)
  have hG1 : Gw D b (n + (1 + v.toNatClampNeg)) E s.heap F.heap locs := ⟨hP1, hz, Nat.le_trans hG.2.2.1 (by rw [hz, hG.2.1]; omega), fun q a1 a2 => (hold q (by have := hG.2.2.1; have := hG.2.1; omega)).trans (hG.2.2.2.1 q a1 a2), hG.2.2.2.2⟩
  obtain ⟨t, a1, b1⟩ := kk F.heap locs arr hG1 hl F rfl X'
  refine ⟨t, step t ?_, b1⟩
  have e9 : T.heap.size = b + n := by rw [hT]; exact hG.2.1
  rw [e9]
  exact a1
theorem GK.callI {d nA i o n' mc ms : Nat} {N : MD} {As rest : List Value} (C : Cx l p s m args meth c D cy b bs L xs M) (hAO : va_AO "QuotaDesk$Gate" s) (hAA : gAA s) (hM : Mg l D cy b d N mc ms (.ref o :: As) n E n' Ψ) (hd : decode M.2.2.1 pc = .ok (.invokespecial i, 3)) (hB : lkB N nA = true) (hl0 : Cond.methodLink (cC M.1) i N.2.1 ∈ wAll ∨ Cond.methodLinkNest (cC M.1) i N.2.1 "QuotaDesk" ∈ nwL) (hin : Cond.instanceMethod N.2.1 ∈ wAll) (hy : N.2.1.name = "<init>") (hret : N.2.2.2.2.1 = none) (hn : As.length = nA) (hA : As.all notRA = true) (hw : (rest.map fun v => v.category).sum ≤ 8) (hst : st = As.reverse ++ .ref o :: rest) (hf : d + 4 ≤ R.frames ∧ 32 * d + 132 ≤ R.locals) (hroom : cells + mc ≤ R.cells ∧ slots + ms ≤ R.slots)
    (kk : ∀ E', Ψ E' → GK p l e R s m args below meth c (cells + mc) (slots + ms) Q D b bs M.2.2.2.1 (pc + 3) ls rest n' E') : GK p l e R s m args below meth c cells slots Q D b bs M.2.2.2.1 pc ls st n E := by
  subst hst
  intro H locs arr hG hl T hT X
  obtain ⟨hx, hb, hml, hown, hr, hlk, hts, hK, -⟩ := C
  obtain ⟨h1, h2, h3, h4, h5⟩ := lkB_spec hB
  rw [hret] at h1
  have hpre : PreS s H (PcG D cy b (.ref o :: As) n E) (.ref (b + o) :: As.map (tr b bs)) := by
    refine ⟨PcG.blind, fun U hU hW => ⟨?_, ?_, ⟨hAO.moved hW.alike, hAA.moved hW.alike⟩, ?_, ?_⟩⟩
    · show (.ref (b + o) :: As.map (tr b bs)).toArray = (.ref (b + o) :: As.map (tr b 0)).toArray
      congr 2
      exact List.map_congr_left fun v hv => tr_notRA (List.all_eq_true.mp hA v hv) b bs 0
    · rw [hU]
      exact hK.moved hW (fun a h1 h2 => hG.2.2.2.1 a h1 h2)
    · rw [hU]; exact hG.1
    · rw [hU]; exact hG.2.1
  have hstk : (As.reverse ++ .ref o :: rest).map (tr b bs) = (As.map (tr b bs)).reverse ++ .ref (b + o) :: rest.map (tr b bs) := by rw [List.map_append, List.map_reverse]; rfl
  have hcode : Cond.code N.2.1 N.2.2.1 N.2.2.2.1 none ∈ wsM N := by rw [← hret]; exact List.mem_cons_self
  have hpay : ∀ w ∈ wsM N, ∀ (a' : Array Value) (U : State), s.WarmedH U.vm → w.before a' U = true := wAll_pay hts (by rw [hret]; exact h1)
  have hgo : va_Run p l e R s m args below meth c H locs cells slots mc ms (F0 m pc arr ((As.reverse ++ .ref o :: rest).map (tr b bs))) (rest.map (tr b bs)) (QcG D b n' Ψ (.ref (b + o) :: As.map (tr b bs)).toArray) (fun q => b ≤ q) := by
    rcases hl0 with hl0 | hl0
    · exact va_runI (n := nA) (maxL := N.2.2.2.1) (bytes := N.2.2.1) ⟨hx, hb, hml, hown, hts⟩ hM ⟨⟨rfl, rfl, by show d + 3 + 1 ≤ _; omega, by show 8 + (N.2.2.2.1 + 11) + (32 * d + 100) ≤ _; omega, hpay, hcode, hts _ h1, hts _ h2, h3, h4, hts _ hl0⟩, hy, hts _ hin⟩ hpre rfl (by rw [List.length_map]; exact hn) hl.1 hstk (lv_room (by rw [sum_tr]; exact hw)) hd hroom
    · exact va_runIN (n := nA) (host := "QuotaDesk") (maxL := N.2.2.2.1) (bytes := N.2.2.1) ⟨hx, hb, hml, hown, hts⟩ hM ⟨⟨⟨rfl, rfl, by show d + 3 + 1 ≤ _; omega, by show 8 + (N.2.2.2.1 + 11) + (32 * d + 100) ≤ _; omega, hpay, hcode⟩, hts _ h1, hts _ h2, h3, h4, va_Nw.use rfl (hK.2.1 _ hl0)⟩, hy, hts _ hin⟩ hpre rfl (by rw [List.length_map]; exact hn) hl.1 hstk (lv_room (by rw [sum_tr]; exact hw)) hd hroom
  obtain ⟨v, st₀, t, T', Ls, h0, X', hL, e1, e2, ⟨⟨E', hv, hΨ, hP, hz⟩, hF⟩, stp⟩ := hgo T hT X
  have hv' : v = none := Outcome.returned.inj hv
  subst hv'
  have hzz : H.size ≤ T'.heap.size := by rw [e1, ← h0]; exact hF.1
  have hS : va_S (fun q => b ≤ q) s.heap T'.heap (locs ++ Ls) := by
    refine ⟨Nat.le_trans hG.2.2.1 hzz, fun q h1 h2 => ?_, fun q hq => ?_⟩
    · rw [e1, hF.2 q (by rw [h0]; exact Nat.lt_of_lt_of_le h1 hG.2.2.1) h2, h0]
      exact hG.2.2.2.1 q h1 h2
    · rcases List.mem_append.mp hq with h | h
      · exact hG.2.2.2.2 q h
      · exact hL q h
  obtain ⟨t2, a1, b1⟩ := kk E' hΨ T'.heap (locs ++ Ls) arr ⟨by rw [e1]; exact hP, by rw [e1]; exact hz, hS⟩ hl T' rfl X'
  exact ⟨t2, stp t2 a1, b1⟩
end G2
