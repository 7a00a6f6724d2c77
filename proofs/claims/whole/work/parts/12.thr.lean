/-! throws -/
abbrev exUp : List String := ["java/lang/RuntimeException", "java/lang/Exception"]
def thrOk (own ik ic : Nat) (cls : String) : Bool := decide (Cond.classLink (cC own) ik cls ∈ wAll) && decide (Cond.initialized cls ∈ wAll) && Bundle.fit cls && exUp.all Bundle.fit && ((vx_at0 (cC own) ic cls exUp).all fun w => if goodWord w then decide (w ∈ wAll) else decide (w ∈ nwL)) && ((Cond.classLink (cC own) ik cls :: Cond.initialized cls :: vx_at0 (cC own) ic cls exUp).all vx_ot)
theorem nwL_ot {w : Cond} (h : w ∈ nwL) : w.onTables = true := by
  have hn := (List.mem_filter.mp h).2
  unfold isNest at hn
  split at hn <;> first | rfl | cases hn
section E4
variable {d Z L : Nat} {xs : Nat → Int32} {M N : MD} {pc i n : Nat} {ls : List (Option Value)} {rest As st : List Value} {I : T2} {J : T3} {z : Nat} {Φ : Out → T2 → T3 → Nat → Prop}
set_option maxHeartbeats 2000000 in
theorem Ev.thr {ik ic : Nat} {cls : String} (hd0 : decode M.2.2.1 pc = .ok (.new ik, 3)) (hd3 : decode M.2.2.1 (pc + 3) = .ok (.dup, 1)) (hd4 : decode M.2.2.1 (pc + 4) = .ok (.invokespecial ic, 3)) (hd7 : decode M.2.2.1 (pc + 7) = .ok (.athrow, 1)) (ho : thrOk M.1 ik ic cls = true) (hh : M.2.2.2.2.2 = []) (h3 : 3 ≤ d) (hz : z + 1 ≤ Z) (hw : (st.map fun v => v.category).sum ≤ 8) (hΦ : Φ (.inr cls) I J (z + 1)) : Ev d Z L xs M pc ls st I J z Φ := by
  intro l p e R s m args below meth c D cy b bs k0 w0 Q C hRm hRT hTH H locs arr hR hl
  obtain ⟨hx, hb, hml, hown, hr, hlk, hts, hK, hX, htr, hex⟩ := id C
  rcases hTH with hTH | ⟨Qc, XC, rfl, rfl, rfl, hXC⟩
  · exact absurd hΦ (hTH _ _ _ _)
  obtain ⟨r1, r2, r3, r4⟩ := hRm
  unfold thrOk at ho
  simp only [Bool.and_eq_true, decide_eq_true_eq] at ho
  obtain ⟨⟨⟨⟨⟨o1, o2⟩, o3⟩, o4⟩, o5⟩, o6⟩ := ho
  have hlist : c.exceptionTable.toList = [] := by rw [hex, hh]; rfl
  refine vx_throw0 (A := fun q => b ≤ q) (own := cC M.1) (cls := cls) (names := exUp) (ik := ik) (ic := ic) hx hb htr hown o3 (fun n hn => List.all_eq_true.mp o4 n hn) (hts _ o1) (hts _ o2) (fun w hw9 => ?_) (fun w hw9 => List.all_eq_true.mp o6 w hw9) hK.2.2.1 hK.2.2.2.1 hR.2 (hl.1.trans hml.symm) hd0 hd3 hd4 hd7 (fun x hx9 => by rw [hlist] at hx9; cases hx9) ?_ ?_ ?_ ?_ hlk ?_ hR.2.2.2 ?_ ?_
  · have h9 := List.all_eq_true.mp o5 w hw9
    by_cases hg : goodWord w = true
    · rw [if_pos hg] at h9
      exact hts _ (of_decide_eq_true h9)
    · rw [if_neg hg] at h9
      exact va_Nw.use (nwL_ot (of_decide_eq_true h9)) (hK.2.1 _ (of_decide_eq_true h9))
  · show 2 + 3 < R.frames
    omega
  · rw [sum_tr]
    show _ + (13 * (2 + 1) + 42) ≤ R.locals
    omega
  · omega
  · omega
  · intro t h1 h2 h4
    refine hXC _ _ _ _ t hΦ (hR.1.kept fun k x hk => ?_) ⟨Nat.le_trans hR.2.1 h2, fun q q1 q2 => ?_⟩
    · exact h4 x.1 ((hR.1 k x hk).lt)
    · rw [h4 q (Nat.lt_of_lt_of_le q1 hR.2.1)]
      exact hR.2.2.1 q q1 q2
  · omega
  · omega
end E4
/-- a method that throws a thing of the class E, and changes nothing -/
def XCm (D : va_G) (cy : Nat → ClassId) (b : Nat) (E : String) (I : T2) (J : T3) : String → State → State → Prop := fun E' st t => (E' = E ∧ va_P D vwCl (wl b 159 (En b cy I J)) t.heap) ∧ va_F (fun q => b ≤ q) st t
def Mth (d : Nat) (M : MD) (As : List Value) (I : T2) (J : T3) (E : String) : Prop :=
  ∀ (l : Launch) (D : va_G) (cy : Nat → ClassId) (b : Nat), l.stackTraces = false → vx_Met l M.2.1 (wsM M) (rmD d 1) (Pcm D cy b As I J) (Qcm D cy b (fun _ _ _ => False)) (XCm D cy b E I J) 1 6 (fun q => b ≤ q)
set_option maxHeartbeats 2000000 in
theorem Mth.of {d : Nat} {M : MD} {As : List Value} {I : T2} {J : T3} {E : String} (hM : mOkX M = true) (hlen : (lsA As).length ≤ M.2.2.2.1) (h : Ev d 1 0 (fun _ => 0) M 0 (lsE M.2.2.2.1 As) [] I J 0 (fun o I' J' _ => o = .inr E ∧ I' = I ∧ J' = J)) : Mth d M As I J E := by
  intro l D cy b htr
  unfold mOkX at hM
  rw [Bool.and_eq_true, Bool.and_eq_true] at hM
  obtain ⟨⟨hM1, hM2⟩, hM3⟩ := hM
  have hM2 := of_decide_eq_true hM2
  have hM3 := List.isEmpty_iff.mp hM3
  refine vx_ofW (cc := M.2.2.1) (maxL := M.2.2.2.1) (ret := M.2.2.2.2.1) hM1 rfl ?_
  intro p e s m args below meth c s₁ B hml hno hv
  obtain ⟨rfl, hK, hP⟩ := hv
  have hts0 := atoms_spec (ws := wsM M) B.pre
  have hown : s.vm.findClass (cC M.1) = some m.cls := by rw [← hM2]; exact findClass_of_methodNamed B.named
  have hex : c.exceptionTable.toList = tableOf M.2.2.2.2.2 := by
    rw [hM3, Array.isEmpty_iff.mp (B.noHandlers (hts0 _ List.mem_cons_self))]
    rfl
  have C : Cx l p s m ((As.map (tr b 0)).toArray) meth c D cy b 0 0 (fun _ => 0) M := ⟨B.exec, B.bytes, hml, hown, B.returns, B.notSynchronized, wAll_hts hts0, hK, fun q => absurd q (Nat.lt_irrefl 0), htr, hex⟩
  rw [lg_entry_eq]
  refine h l p e _ s m _ below meth c D cy b 0 0 0 _ C ⟨Nat.le_refl _, Nat.le_refl _, Nat.le_refl _, Nat.le_refl _⟩ ?_ (Or.inr ⟨_, _, rfl, rfl, rfl, fun E' I' J' z' t q h1 h2 => ?_⟩) s.heap [] _ ⟨hP, va_S.rf⟩ (lvh_entry hlen)
  · intro ins v I' J' z' H' locs' arr' pcr hΦ hz hR hd ho
    cases hΦ.1
  · obtain ⟨q1, rfl, rfl⟩ := q
    cases q1
    exact ⟨⟨rfl, h1⟩, h2⟩
theorem callB_my1 {R : Room} {s : State} {args : Array Value} {own i d n k0 w0 Z : Nat} {N : MD} (hts : ∀ w ∈ wAll, w.before args s = true) (hB : lkB N n = true) (hR : Rm R (d + 1) k0 w0 Z) (hl : (Cond.methodLink (cC own) i N.2.1).before args s = true) :
    CallB R s args (cC own) i N.2.1 N.2.2.1 N.2.2.2.1 N.2.2.2.2.1 (wsM N) (rmD d 1) 1 6 n := by
  obtain ⟨h1, h2, h3, h4, h5⟩ := lkB_spec hB
  obtain ⟨r1, r2, r3, r4⟩ := hR
  refine ⟨rfl, rfl, ?_, ?_, wAll_pay hts h1, List.mem_cons_self, hts _ h1, hts _ h2, h3, h4, hl⟩
  · show d + 3 + 1 ≤ R.frames
    omega
  · show 8 + (N.2.2.2.1 + 11) + (32 * d + 100) ≤ R.locals
    omega
section E5
variable {p : Program} {l : Launch} {e : Env} {R : Room} {s : State} {m : MethodId} {args : Array Value} {below : List Frame} {meth : Method} {c : Code} {H : Heap} {locs : List Loc} {cells slots : Nat} {Q : State → Prop}
variable {D : va_G} {cy : Nat → ClassId} {b bs : Nat} {I : T2} {J : T3} {arr : Array Slot} {pc : Nat} {rest : List Value} {st0 : List Value} {a : Array Value} {E : String}
/-- behind a call that throws -/
theorem call_thr (hr : vx_Run p l e R s m args below meth c H locs cells slots 1 6 (F0 m pc arr st0) (rest.map (tr b bs)) (Qcm D cy b (fun _ _ _ => False) a) (XCm D cy b E I J) (fun q => b ≤ q)) (hR : Rp D cy b I J s.heap H locs)
    (kk : ∀ (q : Addr) (ce : Cell) (H' : Heap) (locs' : List Loc), Rp D cy b I J s.heap H' locs' → H'[q]? = some ce → ce.vm = .none → s.vm.findClass E = some ce.cls → vx_W p l e R s m args below meth c H' locs' (cells + 1) (slots + 6) Q (F0 m pc arr (rest.map (tr b bs))) q) : W p l e R s m args below meth c H locs cells slots Q (F0 m pc arr st0) := by
  intro T hT X
  rcases hr T hT X with ⟨v, st₀, t, T', Ls, h0, X', hL, e1, e2, ⟨⟨v', I', J', hv, hn, hΨ, hP⟩, hF⟩, st⟩ | ⟨q, st₀, t, T', Ls, E', ce, h0, X', hL, e1, e2, ⟨⟨rfl, hP⟩, hF⟩, hce, hcv, hcl, st⟩
  · exact hΨ.elim
  have hz : H.size ≤ T'.heap.size := by rw [e1, ← h0]; exact hF.1
  have hS : va_S (fun q => b ≤ q) s.heap T'.heap (locs ++ Ls) := by
    refine ⟨Nat.le_trans hR.2.1 hz, fun q h1 h2 => ?_, fun q hq => ?_⟩
    · rw [e1, hF.2 q (by rw [h0]; exact Nat.lt_of_lt_of_le h1 hR.2.1) h2, h0]
      exact hR.2.2.1 q h1 h2
    · rcases List.mem_append.mp hq with h | h
      · exact hR.2.2.2 q h
      · exact hL q h
  obtain ⟨t2, a1, b1⟩ := kk q ce T'.heap (locs ++ Ls) ⟨by rw [e1]; exact hP, hS⟩ (by rw [e1]; exact hce) hcv hcl T' rfl X'
  exact ⟨t2, st.trans a1, b1⟩
end E5
section E6
variable {d Z L : Nat} {xs : Nat → Int32} {M N : MD} {pc i n : Nat} {ls : List (Option Value)} {rest As : List Value} {I : T2} {J : T3} {z : Nat} {Φ : Out → T2 → T3 → Nat → Prop} {E : String}
theorem thr_out {p : Program} {l : Launch} {e : Env} {R : Room} {s : State} {m : MethodId} {args : Array Value} {below : List Frame} {meth : Method} {c : Code} {Q : State → Prop} {D : va_G} {cy : Nat → ClassId} {b bs k0 w0 : Nat} {arr : Array Slot} {st : List Value} (C : Cx l p s m args meth c D cy b bs L xs M) (hTH : TH s args below Q D cy b k0 w0 Z Φ) (hh : M.2.2.2.2.2 = []) (hz : z + 1 ≤ Z) (hΦ : Φ (.inr E) I J (z + 1)) :
    ∀ (q : Addr) (ce : Cell) (H' : Heap) (locs' : List Loc), Rp D cy b I J s.heap H' locs' → H'[q]? = some ce → ce.vm = .none → s.vm.findClass E = some ce.cls → vx_W p l e R s m args below meth c H' locs' (k0 + z + 1) (w0 + 6 * z + 6) Q (F0 m pc arr st) q := by
  intro q ce H' locs' hR hce hv hcl
  obtain ⟨hx, hb, hml, hown, hr, hlk, hts, hK, hX, htr, hex⟩ := C
  rcases hTH with hTH | ⟨Qc, XC, rfl, rfl, rfl, hXC⟩
  · exact absurd hΦ (hTH _ _ _ _)
  have hlist : c.exceptionTable.toList = [] := by rw [hex, hh]; rfl
  refine vx_out (E := E) (ce := ce) (fun x hx9 => by rw [hlist] at hx9; cases hx9) hlk hce hv hcl (fun t ht _ => hXC _ _ _ _ t hΦ (by rw [ht]; exact hR.1) (hR.2.F ht)) hR.2.2.2 ?_ ?_
  · omega
  · omega
/-- a called method of an object throws: so does this one -/
theorem Ev.callVT {o : Nat} (hM : Mth d N (.ref o :: As) I J E) (hd : decode M.2.2.1 pc = .ok (.invokevirtual i, 3)) (hB : lkB N n = true) (hl : lkV M.1 i N = true) (hk : kd o = N.1) (hn : As.length = n) (hA : As.all notRA = true) (hw : (rest.map fun v => v.category).sum ≤ 8) {st : List Value} (hst : st = As.reverse ++ .ref o :: rest) (hh : M.2.2.2.2.2 = []) (hz : z + 1 ≤ Z) (hΦ : Φ (.inr E) I J (z + 1)) : Ev (d + 1) Z L xs M pc ls st I J z Φ := by
  subst hst
  intro l p e R s m args below meth c D cy b bs k0 w0 Q C hRm hRT hTH H locs arr hR hlv
  obtain ⟨hx, hb, hml, hown, hr, hlk, hts, hK, hX, htr, hex⟩ := id C
  have hroom : k0 + z + 1 ≤ R.cells ∧ w0 + 6 * z + 6 ≤ R.slots := by obtain ⟨-, -, h3, h4⟩ := hRm; omega
  have hstk : (As.reverse ++ .ref o :: rest).map (tr b bs) = (As.map (tr b bs)).reverse ++ .ref (b + o) :: rest.map (tr b bs) := by rw [List.map_append, List.map_reverse]; rfl
  unfold lkV at hl
  simp only [Bool.and_eq_true, decide_eq_true_eq] at hl
  obtain ⟨⟨⟨⟨l1, l2⟩, l3⟩, l4⟩, l5⟩ := hl
  have hpre := pre_my (bs := bs) (As := .ref o :: As) hK hR (by simpa [notRA] using hA)
  have hcell := va_recv hK.1 hR.1 (cl_at l5) (Rp.at (I := I) (J := J) (b := b) (cy := cy) hk (by omega) (en_obj hk l5 (I o) (J o)))
  have hgo : vx_Run p l e R s m args below meth c H locs (k0 + z) (w0 + 6 * z) 1 6 (F0 m pc arr ((As.reverse ++ .ref o :: rest).map (tr b bs))) (rest.map (tr b bs)) (Qcm D cy b (fun _ _ _ => False) (.ref (b + o) :: As.map (tr b bs)).toArray) (XCm D cy b E I J) (fun q => b ≤ q) :=
    vx_runV (n := n) (C := cC N.1) ⟨hx, hb, hml, hown, hts⟩ (hM l D cy b htr) ⟨callB_my1 hts hB hRm (hts _ l1), hts _ l2, by rw [← l4]; exact hts _ l3⟩ ⟨hpre.1, hcell, hpre.2⟩ rfl (by rw [List.length_map]; exact hn) hlv.1 hstk (lv_room (by rw [sum_tr]; exact hw)) hd hroom
  exact call_thr hgo hR (thr_out C hTH hh hz hΦ)
/-- a called static method throws: so does this one -/
theorem Ev.callST (hM : Mth d N As I J E) (hd : decode M.2.2.1 pc = .ok (.invokestatic i, 3)) (hB : lkB N n = true) (hl : lkS M.1 i N = true) (hn : As.length = n) (hA : As.all notRA = true) (hw : (rest.map fun v => v.category).sum ≤ 8) {st : List Value} (hst : st = As.reverse ++ rest) (hh : M.2.2.2.2.2 = []) (hz : z + 1 ≤ Z) (hΦ : Φ (.inr E) I J (z + 1)) : Ev (d + 1) Z L xs M pc ls st I J z Φ := by
  subst hst
  intro l p e R s m args below meth c D cy b bs k0 w0 Q C hRm hRT hTH H locs arr hR hlv
  obtain ⟨hx, hb, hml, hown, hr, hlk, hts, hK, hX, htr, hex⟩ := id C
  have hroom : k0 + z + 1 ≤ R.cells ∧ w0 + 6 * z + 6 ≤ R.slots := by obtain ⟨-, -, h3, h4⟩ := hRm; omega
  have hstk : (As.reverse ++ rest).map (tr b bs) = (As.map (tr b bs)).reverse ++ rest.map (tr b bs) := by rw [List.map_append, List.map_reverse]
  unfold lkS at hl
  simp only [Bool.and_eq_true, decide_eq_true_eq] at hl
  have hgo : vx_Run p l e R s m args below meth c H locs (k0 + z) (w0 + 6 * z) 1 6 (F0 m pc arr ((As.reverse ++ rest).map (tr b bs))) (rest.map (tr b bs)) (Qcm D cy b (fun _ _ _ => False) (As.map (tr b bs)).toArray) (XCm D cy b E I J) (fun q => b ≤ q) :=
    vx_runS (n := n) ⟨hx, hb, hml, hown, hts⟩ (hM l D cy b htr) ⟨callB_my1 hts hB hRm (hts _ hl.1), hts _ hl.2⟩ (pre_my hK hR hA) rfl (by rw [List.length_map]; exact hn) hlv.1 hstk (lv_room (by rw [sum_tr]; exact hw)) hd hroom
  exact call_thr hgo hR (thr_out C hTH hh hz hΦ)
end E6
