/-! the desk's and the reference's constructors -/
theorem kd_qe : ∀ q, q < 136 → kd_q q = kd q ∧ ln_q q = ln q := by decide +kernel
theorem kd_re : ∀ q, q < 158 → kd_r q = kd q ∧ ln_r q = ln q := by decide +kernel
theorem En_qe {b : Nat} {cy : Nat → ClassId} {I : T2} {J : T3} {q : Nat} (h : q < 136) : En_q b cy I J q = En b cy I J q := by
  obtain ⟨h1, h2⟩ := kd_qe q h
  unfold En_q En en_q en
  rw [h1, h2]
  rfl
theorem En_re {b : Nat} {cy : Nat → ClassId} {I : T2} {J : T3} {q : Nat} (h : q < 158) : En_r b cy I J q = En b cy I J q := by
  obtain ⟨h1, h2⟩ := kd_re q h
  unfold En_r En en_r en
  rw [h1, h2]
  rfl
/-- the row of gates, of which g are there -/
def Fg (b : Nat) (cy : Nat → ClassId) (g : Nat) : Nat → va_E := fun q => if q = 1 then .inl (cy 3, 8, .inr (.inr (.inr (.inr (fun k => if k < g then some (b + (24 + 14 * k)) else none))))) else gF b cy q
theorem Fg_0 {b : Nat} {cy : Nat → ClassId} : Fg b cy 0 1 = .inl (cy 3, 8, .inr (.inr (.inr (.inr (fun _ => none))))) := by
  unfold Fg
  rw [if_pos rfl]
  simp
theorem Fg_1 {b : Nat} {cy : Nat → ClassId} {g : Nat} : Fg b cy g 1 = .inl (cy 3, 8, .inr (.inr (.inr (.inr (fun k => if k < g then some (b + (24 + 14 * k)) else none))))) := if_pos rfl
theorem Fg_n {b : Nat} {cy : Nat → ClassId} {g q : Nat} (h : q ≠ 1) : Fg b cy g q = gF b cy q := if_neg h
section G4
variable {p : Program} {l : Launch} {e : Env} {R : Room} {s : State} {m : MethodId} {args : Array Value} {below : List Frame} {meth : Method} {c : Code} {cells slots : Nat} {Q : State → Prop}
variable {D : va_G} {cy : Nat → ClassId} {b bs L : Nat} {xs : Nat → Int32} {M N : MD} {pc n d i nA o : Nat} {ls : List (Option Value)} {st rest As : List Value} {I : T2} {J : T3} {Ψ : Option Value → T2 → T3 → Prop}
theorem Pcm_r.blind2 {D : va_G} {cy : Nat → ClassId} {b : Nat} {As : List Value} {I : T2} {J : T3} : FrameBlind (Pcm_r D cy b As I J) := by
  intro a U g mk h
  obtain ⟨h1, h2, h3⟩ := h
  exact ⟨h1, KS.same (s := U) rfl h2, h3⟩
theorem pre_my_r {D : va_G} {cy : Nat → ClassId} {b bs : Nat} {s : State} {H : Heap} {locs : List Loc} {As : List Value} {I : T2} {J : T3} (hK : KS D cy b s s.heap) (hR : Rp_r D cy b I J s.heap H locs) (hA : As.all notRA = true) : PreS s H (Pcm_r D cy b As I J) (As.map (tr b bs)) := by
  refine ⟨Pcm_r.blind2, fun U hU hW => ⟨?_, ?_, ?_⟩⟩
  · congr 1
    exact List.map_congr_left fun v hv => tr_notRA (List.all_eq_true.mp hA v hv) b bs 0
  · rw [hU]
    exact hK.moved hW (fun a h1 h2 => hR.2.2.1 a h1 h2)
  · rw [hU]; exact hR.1
theorem GK.callVq (C : Cx l p s m args meth c D cy b bs L xs M) (hM : Mt_q d N (.ref o :: As) I J Ψ) (hd : decode M.2.2.1 pc = .ok (.invokevirtual i, 3)) (hB : lkB N nA = true) (hl0 : lkV M.1 i N = true) (hk : kd_q o = N.1) (hn : As.length = nA) (hA : As.all notRA = true) (hw : (rest.map fun v => v.category).sum ≤ 8) (hst : st = As.reverse ++ .ref o :: rest) (hf : d + 4 ≤ R.frames ∧ 32 * d + 132 ≤ R.locals) (hroom : cells ≤ R.cells ∧ slots ≤ R.slots) (hsz : s.heap.size + cells = b + 136) (hv0 : ∀ v I' J', Ψ v I' J' → v = none)
    (kk : ∀ v I' J', Ψ v I' J' → GK p l e R s m args below meth c cells slots Q D b bs M.2.2.2.1 (pc + 3) ls rest 136 (En_q b cy I' J')) : GK p l e R s m args below meth c cells slots Q D b bs M.2.2.2.1 pc ls st 136 (En_q b cy I J) := by
  subst hst
  intro H locs arr hG hl T hT X
  obtain ⟨hx, hb, hml, hown, hr, hlk, hts, hK, -, htr, -⟩ := C
  have hR : Rp_q D cy b I J s.heap H locs := ⟨hG.1, hG.2.2⟩
  have hstk : (As.reverse ++ .ref o :: rest).map (tr b bs) = (As.map (tr b bs)).reverse ++ .ref (b + o) :: rest.map (tr b bs) := by rw [List.map_append, List.map_reverse]; rfl
  unfold lkV at hl0
  simp only [Bool.and_eq_true, decide_eq_true_eq] at hl0
  obtain ⟨⟨⟨⟨l1, l2⟩, l3⟩, l4⟩, l5⟩ := hl0
  have hpre := pre_my_q (bs := bs) (As := .ref o :: As) hK hR (by simpa [notRA] using hA)
  have hcell := va_recv hK.1 hR.1 (cl_at l5) (Rp_q.at (I := I) (J := J) (b := b) (cy := cy) hk (by omega) (en_obj_q hk l5 (I o) (J o)))
  have hRm : Rm R (d + 1) cells slots 0 := ⟨by omega, by omega, by omega, by omega⟩
  have hgo : va_Run p l e R s m args below meth c H locs cells slots 0 0 (F0 m pc arr ((As.reverse ++ .ref o :: rest).map (tr b bs))) (rest.map (tr b bs)) (Qcm_q D cy b Ψ (.ref (b + o) :: As.map (tr b bs)).toArray) (fun q => b ≤ q) :=
    va_runV (n := nA) (C := cC N.1) ⟨hx, hb, hml, hown, hts⟩ (hM l D cy b htr) ⟨callB_my hts hB hRm (hts _ l1), hts _ l2, by rw [← l4]; exact hts _ l3⟩ ⟨hpre.1, hcell, hpre.2⟩ rfl (by rw [List.length_map]; exact hn) hl.1 hstk (lv_room (by rw [sum_tr]; exact hw)) hd ⟨by omega, by omega⟩
  obtain ⟨v, st₀, t, T', Ls, h0, X', hL, e1, e2, ⟨⟨v', I', J', hv, -, hΨ, hP⟩, hF⟩, stp⟩ := hgo T hT X
  have hv' : v = v'.map (tr b 0) := Outcome.returned.inj hv
  rw [hv0 _ _ _ hΨ] at hv' hΨ
  subst hv'
  have hzz : H.size ≤ T'.heap.size := by rw [e1, ← h0]; exact hF.1
  have hz2 : T'.heap.size ≤ s.heap.size + (cells + 0) := Stand.heapSize X'
  have hS : va_S (fun q => b ≤ q) s.heap T'.heap (locs ++ Ls) := by
    refine ⟨Nat.le_trans hG.2.2.1 hzz, fun q h1 h2 => ?_, fun q hq => ?_⟩
    · rw [e1, hF.2 q (by rw [h0]; exact Nat.lt_of_lt_of_le h1 hG.2.2.1) h2, h0]
      exact hG.2.2.2.1 q h1 h2
    · rcases List.mem_append.mp hq with h | h
      · exact hG.2.2.2.2 q h
      · exact hL q h
  obtain ⟨t2, a1, b1⟩ := kk none I' J' hΨ T'.heap (locs ++ Ls) arr ⟨by rw [e1]; exact hP, by have := hG.2.1; omega, hS⟩ hl T' rfl X'
  exact ⟨t2, stp t2 a1, b1⟩
theorem GK.callVr (C : Cx l p s m args meth c D cy b bs L xs M) (hM : Mt_r d N (.ref o :: As) I J Ψ) (hd : decode M.2.2.1 pc = .ok (.invokevirtual i, 3)) (hB : lkB N nA = true) (hl0 : lkV M.1 i N = true) (hk : kd_r o = N.1) (hn : As.length = nA) (hA : As.all notRA = true) (hw : (rest.map fun v => v.category).sum ≤ 8) (hst : st = As.reverse ++ .ref o :: rest) (hf : d + 4 ≤ R.frames ∧ 32 * d + 132 ≤ R.locals) (hroom : cells ≤ R.cells ∧ slots ≤ R.slots) (hsz : s.heap.size + cells = b + 158) (hv0 : ∀ v I' J', Ψ v I' J' → v = none)
    (kk : ∀ v I' J', Ψ v I' J' → GK p l e R s m args below meth c cells slots Q D b bs M.2.2.2.1 (pc + 3) ls rest 158 (En_r b cy I' J')) : GK p l e R s m args below meth c cells slots Q D b bs M.2.2.2.1 pc ls st 158 (En_r b cy I J) := by
  subst hst
  intro H locs arr hG hl T hT X
  obtain ⟨hx, hb, hml, hown, hr, hlk, hts, hK, -, htr, -⟩ := C
  have hR : Rp_r D cy b I J s.heap H locs := ⟨hG.1, hG.2.2⟩
  have hstk : (As.reverse ++ .ref o :: rest).map (tr b bs) = (As.map (tr b bs)).reverse ++ .ref (b + o) :: rest.map (tr b bs) := by rw [List.map_append, List.map_reverse]; rfl
  unfold lkV at hl0
  simp only [Bool.and_eq_true, decide_eq_true_eq] at hl0
  obtain ⟨⟨⟨⟨l1, l2⟩, l3⟩, l4⟩, l5⟩ := hl0
  have hpre := pre_my_r (bs := bs) (As := .ref o :: As) hK hR (by simpa [notRA] using hA)
  have hcell := va_recv hK.1 hR.1 (cl_at l5) (Rp_r.at (I := I) (J := J) (b := b) (cy := cy) hk (by omega) (en_obj_r hk l5 (I o) (J o)))
  have hRm : Rm R (d + 1) cells slots 0 := ⟨by omega, by omega, by omega, by omega⟩
  have hgo : va_Run p l e R s m args below meth c H locs cells slots 0 0 (F0 m pc arr ((As.reverse ++ .ref o :: rest).map (tr b bs))) (rest.map (tr b bs)) (Qcm_r D cy b Ψ (.ref (b + o) :: As.map (tr b bs)).toArray) (fun q => b ≤ q) :=
    va_runV (n := nA) (C := cC N.1) ⟨hx, hb, hml, hown, hts⟩ (hM l D cy b htr) ⟨callB_my hts hB hRm (hts _ l1), hts _ l2, by rw [← l4]; exact hts _ l3⟩ ⟨hpre.1, hcell, hpre.2⟩ rfl (by rw [List.length_map]; exact hn) hl.1 hstk (lv_room (by rw [sum_tr]; exact hw)) hd ⟨by omega, by omega⟩
  obtain ⟨v, st₀, t, T', Ls, h0, X', hL, e1, e2, ⟨⟨v', I', J', hv, -, hΨ, hP⟩, hF⟩, stp⟩ := hgo T hT X
  have hv' : v = v'.map (tr b 0) := Outcome.returned.inj hv
  rw [hv0 _ _ _ hΨ] at hv' hΨ
  subst hv'
  have hzz : H.size ≤ T'.heap.size := by rw [e1, ← h0]; exact hF.1
  have hz2 : T'.heap.size ≤ s.heap.size + (cells + 0) := Stand.heapSize X'
  have hS : va_S (fun q => b ≤ q) s.heap T'.heap (locs ++ Ls) := by
    refine ⟨Nat.le_trans hG.2.2.1 hzz, fun q h1 h2 => ?_, fun q hq => ?_⟩
    · rw [e1, hF.2 q (by rw [h0]; exact Nat.lt_of_lt_of_le h1 hG.2.2.1) h2, h0]
      exact hG.2.2.2.1 q h1 h2
    · rcases List.mem_append.mp hq with h | h
      · exact hG.2.2.2.2 q h
      · exact hL q h
  obtain ⟨t2, a1, b1⟩ := kk none I' J' hΨ T'.heap (locs ++ Ls) arr ⟨by rw [e1]; exact hP, by have := hG.2.1; omega, hS⟩ hl T' rfl X'
  exact ⟨t2, stp t2 a1, b1⟩
end G4
def psiD (b : Nat) (cy : Nat → ClassId) (E : Nat → va_E) : Prop := ∃ (I : T2) (J : T3), gbP (bg0 gI0 100 10 2 3) (up3 gJ0 0 10 (2 : Int32).toInt64) (2 : Int32).toInt64 8 I J ∧ ∀ q, q < 136 → E q = En b cy I J q
def fsD : List Value := [.ref 1, .ref 2, .ref 12, .ref 14, .ref 19, .ref 22, .ref 23, .int 0, .int 0, .int 0, .long 0]
theorem nI_lt8 : ∀ g, g < 8 → ¬ (8 : Int32) ≤ nI g ∧ ¬ (nI g < 0) ∧ (nI g).toNatClampNeg = g ∧ nI g + Int32.ofInt 1 = nI (g + 1) ∧ nI ((24 + 14 * g + 4 - 24) / 14) = nI g ∧ nI ((24 + 14 * g + 9 - 24) / 14) = nI g := by decide +kernel
set_option maxHeartbeats 4000000 in
set_option maxRecDepth 100000 in
theorem ct_desk2 {p : Program} {l : Launch} {e : Env} {s : State} {m : MethodId} {args : Array Value} {below : List Frame} {meth : Method} {c : Code} {D : va_G} {cy : Nat → ClassId} {b : Nat} {E : Nat → va_E} (C : Cx l p s m args meth c D cy b 0 0 (fun _ => 0) mX6_init) (hz : s.heap.size = b + 1) : GK p l e (rmG 7 135 6019) s m args below meth c 135 6019 (MQ below (QcG D b 136 (psiD b cy)) args s 135 6019 (fun q => b ≤ q)) D b 0 2 102 [some (.ref 0), some (.int (nI 8))] [] 136 (Cn b (Fg b cy 8) E 0 6 fsD) := by
  refine GK.weak (M := mX6_init) (E' := En_q b cy gI0 gJ0) (fun q hq H => ?_) ?_
  · rw [En_qe hq]
    by_cases h0 : q = 0
    · subst h0
      rw [Cn_at, show En b cy gI0 gJ0 0 = gF b cy 0 from rfl, gF_obj (k := 6) (by decide +kernel) (by decide), show fls 6 0 (gI0 0) (gJ0 0) = fsD by decide +kernel]
      exact id
    · rw [Cn_hi (by omega)]
      by_cases h1 : q = 1
      · subst h1
        rw [Fg_1, show En b cy gI0 gJ0 1 = .inl (cy 3, 8, .inr (.inr (.inr (.inr (fun k => some (b + (24 + 14 * k))))))) by
          unfold En
          rw [en_11 (by decide +kernel)]
          rfl]
        intro h
        have h : H[b + 1]? = some (vp_cell (cy 3) (8, .inr (.inr (.inr (.inr (fun k => if k < 8 then some (b + (24 + 14 * k)) else none)))))) := h
        show H[b + 1]? = some (vp_cell (cy 3) (8, .inr (.inr (.inr (.inr (fun k => some (b + (24 + 14 * k))))))))
        rw [h, vp_cell_q, vp_cell_q]
        congr 1
      · rw [Fg_n h1]
        exact id
  refine GK.aload (M := mX6_init) (k := 0) C (by decide +kernel) rfl ?_
  refine GK.bipush (M := mX6_init) (i := 100) 100 C (by decide +kernel) (by decide) ?_
  refine GK.bipush (M := mX6_init) (i := 10) 10 C (by decide +kernel) (by decide) ?_
  refine GK.iconst (M := mX6_init) (i := 2) 2 C (by decide +kernel) (by decide) ?_
  refine GK.iconst (M := mX6_init) (i := 3) 3 C (by decide +kernel) (by decide) ?_
  refine GK.callVq (M := mX6_init) (N := mX6_begin) (i := 53) (nA := 4) (o := 0) (rest := []) C (sp_begin_q (d := 3) 100 10 2 3) (by decide +kernel) (by decide +kernel) (by decide +kernel) (by decide +kernel) rfl rfl (by decide) rfl ⟨by decide, by decide⟩ ⟨by decide, by decide⟩ (by omega) (fun v _ _ h => h.1) ?_
  intro v I' J' h
  exact GK.ret (M := mX6_init) C (by decide +kernel) rfl ⟨I', J', h.2, fun q hq => En_qe hq⟩
set_option maxHeartbeats 4000000 in
set_option maxRecDepth 100000 in
theorem ct_desk1 {p : Program} {l : Launch} {e : Env} {s : State} {m : MethodId} {args : Array Value} {below : List Frame} {meth : Method} {c : Code} {D : va_G} {cy : Nat → ClassId} {b : Nat} {E : Nat → va_E} (htr : l.stackTraces = false) (C : Cx l p s m args meth c D cy b 0 0 (fun _ => 0) mX6_init) (hin : meth.name = "<init>") (hAO : va_AO "QuotaDesk$Gate" s) (hAA : gAA s) (hz : s.heap.size = b + 1) : ∀ k g : Nat, g + k = 8 → GK p l e (rmG 7 135 6019) s m args below meth c (23 + 14 * g) (2547 + 434 * g) (MQ below (QcG D b 136 (psiD b cy)) args s 135 6019 (fun q => b ≤ q)) D b 0 2 76 [some (.ref 0), some (.int (nI g))] [] (24 + 14 * g) (Cn b (Fg b cy g) E 0 6 fsD)
  | 0, g, hg => by
    obtain rfl : g = 8 := by omega
    refine GK.iload (M := mX6_init) (k := 1) C (by decide +kernel) rfl ?_
    refine GK.bipush (M := mX6_init) (i := 8) 8 C (by decide +kernel) (by decide) ?_
    exact GK.icmp_ge (M := mX6_init) (off := 23) 102 C (by decide +kernel) (by decide) (fun _ => ct_desk2 C hz) (fun h => absurd (show (8 : Int32) ≤ nI 8 by decide) h)
  | k + 1, g, hg => by
    obtain ⟨g1, g2, g3, g4, g5, g6⟩ := nI_lt8 g (by omega)
    have okk := okg_all g (by omega)
    have hkd : kd (24 + 14 * g) = 1 := okk.1
    refine GK.iload (M := mX6_init) (k := 1) C (by decide +kernel) rfl ?_
    refine GK.bipush (M := mX6_init) (i := 8) 8 C (by decide +kernel) (by decide) ?_
    refine GK.icmp_ge (M := mX6_init) (off := 23) 102 C (by decide +kernel) (by decide) (fun h => absurd h g1) (fun _ => ?_)
    refine GK.aload (M := mX6_init) (k := 0) C (by decide +kernel) rfl ?_
    refine GK.get (M := mX6_init) (i := 11) (j := 0) (v := .ref 1) C (by decide +kernel) (by decide) (by omega) Cn_at rfl rfl ?_
    refine GK.iload (M := mX6_init) (k := 1) C (by decide +kernel) rfl ?_
    refine GK.congr (M := mX6_init) (E' := Cn b (gF b cy) (Cn b (Fg b cy g) E 0 6 fsD) (24 + 14 * g) 1 (blk 1)) (fun q hq => (Cn_lo hq).symm) ?_
    refine GK.new (M := mX6_init) (i := 9) 1 C (by decide +kernel) (by decide) (by decide +kernel) (by decide +kernel) (by decide +kernel) (by show _ ≤ 135; omega) (by show _ + 9 ≤ 6019; omega) Cn_at ?_
    refine GK.dup (M := mX6_init) C (by decide +kernel) ?_
    refine GK.iload (M := mX6_init) (k := 1) C (by decide +kernel) rfl ?_
    refine GK.callI (M := mX6_init) (i := 50) (nA := 1) (rest := [.ref (24 + 14 * g), .int (nI g), .ref 1]) C hAO hAA (ct_gate (o := 24 + 14 * g) (x := nI g) htr okk g5 g6) (by decide +kernel) (by decide +kernel) (Or.inl (by decide +kernel)) (by decide +kernel) rfl rfl rfl rfl (Nat.le_of_ble_eq_true rfl) rfl ⟨by decide, by decide⟩ ⟨by show _ ≤ 135; omega, by show _ + 9 + 425 ≤ 6019; omega⟩ ?_
    intro E' hE'
    subst hE'
    refine GK.congr (M := mX6_init) (E' := Cn b (Fg b cy g) E 0 6 fsD) (fun q _ => Cn_back (by omega) (fun q hq => Fg_n (by omega)) hkd (by decide) q) ?_
    refine GK.aast (M := mX6_init) (g := g) (N := 8) C (by decide +kernel) (by omega) ((Cn_hi (by decide)).trans Fg_1) (by omega) ((Cn_hi (by omega)).trans ((Fg_n (by omega)).trans (gF_obj hkd (by decide)))) (fun h => h.elim g2 (fun h => by rw [g3] at h; omega)) g3 ?_
    refine GK.congr (M := mX6_init) (E' := Cn b (Fg b cy (g + 1)) E 0 6 fsD) (fun q _ => ?_) ?_
    · by_cases h1 : q = 1
      · subst h1
        rw [va_up_self, Cn_hi (by decide), Fg_1]
        refine congrArg (fun f => (Sum.inl (cy 3, 8, .inr (.inr (.inr (.inr f)))) : va_E)) (funext fun x => ?_)
        by_cases hx : x = g
        · subst hx
          simp [va_up]
        · simp only [va_up, hx, if_false]
          by_cases hx2 : x < g
          · rw [if_pos hx2, if_pos (by omega)]
          · rw [if_neg hx2, if_neg (by omega)]
      · rw [va_up_ne _ _ h1]
        by_cases h0 : q = 0
        · subst h0
          rw [Cn_at, Cn_at]
        · rw [Cn_hi (by omega), Cn_hi (by omega), Fg_n h1, Fg_n h1]
    refine GK.iinc (M := mX6_init) (i := 1) (j := 1) C (by decide +kernel) rfl g4 rfl (by decide) ?_
    refine GK.goto (M := mX6_init) (off := -23) 76 C (by decide +kernel) (by decide) ?_
    have ih := ct_desk1 (E := E) (below := below) (e := e) htr C hin hAO hAA hz k (g + 1) (by omega)
    rw [show 23 + 14 * (g + 1) = 23 + 14 * g + 1 + 13 by omega, show 2547 + 434 * (g + 1) = 2547 + 434 * g + 9 + 425 by omega, show 24 + 14 * (g + 1) = 24 + 14 * g + 14 by omega] at ih
    exact ih
set_option maxHeartbeats 4000000 in
set_option maxRecDepth 100000 in
theorem ct_desk {l : Launch} {D : va_G} {cy : Nat → ClassId} {b : Nat} {E : Nat → va_E} (htr : l.stackTraces = false) : Mg l D cy b 7 mX6_init 135 6019 [.ref 0] 1 (Cn b (gF b cy) E 0 6 (blk 6)) 136 (psiD b cy) := by
  refine Mg.of (by decide +kernel) (Nat.le_of_ble_eq_true rfl) rfl htr ?_
  intro p e s m args below meth c C hin hAO hAA hz
  refine GK.congr (E' := Cn b (Fg b cy 0) E 0 6 (blk 6)) (fun q hq => ?_) ?_
  · obtain rfl : q = 0 := by omega
    rw [Cn_at, Cn_at]
  refine GK.aload (k := 0) C (by decide +kernel) rfl ?_
  refine GK.obj (i := 1) C (by decide +kernel) (by decide +kernel) (by decide) (by decide) ?_
  refine GK.aload (k := 0) C (by decide +kernel) rfl ?_
  refine GK.bipush (i := 8) 8 C (by decide +kernel) (by decide) ?_
  refine GK.newq (i := 9) (N := 8) C hAO (by decide +kernel) (by decide +kernel) (by decide) (by decide) (by decide) (by decide) (by decide) (by rw [Cn_hi (by decide)]; exact Fg_0) ?_
  refine GK.putC (i := 11) (j := 0) (fs' := [.ref 1, .null, .null, .null, .null, .null, .null, .int 0, .int 0, .int 0, .long 0]) C hin (by decide +kernel) (by decide) rfl rfl (by decide) rfl rfl rfl rfl rfl ?_
  refine GK.aload (k := 0) C (by decide +kernel) rfl ?_
  refine GK.congr (E' := Cn b (gF b cy) (Cn b (Fg b cy 0) E 0 6 [.ref 1, .null, .null, .null, .null, .null, .null, .int 0, .int 0, .int 0, .long 0]) 2 2 (blk 2)) (fun q hq => (Cn_lo hq).symm) ?_
  refine GK.new (i := 15) 2 C (by decide +kernel) (by decide) (by decide +kernel) (by decide +kernel) (by decide +kernel) (by decide) (by decide) Cn_at ?_
  refine GK.dup C (by decide +kernel) ?_
  refine GK.callI (i := 17) (nA := 0) C hAO hAA (ct_office htr) (by decide +kernel) (by decide +kernel) (Or.inr (by decide +kernel)) (by decide +kernel) rfl rfl rfl rfl (by first | decide | exact Nat.le_of_ble_eq_true rfl) rfl ⟨by decide, by decide⟩ ⟨by decide, by decide⟩ ?_
  intro E' hE'
  subst hE'
  refine GK.congr (E' := Cn b (Fg b cy 0) E 0 6 [.ref 1, .null, .null, .null, .null, .null, .null, .int 0, .int 0, .int 0, .long 0]) (fun q _ => Cn_back (by decide) (fun q hq => Fg_n (by omega)) (by decide +kernel) (by decide) q) ?_
  refine GK.putC (i := 18) (j := 1) (fs' := [.ref 1, .ref 2, .null, .null, .null, .null, .null, .int 0, .int 0, .int 0, .long 0]) C hin (by decide +kernel) (by decide) rfl rfl (by decide) rfl rfl rfl rfl rfl ?_
  refine GK.aload (k := 0) C (by decide +kernel) rfl ?_
  refine GK.congr (E' := Cn b (gF b cy) (Cn b (Fg b cy 0) E 0 6 [.ref 1, .ref 2, .null, .null, .null, .null, .null, .int 0, .int 0, .int 0, .long 0]) 12 3 (blk 3)) (fun q hq => (Cn_lo hq).symm) ?_
  refine GK.new (i := 22) 3 C (by decide +kernel) (by decide) (by decide +kernel) (by decide +kernel) (by decide +kernel) (by decide) (by decide) Cn_at ?_
  refine GK.dup C (by decide +kernel) ?_
  refine GK.callI (i := 24) (nA := 0) C hAO hAA (ct_pool htr) (by decide +kernel) (by decide +kernel) (Or.inr (by decide +kernel)) (by decide +kernel) rfl rfl rfl rfl (by first | decide | exact Nat.le_of_ble_eq_true rfl) rfl ⟨by decide, by decide⟩ ⟨by decide, by decide⟩ ?_
  intro E' hE'
  subst hE'
  refine GK.congr (E' := Cn b (Fg b cy 0) E 0 6 [.ref 1, .ref 2, .null, .null, .null, .null, .null, .int 0, .int 0, .int 0, .long 0]) (fun q _ => Cn_back (by decide) (fun q hq => Fg_n (by omega)) (by decide +kernel) (by decide) q) ?_
  refine GK.putC (i := 25) (j := 2) (fs' := [.ref 1, .ref 2, .ref 12, .null, .null, .null, .null, .int 0, .int 0, .int 0, .long 0]) C hin (by decide +kernel) (by decide) rfl rfl (by decide) rfl rfl rfl rfl rfl ?_
  refine GK.aload (k := 0) C (by decide +kernel) rfl ?_
  refine GK.congr (E' := Cn b (gF b cy) (Cn b (Fg b cy 0) E 0 6 [.ref 1, .ref 2, .ref 12, .null, .null, .null, .null, .int 0, .int 0, .int 0, .long 0]) 14 4 (blk 4)) (fun q hq => (Cn_lo hq).symm) ?_
  refine GK.new (i := 29) 4 C (by decide +kernel) (by decide) (by decide +kernel) (by decide +kernel) (by decide +kernel) (by decide) (by decide) Cn_at ?_
  refine GK.dup C (by decide +kernel) ?_
  refine GK.callI (i := 31) (nA := 0) C hAO hAA (ct_sharing htr) (by decide +kernel) (by decide +kernel) (Or.inr (by decide +kernel)) (by decide +kernel) rfl rfl rfl rfl (by first | decide | exact Nat.le_of_ble_eq_true rfl) rfl ⟨by decide, by decide⟩ ⟨by decide, by decide⟩ ?_
  intro E' hE'
  subst hE'
  refine GK.congr (E' := Cn b (Fg b cy 0) E 0 6 [.ref 1, .ref 2, .ref 12, .null, .null, .null, .null, .int 0, .int 0, .int 0, .long 0]) (fun q _ => Cn_back (by decide) (fun q hq => Fg_n (by omega)) (by decide +kernel) (by decide) q) ?_
  refine GK.putC (i := 32) (j := 3) (fs' := [.ref 1, .ref 2, .ref 12, .ref 14, .null, .null, .null, .int 0, .int 0, .int 0, .long 0]) C hin (by decide +kernel) (by decide) rfl rfl (by decide) rfl rfl rfl rfl rfl ?_
  refine GK.aload (k := 0) C (by decide +kernel) rfl ?_
  refine GK.congr (E' := Cn b (gF b cy) (Cn b (Fg b cy 0) E 0 6 [.ref 1, .ref 2, .ref 12, .ref 14, .null, .null, .null, .int 0, .int 0, .int 0, .long 0]) 19 0 (blk 0)) (fun q hq => (Cn_lo hq).symm) ?_
  refine GK.new (i := 36) 0 C (by decide +kernel) (by decide) (by decide +kernel) (by decide +kernel) (by decide +kernel) (by decide) (by decide) Cn_at ?_
  refine GK.dup C (by decide +kernel) ?_
  refine GK.callI (i := 38) (nA := 0) C hAO hAA (ct_adm htr) (by decide +kernel) (by decide +kernel) (Or.inr (by decide +kernel)) (by decide +kernel) rfl rfl rfl rfl (by first | decide | exact Nat.le_of_ble_eq_true rfl) rfl ⟨by decide, by decide⟩ ⟨by decide, by decide⟩ ?_
  intro E' hE'
  subst hE'
  refine GK.congr (E' := Cn b (Fg b cy 0) E 0 6 [.ref 1, .ref 2, .ref 12, .ref 14, .null, .null, .null, .int 0, .int 0, .int 0, .long 0]) (fun q _ => Cn_back (by decide) (fun q hq => Fg_n (by omega)) (by decide +kernel) (by decide) q) ?_
  refine GK.putC (i := 39) (j := 4) (fs' := [.ref 1, .ref 2, .ref 12, .ref 14, .ref 19, .null, .null, .int 0, .int 0, .int 0, .long 0]) C hin (by decide +kernel) (by decide) rfl rfl (by decide) rfl rfl rfl rfl rfl ?_
  refine GK.aload (k := 0) C (by decide +kernel) rfl ?_
  refine GK.sipush (i := 200) 200 C (by decide +kernel) (by decide) ?_
  refine GK.newI (N := 200) C (by decide +kernel) (by decide) (Fg_n (by decide)) (by decide +kernel) (by decide +kernel) (by decide) (by decide) (by decide) (by decide) (by decide) ?_
  refine GK.putC (i := 43) (j := 5) (fs' := [.ref 1, .ref 2, .ref 12, .ref 14, .ref 19, .ref 22, .null, .int 0, .int 0, .int 0, .long 0]) C hin (by decide +kernel) (by decide) rfl rfl (by decide) rfl rfl rfl rfl rfl ?_
  refine GK.aload (k := 0) C (by decide +kernel) rfl ?_
  refine GK.bipush (i := 6) 6 C (by decide +kernel) (by decide) ?_
  refine GK.newI (N := 6) C (by decide +kernel) (by decide) (Fg_n (by decide)) (by decide +kernel) (by decide +kernel) (by decide) (by decide) (by decide) (by decide) (by decide) ?_
  refine GK.putC (i := 47) (j := 6) (fs' := [.ref 1, .ref 2, .ref 12, .ref 14, .ref 19, .ref 22, .ref 23, .int 0, .int 0, .int 0, .long 0]) C hin (by decide +kernel) (by decide) rfl rfl (by decide) rfl rfl rfl rfl rfl ?_
  refine GK.iconst (i := 0) 0 C (by decide +kernel) (by decide) ?_
  refine GK.istore_n (k := 1) C (by decide +kernel) rfl (by decide) ?_
  exact ct_desk1 (E := E) htr C hin hAO hAA hz 8 0 rfl
def I2m (I : T2) : T2 := fun o => if o < 136 then I o else gI0 o
def J2m (J : T3) : T3 := fun o => if o < 136 then J o else gJ0 o
def psiM (b : Nat) (cy : Nat → ClassId) (I : T2) (J : T3) (E : Nat → va_E) : Prop := ∃ (I' : T2) (J' : T3) (v : Option Value), bgM (I2m I) (J2m J) 100 10 2 3 v I' J' ∧ ∀ q, q < 158 → E q = En b cy I' J' q
set_option maxHeartbeats 4000000 in
set_option maxRecDepth 100000 in
theorem ct_model {l : Launch} {D : va_G} {cy : Nat → ClassId} {b : Nat} {I : T2} {J : T3} (htr : l.stackTraces = false) : Mg l D cy b 7 mX7_init 21 8435 [.ref 136] 137 (Cn b (gF b cy) (En b cy I J) 136 7 (blk 7)) 158 (psiM b cy I J) := by
  generalize hE : En b cy I J = E
  refine Mg.of (by decide +kernel) (Nat.le_of_ble_eq_true rfl) rfl htr ?_
  intro p e s m args below meth c C hin hAO hAA hz
  refine GK.aload (k := 0) C (by decide +kernel) rfl ?_
  refine GK.obj (i := 1) C (by decide +kernel) (by decide +kernel) (by decide) (by decide) ?_
  refine GK.aload (k := 0) C (by decide +kernel) rfl ?_
  refine GK.iconst (i := 3) 3 C (by decide +kernel) (by decide) ?_
  refine GK.newI (N := 3) C (by decide +kernel) (by decide) rfl (by decide +kernel) (by decide +kernel) (by decide) (by decide) (by decide) (by decide) (by decide) ?_
  refine GK.putC (i := 7) (j := 9) (fs' := [.int 0, .int 0, .int 0, .int 0, .int 0, .long 0, .int 0, .int 0, .int 0, .ref 137, .null, .null, .null, .null, .null, .null, .null, .null, .null, .null, .null, .null, .null, .null, .int 0, .null, .null, .int 0, .null, .null, .null, .null]) C hin (by decide +kernel) (by decide) rfl rfl (by decide) rfl rfl rfl rfl rfl ?_
  refine GK.aload (k := 0) C (by decide +kernel) rfl ?_
  refine GK.bipush (i := 24) 24 C (by decide +kernel) (by decide) ?_
  refine GK.newI (N := 24) C (by decide +kernel) (by decide) rfl (by decide +kernel) (by decide +kernel) (by decide) (by decide) (by decide) (by decide) (by decide) ?_
  refine GK.putC (i := 13) (j := 10) (fs' := [.int 0, .int 0, .int 0, .int 0, .int 0, .long 0, .int 0, .int 0, .int 0, .ref 137, .ref 138, .null, .null, .null, .null, .null, .null, .null, .null, .null, .null, .null, .null, .null, .int 0, .null, .null, .int 0, .null, .null, .null, .null]) C hin (by decide +kernel) (by decide) rfl rfl (by decide) rfl rfl rfl rfl rfl ?_
  refine GK.aload (k := 0) C (by decide +kernel) rfl ?_
  refine GK.bipush (i := 24) 24 C (by decide +kernel) (by decide) ?_
  refine GK.newI (N := 24) C (by decide +kernel) (by decide) rfl (by decide +kernel) (by decide +kernel) (by decide) (by decide) (by decide) (by decide) (by decide) ?_
  refine GK.putC (i := 16) (j := 11) (fs' := [.int 0, .int 0, .int 0, .int 0, .int 0, .long 0, .int 0, .int 0, .int 0, .ref 137, .ref 138, .ref 139, .null, .null, .null, .null, .null, .null, .null, .null, .null, .null, .null, .null, .int 0, .null, .null, .int 0, .null, .null, .null, .null]) C hin (by decide +kernel) (by decide) rfl rfl (by decide) rfl rfl rfl rfl rfl ?_
  refine GK.aload (k := 0) C (by decide +kernel) rfl ?_
  refine GK.bipush (i := 8) 8 C (by decide +kernel) (by decide) ?_
  refine GK.newI (N := 8) C (by decide +kernel) (by decide) rfl (by decide +kernel) (by decide +kernel) (by decide) (by decide) (by decide) (by decide) (by decide) ?_
  refine GK.putC (i := 19) (j := 12) (fs' := [.int 0, .int 0, .int 0, .int 0, .int 0, .long 0, .int 0, .int 0, .int 0, .ref 137, .ref 138, .ref 139, .ref 140, .null, .null, .null, .null, .null, .null, .null, .null, .null, .null, .null, .int 0, .null, .null, .int 0, .null, .null, .null, .null]) C hin (by decide +kernel) (by decide) rfl rfl (by decide) rfl rfl rfl rfl rfl ?_
  refine GK.aload (k := 0) C (by decide +kernel) rfl ?_
  refine GK.bipush (i := 8) 8 C (by decide +kernel) (by decide) ?_
  refine GK.newJ (N := 8) C (by decide +kernel) (by decide) rfl (by decide +kernel) (by decide +kernel) (by decide) (by decide) (by decide) (by decide) (by decide) ?_
  refine GK.putC (i := 22) (j := 13) (fs' := [.int 0, .int 0, .int 0, .int 0, .int 0, .long 0, .int 0, .int 0, .int 0, .ref 137, .ref 138, .ref 139, .ref 140, .ref 141, .null, .null, .null, .null, .null, .null, .null, .null, .null, .null, .int 0, .null, .null, .int 0, .null, .null, .null, .null]) C hin (by decide +kernel) (by decide) rfl rfl (by decide) rfl rfl rfl rfl rfl ?_
  refine GK.aload (k := 0) C (by decide +kernel) rfl ?_
  refine GK.bipush (i := 8) 8 C (by decide +kernel) (by decide) ?_
  refine GK.newI (N := 8) C (by decide +kernel) (by decide) rfl (by decide +kernel) (by decide +kernel) (by decide) (by decide) (by decide) (by decide) (by decide) ?_
  refine GK.putC (i := 26) (j := 14) (fs' := [.int 0, .int 0, .int 0, .int 0, .int 0, .long 0, .int 0, .int 0, .int 0, .ref 137, .ref 138, .ref 139, .ref 140, .ref 141, .ref 142, .null, .null, .null, .null, .null, .null, .null, .null, .null, .int 0, .null, .null, .int 0, .null, .null, .null, .null]) C hin (by decide +kernel) (by decide) rfl rfl (by decide) rfl rfl rfl rfl rfl ?_
  refine GK.aload (k := 0) C (by decide +kernel) rfl ?_
  refine GK.bipush (i := 8) 8 C (by decide +kernel) (by decide) ?_
  refine GK.newZ (N := 8) C (by decide +kernel) (by decide) rfl (by decide +kernel) (by decide +kernel) (by decide) (by decide) (by decide) (by decide) (by decide) ?_
  refine GK.putC (i := 29) (j := 15) (fs' := [.int 0, .int 0, .int 0, .int 0, .int 0, .long 0, .int 0, .int 0, .int 0, .ref 137, .ref 138, .ref 139, .ref 140, .ref 141, .ref 142, .ref 143, .null, .null, .null, .null, .null, .null, .null, .null, .int 0, .null, .null, .int 0, .null, .null, .null, .null]) C hin (by decide +kernel) (by decide) rfl rfl (by decide) rfl rfl rfl rfl rfl ?_
  refine GK.aload (k := 0) C (by decide +kernel) rfl ?_
  refine GK.bipush (i := 24) 24 C (by decide +kernel) (by decide) ?_
  refine GK.newI (N := 24) C (by decide +kernel) (by decide) rfl (by decide +kernel) (by decide +kernel) (by decide) (by decide) (by decide) (by decide) (by decide) ?_
  refine GK.putC (i := 33) (j := 16) (fs' := [.int 0, .int 0, .int 0, .int 0, .int 0, .long 0, .int 0, .int 0, .int 0, .ref 137, .ref 138, .ref 139, .ref 140, .ref 141, .ref 142, .ref 143, .ref 144, .null, .null, .null, .null, .null, .null, .null, .int 0, .null, .null, .int 0, .null, .null, .null, .null]) C hin (by decide +kernel) (by decide) rfl rfl (by decide) rfl rfl rfl rfl rfl ?_
  refine GK.aload (k := 0) C (by decide +kernel) rfl ?_
  refine GK.bipush (i := 24) 24 C (by decide +kernel) (by decide) ?_
  refine GK.newI (N := 24) C (by decide +kernel) (by decide) rfl (by decide +kernel) (by decide +kernel) (by decide) (by decide) (by decide) (by decide) (by decide) ?_
  refine GK.putC (i := 36) (j := 17) (fs' := [.int 0, .int 0, .int 0, .int 0, .int 0, .long 0, .int 0, .int 0, .int 0, .ref 137, .ref 138, .ref 139, .ref 140, .ref 141, .ref 142, .ref 143, .ref 144, .ref 145, .null, .null, .null, .null, .null, .null, .int 0, .null, .null, .int 0, .null, .null, .null, .null]) C hin (by decide +kernel) (by decide) rfl rfl (by decide) rfl rfl rfl rfl rfl ?_
  refine GK.aload (k := 0) C (by decide +kernel) rfl ?_
  refine GK.bipush (i := 24) 24 C (by decide +kernel) (by decide) ?_
  refine GK.newI (N := 24) C (by decide +kernel) (by decide) rfl (by decide +kernel) (by decide +kernel) (by decide) (by decide) (by decide) (by decide) (by decide) ?_
  refine GK.putC (i := 39) (j := 18) (fs' := [.int 0, .int 0, .int 0, .int 0, .int 0, .long 0, .int 0, .int 0, .int 0, .ref 137, .ref 138, .ref 139, .ref 140, .ref 141, .ref 142, .ref 143, .ref 144, .ref 145, .ref 146, .null, .null, .null, .null, .null, .int 0, .null, .null, .int 0, .null, .null, .null, .null]) C hin (by decide +kernel) (by decide) rfl rfl (by decide) rfl rfl rfl rfl rfl ?_
  refine GK.aload (k := 0) C (by decide +kernel) rfl ?_
  refine GK.sipush (i := 4800) 4800 C (by decide +kernel) (by decide) ?_
  refine GK.newI (N := 4800) C (by decide +kernel) (by decide) rfl (by decide +kernel) (by decide +kernel) (by decide) (by decide) (by decide) (by decide) (by decide) ?_
  refine GK.putC (i := 42) (j := 19) (fs' := [.int 0, .int 0, .int 0, .int 0, .int 0, .long 0, .int 0, .int 0, .int 0, .ref 137, .ref 138, .ref 139, .ref 140, .ref 141, .ref 142, .ref 143, .ref 144, .ref 145, .ref 146, .ref 147, .null, .null, .null, .null, .int 0, .null, .null, .int 0, .null, .null, .null, .null]) C hin (by decide +kernel) (by decide) rfl rfl (by decide) rfl rfl rfl rfl rfl ?_
  refine GK.aload (k := 0) C (by decide +kernel) rfl ?_
  refine GK.bipush (i := 16) 16 C (by decide +kernel) (by decide) ?_
  refine GK.newI (N := 16) C (by decide +kernel) (by decide) rfl (by decide +kernel) (by decide +kernel) (by decide) (by decide) (by decide) (by decide) (by decide) ?_
  refine GK.putC (i := 45) (j := 20) (fs' := [.int 0, .int 0, .int 0, .int 0, .int 0, .long 0, .int 0, .int 0, .int 0, .ref 137, .ref 138, .ref 139, .ref 140, .ref 141, .ref 142, .ref 143, .ref 144, .ref 145, .ref 146, .ref 147, .ref 148, .null, .null, .null, .int 0, .null, .null, .int 0, .null, .null, .null, .null]) C hin (by decide +kernel) (by decide) rfl rfl (by decide) rfl rfl rfl rfl rfl ?_
  refine GK.aload (k := 0) C (by decide +kernel) rfl ?_
  refine GK.bipush (i := 16) 16 C (by decide +kernel) (by decide) ?_
  refine GK.newI (N := 16) C (by decide +kernel) (by decide) rfl (by decide +kernel) (by decide +kernel) (by decide) (by decide) (by decide) (by decide) (by decide) ?_
  refine GK.putC (i := 48) (j := 21) (fs' := [.int 0, .int 0, .int 0, .int 0, .int 0, .long 0, .int 0, .int 0, .int 0, .ref 137, .ref 138, .ref 139, .ref 140, .ref 141, .ref 142, .ref 143, .ref 144, .ref 145, .ref 146, .ref 147, .ref 148, .ref 149, .null, .null, .int 0, .null, .null, .int 0, .null, .null, .null, .null]) C hin (by decide +kernel) (by decide) rfl rfl (by decide) rfl rfl rfl rfl rfl ?_
  refine GK.aload (k := 0) C (by decide +kernel) rfl ?_
  refine GK.bipush (i := 16) 16 C (by decide +kernel) (by decide) ?_
  refine GK.newI (N := 16) C (by decide +kernel) (by decide) rfl (by decide +kernel) (by decide +kernel) (by decide) (by decide) (by decide) (by decide) (by decide) ?_
  refine GK.putC (i := 51) (j := 22) (fs' := [.int 0, .int 0, .int 0, .int 0, .int 0, .long 0, .int 0, .int 0, .int 0, .ref 137, .ref 138, .ref 139, .ref 140, .ref 141, .ref 142, .ref 143, .ref 144, .ref 145, .ref 146, .ref 147, .ref 148, .ref 149, .ref 150, .null, .int 0, .null, .null, .int 0, .null, .null, .null, .null]) C hin (by decide +kernel) (by decide) rfl rfl (by decide) rfl rfl rfl rfl rfl ?_
  refine GK.aload (k := 0) C (by decide +kernel) rfl ?_
  refine GK.sipush (i := 1200) 1200 C (by decide +kernel) (by decide) ?_
  refine GK.newI (N := 1200) C (by decide +kernel) (by decide) rfl (by decide +kernel) (by decide +kernel) (by decide) (by decide) (by decide) (by decide) (by decide) ?_
  refine GK.putC (i := 54) (j := 23) (fs' := [.int 0, .int 0, .int 0, .int 0, .int 0, .long 0, .int 0, .int 0, .int 0, .ref 137, .ref 138, .ref 139, .ref 140, .ref 141, .ref 142, .ref 143, .ref 144, .ref 145, .ref 146, .ref 147, .ref 148, .ref 149, .ref 150, .ref 151, .int 0, .null, .null, .int 0, .null, .null, .null, .null]) C hin (by decide +kernel) (by decide) rfl rfl (by decide) rfl rfl rfl rfl rfl ?_
  refine GK.aload (k := 0) C (by decide +kernel) rfl ?_
  refine GK.sipush (i := 200) 200 C (by decide +kernel) (by decide) ?_
  refine GK.newI (N := 200) C (by decide +kernel) (by decide) rfl (by decide +kernel) (by decide +kernel) (by decide) (by decide) (by decide) (by decide) (by decide) ?_
  refine GK.putC (i := 57) (j := 25) (fs' := [.int 0, .int 0, .int 0, .int 0, .int 0, .long 0, .int 0, .int 0, .int 0, .ref 137, .ref 138, .ref 139, .ref 140, .ref 141, .ref 142, .ref 143, .ref 144, .ref 145, .ref 146, .ref 147, .ref 148, .ref 149, .ref 150, .ref 151, .int 0, .ref 152, .null, .int 0, .null, .null, .null, .null]) C hin (by decide +kernel) (by decide) rfl rfl (by decide) rfl rfl rfl rfl rfl ?_
  refine GK.aload (k := 0) C (by decide +kernel) rfl ?_
  refine GK.sipush (i := 2000) 2000 C (by decide +kernel) (by decide) ?_
  refine GK.newJ (N := 2000) C (by decide +kernel) (by decide) rfl (by decide +kernel) (by decide +kernel) (by decide) (by decide) (by decide) (by decide) (by decide) ?_
  refine GK.putC (i := 60) (j := 26) (fs' := [.int 0, .int 0, .int 0, .int 0, .int 0, .long 0, .int 0, .int 0, .int 0, .ref 137, .ref 138, .ref 139, .ref 140, .ref 141, .ref 142, .ref 143, .ref 144, .ref 145, .ref 146, .ref 147, .ref 148, .ref 149, .ref 150, .ref 151, .int 0, .ref 152, .ref 153, .int 0, .null, .null, .null, .null]) C hin (by decide +kernel) (by decide) rfl rfl (by decide) rfl rfl rfl rfl rfl ?_
  refine GK.aload (k := 0) C (by decide +kernel) rfl ?_
  refine GK.bipush (i := 8) 8 C (by decide +kernel) (by decide) ?_
  refine GK.newI (N := 8) C (by decide +kernel) (by decide) rfl (by decide +kernel) (by decide +kernel) (by decide) (by decide) (by decide) (by decide) (by decide) ?_
  refine GK.putC (i := 63) (j := 28) (fs' := [.int 0, .int 0, .int 0, .int 0, .int 0, .long 0, .int 0, .int 0, .int 0, .ref 137, .ref 138, .ref 139, .ref 140, .ref 141, .ref 142, .ref 143, .ref 144, .ref 145, .ref 146, .ref 147, .ref 148, .ref 149, .ref 150, .ref 151, .int 0, .ref 152, .ref 153, .int 0, .ref 154, .null, .null, .null]) C hin (by decide +kernel) (by decide) rfl rfl (by decide) rfl rfl rfl rfl rfl ?_
  refine GK.aload (k := 0) C (by decide +kernel) rfl ?_
  refine GK.bipush (i := 8) 8 C (by decide +kernel) (by decide) ?_
  refine GK.newI (N := 8) C (by decide +kernel) (by decide) rfl (by decide +kernel) (by decide +kernel) (by decide) (by decide) (by decide) (by decide) (by decide) ?_
  refine GK.putC (i := 66) (j := 29) (fs' := [.int 0, .int 0, .int 0, .int 0, .int 0, .long 0, .int 0, .int 0, .int 0, .ref 137, .ref 138, .ref 139, .ref 140, .ref 141, .ref 142, .ref 143, .ref 144, .ref 145, .ref 146, .ref 147, .ref 148, .ref 149, .ref 150, .ref 151, .int 0, .ref 152, .ref 153, .int 0, .ref 154, .ref 155, .null, .null]) C hin (by decide +kernel) (by decide) rfl rfl (by decide) rfl rfl rfl rfl rfl ?_
  refine GK.aload (k := 0) C (by decide +kernel) rfl ?_
  refine GK.bipush (i := 8) 8 C (by decide +kernel) (by decide) ?_
  refine GK.newJ (N := 8) C (by decide +kernel) (by decide) rfl (by decide +kernel) (by decide +kernel) (by decide) (by decide) (by decide) (by decide) (by decide) ?_
  refine GK.putC (i := 69) (j := 30) (fs' := [.int 0, .int 0, .int 0, .int 0, .int 0, .long 0, .int 0, .int 0, .int 0, .ref 137, .ref 138, .ref 139, .ref 140, .ref 141, .ref 142, .ref 143, .ref 144, .ref 145, .ref 146, .ref 147, .ref 148, .ref 149, .ref 150, .ref 151, .int 0, .ref 152, .ref 153, .int 0, .ref 154, .ref 155, .ref 156, .null]) C hin (by decide +kernel) (by decide) rfl rfl (by decide) rfl rfl rfl rfl rfl ?_
  refine GK.aload (k := 0) C (by decide +kernel) rfl ?_
  refine GK.bipush (i := 8) 8 C (by decide +kernel) (by decide) ?_
  refine GK.newZ (N := 8) C (by decide +kernel) (by decide) rfl (by decide +kernel) (by decide +kernel) (by decide) (by decide) (by decide) (by decide) (by decide) ?_
  refine GK.putC (i := 72) (j := 31) (fs' := [.int 0, .int 0, .int 0, .int 0, .int 0, .long 0, .int 0, .int 0, .int 0, .ref 137, .ref 138, .ref 139, .ref 140, .ref 141, .ref 142, .ref 143, .ref 144, .ref 145, .ref 146, .ref 147, .ref 148, .ref 149, .ref 150, .ref 151, .int 0, .ref 152, .ref 153, .int 0, .ref 154, .ref 155, .ref 156, .ref 157]) C hin (by decide +kernel) (by decide) rfl rfl (by decide) rfl rfl rfl rfl rfl ?_
  have ee : ([.int 0, .int 0, .int 0, .int 0, .int 0, .long 0, .int 0, .int 0, .int 0, .ref 137, .ref 138, .ref 139, .ref 140, .ref 141, .ref 142, .ref 143, .ref 144, .ref 145, .ref 146, .ref 147, .ref 148, .ref 149, .ref 150, .ref 151, .int 0, .ref 152, .ref 153, .int 0, .ref 154, .ref 155, .ref 156, .ref 157] : List Value) = fls 7 136 (gI0 136) (gJ0 136) := by decide +kernel
  rw [ee]
  subst hE
  refine GK.congr (E' := En_r b cy (I2m I) (J2m J)) (fun q hq => ?_) ?_
  · rw [En_re hq]
    by_cases h1 : q < 136
    · rw [Cn_lo h1]
      unfold En I2m J2m
      rw [if_pos h1, if_pos h1]
    · by_cases h2 : q = 136
      · subst h2
        rw [Cn_at, ← gF_obj (k := 7) (by decide +kernel) (by decide)]
        rfl
      · rw [Cn_hi (by omega)]
        show en b cy q (gI0 q) (gJ0 q) = en b cy q (I2m I q) (J2m J q)
        unfold I2m J2m
        rw [if_neg h1, if_neg h1]
  refine GK.aload (k := 0) C (by decide +kernel) rfl ?_
  refine GK.bipush (i := 100) 100 C (by decide +kernel) (by decide) ?_
  refine GK.bipush (i := 10) 10 C (by decide +kernel) (by decide) ?_
  refine GK.iconst (i := 2) 2 C (by decide +kernel) (by decide) ?_
  refine GK.iconst (i := 3) 3 C (by decide +kernel) (by decide) ?_
  refine GK.callVr (N := mX7_begin) (i := 75) (nA := 4) (o := 136) (rest := []) C (sm_begin_r (d := 6) (l := 100) (w := 10) (e := 2) (g := 3) (by decide) (by decide)) (by decide +kernel) (by decide +kernel) (by decide +kernel) (by decide +kernel) rfl rfl (by decide) rfl ⟨by decide, by decide⟩ ⟨by decide, by decide⟩ (by omega) (fun v _ _ h => h.1) ?_
  intro v I' J' h
  exact GK.ret C (by decide +kernel) rfl ⟨I', J', v, h, fun q hq => En_re hq⟩
