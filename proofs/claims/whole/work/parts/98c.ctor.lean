/-! the constructors -/
theorem w_ac0 : Cond.arrayClass .int ∈ wAll := by decide +kernel
theorem w_ac1 : Cond.arrayClass .long ∈ wAll := by decide +kernel
theorem w_ac2 : Cond.arrayClass .boolean ∈ wAll := by decide +kernel
section G3
variable {p : Program} {l : Launch} {e : Env} {R : Room} {s : State} {m : MethodId} {args : Array Value} {below : List Frame} {meth : Method} {c : Code} {cells slots : Nat} {Q : State → Prop}
variable {D : va_G} {cy : Nat → ClassId} {b bs L : Nat} {xs : Nat → Int32} {M : MD} {pc n : Nat} {ls : List (Option Value)} {st : List Value} {E E' F : Nat → va_E} {o k : Nat} {fs : List Value}
theorem GK.weak (hE : ∀ q, q < n → ∀ H : Heap, va_at D vwCl (b + q, E q) H → va_at D vwCl (b + q, E' q) H) (kk : GK p l e R s m args below meth c cells slots Q D b bs M.2.2.2.1 pc ls st n E') : GK p l e R s m args below meth c cells slots Q D b bs M.2.2.2.1 pc ls st n E := by
  intro H locs arr hG hl
  refine kk H locs arr ⟨fun i q hq => ?_, hG.2⟩ hl
  have hk : i < n := by have := (List.getElem?_eq_some_iff.mp hq).1; rw [wl_len] at this; exact this
  rw [wl_get hk] at hq
  cases hq
  exact hE i hk H (hG.1 i _ (wl_get hk))
theorem GK.newI {v : Int32} {N : Nat} (C : Cx l p s m args meth c D cy b bs L xs M) (hd : decode M.2.2.1 pc = .ok (.newarray .int, 2)) (ho : o < n) (hF : F n = gF b cy n) (hk : kd n = 8) (hln : ln n = N) (hn : ¬ v < 0) (hN : v.toNatClampNeg = N) (hby : N ≤ 60000) (hc : cells + 1 ≤ R.cells) (hs : slots + N ≤ R.slots)
    (kk : GK p l e R s m args below meth c (cells + 1) (slots + N) Q D b bs M.2.2.2.1 (pc + 2) ls (.ref n :: st) (n + 1) (Cn b F E o k fs)) : GK p l e R s m args below meth c cells slots Q D b bs M.2.2.2.1 pc ls (.int v :: st) n (Cn b F E o k fs) :=
  GK.newa (ty := .int) (t := 0) (a0 := (N, .inl (fun _ => 0))) C hd rfl (Or.inl rfl) rfl (fun cA => by rw [vp_cell_i]; rfl) w_ac0 hn hN hby hc hs (by rw [Cn_hi ho, hF, gF_8 hk, hln]) kk
theorem GK.newJ {v : Int32} {N : Nat} (C : Cx l p s m args meth c D cy b bs L xs M) (hd : decode M.2.2.1 pc = .ok (.newarray .long, 2)) (ho : o < n) (hF : F n = gF b cy n) (hk : kd n = 9) (hln : ln n = N) (hn : ¬ v < 0) (hN : v.toNatClampNeg = N) (hby : N ≤ 60000) (hc : cells + 1 ≤ R.cells) (hs : slots + N ≤ R.slots)
    (kk : GK p l e R s m args below meth c (cells + 1) (slots + N) Q D b bs M.2.2.2.1 (pc + 2) ls (.ref n :: st) (n + 1) (Cn b F E o k fs)) : GK p l e R s m args below meth c cells slots Q D b bs M.2.2.2.1 pc ls (.int v :: st) n (Cn b F E o k fs) :=
  GK.newa (ty := .long) (t := 1) (a0 := (N, .inr (.inl (fun _ => 0)))) C hd rfl (Or.inr (Or.inl rfl)) rfl (fun cA => by rw [vp_cell_l]; rfl) w_ac1 hn hN hby hc hs (by rw [Cn_hi ho, hF, gF_9 hk, hln]) kk
theorem GK.newZ {v : Int32} {N : Nat} (C : Cx l p s m args meth c D cy b bs L xs M) (hd : decode M.2.2.1 pc = .ok (.newarray .boolean, 2)) (ho : o < n) (hF : F n = gF b cy n) (hk : kd n = 10) (hln : ln n = N) (hn : ¬ v < 0) (hN : v.toNatClampNeg = N) (hby : N ≤ 60000) (hc : cells + 1 ≤ R.cells) (hs : slots + N ≤ R.slots)
    (kk : GK p l e R s m args below meth c (cells + 1) (slots + N) Q D b bs M.2.2.2.1 (pc + 2) ls (.ref n :: st) (n + 1) (Cn b F E o k fs)) : GK p l e R s m args below meth c cells slots Q D b bs M.2.2.2.1 pc ls (.int v :: st) n (Cn b F E o k fs) :=
  GK.newa (ty := .boolean) (t := 2) (a0 := (N, .inl (fun _ => 0))) C hd rfl (Or.inr (Or.inr rfl)) rfl (fun cA => by rw [vp_cell_i]; rfl) w_ac2 hn hN hby hc hs (by rw [Cn_hi ho, hF, gF_10 hk, hln]) kk
theorem GK.putC {i j : Nat} {v w0 : Value} {fs' : List Value} (C : Cx l p s m args meth c D cy b bs L xs M) (hin2 : meth.name = "<init>") (hd : decode M.2.2.1 pc = .ok (.putfield i, 3)) (hL : (M.1, i, k, j) ∈ lfA) (hf : (cT k j).2.2.2 = true) (hM : (cT k j).1 = cC M.1) (ho : o < n) (h0 : fs[j]? = some w0) (hfs : fs.set j v = fs') (hnr : narrow (cTy k j) (tr b bs v) = tr b bs v) (hfit : fits (cTy k j) (tr b bs v) = true) (hv : notRA v = true)
    (kk : GK p l e R s m args below meth c cells slots Q D b bs M.2.2.2.1 (pc + 3) ls st n (Cn b F E o k fs')) : GK p l e R s m args below meth c cells slots Q D b bs M.2.2.2.1 pc ls (v :: .ref o :: st) n (Cn b F E o k fs) := by
  subst hfs
  exact GK.putF C hin2 hd hL hf hM ho Cn_at (List.getElem?_eq_some_iff.mp h0).1 hnr hfit hv (GK.congr (fun q _ => Cn_up q) kk)
theorem Cn_back {o2 k2 : Nat} (ho : o < o2) (hF : ∀ q, o2 ≤ q → F q = gF b cy q) (hk : kd o2 = k2) (hk8 : k2 < 8) (q : Nat) : Cn b (gF b cy) (Cn b F E o k fs) o2 k2 (fls k2 o2 (gI0 o2) (gJ0 o2)) q = Cn b F E o k fs q := by
  by_cases h1 : q < o2
  · rw [Cn_lo h1]
  · by_cases h2 : q = o2
    · subst h2
      rw [Cn_at, Cn_hi ho, hF q (Nat.le_refl _), gF_obj hk hk8]
    · rw [Cn_hi (by omega), Cn_hi (show o < q by omega), hF q (by omega)]
end G3

theorem kd_34 : ∀ q, q < 12 → 5 ≤ q → q ≠ 8 → kd q = 8 ∧ ln q = 8 := by decide +kernel
set_option maxHeartbeats 4000000 in
set_option maxRecDepth 100000 in
theorem ct_office {l : Launch} {D : va_G} {cy : Nat → ClassId} {b : Nat} {E : Nat → va_E} (htr : l.stackTraces = false)  : Mg l D cy b 6 mX2_init 9 57 [.ref 2] (2 + 1) (Cn b (gF b cy) E 2 2 (blk 2)) (2 + 10) (fun E' => E' = Cn b (gF b cy) E 2 2 (fls 2 2 (gI0 2) (gJ0 2))) := by
  refine Mg.of (by decide +kernel) (Nat.le_of_ble_eq_true rfl) rfl htr ?_
  intro p e s m args below meth c C hin hAO hAA hz
  refine GK.aload (k := 0) C (by decide +kernel) rfl ?_
  refine GK.obj (i := 3) C (by decide +kernel) (by decide +kernel) (by decide) (by decide) ?_
  refine GK.aload (k := 0) C (by decide +kernel) rfl ?_
  refine GK.iconst (i := 3) 3 C (by decide +kernel) (by decide) ?_
  refine GK.newI (N := 3) C (by decide +kernel) (by decide) rfl (by decide +kernel) (by decide +kernel) (by decide) (by decide) (by decide) (by decide) (by decide) ?_
  refine GK.putC (i := 9) (j := 0) (fs' := [.ref 3, .null, .null, .int 0, .int 0, .int 0, .int 0]) C hin (by decide +kernel) (by decide) rfl rfl (by decide) rfl rfl rfl rfl rfl ?_
  refine GK.aload (k := 0) C (by decide +kernel) rfl ?_
  refine GK.iconst (i := 3) 3 C (by decide +kernel) (by decide) ?_
  refine GK.bipush (i := 8) 8 C (by decide +kernel) (by decide) ?_
  refine GK.mna (i := 15) (N := 3) (K := 8) C hAA (by decide +kernel) (by decide +kernel) w_ac0 (by decide) (by decide) (by decide) (by decide) (by decide) (by decide) (by decide) (by decide) (by rw [Cn_hi (by decide), gF_12 (by decide +kernel)]; rfl) (fun j hj => by rw [Cn_hi (by omega), gF_8 (kd_34 _ (by omega) (by omega) (by omega)).1, (kd_34 _ (by omega) (by omega) (by omega)).2]) ?_
  refine GK.putC (i := 17) (j := 1) (fs' := [.ref 3, .ref 4, .null, .int 0, .int 0, .int 0, .int 0]) C hin (by decide +kernel) (by decide) rfl rfl (by decide) rfl rfl rfl rfl rfl ?_
  refine GK.aload (k := 0) C (by decide +kernel) rfl ?_
  refine GK.iconst (i := 3) 3 C (by decide +kernel) (by decide) ?_
  refine GK.bipush (i := 8) 8 C (by decide +kernel) (by decide) ?_
  refine GK.mna (i := 15) (N := 3) (K := 8) C hAA (by decide +kernel) (by decide +kernel) w_ac0 (by decide) (by decide) (by decide) (by decide) (by decide) (by decide) (by decide) (by decide) (by rw [Cn_hi (by decide), gF_12 (by decide +kernel)]; rfl) (fun j hj => by rw [Cn_hi (by omega), gF_8 (kd_34 _ (by omega) (by omega) (by omega)).1, (kd_34 _ (by omega) (by omega) (by omega)).2]) ?_
  refine GK.putC (i := 20) (j := 2) (fs' := [.ref 3, .ref 4, .ref 8, .int 0, .int 0, .int 0, .int 0]) C hin (by decide +kernel) (by decide) rfl rfl (by decide) rfl rfl rfl rfl rfl ?_
  have ee : ([.ref 3, .ref 4, .ref 8, .int 0, .int 0, .int 0, .int 0] : List Value) = fls 2 2 (gI0 2) (gJ0 2) := by decide +kernel
  exact GK.ret C (by decide +kernel) rfl (by rw [ee])
set_option maxHeartbeats 4000000 in
set_option maxRecDepth 100000 in
theorem ct_pool {l : Launch} {D : va_G} {cy : Nat → ClassId} {b : Nat} {E : Nat → va_E} (htr : l.stackTraces = false)  : Mg l D cy b 6 mX3_init 1 1200 [.ref 12] (12 + 1) (Cn b (gF b cy) E 12 3 (blk 3)) (12 + 2) (fun E' => E' = Cn b (gF b cy) E 12 3 (fls 3 12 (gI0 12) (gJ0 12))) := by
  refine Mg.of (by decide +kernel) (Nat.le_of_ble_eq_true rfl) rfl htr ?_
  intro p e s m args below meth c C hin hAO hAA hz
  refine GK.aload (k := 0) C (by decide +kernel) rfl ?_
  refine GK.obj (i := 3) C (by decide +kernel) (by decide +kernel) (by decide) (by decide) ?_
  refine GK.aload (k := 0) C (by decide +kernel) rfl ?_
  refine GK.sipush (i := 1200) 1200 C (by decide +kernel) (by decide) ?_
  refine GK.newI (N := 1200) C (by decide +kernel) (by decide) rfl (by decide +kernel) (by decide +kernel) (by decide) (by decide) (by decide) (by decide) (by decide) ?_
  refine GK.putC (i := 11) (j := 0) (fs' := [.ref 13, .int 0, .int 0]) C hin (by decide +kernel) (by decide) rfl rfl (by decide) rfl rfl rfl rfl rfl ?_
  have ee : ([.ref 13, .int 0, .int 0] : List Value) = fls 3 12 (gI0 12) (gJ0 12) := by decide +kernel
  exact GK.ret C (by decide +kernel) rfl (by rw [ee])
set_option maxHeartbeats 4000000 in
set_option maxRecDepth 100000 in
theorem ct_sharing {l : Launch} {D : va_G} {cy : Nat → ClassId} {b : Nat} {E : Nat → va_E} (htr : l.stackTraces = false)  : Mg l D cy b 6 mX4_init 4 32 [.ref 14] (14 + 1) (Cn b (gF b cy) E 14 4 (blk 4)) (14 + 5) (fun E' => E' = Cn b (gF b cy) E 14 4 (fls 4 14 (gI0 14) (gJ0 14))) := by
  refine Mg.of (by decide +kernel) (Nat.le_of_ble_eq_true rfl) rfl htr ?_
  intro p e s m args below meth c C hin hAO hAA hz
  refine GK.aload (k := 0) C (by decide +kernel) rfl ?_
  refine GK.obj (i := 3) C (by decide +kernel) (by decide +kernel) (by decide) (by decide) ?_
  refine GK.aload (k := 0) C (by decide +kernel) rfl ?_
  refine GK.bipush (i := 8) 8 C (by decide +kernel) (by decide) ?_
  refine GK.newI (N := 8) C (by decide +kernel) (by decide) rfl (by decide +kernel) (by decide +kernel) (by decide) (by decide) (by decide) (by decide) (by decide) ?_
  refine GK.putC (i := 9) (j := 0) (fs' := [.ref 15, .null, .null, .null, .int 0]) C hin (by decide +kernel) (by decide) rfl rfl (by decide) rfl rfl rfl rfl rfl ?_
  refine GK.aload (k := 0) C (by decide +kernel) rfl ?_
  refine GK.bipush (i := 8) 8 C (by decide +kernel) (by decide) ?_
  refine GK.newI (N := 8) C (by decide +kernel) (by decide) rfl (by decide +kernel) (by decide +kernel) (by decide) (by decide) (by decide) (by decide) (by decide) ?_
  refine GK.putC (i := 15) (j := 1) (fs' := [.ref 15, .ref 16, .null, .null, .int 0]) C hin (by decide +kernel) (by decide) rfl rfl (by decide) rfl rfl rfl rfl rfl ?_
  refine GK.aload (k := 0) C (by decide +kernel) rfl ?_
  refine GK.bipush (i := 8) 8 C (by decide +kernel) (by decide) ?_
  refine GK.newI (N := 8) C (by decide +kernel) (by decide) rfl (by decide +kernel) (by decide +kernel) (by decide) (by decide) (by decide) (by decide) (by decide) ?_
  refine GK.putC (i := 18) (j := 2) (fs' := [.ref 15, .ref 16, .ref 17, .null, .int 0]) C hin (by decide +kernel) (by decide) rfl rfl (by decide) rfl rfl rfl rfl rfl ?_
  refine GK.aload (k := 0) C (by decide +kernel) rfl ?_
  refine GK.bipush (i := 8) 8 C (by decide +kernel) (by decide) ?_
  refine GK.newJ (N := 8) C (by decide +kernel) (by decide) rfl (by decide +kernel) (by decide +kernel) (by decide) (by decide) (by decide) (by decide) (by decide) ?_
  refine GK.putC (i := 21) (j := 3) (fs' := [.ref 15, .ref 16, .ref 17, .ref 18, .int 0]) C hin (by decide +kernel) (by decide) rfl rfl (by decide) rfl rfl rfl rfl rfl ?_
  have ee : ([.ref 15, .ref 16, .ref 17, .ref 18, .int 0] : List Value) = fls 4 14 (gI0 14) (gJ0 14) := by decide +kernel
  exact GK.ret C (by decide +kernel) rfl (by rw [ee])
set_option maxHeartbeats 4000000 in
set_option maxRecDepth 100000 in
theorem ct_adm {l : Launch} {D : va_G} {cy : Nat → ClassId} {b : Nat} {E : Nat → va_E} (htr : l.stackTraces = false)  : Mg l D cy b 6 mX0_init 2 1024 [.ref 19] (19 + 1) (Cn b (gF b cy) E 19 0 (blk 0)) (19 + 3) (fun E' => E' = Cn b (gF b cy) E 19 0 (fls 0 19 (gI0 19) (gJ0 19))) := by
  refine Mg.of (by decide +kernel) (Nat.le_of_ble_eq_true rfl) rfl htr ?_
  intro p e s m args below meth c C hin hAO hAA hz
  refine GK.aload (k := 0) C (by decide +kernel) rfl ?_
  refine GK.obj (i := 1) C (by decide +kernel) (by decide +kernel) (by decide) (by decide) ?_
  refine GK.aload (k := 0) C (by decide +kernel) rfl ?_
  refine GK.sipush (i := 512) 512 C (by decide +kernel) (by decide) ?_
  refine GK.newJ (N := 512) C (by decide +kernel) (by decide) rfl (by decide +kernel) (by decide +kernel) (by decide) (by decide) (by decide) (by decide) (by decide) ?_
  refine GK.putC (i := 9) (j := 0) (fs' := [.ref 20, .null, .int 0, .int 0, .int 0]) C hin (by decide +kernel) (by decide) rfl rfl (by decide) rfl rfl rfl rfl rfl ?_
  refine GK.aload (k := 0) C (by decide +kernel) rfl ?_
  refine GK.sipush (i := 512) 512 C (by decide +kernel) (by decide) ?_
  refine GK.newI (N := 512) C (by decide +kernel) (by decide) rfl (by decide +kernel) (by decide +kernel) (by decide) (by decide) (by decide) (by decide) (by decide) ?_
  refine GK.putC (i := 13) (j := 1) (fs' := [.ref 20, .ref 21, .int 0, .int 0, .int 0]) C hin (by decide +kernel) (by decide) rfl rfl (by decide) rfl rfl rfl rfl rfl ?_
  have ee : ([.ref 20, .ref 21, .int 0, .int 0, .int 0] : List Value) = fls 0 19 (gI0 19) (gJ0 19) := by decide +kernel
  exact GK.ret C (by decide +kernel) rfl (by rw [ee])
set_option maxHeartbeats 4000000 in
set_option maxRecDepth 100000 in
theorem ct_way {l : Launch} {D : va_G} {cy : Nat → ClassId} {b : Nat} {E : Nat → va_E} (htr : l.stackTraces = false) {o : Nat} {x : Int32} (hk : kd o = 5) (hx : nI ((o - 24) / 14) = x) (h1 : kd (o + 1) = 8 ∧ ln (o + 1) = 50) (h2 : kd (o + 2) = 8 ∧ ln (o + 2) = 50) (h3 : kd (o + 3) = 8 ∧ ln (o + 3) = 50) (h4 : kd (o + 4) = 8 ∧ ln (o + 4) = 50) : Mg l D cy b 5 mX5_init 4 200 [.ref o, .int x] (o + 1) (Cn b (gF b cy) E o 5 (blk 5)) (o + 5) (fun E' => E' = Cn b (gF b cy) E o 5 (fls 5 o (gI0 o) (gJ0 o))) := by
  refine Mg.of (by decide +kernel) (Nat.le_of_ble_eq_true rfl) rfl htr ?_
  intro p e s m args below meth c C hin hAO hAA hz
  refine GK.aload (k := 0) C (by decide +kernel) rfl ?_
  refine GK.obj (i := 1) C (by decide +kernel) (by decide +kernel) (by decide) (by decide) ?_
  refine GK.aload (k := 0) C (by decide +kernel) rfl ?_
  refine GK.bipush (i := 50) 50 C (by decide +kernel) (by decide) ?_
  refine GK.newI (N := 50) C (by decide +kernel) (by omega) rfl h1.1 h1.2 (by decide) (by decide) (by decide) (by decide) (by decide) ?_
  refine GK.putC (i := 9) (j := 1) (fs' := [.int 0, .ref (o + 1), .null, .null, .null, .int 0, .int 0, .int 0]) C hin (by decide +kernel) (by decide) rfl rfl (by omega) rfl rfl rfl rfl rfl ?_
  refine GK.aload (k := 0) C (by decide +kernel) rfl ?_
  refine GK.bipush (i := 50) 50 C (by decide +kernel) (by decide) ?_
  refine GK.newI (N := 50) C (by decide +kernel) (by omega) rfl h2.1 h2.2 (by decide) (by decide) (by decide) (by decide) (by decide) ?_
  refine GK.putC (i := 13) (j := 2) (fs' := [.int 0, .ref (o + 1), .ref (o + 2), .null, .null, .int 0, .int 0, .int 0]) C hin (by decide +kernel) (by decide) rfl rfl (by omega) rfl rfl rfl rfl rfl ?_
  refine GK.aload (k := 0) C (by decide +kernel) rfl ?_
  refine GK.bipush (i := 50) 50 C (by decide +kernel) (by decide) ?_
  refine GK.newI (N := 50) C (by decide +kernel) (by omega) rfl h3.1 h3.2 (by decide) (by decide) (by decide) (by decide) (by decide) ?_
  refine GK.putC (i := 16) (j := 3) (fs' := [.int 0, .ref (o + 1), .ref (o + 2), .ref (o + 3), .null, .int 0, .int 0, .int 0]) C hin (by decide +kernel) (by decide) rfl rfl (by omega) rfl rfl rfl rfl rfl ?_
  refine GK.aload (k := 0) C (by decide +kernel) rfl ?_
  refine GK.bipush (i := 50) 50 C (by decide +kernel) (by decide) ?_
  refine GK.newI (N := 50) C (by decide +kernel) (by omega) rfl h4.1 h4.2 (by decide) (by decide) (by decide) (by decide) (by decide) ?_
  refine GK.putC (i := 19) (j := 4) (fs' := [.int 0, .ref (o + 1), .ref (o + 2), .ref (o + 3), .ref (o + 4), .int 0, .int 0, .int 0]) C hin (by decide +kernel) (by decide) rfl rfl (by omega) rfl rfl rfl rfl rfl ?_
  refine GK.aload (k := 0) C (by decide +kernel) rfl ?_
  refine GK.iload (k := 1) C (by decide +kernel) rfl ?_
  refine GK.putC (i := 22) (j := 0) (fs' := [.int x, .ref (o + 1), .ref (o + 2), .ref (o + 3), .ref (o + 4), .int 0, .int 0, .int 0]) C hin (by decide +kernel) (by decide) rfl rfl (by omega) rfl rfl rfl rfl rfl ?_
  have ee : ([.int x, .ref (o + 1), .ref (o + 2), .ref (o + 3), .ref (o + 4), .int 0, .int 0, .int 0] : List Value) = fls 5 o (gI0 o) (gJ0 o) := by simp [fls, gI0, hk, hx]
  exact GK.ret C (by decide +kernel) rfl (by rw [ee])
def okg (o : Nat) : Prop := kd o = 1 ∧ (kd (o + 1) = 8 ∧ ln (o + 1) = 3) ∧ (kd (o + 2) = 8 ∧ ln (o + 2) = 3) ∧ (kd (o + 3) = 8 ∧ ln (o + 3) = 3) ∧ kd (o + 4) = 5 ∧ (kd (o + 5) = 8 ∧ ln (o + 5) = 50) ∧ (kd (o + 6) = 8 ∧ ln (o + 6) = 50) ∧ (kd (o + 7) = 8 ∧ ln (o + 7) = 50) ∧ (kd (o + 8) = 8 ∧ ln (o + 8) = 50) ∧ kd (o + 9) = 5 ∧ (kd (o + 10) = 8 ∧ ln (o + 10) = 50) ∧ (kd (o + 11) = 8 ∧ ln (o + 11) = 50) ∧ (kd (o + 12) = 8 ∧ ln (o + 12) = 50) ∧ (kd (o + 13) = 8 ∧ ln (o + 13) = 50)
theorem okg_all : ∀ g, g < 8 → okg (24 + 14 * g) := by
  unfold okg
  decide +kernel
set_option maxHeartbeats 4000000 in
set_option maxRecDepth 100000 in
theorem ct_gate {l : Launch} {D : va_G} {cy : Nat → ClassId} {b : Nat} {E : Nat → va_E} (htr : l.stackTraces = false) {o : Nat} {x : Int32} (ho : okg o) (hx : nI ((o + 4 - 24) / 14) = x) (hx2 : nI ((o + 9 - 24) / 14) = x) : Mg l D cy b 6 mX1_init 13 425 [.ref o, .int x] (o + 1) (Cn b (gF b cy) E o 1 (blk 1)) (o + 14) (fun E' => E' = Cn b (gF b cy) E o 1 (fls 1 o (gI0 o) (gJ0 o))) := by
  refine Mg.of (by decide +kernel) (Nat.le_of_ble_eq_true rfl) rfl htr ?_
  intro p e s m args below meth c C hin hAO hAA hz
  obtain ⟨hk, h1, h2, h3, k4, h5, h6, h7, h8, k9, h10, h11, h12, h13⟩ := ho
  refine GK.aload (k := 0) C (by decide +kernel) rfl ?_
  refine GK.obj (i := 3) C (by decide +kernel) (by decide +kernel) (by decide) (by decide) ?_
  refine GK.aload (k := 0) C (by decide +kernel) rfl ?_
  refine GK.iconst (i := 3) 3 C (by decide +kernel) (by decide) ?_
  refine GK.newI (N := 3) C (by decide +kernel) (by omega) rfl h1.1 h1.2 (by decide) (by decide) (by decide) (by decide) (by decide) ?_
  refine GK.putC (i := 9) (j := 2) (fs' := [.null, .null, .ref (o + 1), .null, .null, .int 0, .long 0, .int 0, .int 0]) C hin (by decide +kernel) (by decide) rfl rfl (by omega) rfl rfl rfl rfl rfl ?_
  refine GK.aload (k := 0) C (by decide +kernel) rfl ?_
  refine GK.iconst (i := 3) 3 C (by decide +kernel) (by decide) ?_
  refine GK.newI (N := 3) C (by decide +kernel) (by omega) rfl h2.1 h2.2 (by decide) (by decide) (by decide) (by decide) (by decide) ?_
  refine GK.putC (i := 15) (j := 3) (fs' := [.null, .null, .ref (o + 1), .ref (o + 2), .null, .int 0, .long 0, .int 0, .int 0]) C hin (by decide +kernel) (by decide) rfl rfl (by omega) rfl rfl rfl rfl rfl ?_
  refine GK.aload (k := 0) C (by decide +kernel) rfl ?_
  refine GK.iconst (i := 3) 3 C (by decide +kernel) (by decide) ?_
  refine GK.newI (N := 3) C (by decide +kernel) (by omega) rfl h3.1 h3.2 (by decide) (by decide) (by decide) (by decide) (by decide) ?_
  refine GK.putC (i := 18) (j := 4) (fs' := [.null, .null, .ref (o + 1), .ref (o + 2), .ref (o + 3), .int 0, .long 0, .int 0, .int 0]) C hin (by decide +kernel) (by decide) rfl rfl (by omega) rfl rfl rfl rfl rfl ?_
  refine GK.aload (k := 0) C (by decide +kernel) rfl ?_
  refine GK.congr (E' := Cn b (gF b cy) (Cn b (gF b cy) E o 1 [.null, .null, .ref (o + 1), .ref (o + 2), .ref (o + 3), .int 0, .long 0, .int 0, .int 0]) (o + 4) 5 (blk 5)) (fun q hq => (Cn_lo hq).symm) ?_
  refine GK.new (i := 21) 5 C (by decide +kernel) (by decide) (by decide +kernel) (by decide +kernel) (by decide +kernel) (by decide) (by decide) Cn_at ?_
  refine GK.dup C (by decide +kernel) ?_
  refine GK.iload (k := 1) C (by decide +kernel) rfl ?_
  refine GK.callI (i := 23) (nA := 1) C hAO hAA (ct_way (o := o + 4) (x := x) htr k4 hx h5 h6 h7 h8) (by decide +kernel) (by decide +kernel) (Or.inl (by decide +kernel)) (by decide +kernel) rfl rfl rfl rfl (by first | decide | exact Nat.le_of_ble_eq_true rfl) rfl ⟨by decide, by decide⟩ ⟨by decide, by decide⟩ ?_
  intro E' hE'
  subst hE'
  refine GK.congr (E' := Cn b (gF b cy) E o 1 [.null, .null, .ref (o + 1), .ref (o + 2), .ref (o + 3), .int 0, .long 0, .int 0, .int 0]) (fun q _ => Cn_back (by omega) (fun _ _ => rfl) k4 (by decide) q) ?_
  refine GK.putC (i := 26) (j := 0) (fs' := [.ref (o + 4), .null, .ref (o + 1), .ref (o + 2), .ref (o + 3), .int 0, .long 0, .int 0, .int 0]) C hin (by decide +kernel) (by decide) rfl rfl (by omega) rfl rfl rfl rfl rfl ?_
  refine GK.aload (k := 0) C (by decide +kernel) rfl ?_
  refine GK.congr (E' := Cn b (gF b cy) (Cn b (gF b cy) E o 1 [.ref (o + 4), .null, .ref (o + 1), .ref (o + 2), .ref (o + 3), .int 0, .long 0, .int 0, .int 0]) (o + 9) 5 (blk 5)) (fun q hq => (Cn_lo hq).symm) ?_
  refine GK.new (i := 21) 5 C (by decide +kernel) (by decide) (by decide +kernel) (by decide +kernel) (by decide +kernel) (by decide) (by decide) Cn_at ?_
  refine GK.dup C (by decide +kernel) ?_
  refine GK.iload (k := 1) C (by decide +kernel) rfl ?_
  refine GK.callI (i := 23) (nA := 1) C hAO hAA (ct_way (o := o + 9) (x := x) htr k9 hx2 h10 h11 h12 h13) (by decide +kernel) (by decide +kernel) (Or.inl (by decide +kernel)) (by decide +kernel) rfl rfl rfl rfl (by first | decide | exact Nat.le_of_ble_eq_true rfl) rfl ⟨by decide, by decide⟩ ⟨by decide, by decide⟩ ?_
  intro E' hE'
  subst hE'
  refine GK.congr (E' := Cn b (gF b cy) E o 1 [.ref (o + 4), .null, .ref (o + 1), .ref (o + 2), .ref (o + 3), .int 0, .long 0, .int 0, .int 0]) (fun q _ => Cn_back (by omega) (fun _ _ => rfl) k9 (by decide) q) ?_
  refine GK.putC (i := 30) (j := 1) (fs' := [.ref (o + 4), .ref (o + 9), .ref (o + 1), .ref (o + 2), .ref (o + 3), .int 0, .long 0, .int 0, .int 0]) C hin (by decide +kernel) (by decide) rfl rfl (by omega) rfl rfl rfl rfl rfl ?_
  have ee : ([.ref (o + 4), .ref (o + 9), .ref (o + 1), .ref (o + 2), .ref (o + 3), .int 0, .long 0, .int 0, .int 0] : List Value) = fls 1 o (gI0 o) (gJ0 o) := by simp [fls, gI0, gJ0, hk]
  exact GK.ret C (by decide +kernel) rfl (by rw [ee])
