/-! the cases of the law -/
section LC
variable {L m z i : Nat} {xs : Nat → Int32} {Φ : Out → T2 → T3 → Nat → Prop} {I : T2} {J : T3}
abbrev lsL (i : Nat) : List (Option Value) := [some (.retAddr 0), some (.ref 0), some (.ref 136), some (.ref 158), some (.int (nI i)), none, none, none]
def LK (L : Nat) (xs : Nat → Int32) (Φ : Out → T2 → T3 → Nat → Prop) (m z i : Nat) : Prop := ∀ (I' : T2) (J' : T3), Rel (m + 1) I' J' I' J' → Ev 8 512 L xs mL_law 1313 (lsL i) [] I' J' (z + 1) Φ
theorem gd {i L k : Nat} {c : Int32} (hc : c = nI k) (h : i + k < L) (hL : L ≤ 2560) : vp_in (nI i + c) L := by
  rw [hc, nI_add]
  exact vp_in_nI h (by omega)
set_option maxHeartbeats 1000000 in
theorem lc_setup (K : LK L xs Φ m z i) (h : Rel m I J I J) (hm : m < 512) (hi : i + 4 < L) (hL : L ≤ 2560) (hz : z + 1 ≤ 512) : Ev 8 512 L xs mL_law 144 (lsL i) [] I J z Φ := by
  refine BL_law_144 (gd (k := 1) rfl (by omega) hL) (gd (k := 2) rfl (by omega) hL) (gd (k := 3) rfl (by omega) hL) (gd (k := 4) rfl (by omega) hL) ?_
  refine Ev.callSH (M := mL_law) (N := mL_setup) (i := 91) (n := 5) (As := [.ref 0, .int (xs (nI i + 1).toNatClampNeg), .int (xs (nI i + 2).toNatClampNeg), .int (xs (nI i + 3).toNatClampNeg), .int (xs (nI i + 4).toNatClampNeg)]) (rest := []) (hp_setup h hm _ _ _ _) dL_law_169 lhL_setup lsL_setup rfl rfl (by simp only [List.map_cons, List.map_nil, Value.category, List.sum_cons, List.sum_nil]; decide) rfl hz (fun v I1 J1 q => ?_)
  obtain ⟨k, rfl, q⟩ := q
  refine BL_law_172 (gd (k := 1) rfl (by omega) hL) (gd (k := 2) rfl (by omega) hL) (gd (k := 3) rfl (by omega) hL) (gd (k := 4) rfl (by omega) hL) ?_
  refine CL_law_199 q hz (fun w I2 J2 r => ?_)
  obtain ⟨r0, r1, r2, r3⟩ := r
  obtain rfl : w = none := r0
  refine BL_law_202 ?_
  refine CL_law_203 sm_thrown hz (fun v3 I3 J3 q3 => ?_)
  obtain ⟨rfl, rfl, rfl⟩ := q3
  rw [r1]
  refine BL_law_206 ?_
  refine IL_law_208 (fun _ => ?_) (fun z9 => absurd rfl z9)
  refine BL_law_213 ?_
  refine Ev.weak (ls' := lsL i) ⟨Or.inr rfl, Or.inr rfl, Or.inr rfl, Or.inr rfl, Or.inr rfl, Or.inl rfl, Or.inl rfl, Or.inl rfl, trivial⟩ ?_
  exact K _ _ r2
set_option maxHeartbeats 1000000 in
theorem lc_pass (K : LK L xs Φ m z i) (h : Rel m I J I J) (hm : m < 512) (hi : i + 4 < L) (hL : L ≤ 2560) (hz : z + 1 ≤ 512) : Ev 8 512 L xs mL_law 216 (lsL i) [] I J z Φ := by
  refine BL_law_216 (gd (k := 1) rfl (by omega) hL) ?_
  refine Ev.callSH (M := mL_law) (N := mL_pass) (i := 100) (n := 2) (As := [.ref 0, .int (xs (nI i + 1).toNatClampNeg)]) (rest := []) (hp_pass h hm _) dL_law_223 lhL_pass lsL_pass rfl rfl (by simp only [List.map_cons, List.map_nil, Value.category, List.sum_cons, List.sum_nil]; decide) rfl hz (fun v I1 J1 q => ?_)
  obtain ⟨k, rfl, q⟩ := q
  refine BL_law_226 (gd (k := 1) rfl (by omega) hL) ?_
  refine CL_law_235 q hz (fun w I2 J2 r => ?_)
  obtain ⟨r0, r1, r2, r3⟩ := r
  obtain rfl : w = none := r0
  refine BL_law_238 ?_
  refine CL_law_239 sm_thrown hz (fun v3 I3 J3 q3 => ?_)
  obtain ⟨rfl, rfl, rfl⟩ := q3
  rw [r1]
  refine BL_law_242 ?_
  refine IL_law_244 (fun _ => ?_) (fun z9 => absurd rfl z9)
  refine BL_law_249 ?_
  refine Ev.weak (ls' := lsL i) ⟨Or.inr rfl, Or.inr rfl, Or.inr rfl, Or.inr rfl, Or.inr rfl, Or.inl rfl, Or.inl rfl, Or.inl rfl, trivial⟩ ?_
  exact K _ _ r2
set_option maxHeartbeats 1000000 in
theorem lc_error (K : LK L xs Φ m z i) (h : Rel m I J I J) (hm : m < 512) (hi : i + 4 < L) (hL : L ≤ 2560) (hz : z + 1 ≤ 512) : Ev 8 512 L xs mL_law 252 (lsL i) [] I J z Φ := by
  refine BL_law_252 (gd (k := 1) rfl (by omega) hL) (gd (k := 2) rfl (by omega) hL) ?_
  refine Ev.callSH (M := mL_law) (N := mL_error) (i := 104) (n := 3) (As := [.ref 0, .int (xs (nI i + 1).toNatClampNeg), .int (xs (nI i + 2).toNatClampNeg)]) (rest := []) (hp_error h hm _ _) dL_law_265 lhL_error lsL_error rfl rfl (by simp only [List.map_cons, List.map_nil, Value.category, List.sum_cons, List.sum_nil]; decide) rfl hz (fun v I1 J1 q => ?_)
  obtain ⟨k, rfl, q⟩ := q
  refine BL_law_268 (gd (k := 1) rfl (by omega) hL) (gd (k := 2) rfl (by omega) hL) ?_
  refine CL_law_283 q hz (fun w I2 J2 r => ?_)
  obtain ⟨r0, r1, r2, r3⟩ := r
  obtain rfl : w = none := r0
  refine BL_law_286 ?_
  refine CL_law_287 sm_thrown hz (fun v3 I3 J3 q3 => ?_)
  obtain ⟨rfl, rfl, rfl⟩ := q3
  rw [r1]
  refine BL_law_290 ?_
  refine IL_law_292 (fun _ => ?_) (fun z9 => absurd rfl z9)
  refine BL_law_297 ?_
  refine Ev.weak (ls' := lsL i) ⟨Or.inr rfl, Or.inr rfl, Or.inr rfl, Or.inr rfl, Or.inr rfl, Or.inl rfl, Or.inl rfl, Or.inl rfl, trivial⟩ ?_
  exact K _ _ r2
set_option maxHeartbeats 1000000 in
theorem lc_rule (K : LK L xs Φ m z i) (h : Rel m I J I J) (hm : m < 512) (hi : i + 4 < L) (hL : L ≤ 2560) (hz : z + 1 ≤ 512) : Ev 8 512 L xs mL_law 300 (lsL i) [] I J z Φ := by
  refine BL_law_300 (gd (k := 1) rfl (by omega) hL) ?_
  refine Ev.callSH (M := mL_law) (N := mL_rule) (i := 108) (n := 2) (As := [.ref 0, .int (xs (nI i + 1).toNatClampNeg)]) (rest := []) (hp_rule h hm _) dL_law_307 lhL_rule lsL_rule rfl rfl (by simp only [List.map_cons, List.map_nil, Value.category, List.sum_cons, List.sum_nil]; decide) rfl hz (fun v I1 J1 q => ?_)
  obtain ⟨k, rfl, q⟩ := q
  refine BL_law_310 (gd (k := 1) rfl (by omega) hL) ?_
  refine CL_law_319 q hz (fun w I2 J2 r => ?_)
  obtain ⟨r0, r1, r2, r3⟩ := r
  obtain rfl : w = none := r0
  refine BL_law_322 ?_
  refine CL_law_323 sm_thrown hz (fun v3 I3 J3 q3 => ?_)
  obtain ⟨rfl, rfl, rfl⟩ := q3
  rw [r1]
  refine BL_law_326 ?_
  refine IL_law_328 (fun _ => ?_) (fun z9 => absurd rfl z9)
  refine BL_law_333 ?_
  refine Ev.weak (ls' := lsL i) ⟨Or.inr rfl, Or.inr rfl, Or.inr rfl, Or.inr rfl, Or.inr rfl, Or.inl rfl, Or.inl rfl, Or.inl rfl, trivial⟩ ?_
  exact K _ _ r2
set_option maxHeartbeats 1000000 in
theorem lc_admit (K : LK L xs Φ m z i) (h : Rel m I J I J) (hm : m < 512) (hi : i + 4 < L) (hL : L ≤ 2560) (hz : z + 1 ≤ 512) : Ev 8 512 L xs mL_law 336 (lsL i) [] I J z Φ := by
  refine BL_law_336 (gd (k := 1) rfl (by omega) hL) (gd (k := 2) rfl (by omega) hL) ?_
  refine Ev.callSH (M := mL_law) (N := mL_admit) (i := 111) (n := 4) (As := [.ref 0, .int (xs (nI i + 1).toNatClampNeg), .int (xs (nI i + 2).toNatClampNeg), .ref 158]) (rest := []) (hp_admit h hm _ _) dL_law_350 lhL_admit lsL_admit rfl rfl (by simp only [List.map_cons, List.map_nil, Value.category, List.sum_cons, List.sum_nil]; decide) rfl hz (fun v I1 J1 q => ?_)
  obtain ⟨k, rfl, q⟩ := q
  refine BL_law_353 (gd (k := 1) rfl (by omega) hL) (gd (k := 2) rfl (by omega) hL) ?_
  refine CL_law_368 q hz (fun w I2 J2 r => ?_)
  obtain ⟨r0, r1, r2, r3⟩ := r
  obtain ⟨y, rfl⟩ : ∃ y : Int32, w = some (.int y) := r0
  refine BL_law_371 ?_
  refine CL_law_374 sm_thrown hz (fun v3 I3 J3 q3 => ?_)
  obtain ⟨rfl, rfl, rfl⟩ := q3
  rw [r1]
  refine BL_law_377 ?_
  refine IL_law_379 (fun _ => ?_) (fun z9 => absurd rfl z9)
  refine BL_law_384 ?_
  refine IL_law_386 (fun _ => ?_) (fun k0 => ?_)
  · skip
    refine BL_law_401 ?_
    refine Ev.weak (ls' := lsL i) ⟨Or.inr rfl, Or.inr rfl, Or.inr rfl, Or.inr rfl, Or.inr rfl, Or.inl rfl, Or.inl rfl, Or.inl rfl, trivial⟩ ?_
    exact K _ _ r2
  · have k0 := Classical.not_not.mp k0
    have r4 := r3 trivial k0
    have r4 : J2 158 0 = y.toInt64 := r4
    refine BL_law_389 v01 ?_
    rw [t6_0, r4]
    refine IL_law_396 (fun _ => ?_) (fun z9 => absurd ((lg_eq0 _ _).mpr rfl) z9)
    refine BL_law_401 ?_
    refine Ev.weak (ls' := lsL i) ⟨Or.inr rfl, Or.inr rfl, Or.inr rfl, Or.inr rfl, Or.inr rfl, Or.inl rfl, Or.inl rfl, Or.inl rfl, trivial⟩ ?_
    exact K _ _ r2
set_option maxHeartbeats 1000000 in
theorem lc_plead (K : LK L xs Φ m z i) (h : Rel m I J I J) (hm : m < 512) (hi : i + 4 < L) (hL : L ≤ 2560) (hz : z + 1 ≤ 512) : Ev 8 512 L xs mL_law 404 (lsL i) [] I J z Φ := by
  refine BL_law_404 (gd (k := 1) rfl (by omega) hL) (gd (k := 2) rfl (by omega) hL) ?_
  refine Ev.callSH (M := mL_law) (N := mL_plead) (i := 115) (n := 3) (As := [.ref 0, .int (xs (nI i + 1).toNatClampNeg), .int (xs (nI i + 2).toNatClampNeg)]) (rest := []) (hp_plead h hm _ _) dL_law_417 lhL_plead lsL_plead rfl rfl (by simp only [List.map_cons, List.map_nil, Value.category, List.sum_cons, List.sum_nil]; decide) rfl hz (fun v I1 J1 q => ?_)
  obtain ⟨k, rfl, q⟩ := q
  refine BL_law_420 (gd (k := 1) rfl (by omega) hL) (gd (k := 2) rfl (by omega) hL) ?_
  refine CL_law_435 q hz (fun w I2 J2 r => ?_)
  obtain ⟨r0, r1, r2, r3⟩ := r
  obtain rfl : w = none := r0
  refine BL_law_438 ?_
  refine CL_law_439 sm_thrown hz (fun v3 I3 J3 q3 => ?_)
  obtain ⟨rfl, rfl, rfl⟩ := q3
  rw [r1]
  refine BL_law_442 ?_
  refine IL_law_444 (fun _ => ?_) (fun z9 => absurd rfl z9)
  refine BL_law_449 ?_
  refine Ev.weak (ls' := lsL i) ⟨Or.inr rfl, Or.inr rfl, Or.inr rfl, Or.inr rfl, Or.inr rfl, Or.inl rfl, Or.inl rfl, Or.inl rfl, trivial⟩ ?_
  exact K _ _ r2
set_option maxHeartbeats 1000000 in
theorem lc_back (K : LK L xs Φ m z i) (h : Rel m I J I J) (hm : m < 512) (hi : i + 4 < L) (hL : L ≤ 2560) (hz : z + 1 ≤ 512) : Ev 8 512 L xs mL_law 452 (lsL i) [] I J z Φ := by
  refine BL_law_452 (gd (k := 1) rfl (by omega) hL) (gd (k := 2) rfl (by omega) hL) (gd (k := 3) rfl (by omega) hL) ?_
  refine Ev.callSH (M := mL_law) (N := mL_back) (i := 118) (n := 4) (As := [.ref 0, .int (xs (nI i + 1).toNatClampNeg), .int (xs (nI i + 2).toNatClampNeg), .int (xs (nI i + 3).toNatClampNeg)]) (rest := []) (hp_back h hm _ _ _) dL_law_471 lhL_back lsL_back rfl rfl (by simp only [List.map_cons, List.map_nil, Value.category, List.sum_cons, List.sum_nil]; decide) rfl hz (fun v I1 J1 q => ?_)
  obtain ⟨k, rfl, q⟩ := q
  refine BL_law_474 (gd (k := 1) rfl (by omega) hL) (gd (k := 2) rfl (by omega) hL) (gd (k := 3) rfl (by omega) hL) ?_
  refine CL_law_495 q hz (fun w I2 J2 r => ?_)
  obtain ⟨r0, r1, r2, r3⟩ := r
  obtain rfl : w = none := r0
  refine BL_law_498 ?_
  refine CL_law_499 sm_thrown hz (fun v3 I3 J3 q3 => ?_)
  obtain ⟨rfl, rfl, rfl⟩ := q3
  rw [r1]
  refine BL_law_502 ?_
  refine IL_law_504 (fun _ => ?_) (fun z9 => absurd rfl z9)
  refine BL_law_509 ?_
  refine Ev.weak (ls' := lsL i) ⟨Or.inr rfl, Or.inr rfl, Or.inr rfl, Or.inr rfl, Or.inr rfl, Or.inl rfl, Or.inl rfl, Or.inl rfl, trivial⟩ ?_
  exact K _ _ r2
set_option maxHeartbeats 1000000 in
theorem lc_split (K : LK L xs Φ m z i) (h : Rel m I J I J) (hm : m < 512) (hi : i + 4 < L) (hL : L ≤ 2560) (hz : z + 1 ≤ 512) : Ev 8 512 L xs mL_law 512 (lsL i) [] I J z Φ := by
  refine BL_law_512 ?_
  refine Ev.callSH (M := mL_law) (N := mL_split) (i := 122) (n := 2) (As := [.ref 0, .ref 158]) (rest := []) (hp_split h hm) dL_law_514 lhL_split lsL_split rfl rfl (by simp only [List.map_cons, List.map_nil, Value.category, List.sum_cons, List.sum_nil]; decide) rfl hz (fun v I1 J1 q => ?_)
  obtain ⟨k, rfl, q⟩ := q
  refine BL_law_517 ?_
  refine CL_law_520 q hz (fun w I2 J2 r => ?_)
  obtain ⟨r0, r1, r2, r3⟩ := r
  obtain ⟨y, rfl⟩ : ∃ y : Int32, w = some (.int y) := r0
  refine BL_law_523 ?_
  refine CL_law_526 sm_thrown hz (fun v3 I3 J3 q3 => ?_)
  obtain ⟨rfl, rfl, rfl⟩ := q3
  rw [r1]
  refine BL_law_529 ?_
  refine IL_law_531 (fun _ => ?_) (fun z9 => absurd rfl z9)
  refine BL_law_536 ?_
  refine IL_law_538 (fun _ => ?_) (fun k0 => ?_)
  · skip
    refine BL_law_553 ?_
    refine Ev.weak (ls' := lsL i) ⟨Or.inr rfl, Or.inr rfl, Or.inr rfl, Or.inr rfl, Or.inr rfl, Or.inl rfl, Or.inl rfl, Or.inl rfl, trivial⟩ ?_
    exact K _ _ r2
  · have k0 := Classical.not_not.mp k0
    have r4 := r3 trivial k0
    have r4 : J2 158 0 = y.toInt64 := r4
    refine BL_law_541 v01 ?_
    rw [t6_0, r4]
    refine IL_law_548 (fun _ => ?_) (fun z9 => absurd ((lg_eq0 _ _).mpr rfl) z9)
    refine BL_law_553 ?_
    refine Ev.weak (ls' := lsL i) ⟨Or.inr rfl, Or.inr rfl, Or.inr rfl, Or.inr rfl, Or.inr rfl, Or.inl rfl, Or.inl rfl, Or.inl rfl, trivial⟩ ?_
    exact K _ _ r2
set_option maxHeartbeats 1000000 in
theorem lc_deliver (K : LK L xs Φ m z i) (h : Rel m I J I J) (hm : m < 512) (hi : i + 4 < L) (hL : L ≤ 2560) (hz : z + 1 ≤ 512) : Ev 8 512 L xs mL_law 556 (lsL i) [] I J z Φ := by
  refine BL_law_556 (gd (k := 1) rfl (by omega) hL) ?_
  refine Ev.callSH (M := mL_law) (N := mL_deliver) (i := 126) (n := 3) (As := [.ref 0, .int (xs (nI i + 1).toNatClampNeg), .ref 158]) (rest := []) (hp_deliver h hm _) dL_law_564 lhL_deliver lsL_deliver rfl rfl (by simp only [List.map_cons, List.map_nil, Value.category, List.sum_cons, List.sum_nil]; decide) rfl hz (fun v I1 J1 q => ?_)
  obtain ⟨k, rfl, q⟩ := q
  refine BL_law_567 (gd (k := 1) rfl (by omega) hL) ?_
  refine CL_law_576 q hz (fun w I2 J2 r => ?_)
  obtain ⟨r0, r1, r2, r3⟩ := r
  obtain ⟨y, rfl⟩ : ∃ y : Int32, w = some (.int y) := r0
  refine BL_law_579 ?_
  refine CL_law_582 sm_thrown hz (fun v3 I3 J3 q3 => ?_)
  obtain ⟨rfl, rfl, rfl⟩ := q3
  rw [r1]
  refine BL_law_585 ?_
  refine IL_law_587 (fun _ => ?_) (fun z9 => absurd rfl z9)
  refine BL_law_592 ?_
  refine IL_law_594 (fun _ => ?_) (fun k0 => ?_)
  · skip
    refine BL_law_609 ?_
    refine Ev.weak (ls' := lsL i) ⟨Or.inr rfl, Or.inr rfl, Or.inr rfl, Or.inr rfl, Or.inr rfl, Or.inl rfl, Or.inl rfl, Or.inl rfl, trivial⟩ ?_
    exact K _ _ r2
  · have k0 := Classical.not_not.mp k0
    have r4 := r3 trivial k0
    have r4 : J2 158 0 = y.toInt64 := r4
    refine BL_law_597 v01 ?_
    rw [t6_0, r4]
    refine IL_law_604 (fun _ => ?_) (fun z9 => absurd ((lg_eq0 _ _).mpr rfl) z9)
    refine BL_law_609 ?_
    refine Ev.weak (ls' := lsL i) ⟨Or.inr rfl, Or.inr rfl, Or.inr rfl, Or.inr rfl, Or.inr rfl, Or.inl rfl, Or.inl rfl, Or.inl rfl, trivial⟩ ?_
    exact K _ _ r2
set_option maxHeartbeats 1000000 in
theorem lc_deliverAll (K : LK L xs Φ m z i) (h : Rel m I J I J) (hm : m < 512) (hi : i + 4 < L) (hL : L ≤ 2560) (hz : z + 1 ≤ 512) : Ev 8 512 L xs mL_law 612 (lsL i) [] I J z Φ := by
  refine BL_law_612 (gd (k := 1) rfl (by omega) hL) ?_
  refine Ev.callSH (M := mL_law) (N := mL_deliverAll) (i := 130) (n := 3) (As := [.ref 0, .int (xs (nI i + 1).toNatClampNeg), .ref 158]) (rest := []) (hp_deliverAll h hm _) dL_law_620 lhL_deliverAll lsL_deliverAll rfl rfl (by simp only [List.map_cons, List.map_nil, Value.category, List.sum_cons, List.sum_nil]; decide) rfl hz (fun v I1 J1 q => ?_)
  obtain ⟨k, rfl, q⟩ := q
  refine BL_law_623 (gd (k := 1) rfl (by omega) hL) ?_
  refine CL_law_632 q hz (fun w I2 J2 r => ?_)
  obtain ⟨r0, r1, r2, r3⟩ := r
  obtain ⟨y, rfl⟩ : ∃ y : Int32, w = some (.int y) := r0
  refine BL_law_635 ?_
  refine CL_law_638 sm_thrown hz (fun v3 I3 J3 q3 => ?_)
  obtain ⟨rfl, rfl, rfl⟩ := q3
  rw [r1]
  refine BL_law_641 ?_
  refine IL_law_643 (fun _ => ?_) (fun z9 => absurd rfl z9)
  refine BL_law_648 ?_
  refine IL_law_650 (fun _ => ?_) (fun k0 => ?_)
  · skip
    refine BL_law_665 ?_
    refine Ev.weak (ls' := lsL i) ⟨Or.inr rfl, Or.inr rfl, Or.inr rfl, Or.inr rfl, Or.inr rfl, Or.inl rfl, Or.inl rfl, Or.inl rfl, trivial⟩ ?_
    exact K _ _ r2
  · have k0 := Classical.not_not.mp k0
    have r4 := r3 trivial k0
    have r4 : J2 158 0 = y.toInt64 := r4
    refine BL_law_653 v01 ?_
    rw [t6_0, r4]
    refine IL_law_660 (fun _ => ?_) (fun z9 => absurd ((lg_eq0 _ _).mpr rfl) z9)
    refine BL_law_665 ?_
    refine Ev.weak (ls' := lsL i) ⟨Or.inr rfl, Or.inr rfl, Or.inr rfl, Or.inr rfl, Or.inr rfl, Or.inl rfl, Or.inl rfl, Or.inl rfl, trivial⟩ ?_
    exact K _ _ r2
set_option maxHeartbeats 1000000 in
theorem lc_lose (K : LK L xs Φ m z i) (h : Rel m I J I J) (hm : m < 512) (hi : i + 4 < L) (hL : L ≤ 2560) (hz : z + 1 ≤ 512) : Ev 8 512 L xs mL_law 668 (lsL i) [] I J z Φ := by
  refine BL_law_668 (gd (k := 1) rfl (by omega) hL) ?_
  refine Ev.callSH (M := mL_law) (N := mL_lose) (i := 133) (n := 2) (As := [.ref 0, .int (xs (nI i + 1).toNatClampNeg)]) (rest := []) (hp_lose h hm _) dL_law_675 lhL_lose lsL_lose rfl rfl (by simp only [List.map_cons, List.map_nil, Value.category, List.sum_cons, List.sum_nil]; decide) rfl hz (fun v I1 J1 q => ?_)
  obtain ⟨k, rfl, q⟩ := q
  refine BL_law_678 (gd (k := 1) rfl (by omega) hL) ?_
  refine CL_law_687 q hz (fun w I2 J2 r => ?_)
  obtain ⟨r0, r1, r2, r3⟩ := r
  obtain rfl : w = none := r0
  refine BL_law_690 ?_
  refine CL_law_691 sm_thrown hz (fun v3 I3 J3 q3 => ?_)
  obtain ⟨rfl, rfl, rfl⟩ := q3
  rw [r1]
  refine BL_law_694 ?_
  refine IL_law_696 (fun _ => ?_) (fun z9 => absurd rfl z9)
  refine BL_law_701 ?_
  refine Ev.weak (ls' := lsL i) ⟨Or.inr rfl, Or.inr rfl, Or.inr rfl, Or.inr rfl, Or.inr rfl, Or.inl rfl, Or.inl rfl, Or.inl rfl, trivial⟩ ?_
  exact K _ _ r2
set_option maxHeartbeats 1000000 in
theorem lc_twice (K : LK L xs Φ m z i) (h : Rel m I J I J) (hm : m < 512) (hi : i + 4 < L) (hL : L ≤ 2560) (hz : z + 1 ≤ 512) : Ev 8 512 L xs mL_law 704 (lsL i) [] I J z Φ := by
  refine BL_law_704 (gd (k := 1) rfl (by omega) hL) ?_
  refine Ev.callSH (M := mL_law) (N := mL_twice) (i := 136) (n := 2) (As := [.ref 0, .int (xs (nI i + 1).toNatClampNeg)]) (rest := []) (hp_twice h hm _) dL_law_711 lhL_twice lsL_twice rfl rfl (by simp only [List.map_cons, List.map_nil, Value.category, List.sum_cons, List.sum_nil]; decide) rfl hz (fun v I1 J1 q => ?_)
  obtain ⟨k, rfl, q⟩ := q
  refine BL_law_714 (gd (k := 1) rfl (by omega) hL) ?_
  refine CL_law_723 q hz (fun w I2 J2 r => ?_)
  obtain ⟨r0, r1, r2, r3⟩ := r
  obtain rfl : w = none := r0
  refine BL_law_726 ?_
  refine CL_law_727 sm_thrown hz (fun v3 I3 J3 q3 => ?_)
  obtain ⟨rfl, rfl, rfl⟩ := q3
  rw [r1]
  refine BL_law_730 ?_
  refine IL_law_732 (fun _ => ?_) (fun z9 => absurd rfl z9)
  refine BL_law_737 ?_
  refine Ev.weak (ls' := lsL i) ⟨Or.inr rfl, Or.inr rfl, Or.inr rfl, Or.inr rfl, Or.inr rfl, Or.inl rfl, Or.inl rfl, Or.inl rfl, trivial⟩ ?_
  exact K _ _ r2
set_option maxHeartbeats 1000000 in
theorem lc_resend (K : LK L xs Φ m z i) (h : Rel m I J I J) (hm : m < 512) (hi : i + 4 < L) (hL : L ≤ 2560) (hz : z + 1 ≤ 512) : Ev 8 512 L xs mL_law 740 (lsL i) [] I J z Φ := by
  refine BL_law_740 (gd (k := 1) rfl (by omega) hL) ?_
  refine Ev.callSH (M := mL_law) (N := mL_resend) (i := 139) (n := 3) (As := [.ref 0, .int (xs (nI i + 1).toNatClampNeg), .ref 158]) (rest := []) (hp_resend h hm _) dL_law_748 lhL_resend lsL_resend rfl rfl (by simp only [List.map_cons, List.map_nil, Value.category, List.sum_cons, List.sum_nil]; decide) rfl hz (fun v I1 J1 q => ?_)
  obtain ⟨k, rfl, q⟩ := q
  refine BL_law_751 (gd (k := 1) rfl (by omega) hL) ?_
  refine CL_law_760 q hz (fun w I2 J2 r => ?_)
  obtain ⟨r0, r1, r2, r3⟩ := r
  obtain ⟨y, rfl⟩ : ∃ y : Int32, w = some (.int y) := r0
  refine BL_law_763 ?_
  refine CL_law_766 sm_thrown hz (fun v3 I3 J3 q3 => ?_)
  obtain ⟨rfl, rfl, rfl⟩ := q3
  rw [r1]
  refine BL_law_769 ?_
  refine IL_law_771 (fun _ => ?_) (fun z9 => absurd rfl z9)
  refine BL_law_776 ?_
  refine IL_law_778 (fun _ => ?_) (fun k0 => ?_)
  · skip
    refine BL_law_793 ?_
    refine Ev.weak (ls' := lsL i) ⟨Or.inr rfl, Or.inr rfl, Or.inr rfl, Or.inr rfl, Or.inr rfl, Or.inl rfl, Or.inl rfl, Or.inl rfl, trivial⟩ ?_
    exact K _ _ r2
  · have k0 := Classical.not_not.mp k0
    have r4 := r3 trivial k0
    have r4 : J2 158 0 = y.toInt64 := r4
    refine BL_law_781 v01 ?_
    rw [t6_0, r4]
    refine IL_law_788 (fun _ => ?_) (fun z9 => absurd ((lg_eq0 _ _).mpr rfl) z9)
    refine BL_law_793 ?_
    refine Ev.weak (ls' := lsL i) ⟨Or.inr rfl, Or.inr rfl, Or.inr rfl, Or.inr rfl, Or.inr rfl, Or.inl rfl, Or.inl rfl, Or.inl rfl, trivial⟩ ?_
    exact K _ _ r2
set_option maxHeartbeats 1000000 in
theorem lc_letter (K : LK L xs Φ m z i) (h : Rel m I J I J) (hm : m < 512) (hi : i + 4 < L) (hL : L ≤ 2560) (hz : z + 1 ≤ 512) : Ev 8 512 L xs mL_law 796 (lsL i) [] I J z Φ := by
  refine BL_law_796 (gd (k := 1) rfl (by omega) hL) (gd (k := 2) rfl (by omega) hL) ?_
  refine Ev.callSH (M := mL_law) (N := mL_letter) (i := 142) (n := 4) (As := [.ref 0, .int (xs (nI i + 1).toNatClampNeg), .int (xs (nI i + 2).toNatClampNeg), .ref 158]) (rest := []) (hp_letter h hm _ _) dL_law_810 lhL_letter lsL_letter rfl rfl (by simp only [List.map_cons, List.map_nil, Value.category, List.sum_cons, List.sum_nil]; decide) rfl hz (fun v I1 J1 q => ?_)
  obtain ⟨k, rfl, q⟩ := q
  refine BL_law_813 (gd (k := 1) rfl (by omega) hL) (gd (k := 2) rfl (by omega) hL) ?_
  refine CL_law_828 q hz (fun w I2 J2 r => ?_)
  obtain ⟨r0, r1, r2, r3⟩ := r
  obtain ⟨y, rfl⟩ : ∃ y : Int32, w = some (.int y) := r0
  refine BL_law_831 ?_
  refine CL_law_834 sm_thrown hz (fun v3 I3 J3 q3 => ?_)
  obtain ⟨rfl, rfl, rfl⟩ := q3
  rw [r1]
  refine BL_law_837 ?_
  refine IL_law_839 (fun _ => ?_) (fun z9 => absurd rfl z9)
  refine BL_law_844 ?_
  refine IL_law_846 (fun _ => ?_) (fun k0 => ?_)
  · skip
    refine BL_law_861 ?_
    refine Ev.weak (ls' := lsL i) ⟨Or.inr rfl, Or.inr rfl, Or.inr rfl, Or.inr rfl, Or.inr rfl, Or.inl rfl, Or.inl rfl, Or.inl rfl, trivial⟩ ?_
    exact K _ _ r2
  · have k0 := Classical.not_not.mp k0
    have r4 := r3 trivial k0
    have r4 : J2 158 0 = y.toInt64 := r4
    refine BL_law_849 v01 ?_
    rw [t6_0, r4]
    refine IL_law_856 (fun _ => ?_) (fun z9 => absurd ((lg_eq0 _ _).mpr rfl) z9)
    refine BL_law_861 ?_
    refine Ev.weak (ls' := lsL i) ⟨Or.inr rfl, Or.inr rfl, Or.inr rfl, Or.inr rfl, Or.inr rfl, Or.inl rfl, Or.inl rfl, Or.inl rfl, trivial⟩ ?_
    exact K _ _ r2
set_option maxHeartbeats 1000000 in
theorem lc_crash (K : LK L xs Φ m z i) (h : Rel m I J I J) (hm : m < 512) (hi : i + 4 < L) (hL : L ≤ 2560) (hz : z + 1 ≤ 512) : Ev 8 512 L xs mL_law 864 (lsL i) [] I J z Φ := by
  refine BL_law_864 (gd (k := 1) rfl (by omega) hL) ?_
  refine Ev.callSH (M := mL_law) (N := mL_crash) (i := 145) (n := 2) (As := [.ref 0, .int (xs (nI i + 1).toNatClampNeg)]) (rest := []) (hp_crash h hm _) dL_law_871 lhL_crash lsL_crash rfl rfl (by simp only [List.map_cons, List.map_nil, Value.category, List.sum_cons, List.sum_nil]; decide) rfl hz (fun v I1 J1 q => ?_)
  obtain ⟨k, rfl, q⟩ := q
  refine BL_law_874 (gd (k := 1) rfl (by omega) hL) ?_
  refine CL_law_883 q hz (fun w I2 J2 r => ?_)
  obtain ⟨r0, r1, r2, r3⟩ := r
  obtain rfl : w = none := r0
  refine BL_law_886 ?_
  refine CL_law_887 sm_thrown hz (fun v3 I3 J3 q3 => ?_)
  obtain ⟨rfl, rfl, rfl⟩ := q3
  rw [r1]
  refine BL_law_890 ?_
  refine IL_law_892 (fun _ => ?_) (fun z9 => absurd rfl z9)
  refine BL_law_897 ?_
  refine Ev.weak (ls' := lsL i) ⟨Or.inr rfl, Or.inr rfl, Or.inr rfl, Or.inr rfl, Or.inr rfl, Or.inl rfl, Or.inl rfl, Or.inl rfl, trivial⟩ ?_
  exact K _ _ r2
set_option maxHeartbeats 1000000 in
theorem lc_restart (K : LK L xs Φ m z i) (h : Rel m I J I J) (hm : m < 512) (hi : i + 4 < L) (hL : L ≤ 2560) (hz : z + 1 ≤ 512) : Ev 8 512 L xs mL_law 900 (lsL i) [] I J z Φ := by
  refine BL_law_900 (gd (k := 1) rfl (by omega) hL) ?_
  refine Ev.callSH (M := mL_law) (N := mL_restart) (i := 148) (n := 3) (As := [.ref 0, .int (xs (nI i + 1).toNatClampNeg), .ref 158]) (rest := []) (hp_restart h hm _) dL_law_908 lhL_restart lsL_restart rfl rfl (by simp only [List.map_cons, List.map_nil, Value.category, List.sum_cons, List.sum_nil]; decide) rfl hz (fun v I1 J1 q => ?_)
  obtain ⟨k, rfl, q⟩ := q
  refine BL_law_911 (gd (k := 1) rfl (by omega) hL) ?_
  refine CL_law_920 q hz (fun w I2 J2 r => ?_)
  obtain ⟨r0, r1, r2, r3⟩ := r
  obtain ⟨y, rfl, hy⟩ : ∃ y : Int32, w = some (.int y) ∧ (y = 0 ∨ y = 1) := r0
  refine BL_law_923 ?_
  refine CL_law_926 sm_thrown hz (fun v3 I3 J3 q3 => ?_)
  obtain ⟨rfl, rfl, rfl⟩ := q3
  rw [r1]
  refine BL_law_929 ?_
  refine IL_law_931 (fun _ => ?_) (fun z9 => absurd rfl z9)
  refine BL_law_936 ?_
  refine IL_law_938 (fun _ => ?_) (fun k0 => ?_)
  · skip
    refine BL_law_960 ?_
    refine Ev.weak (ls' := lsL i) ⟨Or.inr rfl, Or.inr rfl, Or.inr rfl, Or.inr rfl, Or.inr rfl, Or.inl rfl, Or.inl rfl, Or.inl rfl, trivial⟩ ?_
    exact K _ _ r2
  · have k0 := Classical.not_not.mp k0
    have r4 := r3 trivial k0
    have r4 : J2 158 0 = y.toInt64 := r4
    refine BL_law_941 v01 ?_
    rw [t6_0, r4]
    rcases hy with rfl | rfl
    · refine IL_law_946 (fun _ => ?_) (fun z9 => absurd rfl z9)
      refine BL_law_953 ?_
      refine BL_law_954 ?_
      refine IL_law_955 (fun _ => ?_) (fun z9 => absurd ((lg_eq0 _ _).mpr rfl) z9)
      refine BL_law_960 ?_
      refine Ev.weak (ls' := lsL i) ⟨Or.inr rfl, Or.inr rfl, Or.inr rfl, Or.inr rfl, Or.inr rfl, Or.inl rfl, Or.inl rfl, Or.inl rfl, trivial⟩ ?_
      exact K _ _ r2
    · refine IL_law_946 (fun z9 => absurd z9 (by decide)) (fun _ => ?_)
      refine BL_law_949 ?_
      refine BL_law_954 ?_
      refine IL_law_955 (fun _ => ?_) (fun z9 => absurd ((lg_eq0 _ _).mpr rfl) z9)
      refine BL_law_960 ?_
      refine Ev.weak (ls' := lsL i) ⟨Or.inr rfl, Or.inr rfl, Or.inr rfl, Or.inr rfl, Or.inr rfl, Or.inl rfl, Or.inl rfl, Or.inl rfl, trivial⟩ ?_
      exact K _ _ r2
set_option maxHeartbeats 1000000 in
theorem lc_about (K : LK L xs Φ m z i) (h : Rel m I J I J) (hm : m < 512) (hi : i + 4 < L) (hL : L ≤ 2560) (hz : z + 1 ≤ 512) : Ev 8 512 L xs mL_law 1004 (lsL i) [] I J z Φ := by
  refine BL_law_1004 (gd (k := 1) rfl (by omega) hL) (gd (k := 2) rfl (by omega) hL) ?_
  refine Ev.callSH (M := mL_law) (N := mL_about) (i := 156) (n := 4) (As := [.ref 0, .int (xs (nI i + 1).toNatClampNeg), .int (xs (nI i + 2).toNatClampNeg), .ref 158]) (rest := []) (hp_about h hm _ _) dL_law_1018 lhL_about lsL_about rfl rfl (by simp only [List.map_cons, List.map_nil, Value.category, List.sum_cons, List.sum_nil]; decide) rfl hz (fun v I1 J1 q => ?_)
  obtain ⟨k, rfl, q⟩ := q
  refine BL_law_1021 (gd (k := 1) rfl (by omega) hL) (gd (k := 2) rfl (by omega) hL) ?_
  refine CL_law_1036 q hz (fun w I2 J2 r => ?_)
  obtain ⟨r0, r1, r2, r3⟩ := r
  obtain ⟨y, rfl⟩ : ∃ y : Int64, w = some (.long y) := r0
  refine BL_law_1039 ?_
  refine CL_law_1042 sm_thrown hz (fun v3 I3 J3 q3 => ?_)
  obtain ⟨rfl, rfl, rfl⟩ := q3
  rw [r1]
  refine BL_law_1045 ?_
  refine IL_law_1047 (fun _ => ?_) (fun z9 => absurd rfl z9)
  refine BL_law_1052 ?_
  refine IL_law_1054 (fun _ => ?_) (fun k0 => ?_)
  · skip
    refine BL_law_1068 ?_
    refine Ev.weak (ls' := lsL i) ⟨Or.inr rfl, Or.inr rfl, Or.inr rfl, Or.inr rfl, Or.inr rfl, Or.inl rfl, Or.inl rfl, Or.inl rfl, trivial⟩ ?_
    exact K _ _ r2
  · have k0 := Classical.not_not.mp k0
    have r4 := r3 trivial k0
    have r4 : J2 158 0 = y := r4
    refine BL_law_1057 v01 ?_
    rw [t6_0, r4]
    refine IL_law_1063 (fun _ => ?_) (fun z9 => absurd ((lg_eq0 _ _).mpr rfl) z9)
    refine BL_law_1068 ?_
    refine Ev.weak (ls' := lsL i) ⟨Or.inr rfl, Or.inr rfl, Or.inr rfl, Or.inr rfl, Or.inr rfl, Or.inl rfl, Or.inl rfl, Or.inl rfl, trivial⟩ ?_
    exact K _ _ r2
set_option maxHeartbeats 1000000 in
theorem lc_has (K : LK L xs Φ m z i) (h : Rel m I J I J) (hm : m < 512) (hi : i + 4 < L) (hL : L ≤ 2560) (hz : z + 1 ≤ 512) : Ev 8 512 L xs mL_law 1071 (lsL i) [] I J z Φ := by
  refine BL_law_1071 (gd (k := 1) rfl (by omega) hL) (gd (k := 2) rfl (by omega) hL) (gd (k := 3) rfl (by omega) hL) ?_
  refine Ev.callSH (M := mL_law) (N := mL_has) (i := 159) (n := 5) (As := [.ref 0, .int (xs (nI i + 1).toNatClampNeg), .int (xs (nI i + 2).toNatClampNeg), .int (xs (nI i + 3).toNatClampNeg), .ref 158]) (rest := []) (hp_has h hm _ _ _) dL_law_1091 lhL_has lsL_has rfl rfl (by simp only [List.map_cons, List.map_nil, Value.category, List.sum_cons, List.sum_nil]; decide) rfl hz (fun v I1 J1 q => ?_)
  obtain ⟨k, rfl, q⟩ := q
  refine BL_law_1094 (gd (k := 1) rfl (by omega) hL) (gd (k := 2) rfl (by omega) hL) (gd (k := 3) rfl (by omega) hL) ?_
  refine CL_law_1115 q hz (fun w I2 J2 r => ?_)
  obtain ⟨r0, r1, r2, r3⟩ := r
  obtain ⟨y, rfl⟩ : ∃ y : Int32, w = some (.int y) := r0
  refine BL_law_1118 ?_
  refine CL_law_1121 sm_thrown hz (fun v3 I3 J3 q3 => ?_)
  obtain ⟨rfl, rfl, rfl⟩ := q3
  rw [r1]
  refine BL_law_1124 ?_
  refine IL_law_1126 (fun _ => ?_) (fun z9 => absurd rfl z9)
  refine BL_law_1131 ?_
  refine IL_law_1133 (fun _ => ?_) (fun k0 => ?_)
  · skip
    refine BL_law_1148 ?_
    refine Ev.weak (ls' := lsL i) ⟨Or.inr rfl, Or.inr rfl, Or.inr rfl, Or.inr rfl, Or.inr rfl, Or.inl rfl, Or.inl rfl, Or.inl rfl, trivial⟩ ?_
    exact K _ _ r2
  · have k0 := Classical.not_not.mp k0
    have r4 := r3 trivial k0
    have r4 : J2 158 0 = y.toInt64 := r4
    refine BL_law_1136 v01 ?_
    rw [t6_0, r4]
    refine IL_law_1143 (fun _ => ?_) (fun z9 => absurd ((lg_eq0 _ _).mpr rfl) z9)
    refine BL_law_1148 ?_
    refine Ev.weak (ls' := lsL i) ⟨Or.inr rfl, Or.inr rfl, Or.inr rfl, Or.inr rfl, Or.inr rfl, Or.inl rfl, Or.inl rfl, Or.inl rfl, trivial⟩ ?_
    exact K _ _ r2
set_option maxHeartbeats 1000000 in
theorem lc_busiest (K : LK L xs Φ m z i) (h : Rel m I J I J) (hm : m < 512) (hi : i + 4 < L) (hL : L ≤ 2560) (hz : z + 1 ≤ 512) : Ev 8 512 L xs mL_law 1201 (lsL i) [] I J z Φ := by
  refine BL_law_1201 (gd (k := 1) rfl (by omega) hL) ?_
  refine Ev.callSH (M := mL_law) (N := mL_busiest) (i := 171) (n := 3) (As := [.ref 0, .int (xs (nI i + 1).toNatClampNeg), .ref 158]) (rest := []) (hp_busiest h hm _) dL_law_1209 lhL_busiest lsL_busiest rfl rfl (by simp only [List.map_cons, List.map_nil, Value.category, List.sum_cons, List.sum_nil]; decide) rfl hz (fun v I1 J1 q => ?_)
  obtain ⟨k, rfl, q⟩ := q
  refine BL_law_1212 (gd (k := 1) rfl (by omega) hL) ?_
  refine CL_law_1221 q hz (fun w I2 J2 r => ?_)
  obtain ⟨r0, r1, r2, r3⟩ := r
  obtain ⟨y, rfl⟩ : ∃ y : Int32, w = some (.int y) := r0
  refine BL_law_1224 ?_
  refine CL_law_1227 sm_thrown hz (fun v3 I3 J3 q3 => ?_)
  obtain ⟨rfl, rfl, rfl⟩ := q3
  rw [r1]
  refine BL_law_1230 ?_
  refine IL_law_1232 (fun _ => ?_) (fun z9 => absurd rfl z9)
  refine BL_law_1237 ?_
  refine IL_law_1239 (fun _ => ?_) (fun k0 => ?_)
  · skip
    refine BL_law_1254 ?_
    refine Ev.weak (ls' := lsL i) ⟨Or.inr rfl, Or.inr rfl, Or.inr rfl, Or.inr rfl, Or.inr rfl, Or.inl rfl, Or.inl rfl, Or.inl rfl, trivial⟩ ?_
    exact K _ _ r2
  · have k0 := Classical.not_not.mp k0
    have r4 := r3 trivial k0
    have r4 : J2 158 0 = y.toInt64 := r4
    refine BL_law_1242 v01 ?_
    rw [t6_0, r4]
    refine IL_law_1249 (fun _ => ?_) (fun z9 => absurd ((lg_eq0 _ _).mpr rfl) z9)
    refine BL_law_1254 ?_
    refine Ev.weak (ls' := lsL i) ⟨Or.inr rfl, Or.inr rfl, Or.inr rfl, Or.inr rfl, Or.inr rfl, Or.inl rfl, Or.inl rfl, Or.inl rfl, trivial⟩ ?_
    exact K _ _ r2
set_option maxHeartbeats 1000000 in
theorem lc_count (K : LK L xs Φ m z i) (h : Rel m I J I J) (hm : m < 512) (hi : i + 4 < L) (hL : L ≤ 2560) (hz : z + 1 ≤ 512) : Ev 8 512 L xs mL_law 1257 (lsL i) [] I J z Φ := by
  refine BL_law_1257 (gd (k := 1) rfl (by omega) hL) ?_
  refine Ev.callSH (M := mL_law) (N := mL_count) (i := 174) (n := 3) (As := [.ref 0, .int (xs (nI i + 1).toNatClampNeg), .ref 158]) (rest := []) (hp_count h hm _) dL_law_1265 lhL_count lsL_count rfl rfl (by simp only [List.map_cons, List.map_nil, Value.category, List.sum_cons, List.sum_nil]; decide) rfl hz (fun v I1 J1 q => ?_)
  obtain ⟨k, rfl, q⟩ := q
  refine BL_law_1268 (gd (k := 1) rfl (by omega) hL) ?_
  refine CL_law_1277 q hz (fun w I2 J2 r => ?_)
  obtain ⟨r0, r1, r2, r3⟩ := r
  obtain ⟨y, rfl⟩ : ∃ y : Int32, w = some (.int y) := r0
  refine BL_law_1280 ?_
  refine CL_law_1283 sm_thrown hz (fun v3 I3 J3 q3 => ?_)
  obtain ⟨rfl, rfl, rfl⟩ := q3
  rw [r1]
  refine BL_law_1286 ?_
  refine IL_law_1288 (fun _ => ?_) (fun z9 => absurd rfl z9)
  refine BL_law_1293 ?_
  refine IL_law_1295 (fun _ => ?_) (fun k0 => ?_)
  · skip
    refine BL_law_1310 ?_
    refine Ev.weak (ls' := lsL i) ⟨Or.inr rfl, Or.inr rfl, Or.inr rfl, Or.inr rfl, Or.inr rfl, Or.inl rfl, Or.inl rfl, Or.inl rfl, trivial⟩ ?_
    exact K _ _ r2
  · have k0 := Classical.not_not.mp k0
    have r4 := r3 trivial k0
    have r4 : J2 158 0 = y.toInt64 := r4
    refine BL_law_1298 v01 ?_
    rw [t6_0, r4]
    refine IL_law_1305 (fun _ => ?_) (fun z9 => absurd ((lg_eq0 _ _).mpr rfl) z9)
    refine BL_law_1310 ?_
    refine Ev.weak (ls' := lsL i) ⟨Or.inr rfl, Or.inr rfl, Or.inr rfl, Or.inr rfl, Or.inr rfl, Or.inl rfl, Or.inl rfl, Or.inl rfl, trivial⟩ ?_
    exact K _ _ r2
end LC
