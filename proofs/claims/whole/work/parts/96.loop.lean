/-! the law's loop -/
section LOOPL
variable {L m z i : Nat} {xs : Nat → Int32} {Φ : Out → T2 → T3 → Nat → Prop} {I : T2} {J : T3}
theorem Ev.wid {d Z : Nat} {M : MD} {pc : Nat} {ls : List (Option Value)} {st : List Value} (h : Ev d Z L xs M pc ls st I J (z + 1) Φ) : Ev d Z L xs M pc ls st I J z Φ := by
  intro l p e R s m args below meth c D cy b bs k0 w0 Q C hRm hRT hTH H locs arr hR hl
  exact W.widen (k := k0 + (z + 1)) (n := w0 + 6 * (z + 1)) (by omega) (by omega) (h l p e R s m args below meth c D cy b bs k0 w0 Q C hRm hRT hTH H locs arr hR hl)
theorem lc_desk (K : LK L xs Φ m z i) (h : Rel m I J I J) (hm : m < 512) (hi : i + 4 < L) (hL : L ≤ 2560) (hz : z + 1 ≤ 512) : Ev 8 512 L xs mL_law 963 (lsL i) [] I J z Φ := by
  have hz' : z ≤ 512 := by omega
  refine BL_law_963 (gd (k := 1) rfl (by omega) hL) ?_
  have go : ∀ b : Int32, (b = 0 ∧ xs (nI i + 1).toNatClampNeg = 0) ∨ (b = 1 ∧ ¬ xs (nI i + 1).toNatClampNeg = 0) → Ev 8 512 L xs mL_law 978 (lsL i) [.int b, .ref 0] I J z Φ := by
    intro b hb
    have hb' : b = 0 ∨ b = 1 := hb.imp And.left And.left
    refine CL_law_978 (pr_desk h hm hb') hz' (fun v I1 J1 q => ?_)
    obtain ⟨hv, q⟩ := q
    obtain ⟨r, rfl, hr⟩ : ∃ r : Int32, v = some (.int r) ∧ (r = 0 ∨ r = 1) := hv
    refine BL_law_981 (gd (k := 1) rfl (by omega) hL) ?_
    have fin : Ev 8 512 L xs mL_law 996 (lsL i) [.int b, .ref 136, .int r] I1 J1 z Φ := by
      refine CL_law_996 (q I1 J1 ⟨rfl, fun _ _ => rfl⟩) hz' (fun w I2 J2 y => ?_)
      obtain ⟨rfl, y1, y2, y3⟩ := y
      refine IL_law_999 (fun _ => ?_) (fun z9 => absurd rfl z9)
      exact Ev.wid (K I2 J2 y3)
    rcases hb with ⟨rfl, h0⟩ | ⟨rfl, h0⟩
    · refine IL_law_988 (fun _ => ?_) (fun z9 => absurd h0 z9)
      exact BL_law_995 fin
    · refine IL_law_988 (fun z9 => absurd z9 h0) (fun _ => ?_)
      exact BL_law_991 fin
  refine IL_law_970 (fun c => ?_) (fun c => ?_)
  · exact BL_law_977 (go 0 (Or.inl ⟨rfl, c⟩))
  · exact BL_law_973 (go 1 (Or.inr ⟨rfl, c⟩))
theorem lc_there (K : LK L xs Φ m z i) (h : Rel m I J I J) (hm : m < 512) (hi : i + 4 < L) (hL : L ≤ 2560) (hz : z + 1 ≤ 512) : Ev 8 512 L xs mL_law 1151 (lsL i) [] I J z Φ := by
  have hz' : z ≤ 512 := by omega
  refine BL_law_1151 (gd (k := 1) rfl (by omega) hL) ?_
  refine CL_law_1158 (pr_there h hm _) hz' (fun v I1 J1 q => ?_)
  obtain ⟨hv, q⟩ := q
  obtain ⟨r, rfl⟩ : ∃ r : Int32, v = some (.int r) := hv
  refine BL_law_1161 (gd (k := 1) rfl (by omega) hL) ?_
  refine CL_law_1168 (q I1 J1 ⟨rfl, fun _ _ => rfl⟩) hz' (fun w I2 J2 y => ?_)
  obtain ⟨rfl, y1, y2, y3⟩ := y
  refine IL_law_1171 (fun _ => ?_) (fun z9 => absurd rfl z9)
  exact Ev.wid (K I2 J2 y3)
theorem lc_used (K : LK L xs Φ m z i) (h : Rel m I J I J) (hm : m < 512) (hi : i + 4 < L) (hL : L ≤ 2560) (hz : z + 1 ≤ 512) : Ev 8 512 L xs mL_law 1176 (lsL i) [] I J z Φ := by
  have hz' : z ≤ 512 := by omega
  refine BL_law_1176 (gd (k := 1) rfl (by omega) hL) ?_
  refine CL_law_1183 (pr_used h hm _) hz' (fun v I1 J1 q => ?_)
  obtain ⟨hv, q⟩ := q
  obtain ⟨r, rfl⟩ : ∃ r : Int32, v = some (.int r) := hv
  refine BL_law_1186 (gd (k := 1) rfl (by omega) hL) ?_
  refine CL_law_1193 (q I1 J1 ⟨rfl, fun _ _ => rfl⟩) hz' (fun w I2 J2 y => ?_)
  obtain ⟨rfl, y1, y2, y3⟩ := y
  refine IL_law_1196 (fun _ => ?_) (fun z9 => absurd rfl z9)
  exact Ev.wid (K I2 J2 y3)
def lOne : Out → T2 → T3 → Nat → Prop := fun o _ _ _ => o = .inl (some (.int 1))
theorem law_case (K : LK L xs Φ m z i) (h : Rel m I J I J) (hm : m < 512) (hi : i + 4 < L) (hL : L ≤ 2560) (hz : z + 1 ≤ 512) {j : Nat} (hj : j < 32) : Ev 8 512 L xs mL_law 39 (lsL i) [.int (nI j)] I J z Φ := by
  by_cases c : j < 23
  · have e1 : ¬ (nI j).toInt < 0 := by rw [nI_toInt (by omega)]; omega
    have e2 : ¬ (22 : Int) < (nI j).toInt := by rw [nI_toInt (by omega)]; omega
    have e3 : ((nI j).toInt - 0).toNat = j := by rw [nI_toInt (by omega)]; omega
    have sw : ∀ (tgt : Nat) (off : Int), (#[105, 177, 213, 261, 297, 365, 413, 473, 517, 573, 629, 665, 701, 757, 825, 861, 924, 965, 1032, 1112, 1137, 1162, 1218] : Array Int)[j]? = some off → ((39 : Nat) : Int) + off = (tgt : Int) → Ev 8 512 L xs mL_law tgt (lsL i) [] I J z Φ → Ev 8 512 L xs mL_law 39 (lsL i) [.int (nI j)] I J z Φ := fun tgt off ho ht k => Ev.swIn tgt dL_law_39 e1 e2 (by rw [e3]; exact ho) ht k
    match j, c with
    | 0, _ => exact sw 144 105 rfl rfl (lc_setup K h hm hi hL hz)
    | 1, _ => exact sw 216 177 rfl rfl (lc_pass K h hm hi hL hz)
    | 2, _ => exact sw 252 213 rfl rfl (lc_error K h hm hi hL hz)
    | 3, _ => exact sw 300 261 rfl rfl (lc_rule K h hm hi hL hz)
    | 4, _ => exact sw 336 297 rfl rfl (lc_admit K h hm hi hL hz)
    | 5, _ => exact sw 404 365 rfl rfl (lc_plead K h hm hi hL hz)
    | 6, _ => exact sw 452 413 rfl rfl (lc_back K h hm hi hL hz)
    | 7, _ => exact sw 512 473 rfl rfl (lc_split K h hm hi hL hz)
    | 8, _ => exact sw 556 517 rfl rfl (lc_deliver K h hm hi hL hz)
    | 9, _ => exact sw 612 573 rfl rfl (lc_deliverAll K h hm hi hL hz)
    | 10, _ => exact sw 668 629 rfl rfl (lc_lose K h hm hi hL hz)
    | 11, _ => exact sw 704 665 rfl rfl (lc_twice K h hm hi hL hz)
    | 12, _ => exact sw 740 701 rfl rfl (lc_resend K h hm hi hL hz)
    | 13, _ => exact sw 796 757 rfl rfl (lc_letter K h hm hi hL hz)
    | 14, _ => exact sw 864 825 rfl rfl (lc_crash K h hm hi hL hz)
    | 15, _ => exact sw 900 861 rfl rfl (lc_restart K h hm hi hL hz)
    | 16, _ => exact sw 963 924 rfl rfl (lc_desk K h hm hi hL hz)
    | 17, _ => exact sw 1004 965 rfl rfl (lc_about K h hm hi hL hz)
    | 18, _ => exact sw 1071 1032 rfl rfl (lc_has K h hm hi hL hz)
    | 19, _ => exact sw 1151 1112 rfl rfl (lc_there K h hm hi hL hz)
    | 20, _ => exact sw 1176 1137 rfl rfl (lc_used K h hm hi hL hz)
    | 21, _ => exact sw 1201 1162 rfl rfl (lc_busiest K h hm hi hL hz)
    | 22, _ => exact sw 1257 1218 rfl rfl (lc_count K h hm hi hL hz)
    | n + 23, c => exact absurd c (by omega)
  · refine Ev.swOut 1313 dL_law_39 (Or.inr (by rw [nI_toInt (by omega)]; omega)) rfl ?_
    obtain ⟨B, W, E, G, T, C, U, rs, h9⟩ := h
    exact Ev.wid (K I J ⟨B, W, E, G, T, C, U, rs, Rl_m h9 hm⟩)
theorem law_loop (hL0 : 0 < L) (hL : L ≤ 2560) : ∀ (n m z : Nat) (I : T2) (J : T3), L < 5 * m + 5 + 5 * n → z ≤ m → 5 * m ≤ L + 4 → Rel m I J I J → Ev 8 512 L xs mL_law 23 (lsL (5 * m)) [] I J z lOne := by
  have eL : nI L - 5 = iI ((L : Int) - 5) := by rw [iI_nI, show (5 : Int32) = iI 5 from rfl, iI_sub]
  have cmp : ∀ m : Nat, 5 * m ≤ L + 4 → (nI L - 5 < nI (5 * m) ↔ L < 5 * m + 5) := fun m h => by
    rw [eL, iI_nI, iI_lt (by omega) (by omega) (by omega) (by omega)]
    omega
  have fin : ∀ (m z : Nat) (I : T2) (J : T3), z ≤ m → 5 * m ≤ L + 4 → L < 5 * m + 5 → Ev 8 512 L xs mL_law 23 (lsL (5 * m)) [] I J z lOne := by
    intro m z I J hz hm he
    refine BL_law_23 hL0 ?_
    refine IL_law_29 (fun _ => ?_) (fun y => absurd ((cmp m hm).mpr he) y)
    refine BL_law_1319 ?_
    exact RL_law_1320 (Or.inr rfl) (by omega) rfl
  intro n
  induction n with
  | zero =>
    intro m z I J h1 hz hm h
    exact fin m z I J hz hm (by omega)
  | succ n ih =>
    intro m z I J h1 hz hm h
    by_cases he : L < 5 * m + 5
    · exact fin m z I J hz hm he
    · refine BL_law_23 hL0 ?_
      refine IL_law_29 (fun y => absurd ((cmp m hm).mp y) he) (fun _ => ?_)
      refine BL_law_32 (vp_in_nI (by omega) (by omega)) ?_
      obtain ⟨j, j1, j2⟩ := pk_andE (xs (nI (5 * m)).toNatClampNeg) (m := 31) 5 (by decide)
      rw [j2]
      refine law_case (fun I' J' hr => ?_) h (by omega) (by omega) hL (by omega) j1
      refine BL_law_1313 ?_
      rw [nI_5, show 5 * m + 5 = 5 * (m + 1) by omega]
      exact ih (m + 1) (z + 1) I' J' (by omega) (by omega) (by omega) hr
end LOOPL

