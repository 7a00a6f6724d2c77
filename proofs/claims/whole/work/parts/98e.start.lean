/-! the law from its entry to its loop -/
theorem frC_to {B W E G : Nat} {S S' : T2} {JS JS' : T3} (lo : ∀ o, o < 136 → S' o = S o) (jo : ∀ o, o < 136 → JS' o = JS o) (fc : frC B W E G S JS) : frC B W E G S' JS' := by
  obtain ⟨⟨c1, c2, c3, c4, c5, c6, c7, c8⟩, cU, cG, ⟨c9, c10, c11, c12, c13⟩, cW⟩ := fc
  refine ⟨⟨by rw [lo 2 (by decide)]; exact c1, by rw [lo 0 (by decide)]; exact c2, by rw [lo 0 (by decide)]; exact c3, by rw [lo 0 (by decide)]; exact c4, by rw [jo 0 (by decide)]; exact c5, by rw [lo 2 (by decide)]; exact c6, by rw [lo 2 (by decide)]; exact c7, by rw [lo 2 (by decide)]; exact c8⟩, fun σ hσ => ?_, fun x hx => ?_, ⟨by rw [lo 12 (by decide)]; exact c9, by rw [lo 12 (by decide)]; exact c10, by rw [lo 19 (by decide)]; exact c11, by rw [lo 19 (by decide)]; exact c12, by rw [lo 19 (by decide)]; exact c13⟩, fun w hw => by rw [lo 22 (by decide)]; exact cW w hw⟩
  · rw [lo 3 (by decide), lo (4 + 1 + σ) (by omega), lo (8 + 1 + σ) (by omega)]
    exact cU σ hσ
  · have gx := gP_e x
    rw [lo (gP x) (by omega), lo (gP x + 1) (by omega), lo (gP x + 2) (by omega), lo (gP x + 3) (by omega), lo (gP x + 4) (by omega), lo (gP x + 9) (by omega), jo (gP x) (by omega)]
    exact cG x hx
def J3m (J : T3) : T3 := fun q => if q = 158 then fun _ => 0 else J q
theorem kd_no5 : ∀ σ, σ < 3 → kd (8 + 1 + σ) ≠ 5 := by decide +kernel
theorem start_rel {I1 I2 : T2} {J1 J2 : T3} {v : Option Value} (g1 : gbP (bg0 gI0 100 10 2 3) (up3 gJ0 0 10 (2 : Int32).toInt64) (2 : Int32).toInt64 8 I1 J1) (g2 : bgM (I2m I1) (J2m J1) 100 10 2 3 v I2 J2) : Rel 0 I2 (J3m J2) I2 (J3m J2) := by
  have e1 : (100 : Int32) = nI 100 := by decide
  have e2 : (10 : Int32) = nI 10 := by decide
  have e3 : (2 : Int32) = nI 2 := by decide
  have e4 : (3 : Int32) = nI 3 := by decide
  have e5 : (nI 2).toInt64 = lN 2 := by decide
  rw [e1, e2, e3, e4, e5] at g1
  rw [e1, e2, e3, e4] at g2
  have fc : frC 100 10 2 3 I1 J1 := frC_of g1 (fun σ hσ x hx => by
    have h0 : gI0 (8 + 1 + σ) x = 0 := by unfold gI0; rw [if_neg (fun z => kd_no5 σ hσ z.1)]
    rw [h0]
    decide) (fun x hx => by
    obtain ⟨-, -, -, -, k4, -, -, -, -, k9, -⟩ := okg_all x hx
    obtain ⟨-, -, -, -, n4, n9⟩ := nI_lt8 x hx
    have h4 : kd (gP x + 4) = 5 := k4
    have h9 : kd (gP x + 9) = 5 := k9
    refine ⟨?_, ?_⟩
    · unfold gI0; rw [if_pos ⟨h4, rfl⟩]; exact n4
    · unfold gI0; rw [if_pos ⟨h9, rfl⟩]; exact n9)
  obtain ⟨fm, -⟩ := frM_of (by decide) g2
  have lo : ∀ o, o < 136 → I2 o = I1 o := fun o ho => by
    rw [bg_lo g2 ho]
    unfold I2m
    rw [if_pos ho]
  have jo : ∀ o, o < 136 → J3m J2 o = J1 o := fun o ho => by
    unfold J3m
    rw [if_neg (by omega)]
    funext i
    rw [g2.2.2, if_neg (by omega), up3_v, if_neg (by omega)]
    unfold J2m
    rw [if_pos ho]
  have fm2 : frM 100 10 2 3 I2 (J3m J2) := by
    obtain ⟨a1, a2, a3, a4, a5, a6, a7⟩ := fm
    exact ⟨a1, a2, a3, a4, a5, a6, a7⟩
  exact ⟨100, 10, 2, 3, 2, _, _, [], fresh_Rl (by decide) (by decide) (by decide) (by decide) (by decide) (by decide) (by decide) (frC_to lo jo fc) fm2⟩
theorem inst_in {k : Nat} (h : k < 8) : Cond.instantiable (cC k) (cN k) ∈ wAll := by
  rcases (show k = 0 ∨ k = 1 ∨ k = 2 ∨ k = 3 ∨ k = 4 ∨ k = 5 ∨ k = 6 ∨ k = 7 by omega) with rfl | rfl | rfl | rfl | rfl | rfl | rfl | rfl <;> decide +kernel
theorem nest_tab {w : Cond} (h : isNest w = true) : w.onTables = true := by
  unfold isNest at h
  split at h
  · rfl
  · rfl
  · rfl
  · rfl
  · cases h
set_option maxHeartbeats 4000000 in
set_option maxRecDepth 100000 in
theorem KS_start {s : State} {args : Array Value} (hts : ∀ w ∈ lw_tbl, w.before args s = true) (hgv : (Jvm.Cond.and given_1 narrow_1).before args s = true) : ∃ (D : va_G) (cy : Nat → ClassId), KS D cy s.heap.size s s.heap := by
  have hts' : ∀ w ∈ wAll, w.before args s = true := fun w hw => hts w (List.mem_filter.mp hw).1
  have hs := flat_of_before _ hgv
  have kn : ∀ k, ∃ (c : ClassId) (i : Nat → Nat), k < 8 → u_Kn s (cC k) (cT k) (cN k) c i := fun k => by
    by_cases hk : k < 8
    · obtain ⟨c, i, h⟩ := u_known hts' (cT_in hk) (hts' _ (inst_in hk))
      exact ⟨c, i, fun _ => h⟩
    · exact ⟨0, fun _ => 0, fun h => absurd h hk⟩
  obtain ⟨c0, k0, p0, f0, g0, t0⟩ := Cond.arrayClass_spec (hts' _ w_ac0)
  obtain ⟨c1, k1, p1, f1, g1, t1⟩ := Cond.arrayClass_spec (hts' _ w_ac1)
  obtain ⟨c2, k2, p2, f2, g2, t2⟩ := Cond.arrayClass_spec (hts' _ w_ac2)
  obtain ⟨p3, c3, k3, q3, -, g3, t3, f3⟩ := Cond.arrayOver_spec (hts (.arrayOver (.object "QuotaDesk$Gate")) (by decide +kernel))
  obtain ⟨p4, c4, k4, q4, g4, t4, f4⟩ := Cond.arrayOver_specA (hts (.arrayOver (.array .int)) (by decide +kernel))
  refine ⟨(fun k => Classical.choose (kn k), fun k => Classical.choose (Classical.choose_spec (kn k))), fun t => match t with | 0 => c0 | 1 => c1 | 2 => c2 | 3 => c3 | _ => c4, ⟨fun c q hq => ?_, fun k q hk => ?_⟩, fun w hw => va_Nw.of (nest_tab (List.mem_filter.mp hw).2) (hts w (List.mem_filter.mp hw).1), ?_, ?_, fun x hx y hy hne => ?_⟩
  · have hc : c < 8 := (List.getElem?_eq_some_iff.mp hq).1
    have h9 := Classical.choose_spec (Classical.choose_spec (kn c)) hc
    have e9 := Option.some.inj ((cl_at hc).symm.trans hq)
    rw [← e9]
    exact h9
  · match k, hk with
    | 0, hk => cases hk; exact ⟨fun n z => ⟨(fun k h => by cases h), k0, g0, p0, t0⟩, f0⟩
    | 1, hk => cases hk; exact ⟨fun n z => ⟨(fun k h => by cases h), k1, g1, p1, t1⟩, f1⟩
    | 2, hk => cases hk; exact ⟨fun n z => ⟨(fun k h => by cases h), k2, g2, p2, t2⟩, f2⟩
    | 3, hk => cases hk; exact ⟨fun n z => ⟨(fun k h => by cases h), k3, g3, p3, t3⟩, ⟨k3, p3, g3, t3, q3, f3⟩⟩
    | 4, hk => cases hk; exact ⟨fun n z => ⟨(fun k h => by cases h), k4, g4, p4, t4⟩, f4⟩
    | k + 5, hk => cases hk
  · exact vx_Zqof (hts (.laysStatic Bundle.tN "UNASSIGNED_STACK" Bundle.steD) (by decide +kernel)) (hts (.initialized Bundle.tN) (by decide +kernel)) (hs (.isRef (.static Bundle.tN "UNASSIGNED_STACK" Bundle.steD)) (by decide +kernel)) (fun a h1 h2 => absurd h1 (Nat.not_lt.mpr h2))
  · exact vx_Zqof (hts (.laysStatic Bundle.tN "SUPPRESSED_SENTINEL" Bundle.listD) (by decide +kernel)) (hts (.initialized Bundle.tN) (by decide +kernel)) (hs (.isRef (.static Bundle.tN "SUPPRESSED_SENTINEL" Bundle.listD)) (by decide +kernel)) (fun a h1 h2 => absurd h1 (Nat.not_lt.mpr h2))
  · simp only [exL, List.mem_cons, List.not_mem_nil, or_false] at hx hy
    rcases hx with rfl | rfl | rfl | rfl <;> rcases hy with rfl | rfl | rfl | rfl <;> first | exact absurd rfl hne | exact va_Nc.of (hs _ (by decide +kernel))
section G5
variable {p : Program} {l : Launch} {e : Env} {s : State} {m : MethodId} {args : Array Value} {below : List Frame} {meth : Method} {c : Code} {Q : State → Prop}
variable {D : va_G} {cy : Nat → ClassId} {b bs L : Nat} {xs : Nat → Int32} {E : Nat → va_E}
set_option maxHeartbeats 4000000 in
set_option maxRecDepth 100000 in
theorem law_GK (C : Cx l p s m args meth c D cy b bs L xs mL_law) (hAO : va_AO "QuotaDesk$Gate" s) (hAA : gAA s) (htr : l.stackTraces = false)
    (kk : ∀ I J, Rel 0 I J I J → GK p l e room_1 s m args below meth c 159 14498 Q D b bs 8 23 (lsL 0) [] 159 (En b cy I J)) : GK p l e room_1 s m args below meth c 0 0 Q D b bs 8 0 [some (.retAddr 0), none, none, none, none, none, none, none] [] 0 E := by
  refine GK.congr (M := mL_law) (E' := Cn b (gF b cy) E 0 6 (blk 6)) (fun q hq => absurd hq (Nat.not_lt_zero q)) ?_
  refine GK.new (M := mL_law) (i := 8) 6 C (by decide +kernel) (by decide) (by decide +kernel) (by decide +kernel) (by decide +kernel) (by decide) (by decide) Cn_at ?_
  refine GK.dup (M := mL_law) C (by decide +kernel) ?_
  refine GK.callI (M := mL_law) (i := 87) (nA := 0) (rest := [.ref 0]) C hAO hAA (ct_desk htr) (by decide +kernel) (by decide +kernel) (Or.inl (by decide +kernel)) (by decide +kernel) rfl rfl rfl rfl (by decide) rfl ⟨by decide, by decide⟩ ⟨by decide, by decide⟩ ?_
  intro E1 hE1
  obtain ⟨I1, J1, g1, hE1⟩ := hE1
  refine GK.congr (M := mL_law) hE1 ?_
  refine GK.astore (M := mL_law) (k := 1) C (by decide +kernel) rfl (by decide) ?_
  refine GK.congr (M := mL_law) (E' := Cn b (gF b cy) (En b cy I1 J1) 136 7 (blk 7)) (fun q hq => (Cn_lo hq).symm) ?_
  refine GK.new (M := mL_law) (i := 88) 7 C (by decide +kernel) (by decide) (by decide +kernel) (by decide +kernel) (by decide +kernel) (by decide) (by decide) Cn_at ?_
  refine GK.dup (M := mL_law) C (by decide +kernel) ?_
  refine GK.callI (M := mL_law) (i := 90) (nA := 0) (rest := [.ref 136]) C hAO hAA (ct_model htr) (by decide +kernel) (by decide +kernel) (Or.inl (by decide +kernel)) (by decide +kernel) rfl rfl rfl rfl (by decide) rfl ⟨by decide, by decide⟩ ⟨by decide, by decide⟩ ?_
  intro E2 hE2
  obtain ⟨I2, J2, v, g2, hE2⟩ := hE2
  refine GK.congr (M := mL_law) (E' := En b cy I2 (J3m J2)) (fun q hq => ?_) ?_
  · rw [hE2 q hq]
    unfold En J3m
    rw [if_neg (by omega)]
  refine GK.astore (M := mL_law) (k := 2) C (by decide +kernel) rfl (by decide) ?_
  refine GK.iconst (M := mL_law) (i := 1) 1 C (by decide +kernel) (by decide) ?_
  refine GK.newa (M := mL_law) (ty := .long) (N := 1) (t := 1) (a0 := (1, .inr (.inl (fun _ => 0)))) C (at0 := .long) (by decide +kernel) rfl (Or.inr (Or.inl rfl)) rfl (fun cA => by rw [vp_cell_l]; rfl) w_ac1 (by decide) (by decide) (by decide) (by decide) (by decide) ?_ ?_
  · show en b cy 158 (I2 158) (J3m J2 158) = _
    rw [en_9 (by decide +kernel), show ln 158 = 1 by decide +kernel]
    rfl
  refine GK.astore (M := mL_law) (k := 3) C (by decide +kernel) rfl (by decide) ?_
  refine GK.iconst (M := mL_law) (i := 0) 0 C (by decide +kernel) (by decide) ?_
  refine GK.istore (M := mL_law) (i := 4) C (by decide +kernel) rfl (by decide) ?_
  exact kk I2 (J3m J2) (start_rel g1 g2)
end G5
