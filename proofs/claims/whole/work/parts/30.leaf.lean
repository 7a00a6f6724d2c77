/-! leaves: the JDK's, and the static ones -/
def RI (r : Int32) (I : T2) (J : T3) : Option Value → T2 → T3 → Prop := fun v I' J' => v = some (.int r) ∧ I = I' ∧ J = J'
def RJ1 (r : Int64) (I : T2) (J : T3) : Option Value → T2 → T3 → Prop := fun v I' J' => v = some (.long r) ∧ I = I' ∧ J = J'
def RV (I : T2) (J : T3) : Option Value → T2 → T3 → Prop := fun v I' J' => v = none ∧ I = I' ∧ J = J'
theorem Mt.mono {d : Nat} {M : MD} {As : List Value} {I : T2} {J : T3} {Ψ Ψ' : Option Value → T2 → T3 → Prop} (h : Mt d M As I J Ψ) (hΨ : ∀ v I' J', Ψ v I' J' → Ψ' v I' J') : Mt d M As I J Ψ' := by
  intro l D cy b htr p e ha hc hk s m args below hf hap hP hK
  obtain ⟨t, o, h1, h2, h3, ⟨⟨v, I', J', e1, e2, e3, e4⟩, hF⟩, h5⟩ := h l D cy b htr p e ha hc hk s m args below hf hap hP hK
  exact ⟨t, o, h1, h2, h3, ⟨⟨v, I', J', e1, e2, hΨ _ _ _ e3, e4⟩, hF⟩, h5⟩
section LF
variable {d : Nat} {I : T2} {J : T3}
theorem sp_min (x y : Int32) : Mt d mJ9_min_7cf53 [.int x, .int y] I J (RI (if y < x then y else x) I J) := by
  refine Mt.of (by decide +kernel) (Nat.le_of_ble_eq_true rfl) ?_
  refine BJ9_min_7cf53_0 ?_
  refine IJ9_min_7cf53_2 (fun c => ?_) (fun c => ?_)
  · refine BJ9_min_7cf53_9 ?_
    exact RJ9_min_7cf53_10 (Nat.le_refl _) ⟨_, rfl, by rw [if_pos c]; exact ⟨rfl, rfl, rfl⟩⟩
  · refine BJ9_min_7cf53_5 ?_
    exact RJ9_min_7cf53_10 (Nat.le_refl _) ⟨_, rfl, by rw [if_neg c]; exact ⟨rfl, rfl, rfl⟩⟩
theorem sp_max (x y : Int32) : Mt d mJ9_max_7cf53 [.int x, .int y] I J (RI (if x < y then y else x) I J) := by
  refine Mt.of (by decide +kernel) (Nat.le_of_ble_eq_true rfl) ?_
  refine BJ9_max_7cf53_0 ?_
  refine IJ9_max_7cf53_2 (fun c => ?_) (fun c => ?_)
  · refine BJ9_max_7cf53_9 ?_
    exact RJ9_max_7cf53_10 (Nat.le_refl _) ⟨_, rfl, by rw [if_pos c]; exact ⟨rfl, rfl, rfl⟩⟩
  · refine BJ9_max_7cf53_5 ?_
    exact RJ9_max_7cf53_10 (Nat.le_refl _) ⟨_, rfl, by rw [if_neg c]; exact ⟨rfl, rfl, rfl⟩⟩
theorem lg_lt0 (x y : Int64) : lg_cmp x y < 0 ↔ x < y := by
  unfold lg_cmp
  by_cases h1 : x > y
  · rw [if_pos h1]
    exact ⟨fun h => absurd h (by decide), fun h => absurd (Int64.lt_iff_toInt_lt.mp h) (by have := Int64.lt_iff_toInt_lt.mp h1; omega)⟩
  · rw [if_neg h1]
    by_cases h2 : x = y
    · rw [if_pos h2]
      exact ⟨fun h => absurd h (by decide), fun h => absurd (Int64.lt_iff_toInt_lt.mp h) (by rw [h2]; omega)⟩
    · rw [if_neg h2]
      refine ⟨fun _ => ?_, fun _ => by decide⟩
      have h3 : ¬ y < x := h1
      rw [Int64.lt_iff_toInt_lt] at h3 ⊢
      have h4 : x.toInt ≠ y.toInt := fun q => h2 (Int64.toInt_inj.mp q)
      omega
theorem lg_gt0 (x y : Int64) : 0 < lg_cmp x y ↔ y < x := by
  unfold lg_cmp
  by_cases h1 : x > y
  · rw [if_pos h1]
    exact ⟨fun _ => h1, fun _ => by decide⟩
  · rw [if_neg h1]
    by_cases h2 : x = y
    · rw [if_pos h2]
      exact ⟨fun h => absurd h (by decide), fun h => absurd h h1⟩
    · rw [if_neg h2]
      exact ⟨fun h => absurd h (by decide), fun h => absurd h h1⟩
theorem lg_eq0 (x y : Int64) : lg_cmp x y = 0 ↔ x = y := by
  unfold lg_cmp
  by_cases h1 : x > y
  · rw [if_pos h1]
    exact ⟨fun h => absurd h (by decide), fun h => absurd (Int64.lt_iff_toInt_lt.mp h1) (by rw [h]; omega)⟩
  · rw [if_neg h1]
    by_cases h2 : x = y
    · rw [if_pos h2]; exact ⟨fun _ => h2, fun _ => rfl⟩
    · rw [if_neg h2]; exact ⟨fun h => absurd h (by decide), fun h => absurd h h2⟩
theorem sp_maxL (x y : Int64) : Mt d mJ9_max_f86c9 [.long x, .long y] I J (RJ1 (if x < y then y else x) I J) := by
  refine Mt.of (by decide +kernel) (Nat.le_of_ble_eq_true rfl) ?_
  refine BJ9_max_f86c9_0 ?_
  refine IJ9_max_f86c9_3 (fun c => ?_) (fun c => ?_)
  · refine BJ9_max_f86c9_10 ?_
    exact RJ9_max_f86c9_11 (Nat.le_refl _) ⟨_, rfl, by rw [if_pos ((lg_lt0 x y).mp c)]; exact ⟨rfl, rfl, rfl⟩⟩
  · refine BJ9_max_f86c9_6 ?_
    exact RJ9_max_f86c9_11 (Nat.le_refl _) ⟨_, rfl, by rw [if_neg (fun q => c ((lg_lt0 x y).mpr q))]; exact ⟨rfl, rfl, rfl⟩⟩
theorem sp_minL (x y : Int64) : Mt d mJ9_min_f86c9 [.long x, .long y] I J (RJ1 (if y < x then y else x) I J) := by
  refine Mt.of (by decide +kernel) (Nat.le_of_ble_eq_true rfl) ?_
  refine BJ9_min_f86c9_0 ?_
  refine IJ9_min_f86c9_3 (fun c => ?_) (fun c => ?_)
  · refine BJ9_min_f86c9_10 ?_
    exact RJ9_min_f86c9_11 (Nat.le_refl _) ⟨_, rfl, by rw [if_pos ((lg_gt0 x y).mp c)]; exact ⟨rfl, rfl, rfl⟩⟩
  · refine BJ9_min_f86c9_6 ?_
    exact RJ9_min_f86c9_11 (Nat.le_refl _) ⟨_, rfl, by rw [if_neg (fun q => c ((lg_gt0 x y).mpr q))]; exact ⟨rfl, rfl, rfl⟩⟩
/-- floorMod as the JDK has it -/
def fmI (x y : Int32) : Int32 := if 0 ≤ x ^^^ y then x - x / y * y else if x - x / y * y = 0 then x - x / y * y else x - x / y * y + y
theorem sp_fm (x y : Int32) (hy : ¬ y = 0) : Mt d mJ9_floorMod_7cf53 [.int x, .int y] I J (RI (fmI x y) I J) := by
  refine Mt.of (by decide +kernel) (Nat.le_of_ble_eq_true rfl) ?_
  refine BJ9_floorMod_7cf53_0 hy ?_
  refine IJ9_floorMod_7cf53_7 (fun c => ?_) (fun c => ?_)
  · refine BJ9_floorMod_7cf53_18 ?_
    exact RJ9_floorMod_7cf53_19 (Nat.le_refl _) ⟨_, rfl, by simp only [fmI]; rw [if_pos c]; exact ⟨rfl, rfl, rfl⟩⟩
  · refine BJ9_floorMod_7cf53_10 ?_
    refine IJ9_floorMod_7cf53_11 (fun c2 => ?_) (fun c2 => ?_)
    · refine BJ9_floorMod_7cf53_18 ?_
      exact RJ9_floorMod_7cf53_19 (Nat.le_refl _) ⟨_, rfl, by simp only [fmI]; rw [if_neg c, if_pos c2]; exact ⟨rfl, rfl, rfl⟩⟩
    · refine BJ9_floorMod_7cf53_14 ?_
      exact RJ9_floorMod_7cf53_17 (Nat.le_refl _) ⟨_, rfl, by simp only [fmI]; rw [if_neg c, if_neg c2]; exact ⟨rfl, rfl, rfl⟩⟩
theorem ln_le (o : Nat) : ln o ≤ 4800 := by
  unfold ln
  rw [List.getD_eq_getElem?_getD]
  cases h : lnL[o]? with
  | none => exact Nat.zero_le _
  | some n =>
    have h1 : ∀ n ∈ lnL, n ≤ 4800 := by decide +kernel
    exact h1 n (List.mem_of_getElem? h)
/-- a row whose first n places are v -/
def flr (r : Nat → Int32) (n : Nat) (v : Int32) : Nat → Int32 := fun k => if k < n then v else r k
theorem flr_0 (r : Nat → Int32) (v : Int32) : flr r 0 v = r := by
  funext k; exact if_neg (Nat.not_lt_zero k)
theorem flr_s (r : Nat → Int32) (n : Nat) (v : Int32) : upd (flr r n v) n v = flr r (n + 1) v := by
  funext k
  unfold upd flr
  by_cases h : k = n
  · rw [if_pos h, if_pos (by omega)]
  · rw [if_neg h]
    by_cases h2 : k < n
    · rw [if_pos h2, if_pos (by omega)]
    · rw [if_neg h2, if_neg (by omega)]
theorem upr_self (I : T2) (o : Nat) : upr I o (I o) = I := by
  funext a
  unfold upr
  by_cases h : a = o
  · rw [if_pos h, h]
  · rw [if_neg h]
theorem up2_upr (I : T2) (o k : Nat) (r : Nat → Int32) (v : Int32) : up2 (upr I o r) o k v = upr I o (upd r k v) := by
  funext a
  unfold up2 upr
  by_cases h : a = o
  · rw [if_pos h, if_pos h, if_pos h]
  · rw [if_neg h, if_neg h, if_neg h]
theorem sp_fill {a : Nat} (hk : kd a = 8) (v : Int32) : Mt d mJ7_fill_53178 [.ref a, .int v] I J (RV (upr I a (flr (I a) (ln a) v)) J) := by
  refine Mt.of (by decide +kernel) (Nat.le_of_ble_eq_true rfl) ?_
  refine BJ7_fill_53178_0 hk ?_
  have hln := ln_le a
  have key : ∀ n i : Nat, i + n = ln a → Ev d 0 0 (fun _ => 0) mJ7_fill_53178 5 [some (.ref a), some (.int v), some (.int (nI i)), some (.int (nI (ln a)))] [] (upr I a (flr (I a) i v)) J 0 (fun o I' J' _ => ∃ w, o = .inl w ∧ RV (upr I a (flr (I a) (ln a) v)) J w I' J') := by
    intro n
    induction n with
    | zero =>
      intro i hi
      refine BJ7_fill_53178_5 ?_
      refine IJ7_fill_53178_7 (fun c => ?_) (fun c => ?_)
      · have e : i = ln a := by omega
        exact RJ7_fill_53178_20 (Nat.le_refl _) ⟨_, rfl, by rw [e]; exact ⟨rfl, rfl, rfl⟩⟩
      · exact absurd (nI_le (show ln a ≤ i by omega) (by omega)) c
    | succ n ih =>
      intro i hi
      refine BJ7_fill_53178_5 ?_
      refine IJ7_fill_53178_7 (fun c => ?_) (fun c => ?_)
      · exact absurd c (nI_ge (show i < ln a by omega) (by omega))
      · refine BJ7_fill_53178_10 hk (vp_in_nI (by omega) (by omega)) ?_
        rw [nI_1, nI_clamp (by omega), up2_upr, flr_s]
        exact ih (i + 1) (by omega)
  have h0 := key (ln a) 0 (by omega)
  rw [flr_0, upr_self] at h0
  exact h0
end LF
