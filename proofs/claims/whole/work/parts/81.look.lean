/-! looking at the clock -/
section LOOK
variable {A A' I I' : T2}
theorem iL_32 (e : Int32) : e.toInt64 = iL e.toInt := Int64.toInt_inj.mp (by
  have h1 := Int32.le_toInt e
  have h2 := Int32.toInt_lt e
  rw [Int32.toInt_toInt64, iL_toInt (by omega) (by omega)])
def ckN (c T : Nat) (e : Int) : Nat := max c ((T : Int) + e).toNat
theorem ck_eq {c T : Nat} {e : Int32} (h0 : 0 ≤ (T : Int) + e.toInt) (hc : c < 2 ^ 31) (hT : T < 2 ^ 31) : (if lN c < lN T + e.toInt64 then lN T + e.toInt64 else lN c) = lN (ckN c T e.toInt) := by
  have h2 := Int32.toInt_lt e
  obtain ⟨k, hk⟩ := Int.eq_ofNat_of_zero_le h0
  have e1 : lN T + e.toInt64 = lN k := by rw [iL_32, iL_lN, iL_lN, iL_add, hk]
  have ek : ((T : Int) + e.toInt).toNat = k := by rw [hk]; rfl
  have hk2 : k < 2 ^ 33 := by omega
  unfold ckN
  rw [e1, ek]
  by_cases c1 : c < k
  · rw [if_pos ((pk_lLT (by omega) (by omega)).mpr c1), Nat.max_eq_right (by omega)]
  · rw [if_neg (fun z => c1 ((pk_lLT (by omega) (by omega)).mp z)), Nat.max_eq_left (by omega)]
theorem dv_eq {c W : Nat} (hW : 2 ≤ W) (hW2 : W ≤ 10000) (hc : c < 2 ^ 31) : (lN c / (nI W).toInt64).toInt32 = nI (c / W) := by
  rw [nI_l (by omega), pk_lDiv (by omega) (by omega) (by omega), lN_i]
theorem wn_eq {c W : Nat} (hW : 2 ≤ W) (hW2 : W ≤ 10000) (hc : c < 2 ^ 31) : wnI (lN c) (nI W) = nI (c / W) := by
  unfold wnI
  rw [if_pos (show (2 : Int32) ≤ nI W from nI_le (a := 2) hW (by omega)), dv_eq hW hW2 hc]
theorem dp_v {a wd nx b z : Nat} (hb : b = 1 ∨ b = 2 ∨ b = 3) (hz : z < 3) : ∀ k, k ≤ 3 → dpC I a wd nx k (a + b) (sl3 nx z) = if z < k ∧ wd + 2 < nx + z then 0 else I (a + b) (sl3 nx z)
  | 0, _ => by rw [if_neg (by omega)]; rfl
  | k + 1, hk => by
    have ih := dp_v (a := a) (wd := wd) (nx := nx) hb hz k (by omega)
    show (if wd + 2 < nx + k then up2 (up2 (up2 (dpC I a wd nx k) (a + 1) ((nx + k - 1) % 3) 0) (a + 2) ((nx + k - 1) % 3) 0) (a + 3) ((nx + k - 1) % 3) 0 else dpC I a wd nx k) (a + b) (sl3 nx z) = _
    by_cases c : wd + 2 < nx + k
    · rw [if_pos c, up2_v, up2_v, up2_v, ih]
      by_cases c2 : z = k
      · subst c2
        have e : sl3 nx z = (nx + z - 1) % 3 := by unfold sl3; omega
        rw [e, if_pos (show z < z + 1 ∧ wd + 2 < nx + z from ⟨by omega, c⟩)]
        rcases hb with rfl | rfl | rfl
        · rw [if_neg (by omega), if_neg (by omega), if_pos ⟨rfl, rfl⟩]
        · rw [if_neg (by omega), if_pos ⟨rfl, rfl⟩]
        · rw [if_pos ⟨rfl, rfl⟩]
      · have e : ¬ sl3 nx z = (nx + k - 1) % 3 := by unfold sl3; omega
        rw [if_neg (fun y => e y.2), if_neg (fun y => e y.2), if_neg (fun y => e y.2)]
        by_cases c3 : z < k ∧ wd + 2 < nx + z
        · rw [if_pos c3, if_pos (by omega)]
        · rw [if_neg c3, if_neg (by omega)]
    · rw [if_neg c, ih]
      by_cases c3 : z < k ∧ wd + 2 < nx + z
      · rw [if_pos c3, if_pos (by omega)]
      · rw [if_neg c3, if_neg (by omega)]
theorem lk_v {I0 : T2} {J0 : T3} {a wd nx b z : Nat} {t : Int64} {w : Int32} (h7 : I0 a 7 = nI wd) (hwd : wd < 2 ^ 31) (hn : wnI (ckC J0 I0 a t) w = nI nx) (hnx : nx < 2 ^ 31) (hb : b = 1 ∨ b = 2 ∨ b = 3) (hz : z < 3) : lkI I0 J0 t w a (a + b) (sl3 nx z) = if wd + 2 < nx + z then 0 else I0 (a + b) (sl3 nx z) := by
  unfold lkI
  rw [up2_ne _ _ _ (by omega), h7, hn, nI_clamp hwd, nI_clamp hnx, dp_v hb hz 3 (Nat.le_refl _)]
  by_cases c : wd + 2 < nx + z
  · rw [if_pos ⟨hz, c⟩, if_pos c]
  · rw [if_neg (fun y => c y.2), if_neg c]
theorem lk_0 {I0 : T2} {J0 : T3} {a i : Nat} {t : Int64} {w : Int32} (hi : i ≠ 7) : lkI I0 J0 t w a a i = I0 a i := by
  unfold lkI
  rw [up2_k _ _ _ hi, dpC_o _ _ _ _ (by omega) (by omega) (by omega)]
theorem lk_7 {I0 : T2} {J0 : T3} {a : Nat} {t : Int64} {w : Int32} : lkI I0 J0 t w a a 7 = wnI (ckC J0 I0 a t) w := by
  unfold lkI
  rw [up2_s]
/-- the kept windows when the window has turned from wd to nx -/
theorem lk_gK {x wd nx : Nat} (hK : gK wd x A I) (hle : wd ≤ nx) (hI : ∀ b z, b = 1 ∨ b = 2 ∨ b = 3 → z < 3 → I' (gP x + b) (sl3 nx z) = if wd + 2 < nx + z then 0 else I (gP x + b) (sl3 nx z)) (hA : ∀ o k, o = 144 ∨ o = 145 ∨ o = 146 → k < 3 → A' o (3 * x + k) = if k + (nx - wd) < 3 then A o (3 * x + k + (nx - wd)) else 0) : gK nx x A' I' := by
  intro k hk
  rw [hI 1 k (Or.inl rfl) hk, hI 2 k (Or.inr (Or.inl rfl)) hk, hI 3 k (Or.inr (Or.inr rfl)) hk, hA 144 k (Or.inl rfl) hk, hA 145 k (Or.inr (Or.inl rfl)) hk, hA 146 k (Or.inr (Or.inr rfl)) hk]
  by_cases c : k + (nx - wd) < 3
  · have e : sl3 nx k = sl3 wd (k + (nx - wd)) := by unfold sl3; omega
    obtain ⟨⟨f1, f2, f3⟩, h, p, t, ⟨f4, f5, f6⟩, f7, f8, f9, f10⟩ := hK (k + (nx - wd)) c
    rw [if_pos c, if_pos c, if_pos c, if_neg (by omega), if_neg (by omega), if_neg (by omega), e, show 3 * x + k + (nx - wd) = 3 * x + (k + (nx - wd)) from Nat.add_assoc _ _ _]
    exact ⟨⟨f1, f2, f3⟩, h, p, t, ⟨f4, f5, f6⟩, f7, f8, f9, fun z => f10 (by omega)⟩
  · rw [if_neg c, if_neg c, if_neg c, if_pos (by omega), if_pos (by omega), if_pos (by omega)]
    exact ⟨⟨rfl, rfl, rfl⟩, 0, 0, 0, ⟨rfl, rfl, rfl⟩, Nat.le_refl _, Nat.le_refl _, by decide, fun _ => rfl⟩
theorem lk_hS {x q o : Nat} (hA : ∀ k, k < 3 → A' o (3 * x + k) = if k + q < 3 then A o (3 * x + k + q) else 0) : hS A' o x ≤ hS A o x := by
  have h0 := hA 0 (by decide)
  have h1 := hA 1 (by decide)
  have h2 := hA 2 (by decide)
  rw [Nat.add_zero] at h0
  have z0 : (0 : Int32).toNatClampNeg = 0 := by decide
  unfold hS
  rw [h0, h1, h2]
  match q with
  | 0 => rw [if_pos (by decide), if_pos (by decide), if_pos (by decide)]; exact Nat.le_refl _
  | 1 => rw [if_pos (by decide), if_pos (by decide), if_neg (by decide), z0]; show _ + (A o (3 * x + 2)).toNatClampNeg + 0 ≤ _; omega
  | 2 => rw [if_pos (by decide), if_neg (by decide), if_neg (by decide), z0]; omega
  | q + 3 => rw [if_neg (by omega), if_neg (by omega), if_neg (by omega), z0]; omega
end LOOK

