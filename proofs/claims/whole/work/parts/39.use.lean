/-! sharing out by use, in numbers -/
theorem sF_upd {a b : Nat → Nat} {x : Nat} : ∀ {n : Nat}, x < n → (∀ y, y < n → y ≠ x → a y = b y) → sF a n + b x = sF b n + a x
  | 0, h, _ => absurd h (Nat.not_lt_zero _)
  | n + 1, h, e => by
    show sF a n + a n + b x = sF b n + b n + a x
    by_cases c : x = n
    · subst c
      rw [sF_congr (a := a) (b := b) (n := x) (fun y hy => e y (by omega) (by omega))]
      omega
    · have := sF_upd (a := a) (b := b) (x := x) (n := n) (by omega) (fun y hy hn => e y (by omega) hn)
      rw [e n (by omega) (by omega)]
      omega
def smF (u du g : Nat → Nat) : Nat → Nat := sF (fun y => if g y < du y then u y else 0)
def tkF (u du g : Nat → Nat) (L s y : Nat) : Nat := if g y < du y then min (L * u y / s) (du y - g y) else 0
def paF (u du g : Nat → Nat) (L s : Nat) : Nat → Nat := fun y => g y + tkF u du g L s y
theorem pa_le {u du g : Nat → Nat} {L s y : Nat} (h : g y ≤ du y) : paF u du g L s y ≤ du y := by
  show g y + (if g y < du y then min (L * u y / s) (du y - g y) else 0) ≤ du y
  by_cases c : g y < du y
  · rw [if_pos c]
    have := Nat.min_le_right (L * u y / s) (du y - g y)
    omega
  · rw [if_neg c]; exact h
theorem sm_L (u du g : Nat → Nat) (L n : Nat) : sF (fun y => if g y < du y then L * u y else 0) n = smF u du g n * L := by
  unfold smF
  rw [← sF_mul]
  refine sF_congr fun y _ => ?_
  by_cases c : g y < du y
  · rw [if_pos c, if_pos c, Nat.mul_comm]
  · rw [if_neg c, if_neg c, Nat.zero_mul]
theorem tk_le {u du g : Nat → Nat} {L n : Nat} (h : 0 < smF u du g n) : sF (tkF u du g L (smF u du g n)) n ≤ L := by
  have h1 : sF (fun y => tkF u du g L (smF u du g n) y * smF u du g n) n ≤ sF (fun y => if g y < du y then L * u y else 0) n := sF_le fun y _ => by
    show (if g y < du y then min (L * u y / smF u du g n) (du y - g y) else 0) * smF u du g n ≤ _
    by_cases c : g y < du y
    · rw [if_pos c, if_pos c]
      exact Nat.le_trans (Nat.mul_le_mul_right _ (Nat.min_le_left _ _)) (Nat.div_mul_le_self _ _)
    · rw [if_neg c, if_neg c, Nat.zero_mul]; exact Nat.le_refl _
  rw [sF_mul, sm_L, Nat.mul_comm (smF u du g n) L] at h1
  exact Nat.le_of_mul_le_mul_right h1 h
/-- the first of those not served that have the greatest -/
def rbF (sv : Nat → Bool) (r : Nat → Nat) : Nat → Option Nat
  | 0 => none
  | x + 1 => match rbF sv r x with
    | none => if sv x = false then some x else none
    | some b => if sv x = false ∧ r b < r x then some x else some b
theorem rb_s0 {sv : Nat → Bool} {r : Nat → Nat} {x : Nat} (h : rbF sv r x = none) : rbF sv r (x + 1) = if sv x = false then some x else none := by simp only [rbF, h]
theorem rb_s1 {sv : Nat → Bool} {r : Nat → Nat} {x b : Nat} (h : rbF sv r x = some b) : rbF sv r (x + 1) = if sv x = false ∧ r b < r x then some x else some b := by simp only [rbF, h]
theorem rb_some {sv : Nat → Bool} {r : Nat → Nat} : ∀ {n x : Nat}, rbF sv r n = some x → x < n ∧ sv x = false
  | 0, x, h => by cases h
  | n + 1, x, h => by
    cases e : rbF sv r n with
    | none =>
      rw [rb_s0 e] at h
      by_cases c : sv n = false
      · rw [if_pos c] at h
        cases h
        exact ⟨Nat.lt_succ_self _, c⟩
      · rw [if_neg c] at h
        cases h
    | some b =>
      rw [rb_s1 e] at h
      by_cases c : sv n = false ∧ r b < r n
      · rw [if_pos c] at h
        cases h
        exact ⟨Nat.lt_succ_self _, c.1⟩
      · rw [if_neg c] at h
        cases h
        have := rb_some e
        exact ⟨by omega, this.2⟩
theorem rb_none {sv : Nat → Bool} {r : Nat → Nat} : ∀ {n : Nat}, rbF sv r n = none → ∀ y, y < n → sv y = true
  | 0, _, y, hy => absurd hy (Nat.not_lt_zero _)
  | n + 1, h, y, hy => by
    cases e : rbF sv r n with
    | none =>
      rw [rb_s0 e] at h
      by_cases c : sv n = false
      · rw [if_pos c] at h; cases h
      · by_cases c2 : y = n
        · rw [c2]; exact eq_true_of_ne_false c
        · exact rb_none e y (by omega)
    | some b =>
      rw [rb_s1 e] at h
      by_cases c : sv n = false ∧ r b < r n
      · rw [if_pos c] at h; cases h
      · rw [if_neg c] at h; cases h
theorem rb_all {sv : Nat → Bool} {r : Nat → Nat} {n : Nat} (h : ∀ y, y < n → sv y = true) : rbF sv r n = none := by
  cases e : rbF sv r n with
  | none => rfl
  | some b =>
    have := rb_some e
    rw [h b this.1] at this
    exact absurd this.2 (by decide)
theorem rb_congr {sv sv' : Nat → Bool} {r r' : Nat → Nat} : ∀ {n : Nat}, (∀ y, y < n → sv y = sv' y) → (∀ y, y < n → sv y = false → r y = r' y) → rbF sv r n = rbF sv' r' n
  | 0, _, _ => rfl
  | n + 1, h, hr => by
    have ih := rb_congr (n := n) (fun y hy => h y (by omega)) (fun y hy => hr y (by omega))
    have e1 := h n (by omega)
    cases e : rbF sv r n with
    | none => rw [rb_s0 e, rb_s0 (ih ▸ e), e1]
    | some b =>
      obtain ⟨b1, b2⟩ := rb_some e
      rw [rb_s1 e, rb_s1 (ih ▸ e), ← e1, hr b (by omega) b2]
      by_cases c : sv n = false
      · rw [hr n (by omega) c]
      · rw [if_neg (fun z => c z.1), if_neg (fun z => c z.1)]
theorem rb_ext {sv : Nat → Bool} {r : Nat → Nat} {n : Nat} : ∀ {N : Nat}, n ≤ N → (∀ y, n ≤ y → y < N → sv y = true) → rbF sv r N = rbF sv r n
  | 0, h, _ => by rw [show n = 0 by omega]
  | N + 1, h, h2 => by
    by_cases c : n = N + 1
    · rw [c]
    · have ih := rb_ext (r := r) (N := N) (by omega) (fun y a b => h2 y a (by omega))
      have h3 : ¬ sv N = false := by rw [h2 N (by omega) (by omega)]; decide
      rw [← ih]
      cases e : rbF sv r N with
      | none => rw [rb_s0 e, if_neg h3]
      | some b => rw [rb_s1 e, if_neg (fun z => h3 z.1)]
def upB (sv : Nat → Bool) (x : Nat) : Nat → Bool := fun y => if y = x then true else sv y
theorem upB_s (sv : Nat → Bool) (x : Nat) : upB sv x x = true := if_pos rfl
theorem upB_o (sv : Nat → Bool) {x y : Nat} (h : y ≠ x) : upB sv x y = sv y := if_neg h
def rmF (n : Nat) (r : Nat → Nat) : Nat → (Nat → Nat) → (Nat → Bool) → (Nat → Nat) × Nat
  | 0, g, _ => (g, 0)
  | m + 1, g, sv => match rbF sv r n with
    | none => (g, m + 1)
    | some x => rmF n r m (upN g x (g x + 1)) (upB sv x)
theorem rm_n {n m : Nat} {r g : Nat → Nat} {sv : Nat → Bool} (h : rbF sv r n = none) : rmF n r m g sv = (g, m) := by
  cases m with
  | zero => rfl
  | succ m => unfold rmF; rw [h]
theorem rm_x {n m x : Nat} {r g : Nat → Nat} {sv : Nat → Bool} (h : rbF sv r n = some x) : rmF n r (m + 1) g sv = rmF n r m (upN g x (g x + 1)) (upB sv x) := by
  show (match rbF sv r n with | none => (g, m + 1) | some x => rmF n r m (upN g x (g x + 1)) (upB sv x)) = _
  rw [h]
/-- how many are not served -/
def cuF (sv : Nat → Bool) : Nat → Nat := sF (fun y => if sv y = false then 1 else 0)
theorem cu_x {sv : Nat → Bool} {x n : Nat} (hx : x < n) (h : sv x = false) : cuF (upB sv x) n + 1 = cuF sv n := by
  have := sF_upd (a := fun y => if upB sv x y = false then 1 else 0) (b := fun y => if sv y = false then 1 else 0) hx (fun y _ hn => by rw [upB_o sv hn])
  have e1 : (if upB sv x x = false then 1 else 0) = 0 := by rw [upB_s]; exact if_neg (by decide)
  have e2 : (if sv x = false then 1 else 0) = 1 := if_pos h
  rw [e1, e2] at this
  exact this
theorem rm_all {n : Nat} {r : Nat → Nat} : ∀ {m : Nat} {g : Nat → Nat} {sv : Nat → Bool}, 0 < (rmF n r m g sv).2 → (∀ y, y < n → (rmF n r m g sv).1 y = if sv y = false then g y + 1 else g y) ∧ (rmF n r m g sv).2 + cuF sv n = m
  | 0, g, sv, h => absurd h (Nat.lt_irrefl _)
  | m + 1, g, sv, h => by
    cases e : rbF sv r n with
    | none =>
      rw [rm_n e]
      refine ⟨fun y hy => by rw [if_neg]; rw [rb_none e y hy]; decide, ?_⟩
      have : cuF sv n = sF (fun _ => 0) n := sF_congr fun y hy => by rw [rb_none e y hy]; exact if_neg (by decide)
      rw [this, sF_0]
    | some x =>
      obtain ⟨b1, b2⟩ := rb_some e
      rw [rm_x e] at h ⊢
      obtain ⟨c1, c2⟩ := rm_all h
      have := cu_x b1 b2
      refine ⟨fun y hy => ?_, by omega⟩
      rw [c1 y hy]
      by_cases c : y = x
      · subst c
        rw [upB_s, upN_s, b2, if_neg (by decide), if_pos rfl]
      · rw [upB_o sv c, upN_o _ _ c]
theorem rm_le {n : Nat} {r du : Nat → Nat} : ∀ {m : Nat} {g : Nat → Nat} {sv : Nat → Bool}, (∀ y, y < n → g y ≤ du y) → (∀ y, y < n → sv y = false → g y < du y) → (rmF n r m g sv).2 ≤ m ∧ (∀ y, y < n → g y ≤ (rmF n r m g sv).1 y ∧ (rmF n r m g sv).1 y ≤ du y) ∧ ∀ y, n ≤ y → (rmF n r m g sv).1 y = g y
  | 0, g, sv, h, _ => ⟨Nat.le_refl _, fun y hy => ⟨Nat.le_refl _, h y hy⟩, fun _ _ => rfl⟩
  | m + 1, g, sv, h, h2 => by
    cases e : rbF sv r n with
    | none => rw [rm_n e]; exact ⟨Nat.le_refl _, fun y hy => ⟨Nat.le_refl _, h y hy⟩, fun _ _ => rfl⟩
    | some x =>
      rw [rm_x e]
      obtain ⟨b1, b2⟩ := rb_some e
      have b3 := h2 x b1 b2
      obtain ⟨c1, c2, c3⟩ := rm_le (r := r) (du := du) (m := m) (g := upN g x (g x + 1)) (sv := upB sv x) (fun y hy => by
        by_cases c : y = x
        · rw [c, upN_s]; omega
        · rw [upN_o _ _ c]; exact h y hy) (fun y hy hs => by
        by_cases c : y = x
        · rw [c, upB_s] at hs; exact absurd hs (by decide)
        · rw [upB_o sv c] at hs
          rw [upN_o _ _ c]; exact h2 y hy hs)
      refine ⟨by omega, fun y hy => ⟨Nat.le_trans ?_ (c2 y hy).1, (c2 y hy).2⟩, fun y hy => by rw [c3 y hy, upN_o _ _ (by omega)]⟩
      by_cases c : y = x
      · rw [c, upN_s]; omega
      · rw [upN_o _ _ c]; exact Nat.le_refl _
theorem rm_ext {n N : Nat} {r r' : Nat → Nat} (hn : n ≤ N) : ∀ {m : Nat} {g g' : Nat → Nat} {sv sv' : Nat → Bool}, (∀ y, y < n → g y = g' y) → (∀ y, y < n → sv y = sv' y) → (∀ y, y < n → sv y = false → r y = r' y) → (∀ y, n ≤ y → y < N → sv y = true) → (∀ y, y < n → (rmF N r m g sv).1 y = (rmF n r' m g' sv').1 y) ∧ (rmF N r m g sv).2 = (rmF n r' m g' sv').2
  | 0, g, g', sv, sv', h, _, _, _ => ⟨h, rfl⟩
  | m + 1, g, g', sv, sv', h, hs, hr, h2 => by
    have e1 : rbF sv r N = rbF sv' r' n := by rw [rb_ext hn h2, rb_congr hs hr]
    cases e : rbF sv r N with
    | none => rw [rm_n e, rm_n (by rw [← e1, e])]; exact ⟨h, rfl⟩
    | some x =>
      have e2 : rbF sv' r' n = some x := by rw [← e1, e]
      have hx := (rb_some e2).1
      rw [rm_x e, rm_x e2]
      refine rm_ext hn (fun y hy => ?_) (fun y hy => ?_) (fun y hy hf => ?_) (fun y a b => ?_)
      · by_cases c : y = x
        · rw [c, upN_s, upN_s, h x hx]
        · rw [upN_o _ _ c, upN_o _ _ c, h y hy]
      · by_cases c : y = x
        · rw [c, upB_s, upB_s]
        · rw [upB_o _ c, upB_o _ c, hs y hy]
      · by_cases c : y = x
        · rw [c, upB_s] at hf; exact absurd hf (by decide)
        · rw [upB_o _ c] at hf; exact hr y hy hf
      · rw [upB_o _ (by omega)]; exact h2 y a b
/-- a round by use -/
def rdF (n : Nat) (u du g : Nat → Nat) (L : Nat) : (Nat → Nat) × Nat := rmF n (fun y => L * u y % smF u du g n) (L - sF (tkF u du g L (smF u du g n)) n) (paF u du g L (smF u du g n)) (fun y => !decide (paF u du g L (smF u du g n) y < du y))
theorem sv_f {p : Prop} [Decidable p] : (!decide p) = false ↔ p := by
  by_cases h : p
  · simp [h]
  · simp [h]
theorem rd_le {n : Nat} {u du g : Nat → Nat} {L : Nat} (h : ∀ y, y < n → g y ≤ du y) : (rdF n u du g L).2 ≤ L ∧ (∀ y, y < n → g y ≤ (rdF n u du g L).1 y ∧ (rdF n u du g L).1 y ≤ du y) := by
  obtain ⟨a, b, c⟩ := rm_le (n := n) (r := fun y => L * u y % smF u du g n) (du := du) (m := L - sF (tkF u du g L (smF u du g n)) n) (g := paF u du g L (smF u du g n)) (sv := fun y => !decide (paF u du g L (smF u du g n) y < du y)) (fun y hy => pa_le (h y hy)) (fun y _ hs => sv_f.mp hs)
  exact ⟨Nat.le_trans a (Nat.sub_le _ _), fun y hy => ⟨Nat.le_trans (Nat.le_add_right _ _) (b y hy).1, (b y hy).2⟩⟩
theorem rd_dec {n : Nat} {u du g : Nat → Nat} {L : Nat} (h : ∀ y, y < n → g y ≤ du y) (hs : 0 < smF u du g n) (hL : 0 < (rdF n u du g L).2) : cwF du (rdF n u du g L).1 n < cwF du g n ∧ (rdF n u du g L).2 < L := by
  obtain ⟨a1, a2⟩ := rm_all hL
  have r1 := (rd_le (u := u) (L := L) h).2
  have tl := tk_le (u := u) (du := du) (g := g) (L := L) hs
  have first : cwF du (rdF n u du g L).1 n < cwF du g n := by
    refine Nat.lt_of_not_le fun hc => ?_
    have hp := sF_eq (a := fun y => if (rdF n u du g L).1 y < du y then 1 else 0) (b := fun y => if g y < du y then 1 else 0) (n := n) (fun y hy => by
      have := (r1 y hy).1
      show (if (rdF n u du g L).1 y < du y then 1 else 0) ≤ (if g y < du y then 1 else 0)
      by_cases c : (rdF n u du g L).1 y < du y
      · rw [if_pos c, if_pos (by omega)]; exact Nat.le_refl _
      · rw [if_neg c]; exact Nat.zero_le _) hc
    have hw : ∀ y, y < n → g y < du y → (rdF n u du g L).1 y < du y := fun y hy w => by
      have := hp y hy
      have e : (if (rdF n u du g L).1 y < du y then 1 else 0) = (if g y < du y then 1 else 0) := this
      rw [if_pos w] at e
      by_cases c : (rdF n u du g L).1 y < du y
      · exact c
      · rw [if_neg c] at e; exact absurd e (by decide)
    have hpa : ∀ y, y < n → (paF u du g L (smF u du g n) y < du y ↔ g y < du y) := fun y hy => by
      have e1 : (rdF n u du g L).1 y = if (!decide (paF u du g L (smF u du g n) y < du y)) = false then paF u du g L (smF u du g n) y + 1 else paF u du g L (smF u du g n) y := a1 y hy
      have e0 : g y ≤ paF u du g L (smF u du g n) y := Nat.le_add_right _ _
      refine ⟨fun z => by omega, fun w => ?_⟩
      have := hw y hy w
      rw [e1] at this
      by_cases c : paF u du g L (smF u du g n) y < du y
      · exact c
      · rw [if_neg (fun z => c (sv_f.mp z))] at this; exact this
    have hcu : cuF (fun y => !decide (paF u du g L (smF u du g n) y < du y)) n = cwF du g n := sF_congr fun y hy => by
      by_cases c : g y < du y
      · rw [if_pos c, if_pos (sv_f.mpr ((hpa y hy).mpr c))]
      · rw [if_neg c, if_neg (fun z => c ((hpa y hy).mp (sv_f.mp z)))]
    have htk : ∀ y, y < n → tkF u du g L (smF u du g n) y = if g y < du y then L * u y / smF u du g n else 0 := fun y hy => by
      show (if g y < du y then min (L * u y / smF u du g n) (du y - g y) else 0) = _
      by_cases c : g y < du y
      · rw [if_pos c, if_pos c]
        have h1 := (hpa y hy).mpr c
        have h2 : g y + (if g y < du y then min (L * u y / smF u du g n) (du y - g y) else 0) < du y := h1
        rw [if_pos c] at h2
        by_cases c2 : L * u y / smF u du g n ≤ du y - g y
        · exact Nat.min_eq_left c2
        · rw [Nat.min_eq_right (by omega)] at h2; omega
      · rw [if_neg c, if_neg c]
    have big : smF u du g n * L ≤ sF (fun y => (tkF u du g L (smF u du g n) y + (if g y < du y then 1 else 0)) * smF u du g n) n := by
      rw [← sm_L]
      refine sF_le fun y hy => ?_
      show (if g y < du y then L * u y else 0) ≤ (tkF u du g L (smF u du g n) y + (if g y < du y then 1 else 0)) * smF u du g n
      rw [htk y hy]
      by_cases c : g y < du y
      · rw [if_pos c, if_pos c, if_pos c, Nat.add_mul, Nat.one_mul]
        have h1 := Nat.div_add_mod (L * u y) (smF u du g n)
        have h2 := Nat.mod_lt (L * u y) hs
        rw [Nat.mul_comm] at h1
        omega
      · rw [if_neg c]; exact Nat.zero_le _
    rw [sF_mul, sF_add, Nat.mul_comm] at big
    have big2 := Nat.le_of_mul_le_mul_right big hs
    have big3 : L ≤ sF (tkF u du g L (smF u du g n)) n + cwF du g n := big2
    rw [hcu] at a2
    have a3 : (rdF n u du g L).2 + cwF du g n = L - sF (tkF u du g L (smF u du g n)) n := a2
    omega
  refine ⟨first, ?_⟩
  refine Nat.lt_of_not_le fun hc => ?_
  have a3 : (rdF n u du g L).2 + cuF (fun y => !decide (paF u du g L (smF u du g n) y < du y)) n = L - sF (tkF u du g L (smF u du g n)) n := a2
  have t0 : sF (tkF u du g L (smF u du g n)) n = 0 := by omega
  have c0 : cuF (fun y => !decide (paF u du g L (smF u du g n) y < du y)) n = 0 := by omega
  have g1 : ∀ y, y < n → (rdF n u du g L).1 y = g y := fun y hy => by
    have e1 : (rdF n u du g L).1 y = if (!decide (paF u du g L (smF u du g n) y < du y)) = false then paF u du g L (smF u du g n) y + 1 else paF u du g L (smF u du g n) y := a1 y hy
    have p1 := sF_pos (a := tkF u du g L (smF u du g n)) hy
    have p2 := sF_pos (a := fun y => if (!decide (paF u du g L (smF u du g n) y < du y)) = false then 1 else 0) hy
    have c0' : sF (fun y => if (!decide (paF u du g L (smF u du g n) y < du y)) = false then 1 else 0) n = 0 := c0
    rw [c0'] at p2
    rw [e1]
    by_cases c : (!decide (paF u du g L (smF u du g n) y < du y)) = false
    · have p3 : (if (!decide (paF u du g L (smF u du g n) y < du y)) = false then 1 else 0) ≤ 0 := p2
      rw [if_pos c] at p3; exact absurd p3 (by decide)
    · rw [if_neg c]
      show g y + tkF u du g L (smF u du g n) y = g y
      omega
  have : cwF du (rdF n u du g L).1 n = cwF du g n := sF_congr fun y hy => by rw [g1 y hy]
  omega
theorem rd_eq {n c : Nat} {u du g : Nat → Nat} {L : Nat} (hL : 0 < (rdF n u du g L).2) (hc : ∀ y, y < n → g y < du y → u y = 0 → g y = c) : ∀ y, y < n → (rdF n u du g L).1 y < du y → u y = 0 → (rdF n u du g L).1 y = c + 1 := by
  intro y hy hw hu
  obtain ⟨a1, a2⟩ := rm_all hL
  have e1 : (rdF n u du g L).1 y = if (!decide (paF u du g L (smF u du g n) y < du y)) = false then paF u du g L (smF u du g n) y + 1 else paF u du g L (smF u du g n) y := a1 y hy
  have e2 : paF u du g L (smF u du g n) y = g y := by
    show g y + (if g y < du y then min (L * u y / smF u du g n) (du y - g y) else 0) = g y
    rw [hu, Nat.mul_zero, Nat.zero_div, Nat.zero_min]
    by_cases c3 : g y < du y
    · rw [if_pos c3]; rfl
    · rw [if_neg c3]; rfl
  rw [e2] at e1
  by_cases c2 : g y < du y
  · rw [if_pos (sv_f.mpr c2)] at e1
    rw [e1, hc y hy c2 hu]
  · rw [if_neg (fun z => c2 (sv_f.mp z))] at e1
    rw [e1] at hw
    exact absurd hw c2
def byF (n : Nat) (u du : Nat → Nat) : Nat → (Nat → Nat) → Nat → (Nat → Nat) × Nat
  | 0, g, L => (g, L)
  | k + 1, g, L => if L = 0 ∨ cwF du g n = 0 then (g, L) else if smF u du g n = 0 then eqF n du L g else byF n u du k (rdF n u du g L).1 (rdF n u du g L).2
theorem by_s (n : Nat) (u du : Nat → Nat) (k : Nat) (g : Nat → Nat) (L : Nat) : byF n u du (k + 1) g L = if L = 0 ∨ cwF du g n = 0 then (g, L) else if smF u du g n = 0 then eqF n du L g else byF n u du k (rdF n u du g L).1 (rdF n u du g L).2 := rfl
theorem sm_0 {u du g : Nat → Nat} {n : Nat} (h : smF u du g n = 0) : ∀ y, y < n → g y < du y → u y = 0 := fun y hy c => by
  have := sF_pos (a := fun y => if g y < du y then u y else 0) hy
  rw [if_pos c] at this
  have h' : sF (fun y => if g y < du y then u y else 0) n = 0 := h
  omega
theorem sm_w {u du g : Nat → Nat} {n : Nat} (h : cwF du g n = 0) : smF u du g n = 0 := by
  have : smF u du g n = sF (fun _ => 0) n := sF_congr fun y hy => if_neg (cw_0 h y hy)
  rw [this, sF_0]
theorem sm_ext {u u' du du' g g' : Nat → Nat} {n N : Nat} (hn : n ≤ N) (h : ∀ y, y < n → (g y < du y → u y = u' y) ∧ du y = du' y ∧ g y = g' y) (h2 : ∀ y, n ≤ y → y < N → ¬ g y < du y) : smF u du g N = smF u' du' g' n := by
  have e1 : smF u du g n = smF u' du' g' n := sF_congr fun y hy => by
    rw [← (h y hy).2.1, ← (h y hy).2.2]
    by_cases c : g y < du y
    · rw [if_pos c, if_pos c, (h y hy).1 c]
    · rw [if_neg c, if_neg c]
  rw [← e1]
  clear e1 h
  induction hn with
  | refl => rfl
  | step hm ih =>
    rename_i m
    show smF u du g m + (if g m < du m then u m else 0) = _
    rw [if_neg (h2 m hm (by omega)), Nat.add_zero]
    exact ih (fun y a b => h2 y a (by omega))
theorem cw_ext {du du' g g' : Nat → Nat} {n N : Nat} (hn : n ≤ N) (h : ∀ y, y < n → du y = du' y ∧ g y = g' y) (h2 : ∀ y, n ≤ y → y < N → ¬ g y < du y) : cwF du g N = cwF du' g' n := sm_ext (u := fun _ => 1) (u' := fun _ => 1) hn (fun y hy => ⟨fun _ => rfl, h y hy⟩) h2
theorem rd_ext {n N : Nat} {u u' du du' g g' : Nat → Nat} {L : Nat} (hn : n ≤ N) (h : ∀ y, y < n → (g y < du y → u y = u' y) ∧ du y = du' y ∧ g y = g' y) (h2 : ∀ y, n ≤ y → y < N → ¬ g y < du y) : (∀ y, y < n → (rdF N u du g L).1 y = (rdF n u' du' g' L).1 y) ∧ (rdF N u du g L).2 = (rdF n u' du' g' L).2 := by
  have e1 := sm_ext hn h h2
  have e2 : ∀ y, y < n → tkF u du g L (smF u du g N) y = tkF u' du' g' L (smF u' du' g' n) y := fun y hy => by
    obtain ⟨a, b, c⟩ := h y hy
    unfold tkF
    rw [e1, ← b, ← c]
    by_cases w : g y < du y
    · rw [if_pos w, if_pos w, a w]
    · rw [if_neg w, if_neg w]
  have e4 : ∀ y, n ≤ y → y < N → tkF u du g L (smF u du g N) y = 0 := fun y a b => if_neg (h2 y a b)
  have e3 : sF (tkF u du g L (smF u du g N)) N = sF (tkF u' du' g' L (smF u' du' g' n)) n := by
    rw [← sF_congr e2]
    clear e2 h
    have : ∀ M, n ≤ M → M ≤ N → sF (tkF u du g L (smF u du g N)) M = sF (tkF u du g L (smF u du g N)) n := fun M hM hN => by
      induction hM with
      | refl => rfl
      | step hm ih =>
        rename_i m
        show sF (tkF u du g L (smF u du g N)) m + tkF u du g L (smF u du g N) m = _
        rw [ih (by omega), e4 m hm (by omega), Nat.add_zero]
    exact this N hn (Nat.le_refl _)
  have e5 : ∀ y, y < n → paF u du g L (smF u du g N) y = paF u' du' g' L (smF u' du' g' n) y := fun y hy => by
    show g y + tkF u du g L (smF u du g N) y = g' y + tkF u' du' g' L (smF u' du' g' n) y
    rw [e2 y hy, (h y hy).2.2]
  unfold rdF
  rw [e3]
  refine rm_ext hn e5 (fun y hy => by rw [e5 y hy, (h y hy).2.1]) (fun y hy hf => by
    have z : paF u du g L (smF u du g N) y < du y := sv_f.mp hf
    have z2 : g y ≤ paF u du g L (smF u du g N) y := Nat.le_add_right _ _
    rw [e1, (h y hy).1 (by omega)]) (fun y a b => ?_)
  show (!decide (paF u du g L (smF u du g N) y < du y)) = true
  have : ¬ paF u du g L (smF u du g N) y < du y := by
    show ¬ g y + tkF u du g L (smF u du g N) y < du y
    rw [e4 y a b]
    exact h2 y a b
  simp [this]
theorem rd_out {n N : Nat} {u du g : Nat → Nat} {L : Nat} (h : ∀ y, y < N → g y ≤ du y) (h2 : ∀ y, n ≤ y → y < N → ¬ g y < du y) : ∀ y, n ≤ y → y < N → ¬ (rdF N u du g L).1 y < du y := fun y a b => by
  have := ((rd_le (u := u) (L := L) h).2 y b).1
  have := h2 y a b
  omega
theorem by_ext {n N : Nat} {u u' du du' : Nat → Nat} (hn : n ≤ N) (hd : ∀ y, y < n → (0 < du y → u y = u' y) ∧ du y = du' y) : ∀ {k L : Nat} {g g' : Nat → Nat}, (∀ y, y < n → g y = g' y) → (∀ y, y < N → g y ≤ du y) → (∀ y, n ≤ y → y < N → ¬ g y < du y) → (∀ y, y < n → (byF N u du k g L).1 y = (byF n u' du' k g' L).1 y) ∧ (byF N u du k g L).2 = (byF n u' du' k g' L).2
  | 0, L, g, g', h, _, _ => ⟨h, rfl⟩
  | k + 1, L, g, g', h, h1, h2 => by
    have hh : ∀ y, y < n → (g y < du y → u y = u' y) ∧ du y = du' y ∧ g y = g' y := fun y hy => ⟨fun z => (hd y hy).1 (by omega), (hd y hy).2, h y hy⟩
    rw [by_s, by_s, cw_ext hn (fun y hy => (hh y hy).2) h2, sm_ext hn hh h2]
    by_cases c : L = 0 ∨ cwF du' g' n = 0
    · rw [if_pos c, if_pos c]; exact ⟨h, rfl⟩
    · rw [if_neg c, if_neg c]
      by_cases c2 : smF u' du' g' n = 0
      · rw [if_pos c2, if_pos c2]
        exact eq_ext hn (fun y hy => (hd y hy).2) h h2
      · rw [if_neg c2, if_neg c2]
        obtain ⟨r1, r2⟩ := rd_ext (L := L) hn hh h2
        rw [← r2]
        exact by_ext hn hd r1 (fun y hy => ((rd_le (u := u) (L := L) h1).2 y hy).2) (rd_out h1 h2)
theorem by_le {n : Nat} {u du : Nat → Nat} : ∀ {k L : Nat} {g : Nat → Nat}, (∀ y, y < n → g y ≤ du y) → (byF n u du k g L).2 ≤ L ∧ (∀ y, y < n → (byF n u du k g L).1 y ≤ du y)
  | 0, L, g, h => ⟨Nat.le_refl _, h⟩
  | k + 1, L, g, h => by
    rw [by_s]
    by_cases c : L = 0 ∨ cwF du g n = 0
    · rw [if_pos c]; exact ⟨Nat.le_refl _, h⟩
    · rw [if_neg c]
      by_cases c2 : smF u du g n = 0
      · rw [if_pos c2]
        have := eq_le (m := L) h
        exact ⟨this.1, this.2.1⟩
      · rw [if_neg c2]
        have r := rd_le (u := u) (L := L) h
        have := by_le (u := u) (k := k) (L := (rdF n u du g L).2) (g := (rdF n u du g L).1) (fun y hy => (r.2 y hy).2)
        exact ⟨Nat.le_trans this.1 r.1, this.2⟩

