/-! sharing out, in numbers -/
def upN (g : Nat → Nat) (x v : Nat) : Nat → Nat := fun y => if y = x then v else g y
theorem upN_s (g : Nat → Nat) (x v : Nat) : upN g x v x = v := if_pos rfl
theorem upN_o (g : Nat → Nat) {x y : Nat} (v : Nat) (h : y ≠ x) : upN g x v y = g y := if_neg h
def sF (f : Nat → Nat) : Nat → Nat
  | 0 => 0
  | x + 1 => sF f x + f x
theorem sF_le {a b : Nat → Nat} : ∀ {n : Nat}, (∀ y, y < n → a y ≤ b y) → sF a n ≤ sF b n
  | 0, _ => Nat.le_refl _
  | n + 1, h => Nat.add_le_add (sF_le fun y hy => h y (by omega)) (h n (by omega))
theorem sF_congr {a b : Nat → Nat} : ∀ {n : Nat}, (∀ y, y < n → a y = b y) → sF a n = sF b n
  | 0, _ => rfl
  | n + 1, h => by
    show sF a n + a n = sF b n + b n
    rw [sF_congr fun y hy => h y (by omega), h n (by omega)]
theorem sF_eq {a b : Nat → Nat} : ∀ {n : Nat}, (∀ y, y < n → a y ≤ b y) → sF b n ≤ sF a n → ∀ y, y < n → a y = b y
  | 0, _, _, y, hy => absurd hy (Nat.not_lt_zero _)
  | n + 1, h, e, y, hy => by
    have h1 : sF a n ≤ sF b n := sF_le fun y hy => h y (by omega)
    have h2 := h n (by omega)
    have e' : sF b n + b n ≤ sF a n + a n := e
    by_cases c : y = n
    · rw [c]; omega
    · exact sF_eq (n := n) (fun y hy => h y (by omega)) (by omega) y (by omega)
theorem sF_mul (a : Nat → Nat) (c : Nat) : ∀ n : Nat, sF (fun y => a y * c) n = sF a n * c
  | 0 => (Nat.zero_mul _).symm
  | n + 1 => by
    show sF (fun y => a y * c) n + a n * c = (sF a n + a n) * c
    rw [sF_mul a c n, Nat.add_mul]
theorem sF_add (a b : Nat → Nat) : ∀ n : Nat, sF (fun y => a y + b y) n = sF a n + sF b n
  | 0 => rfl
  | n + 1 => by
    show sF (fun y => a y + b y) n + (a n + b n) = (sF a n + a n) + (sF b n + b n)
    rw [sF_add a b n]
    omega
theorem sF_0 : ∀ n : Nat, sF (fun _ => 0) n = 0
  | 0 => rfl
  | n + 1 => by
    show sF (fun _ => 0) n + 0 = 0
    rw [sF_0 n]
theorem sF_mono {a : Nat → Nat} {m n : Nat} (h : m ≤ n) : sF a m ≤ sF a n := by
  induction h with
  | refl => exact Nat.le_refl _
  | step _ ih => exact Nat.le_trans ih (Nat.le_add_right _ _)
theorem sF_pos {a : Nat → Nat} {y : Nat} : ∀ {n : Nat}, y < n → a y ≤ sF a n
  | 0, h => absurd h (Nat.not_lt_zero _)
  | n + 1, h => by
    show a y ≤ sF a n + a n
    by_cases c : y = n
    · rw [c]; omega
    · have := sF_pos (a := a) (n := n) (y := y) (by omega); omega
/-- those below x that want more -/
def cwF (du g : Nat → Nat) : Nat → Nat := sF (fun y => if g y < du y then 1 else 0)
theorem cw_le (du g : Nat → Nat) (n : Nat) : cwF du g n ≤ n := by
  have h : cwF du g n ≤ sF (fun _ => 1) n := sF_le fun y _ => by
    by_cases c : g y < du y
    · rw [if_pos c]; exact Nat.le_refl _
    · rw [if_neg c]; exact Nat.zero_le _
  have h2 : ∀ n, sF (fun _ => 1) n = n := fun n => by
    induction n with
    | zero => rfl
    | succ n ih => show sF (fun _ => 1) n + 1 = _; rw [ih]
  rw [h2] at h
  exact h
theorem cw_y {du g : Nat → Nat} {x : Nat} (h : g x < du x) : cwF du g (x + 1) = cwF du g x + 1 := by
  show cwF du g x + (if g x < du x then 1 else 0) = _
  rw [if_pos h]
theorem cw_n {du g : Nat → Nat} {x : Nat} (h : ¬ g x < du x) : cwF du g (x + 1) = cwF du g x := by
  show cwF du g x + (if g x < du x then 1 else 0) = _
  rw [if_neg h]
  rfl
theorem cw_0 {du g : Nat → Nat} {n : Nat} (h : cwF du g n = 0) : ∀ y, y < n → ¬ g y < du y := fun y hy c => by
  have := sF_pos (a := fun y => if g y < du y then 1 else 0) hy
  rw [if_pos c] at this
  have h' : sF (fun y => if g y < du y then 1 else 0) n = 0 := h
  omega
theorem cw_z {du g : Nat → Nat} {n : Nat} (h : ∀ y, y < n → ¬ g y < du y) : cwF du g n = 0 := by
  have : cwF du g n = sF (fun _ => 0) n := sF_congr fun y hy => if_neg (h y hy)
  rw [this, sF_0]
/-- the first of those that have least -/
def bsF (du g : Nat → Nat) : Nat → Option Nat
  | 0 => none
  | x + 1 => match bsF du g x with
    | none => if g x < du x then some x else none
    | some b => if g x < du x ∧ g x < g b then some x else some b
theorem bs_s0 {du g : Nat → Nat} {x : Nat} (h : bsF du g x = none) : bsF du g (x + 1) = if g x < du x then some x else none := by simp only [bsF, h]
theorem bs_s1 {du g : Nat → Nat} {x b : Nat} (h : bsF du g x = some b) : bsF du g (x + 1) = if g x < du x ∧ g x < g b then some x else some b := by simp only [bsF, h]
theorem bs_some {du g : Nat → Nat} : ∀ {n x : Nat}, bsF du g n = some x → x < n ∧ g x < du x
  | 0, x, h => by cases h
  | n + 1, x, h => by
    unfold bsF at h
    cases e : bsF du g n with
    | none =>
      rw [e] at h
      by_cases c : g n < du n
      · have h' : (if g n < du n then some n else none) = some x := h
        rw [if_pos c] at h'
        cases h'
        exact ⟨Nat.lt_succ_self _, c⟩
      · have h' : (if g n < du n then some n else none) = some x := h
        rw [if_neg c] at h'
        cases h'
    | some b =>
      rw [e] at h
      have h' : (if g n < du n ∧ g n < g b then some n else some b) = some x := h
      by_cases c : g n < du n ∧ g n < g b
      · rw [if_pos c] at h'
        cases h'
        exact ⟨Nat.lt_succ_self _, c.1⟩
      · rw [if_neg c] at h'
        cases h'
        have := bs_some e
        exact ⟨by omega, this.2⟩
theorem bs_none {du g : Nat → Nat} : ∀ {n : Nat}, bsF du g n = none → ∀ y, y < n → ¬ g y < du y
  | 0, _, y, hy => absurd hy (Nat.not_lt_zero _)
  | n + 1, h, y, hy => by
    unfold bsF at h
    cases e : bsF du g n with
    | none =>
      rw [e] at h
      have h' : (if g n < du n then some n else none) = none := h
      by_cases c : g n < du n
      · rw [if_pos c] at h'; cases h'
      · by_cases c2 : y = n
        · rw [c2]; exact c
        · exact bs_none e y (by omega)
    | some b =>
      rw [e] at h
      have h' : (if g n < du n ∧ g n < g b then some n else some b) = none := h
      by_cases c : g n < du n ∧ g n < g b
      · rw [if_pos c] at h'; cases h'
      · rw [if_neg c] at h'; cases h'
theorem bs_is {du g : Nat → Nat} {x : Nat} (hx : g x < du x) (h1 : ∀ y, y < x → g y < du y → g x < g y) : ∀ {n : Nat}, x < n → (∀ y, x < y → y < n → g y < du y → g x ≤ g y) → bsF du g n = some x
  | 0, h, _ => absurd h (Nat.not_lt_zero _)
  | n + 1, h, h2 => by
    unfold bsF
    by_cases c : x = n
    · subst c
      cases e : bsF du g x with
      | none => exact if_pos hx
      | some b =>
        have := bs_some e
        exact if_pos ⟨hx, h1 b this.1 this.2⟩
    · rw [bs_is hx h1 (n := n) (by omega) (fun y a b => h2 y a (by omega))]
      exact if_neg fun z => by
        have := h2 n (by omega) (by omega) z.1
        omega
theorem bs_congr {du g du' g' : Nat → Nat} : ∀ {n : Nat}, (∀ y, y < n → du y = du' y ∧ g y = g' y) → bsF du g n = bsF du' g' n
  | 0, _ => rfl
  | n + 1, h => by
    have ih := bs_congr (n := n) (fun y hy => h y (by omega))
    obtain ⟨e1, e2⟩ := h n (by omega)
    unfold bsF
    rw [← ih, ← e1, ← e2]
    cases e : bsF du g n with
    | none => rfl
    | some b =>
      show (if g n < du n ∧ g n < g b then some n else some b) = (if g n < du n ∧ g n < g' b then some n else some b)
      rw [(h b (by have := (bs_some e).1; omega)).2]
theorem bs_ext {du g : Nat → Nat} {n : Nat} : ∀ {N : Nat}, n ≤ N → (∀ y, n ≤ y → y < N → ¬ g y < du y) → bsF du g N = bsF du g n
  | 0, h, _ => by rw [show n = 0 by omega]
  | N + 1, h, h2 => by
    by_cases c : n = N + 1
    · rw [c]
    · have ih := bs_ext (N := N) (by omega) (fun y a b => h2 y a (by omega))
      have h3 := h2 N (by omega) (by omega)
      rw [← ih]
      cases e : bsF du g N with
      | none => rw [bs_s0 e, if_neg h3]
      | some b => rw [bs_s1 e, if_neg (fun z => h3 z.1)]
/-- m units, one after another; what is left -/
def eqF (n : Nat) (du : Nat → Nat) : Nat → (Nat → Nat) → (Nat → Nat) × Nat
  | 0, g => (g, 0)
  | m + 1, g => match bsF du g n with
    | none => (g, m + 1)
    | some x => eqF n du m (upN g x (g x + 1))
theorem eq_n {n m : Nat} {du g : Nat → Nat} (h : bsF du g n = none) : eqF n du m g = (g, m) := by
  cases m with
  | zero => rfl
  | succ m => unfold eqF; rw [h]
theorem eq_x {n m x : Nat} {du g : Nat → Nat} (h : bsF du g n = some x) : eqF n du (m + 1) g = eqF n du m (upN g x (g x + 1)) := by
  show (match bsF du g n with | none => (g, m + 1) | some x => eqF n du m (upN g x (g x + 1))) = _
  rw [h]
theorem eq_w {n m : Nat} {du g : Nat → Nat} (h : cwF du g n = 0) : eqF n du m g = (g, m) := by
  refine eq_n ?_
  cases e : bsF du g n with
  | none => rfl
  | some b => exact absurd (bs_some e).2 (cw_0 h b (bs_some e).1)
theorem eq_add {n : Nat} {du : Nat → Nat} : ∀ {a b : Nat} {g : Nat → Nat}, (eqF n du a g).2 = 0 → eqF n du (a + b) g = eqF n du b (eqF n du a g).1
  | 0, b, g, _ => by rw [Nat.zero_add]; rfl
  | a + 1, b, g, h => by
    cases e : bsF du g n with
    | none =>
      rw [eq_n e] at h
      cases h
    | some x =>
      rw [eq_x e] at h
      rw [show a + 1 + b = (a + b) + 1 by omega, eq_x e, eq_x e]
      exact eq_add h
theorem eq_stop {n : Nat} {du : Nat → Nat} : ∀ {m : Nat} {g : Nat → Nat}, 0 < (eqF n du m g).2 → cwF du (eqF n du m g).1 n = 0
  | 0, g, h => absurd h (Nat.lt_irrefl _)
  | m + 1, g, h => by
    cases e : bsF du g n with
    | none => rw [eq_n e]; exact cw_z (bs_none e)
    | some x =>
      rw [eq_x e] at h ⊢
      exact eq_stop h
theorem eq_le {n : Nat} {du : Nat → Nat} : ∀ {m : Nat} {g : Nat → Nat}, (∀ y, y < n → g y ≤ du y) → (eqF n du m g).2 ≤ m ∧ (∀ y, y < n → (eqF n du m g).1 y ≤ du y) ∧ ∀ y, n ≤ y → (eqF n du m g).1 y = g y
  | 0, g, h => ⟨Nat.le_refl _, h, fun _ _ => rfl⟩
  | m + 1, g, h => by
    cases e : bsF du g n with
    | none => rw [eq_n e]; exact ⟨Nat.le_refl _, h, fun _ _ => rfl⟩
    | some x =>
      rw [eq_x e]
      obtain ⟨b1, b2⟩ := bs_some e
      have h' : ∀ y, y < n → upN g x (g x + 1) y ≤ du y := fun y hy => by
        by_cases c : y = x
        · rw [c, upN_s]; omega
        · rw [upN_o _ _ c]; exact h y hy
      obtain ⟨c1, c2, c3⟩ := eq_le (m := m) h'
      exact ⟨by omega, c2, fun y hy => by rw [c3 y hy, upN_o _ _ (by omega)]⟩
theorem eq_ext {n N : Nat} {du du' : Nat → Nat} (hn : n ≤ N) (hd : ∀ y, y < n → du y = du' y) : ∀ {m : Nat} {g g' : Nat → Nat}, (∀ y, y < n → g y = g' y) → (∀ y, n ≤ y → y < N → ¬ g y < du y) → (∀ y, y < n → (eqF N du m g).1 y = (eqF n du' m g').1 y) ∧ (eqF N du m g).2 = (eqF n du' m g').2
  | 0, g, g', h, _ => ⟨h, rfl⟩
  | m + 1, g, g', h, h2 => by
    have e1 : bsF du g N = bsF du' g' n := by rw [bs_ext hn h2, bs_congr (fun y hy => ⟨hd y hy, h y hy⟩)]
    cases e : bsF du g N with
    | none => rw [eq_n e, eq_n (by rw [← e1, e])]; exact ⟨h, rfl⟩
    | some x =>
      have e2 : bsF du' g' n = some x := by rw [← e1, e]
      have hx := (bs_some e2).1
      rw [eq_x e, eq_x e2]
      refine eq_ext hn hd (fun y hy => ?_) (fun y a b => ?_)
      · by_cases c : y = x
        · rw [c, upN_s, upN_s, h x hx]
        · rw [upN_o _ _ c, upN_o _ _ c, h y hy]
      · rw [upN_o _ _ (by omega)]; exact h2 y a b
/-- those below x that want get v each -/
def lyF (du g : Nat → Nat) (v x : Nat) : Nat → Nat := fun y => if y < x ∧ g y < du y then g y + v else g y
theorem ly_1 {n c : Nat} {du g : Nat → Nat} (hc : ∀ y, y < n → g y < du y → g y = c) : ∀ {x : Nat}, x ≤ n → eqF n du (cwF du g x) g = (lyF du g 1 x, 0)
  | 0, _ => by
    show (g, 0) = (lyF du g 1 0, 0)
    congr 1
  | x + 1, hx => by
    have ih := ly_1 hc (x := x) (by omega)
    by_cases w : g x < du x
    · rw [cw_y w, eq_add (by rw [ih]), ih]
      have e0 : lyF du g 1 x x = g x := if_neg fun z => absurd z.1 (Nat.lt_irrefl _)
      have hb : bsF du (lyF du g 1 x) n = some x := by
        refine bs_is (by rw [e0]; exact w) (fun y hy hw => ?_) (by omega) (fun y hy hn hw => ?_)
        · by_cases c2 : g y < du y
          · have e1 : lyF du g 1 x y = g y + 1 := if_pos ⟨hy, c2⟩
            rw [e0, e1, hc y (by omega) c2, hc x (by omega) w]; omega
          · have e1 : lyF du g 1 x y = g y := if_neg fun z => c2 z.2
            rw [e1] at hw
            exact absurd hw c2
        · have e1 : lyF du g 1 x y = g y := if_neg fun z => absurd z.1 (by omega)
          rw [e1] at hw
          rw [e0, e1, hc y hn hw, hc x (by omega) w]
          exact Nat.le_refl _
      rw [eq_x (m := 0) hb]
      show (upN (lyF du g 1 x) x (lyF du g 1 x x + 1), 0) = (lyF du g 1 (x + 1), 0)
      congr 1
      funext y
      by_cases c2 : y = x
      · subst c2
        rw [upN_s, e0]
        exact (if_pos ⟨Nat.lt_succ_self _, w⟩).symm
      · rw [upN_o _ _ c2]
        show (if y < x ∧ g y < du y then g y + 1 else g y) = (if y < x + 1 ∧ g y < du y then g y + 1 else g y)
        by_cases c3 : y < x ∧ g y < du y
        · rw [if_pos c3, if_pos ⟨by omega, c3.2⟩]
        · rw [if_neg c3, if_neg fun z => c3 ⟨by omega, z.2⟩]
    · rw [cw_n w, ih]
      congr 1
      funext y
      show (if y < x ∧ g y < du y then g y + 1 else g y) = (if y < x + 1 ∧ g y < du y then g y + 1 else g y)
      by_cases c3 : y < x ∧ g y < du y
      · rw [if_pos c3, if_pos ⟨by omega, c3.2⟩]
      · rw [if_neg c3, if_neg fun z => c3 ⟨by
          by_cases c4 : y = x
          · rw [c4] at z; exact absurd z.2 w
          · omega, z.2⟩]
theorem ly_v {n c : Nat} {du g : Nat → Nat} (hc : ∀ y, y < n → g y < du y → g y = c) : ∀ {v : Nat}, (∀ y, y < n → g y < du y → g y + v ≤ du y) → eqF n du (v * cwF du g n) g = (lyF du g v n, 0)
  | 0, _ => by
    rw [Nat.zero_mul]
    show (g, 0) = (lyF du g 0 n, 0)
    congr 1
    funext y
    show g y = if y < n ∧ g y < du y then g y + 0 else g y
    by_cases c3 : y < n ∧ g y < du y
    · rw [if_pos c3]; rfl
    · rw [if_neg c3]
  | v + 1, hv => by
    have ih := ly_v hc (v := v) (fun y a b => by have := hv y a b; omega)
    rw [Nat.succ_mul, eq_add (by rw [ih]), ih]
    have wq : ∀ y, y < n → (lyF du g v n y < du y ↔ g y < du y) := fun y hy => by
      by_cases w : g y < du y
      · have e1 : lyF du g v n y = g y + v := if_pos ⟨hy, w⟩
        have := hv y hy w
        rw [e1]
        exact ⟨fun _ => w, fun _ => by omega⟩
      · have e1 : lyF du g v n y = g y := if_neg fun z => w z.2
        rw [e1]
    have e2 : cwF du (lyF du g v n) n = cwF du g n := sF_congr fun y hy => by
      by_cases w : g y < du y
      · rw [if_pos w, if_pos ((wq y hy).mpr w)]
      · rw [if_neg w, if_neg fun z => w ((wq y hy).mp z)]
    have h1 := ly_1 (n := n) (c := c + v) (du := du) (g := lyF du g v n) (fun y hy hw => by
      have w := (wq y hy).mp hw
      have e1 : lyF du g v n y = g y + v := if_pos ⟨hy, w⟩
      rw [e1, hc y hy w]) (Nat.le_refl n)
    rw [e2] at h1
    rw [h1]
    congr 1
    funext y
    show (if y < n ∧ lyF du g v n y < du y then lyF du g v n y + 1 else lyF du g v n y) = (if y < n ∧ g y < du y then g y + (v + 1) else g y)
    by_cases c3 : y < n ∧ g y < du y
    · have e1 : lyF du g v n y = g y + v := if_pos c3
      rw [if_pos c3, if_pos ⟨c3.1, (wq y c3.1).mpr c3.2⟩, e1]; omega
    · have e1 : lyF du g v n y = g y := if_neg c3
      rw [if_neg c3, if_neg fun z => c3 ⟨z.1, (wq y z.1).mp z.2⟩, e1]

