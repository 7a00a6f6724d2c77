theorem kg_all : ∀ o : Nat, o < 159 → kd o = 1 → (kd (o + 1) = 8 ∧ ln (o + 1) = 3) ∧ (kd (o + 2) = 8 ∧ ln (o + 2) = 3) ∧ (kd (o + 3) = 8 ∧ ln (o + 3) = 3) ∧ kd (o + 4) = 5 ∧ kd (o + 9) = 5 := by decide +kernel
theorem kw_all : ∀ o : Nat, o < 159 → kd o = 5 → (kd (o + 1) = 8 ∧ ln (o + 1) = 50) ∧ (kd (o + 2) = 8 ∧ ln (o + 2) = 50) ∧ (kd (o + 3) = 8 ∧ ln (o + 3) = 50) ∧ kd (o + 4) = 8 ∧ ln (o + 4) = 50 := by decide +kernel
section KG
variable {o : Nat}
theorem kg_1 (h : kd o = 1) : kd (o + 1) = 8 := (kg_all o (kd_lt h (by decide)) h).1.1
theorem lg_1 (h : kd o = 1) : ln (o + 1) = 3 := (kg_all o (kd_lt h (by decide)) h).1.2
theorem kg_2 (h : kd o = 1) : kd (o + 2) = 8 := (kg_all o (kd_lt h (by decide)) h).2.1.1
theorem lg_2 (h : kd o = 1) : ln (o + 2) = 3 := (kg_all o (kd_lt h (by decide)) h).2.1.2
theorem kg_3 (h : kd o = 1) : kd (o + 3) = 8 := (kg_all o (kd_lt h (by decide)) h).2.2.1.1
theorem lg_3 (h : kd o = 1) : ln (o + 3) = 3 := (kg_all o (kd_lt h (by decide)) h).2.2.1.2
theorem kg_4 (h : kd o = 1) : kd (o + 4) = 5 := (kg_all o (kd_lt h (by decide)) h).2.2.2.1
theorem kg_9 (h : kd o = 1) : kd (o + 9) = 5 := (kg_all o (kd_lt h (by decide)) h).2.2.2.2
theorem kw_1 (h : kd o = 5) : kd (o + 1) = 8 := (kw_all o (kd_lt h (by decide)) h).1.1
theorem lw_1 (h : kd o = 5) : ln (o + 1) = 50 := (kw_all o (kd_lt h (by decide)) h).1.2
theorem kw_2 (h : kd o = 5) : kd (o + 2) = 8 := (kw_all o (kd_lt h (by decide)) h).2.1.1
theorem lw_2 (h : kd o = 5) : ln (o + 2) = 50 := (kw_all o (kd_lt h (by decide)) h).2.1.2
theorem kw_3 (h : kd o = 5) : kd (o + 3) = 8 := (kw_all o (kd_lt h (by decide)) h).2.2.1.1
theorem lw_3 (h : kd o = 5) : ln (o + 3) = 50 := (kw_all o (kd_lt h (by decide)) h).2.2.1.2
theorem kw_4 (h : kd o = 5) : kd (o + 4) = 8 := (kw_all o (kd_lt h (by decide)) h).2.2.2.1
theorem lw_4 (h : kd o = 5) : ln (o + 4) = 50 := (kw_all o (kd_lt h (by decide)) h).2.2.2.2
end KG
theorem kgt {i : Nat} (h : i < 8) : kd (24 + 14 * i) = 1 := (show ∀ i : Nat, i < 8 → kd (24 + 14 * i) = 1 by decide +kernel) i h
theorem kr4 {i : Nat} (h : i < 3) : kd (4 + 1 + i) = 8 := (show ∀ i : Nat, i < 3 → kd (4 + 1 + i) = 8 by decide +kernel) i h
theorem lr4 {i : Nat} (h : i < 3) : ln (4 + 1 + i) = 8 := (show ∀ i : Nat, i < 3 → ln (4 + 1 + i) = 8 by decide +kernel) i h
theorem kr8 {i : Nat} (h : i < 3) : kd (8 + 1 + i) = 8 := (show ∀ i : Nat, i < 3 → kd (8 + 1 + i) = 8 by decide +kernel) i h
theorem lr8 {i : Nat} (h : i < 3) : ln (8 + 1 + i) = 8 := (show ∀ i : Nat, i < 3 → ln (8 + 1 + i) = 8 by decide +kernel) i h
theorem vp_lt {x : Int32} {n : Nat} (h : vp_in x n) : x.toNatClampNeg < n := Nat.not_le.mp fun q => h (Or.inr q)
theorem ln_to {e n : Nat} {x : Int32} (h : ln e = n) (hx : vp_in x n) : vp_in x (ln e) := by rw [h]; exact hx
