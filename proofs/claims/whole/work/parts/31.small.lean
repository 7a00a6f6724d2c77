/-! the static ones of QuotaDesk; Pool -/
section SM
variable {d : Nat} {I : T2} {J : T3}
/-- slotOf -/
def slI (w c : Int32) : Int32 := if w < 0 then -1 else if w < c - 1 then -1 else if c + 1 < w then -1 else w - w / 3 * 3
theorem sp_slot (w c : Int32) : Mt d mX6_slotOf [.int w, .int c] I J (RI (slI w c) I J) := by
  refine Mt.of (by decide +kernel) (Nat.le_of_ble_eq_true rfl) ?_
  refine BX6_slotOf_0  ?_
  refine IX6_slotOf_1 (fun c1 => ?_) (fun c1 => ?_)
  · skip
    refine BX6_slotOf_22  ?_
    refine BX6_slotOf_23  ?_
    refine IX6_slotOf_25 (fun c25 => ?_) (fun c25 => ?_)
    · skip
      refine BX6_slotOf_34  ?_
      exact RX6_slotOf_35  (Nat.zero_le _) ⟨_, rfl, ⟨by first | exact absurd c25 (by decide) | (unfold slI; rw [if_pos c1]) | (unfold slI; rw [if_neg c1, if_pos c8]) | (unfold slI; rw [if_neg c1, if_neg c8, if_pos c15]) | (unfold slI; rw [if_neg c1, if_neg c8, if_neg c15]), rfl, rfl⟩⟩
    · skip
      refine BX6_slotOf_28  ?_
      exact RX6_slotOf_35  (Nat.zero_le _) ⟨_, rfl, ⟨by first | exact absurd c25 (by decide) | (unfold slI; rw [if_pos c1]) | (unfold slI; rw [if_neg c1, if_pos c8]) | (unfold slI; rw [if_neg c1, if_neg c8, if_pos c15]) | (unfold slI; rw [if_neg c1, if_neg c8, if_neg c15]), rfl, rfl⟩⟩
  · skip
    refine BX6_slotOf_4  ?_
    refine IX6_slotOf_8 (fun c8 => ?_) (fun c8 => ?_)
    · skip
      refine BX6_slotOf_22  ?_
      refine BX6_slotOf_23  ?_
      refine IX6_slotOf_25 (fun c25 => ?_) (fun c25 => ?_)
      · skip
        refine BX6_slotOf_34  ?_
        exact RX6_slotOf_35  (Nat.zero_le _) ⟨_, rfl, ⟨by first | exact absurd c25 (by decide) | (unfold slI; rw [if_pos c1]) | (unfold slI; rw [if_neg c1, if_pos c8]) | (unfold slI; rw [if_neg c1, if_neg c8, if_pos c15]) | (unfold slI; rw [if_neg c1, if_neg c8, if_neg c15]), rfl, rfl⟩⟩
      · skip
        refine BX6_slotOf_28  ?_
        exact RX6_slotOf_35  (Nat.zero_le _) ⟨_, rfl, ⟨by first | exact absurd c25 (by decide) | (unfold slI; rw [if_pos c1]) | (unfold slI; rw [if_neg c1, if_pos c8]) | (unfold slI; rw [if_neg c1, if_neg c8, if_pos c15]) | (unfold slI; rw [if_neg c1, if_neg c8, if_neg c15]), rfl, rfl⟩⟩
    · skip
      refine BX6_slotOf_11  ?_
      refine IX6_slotOf_15 (fun c15 => ?_) (fun c15 => ?_)
      · skip
        refine BX6_slotOf_22  ?_
        refine BX6_slotOf_23  ?_
        refine IX6_slotOf_25 (fun c25 => ?_) (fun c25 => ?_)
        · skip
          refine BX6_slotOf_34  ?_
          exact RX6_slotOf_35  (Nat.zero_le _) ⟨_, rfl, ⟨by first | exact absurd c25 (by decide) | (unfold slI; rw [if_pos c1]) | (unfold slI; rw [if_neg c1, if_pos c8]) | (unfold slI; rw [if_neg c1, if_neg c8, if_pos c15]) | (unfold slI; rw [if_neg c1, if_neg c8, if_neg c15]), rfl, rfl⟩⟩
        · skip
          refine BX6_slotOf_28  ?_
          exact RX6_slotOf_35  (Nat.zero_le _) ⟨_, rfl, ⟨by first | exact absurd c25 (by decide) | (unfold slI; rw [if_pos c1]) | (unfold slI; rw [if_neg c1, if_pos c8]) | (unfold slI; rw [if_neg c1, if_neg c8, if_pos c15]) | (unfold slI; rw [if_neg c1, if_neg c8, if_neg c15]), rfl, rfl⟩⟩
      · skip
        refine BX6_slotOf_18  ?_
        refine BX6_slotOf_23  ?_
        refine IX6_slotOf_25 (fun c25 => ?_) (fun c25 => ?_)
        · skip
          refine BX6_slotOf_34  ?_
          exact RX6_slotOf_35  (Nat.zero_le _) ⟨_, rfl, ⟨by first | exact absurd c25 (by decide) | (unfold slI; rw [if_pos c1]) | (unfold slI; rw [if_neg c1, if_pos c8]) | (unfold slI; rw [if_neg c1, if_neg c8, if_pos c15]) | (unfold slI; rw [if_neg c1, if_neg c8, if_neg c15]), rfl, rfl⟩⟩
        · skip
          refine BX6_slotOf_28  ?_
          exact RX6_slotOf_35  (Nat.zero_le _) ⟨_, rfl, ⟨by first | exact absurd c25 (by decide) | (unfold slI; rw [if_pos c1]) | (unfold slI; rw [if_neg c1, if_pos c8]) | (unfold slI; rw [if_neg c1, if_neg c8, if_pos c15]) | (unfold slI; rw [if_neg c1, if_neg c8, if_neg c15]), rfl, rfl⟩⟩
theorem i2l_ne {w : Int32} (h : ¬ w = 0) : ¬ w.toInt64 = (0 : Int64) := by
  intro q
  apply h
  have h2 := congrArg Int64.toInt q
  rw [Int32.toInt_toInt64] at h2
  exact Int32.toInt_inj.mp h2
/-- windowAt -/
def wnI (t : Int64) (w : Int32) : Int32 := if 2 ≤ w then (t / w.toInt64).toInt32 else 0
theorem sp_wnd (t : Int64) (w : Int32) : Mt d mX6_windowAt [.long t, .int w] I J (RI (wnI t w) I J) := by
  refine Mt.of (by decide +kernel) (Nat.le_of_ble_eq_true rfl) ?_
  refine BX6_windowAt_0  ?_
  refine IX6_windowAt_2 (fun c2 => ?_) (fun c2 => ?_)
  · skip
    refine BX6_windowAt_9 (i2l_ne (fun q => by rw [q] at c2; exact absurd c2 (by decide))) ?_
    exact RX6_windowAt_14  (Nat.zero_le _) ⟨_, rfl, ⟨by first | (unfold wnI; rw [if_pos c2]) | (unfold wnI; rw [if_neg c2]), rfl, rfl⟩⟩
  · skip
    refine BX6_windowAt_5  ?_
    exact RX6_windowAt_14  (Nat.zero_le _) ⟨_, rfl, ⟨by first | (unfold wnI; rw [if_pos c2]) | (unfold wnI; rw [if_neg c2]), rfl, rfl⟩⟩
/-- isCounted -/
def icI (w : Int32) : Int32 := if w < 0 then 0 else if 200 ≤ w then 0 else 1
theorem sp_isC (w : Int32) : Mt d mX6_isCounted [.int w] I J (RI (icI w) I J) := by
  refine Mt.of (by decide +kernel) (Nat.le_of_ble_eq_true rfl) ?_
  refine BX6_isCounted_0  ?_
  refine IX6_isCounted_1 (fun c1 => ?_) (fun c1 => ?_)
  · skip
    refine BX6_isCounted_15  ?_
    exact RX6_isCounted_16 (by first | exact Or.inl rfl | exact Or.inr rfl) (Nat.zero_le _) ⟨_, rfl, ⟨by first | (unfold icI; rw [if_pos c1]) | (unfold icI; rw [if_neg c1, if_pos c8]) | (unfold icI; rw [if_neg c1, if_neg c8]), rfl, rfl⟩⟩
  · skip
    refine BX6_isCounted_4  ?_
    refine IX6_isCounted_8 (fun c8 => ?_) (fun c8 => ?_)
    · skip
      refine BX6_isCounted_15  ?_
      exact RX6_isCounted_16 (by first | exact Or.inl rfl | exact Or.inr rfl) (Nat.zero_le _) ⟨_, rfl, ⟨by first | (unfold icI; rw [if_pos c1]) | (unfold icI; rw [if_neg c1, if_pos c8]) | (unfold icI; rw [if_neg c1, if_neg c8]), rfl, rfl⟩⟩
    · skip
      refine BX6_isCounted_11  ?_
      exact RX6_isCounted_16 (by first | exact Or.inl rfl | exact Or.inr rfl) (Nat.zero_le _) ⟨_, rfl, ⟨by first | (unfold icI; rw [if_pos c1]) | (unfold icI; rw [if_neg c1, if_pos c8]) | (unfold icI; rw [if_neg c1, if_neg c8]), rfl, rfl⟩⟩
/-- where letter i of the pool lies -/
def plA (I : T2) (i : Int32) : Int32 := (I 12 1 + i - (I 12 1 + i) / 200 * 200) * 6
theorem sp_start (i : Int32) : Mt d mX3_start [.ref 12, .int i] I J (RI (plA I i) I J) := by
  refine Mt.of (by decide +kernel) (Nat.le_of_ble_eq_true rfl) ?_
  refine BX3_start_0  ?_
  exact RX3_start_13  (Nat.zero_le _) ⟨_, rfl, ⟨rfl, rfl, rfl⟩⟩
theorem sp_plBegin : Mt d mX3_begin [.ref 12] I J (RV (up2 (up2 I 12 1 0) 12 2 0) J) := by
  refine Mt.of (by decide +kernel) (Nat.le_of_ble_eq_true rfl) ?_
  refine BX3_begin_0  ?_
  exact RX3_begin_10  (Nat.zero_le _) ⟨_, rfl, ⟨rfl, rfl, rfl⟩⟩
theorem sp_isFull : Mt d mX3_isFull [.ref 12] I J (RI (if I 12 2 < 200 then 0 else 1) I J) := by
  refine Mt.of (by decide +kernel) (Nat.le_of_ble_eq_true rfl) ?_
  refine BX3_isFull_0  ?_
  refine IX3_isFull_7 (fun c7 => ?_) (fun c7 => ?_)
  · skip
    refine BX3_isFull_14  ?_
    exact RX3_isFull_15 (by first | exact Or.inl rfl | exact Or.inr rfl) (Nat.zero_le _) ⟨_, rfl, ⟨by simp_all, rfl, rfl⟩⟩
  · skip
    refine BX3_isFull_10  ?_
    exact RX3_isFull_15 (by first | exact Or.inl rfl | exact Or.inr rfl) (Nat.zero_le _) ⟨_, rfl, ⟨by simp_all, rfl, rfl⟩⟩
theorem sp_cell (i c : Int32) (h : vp_in (plA I i + c) 1200) : Mt (d + 1) mX3_cell [.ref 12, .int i, .int c] I J (RI (I 13 (plA I i + c).toNatClampNeg) I J) := by
  refine Mt.of (by decide +kernel) (Nat.le_of_ble_eq_true rfl) ?_
  refine BX3_cell_0  ?_
  refine CX3_cell_6 (sp_start i) (Nat.zero_le _) (fun v6 I6 J6 q6 => ?_)
  obtain ⟨rfl, rfl, rfl⟩ := q6
  refine BX3_cell_9 (by decide) h ?_
  exact RX3_cell_12  (Nat.zero_le _) ⟨_, rfl, ⟨rfl, rfl, rfl⟩⟩
/-- put -/
def putC (I : T2) (s g n w u t : Int32) : T2 := if I 12 2 < 200 then up2 (up2 (up2 (up2 (up2 (up2 (up2 I 13 (plA I (I 12 2) + 0).toNatClampNeg s) 13 (plA I (I 12 2) + 1).toNatClampNeg g) 13 (plA I (I 12 2) + 2).toNatClampNeg n) 13 (plA I (I 12 2) + 3).toNatClampNeg w) 13 (plA I (I 12 2) + 4).toNatClampNeg u) 13 (plA I (I 12 2) + 5).toNatClampNeg t) 12 2 (I 12 2 + 1) else I
theorem sp_put (s g n w u t : Int32) (h : I 12 2 < 200 → ∀ c : Nat, c < 6 → vp_in (plA I (I 12 2) + nI c) 1200) : Mt d mX3_put [.ref 12, .int s, .int g, .int n, .int w, .int u, .int t] I J (RV (putC I s g n w u t) J) := by
  refine Mt.of (by decide +kernel) (Nat.le_of_ble_eq_true rfl) ?_
  refine BX3_put_0  ?_
  refine IX3_put_7 (fun c7 => ?_) (fun c7 => ?_)
  · skip
    refine BX3_put_11 (h c7 0 (by decide)) (h c7 1 (by decide)) (h c7 2 (by decide)) (h c7 3 (by decide)) (h c7 4 (by decide)) (h c7 5 (by decide)) ?_
    exact RX3_put_102  (Nat.zero_le _) ⟨_, rfl, ⟨rfl, by unfold putC; rw [if_pos c7]; rfl, rfl⟩⟩
  · skip
    exact RX3_put_10  (Nat.zero_le _) ⟨_, rfl, ⟨rfl, by unfold putC; rw [if_neg c7], rfl⟩⟩
end SM

