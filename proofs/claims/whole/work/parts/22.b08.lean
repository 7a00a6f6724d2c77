theorem BL_setup_0 {d Z L : Nat} {xs : Nat → Int32} {z : Nat} {Φ : Out → T2 → T3 → Nat → Prop} {I : T2} {J : T3} {x1 : Int32} {x2 : Int32} {x3 : Int32} {x4 : Int32}  
    (k : Ev d Z L xs mL_setup 6 [some (.ref 0), some (.int x1), some (.int x2), some (.int x3), some (.int x4), none] [.int x4, .int x3, .int x2, .int x1, .ref 0] I J z Φ) : Ev d Z L xs mL_setup 0 [some (.ref 0), some (.int x1), some (.int x2), some (.int x3), some (.int x4), none] [] I J z Φ := by
  refine Ev.blk (ops := [o0 (.aload_n 0) 1, o0 (.iload_n 1) 1, o0 (.iload_n 2) 1, o0 (.iload_n 3) 1, o0 (.iload 4) 2]) (G := True ∧ True ∧ True ∧ True ∧ True ∧ True) (by decide +kernel) ?_ ⟨trivial, trivial, trivial, trivial, trivial, trivial⟩ k
  rfl
theorem BL_setup_9 {d Z L : Nat} {xs : Nat → Int32} {z : Nat} {Φ : Out → T2 → T3 → Nat → Prop} {I : T2} {J : T3} {x1 : Int32} {x2 : Int32} {x3 : Int32} {x4 : Int32}  
    (k : Ev d Z L xs mL_setup 16 [some (.ref 0), some (.int x1), some (.int x2), some (.int x3), some (.int x4), none] [] I J z Φ) : Ev d Z L xs mL_setup 9 [some (.ref 0), some (.int x1), some (.int x2), some (.int x3), some (.int x4), none] [] I J z Φ := by
  refine Ev.blk (ops := [oK (.goto 7) 3 16 0]) (G := True ∧ True) (by decide +kernel) ?_ ⟨trivial, trivial⟩ k
  rfl
theorem BL_setup_12 {d Z L : Nat} {xs : Nat → Int32} {z : Nat} {Φ : Out → T2 → T3 → Nat → Prop} {I : T2} {J : T3} {x1 : Int32} {x2 : Int32} {x3 : Int32} {x4 : Int32} {as0 : Nat}  
    (k : Ev d Z L xs mL_setup 15 [some (.ref 0), some (.int x1), some (.int x2), some (.int x3), some (.int x4), some (.ref as0)] [.int 1] I J z Φ) : Ev d Z L xs mL_setup 12 [some (.ref 0), some (.int x1), some (.int x2), some (.int x3), some (.int x4), none] [.ref as0] I J z Φ := by
  refine Ev.blk (ops := [o0 (.astore 5) 2, oI (.iconst 1) 1 1]) (G := True ∧ True ∧ True) (by decide +kernel) ?_ ⟨trivial, trivial, trivial⟩ k
  rfl
theorem BL_setup_16 {d Z L : Nat} {xs : Nat → Int32} {z : Nat} {Φ : Out → T2 → T3 → Nat → Prop} {I : T2} {J : T3} {x1 : Int32} {x2 : Int32} {x3 : Int32} {x4 : Int32}  
    (k : Ev d Z L xs mL_setup 17 [some (.ref 0), some (.int x1), some (.int x2), some (.int x3), some (.int x4), none] [.int 0] I J z Φ) : Ev d Z L xs mL_setup 16 [some (.ref 0), some (.int x1), some (.int x2), some (.int x3), some (.int x4), none] [] I J z Φ := by
  refine Ev.blk (ops := [oI (.iconst 0) 1 0]) (G := True ∧ True) (by decide +kernel) ?_ ⟨trivial, trivial⟩ k
  rfl
theorem BL_pass_0 {d Z L : Nat} {xs : Nat → Int32} {z : Nat} {Φ : Out → T2 → T3 → Nat → Prop} {I : T2} {J : T3} {x1 : Int32}  
    (k : Ev d Z L xs mL_pass 2 [some (.ref 0), some (.int x1), none] [.int x1, .ref 0] I J z Φ) : Ev d Z L xs mL_pass 0 [some (.ref 0), some (.int x1), none] [] I J z Φ := by
  refine Ev.blk (ops := [o0 (.aload_n 0) 1, o0 (.iload_n 1) 1]) (G := True ∧ True ∧ True) (by decide +kernel) ?_ ⟨trivial, trivial, trivial⟩ k
  rfl
theorem BL_pass_5 {d Z L : Nat} {xs : Nat → Int32} {z : Nat} {Φ : Out → T2 → T3 → Nat → Prop} {I : T2} {J : T3} {x1 : Int32}  
    (k : Ev d Z L xs mL_pass 11 [some (.ref 0), some (.int x1), none] [] I J z Φ) : Ev d Z L xs mL_pass 5 [some (.ref 0), some (.int x1), none] [] I J z Φ := by
  refine Ev.blk (ops := [oK (.goto 6) 3 11 0]) (G := True ∧ True) (by decide +kernel) ?_ ⟨trivial, trivial⟩ k
  rfl
theorem BL_pass_8 {d Z L : Nat} {xs : Nat → Int32} {z : Nat} {Φ : Out → T2 → T3 → Nat → Prop} {I : T2} {J : T3} {x1 : Int32} {as0 : Nat}  
    (k : Ev d Z L xs mL_pass 10 [some (.ref 0), some (.int x1), some (.ref as0)] [.int 1] I J z Φ) : Ev d Z L xs mL_pass 8 [some (.ref 0), some (.int x1), none] [.ref as0] I J z Φ := by
  refine Ev.blk (ops := [o0 (.astore_n 2) 1, oI (.iconst 1) 1 1]) (G := True ∧ True ∧ True) (by decide +kernel) ?_ ⟨trivial, trivial, trivial⟩ k
  rfl
theorem BL_pass_11 {d Z L : Nat} {xs : Nat → Int32} {z : Nat} {Φ : Out → T2 → T3 → Nat → Prop} {I : T2} {J : T3} {x1 : Int32}  
    (k : Ev d Z L xs mL_pass 12 [some (.ref 0), some (.int x1), none] [.int 0] I J z Φ) : Ev d Z L xs mL_pass 11 [some (.ref 0), some (.int x1), none] [] I J z Φ := by
  refine Ev.blk (ops := [oI (.iconst 0) 1 0]) (G := True ∧ True) (by decide +kernel) ?_ ⟨trivial, trivial⟩ k
  rfl
theorem BL_error_0 {d Z L : Nat} {xs : Nat → Int32} {z : Nat} {Φ : Out → T2 → T3 → Nat → Prop} {I : T2} {J : T3} {x1 : Int32} {x2 : Int32}  
    (k : Ev d Z L xs mL_error 3 [some (.ref 0), some (.int x1), some (.int x2), none] [.int x2, .int x1, .ref 0] I J z Φ) : Ev d Z L xs mL_error 0 [some (.ref 0), some (.int x1), some (.int x2), none] [] I J z Φ := by
  refine Ev.blk (ops := [o0 (.aload_n 0) 1, o0 (.iload_n 1) 1, o0 (.iload_n 2) 1]) (G := True ∧ True ∧ True ∧ True) (by decide +kernel) ?_ ⟨trivial, trivial, trivial, trivial⟩ k
  rfl
theorem BL_error_6 {d Z L : Nat} {xs : Nat → Int32} {z : Nat} {Φ : Out → T2 → T3 → Nat → Prop} {I : T2} {J : T3} {x1 : Int32} {x2 : Int32}  
    (k : Ev d Z L xs mL_error 15 [some (.ref 0), some (.int x1), some (.int x2), none] [] I J z Φ) : Ev d Z L xs mL_error 6 [some (.ref 0), some (.int x1), some (.int x2), none] [] I J z Φ := by
  refine Ev.blk (ops := [oK (.goto 9) 3 15 0]) (G := True ∧ True) (by decide +kernel) ?_ ⟨trivial, trivial⟩ k
  rfl
theorem BL_error_9 {d Z L : Nat} {xs : Nat → Int32} {z : Nat} {Φ : Out → T2 → T3 → Nat → Prop} {I : T2} {J : T3} {x1 : Int32} {x2 : Int32} {as0 : Nat}  
    (k : Ev d Z L xs mL_error 11 [some (.ref 0), some (.int x1), some (.int x2), some (.ref as0)] [.int 1] I J z Φ) : Ev d Z L xs mL_error 9 [some (.ref 0), some (.int x1), some (.int x2), none] [.ref as0] I J z Φ := by
  refine Ev.blk (ops := [o0 (.astore_n 3) 1, oI (.iconst 1) 1 1]) (G := True ∧ True ∧ True) (by decide +kernel) ?_ ⟨trivial, trivial, trivial⟩ k
  rfl
theorem BL_error_12 {d Z L : Nat} {xs : Nat → Int32} {z : Nat} {Φ : Out → T2 → T3 → Nat → Prop} {I : T2} {J : T3} {x1 : Int32} {x2 : Int32} {as0 : Nat}  
    (k : Ev d Z L xs mL_error 14 [some (.ref 0), some (.int x1), some (.int x2), some (.ref as0)] [.int 2] I J z Φ) : Ev d Z L xs mL_error 12 [some (.ref 0), some (.int x1), some (.int x2), none] [.ref as0] I J z Φ := by
  refine Ev.blk (ops := [o0 (.astore_n 3) 1, oI (.iconst 2) 1 2]) (G := True ∧ True ∧ True) (by decide +kernel) ?_ ⟨trivial, trivial, trivial⟩ k
  rfl
theorem BL_error_15 {d Z L : Nat} {xs : Nat → Int32} {z : Nat} {Φ : Out → T2 → T3 → Nat → Prop} {I : T2} {J : T3} {x1 : Int32} {x2 : Int32}  
    (k : Ev d Z L xs mL_error 16 [some (.ref 0), some (.int x1), some (.int x2), none] [.int 0] I J z Φ) : Ev d Z L xs mL_error 15 [some (.ref 0), some (.int x1), some (.int x2), none] [] I J z Φ := by
  refine Ev.blk (ops := [oI (.iconst 0) 1 0]) (G := True ∧ True) (by decide +kernel) ?_ ⟨trivial, trivial⟩ k
  rfl
theorem BL_rule_0 {d Z L : Nat} {xs : Nat → Int32} {z : Nat} {Φ : Out → T2 → T3 → Nat → Prop} {I : T2} {J : T3} {x1 : Int32}  
    (k : Ev d Z L xs mL_rule 2 [some (.ref 0), some (.int x1), none] [.int x1, .ref 0] I J z Φ) : Ev d Z L xs mL_rule 0 [some (.ref 0), some (.int x1), none] [] I J z Φ := by
  refine Ev.blk (ops := [o0 (.aload_n 0) 1, o0 (.iload_n 1) 1]) (G := True ∧ True ∧ True) (by decide +kernel) ?_ ⟨trivial, trivial, trivial⟩ k
  rfl
theorem BL_rule_5 {d Z L : Nat} {xs : Nat → Int32} {z : Nat} {Φ : Out → T2 → T3 → Nat → Prop} {I : T2} {J : T3} {x1 : Int32}  
    (k : Ev d Z L xs mL_rule 11 [some (.ref 0), some (.int x1), none] [] I J z Φ) : Ev d Z L xs mL_rule 5 [some (.ref 0), some (.int x1), none] [] I J z Φ := by
  refine Ev.blk (ops := [oK (.goto 6) 3 11 0]) (G := True ∧ True) (by decide +kernel) ?_ ⟨trivial, trivial⟩ k
  rfl
theorem BL_rule_8 {d Z L : Nat} {xs : Nat → Int32} {z : Nat} {Φ : Out → T2 → T3 → Nat → Prop} {I : T2} {J : T3} {x1 : Int32} {as0 : Nat}  
    (k : Ev d Z L xs mL_rule 10 [some (.ref 0), some (.int x1), some (.ref as0)] [.int 1] I J z Φ) : Ev d Z L xs mL_rule 8 [some (.ref 0), some (.int x1), none] [.ref as0] I J z Φ := by
  refine Ev.blk (ops := [o0 (.astore_n 2) 1, oI (.iconst 1) 1 1]) (G := True ∧ True ∧ True) (by decide +kernel) ?_ ⟨trivial, trivial, trivial⟩ k
  rfl
theorem BL_rule_11 {d Z L : Nat} {xs : Nat → Int32} {z : Nat} {Φ : Out → T2 → T3 → Nat → Prop} {I : T2} {J : T3} {x1 : Int32}  
    (k : Ev d Z L xs mL_rule 12 [some (.ref 0), some (.int x1), none] [.int 0] I J z Φ) : Ev d Z L xs mL_rule 11 [some (.ref 0), some (.int x1), none] [] I J z Φ := by
  refine Ev.blk (ops := [oI (.iconst 0) 1 0]) (G := True ∧ True) (by decide +kernel) ?_ ⟨trivial, trivial⟩ k
  rfl
theorem BL_admit_0 {d Z L : Nat} {xs : Nat → Int32} {z : Nat} {Φ : Out → T2 → T3 → Nat → Prop} {I : T2} {J : T3} {x1 : Int32} {x2 : Int32}  
    (k : Ev d Z L xs mL_admit 5 [some (.ref 0), some (.int x1), some (.int x2), some (.ref 158), none] [.int x2, .int x1, .ref 0, .int 0, .ref 158] I J z Φ) : Ev d Z L xs mL_admit 0 [some (.ref 0), some (.int x1), some (.int x2), some (.ref 158), none] [] I J z Φ := by
  refine Ev.blk (ops := [o0 (.aload_n 3) 1, oI (.iconst 0) 1 0, o0 (.aload_n 0) 1, o0 (.iload_n 1) 1, o0 (.iload_n 2) 1]) (G := True ∧ True ∧ True ∧ True ∧ True ∧ True) (by decide +kernel) ?_ ⟨trivial, trivial, trivial, trivial, trivial, trivial⟩ k
  rfl
theorem BL_admit_8 {d Z L : Nat} {xs : Nat → Int32} {z : Nat} {Φ : Out → T2 → T3 → Nat → Prop} {I : T2} {J : T3} {x1 : Int32} {x2 : Int32} {xs1 : Int32} {xs2 : Int32}  (g1 : vp_in xs1 1)
    (k : Ev d Z L xs mL_admit 25 [some (.ref 0), some (.int x1), some (.int x2), some (.ref 158), none] [] I (up3 J 158 xs1.toNatClampNeg xs2.toInt64) z Φ) : Ev d Z L xs mL_admit 8 [some (.ref 0), some (.int x1), some (.int x2), some (.ref 158), none] [.int xs2, .int xs1, .ref 158] I J z Φ := by
  refine Ev.blk (ops := [o0 (.i2l) 1, o0 (.lastore) 1, oK (.goto 15) 3 25 0]) (G := True ∧ (kd 158 = 9 ∧ vp_in xs1 (ln 158)) ∧ True ∧ True) (by decide +kernel) ?_ ⟨trivial, ⟨(by decide), g1⟩, trivial, trivial⟩ k
  rfl
theorem BL_admit_13 {d Z L : Nat} {xs : Nat → Int32} {z : Nat} {Φ : Out → T2 → T3 → Nat → Prop} {I : T2} {J : T3} {x1 : Int32} {x2 : Int32} {as0 : Nat}  
    (k : Ev d Z L xs mL_admit 16 [some (.ref 0), some (.int x1), some (.int x2), some (.ref 158), some (.ref as0)] [.int 1] I J z Φ) : Ev d Z L xs mL_admit 13 [some (.ref 0), some (.int x1), some (.int x2), some (.ref 158), none] [.ref as0] I J z Φ := by
  refine Ev.blk (ops := [o0 (.astore 4) 2, oI (.iconst 1) 1 1]) (G := True ∧ True ∧ True) (by decide +kernel) ?_ ⟨trivial, trivial, trivial⟩ k
  rfl
theorem BL_admit_17 {d Z L : Nat} {xs : Nat → Int32} {z : Nat} {Φ : Out → T2 → T3 → Nat → Prop} {I : T2} {J : T3} {x1 : Int32} {x2 : Int32} {as0 : Nat}  
    (k : Ev d Z L xs mL_admit 20 [some (.ref 0), some (.int x1), some (.int x2), some (.ref 158), some (.ref as0)] [.int 2] I J z Φ) : Ev d Z L xs mL_admit 17 [some (.ref 0), some (.int x1), some (.int x2), some (.ref 158), none] [.ref as0] I J z Φ := by
  refine Ev.blk (ops := [o0 (.astore 4) 2, oI (.iconst 2) 1 2]) (G := True ∧ True ∧ True) (by decide +kernel) ?_ ⟨trivial, trivial, trivial⟩ k
  rfl
theorem BL_admit_21 {d Z L : Nat} {xs : Nat → Int32} {z : Nat} {Φ : Out → T2 → T3 → Nat → Prop} {I : T2} {J : T3} {x1 : Int32} {x2 : Int32} {as0 : Nat}  
    (k : Ev d Z L xs mL_admit 24 [some (.ref 0), some (.int x1), some (.int x2), some (.ref 158), some (.ref as0)] [.int 3] I J z Φ) : Ev d Z L xs mL_admit 21 [some (.ref 0), some (.int x1), some (.int x2), some (.ref 158), none] [.ref as0] I J z Φ := by
  refine Ev.blk (ops := [o0 (.astore 4) 2, oI (.iconst 3) 1 3]) (G := True ∧ True ∧ True) (by decide +kernel) ?_ ⟨trivial, trivial, trivial⟩ k
  rfl
theorem BL_admit_25 {d Z L : Nat} {xs : Nat → Int32} {z : Nat} {Φ : Out → T2 → T3 → Nat → Prop} {I : T2} {J : T3} {x1 : Int32} {x2 : Int32}  
    (k : Ev d Z L xs mL_admit 26 [some (.ref 0), some (.int x1), some (.int x2), some (.ref 158), none] [.int 0] I J z Φ) : Ev d Z L xs mL_admit 25 [some (.ref 0), some (.int x1), some (.int x2), some (.ref 158), none] [] I J z Φ := by
  refine Ev.blk (ops := [oI (.iconst 0) 1 0]) (G := True ∧ True) (by decide +kernel) ?_ ⟨trivial, trivial⟩ k
  rfl
theorem BL_plead_0 {d Z L : Nat} {xs : Nat → Int32} {z : Nat} {Φ : Out → T2 → T3 → Nat → Prop} {I : T2} {J : T3} {x1 : Int32} {x2 : Int32}  
    (k : Ev d Z L xs mL_plead 3 [some (.ref 0), some (.int x1), some (.int x2), none] [.int x2, .int x1, .ref 0] I J z Φ) : Ev d Z L xs mL_plead 0 [some (.ref 0), some (.int x1), some (.int x2), none] [] I J z Φ := by
  refine Ev.blk (ops := [o0 (.aload_n 0) 1, o0 (.iload_n 1) 1, o0 (.iload_n 2) 1]) (G := True ∧ True ∧ True ∧ True) (by decide +kernel) ?_ ⟨trivial, trivial, trivial, trivial⟩ k
  rfl
theorem BL_plead_6 {d Z L : Nat} {xs : Nat → Int32} {z : Nat} {Φ : Out → T2 → T3 → Nat → Prop} {I : T2} {J : T3} {x1 : Int32} {x2 : Int32}  
    (k : Ev d Z L xs mL_plead 21 [some (.ref 0), some (.int x1), some (.int x2), none] [] I J z Φ) : Ev d Z L xs mL_plead 6 [some (.ref 0), some (.int x1), some (.int x2), none] [] I J z Φ := by
  refine Ev.blk (ops := [oK (.goto 15) 3 21 0]) (G := True ∧ True) (by decide +kernel) ?_ ⟨trivial, trivial⟩ k
  rfl
theorem BL_plead_9 {d Z L : Nat} {xs : Nat → Int32} {z : Nat} {Φ : Out → T2 → T3 → Nat → Prop} {I : T2} {J : T3} {x1 : Int32} {x2 : Int32} {as0 : Nat}  
    (k : Ev d Z L xs mL_plead 11 [some (.ref 0), some (.int x1), some (.int x2), some (.ref as0)] [.int 1] I J z Φ) : Ev d Z L xs mL_plead 9 [some (.ref 0), some (.int x1), some (.int x2), none] [.ref as0] I J z Φ := by
  refine Ev.blk (ops := [o0 (.astore_n 3) 1, oI (.iconst 1) 1 1]) (G := True ∧ True ∧ True) (by decide +kernel) ?_ ⟨trivial, trivial, trivial⟩ k
  rfl
theorem BL_plead_12 {d Z L : Nat} {xs : Nat → Int32} {z : Nat} {Φ : Out → T2 → T3 → Nat → Prop} {I : T2} {J : T3} {x1 : Int32} {x2 : Int32} {as0 : Nat}  
    (k : Ev d Z L xs mL_plead 14 [some (.ref 0), some (.int x1), some (.int x2), some (.ref as0)] [.int 2] I J z Φ) : Ev d Z L xs mL_plead 12 [some (.ref 0), some (.int x1), some (.int x2), none] [.ref as0] I J z Φ := by
  refine Ev.blk (ops := [o0 (.astore_n 3) 1, oI (.iconst 2) 1 2]) (G := True ∧ True ∧ True) (by decide +kernel) ?_ ⟨trivial, trivial, trivial⟩ k
  rfl
theorem BL_plead_15 {d Z L : Nat} {xs : Nat → Int32} {z : Nat} {Φ : Out → T2 → T3 → Nat → Prop} {I : T2} {J : T3} {x1 : Int32} {x2 : Int32} {as0 : Nat}  
    (k : Ev d Z L xs mL_plead 17 [some (.ref 0), some (.int x1), some (.int x2), some (.ref as0)] [.int 3] I J z Φ) : Ev d Z L xs mL_plead 15 [some (.ref 0), some (.int x1), some (.int x2), none] [.ref as0] I J z Φ := by
  refine Ev.blk (ops := [o0 (.astore_n 3) 1, oI (.iconst 3) 1 3]) (G := True ∧ True ∧ True) (by decide +kernel) ?_ ⟨trivial, trivial, trivial⟩ k
  rfl
theorem BL_plead_18 {d Z L : Nat} {xs : Nat → Int32} {z : Nat} {Φ : Out → T2 → T3 → Nat → Prop} {I : T2} {J : T3} {x1 : Int32} {x2 : Int32} {as0 : Nat}  
    (k : Ev d Z L xs mL_plead 20 [some (.ref 0), some (.int x1), some (.int x2), some (.ref as0)] [.int 4] I J z Φ) : Ev d Z L xs mL_plead 18 [some (.ref 0), some (.int x1), some (.int x2), none] [.ref as0] I J z Φ := by
  refine Ev.blk (ops := [o0 (.astore_n 3) 1, oI (.iconst 4) 1 4]) (G := True ∧ True ∧ True) (by decide +kernel) ?_ ⟨trivial, trivial, trivial⟩ k
  rfl
theorem BL_plead_21 {d Z L : Nat} {xs : Nat → Int32} {z : Nat} {Φ : Out → T2 → T3 → Nat → Prop} {I : T2} {J : T3} {x1 : Int32} {x2 : Int32}  
    (k : Ev d Z L xs mL_plead 22 [some (.ref 0), some (.int x1), some (.int x2), none] [.int 0] I J z Φ) : Ev d Z L xs mL_plead 21 [some (.ref 0), some (.int x1), some (.int x2), none] [] I J z Φ := by
  refine Ev.blk (ops := [oI (.iconst 0) 1 0]) (G := True ∧ True) (by decide +kernel) ?_ ⟨trivial, trivial⟩ k
  rfl
theorem BL_back_0 {d Z L : Nat} {xs : Nat → Int32} {z : Nat} {Φ : Out → T2 → T3 → Nat → Prop} {I : T2} {J : T3} {x1 : Int32} {x2 : Int32} {x3 : Int32}  
    (k : Ev d Z L xs mL_back 4 [some (.ref 0), some (.int x1), some (.int x2), some (.int x3), none] [.int x3, .int x2, .int x1, .ref 0] I J z Φ) : Ev d Z L xs mL_back 0 [some (.ref 0), some (.int x1), some (.int x2), some (.int x3), none] [] I J z Φ := by
  refine Ev.blk (ops := [o0 (.aload_n 0) 1, o0 (.iload_n 1) 1, o0 (.iload_n 2) 1, o0 (.iload_n 3) 1]) (G := True ∧ True ∧ True ∧ True ∧ True) (by decide +kernel) ?_ ⟨trivial, trivial, trivial, trivial, trivial⟩ k
  rfl
theorem BL_back_7 {d Z L : Nat} {xs : Nat → Int32} {z : Nat} {Φ : Out → T2 → T3 → Nat → Prop} {I : T2} {J : T3} {x1 : Int32} {x2 : Int32} {x3 : Int32}  
    (k : Ev d Z L xs mL_back 26 [some (.ref 0), some (.int x1), some (.int x2), some (.int x3), none] [] I J z Φ) : Ev d Z L xs mL_back 7 [some (.ref 0), some (.int x1), some (.int x2), some (.int x3), none] [] I J z Φ := by
  refine Ev.blk (ops := [oK (.goto 19) 3 26 0]) (G := True ∧ True) (by decide +kernel) ?_ ⟨trivial, trivial⟩ k
  rfl
theorem BL_back_10 {d Z L : Nat} {xs : Nat → Int32} {z : Nat} {Φ : Out → T2 → T3 → Nat → Prop} {I : T2} {J : T3} {x1 : Int32} {x2 : Int32} {x3 : Int32} {as0 : Nat}  
    (k : Ev d Z L xs mL_back 13 [some (.ref 0), some (.int x1), some (.int x2), some (.int x3), some (.ref as0)] [.int 1] I J z Φ) : Ev d Z L xs mL_back 10 [some (.ref 0), some (.int x1), some (.int x2), some (.int x3), none] [.ref as0] I J z Φ := by
  refine Ev.blk (ops := [o0 (.astore 4) 2, oI (.iconst 1) 1 1]) (G := True ∧ True ∧ True) (by decide +kernel) ?_ ⟨trivial, trivial, trivial⟩ k
  rfl
theorem BL_back_14 {d Z L : Nat} {xs : Nat → Int32} {z : Nat} {Φ : Out → T2 → T3 → Nat → Prop} {I : T2} {J : T3} {x1 : Int32} {x2 : Int32} {x3 : Int32} {as0 : Nat}  
    (k : Ev d Z L xs mL_back 17 [some (.ref 0), some (.int x1), some (.int x2), some (.int x3), some (.ref as0)] [.int 2] I J z Φ) : Ev d Z L xs mL_back 14 [some (.ref 0), some (.int x1), some (.int x2), some (.int x3), none] [.ref as0] I J z Φ := by
  refine Ev.blk (ops := [o0 (.astore 4) 2, oI (.iconst 2) 1 2]) (G := True ∧ True ∧ True) (by decide +kernel) ?_ ⟨trivial, trivial, trivial⟩ k
  rfl
theorem BL_back_18 {d Z L : Nat} {xs : Nat → Int32} {z : Nat} {Φ : Out → T2 → T3 → Nat → Prop} {I : T2} {J : T3} {x1 : Int32} {x2 : Int32} {x3 : Int32} {as0 : Nat}  
    (k : Ev d Z L xs mL_back 21 [some (.ref 0), some (.int x1), some (.int x2), some (.int x3), some (.ref as0)] [.int 3] I J z Φ) : Ev d Z L xs mL_back 18 [some (.ref 0), some (.int x1), some (.int x2), some (.int x3), none] [.ref as0] I J z Φ := by
  refine Ev.blk (ops := [o0 (.astore 4) 2, oI (.iconst 3) 1 3]) (G := True ∧ True ∧ True) (by decide +kernel) ?_ ⟨trivial, trivial, trivial⟩ k
  rfl
theorem BL_back_22 {d Z L : Nat} {xs : Nat → Int32} {z : Nat} {Φ : Out → T2 → T3 → Nat → Prop} {I : T2} {J : T3} {x1 : Int32} {x2 : Int32} {x3 : Int32} {as0 : Nat}  
    (k : Ev d Z L xs mL_back 25 [some (.ref 0), some (.int x1), some (.int x2), some (.int x3), some (.ref as0)] [.int 4] I J z Φ) : Ev d Z L xs mL_back 22 [some (.ref 0), some (.int x1), some (.int x2), some (.int x3), none] [.ref as0] I J z Φ := by
  refine Ev.blk (ops := [o0 (.astore 4) 2, oI (.iconst 4) 1 4]) (G := True ∧ True ∧ True) (by decide +kernel) ?_ ⟨trivial, trivial, trivial⟩ k
  rfl
theorem BL_back_26 {d Z L : Nat} {xs : Nat → Int32} {z : Nat} {Φ : Out → T2 → T3 → Nat → Prop} {I : T2} {J : T3} {x1 : Int32} {x2 : Int32} {x3 : Int32}  
    (k : Ev d Z L xs mL_back 27 [some (.ref 0), some (.int x1), some (.int x2), some (.int x3), none] [.int 0] I J z Φ) : Ev d Z L xs mL_back 26 [some (.ref 0), some (.int x1), some (.int x2), some (.int x3), none] [] I J z Φ := by
  refine Ev.blk (ops := [oI (.iconst 0) 1 0]) (G := True ∧ True) (by decide +kernel) ?_ ⟨trivial, trivial⟩ k
  rfl
theorem BL_split_0 {d Z L : Nat} {xs : Nat → Int32} {z : Nat} {Φ : Out → T2 → T3 → Nat → Prop} {I : T2} {J : T3}   
    (k : Ev d Z L xs mL_split 3 [some (.ref 0), some (.ref 158), none] [.ref 0, .int 0, .ref 158] I J z Φ) : Ev d Z L xs mL_split 0 [some (.ref 0), some (.ref 158), none] [] I J z Φ := by
  refine Ev.blk (ops := [o0 (.aload_n 1) 1, oI (.iconst 0) 1 0, o0 (.aload_n 0) 1]) (G := True ∧ True ∧ True ∧ True) (by decide +kernel) ?_ ⟨trivial, trivial, trivial, trivial⟩ k
  rfl
theorem BL_split_6 {d Z L : Nat} {xs : Nat → Int32} {z : Nat} {Φ : Out → T2 → T3 → Nat → Prop} {I : T2} {J : T3} {xs1 : Int32} {xs2 : Int32}  (g1 : vp_in xs1 1)
    (k : Ev d Z L xs mL_split 14 [some (.ref 0), some (.ref 158), none] [] I (up3 J 158 xs1.toNatClampNeg xs2.toInt64) z Φ) : Ev d Z L xs mL_split 6 [some (.ref 0), some (.ref 158), none] [.int xs2, .int xs1, .ref 158] I J z Φ := by
  refine Ev.blk (ops := [o0 (.i2l) 1, o0 (.lastore) 1, oK (.goto 6) 3 14 0]) (G := True ∧ (kd 158 = 9 ∧ vp_in xs1 (ln 158)) ∧ True ∧ True) (by decide +kernel) ?_ ⟨trivial, ⟨(by decide), g1⟩, trivial, trivial⟩ k
  rfl
theorem BL_split_11 {d Z L : Nat} {xs : Nat → Int32} {z : Nat} {Φ : Out → T2 → T3 → Nat → Prop} {I : T2} {J : T3} {as0 : Nat}  
    (k : Ev d Z L xs mL_split 13 [some (.ref 0), some (.ref 158), some (.ref as0)] [.int 1] I J z Φ) : Ev d Z L xs mL_split 11 [some (.ref 0), some (.ref 158), none] [.ref as0] I J z Φ := by
  refine Ev.blk (ops := [o0 (.astore_n 2) 1, oI (.iconst 1) 1 1]) (G := True ∧ True ∧ True) (by decide +kernel) ?_ ⟨trivial, trivial, trivial⟩ k
  rfl
theorem BL_split_14 {d Z L : Nat} {xs : Nat → Int32} {z : Nat} {Φ : Out → T2 → T3 → Nat → Prop} {I : T2} {J : T3}   
    (k : Ev d Z L xs mL_split 15 [some (.ref 0), some (.ref 158), none] [.int 0] I J z Φ) : Ev d Z L xs mL_split 14 [some (.ref 0), some (.ref 158), none] [] I J z Φ := by
  refine Ev.blk (ops := [oI (.iconst 0) 1 0]) (G := True ∧ True) (by decide +kernel) ?_ ⟨trivial, trivial⟩ k
  rfl
theorem BL_deliver_0 {d Z L : Nat} {xs : Nat → Int32} {z : Nat} {Φ : Out → T2 → T3 → Nat → Prop} {I : T2} {J : T3} {x1 : Int32}  
    (k : Ev d Z L xs mL_deliver 4 [some (.ref 0), some (.int x1), some (.ref 158), none] [.int x1, .ref 0, .int 0, .ref 158] I J z Φ) : Ev d Z L xs mL_deliver 0 [some (.ref 0), some (.int x1), some (.ref 158), none] [] I J z Φ := by
  refine Ev.blk (ops := [o0 (.aload_n 2) 1, oI (.iconst 0) 1 0, o0 (.aload_n 0) 1, o0 (.iload_n 1) 1]) (G := True ∧ True ∧ True ∧ True ∧ True) (by decide +kernel) ?_ ⟨trivial, trivial, trivial, trivial, trivial⟩ k
  rfl
theorem BL_deliver_7 {d Z L : Nat} {xs : Nat → Int32} {z : Nat} {Φ : Out → T2 → T3 → Nat → Prop} {I : T2} {J : T3} {x1 : Int32} {xs1 : Int32} {xs2 : Int32}  (g1 : vp_in xs1 1)
    (k : Ev d Z L xs mL_deliver 15 [some (.ref 0), some (.int x1), some (.ref 158), none] [] I (up3 J 158 xs1.toNatClampNeg xs2.toInt64) z Φ) : Ev d Z L xs mL_deliver 7 [some (.ref 0), some (.int x1), some (.ref 158), none] [.int xs2, .int xs1, .ref 158] I J z Φ := by
  refine Ev.blk (ops := [o0 (.i2l) 1, o0 (.lastore) 1, oK (.goto 6) 3 15 0]) (G := True ∧ (kd 158 = 9 ∧ vp_in xs1 (ln 158)) ∧ True ∧ True) (by decide +kernel) ?_ ⟨trivial, ⟨(by decide), g1⟩, trivial, trivial⟩ k
  rfl
theorem BL_deliver_12 {d Z L : Nat} {xs : Nat → Int32} {z : Nat} {Φ : Out → T2 → T3 → Nat → Prop} {I : T2} {J : T3} {x1 : Int32} {as0 : Nat}  
    (k : Ev d Z L xs mL_deliver 14 [some (.ref 0), some (.int x1), some (.ref 158), some (.ref as0)] [.int 1] I J z Φ) : Ev d Z L xs mL_deliver 12 [some (.ref 0), some (.int x1), some (.ref 158), none] [.ref as0] I J z Φ := by
  refine Ev.blk (ops := [o0 (.astore_n 3) 1, oI (.iconst 1) 1 1]) (G := True ∧ True ∧ True) (by decide +kernel) ?_ ⟨trivial, trivial, trivial⟩ k
  rfl
theorem BL_deliver_15 {d Z L : Nat} {xs : Nat → Int32} {z : Nat} {Φ : Out → T2 → T3 → Nat → Prop} {I : T2} {J : T3} {x1 : Int32}  
    (k : Ev d Z L xs mL_deliver 16 [some (.ref 0), some (.int x1), some (.ref 158), none] [.int 0] I J z Φ) : Ev d Z L xs mL_deliver 15 [some (.ref 0), some (.int x1), some (.ref 158), none] [] I J z Φ := by
  refine Ev.blk (ops := [oI (.iconst 0) 1 0]) (G := True ∧ True) (by decide +kernel) ?_ ⟨trivial, trivial⟩ k
  rfl
theorem BL_deliverAll_0 {d Z L : Nat} {xs : Nat → Int32} {z : Nat} {Φ : Out → T2 → T3 → Nat → Prop} {I : T2} {J : T3} {x1 : Int32}  
    (k : Ev d Z L xs mL_deliverAll 4 [some (.ref 0), some (.int x1), some (.ref 158), none] [.int x1, .ref 0, .int 0, .ref 158] I J z Φ) : Ev d Z L xs mL_deliverAll 0 [some (.ref 0), some (.int x1), some (.ref 158), none] [] I J z Φ := by
  refine Ev.blk (ops := [o0 (.aload_n 2) 1, oI (.iconst 0) 1 0, o0 (.aload_n 0) 1, o0 (.iload_n 1) 1]) (G := True ∧ True ∧ True ∧ True ∧ True) (by decide +kernel) ?_ ⟨trivial, trivial, trivial, trivial, trivial⟩ k
  rfl
theorem BL_deliverAll_7 {d Z L : Nat} {xs : Nat → Int32} {z : Nat} {Φ : Out → T2 → T3 → Nat → Prop} {I : T2} {J : T3} {x1 : Int32} {xs1 : Int32} {xs2 : Int32}  (g1 : vp_in xs1 1)
    (k : Ev d Z L xs mL_deliverAll 15 [some (.ref 0), some (.int x1), some (.ref 158), none] [] I (up3 J 158 xs1.toNatClampNeg xs2.toInt64) z Φ) : Ev d Z L xs mL_deliverAll 7 [some (.ref 0), some (.int x1), some (.ref 158), none] [.int xs2, .int xs1, .ref 158] I J z Φ := by
  refine Ev.blk (ops := [o0 (.i2l) 1, o0 (.lastore) 1, oK (.goto 6) 3 15 0]) (G := True ∧ (kd 158 = 9 ∧ vp_in xs1 (ln 158)) ∧ True ∧ True) (by decide +kernel) ?_ ⟨trivial, ⟨(by decide), g1⟩, trivial, trivial⟩ k
  rfl
theorem BL_deliverAll_12 {d Z L : Nat} {xs : Nat → Int32} {z : Nat} {Φ : Out → T2 → T3 → Nat → Prop} {I : T2} {J : T3} {x1 : Int32} {as0 : Nat}  
    (k : Ev d Z L xs mL_deliverAll 14 [some (.ref 0), some (.int x1), some (.ref 158), some (.ref as0)] [.int 1] I J z Φ) : Ev d Z L xs mL_deliverAll 12 [some (.ref 0), some (.int x1), some (.ref 158), none] [.ref as0] I J z Φ := by
  refine Ev.blk (ops := [o0 (.astore_n 3) 1, oI (.iconst 1) 1 1]) (G := True ∧ True ∧ True) (by decide +kernel) ?_ ⟨trivial, trivial, trivial⟩ k
  rfl
theorem BL_deliverAll_15 {d Z L : Nat} {xs : Nat → Int32} {z : Nat} {Φ : Out → T2 → T3 → Nat → Prop} {I : T2} {J : T3} {x1 : Int32}  
    (k : Ev d Z L xs mL_deliverAll 16 [some (.ref 0), some (.int x1), some (.ref 158), none] [.int 0] I J z Φ) : Ev d Z L xs mL_deliverAll 15 [some (.ref 0), some (.int x1), some (.ref 158), none] [] I J z Φ := by
  refine Ev.blk (ops := [oI (.iconst 0) 1 0]) (G := True ∧ True) (by decide +kernel) ?_ ⟨trivial, trivial⟩ k
  rfl
theorem BL_lose_0 {d Z L : Nat} {xs : Nat → Int32} {z : Nat} {Φ : Out → T2 → T3 → Nat → Prop} {I : T2} {J : T3} {x1 : Int32}  
    (k : Ev d Z L xs mL_lose 2 [some (.ref 0), some (.int x1), none] [.int x1, .ref 0] I J z Φ) : Ev d Z L xs mL_lose 0 [some (.ref 0), some (.int x1), none] [] I J z Φ := by
  refine Ev.blk (ops := [o0 (.aload_n 0) 1, o0 (.iload_n 1) 1]) (G := True ∧ True ∧ True) (by decide +kernel) ?_ ⟨trivial, trivial, trivial⟩ k
  rfl
theorem BL_lose_5 {d Z L : Nat} {xs : Nat → Int32} {z : Nat} {Φ : Out → T2 → T3 → Nat → Prop} {I : T2} {J : T3} {x1 : Int32}  
    (k : Ev d Z L xs mL_lose 11 [some (.ref 0), some (.int x1), none] [] I J z Φ) : Ev d Z L xs mL_lose 5 [some (.ref 0), some (.int x1), none] [] I J z Φ := by
  refine Ev.blk (ops := [oK (.goto 6) 3 11 0]) (G := True ∧ True) (by decide +kernel) ?_ ⟨trivial, trivial⟩ k
  rfl
theorem BL_lose_8 {d Z L : Nat} {xs : Nat → Int32} {z : Nat} {Φ : Out → T2 → T3 → Nat → Prop} {I : T2} {J : T3} {x1 : Int32} {as0 : Nat}  
    (k : Ev d Z L xs mL_lose 10 [some (.ref 0), some (.int x1), some (.ref as0)] [.int 1] I J z Φ) : Ev d Z L xs mL_lose 8 [some (.ref 0), some (.int x1), none] [.ref as0] I J z Φ := by
  refine Ev.blk (ops := [o0 (.astore_n 2) 1, oI (.iconst 1) 1 1]) (G := True ∧ True ∧ True) (by decide +kernel) ?_ ⟨trivial, trivial, trivial⟩ k
  rfl
theorem BL_lose_11 {d Z L : Nat} {xs : Nat → Int32} {z : Nat} {Φ : Out → T2 → T3 → Nat → Prop} {I : T2} {J : T3} {x1 : Int32}  
    (k : Ev d Z L xs mL_lose 12 [some (.ref 0), some (.int x1), none] [.int 0] I J z Φ) : Ev d Z L xs mL_lose 11 [some (.ref 0), some (.int x1), none] [] I J z Φ := by
  refine Ev.blk (ops := [oI (.iconst 0) 1 0]) (G := True ∧ True) (by decide +kernel) ?_ ⟨trivial, trivial⟩ k
  rfl
theorem BL_twice_0 {d Z L : Nat} {xs : Nat → Int32} {z : Nat} {Φ : Out → T2 → T3 → Nat → Prop} {I : T2} {J : T3} {x1 : Int32}  
    (k : Ev d Z L xs mL_twice 2 [some (.ref 0), some (.int x1), none] [.int x1, .ref 0] I J z Φ) : Ev d Z L xs mL_twice 0 [some (.ref 0), some (.int x1), none] [] I J z Φ := by
  refine Ev.blk (ops := [o0 (.aload_n 0) 1, o0 (.iload_n 1) 1]) (G := True ∧ True ∧ True) (by decide +kernel) ?_ ⟨trivial, trivial, trivial⟩ k
  rfl
theorem BL_twice_5 {d Z L : Nat} {xs : Nat → Int32} {z : Nat} {Φ : Out → T2 → T3 → Nat → Prop} {I : T2} {J : T3} {x1 : Int32}  
    (k : Ev d Z L xs mL_twice 14 [some (.ref 0), some (.int x1), none] [] I J z Φ) : Ev d Z L xs mL_twice 5 [some (.ref 0), some (.int x1), none] [] I J z Φ := by
  refine Ev.blk (ops := [oK (.goto 9) 3 14 0]) (G := True ∧ True) (by decide +kernel) ?_ ⟨trivial, trivial⟩ k
  rfl
theorem BL_twice_8 {d Z L : Nat} {xs : Nat → Int32} {z : Nat} {Φ : Out → T2 → T3 → Nat → Prop} {I : T2} {J : T3} {x1 : Int32} {as0 : Nat}  
    (k : Ev d Z L xs mL_twice 10 [some (.ref 0), some (.int x1), some (.ref as0)] [.int 1] I J z Φ) : Ev d Z L xs mL_twice 8 [some (.ref 0), some (.int x1), none] [.ref as0] I J z Φ := by
  refine Ev.blk (ops := [o0 (.astore_n 2) 1, oI (.iconst 1) 1 1]) (G := True ∧ True ∧ True) (by decide +kernel) ?_ ⟨trivial, trivial, trivial⟩ k
  rfl
theorem BL_twice_11 {d Z L : Nat} {xs : Nat → Int32} {z : Nat} {Φ : Out → T2 → T3 → Nat → Prop} {I : T2} {J : T3} {x1 : Int32} {as0 : Nat}  
    (k : Ev d Z L xs mL_twice 13 [some (.ref 0), some (.int x1), some (.ref as0)] [.int 2] I J z Φ) : Ev d Z L xs mL_twice 11 [some (.ref 0), some (.int x1), none] [.ref as0] I J z Φ := by
  refine Ev.blk (ops := [o0 (.astore_n 2) 1, oI (.iconst 2) 1 2]) (G := True ∧ True ∧ True) (by decide +kernel) ?_ ⟨trivial, trivial, trivial⟩ k
  rfl
theorem BL_twice_14 {d Z L : Nat} {xs : Nat → Int32} {z : Nat} {Φ : Out → T2 → T3 → Nat → Prop} {I : T2} {J : T3} {x1 : Int32}  
    (k : Ev d Z L xs mL_twice 15 [some (.ref 0), some (.int x1), none] [.int 0] I J z Φ) : Ev d Z L xs mL_twice 14 [some (.ref 0), some (.int x1), none] [] I J z Φ := by
  refine Ev.blk (ops := [oI (.iconst 0) 1 0]) (G := True ∧ True) (by decide +kernel) ?_ ⟨trivial, trivial⟩ k
  rfl
theorem BL_resend_0 {d Z L : Nat} {xs : Nat → Int32} {z : Nat} {Φ : Out → T2 → T3 → Nat → Prop} {I : T2} {J : T3} {x1 : Int32}  
    (k : Ev d Z L xs mL_resend 4 [some (.ref 0), some (.int x1), some (.ref 158), none] [.int x1, .ref 0, .int 0, .ref 158] I J z Φ) : Ev d Z L xs mL_resend 0 [some (.ref 0), some (.int x1), some (.ref 158), none] [] I J z Φ := by
  refine Ev.blk (ops := [o0 (.aload_n 2) 1, oI (.iconst 0) 1 0, o0 (.aload_n 0) 1, o0 (.iload_n 1) 1]) (G := True ∧ True ∧ True ∧ True ∧ True) (by decide +kernel) ?_ ⟨trivial, trivial, trivial, trivial, trivial⟩ k
  rfl
theorem BL_resend_7 {d Z L : Nat} {xs : Nat → Int32} {z : Nat} {Φ : Out → T2 → T3 → Nat → Prop} {I : T2} {J : T3} {x1 : Int32} {xs1 : Int32} {xs2 : Int32}  (g1 : vp_in xs1 1)
    (k : Ev d Z L xs mL_resend 15 [some (.ref 0), some (.int x1), some (.ref 158), none] [] I (up3 J 158 xs1.toNatClampNeg xs2.toInt64) z Φ) : Ev d Z L xs mL_resend 7 [some (.ref 0), some (.int x1), some (.ref 158), none] [.int xs2, .int xs1, .ref 158] I J z Φ := by
  refine Ev.blk (ops := [o0 (.i2l) 1, o0 (.lastore) 1, oK (.goto 6) 3 15 0]) (G := True ∧ (kd 158 = 9 ∧ vp_in xs1 (ln 158)) ∧ True ∧ True) (by decide +kernel) ?_ ⟨trivial, ⟨(by decide), g1⟩, trivial, trivial⟩ k
  rfl
theorem BL_resend_12 {d Z L : Nat} {xs : Nat → Int32} {z : Nat} {Φ : Out → T2 → T3 → Nat → Prop} {I : T2} {J : T3} {x1 : Int32} {as0 : Nat}  
    (k : Ev d Z L xs mL_resend 14 [some (.ref 0), some (.int x1), some (.ref 158), some (.ref as0)] [.int 1] I J z Φ) : Ev d Z L xs mL_resend 12 [some (.ref 0), some (.int x1), some (.ref 158), none] [.ref as0] I J z Φ := by
  refine Ev.blk (ops := [o0 (.astore_n 3) 1, oI (.iconst 1) 1 1]) (G := True ∧ True ∧ True) (by decide +kernel) ?_ ⟨trivial, trivial, trivial⟩ k
  rfl
theorem BL_resend_15 {d Z L : Nat} {xs : Nat → Int32} {z : Nat} {Φ : Out → T2 → T3 → Nat → Prop} {I : T2} {J : T3} {x1 : Int32}  
    (k : Ev d Z L xs mL_resend 16 [some (.ref 0), some (.int x1), some (.ref 158), none] [.int 0] I J z Φ) : Ev d Z L xs mL_resend 15 [some (.ref 0), some (.int x1), some (.ref 158), none] [] I J z Φ := by
  refine Ev.blk (ops := [oI (.iconst 0) 1 0]) (G := True ∧ True) (by decide +kernel) ?_ ⟨trivial, trivial⟩ k
  rfl
theorem BL_letter_0 {d Z L : Nat} {xs : Nat → Int32} {z : Nat} {Φ : Out → T2 → T3 → Nat → Prop} {I : T2} {J : T3} {x1 : Int32} {x2 : Int32}  
    (k : Ev d Z L xs mL_letter 5 [some (.ref 0), some (.int x1), some (.int x2), some (.ref 158), none] [.int x2, .int x1, .ref 0, .int 0, .ref 158] I J z Φ) : Ev d Z L xs mL_letter 0 [some (.ref 0), some (.int x1), some (.int x2), some (.ref 158), none] [] I J z Φ := by
  refine Ev.blk (ops := [o0 (.aload_n 3) 1, oI (.iconst 0) 1 0, o0 (.aload_n 0) 1, o0 (.iload_n 1) 1, o0 (.iload_n 2) 1]) (G := True ∧ True ∧ True ∧ True ∧ True ∧ True) (by decide +kernel) ?_ ⟨trivial, trivial, trivial, trivial, trivial, trivial⟩ k
  rfl
theorem BL_letter_8 {d Z L : Nat} {xs : Nat → Int32} {z : Nat} {Φ : Out → T2 → T3 → Nat → Prop} {I : T2} {J : T3} {x1 : Int32} {x2 : Int32} {xs1 : Int32} {xs2 : Int32}  (g1 : vp_in xs1 1)
    (k : Ev d Z L xs mL_letter 21 [some (.ref 0), some (.int x1), some (.int x2), some (.ref 158), none] [] I (up3 J 158 xs1.toNatClampNeg xs2.toInt64) z Φ) : Ev d Z L xs mL_letter 8 [some (.ref 0), some (.int x1), some (.int x2), some (.ref 158), none] [.int xs2, .int xs1, .ref 158] I J z Φ := by
  refine Ev.blk (ops := [o0 (.i2l) 1, o0 (.lastore) 1, oK (.goto 11) 3 21 0]) (G := True ∧ (kd 158 = 9 ∧ vp_in xs1 (ln 158)) ∧ True ∧ True) (by decide +kernel) ?_ ⟨trivial, ⟨(by decide), g1⟩, trivial, trivial⟩ k
  rfl
theorem BL_letter_13 {d Z L : Nat} {xs : Nat → Int32} {z : Nat} {Φ : Out → T2 → T3 → Nat → Prop} {I : T2} {J : T3} {x1 : Int32} {x2 : Int32} {as0 : Nat}  
    (k : Ev d Z L xs mL_letter 16 [some (.ref 0), some (.int x1), some (.int x2), some (.ref 158), some (.ref as0)] [.int 1] I J z Φ) : Ev d Z L xs mL_letter 13 [some (.ref 0), some (.int x1), some (.int x2), some (.ref 158), none] [.ref as0] I J z Φ := by
  refine Ev.blk (ops := [o0 (.astore 4) 2, oI (.iconst 1) 1 1]) (G := True ∧ True ∧ True) (by decide +kernel) ?_ ⟨trivial, trivial, trivial⟩ k
  rfl
theorem BL_letter_17 {d Z L : Nat} {xs : Nat → Int32} {z : Nat} {Φ : Out → T2 → T3 → Nat → Prop} {I : T2} {J : T3} {x1 : Int32} {x2 : Int32} {as0 : Nat}  
    (k : Ev d Z L xs mL_letter 20 [some (.ref 0), some (.int x1), some (.int x2), some (.ref 158), some (.ref as0)] [.int 2] I J z Φ) : Ev d Z L xs mL_letter 17 [some (.ref 0), some (.int x1), some (.int x2), some (.ref 158), none] [.ref as0] I J z Φ := by
  refine Ev.blk (ops := [o0 (.astore 4) 2, oI (.iconst 2) 1 2]) (G := True ∧ True ∧ True) (by decide +kernel) ?_ ⟨trivial, trivial, trivial⟩ k
  rfl
theorem BL_letter_21 {d Z L : Nat} {xs : Nat → Int32} {z : Nat} {Φ : Out → T2 → T3 → Nat → Prop} {I : T2} {J : T3} {x1 : Int32} {x2 : Int32}  
    (k : Ev d Z L xs mL_letter 22 [some (.ref 0), some (.int x1), some (.int x2), some (.ref 158), none] [.int 0] I J z Φ) : Ev d Z L xs mL_letter 21 [some (.ref 0), some (.int x1), some (.int x2), some (.ref 158), none] [] I J z Φ := by
  refine Ev.blk (ops := [oI (.iconst 0) 1 0]) (G := True ∧ True) (by decide +kernel) ?_ ⟨trivial, trivial⟩ k
  rfl
theorem BL_crash_0 {d Z L : Nat} {xs : Nat → Int32} {z : Nat} {Φ : Out → T2 → T3 → Nat → Prop} {I : T2} {J : T3} {x1 : Int32}  
    (k : Ev d Z L xs mL_crash 2 [some (.ref 0), some (.int x1), none] [.int x1, .ref 0] I J z Φ) : Ev d Z L xs mL_crash 0 [some (.ref 0), some (.int x1), none] [] I J z Φ := by
  refine Ev.blk (ops := [o0 (.aload_n 0) 1, o0 (.iload_n 1) 1]) (G := True ∧ True ∧ True) (by decide +kernel) ?_ ⟨trivial, trivial, trivial⟩ k
  rfl
theorem BL_crash_5 {d Z L : Nat} {xs : Nat → Int32} {z : Nat} {Φ : Out → T2 → T3 → Nat → Prop} {I : T2} {J : T3} {x1 : Int32}  
    (k : Ev d Z L xs mL_crash 14 [some (.ref 0), some (.int x1), none] [] I J z Φ) : Ev d Z L xs mL_crash 5 [some (.ref 0), some (.int x1), none] [] I J z Φ := by
  refine Ev.blk (ops := [oK (.goto 9) 3 14 0]) (G := True ∧ True) (by decide +kernel) ?_ ⟨trivial, trivial⟩ k
  rfl
theorem BL_crash_8 {d Z L : Nat} {xs : Nat → Int32} {z : Nat} {Φ : Out → T2 → T3 → Nat → Prop} {I : T2} {J : T3} {x1 : Int32} {as0 : Nat}  
    (k : Ev d Z L xs mL_crash 10 [some (.ref 0), some (.int x1), some (.ref as0)] [.int 1] I J z Φ) : Ev d Z L xs mL_crash 8 [some (.ref 0), some (.int x1), none] [.ref as0] I J z Φ := by
  refine Ev.blk (ops := [o0 (.astore_n 2) 1, oI (.iconst 1) 1 1]) (G := True ∧ True ∧ True) (by decide +kernel) ?_ ⟨trivial, trivial, trivial⟩ k
  rfl
theorem BL_crash_11 {d Z L : Nat} {xs : Nat → Int32} {z : Nat} {Φ : Out → T2 → T3 → Nat → Prop} {I : T2} {J : T3} {x1 : Int32} {as0 : Nat}  
    (k : Ev d Z L xs mL_crash 13 [some (.ref 0), some (.int x1), some (.ref as0)] [.int 2] I J z Φ) : Ev d Z L xs mL_crash 11 [some (.ref 0), some (.int x1), none] [.ref as0] I J z Φ := by
  refine Ev.blk (ops := [o0 (.astore_n 2) 1, oI (.iconst 2) 1 2]) (G := True ∧ True ∧ True) (by decide +kernel) ?_ ⟨trivial, trivial, trivial⟩ k
  rfl
theorem BL_crash_14 {d Z L : Nat} {xs : Nat → Int32} {z : Nat} {Φ : Out → T2 → T3 → Nat → Prop} {I : T2} {J : T3} {x1 : Int32}  
    (k : Ev d Z L xs mL_crash 15 [some (.ref 0), some (.int x1), none] [.int 0] I J z Φ) : Ev d Z L xs mL_crash 14 [some (.ref 0), some (.int x1), none] [] I J z Φ := by
  refine Ev.blk (ops := [oI (.iconst 0) 1 0]) (G := True ∧ True) (by decide +kernel) ?_ ⟨trivial, trivial⟩ k
  rfl
theorem BL_restart_0 {d Z L : Nat} {xs : Nat → Int32} {z : Nat} {Φ : Out → T2 → T3 → Nat → Prop} {I : T2} {J : T3} {x1 : Int32}  
    (k : Ev d Z L xs mL_restart 4 [some (.ref 0), some (.int x1), some (.ref 158), none] [.int x1, .ref 0, .int 0, .ref 158] I J z Φ) : Ev d Z L xs mL_restart 0 [some (.ref 0), some (.int x1), some (.ref 158), none] [] I J z Φ := by
  refine Ev.blk (ops := [o0 (.aload_n 2) 1, oI (.iconst 0) 1 0, o0 (.aload_n 0) 1, o0 (.iload_n 1) 1]) (G := True ∧ True ∧ True ∧ True ∧ True) (by decide +kernel) ?_ ⟨trivial, trivial, trivial, trivial, trivial⟩ k
  rfl
theorem BL_restart_10 {d Z L : Nat} {xs : Nat → Int32} {z : Nat} {Φ : Out → T2 → T3 → Nat → Prop} {I : T2} {J : T3} {x1 : Int32} {xs1 : Int32}  
    (k : Ev d Z L xs mL_restart 15 [some (.ref 0), some (.int x1), some (.ref 158), none] [.long 1, .int xs1, .ref 158] I J z Φ) : Ev d Z L xs mL_restart 10 [some (.ref 0), some (.int x1), some (.ref 158), none] [.int xs1, .ref 158] I J z Φ := by
  refine Ev.blk (ops := [oL (.lconst 1) 1 1, oK (.goto 4) 3 15 0]) (G := True ∧ True ∧ True) (by decide +kernel) ?_ ⟨trivial, trivial, trivial⟩ k
  rfl
theorem BL_restart_14 {d Z L : Nat} {xs : Nat → Int32} {z : Nat} {Φ : Out → T2 → T3 → Nat → Prop} {I : T2} {J : T3} {x1 : Int32} {xs1 : Int32}  
    (k : Ev d Z L xs mL_restart 15 [some (.ref 0), some (.int x1), some (.ref 158), none] [.long 0, .int xs1, .ref 158] I J z Φ) : Ev d Z L xs mL_restart 14 [some (.ref 0), some (.int x1), some (.ref 158), none] [.int xs1, .ref 158] I J z Φ := by
  refine Ev.blk (ops := [oL (.lconst 0) 1 0]) (G := True ∧ True) (by decide +kernel) ?_ ⟨trivial, trivial⟩ k
  rfl
theorem BL_restart_15 {d Z L : Nat} {xs : Nat → Int32} {z : Nat} {Φ : Out → T2 → T3 → Nat → Prop} {I : T2} {J : T3} {x1 : Int32} {xs1 : Int32} {ys2 : Int64}  (g1 : vp_in xs1 1)
    (k : Ev d Z L xs mL_restart 22 [some (.ref 0), some (.int x1), some (.ref 158), none] [] I (up3 J 158 xs1.toNatClampNeg ys2) z Φ) : Ev d Z L xs mL_restart 15 [some (.ref 0), some (.int x1), some (.ref 158), none] [.long ys2, .int xs1, .ref 158] I J z Φ := by
  refine Ev.blk (ops := [o0 (.lastore) 1, oK (.goto 6) 3 22 0]) (G := (kd 158 = 9 ∧ vp_in xs1 (ln 158)) ∧ True ∧ True) (by decide +kernel) ?_ ⟨⟨(by decide), g1⟩, trivial, trivial⟩ k
  rfl
theorem BL_restart_19 {d Z L : Nat} {xs : Nat → Int32} {z : Nat} {Φ : Out → T2 → T3 → Nat → Prop} {I : T2} {J : T3} {x1 : Int32} {as0 : Nat}  
    (k : Ev d Z L xs mL_restart 21 [some (.ref 0), some (.int x1), some (.ref 158), some (.ref as0)] [.int 1] I J z Φ) : Ev d Z L xs mL_restart 19 [some (.ref 0), some (.int x1), some (.ref 158), none] [.ref as0] I J z Φ := by
  refine Ev.blk (ops := [o0 (.astore_n 3) 1, oI (.iconst 1) 1 1]) (G := True ∧ True ∧ True) (by decide +kernel) ?_ ⟨trivial, trivial, trivial⟩ k
  rfl
theorem BL_restart_22 {d Z L : Nat} {xs : Nat → Int32} {z : Nat} {Φ : Out → T2 → T3 → Nat → Prop} {I : T2} {J : T3} {x1 : Int32}  
    (k : Ev d Z L xs mL_restart 23 [some (.ref 0), some (.int x1), some (.ref 158), none] [.int 0] I J z Φ) : Ev d Z L xs mL_restart 22 [some (.ref 0), some (.int x1), some (.ref 158), none] [] I J z Φ := by
  refine Ev.blk (ops := [oI (.iconst 0) 1 0]) (G := True ∧ True) (by decide +kernel) ?_ ⟨trivial, trivial⟩ k
  rfl
theorem BL_about_0 {d Z L : Nat} {xs : Nat → Int32} {z : Nat} {Φ : Out → T2 → T3 → Nat → Prop} {I : T2} {J : T3} {x1 : Int32} {x2 : Int32}  
    (k : Ev d Z L xs mL_about 5 [some (.ref 0), some (.int x1), some (.int x2), some (.ref 158), none] [.int x2, .int x1, .ref 0, .int 0, .ref 158] I J z Φ) : Ev d Z L xs mL_about 0 [some (.ref 0), some (.int x1), some (.int x2), some (.ref 158), none] [] I J z Φ := by
  refine Ev.blk (ops := [o0 (.aload_n 3) 1, oI (.iconst 0) 1 0, o0 (.aload_n 0) 1, o0 (.iload_n 1) 1, o0 (.iload_n 2) 1]) (G := True ∧ True ∧ True ∧ True ∧ True ∧ True) (by decide +kernel) ?_ ⟨trivial, trivial, trivial, trivial, trivial, trivial⟩ k
  rfl
theorem BL_about_8 {d Z L : Nat} {xs : Nat → Int32} {z : Nat} {Φ : Out → T2 → T3 → Nat → Prop} {I : T2} {J : T3} {x1 : Int32} {x2 : Int32} {xs1 : Int32} {ys2 : Int64}  (g1 : vp_in xs1 1)
    (k : Ev d Z L xs mL_about 20 [some (.ref 0), some (.int x1), some (.int x2), some (.ref 158), none] [] I (up3 J 158 xs1.toNatClampNeg ys2) z Φ) : Ev d Z L xs mL_about 8 [some (.ref 0), some (.int x1), some (.int x2), some (.ref 158), none] [.long ys2, .int xs1, .ref 158] I J z Φ := by
  refine Ev.blk (ops := [o0 (.lastore) 1, oK (.goto 11) 3 20 0]) (G := (kd 158 = 9 ∧ vp_in xs1 (ln 158)) ∧ True ∧ True) (by decide +kernel) ?_ ⟨⟨(by decide), g1⟩, trivial, trivial⟩ k
  rfl
theorem BL_about_12 {d Z L : Nat} {xs : Nat → Int32} {z : Nat} {Φ : Out → T2 → T3 → Nat → Prop} {I : T2} {J : T3} {x1 : Int32} {x2 : Int32} {as0 : Nat}  
    (k : Ev d Z L xs mL_about 15 [some (.ref 0), some (.int x1), some (.int x2), some (.ref 158), some (.ref as0)] [.int 1] I J z Φ) : Ev d Z L xs mL_about 12 [some (.ref 0), some (.int x1), some (.int x2), some (.ref 158), none] [.ref as0] I J z Φ := by
  refine Ev.blk (ops := [o0 (.astore 4) 2, oI (.iconst 1) 1 1]) (G := True ∧ True ∧ True) (by decide +kernel) ?_ ⟨trivial, trivial, trivial⟩ k
  rfl
theorem BL_about_16 {d Z L : Nat} {xs : Nat → Int32} {z : Nat} {Φ : Out → T2 → T3 → Nat → Prop} {I : T2} {J : T3} {x1 : Int32} {x2 : Int32} {as0 : Nat}  
    (k : Ev d Z L xs mL_about 19 [some (.ref 0), some (.int x1), some (.int x2), some (.ref 158), some (.ref as0)] [.int 2] I J z Φ) : Ev d Z L xs mL_about 16 [some (.ref 0), some (.int x1), some (.int x2), some (.ref 158), none] [.ref as0] I J z Φ := by
  refine Ev.blk (ops := [o0 (.astore 4) 2, oI (.iconst 2) 1 2]) (G := True ∧ True ∧ True) (by decide +kernel) ?_ ⟨trivial, trivial, trivial⟩ k
  rfl
theorem BL_about_20 {d Z L : Nat} {xs : Nat → Int32} {z : Nat} {Φ : Out → T2 → T3 → Nat → Prop} {I : T2} {J : T3} {x1 : Int32} {x2 : Int32}  
    (k : Ev d Z L xs mL_about 21 [some (.ref 0), some (.int x1), some (.int x2), some (.ref 158), none] [.int 0] I J z Φ) : Ev d Z L xs mL_about 20 [some (.ref 0), some (.int x1), some (.int x2), some (.ref 158), none] [] I J z Φ := by
  refine Ev.blk (ops := [oI (.iconst 0) 1 0]) (G := True ∧ True) (by decide +kernel) ?_ ⟨trivial, trivial⟩ k
  rfl
theorem BL_has_0 {d Z L : Nat} {xs : Nat → Int32} {z : Nat} {Φ : Out → T2 → T3 → Nat → Prop} {I : T2} {J : T3} {x1 : Int32} {x2 : Int32} {x3 : Int32}  
    (k : Ev d Z L xs mL_has 7 [some (.ref 0), some (.int x1), some (.int x2), some (.int x3), some (.ref 158), none] [.int x3, .int x2, .int x1, .ref 0, .int 0, .ref 158] I J z Φ) : Ev d Z L xs mL_has 0 [some (.ref 0), some (.int x1), some (.int x2), some (.int x3), some (.ref 158), none] [] I J z Φ := by
  refine Ev.blk (ops := [o0 (.aload 4) 2, oI (.iconst 0) 1 0, o0 (.aload_n 0) 1, o0 (.iload_n 1) 1, o0 (.iload_n 2) 1, o0 (.iload_n 3) 1]) (G := True ∧ True ∧ True ∧ True ∧ True ∧ True ∧ True) (by decide +kernel) ?_ ⟨trivial, trivial, trivial, trivial, trivial, trivial, trivial⟩ k
  rfl
theorem BL_has_10 {d Z L : Nat} {xs : Nat → Int32} {z : Nat} {Φ : Out → T2 → T3 → Nat → Prop} {I : T2} {J : T3} {x1 : Int32} {x2 : Int32} {x3 : Int32} {xs1 : Int32} {xs2 : Int32}  (g1 : vp_in xs1 1)
    (k : Ev d Z L xs mL_has 23 [some (.ref 0), some (.int x1), some (.int x2), some (.int x3), some (.ref 158), none] [] I (up3 J 158 xs1.toNatClampNeg xs2.toInt64) z Φ) : Ev d Z L xs mL_has 10 [some (.ref 0), some (.int x1), some (.int x2), some (.int x3), some (.ref 158), none] [.int xs2, .int xs1, .ref 158] I J z Φ := by
  refine Ev.blk (ops := [o0 (.i2l) 1, o0 (.lastore) 1, oK (.goto 11) 3 23 0]) (G := True ∧ (kd 158 = 9 ∧ vp_in xs1 (ln 158)) ∧ True ∧ True) (by decide +kernel) ?_ ⟨trivial, ⟨(by decide), g1⟩, trivial, trivial⟩ k
  rfl
theorem BL_has_15 {d Z L : Nat} {xs : Nat → Int32} {z : Nat} {Φ : Out → T2 → T3 → Nat → Prop} {I : T2} {J : T3} {x1 : Int32} {x2 : Int32} {x3 : Int32} {as0 : Nat}  
    (k : Ev d Z L xs mL_has 18 [some (.ref 0), some (.int x1), some (.int x2), some (.int x3), some (.ref 158), some (.ref as0)] [.int 1] I J z Φ) : Ev d Z L xs mL_has 15 [some (.ref 0), some (.int x1), some (.int x2), some (.int x3), some (.ref 158), none] [.ref as0] I J z Φ := by
  refine Ev.blk (ops := [o0 (.astore 5) 2, oI (.iconst 1) 1 1]) (G := True ∧ True ∧ True) (by decide +kernel) ?_ ⟨trivial, trivial, trivial⟩ k
  rfl
theorem BL_has_19 {d Z L : Nat} {xs : Nat → Int32} {z : Nat} {Φ : Out → T2 → T3 → Nat → Prop} {I : T2} {J : T3} {x1 : Int32} {x2 : Int32} {x3 : Int32} {as0 : Nat}  
    (k : Ev d Z L xs mL_has 22 [some (.ref 0), some (.int x1), some (.int x2), some (.int x3), some (.ref 158), some (.ref as0)] [.int 2] I J z Φ) : Ev d Z L xs mL_has 19 [some (.ref 0), some (.int x1), some (.int x2), some (.int x3), some (.ref 158), none] [.ref as0] I J z Φ := by
  refine Ev.blk (ops := [o0 (.astore 5) 2, oI (.iconst 2) 1 2]) (G := True ∧ True ∧ True) (by decide +kernel) ?_ ⟨trivial, trivial, trivial⟩ k
  rfl
theorem BL_has_23 {d Z L : Nat} {xs : Nat → Int32} {z : Nat} {Φ : Out → T2 → T3 → Nat → Prop} {I : T2} {J : T3} {x1 : Int32} {x2 : Int32} {x3 : Int32}  
    (k : Ev d Z L xs mL_has 24 [some (.ref 0), some (.int x1), some (.int x2), some (.int x3), some (.ref 158), none] [.int 0] I J z Φ) : Ev d Z L xs mL_has 23 [some (.ref 0), some (.int x1), some (.int x2), some (.int x3), some (.ref 158), none] [] I J z Φ := by
  refine Ev.blk (ops := [oI (.iconst 0) 1 0]) (G := True ∧ True) (by decide +kernel) ?_ ⟨trivial, trivial⟩ k
  rfl
theorem BL_busiest_0 {d Z L : Nat} {xs : Nat → Int32} {z : Nat} {Φ : Out → T2 → T3 → Nat → Prop} {I : T2} {J : T3} {x1 : Int32}  
    (k : Ev d Z L xs mL_busiest 4 [some (.ref 0), some (.int x1), some (.ref 158), none] [.int x1, .ref 0, .int 0, .ref 158] I J z Φ) : Ev d Z L xs mL_busiest 0 [some (.ref 0), some (.int x1), some (.ref 158), none] [] I J z Φ := by
  refine Ev.blk (ops := [o0 (.aload_n 2) 1, oI (.iconst 0) 1 0, o0 (.aload_n 0) 1, o0 (.iload_n 1) 1]) (G := True ∧ True ∧ True ∧ True ∧ True) (by decide +kernel) ?_ ⟨trivial, trivial, trivial, trivial, trivial⟩ k
  rfl
theorem BL_busiest_7 {d Z L : Nat} {xs : Nat → Int32} {z : Nat} {Φ : Out → T2 → T3 → Nat → Prop} {I : T2} {J : T3} {x1 : Int32} {xs1 : Int32} {xs2 : Int32}  (g1 : vp_in xs1 1)
    (k : Ev d Z L xs mL_busiest 15 [some (.ref 0), some (.int x1), some (.ref 158), none] [] I (up3 J 158 xs1.toNatClampNeg xs2.toInt64) z Φ) : Ev d Z L xs mL_busiest 7 [some (.ref 0), some (.int x1), some (.ref 158), none] [.int xs2, .int xs1, .ref 158] I J z Φ := by
  refine Ev.blk (ops := [o0 (.i2l) 1, o0 (.lastore) 1, oK (.goto 6) 3 15 0]) (G := True ∧ (kd 158 = 9 ∧ vp_in xs1 (ln 158)) ∧ True ∧ True) (by decide +kernel) ?_ ⟨trivial, ⟨(by decide), g1⟩, trivial, trivial⟩ k
  rfl
theorem BL_busiest_12 {d Z L : Nat} {xs : Nat → Int32} {z : Nat} {Φ : Out → T2 → T3 → Nat → Prop} {I : T2} {J : T3} {x1 : Int32} {as0 : Nat}  
    (k : Ev d Z L xs mL_busiest 14 [some (.ref 0), some (.int x1), some (.ref 158), some (.ref as0)] [.int 1] I J z Φ) : Ev d Z L xs mL_busiest 12 [some (.ref 0), some (.int x1), some (.ref 158), none] [.ref as0] I J z Φ := by
  refine Ev.blk (ops := [o0 (.astore_n 3) 1, oI (.iconst 1) 1 1]) (G := True ∧ True ∧ True) (by decide +kernel) ?_ ⟨trivial, trivial, trivial⟩ k
  rfl
theorem BL_busiest_15 {d Z L : Nat} {xs : Nat → Int32} {z : Nat} {Φ : Out → T2 → T3 → Nat → Prop} {I : T2} {J : T3} {x1 : Int32}  
    (k : Ev d Z L xs mL_busiest 16 [some (.ref 0), some (.int x1), some (.ref 158), none] [.int 0] I J z Φ) : Ev d Z L xs mL_busiest 15 [some (.ref 0), some (.int x1), some (.ref 158), none] [] I J z Φ := by
  refine Ev.blk (ops := [oI (.iconst 0) 1 0]) (G := True ∧ True) (by decide +kernel) ?_ ⟨trivial, trivial⟩ k
  rfl
theorem BL_count_0 {d Z L : Nat} {xs : Nat → Int32} {z : Nat} {Φ : Out → T2 → T3 → Nat → Prop} {I : T2} {J : T3} {x1 : Int32}  
    (k : Ev d Z L xs mL_count 4 [some (.ref 0), some (.int x1), some (.ref 158), none] [.int x1, .ref 0, .int 0, .ref 158] I J z Φ) : Ev d Z L xs mL_count 0 [some (.ref 0), some (.int x1), some (.ref 158), none] [] I J z Φ := by
  refine Ev.blk (ops := [o0 (.aload_n 2) 1, oI (.iconst 0) 1 0, o0 (.aload_n 0) 1, o0 (.iload_n 1) 1]) (G := True ∧ True ∧ True ∧ True ∧ True) (by decide +kernel) ?_ ⟨trivial, trivial, trivial, trivial, trivial⟩ k
  rfl
theorem BL_count_7 {d Z L : Nat} {xs : Nat → Int32} {z : Nat} {Φ : Out → T2 → T3 → Nat → Prop} {I : T2} {J : T3} {x1 : Int32} {xs1 : Int32} {xs2 : Int32}  (g1 : vp_in xs1 1)
    (k : Ev d Z L xs mL_count 15 [some (.ref 0), some (.int x1), some (.ref 158), none] [] I (up3 J 158 xs1.toNatClampNeg xs2.toInt64) z Φ) : Ev d Z L xs mL_count 7 [some (.ref 0), some (.int x1), some (.ref 158), none] [.int xs2, .int xs1, .ref 158] I J z Φ := by
  refine Ev.blk (ops := [o0 (.i2l) 1, o0 (.lastore) 1, oK (.goto 6) 3 15 0]) (G := True ∧ (kd 158 = 9 ∧ vp_in xs1 (ln 158)) ∧ True ∧ True) (by decide +kernel) ?_ ⟨trivial, ⟨(by decide), g1⟩, trivial, trivial⟩ k
  rfl
theorem BL_count_12 {d Z L : Nat} {xs : Nat → Int32} {z : Nat} {Φ : Out → T2 → T3 → Nat → Prop} {I : T2} {J : T3} {x1 : Int32} {as0 : Nat}  
    (k : Ev d Z L xs mL_count 14 [some (.ref 0), some (.int x1), some (.ref 158), some (.ref as0)] [.int 1] I J z Φ) : Ev d Z L xs mL_count 12 [some (.ref 0), some (.int x1), some (.ref 158), none] [.ref as0] I J z Φ := by
  refine Ev.blk (ops := [o0 (.astore_n 3) 1, oI (.iconst 1) 1 1]) (G := True ∧ True ∧ True) (by decide +kernel) ?_ ⟨trivial, trivial, trivial⟩ k
  rfl
theorem BL_count_15 {d Z L : Nat} {xs : Nat → Int32} {z : Nat} {Φ : Out → T2 → T3 → Nat → Prop} {I : T2} {J : T3} {x1 : Int32}  
    (k : Ev d Z L xs mL_count 16 [some (.ref 0), some (.int x1), some (.ref 158), none] [.int 0] I J z Φ) : Ev d Z L xs mL_count 15 [some (.ref 0), some (.int x1), some (.ref 158), none] [] I J z Φ := by
  refine Ev.blk (ops := [oI (.iconst 0) 1 0]) (G := True ∧ True) (by decide +kernel) ?_ ⟨trivial, trivial⟩ k
  rfl
theorem BL_law_3 {d Z L : Nat} {xs : Nat → Int32} {z : Nat} {Φ : Out → T2 → T3 → Nat → Prop} {I : T2} {J : T3}   
    (k : Ev d Z L xs mL_law 4 [some (.retAddr 0), none, none, none, none, none, none, none] [.ref 0, .ref 0] I J z Φ) : Ev d Z L xs mL_law 3 [some (.retAddr 0), none, none, none, none, none, none, none] [.ref 0] I J z Φ := by
  refine Ev.blk (ops := [o0 (.dup) 1]) (G := True ∧ True) (by decide +kernel) ?_ ⟨trivial, trivial⟩ k
  rfl
theorem BL_law_7 {d Z L : Nat} {xs : Nat → Int32} {z : Nat} {Φ : Out → T2 → T3 → Nat → Prop} {I : T2} {J : T3}   
    (k : Ev d Z L xs mL_law 8 [some (.retAddr 0), some (.ref 0), none, none, none, none, none, none] [] I J z Φ) : Ev d Z L xs mL_law 7 [some (.retAddr 0), none, none, none, none, none, none, none] [.ref 0] I J z Φ := by
  refine Ev.blk (ops := [o0 (.astore_n 1) 1]) (G := True ∧ True) (by decide +kernel) ?_ ⟨trivial, trivial⟩ k
  rfl
theorem BL_law_11 {d Z L : Nat} {xs : Nat → Int32} {z : Nat} {Φ : Out → T2 → T3 → Nat → Prop} {I : T2} {J : T3}   
    (k : Ev d Z L xs mL_law 12 [some (.retAddr 0), some (.ref 0), none, none, none, none, none, none] [.ref 136, .ref 136] I J z Φ) : Ev d Z L xs mL_law 11 [some (.retAddr 0), some (.ref 0), none, none, none, none, none, none] [.ref 136] I J z Φ := by
  refine Ev.blk (ops := [o0 (.dup) 1]) (G := True ∧ True) (by decide +kernel) ?_ ⟨trivial, trivial⟩ k
  rfl
theorem BL_law_15 {d Z L : Nat} {xs : Nat → Int32} {z : Nat} {Φ : Out → T2 → T3 → Nat → Prop} {I : T2} {J : T3}   
    (k : Ev d Z L xs mL_law 17 [some (.retAddr 0), some (.ref 0), some (.ref 136), none, none, none, none, none] [.int 1] I J z Φ) : Ev d Z L xs mL_law 15 [some (.retAddr 0), some (.ref 0), none, none, none, none, none, none] [.ref 136] I J z Φ := by
  refine Ev.blk (ops := [o0 (.astore_n 2) 1, oI (.iconst 1) 1 1]) (G := True ∧ True ∧ True) (by decide +kernel) ?_ ⟨trivial, trivial, trivial⟩ k
  rfl
theorem BL_law_19 {d Z L : Nat} {xs : Nat → Int32} {z : Nat} {Φ : Out → T2 → T3 → Nat → Prop} {I : T2} {J : T3}   
    (k : Ev d Z L xs mL_law 23 [some (.retAddr 0), some (.ref 0), some (.ref 136), some (.ref 158), some (.int 0), none, none, none] [] I J z Φ) : Ev d Z L xs mL_law 19 [some (.retAddr 0), some (.ref 0), some (.ref 136), none, none, none, none, none] [.ref 158] I J z Φ := by
  refine Ev.blk (ops := [o0 (.astore_n 3) 1, oI (.iconst 0) 1 0, o0 (.istore 4) 2]) (G := True ∧ True ∧ True ∧ True) (by decide +kernel) ?_ ⟨trivial, trivial, trivial, trivial⟩ k
  rfl
theorem BL_law_23 {d Z L : Nat} {xs : Nat → Int32} {z : Nat} {Φ : Out → T2 → T3 → Nat → Prop} {I : T2} {J : T3} {x4 : Int32}  (g1 : 0 < L)
    (k : Ev d Z L xs mL_law 29 [some (.retAddr 0), some (.ref 0), some (.ref 136), some (.ref 158), some (.int x4), none, none, none] [.int ((nI L) - 5), .int x4] I J z Φ) : Ev d Z L xs mL_law 23 [some (.retAddr 0), some (.ref 0), some (.ref 136), some (.ref 158), some (.int x4), none, none, none] [] I J z Φ := by
  refine Ev.blk (ops := [o0 (.iload 4) 2, o0 (.aload_n 0) 1, o0 (.arraylength) 1, oI (.iconst 5) 1 5, o0 (.isub) 1]) (G := True ∧ True ∧ (0 < L) ∧ True ∧ True ∧ True) (by decide +kernel) ?_ ⟨trivial, trivial, g1, trivial, trivial, trivial⟩ k
  rfl
theorem BL_law_32 {d Z L : Nat} {xs : Nat → Int32} {z : Nat} {Φ : Out → T2 → T3 → Nat → Prop} {I : T2} {J : T3} {x4 : Int32}  (g1 : vp_in x4 L)
    (k : Ev d Z L xs mL_law 39 [some (.retAddr 0), some (.ref 0), some (.ref 136), some (.ref 158), some (.int x4), none, none, none] [.int ((xs x4.toNatClampNeg) &&& 31)] I J z Φ) : Ev d Z L xs mL_law 32 [some (.retAddr 0), some (.ref 0), some (.ref 136), some (.ref 158), some (.int x4), none, none, none] [] I J z Φ := by
  refine Ev.blk (ops := [o0 (.aload_n 0) 1, o0 (.iload 4) 2, o0 (.iaload) 1, oI (.bipush 31) 2 31, o0 (.iand) 1]) (G := True ∧ True ∧ (vp_in x4 L) ∧ True ∧ True ∧ True) (by decide +kernel) ?_ ⟨trivial, trivial, g1, trivial, trivial, trivial⟩ k
  rfl
theorem BL_law_144 {d Z L : Nat} {xs : Nat → Int32} {z : Nat} {Φ : Out → T2 → T3 → Nat → Prop} {I : T2} {J : T3} {x4 : Int32}  (g1 : vp_in (x4 + 1) L) (g2 : vp_in (x4 + 2) L) (g3 : vp_in (x4 + 3) L) (g4 : vp_in (x4 + 4) L)
    (k : Ev d Z L xs mL_law 169 [some (.retAddr 0), some (.ref 0), some (.ref 136), some (.ref 158), some (.int x4), none, none, none] [.int (xs (x4 + 4).toNatClampNeg), .int (xs (x4 + 3).toNatClampNeg), .int (xs (x4 + 2).toNatClampNeg), .int (xs (x4 + 1).toNatClampNeg), .ref 0] I J z Φ) : Ev d Z L xs mL_law 144 [some (.retAddr 0), some (.ref 0), some (.ref 136), some (.ref 158), some (.int x4), none, none, none] [] I J z Φ := by
  refine Ev.blk (ops := [o0 (.aload_n 1) 1, o0 (.aload_n 0) 1, o0 (.iload 4) 2, oI (.iconst 1) 1 1, o0 (.iadd) 1, o0 (.iaload) 1, o0 (.aload_n 0) 1, o0 (.iload 4) 2, oI (.iconst 2) 1 2, o0 (.iadd) 1, o0 (.iaload) 1, o0 (.aload_n 0) 1, o0 (.iload 4) 2, oI (.iconst 3) 1 3, o0 (.iadd) 1, o0 (.iaload) 1, o0 (.aload_n 0) 1, o0 (.iload 4) 2, oI (.iconst 4) 1 4, o0 (.iadd) 1, o0 (.iaload) 1]) (G := True ∧ True ∧ True ∧ True ∧ True ∧ (vp_in (x4 + 1) L) ∧ True ∧ True ∧ True ∧ True ∧ (vp_in (x4 + 2) L) ∧ True ∧ True ∧ True ∧ True ∧ (vp_in (x4 + 3) L) ∧ True ∧ True ∧ True ∧ True ∧ (vp_in (x4 + 4) L) ∧ True) (by decide +kernel) ?_ ⟨trivial, trivial, trivial, trivial, trivial, g1, trivial, trivial, trivial, trivial, g2, trivial, trivial, trivial, trivial, g3, trivial, trivial, trivial, trivial, g4, trivial⟩ k
  rfl
theorem BL_law_172 {d Z L : Nat} {xs : Nat → Int32} {z : Nat} {Φ : Out → T2 → T3 → Nat → Prop} {I : T2} {J : T3} {x4 : Int32} {xs0 : Int32}  (g1 : vp_in (x4 + 1) L) (g2 : vp_in (x4 + 2) L) (g3 : vp_in (x4 + 3) L) (g4 : vp_in (x4 + 4) L)
    (k : Ev d Z L xs mL_law 199 [some (.retAddr 0), some (.ref 0), some (.ref 136), some (.ref 158), some (.int x4), some (.int xs0), none, none] [.int (xs (x4 + 4).toNatClampNeg), .int (xs (x4 + 3).toNatClampNeg), .int (xs (x4 + 2).toNatClampNeg), .int (xs (x4 + 1).toNatClampNeg), .ref 136] I J z Φ) : Ev d Z L xs mL_law 172 [some (.retAddr 0), some (.ref 0), some (.ref 136), some (.ref 158), some (.int x4), none, none, none] [.int xs0] I J z Φ := by
  refine Ev.blk (ops := [o0 (.istore 5) 2, o0 (.aload_n 2) 1, o0 (.aload_n 0) 1, o0 (.iload 4) 2, oI (.iconst 1) 1 1, o0 (.iadd) 1, o0 (.iaload) 1, o0 (.aload_n 0) 1, o0 (.iload 4) 2, oI (.iconst 2) 1 2, o0 (.iadd) 1, o0 (.iaload) 1, o0 (.aload_n 0) 1, o0 (.iload 4) 2, oI (.iconst 3) 1 3, o0 (.iadd) 1, o0 (.iaload) 1, o0 (.aload_n 0) 1, o0 (.iload 4) 2, oI (.iconst 4) 1 4, o0 (.iadd) 1, o0 (.iaload) 1]) (G := True ∧ True ∧ True ∧ True ∧ True ∧ True ∧ (vp_in (x4 + 1) L) ∧ True ∧ True ∧ True ∧ True ∧ (vp_in (x4 + 2) L) ∧ True ∧ True ∧ True ∧ True ∧ (vp_in (x4 + 3) L) ∧ True ∧ True ∧ True ∧ True ∧ (vp_in (x4 + 4) L) ∧ True) (by decide +kernel) ?_ ⟨trivial, trivial, trivial, trivial, trivial, trivial, g1, trivial, trivial, trivial, trivial, g2, trivial, trivial, trivial, trivial, g3, trivial, trivial, trivial, trivial, g4, trivial⟩ k
  rfl
theorem BL_law_202 {d Z L : Nat} {xs : Nat → Int32} {z : Nat} {Φ : Out → T2 → T3 → Nat → Prop} {I : T2} {J : T3} {x4 : Int32} {x5 : Int32}  
    (k : Ev d Z L xs mL_law 203 [some (.retAddr 0), some (.ref 0), some (.ref 136), some (.ref 158), some (.int x4), some (.int x5), none, none] [.ref 136] I J z Φ) : Ev d Z L xs mL_law 202 [some (.retAddr 0), some (.ref 0), some (.ref 136), some (.ref 158), some (.int x4), some (.int x5), none, none] [] I J z Φ := by
  refine Ev.blk (ops := [o0 (.aload_n 2) 1]) (G := True ∧ True) (by decide +kernel) ?_ ⟨trivial, trivial⟩ k
  rfl
theorem BL_law_206 {d Z L : Nat} {xs : Nat → Int32} {z : Nat} {Φ : Out → T2 → T3 → Nat → Prop} {I : T2} {J : T3} {x4 : Int32} {x5 : Int32} {xs0 : Int32}  
    (k : Ev d Z L xs mL_law 208 [some (.retAddr 0), some (.ref 0), some (.ref 136), some (.ref 158), some (.int x4), some (.int x5), none, none] [.int x5, .int xs0] I J z Φ) : Ev d Z L xs mL_law 206 [some (.retAddr 0), some (.ref 0), some (.ref 136), some (.ref 158), some (.int x4), some (.int x5), none, none] [.int xs0] I J z Φ := by
  refine Ev.blk (ops := [o0 (.iload 5) 2]) (G := True ∧ True) (by decide +kernel) ?_ ⟨trivial, trivial⟩ k
  rfl
theorem BL_law_211 {d Z L : Nat} {xs : Nat → Int32} {z : Nat} {Φ : Out → T2 → T3 → Nat → Prop} {I : T2} {J : T3} {x4 : Int32} {x5 : Int32}  
    (k : Ev d Z L xs mL_law 212 [some (.retAddr 0), some (.ref 0), some (.ref 136), some (.ref 158), some (.int x4), some (.int x5), none, none] [.int 0] I J z Φ) : Ev d Z L xs mL_law 211 [some (.retAddr 0), some (.ref 0), some (.ref 136), some (.ref 158), some (.int x4), some (.int x5), none, none] [] I J z Φ := by
  refine Ev.blk (ops := [oI (.iconst 0) 1 0]) (G := True ∧ True) (by decide +kernel) ?_ ⟨trivial, trivial⟩ k
  rfl
theorem BL_law_213 {d Z L : Nat} {xs : Nat → Int32} {z : Nat} {Φ : Out → T2 → T3 → Nat → Prop} {I : T2} {J : T3} {x4 : Int32} {x5 : Int32}  
    (k : Ev d Z L xs mL_law 1313 [some (.retAddr 0), some (.ref 0), some (.ref 136), some (.ref 158), some (.int x4), some (.int x5), none, none] [] I J z Φ) : Ev d Z L xs mL_law 213 [some (.retAddr 0), some (.ref 0), some (.ref 136), some (.ref 158), some (.int x4), some (.int x5), none, none] [] I J z Φ := by
  refine Ev.blk (ops := [oK (.goto 1100) 3 1313 0]) (G := True ∧ True) (by decide +kernel) ?_ ⟨trivial, trivial⟩ k
  rfl
theorem BL_law_216 {d Z L : Nat} {xs : Nat → Int32} {z : Nat} {Φ : Out → T2 → T3 → Nat → Prop} {I : T2} {J : T3} {x4 : Int32}  (g1 : vp_in (x4 + 1) L)
    (k : Ev d Z L xs mL_law 223 [some (.retAddr 0), some (.ref 0), some (.ref 136), some (.ref 158), some (.int x4), none, none, none] [.int (xs (x4 + 1).toNatClampNeg), .ref 0] I J z Φ) : Ev d Z L xs mL_law 216 [some (.retAddr 0), some (.ref 0), some (.ref 136), some (.ref 158), some (.int x4), none, none, none] [] I J z Φ := by
  refine Ev.blk (ops := [o0 (.aload_n 1) 1, o0 (.aload_n 0) 1, o0 (.iload 4) 2, oI (.iconst 1) 1 1, o0 (.iadd) 1, o0 (.iaload) 1]) (G := True ∧ True ∧ True ∧ True ∧ True ∧ (vp_in (x4 + 1) L) ∧ True) (by decide +kernel) ?_ ⟨trivial, trivial, trivial, trivial, trivial, g1, trivial⟩ k
  rfl
theorem BL_law_226 {d Z L : Nat} {xs : Nat → Int32} {z : Nat} {Φ : Out → T2 → T3 → Nat → Prop} {I : T2} {J : T3} {x4 : Int32} {xs0 : Int32}  (g1 : vp_in (x4 + 1) L)
    (k : Ev d Z L xs mL_law 235 [some (.retAddr 0), some (.ref 0), some (.ref 136), some (.ref 158), some (.int x4), some (.int xs0), none, none] [.int (xs (x4 + 1).toNatClampNeg), .ref 136] I J z Φ) : Ev d Z L xs mL_law 226 [some (.retAddr 0), some (.ref 0), some (.ref 136), some (.ref 158), some (.int x4), none, none, none] [.int xs0] I J z Φ := by
  refine Ev.blk (ops := [o0 (.istore 5) 2, o0 (.aload_n 2) 1, o0 (.aload_n 0) 1, o0 (.iload 4) 2, oI (.iconst 1) 1 1, o0 (.iadd) 1, o0 (.iaload) 1]) (G := True ∧ True ∧ True ∧ True ∧ True ∧ True ∧ (vp_in (x4 + 1) L) ∧ True) (by decide +kernel) ?_ ⟨trivial, trivial, trivial, trivial, trivial, trivial, g1, trivial⟩ k
  rfl
theorem BL_law_238 {d Z L : Nat} {xs : Nat → Int32} {z : Nat} {Φ : Out → T2 → T3 → Nat → Prop} {I : T2} {J : T3} {x4 : Int32} {x5 : Int32}  
    (k : Ev d Z L xs mL_law 239 [some (.retAddr 0), some (.ref 0), some (.ref 136), some (.ref 158), some (.int x4), some (.int x5), none, none] [.ref 136] I J z Φ) : Ev d Z L xs mL_law 238 [some (.retAddr 0), some (.ref 0), some (.ref 136), some (.ref 158), some (.int x4), some (.int x5), none, none] [] I J z Φ := by
  refine Ev.blk (ops := [o0 (.aload_n 2) 1]) (G := True ∧ True) (by decide +kernel) ?_ ⟨trivial, trivial⟩ k
  rfl
theorem BL_law_242 {d Z L : Nat} {xs : Nat → Int32} {z : Nat} {Φ : Out → T2 → T3 → Nat → Prop} {I : T2} {J : T3} {x4 : Int32} {x5 : Int32} {xs0 : Int32}  
    (k : Ev d Z L xs mL_law 244 [some (.retAddr 0), some (.ref 0), some (.ref 136), some (.ref 158), some (.int x4), some (.int x5), none, none] [.int x5, .int xs0] I J z Φ) : Ev d Z L xs mL_law 242 [some (.retAddr 0), some (.ref 0), some (.ref 136), some (.ref 158), some (.int x4), some (.int x5), none, none] [.int xs0] I J z Φ := by
  refine Ev.blk (ops := [o0 (.iload 5) 2]) (G := True ∧ True) (by decide +kernel) ?_ ⟨trivial, trivial⟩ k
  rfl
theorem BL_law_247 {d Z L : Nat} {xs : Nat → Int32} {z : Nat} {Φ : Out → T2 → T3 → Nat → Prop} {I : T2} {J : T3} {x4 : Int32} {x5 : Int32}  
    (k : Ev d Z L xs mL_law 248 [some (.retAddr 0), some (.ref 0), some (.ref 136), some (.ref 158), some (.int x4), some (.int x5), none, none] [.int 0] I J z Φ) : Ev d Z L xs mL_law 247 [some (.retAddr 0), some (.ref 0), some (.ref 136), some (.ref 158), some (.int x4), some (.int x5), none, none] [] I J z Φ := by
  refine Ev.blk (ops := [oI (.iconst 0) 1 0]) (G := True ∧ True) (by decide +kernel) ?_ ⟨trivial, trivial⟩ k
  rfl
theorem BL_law_249 {d Z L : Nat} {xs : Nat → Int32} {z : Nat} {Φ : Out → T2 → T3 → Nat → Prop} {I : T2} {J : T3} {x4 : Int32} {x5 : Int32}  
    (k : Ev d Z L xs mL_law 1313 [some (.retAddr 0), some (.ref 0), some (.ref 136), some (.ref 158), some (.int x4), some (.int x5), none, none] [] I J z Φ) : Ev d Z L xs mL_law 249 [some (.retAddr 0), some (.ref 0), some (.ref 136), some (.ref 158), some (.int x4), some (.int x5), none, none] [] I J z Φ := by
  refine Ev.blk (ops := [oK (.goto 1064) 3 1313 0]) (G := True ∧ True) (by decide +kernel) ?_ ⟨trivial, trivial⟩ k
  rfl
theorem BL_law_252 {d Z L : Nat} {xs : Nat → Int32} {z : Nat} {Φ : Out → T2 → T3 → Nat → Prop} {I : T2} {J : T3} {x4 : Int32}  (g1 : vp_in (x4 + 1) L) (g2 : vp_in (x4 + 2) L)
    (k : Ev d Z L xs mL_law 265 [some (.retAddr 0), some (.ref 0), some (.ref 136), some (.ref 158), some (.int x4), none, none, none] [.int (xs (x4 + 2).toNatClampNeg), .int (xs (x4 + 1).toNatClampNeg), .ref 0] I J z Φ) : Ev d Z L xs mL_law 252 [some (.retAddr 0), some (.ref 0), some (.ref 136), some (.ref 158), some (.int x4), none, none, none] [] I J z Φ := by
  refine Ev.blk (ops := [o0 (.aload_n 1) 1, o0 (.aload_n 0) 1, o0 (.iload 4) 2, oI (.iconst 1) 1 1, o0 (.iadd) 1, o0 (.iaload) 1, o0 (.aload_n 0) 1, o0 (.iload 4) 2, oI (.iconst 2) 1 2, o0 (.iadd) 1, o0 (.iaload) 1]) (G := True ∧ True ∧ True ∧ True ∧ True ∧ (vp_in (x4 + 1) L) ∧ True ∧ True ∧ True ∧ True ∧ (vp_in (x4 + 2) L) ∧ True) (by decide +kernel) ?_ ⟨trivial, trivial, trivial, trivial, trivial, g1, trivial, trivial, trivial, trivial, g2, trivial⟩ k
  rfl
theorem BL_law_268 {d Z L : Nat} {xs : Nat → Int32} {z : Nat} {Φ : Out → T2 → T3 → Nat → Prop} {I : T2} {J : T3} {x4 : Int32} {xs0 : Int32}  (g1 : vp_in (x4 + 1) L) (g2 : vp_in (x4 + 2) L)
    (k : Ev d Z L xs mL_law 283 [some (.retAddr 0), some (.ref 0), some (.ref 136), some (.ref 158), some (.int x4), some (.int xs0), none, none] [.int (xs (x4 + 2).toNatClampNeg), .int (xs (x4 + 1).toNatClampNeg), .ref 136] I J z Φ) : Ev d Z L xs mL_law 268 [some (.retAddr 0), some (.ref 0), some (.ref 136), some (.ref 158), some (.int x4), none, none, none] [.int xs0] I J z Φ := by
  refine Ev.blk (ops := [o0 (.istore 5) 2, o0 (.aload_n 2) 1, o0 (.aload_n 0) 1, o0 (.iload 4) 2, oI (.iconst 1) 1 1, o0 (.iadd) 1, o0 (.iaload) 1, o0 (.aload_n 0) 1, o0 (.iload 4) 2, oI (.iconst 2) 1 2, o0 (.iadd) 1, o0 (.iaload) 1]) (G := True ∧ True ∧ True ∧ True ∧ True ∧ True ∧ (vp_in (x4 + 1) L) ∧ True ∧ True ∧ True ∧ True ∧ (vp_in (x4 + 2) L) ∧ True) (by decide +kernel) ?_ ⟨trivial, trivial, trivial, trivial, trivial, trivial, g1, trivial, trivial, trivial, trivial, g2, trivial⟩ k
  rfl
theorem BL_law_286 {d Z L : Nat} {xs : Nat → Int32} {z : Nat} {Φ : Out → T2 → T3 → Nat → Prop} {I : T2} {J : T3} {x4 : Int32} {x5 : Int32}  
    (k : Ev d Z L xs mL_law 287 [some (.retAddr 0), some (.ref 0), some (.ref 136), some (.ref 158), some (.int x4), some (.int x5), none, none] [.ref 136] I J z Φ) : Ev d Z L xs mL_law 286 [some (.retAddr 0), some (.ref 0), some (.ref 136), some (.ref 158), some (.int x4), some (.int x5), none, none] [] I J z Φ := by
  refine Ev.blk (ops := [o0 (.aload_n 2) 1]) (G := True ∧ True) (by decide +kernel) ?_ ⟨trivial, trivial⟩ k
  rfl
theorem BL_law_290 {d Z L : Nat} {xs : Nat → Int32} {z : Nat} {Φ : Out → T2 → T3 → Nat → Prop} {I : T2} {J : T3} {x4 : Int32} {x5 : Int32} {xs0 : Int32}  
    (k : Ev d Z L xs mL_law 292 [some (.retAddr 0), some (.ref 0), some (.ref 136), some (.ref 158), some (.int x4), some (.int x5), none, none] [.int x5, .int xs0] I J z Φ) : Ev d Z L xs mL_law 290 [some (.retAddr 0), some (.ref 0), some (.ref 136), some (.ref 158), some (.int x4), some (.int x5), none, none] [.int xs0] I J z Φ := by
  refine Ev.blk (ops := [o0 (.iload 5) 2]) (G := True ∧ True) (by decide +kernel) ?_ ⟨trivial, trivial⟩ k
  rfl
theorem BL_law_295 {d Z L : Nat} {xs : Nat → Int32} {z : Nat} {Φ : Out → T2 → T3 → Nat → Prop} {I : T2} {J : T3} {x4 : Int32} {x5 : Int32}  
    (k : Ev d Z L xs mL_law 296 [some (.retAddr 0), some (.ref 0), some (.ref 136), some (.ref 158), some (.int x4), some (.int x5), none, none] [.int 0] I J z Φ) : Ev d Z L xs mL_law 295 [some (.retAddr 0), some (.ref 0), some (.ref 136), some (.ref 158), some (.int x4), some (.int x5), none, none] [] I J z Φ := by
  refine Ev.blk (ops := [oI (.iconst 0) 1 0]) (G := True ∧ True) (by decide +kernel) ?_ ⟨trivial, trivial⟩ k
  rfl
theorem BL_law_297 {d Z L : Nat} {xs : Nat → Int32} {z : Nat} {Φ : Out → T2 → T3 → Nat → Prop} {I : T2} {J : T3} {x4 : Int32} {x5 : Int32}  
    (k : Ev d Z L xs mL_law 1313 [some (.retAddr 0), some (.ref 0), some (.ref 136), some (.ref 158), some (.int x4), some (.int x5), none, none] [] I J z Φ) : Ev d Z L xs mL_law 297 [some (.retAddr 0), some (.ref 0), some (.ref 136), some (.ref 158), some (.int x4), some (.int x5), none, none] [] I J z Φ := by
  refine Ev.blk (ops := [oK (.goto 1016) 3 1313 0]) (G := True ∧ True) (by decide +kernel) ?_ ⟨trivial, trivial⟩ k
  rfl
theorem BL_law_300 {d Z L : Nat} {xs : Nat → Int32} {z : Nat} {Φ : Out → T2 → T3 → Nat → Prop} {I : T2} {J : T3} {x4 : Int32}  (g1 : vp_in (x4 + 1) L)
    (k : Ev d Z L xs mL_law 307 [some (.retAddr 0), some (.ref 0), some (.ref 136), some (.ref 158), some (.int x4), none, none, none] [.int (xs (x4 + 1).toNatClampNeg), .ref 0] I J z Φ) : Ev d Z L xs mL_law 300 [some (.retAddr 0), some (.ref 0), some (.ref 136), some (.ref 158), some (.int x4), none, none, none] [] I J z Φ := by
  refine Ev.blk (ops := [o0 (.aload_n 1) 1, o0 (.aload_n 0) 1, o0 (.iload 4) 2, oI (.iconst 1) 1 1, o0 (.iadd) 1, o0 (.iaload) 1]) (G := True ∧ True ∧ True ∧ True ∧ True ∧ (vp_in (x4 + 1) L) ∧ True) (by decide +kernel) ?_ ⟨trivial, trivial, trivial, trivial, trivial, g1, trivial⟩ k
  rfl
theorem BL_law_310 {d Z L : Nat} {xs : Nat → Int32} {z : Nat} {Φ : Out → T2 → T3 → Nat → Prop} {I : T2} {J : T3} {x4 : Int32} {xs0 : Int32}  (g1 : vp_in (x4 + 1) L)
    (k : Ev d Z L xs mL_law 319 [some (.retAddr 0), some (.ref 0), some (.ref 136), some (.ref 158), some (.int x4), some (.int xs0), none, none] [.int (xs (x4 + 1).toNatClampNeg), .ref 136] I J z Φ) : Ev d Z L xs mL_law 310 [some (.retAddr 0), some (.ref 0), some (.ref 136), some (.ref 158), some (.int x4), none, none, none] [.int xs0] I J z Φ := by
  refine Ev.blk (ops := [o0 (.istore 5) 2, o0 (.aload_n 2) 1, o0 (.aload_n 0) 1, o0 (.iload 4) 2, oI (.iconst 1) 1 1, o0 (.iadd) 1, o0 (.iaload) 1]) (G := True ∧ True ∧ True ∧ True ∧ True ∧ True ∧ (vp_in (x4 + 1) L) ∧ True) (by decide +kernel) ?_ ⟨trivial, trivial, trivial, trivial, trivial, trivial, g1, trivial⟩ k
  rfl
theorem BL_law_322 {d Z L : Nat} {xs : Nat → Int32} {z : Nat} {Φ : Out → T2 → T3 → Nat → Prop} {I : T2} {J : T3} {x4 : Int32} {x5 : Int32}  
    (k : Ev d Z L xs mL_law 323 [some (.retAddr 0), some (.ref 0), some (.ref 136), some (.ref 158), some (.int x4), some (.int x5), none, none] [.ref 136] I J z Φ) : Ev d Z L xs mL_law 322 [some (.retAddr 0), some (.ref 0), some (.ref 136), some (.ref 158), some (.int x4), some (.int x5), none, none] [] I J z Φ := by
  refine Ev.blk (ops := [o0 (.aload_n 2) 1]) (G := True ∧ True) (by decide +kernel) ?_ ⟨trivial, trivial⟩ k
  rfl
theorem BL_law_326 {d Z L : Nat} {xs : Nat → Int32} {z : Nat} {Φ : Out → T2 → T3 → Nat → Prop} {I : T2} {J : T3} {x4 : Int32} {x5 : Int32} {xs0 : Int32}  
    (k : Ev d Z L xs mL_law 328 [some (.retAddr 0), some (.ref 0), some (.ref 136), some (.ref 158), some (.int x4), some (.int x5), none, none] [.int x5, .int xs0] I J z Φ) : Ev d Z L xs mL_law 326 [some (.retAddr 0), some (.ref 0), some (.ref 136), some (.ref 158), some (.int x4), some (.int x5), none, none] [.int xs0] I J z Φ := by
  refine Ev.blk (ops := [o0 (.iload 5) 2]) (G := True ∧ True) (by decide +kernel) ?_ ⟨trivial, trivial⟩ k
  rfl
theorem BL_law_331 {d Z L : Nat} {xs : Nat → Int32} {z : Nat} {Φ : Out → T2 → T3 → Nat → Prop} {I : T2} {J : T3} {x4 : Int32} {x5 : Int32}  
    (k : Ev d Z L xs mL_law 332 [some (.retAddr 0), some (.ref 0), some (.ref 136), some (.ref 158), some (.int x4), some (.int x5), none, none] [.int 0] I J z Φ) : Ev d Z L xs mL_law 331 [some (.retAddr 0), some (.ref 0), some (.ref 136), some (.ref 158), some (.int x4), some (.int x5), none, none] [] I J z Φ := by
  refine Ev.blk (ops := [oI (.iconst 0) 1 0]) (G := True ∧ True) (by decide +kernel) ?_ ⟨trivial, trivial⟩ k
  rfl
theorem BL_law_333 {d Z L : Nat} {xs : Nat → Int32} {z : Nat} {Φ : Out → T2 → T3 → Nat → Prop} {I : T2} {J : T3} {x4 : Int32} {x5 : Int32}  
    (k : Ev d Z L xs mL_law 1313 [some (.retAddr 0), some (.ref 0), some (.ref 136), some (.ref 158), some (.int x4), some (.int x5), none, none] [] I J z Φ) : Ev d Z L xs mL_law 333 [some (.retAddr 0), some (.ref 0), some (.ref 136), some (.ref 158), some (.int x4), some (.int x5), none, none] [] I J z Φ := by
  refine Ev.blk (ops := [oK (.goto 980) 3 1313 0]) (G := True ∧ True) (by decide +kernel) ?_ ⟨trivial, trivial⟩ k
  rfl
theorem BL_law_336 {d Z L : Nat} {xs : Nat → Int32} {z : Nat} {Φ : Out → T2 → T3 → Nat → Prop} {I : T2} {J : T3} {x4 : Int32}  (g1 : vp_in (x4 + 1) L) (g2 : vp_in (x4 + 2) L)
    (k : Ev d Z L xs mL_law 350 [some (.retAddr 0), some (.ref 0), some (.ref 136), some (.ref 158), some (.int x4), none, none, none] [.ref 158, .int (xs (x4 + 2).toNatClampNeg), .int (xs (x4 + 1).toNatClampNeg), .ref 0] I J z Φ) : Ev d Z L xs mL_law 336 [some (.retAddr 0), some (.ref 0), some (.ref 136), some (.ref 158), some (.int x4), none, none, none] [] I J z Φ := by
  refine Ev.blk (ops := [o0 (.aload_n 1) 1, o0 (.aload_n 0) 1, o0 (.iload 4) 2, oI (.iconst 1) 1 1, o0 (.iadd) 1, o0 (.iaload) 1, o0 (.aload_n 0) 1, o0 (.iload 4) 2, oI (.iconst 2) 1 2, o0 (.iadd) 1, o0 (.iaload) 1, o0 (.aload_n 3) 1]) (G := True ∧ True ∧ True ∧ True ∧ True ∧ (vp_in (x4 + 1) L) ∧ True ∧ True ∧ True ∧ True ∧ (vp_in (x4 + 2) L) ∧ True ∧ True) (by decide +kernel) ?_ ⟨trivial, trivial, trivial, trivial, trivial, g1, trivial, trivial, trivial, trivial, g2, trivial, trivial⟩ k
  rfl
theorem BL_law_353 {d Z L : Nat} {xs : Nat → Int32} {z : Nat} {Φ : Out → T2 → T3 → Nat → Prop} {I : T2} {J : T3} {x4 : Int32} {xs0 : Int32}  (g1 : vp_in (x4 + 1) L) (g2 : vp_in (x4 + 2) L)
    (k : Ev d Z L xs mL_law 368 [some (.retAddr 0), some (.ref 0), some (.ref 136), some (.ref 158), some (.int x4), some (.int xs0), none, none] [.int (xs (x4 + 2).toNatClampNeg), .int (xs (x4 + 1).toNatClampNeg), .ref 136] I J z Φ) : Ev d Z L xs mL_law 353 [some (.retAddr 0), some (.ref 0), some (.ref 136), some (.ref 158), some (.int x4), none, none, none] [.int xs0] I J z Φ := by
  refine Ev.blk (ops := [o0 (.istore 5) 2, o0 (.aload_n 2) 1, o0 (.aload_n 0) 1, o0 (.iload 4) 2, oI (.iconst 1) 1 1, o0 (.iadd) 1, o0 (.iaload) 1, o0 (.aload_n 0) 1, o0 (.iload 4) 2, oI (.iconst 2) 1 2, o0 (.iadd) 1, o0 (.iaload) 1]) (G := True ∧ True ∧ True ∧ True ∧ True ∧ True ∧ (vp_in (x4 + 1) L) ∧ True ∧ True ∧ True ∧ True ∧ (vp_in (x4 + 2) L) ∧ True) (by decide +kernel) ?_ ⟨trivial, trivial, trivial, trivial, trivial, trivial, g1, trivial, trivial, trivial, trivial, g2, trivial⟩ k
  rfl
theorem BL_law_371 {d Z L : Nat} {xs : Nat → Int32} {z : Nat} {Φ : Out → T2 → T3 → Nat → Prop} {I : T2} {J : T3} {x4 : Int32} {x5 : Int32} {xs0 : Int32}  
    (k : Ev d Z L xs mL_law 374 [some (.retAddr 0), some (.ref 0), some (.ref 136), some (.ref 158), some (.int x4), some (.int x5), some (.int xs0), none] [.ref 136] I J z Φ) : Ev d Z L xs mL_law 371 [some (.retAddr 0), some (.ref 0), some (.ref 136), some (.ref 158), some (.int x4), some (.int x5), none, none] [.int xs0] I J z Φ := by
  refine Ev.blk (ops := [o0 (.istore 6) 2, o0 (.aload_n 2) 1]) (G := True ∧ True ∧ True) (by decide +kernel) ?_ ⟨trivial, trivial, trivial⟩ k
  rfl
theorem BL_law_377 {d Z L : Nat} {xs : Nat → Int32} {z : Nat} {Φ : Out → T2 → T3 → Nat → Prop} {I : T2} {J : T3} {x4 : Int32} {x5 : Int32} {x6 : Int32} {xs0 : Int32}  
    (k : Ev d Z L xs mL_law 379 [some (.retAddr 0), some (.ref 0), some (.ref 136), some (.ref 158), some (.int x4), some (.int x5), some (.int x6), none] [.int x5, .int xs0] I J z Φ) : Ev d Z L xs mL_law 377 [some (.retAddr 0), some (.ref 0), some (.ref 136), some (.ref 158), some (.int x4), some (.int x5), some (.int x6), none] [.int xs0] I J z Φ := by
  refine Ev.blk (ops := [o0 (.iload 5) 2]) (G := True ∧ True) (by decide +kernel) ?_ ⟨trivial, trivial⟩ k
  rfl
theorem BL_law_382 {d Z L : Nat} {xs : Nat → Int32} {z : Nat} {Φ : Out → T2 → T3 → Nat → Prop} {I : T2} {J : T3} {x4 : Int32} {x5 : Int32} {x6 : Int32}  
    (k : Ev d Z L xs mL_law 383 [some (.retAddr 0), some (.ref 0), some (.ref 136), some (.ref 158), some (.int x4), some (.int x5), some (.int x6), none] [.int 0] I J z Φ) : Ev d Z L xs mL_law 382 [some (.retAddr 0), some (.ref 0), some (.ref 136), some (.ref 158), some (.int x4), some (.int x5), some (.int x6), none] [] I J z Φ := by
  refine Ev.blk (ops := [oI (.iconst 0) 1 0]) (G := True ∧ True) (by decide +kernel) ?_ ⟨trivial, trivial⟩ k
  rfl
theorem BL_law_384 {d Z L : Nat} {xs : Nat → Int32} {z : Nat} {Φ : Out → T2 → T3 → Nat → Prop} {I : T2} {J : T3} {x4 : Int32} {x5 : Int32} {x6 : Int32}  
    (k : Ev d Z L xs mL_law 386 [some (.retAddr 0), some (.ref 0), some (.ref 136), some (.ref 158), some (.int x4), some (.int x5), some (.int x6), none] [.int x5] I J z Φ) : Ev d Z L xs mL_law 384 [some (.retAddr 0), some (.ref 0), some (.ref 136), some (.ref 158), some (.int x4), some (.int x5), some (.int x6), none] [] I J z Φ := by
  refine Ev.blk (ops := [o0 (.iload 5) 2]) (G := True ∧ True) (by decide +kernel) ?_ ⟨trivial, trivial⟩ k
  rfl
theorem BL_law_389 {d Z L : Nat} {xs : Nat → Int32} {z : Nat} {Φ : Out → T2 → T3 → Nat → Prop} {I : T2} {J : T3} {x4 : Int32} {x5 : Int32} {x6 : Int32}  (g1 : vp_in 0 1)
    (k : Ev d Z L xs mL_law 396 [some (.retAddr 0), some (.ref 0), some (.ref 136), some (.ref 158), some (.int x4), some (.int x5), some (.int x6), none] [.int (lg_cmp (J 158 (0 : Int32).toNatClampNeg) x6.toInt64)] I J z Φ) : Ev d Z L xs mL_law 389 [some (.retAddr 0), some (.ref 0), some (.ref 136), some (.ref 158), some (.int x4), some (.int x5), some (.int x6), none] [] I J z Φ := by
  refine Ev.blk (ops := [o0 (.aload_n 3) 1, oI (.iconst 0) 1 0, o0 (.laload) 1, o0 (.iload 6) 2, o0 (.i2l) 1, o0 (.lcmp) 1]) (G := True ∧ True ∧ (kd 158 = 9 ∧ vp_in 0 (ln 158)) ∧ True ∧ True ∧ True ∧ True) (by decide +kernel) ?_ ⟨trivial, trivial, ⟨(by decide), g1⟩, trivial, trivial, trivial, trivial⟩ k
  rfl
theorem BL_law_399 {d Z L : Nat} {xs : Nat → Int32} {z : Nat} {Φ : Out → T2 → T3 → Nat → Prop} {I : T2} {J : T3} {x4 : Int32} {x5 : Int32} {x6 : Int32}  
    (k : Ev d Z L xs mL_law 400 [some (.retAddr 0), some (.ref 0), some (.ref 136), some (.ref 158), some (.int x4), some (.int x5), some (.int x6), none] [.int 0] I J z Φ) : Ev d Z L xs mL_law 399 [some (.retAddr 0), some (.ref 0), some (.ref 136), some (.ref 158), some (.int x4), some (.int x5), some (.int x6), none] [] I J z Φ := by
  refine Ev.blk (ops := [oI (.iconst 0) 1 0]) (G := True ∧ True) (by decide +kernel) ?_ ⟨trivial, trivial⟩ k
  rfl
theorem BL_law_401 {d Z L : Nat} {xs : Nat → Int32} {z : Nat} {Φ : Out → T2 → T3 → Nat → Prop} {I : T2} {J : T3} {x4 : Int32} {x5 : Int32} {x6 : Int32}  
    (k : Ev d Z L xs mL_law 1313 [some (.retAddr 0), some (.ref 0), some (.ref 136), some (.ref 158), some (.int x4), some (.int x5), some (.int x6), none] [] I J z Φ) : Ev d Z L xs mL_law 401 [some (.retAddr 0), some (.ref 0), some (.ref 136), some (.ref 158), some (.int x4), some (.int x5), some (.int x6), none] [] I J z Φ := by
  refine Ev.blk (ops := [oK (.goto 912) 3 1313 0]) (G := True ∧ True) (by decide +kernel) ?_ ⟨trivial, trivial⟩ k
  rfl
theorem BL_law_404 {d Z L : Nat} {xs : Nat → Int32} {z : Nat} {Φ : Out → T2 → T3 → Nat → Prop} {I : T2} {J : T3} {x4 : Int32}  (g1 : vp_in (x4 + 1) L) (g2 : vp_in (x4 + 2) L)
    (k : Ev d Z L xs mL_law 417 [some (.retAddr 0), some (.ref 0), some (.ref 136), some (.ref 158), some (.int x4), none, none, none] [.int (xs (x4 + 2).toNatClampNeg), .int (xs (x4 + 1).toNatClampNeg), .ref 0] I J z Φ) : Ev d Z L xs mL_law 404 [some (.retAddr 0), some (.ref 0), some (.ref 136), some (.ref 158), some (.int x4), none, none, none] [] I J z Φ := by
  refine Ev.blk (ops := [o0 (.aload_n 1) 1, o0 (.aload_n 0) 1, o0 (.iload 4) 2, oI (.iconst 1) 1 1, o0 (.iadd) 1, o0 (.iaload) 1, o0 (.aload_n 0) 1, o0 (.iload 4) 2, oI (.iconst 2) 1 2, o0 (.iadd) 1, o0 (.iaload) 1]) (G := True ∧ True ∧ True ∧ True ∧ True ∧ (vp_in (x4 + 1) L) ∧ True ∧ True ∧ True ∧ True ∧ (vp_in (x4 + 2) L) ∧ True) (by decide +kernel) ?_ ⟨trivial, trivial, trivial, trivial, trivial, g1, trivial, trivial, trivial, trivial, g2, trivial⟩ k
  rfl
theorem BL_law_420 {d Z L : Nat} {xs : Nat → Int32} {z : Nat} {Φ : Out → T2 → T3 → Nat → Prop} {I : T2} {J : T3} {x4 : Int32} {xs0 : Int32}  (g1 : vp_in (x4 + 1) L) (g2 : vp_in (x4 + 2) L)
    (k : Ev d Z L xs mL_law 435 [some (.retAddr 0), some (.ref 0), some (.ref 136), some (.ref 158), some (.int x4), some (.int xs0), none, none] [.int (xs (x4 + 2).toNatClampNeg), .int (xs (x4 + 1).toNatClampNeg), .ref 136] I J z Φ) : Ev d Z L xs mL_law 420 [some (.retAddr 0), some (.ref 0), some (.ref 136), some (.ref 158), some (.int x4), none, none, none] [.int xs0] I J z Φ := by
  refine Ev.blk (ops := [o0 (.istore 5) 2, o0 (.aload_n 2) 1, o0 (.aload_n 0) 1, o0 (.iload 4) 2, oI (.iconst 1) 1 1, o0 (.iadd) 1, o0 (.iaload) 1, o0 (.aload_n 0) 1, o0 (.iload 4) 2, oI (.iconst 2) 1 2, o0 (.iadd) 1, o0 (.iaload) 1]) (G := True ∧ True ∧ True ∧ True ∧ True ∧ True ∧ (vp_in (x4 + 1) L) ∧ True ∧ True ∧ True ∧ True ∧ (vp_in (x4 + 2) L) ∧ True) (by decide +kernel) ?_ ⟨trivial, trivial, trivial, trivial, trivial, trivial, g1, trivial, trivial, trivial, trivial, g2, trivial⟩ k
  rfl
theorem BL_law_438 {d Z L : Nat} {xs : Nat → Int32} {z : Nat} {Φ : Out → T2 → T3 → Nat → Prop} {I : T2} {J : T3} {x4 : Int32} {x5 : Int32}  
    (k : Ev d Z L xs mL_law 439 [some (.retAddr 0), some (.ref 0), some (.ref 136), some (.ref 158), some (.int x4), some (.int x5), none, none] [.ref 136] I J z Φ) : Ev d Z L xs mL_law 438 [some (.retAddr 0), some (.ref 0), some (.ref 136), some (.ref 158), some (.int x4), some (.int x5), none, none] [] I J z Φ := by
  refine Ev.blk (ops := [o0 (.aload_n 2) 1]) (G := True ∧ True) (by decide +kernel) ?_ ⟨trivial, trivial⟩ k
  rfl
theorem BL_law_442 {d Z L : Nat} {xs : Nat → Int32} {z : Nat} {Φ : Out → T2 → T3 → Nat → Prop} {I : T2} {J : T3} {x4 : Int32} {x5 : Int32} {xs0 : Int32}  
    (k : Ev d Z L xs mL_law 444 [some (.retAddr 0), some (.ref 0), some (.ref 136), some (.ref 158), some (.int x4), some (.int x5), none, none] [.int x5, .int xs0] I J z Φ) : Ev d Z L xs mL_law 442 [some (.retAddr 0), some (.ref 0), some (.ref 136), some (.ref 158), some (.int x4), some (.int x5), none, none] [.int xs0] I J z Φ := by
  refine Ev.blk (ops := [o0 (.iload 5) 2]) (G := True ∧ True) (by decide +kernel) ?_ ⟨trivial, trivial⟩ k
  rfl
theorem BL_law_447 {d Z L : Nat} {xs : Nat → Int32} {z : Nat} {Φ : Out → T2 → T3 → Nat → Prop} {I : T2} {J : T3} {x4 : Int32} {x5 : Int32}  
    (k : Ev d Z L xs mL_law 448 [some (.retAddr 0), some (.ref 0), some (.ref 136), some (.ref 158), some (.int x4), some (.int x5), none, none] [.int 0] I J z Φ) : Ev d Z L xs mL_law 447 [some (.retAddr 0), some (.ref 0), some (.ref 136), some (.ref 158), some (.int x4), some (.int x5), none, none] [] I J z Φ := by
  refine Ev.blk (ops := [oI (.iconst 0) 1 0]) (G := True ∧ True) (by decide +kernel) ?_ ⟨trivial, trivial⟩ k
  rfl
theorem BL_law_449 {d Z L : Nat} {xs : Nat → Int32} {z : Nat} {Φ : Out → T2 → T3 → Nat → Prop} {I : T2} {J : T3} {x4 : Int32} {x5 : Int32}  
    (k : Ev d Z L xs mL_law 1313 [some (.retAddr 0), some (.ref 0), some (.ref 136), some (.ref 158), some (.int x4), some (.int x5), none, none] [] I J z Φ) : Ev d Z L xs mL_law 449 [some (.retAddr 0), some (.ref 0), some (.ref 136), some (.ref 158), some (.int x4), some (.int x5), none, none] [] I J z Φ := by
  refine Ev.blk (ops := [oK (.goto 864) 3 1313 0]) (G := True ∧ True) (by decide +kernel) ?_ ⟨trivial, trivial⟩ k
  rfl
theorem BL_law_452 {d Z L : Nat} {xs : Nat → Int32} {z : Nat} {Φ : Out → T2 → T3 → Nat → Prop} {I : T2} {J : T3} {x4 : Int32}  (g1 : vp_in (x4 + 1) L) (g2 : vp_in (x4 + 2) L) (g3 : vp_in (x4 + 3) L)
    (k : Ev d Z L xs mL_law 471 [some (.retAddr 0), some (.ref 0), some (.ref 136), some (.ref 158), some (.int x4), none, none, none] [.int (xs (x4 + 3).toNatClampNeg), .int (xs (x4 + 2).toNatClampNeg), .int (xs (x4 + 1).toNatClampNeg), .ref 0] I J z Φ) : Ev d Z L xs mL_law 452 [some (.retAddr 0), some (.ref 0), some (.ref 136), some (.ref 158), some (.int x4), none, none, none] [] I J z Φ := by
  refine Ev.blk (ops := [o0 (.aload_n 1) 1, o0 (.aload_n 0) 1, o0 (.iload 4) 2, oI (.iconst 1) 1 1, o0 (.iadd) 1, o0 (.iaload) 1, o0 (.aload_n 0) 1, o0 (.iload 4) 2, oI (.iconst 2) 1 2, o0 (.iadd) 1, o0 (.iaload) 1, o0 (.aload_n 0) 1, o0 (.iload 4) 2, oI (.iconst 3) 1 3, o0 (.iadd) 1, o0 (.iaload) 1]) (G := True ∧ True ∧ True ∧ True ∧ True ∧ (vp_in (x4 + 1) L) ∧ True ∧ True ∧ True ∧ True ∧ (vp_in (x4 + 2) L) ∧ True ∧ True ∧ True ∧ True ∧ (vp_in (x4 + 3) L) ∧ True) (by decide +kernel) ?_ ⟨trivial, trivial, trivial, trivial, trivial, g1, trivial, trivial, trivial, trivial, g2, trivial, trivial, trivial, trivial, g3, trivial⟩ k
  rfl
theorem BL_law_474 {d Z L : Nat} {xs : Nat → Int32} {z : Nat} {Φ : Out → T2 → T3 → Nat → Prop} {I : T2} {J : T3} {x4 : Int32} {xs0 : Int32}  (g1 : vp_in (x4 + 1) L) (g2 : vp_in (x4 + 2) L) (g3 : vp_in (x4 + 3) L)
    (k : Ev d Z L xs mL_law 495 [some (.retAddr 0), some (.ref 0), some (.ref 136), some (.ref 158), some (.int x4), some (.int xs0), none, none] [.int (xs (x4 + 3).toNatClampNeg), .int (xs (x4 + 2).toNatClampNeg), .int (xs (x4 + 1).toNatClampNeg), .ref 136] I J z Φ) : Ev d Z L xs mL_law 474 [some (.retAddr 0), some (.ref 0), some (.ref 136), some (.ref 158), some (.int x4), none, none, none] [.int xs0] I J z Φ := by
  refine Ev.blk (ops := [o0 (.istore 5) 2, o0 (.aload_n 2) 1, o0 (.aload_n 0) 1, o0 (.iload 4) 2, oI (.iconst 1) 1 1, o0 (.iadd) 1, o0 (.iaload) 1, o0 (.aload_n 0) 1, o0 (.iload 4) 2, oI (.iconst 2) 1 2, o0 (.iadd) 1, o0 (.iaload) 1, o0 (.aload_n 0) 1, o0 (.iload 4) 2, oI (.iconst 3) 1 3, o0 (.iadd) 1, o0 (.iaload) 1]) (G := True ∧ True ∧ True ∧ True ∧ True ∧ True ∧ (vp_in (x4 + 1) L) ∧ True ∧ True ∧ True ∧ True ∧ (vp_in (x4 + 2) L) ∧ True ∧ True ∧ True ∧ True ∧ (vp_in (x4 + 3) L) ∧ True) (by decide +kernel) ?_ ⟨trivial, trivial, trivial, trivial, trivial, trivial, g1, trivial, trivial, trivial, trivial, g2, trivial, trivial, trivial, trivial, g3, trivial⟩ k
  rfl
theorem BL_law_498 {d Z L : Nat} {xs : Nat → Int32} {z : Nat} {Φ : Out → T2 → T3 → Nat → Prop} {I : T2} {J : T3} {x4 : Int32} {x5 : Int32}  
    (k : Ev d Z L xs mL_law 499 [some (.retAddr 0), some (.ref 0), some (.ref 136), some (.ref 158), some (.int x4), some (.int x5), none, none] [.ref 136] I J z Φ) : Ev d Z L xs mL_law 498 [some (.retAddr 0), some (.ref 0), some (.ref 136), some (.ref 158), some (.int x4), some (.int x5), none, none] [] I J z Φ := by
  refine Ev.blk (ops := [o0 (.aload_n 2) 1]) (G := True ∧ True) (by decide +kernel) ?_ ⟨trivial, trivial⟩ k
  rfl
theorem BL_law_502 {d Z L : Nat} {xs : Nat → Int32} {z : Nat} {Φ : Out → T2 → T3 → Nat → Prop} {I : T2} {J : T3} {x4 : Int32} {x5 : Int32} {xs0 : Int32}  
    (k : Ev d Z L xs mL_law 504 [some (.retAddr 0), some (.ref 0), some (.ref 136), some (.ref 158), some (.int x4), some (.int x5), none, none] [.int x5, .int xs0] I J z Φ) : Ev d Z L xs mL_law 502 [some (.retAddr 0), some (.ref 0), some (.ref 136), some (.ref 158), some (.int x4), some (.int x5), none, none] [.int xs0] I J z Φ := by
  refine Ev.blk (ops := [o0 (.iload 5) 2]) (G := True ∧ True) (by decide +kernel) ?_ ⟨trivial, trivial⟩ k
  rfl
theorem BL_law_507 {d Z L : Nat} {xs : Nat → Int32} {z : Nat} {Φ : Out → T2 → T3 → Nat → Prop} {I : T2} {J : T3} {x4 : Int32} {x5 : Int32}  
    (k : Ev d Z L xs mL_law 508 [some (.retAddr 0), some (.ref 0), some (.ref 136), some (.ref 158), some (.int x4), some (.int x5), none, none] [.int 0] I J z Φ) : Ev d Z L xs mL_law 507 [some (.retAddr 0), some (.ref 0), some (.ref 136), some (.ref 158), some (.int x4), some (.int x5), none, none] [] I J z Φ := by
  refine Ev.blk (ops := [oI (.iconst 0) 1 0]) (G := True ∧ True) (by decide +kernel) ?_ ⟨trivial, trivial⟩ k
  rfl
theorem BL_law_509 {d Z L : Nat} {xs : Nat → Int32} {z : Nat} {Φ : Out → T2 → T3 → Nat → Prop} {I : T2} {J : T3} {x4 : Int32} {x5 : Int32}  
    (k : Ev d Z L xs mL_law 1313 [some (.retAddr 0), some (.ref 0), some (.ref 136), some (.ref 158), some (.int x4), some (.int x5), none, none] [] I J z Φ) : Ev d Z L xs mL_law 509 [some (.retAddr 0), some (.ref 0), some (.ref 136), some (.ref 158), some (.int x4), some (.int x5), none, none] [] I J z Φ := by
  refine Ev.blk (ops := [oK (.goto 804) 3 1313 0]) (G := True ∧ True) (by decide +kernel) ?_ ⟨trivial, trivial⟩ k
  rfl
theorem BL_law_512 {d Z L : Nat} {xs : Nat → Int32} {z : Nat} {Φ : Out → T2 → T3 → Nat → Prop} {I : T2} {J : T3} {x4 : Int32}  
    (k : Ev d Z L xs mL_law 514 [some (.retAddr 0), some (.ref 0), some (.ref 136), some (.ref 158), some (.int x4), none, none, none] [.ref 158, .ref 0] I J z Φ) : Ev d Z L xs mL_law 512 [some (.retAddr 0), some (.ref 0), some (.ref 136), some (.ref 158), some (.int x4), none, none, none] [] I J z Φ := by
  refine Ev.blk (ops := [o0 (.aload_n 1) 1, o0 (.aload_n 3) 1]) (G := True ∧ True ∧ True) (by decide +kernel) ?_ ⟨trivial, trivial, trivial⟩ k
  rfl
theorem BL_law_517 {d Z L : Nat} {xs : Nat → Int32} {z : Nat} {Φ : Out → T2 → T3 → Nat → Prop} {I : T2} {J : T3} {x4 : Int32} {xs0 : Int32}  
    (k : Ev d Z L xs mL_law 520 [some (.retAddr 0), some (.ref 0), some (.ref 136), some (.ref 158), some (.int x4), some (.int xs0), none, none] [.ref 136] I J z Φ) : Ev d Z L xs mL_law 517 [some (.retAddr 0), some (.ref 0), some (.ref 136), some (.ref 158), some (.int x4), none, none, none] [.int xs0] I J z Φ := by
  refine Ev.blk (ops := [o0 (.istore 5) 2, o0 (.aload_n 2) 1]) (G := True ∧ True ∧ True) (by decide +kernel) ?_ ⟨trivial, trivial, trivial⟩ k
  rfl
theorem BL_law_523 {d Z L : Nat} {xs : Nat → Int32} {z : Nat} {Φ : Out → T2 → T3 → Nat → Prop} {I : T2} {J : T3} {x4 : Int32} {x5 : Int32} {xs0 : Int32}  
    (k : Ev d Z L xs mL_law 526 [some (.retAddr 0), some (.ref 0), some (.ref 136), some (.ref 158), some (.int x4), some (.int x5), some (.int xs0), none] [.ref 136] I J z Φ) : Ev d Z L xs mL_law 523 [some (.retAddr 0), some (.ref 0), some (.ref 136), some (.ref 158), some (.int x4), some (.int x5), none, none] [.int xs0] I J z Φ := by
  refine Ev.blk (ops := [o0 (.istore 6) 2, o0 (.aload_n 2) 1]) (G := True ∧ True ∧ True) (by decide +kernel) ?_ ⟨trivial, trivial, trivial⟩ k
  rfl
theorem BL_law_529 {d Z L : Nat} {xs : Nat → Int32} {z : Nat} {Φ : Out → T2 → T3 → Nat → Prop} {I : T2} {J : T3} {x4 : Int32} {x5 : Int32} {x6 : Int32} {xs0 : Int32}  
    (k : Ev d Z L xs mL_law 531 [some (.retAddr 0), some (.ref 0), some (.ref 136), some (.ref 158), some (.int x4), some (.int x5), some (.int x6), none] [.int x5, .int xs0] I J z Φ) : Ev d Z L xs mL_law 529 [some (.retAddr 0), some (.ref 0), some (.ref 136), some (.ref 158), some (.int x4), some (.int x5), some (.int x6), none] [.int xs0] I J z Φ := by
  refine Ev.blk (ops := [o0 (.iload 5) 2]) (G := True ∧ True) (by decide +kernel) ?_ ⟨trivial, trivial⟩ k
  rfl
theorem BL_law_534 {d Z L : Nat} {xs : Nat → Int32} {z : Nat} {Φ : Out → T2 → T3 → Nat → Prop} {I : T2} {J : T3} {x4 : Int32} {x5 : Int32} {x6 : Int32}  
    (k : Ev d Z L xs mL_law 535 [some (.retAddr 0), some (.ref 0), some (.ref 136), some (.ref 158), some (.int x4), some (.int x5), some (.int x6), none] [.int 0] I J z Φ) : Ev d Z L xs mL_law 534 [some (.retAddr 0), some (.ref 0), some (.ref 136), some (.ref 158), some (.int x4), some (.int x5), some (.int x6), none] [] I J z Φ := by
  refine Ev.blk (ops := [oI (.iconst 0) 1 0]) (G := True ∧ True) (by decide +kernel) ?_ ⟨trivial, trivial⟩ k
  rfl
theorem BL_law_536 {d Z L : Nat} {xs : Nat → Int32} {z : Nat} {Φ : Out → T2 → T3 → Nat → Prop} {I : T2} {J : T3} {x4 : Int32} {x5 : Int32} {x6 : Int32}  
    (k : Ev d Z L xs mL_law 538 [some (.retAddr 0), some (.ref 0), some (.ref 136), some (.ref 158), some (.int x4), some (.int x5), some (.int x6), none] [.int x5] I J z Φ) : Ev d Z L xs mL_law 536 [some (.retAddr 0), some (.ref 0), some (.ref 136), some (.ref 158), some (.int x4), some (.int x5), some (.int x6), none] [] I J z Φ := by
  refine Ev.blk (ops := [o0 (.iload 5) 2]) (G := True ∧ True) (by decide +kernel) ?_ ⟨trivial, trivial⟩ k
  rfl
theorem BL_law_541 {d Z L : Nat} {xs : Nat → Int32} {z : Nat} {Φ : Out → T2 → T3 → Nat → Prop} {I : T2} {J : T3} {x4 : Int32} {x5 : Int32} {x6 : Int32}  (g1 : vp_in 0 1)
    (k : Ev d Z L xs mL_law 548 [some (.retAddr 0), some (.ref 0), some (.ref 136), some (.ref 158), some (.int x4), some (.int x5), some (.int x6), none] [.int (lg_cmp (J 158 (0 : Int32).toNatClampNeg) x6.toInt64)] I J z Φ) : Ev d Z L xs mL_law 541 [some (.retAddr 0), some (.ref 0), some (.ref 136), some (.ref 158), some (.int x4), some (.int x5), some (.int x6), none] [] I J z Φ := by
  refine Ev.blk (ops := [o0 (.aload_n 3) 1, oI (.iconst 0) 1 0, o0 (.laload) 1, o0 (.iload 6) 2, o0 (.i2l) 1, o0 (.lcmp) 1]) (G := True ∧ True ∧ (kd 158 = 9 ∧ vp_in 0 (ln 158)) ∧ True ∧ True ∧ True ∧ True) (by decide +kernel) ?_ ⟨trivial, trivial, ⟨(by decide), g1⟩, trivial, trivial, trivial, trivial⟩ k
  rfl
theorem BL_law_551 {d Z L : Nat} {xs : Nat → Int32} {z : Nat} {Φ : Out → T2 → T3 → Nat → Prop} {I : T2} {J : T3} {x4 : Int32} {x5 : Int32} {x6 : Int32}  
    (k : Ev d Z L xs mL_law 552 [some (.retAddr 0), some (.ref 0), some (.ref 136), some (.ref 158), some (.int x4), some (.int x5), some (.int x6), none] [.int 0] I J z Φ) : Ev d Z L xs mL_law 551 [some (.retAddr 0), some (.ref 0), some (.ref 136), some (.ref 158), some (.int x4), some (.int x5), some (.int x6), none] [] I J z Φ := by
  refine Ev.blk (ops := [oI (.iconst 0) 1 0]) (G := True ∧ True) (by decide +kernel) ?_ ⟨trivial, trivial⟩ k
  rfl
theorem BL_law_553 {d Z L : Nat} {xs : Nat → Int32} {z : Nat} {Φ : Out → T2 → T3 → Nat → Prop} {I : T2} {J : T3} {x4 : Int32} {x5 : Int32} {x6 : Int32}  
    (k : Ev d Z L xs mL_law 1313 [some (.retAddr 0), some (.ref 0), some (.ref 136), some (.ref 158), some (.int x4), some (.int x5), some (.int x6), none] [] I J z Φ) : Ev d Z L xs mL_law 553 [some (.retAddr 0), some (.ref 0), some (.ref 136), some (.ref 158), some (.int x4), some (.int x5), some (.int x6), none] [] I J z Φ := by
  refine Ev.blk (ops := [oK (.goto 760) 3 1313 0]) (G := True ∧ True) (by decide +kernel) ?_ ⟨trivial, trivial⟩ k
  rfl
theorem BL_law_556 {d Z L : Nat} {xs : Nat → Int32} {z : Nat} {Φ : Out → T2 → T3 → Nat → Prop} {I : T2} {J : T3} {x4 : Int32}  (g1 : vp_in (x4 + 1) L)
    (k : Ev d Z L xs mL_law 564 [some (.retAddr 0), some (.ref 0), some (.ref 136), some (.ref 158), some (.int x4), none, none, none] [.ref 158, .int (xs (x4 + 1).toNatClampNeg), .ref 0] I J z Φ) : Ev d Z L xs mL_law 556 [some (.retAddr 0), some (.ref 0), some (.ref 136), some (.ref 158), some (.int x4), none, none, none] [] I J z Φ := by
  refine Ev.blk (ops := [o0 (.aload_n 1) 1, o0 (.aload_n 0) 1, o0 (.iload 4) 2, oI (.iconst 1) 1 1, o0 (.iadd) 1, o0 (.iaload) 1, o0 (.aload_n 3) 1]) (G := True ∧ True ∧ True ∧ True ∧ True ∧ (vp_in (x4 + 1) L) ∧ True ∧ True) (by decide +kernel) ?_ ⟨trivial, trivial, trivial, trivial, trivial, g1, trivial, trivial⟩ k
  rfl
theorem BL_law_567 {d Z L : Nat} {xs : Nat → Int32} {z : Nat} {Φ : Out → T2 → T3 → Nat → Prop} {I : T2} {J : T3} {x4 : Int32} {xs0 : Int32}  (g1 : vp_in (x4 + 1) L)
    (k : Ev d Z L xs mL_law 576 [some (.retAddr 0), some (.ref 0), some (.ref 136), some (.ref 158), some (.int x4), some (.int xs0), none, none] [.int (xs (x4 + 1).toNatClampNeg), .ref 136] I J z Φ) : Ev d Z L xs mL_law 567 [some (.retAddr 0), some (.ref 0), some (.ref 136), some (.ref 158), some (.int x4), none, none, none] [.int xs0] I J z Φ := by
  refine Ev.blk (ops := [o0 (.istore 5) 2, o0 (.aload_n 2) 1, o0 (.aload_n 0) 1, o0 (.iload 4) 2, oI (.iconst 1) 1 1, o0 (.iadd) 1, o0 (.iaload) 1]) (G := True ∧ True ∧ True ∧ True ∧ True ∧ True ∧ (vp_in (x4 + 1) L) ∧ True) (by decide +kernel) ?_ ⟨trivial, trivial, trivial, trivial, trivial, trivial, g1, trivial⟩ k
  rfl
theorem BL_law_579 {d Z L : Nat} {xs : Nat → Int32} {z : Nat} {Φ : Out → T2 → T3 → Nat → Prop} {I : T2} {J : T3} {x4 : Int32} {x5 : Int32} {xs0 : Int32}  
    (k : Ev d Z L xs mL_law 582 [some (.retAddr 0), some (.ref 0), some (.ref 136), some (.ref 158), some (.int x4), some (.int x5), some (.int xs0), none] [.ref 136] I J z Φ) : Ev d Z L xs mL_law 579 [some (.retAddr 0), some (.ref 0), some (.ref 136), some (.ref 158), some (.int x4), some (.int x5), none, none] [.int xs0] I J z Φ := by
  refine Ev.blk (ops := [o0 (.istore 6) 2, o0 (.aload_n 2) 1]) (G := True ∧ True ∧ True) (by decide +kernel) ?_ ⟨trivial, trivial, trivial⟩ k
  rfl
theorem BL_law_585 {d Z L : Nat} {xs : Nat → Int32} {z : Nat} {Φ : Out → T2 → T3 → Nat → Prop} {I : T2} {J : T3} {x4 : Int32} {x5 : Int32} {x6 : Int32} {xs0 : Int32}  
    (k : Ev d Z L xs mL_law 587 [some (.retAddr 0), some (.ref 0), some (.ref 136), some (.ref 158), some (.int x4), some (.int x5), some (.int x6), none] [.int x5, .int xs0] I J z Φ) : Ev d Z L xs mL_law 585 [some (.retAddr 0), some (.ref 0), some (.ref 136), some (.ref 158), some (.int x4), some (.int x5), some (.int x6), none] [.int xs0] I J z Φ := by
  refine Ev.blk (ops := [o0 (.iload 5) 2]) (G := True ∧ True) (by decide +kernel) ?_ ⟨trivial, trivial⟩ k
  rfl
theorem BL_law_590 {d Z L : Nat} {xs : Nat → Int32} {z : Nat} {Φ : Out → T2 → T3 → Nat → Prop} {I : T2} {J : T3} {x4 : Int32} {x5 : Int32} {x6 : Int32}  
    (k : Ev d Z L xs mL_law 591 [some (.retAddr 0), some (.ref 0), some (.ref 136), some (.ref 158), some (.int x4), some (.int x5), some (.int x6), none] [.int 0] I J z Φ) : Ev d Z L xs mL_law 590 [some (.retAddr 0), some (.ref 0), some (.ref 136), some (.ref 158), some (.int x4), some (.int x5), some (.int x6), none] [] I J z Φ := by
  refine Ev.blk (ops := [oI (.iconst 0) 1 0]) (G := True ∧ True) (by decide +kernel) ?_ ⟨trivial, trivial⟩ k
  rfl
theorem BL_law_592 {d Z L : Nat} {xs : Nat → Int32} {z : Nat} {Φ : Out → T2 → T3 → Nat → Prop} {I : T2} {J : T3} {x4 : Int32} {x5 : Int32} {x6 : Int32}  
    (k : Ev d Z L xs mL_law 594 [some (.retAddr 0), some (.ref 0), some (.ref 136), some (.ref 158), some (.int x4), some (.int x5), some (.int x6), none] [.int x5] I J z Φ) : Ev d Z L xs mL_law 592 [some (.retAddr 0), some (.ref 0), some (.ref 136), some (.ref 158), some (.int x4), some (.int x5), some (.int x6), none] [] I J z Φ := by
  refine Ev.blk (ops := [o0 (.iload 5) 2]) (G := True ∧ True) (by decide +kernel) ?_ ⟨trivial, trivial⟩ k
  rfl
theorem BL_law_597 {d Z L : Nat} {xs : Nat → Int32} {z : Nat} {Φ : Out → T2 → T3 → Nat → Prop} {I : T2} {J : T3} {x4 : Int32} {x5 : Int32} {x6 : Int32}  (g1 : vp_in 0 1)
    (k : Ev d Z L xs mL_law 604 [some (.retAddr 0), some (.ref 0), some (.ref 136), some (.ref 158), some (.int x4), some (.int x5), some (.int x6), none] [.int (lg_cmp (J 158 (0 : Int32).toNatClampNeg) x6.toInt64)] I J z Φ) : Ev d Z L xs mL_law 597 [some (.retAddr 0), some (.ref 0), some (.ref 136), some (.ref 158), some (.int x4), some (.int x5), some (.int x6), none] [] I J z Φ := by
  refine Ev.blk (ops := [o0 (.aload_n 3) 1, oI (.iconst 0) 1 0, o0 (.laload) 1, o0 (.iload 6) 2, o0 (.i2l) 1, o0 (.lcmp) 1]) (G := True ∧ True ∧ (kd 158 = 9 ∧ vp_in 0 (ln 158)) ∧ True ∧ True ∧ True ∧ True) (by decide +kernel) ?_ ⟨trivial, trivial, ⟨(by decide), g1⟩, trivial, trivial, trivial, trivial⟩ k
  rfl
theorem BL_law_607 {d Z L : Nat} {xs : Nat → Int32} {z : Nat} {Φ : Out → T2 → T3 → Nat → Prop} {I : T2} {J : T3} {x4 : Int32} {x5 : Int32} {x6 : Int32}  
    (k : Ev d Z L xs mL_law 608 [some (.retAddr 0), some (.ref 0), some (.ref 136), some (.ref 158), some (.int x4), some (.int x5), some (.int x6), none] [.int 0] I J z Φ) : Ev d Z L xs mL_law 607 [some (.retAddr 0), some (.ref 0), some (.ref 136), some (.ref 158), some (.int x4), some (.int x5), some (.int x6), none] [] I J z Φ := by
  refine Ev.blk (ops := [oI (.iconst 0) 1 0]) (G := True ∧ True) (by decide +kernel) ?_ ⟨trivial, trivial⟩ k
  rfl
theorem BL_law_609 {d Z L : Nat} {xs : Nat → Int32} {z : Nat} {Φ : Out → T2 → T3 → Nat → Prop} {I : T2} {J : T3} {x4 : Int32} {x5 : Int32} {x6 : Int32}  
    (k : Ev d Z L xs mL_law 1313 [some (.retAddr 0), some (.ref 0), some (.ref 136), some (.ref 158), some (.int x4), some (.int x5), some (.int x6), none] [] I J z Φ) : Ev d Z L xs mL_law 609 [some (.retAddr 0), some (.ref 0), some (.ref 136), some (.ref 158), some (.int x4), some (.int x5), some (.int x6), none] [] I J z Φ := by
  refine Ev.blk (ops := [oK (.goto 704) 3 1313 0]) (G := True ∧ True) (by decide +kernel) ?_ ⟨trivial, trivial⟩ k
  rfl
theorem BL_law_612 {d Z L : Nat} {xs : Nat → Int32} {z : Nat} {Φ : Out → T2 → T3 → Nat → Prop} {I : T2} {J : T3} {x4 : Int32}  (g1 : vp_in (x4 + 1) L)
    (k : Ev d Z L xs mL_law 620 [some (.retAddr 0), some (.ref 0), some (.ref 136), some (.ref 158), some (.int x4), none, none, none] [.ref 158, .int (xs (x4 + 1).toNatClampNeg), .ref 0] I J z Φ) : Ev d Z L xs mL_law 612 [some (.retAddr 0), some (.ref 0), some (.ref 136), some (.ref 158), some (.int x4), none, none, none] [] I J z Φ := by
  refine Ev.blk (ops := [o0 (.aload_n 1) 1, o0 (.aload_n 0) 1, o0 (.iload 4) 2, oI (.iconst 1) 1 1, o0 (.iadd) 1, o0 (.iaload) 1, o0 (.aload_n 3) 1]) (G := True ∧ True ∧ True ∧ True ∧ True ∧ (vp_in (x4 + 1) L) ∧ True ∧ True) (by decide +kernel) ?_ ⟨trivial, trivial, trivial, trivial, trivial, g1, trivial, trivial⟩ k
  rfl
theorem BL_law_623 {d Z L : Nat} {xs : Nat → Int32} {z : Nat} {Φ : Out → T2 → T3 → Nat → Prop} {I : T2} {J : T3} {x4 : Int32} {xs0 : Int32}  (g1 : vp_in (x4 + 1) L)
    (k : Ev d Z L xs mL_law 632 [some (.retAddr 0), some (.ref 0), some (.ref 136), some (.ref 158), some (.int x4), some (.int xs0), none, none] [.int (xs (x4 + 1).toNatClampNeg), .ref 136] I J z Φ) : Ev d Z L xs mL_law 623 [some (.retAddr 0), some (.ref 0), some (.ref 136), some (.ref 158), some (.int x4), none, none, none] [.int xs0] I J z Φ := by
  refine Ev.blk (ops := [o0 (.istore 5) 2, o0 (.aload_n 2) 1, o0 (.aload_n 0) 1, o0 (.iload 4) 2, oI (.iconst 1) 1 1, o0 (.iadd) 1, o0 (.iaload) 1]) (G := True ∧ True ∧ True ∧ True ∧ True ∧ True ∧ (vp_in (x4 + 1) L) ∧ True) (by decide +kernel) ?_ ⟨trivial, trivial, trivial, trivial, trivial, trivial, g1, trivial⟩ k
  rfl
theorem BL_law_635 {d Z L : Nat} {xs : Nat → Int32} {z : Nat} {Φ : Out → T2 → T3 → Nat → Prop} {I : T2} {J : T3} {x4 : Int32} {x5 : Int32} {xs0 : Int32}  
    (k : Ev d Z L xs mL_law 638 [some (.retAddr 0), some (.ref 0), some (.ref 136), some (.ref 158), some (.int x4), some (.int x5), some (.int xs0), none] [.ref 136] I J z Φ) : Ev d Z L xs mL_law 635 [some (.retAddr 0), some (.ref 0), some (.ref 136), some (.ref 158), some (.int x4), some (.int x5), none, none] [.int xs0] I J z Φ := by
  refine Ev.blk (ops := [o0 (.istore 6) 2, o0 (.aload_n 2) 1]) (G := True ∧ True ∧ True) (by decide +kernel) ?_ ⟨trivial, trivial, trivial⟩ k
  rfl
theorem BL_law_641 {d Z L : Nat} {xs : Nat → Int32} {z : Nat} {Φ : Out → T2 → T3 → Nat → Prop} {I : T2} {J : T3} {x4 : Int32} {x5 : Int32} {x6 : Int32} {xs0 : Int32}  
    (k : Ev d Z L xs mL_law 643 [some (.retAddr 0), some (.ref 0), some (.ref 136), some (.ref 158), some (.int x4), some (.int x5), some (.int x6), none] [.int x5, .int xs0] I J z Φ) : Ev d Z L xs mL_law 641 [some (.retAddr 0), some (.ref 0), some (.ref 136), some (.ref 158), some (.int x4), some (.int x5), some (.int x6), none] [.int xs0] I J z Φ := by
  refine Ev.blk (ops := [o0 (.iload 5) 2]) (G := True ∧ True) (by decide +kernel) ?_ ⟨trivial, trivial⟩ k
  rfl
theorem BL_law_646 {d Z L : Nat} {xs : Nat → Int32} {z : Nat} {Φ : Out → T2 → T3 → Nat → Prop} {I : T2} {J : T3} {x4 : Int32} {x5 : Int32} {x6 : Int32}  
    (k : Ev d Z L xs mL_law 647 [some (.retAddr 0), some (.ref 0), some (.ref 136), some (.ref 158), some (.int x4), some (.int x5), some (.int x6), none] [.int 0] I J z Φ) : Ev d Z L xs mL_law 646 [some (.retAddr 0), some (.ref 0), some (.ref 136), some (.ref 158), some (.int x4), some (.int x5), some (.int x6), none] [] I J z Φ := by
  refine Ev.blk (ops := [oI (.iconst 0) 1 0]) (G := True ∧ True) (by decide +kernel) ?_ ⟨trivial, trivial⟩ k
  rfl
theorem BL_law_648 {d Z L : Nat} {xs : Nat → Int32} {z : Nat} {Φ : Out → T2 → T3 → Nat → Prop} {I : T2} {J : T3} {x4 : Int32} {x5 : Int32} {x6 : Int32}  
    (k : Ev d Z L xs mL_law 650 [some (.retAddr 0), some (.ref 0), some (.ref 136), some (.ref 158), some (.int x4), some (.int x5), some (.int x6), none] [.int x5] I J z Φ) : Ev d Z L xs mL_law 648 [some (.retAddr 0), some (.ref 0), some (.ref 136), some (.ref 158), some (.int x4), some (.int x5), some (.int x6), none] [] I J z Φ := by
  refine Ev.blk (ops := [o0 (.iload 5) 2]) (G := True ∧ True) (by decide +kernel) ?_ ⟨trivial, trivial⟩ k
  rfl
theorem BL_law_653 {d Z L : Nat} {xs : Nat → Int32} {z : Nat} {Φ : Out → T2 → T3 → Nat → Prop} {I : T2} {J : T3} {x4 : Int32} {x5 : Int32} {x6 : Int32}  (g1 : vp_in 0 1)
    (k : Ev d Z L xs mL_law 660 [some (.retAddr 0), some (.ref 0), some (.ref 136), some (.ref 158), some (.int x4), some (.int x5), some (.int x6), none] [.int (lg_cmp (J 158 (0 : Int32).toNatClampNeg) x6.toInt64)] I J z Φ) : Ev d Z L xs mL_law 653 [some (.retAddr 0), some (.ref 0), some (.ref 136), some (.ref 158), some (.int x4), some (.int x5), some (.int x6), none] [] I J z Φ := by
  refine Ev.blk (ops := [o0 (.aload_n 3) 1, oI (.iconst 0) 1 0, o0 (.laload) 1, o0 (.iload 6) 2, o0 (.i2l) 1, o0 (.lcmp) 1]) (G := True ∧ True ∧ (kd 158 = 9 ∧ vp_in 0 (ln 158)) ∧ True ∧ True ∧ True ∧ True) (by decide +kernel) ?_ ⟨trivial, trivial, ⟨(by decide), g1⟩, trivial, trivial, trivial, trivial⟩ k
  rfl
theorem BL_law_663 {d Z L : Nat} {xs : Nat → Int32} {z : Nat} {Φ : Out → T2 → T3 → Nat → Prop} {I : T2} {J : T3} {x4 : Int32} {x5 : Int32} {x6 : Int32}  
    (k : Ev d Z L xs mL_law 664 [some (.retAddr 0), some (.ref 0), some (.ref 136), some (.ref 158), some (.int x4), some (.int x5), some (.int x6), none] [.int 0] I J z Φ) : Ev d Z L xs mL_law 663 [some (.retAddr 0), some (.ref 0), some (.ref 136), some (.ref 158), some (.int x4), some (.int x5), some (.int x6), none] [] I J z Φ := by
  refine Ev.blk (ops := [oI (.iconst 0) 1 0]) (G := True ∧ True) (by decide +kernel) ?_ ⟨trivial, trivial⟩ k
  rfl
theorem BL_law_665 {d Z L : Nat} {xs : Nat → Int32} {z : Nat} {Φ : Out → T2 → T3 → Nat → Prop} {I : T2} {J : T3} {x4 : Int32} {x5 : Int32} {x6 : Int32}  
    (k : Ev d Z L xs mL_law 1313 [some (.retAddr 0), some (.ref 0), some (.ref 136), some (.ref 158), some (.int x4), some (.int x5), some (.int x6), none] [] I J z Φ) : Ev d Z L xs mL_law 665 [some (.retAddr 0), some (.ref 0), some (.ref 136), some (.ref 158), some (.int x4), some (.int x5), some (.int x6), none] [] I J z Φ := by
  refine Ev.blk (ops := [oK (.goto 648) 3 1313 0]) (G := True ∧ True) (by decide +kernel) ?_ ⟨trivial, trivial⟩ k
  rfl
theorem BL_law_668 {d Z L : Nat} {xs : Nat → Int32} {z : Nat} {Φ : Out → T2 → T3 → Nat → Prop} {I : T2} {J : T3} {x4 : Int32}  (g1 : vp_in (x4 + 1) L)
    (k : Ev d Z L xs mL_law 675 [some (.retAddr 0), some (.ref 0), some (.ref 136), some (.ref 158), some (.int x4), none, none, none] [.int (xs (x4 + 1).toNatClampNeg), .ref 0] I J z Φ) : Ev d Z L xs mL_law 668 [some (.retAddr 0), some (.ref 0), some (.ref 136), some (.ref 158), some (.int x4), none, none, none] [] I J z Φ := by
  refine Ev.blk (ops := [o0 (.aload_n 1) 1, o0 (.aload_n 0) 1, o0 (.iload 4) 2, oI (.iconst 1) 1 1, o0 (.iadd) 1, o0 (.iaload) 1]) (G := True ∧ True ∧ True ∧ True ∧ True ∧ (vp_in (x4 + 1) L) ∧ True) (by decide +kernel) ?_ ⟨trivial, trivial, trivial, trivial, trivial, g1, trivial⟩ k
  rfl
theorem BL_law_678 {d Z L : Nat} {xs : Nat → Int32} {z : Nat} {Φ : Out → T2 → T3 → Nat → Prop} {I : T2} {J : T3} {x4 : Int32} {xs0 : Int32}  (g1 : vp_in (x4 + 1) L)
    (k : Ev d Z L xs mL_law 687 [some (.retAddr 0), some (.ref 0), some (.ref 136), some (.ref 158), some (.int x4), some (.int xs0), none, none] [.int (xs (x4 + 1).toNatClampNeg), .ref 136] I J z Φ) : Ev d Z L xs mL_law 678 [some (.retAddr 0), some (.ref 0), some (.ref 136), some (.ref 158), some (.int x4), none, none, none] [.int xs0] I J z Φ := by
  refine Ev.blk (ops := [o0 (.istore 5) 2, o0 (.aload_n 2) 1, o0 (.aload_n 0) 1, o0 (.iload 4) 2, oI (.iconst 1) 1 1, o0 (.iadd) 1, o0 (.iaload) 1]) (G := True ∧ True ∧ True ∧ True ∧ True ∧ True ∧ (vp_in (x4 + 1) L) ∧ True) (by decide +kernel) ?_ ⟨trivial, trivial, trivial, trivial, trivial, trivial, g1, trivial⟩ k
  rfl
theorem BL_law_690 {d Z L : Nat} {xs : Nat → Int32} {z : Nat} {Φ : Out → T2 → T3 → Nat → Prop} {I : T2} {J : T3} {x4 : Int32} {x5 : Int32}  
    (k : Ev d Z L xs mL_law 691 [some (.retAddr 0), some (.ref 0), some (.ref 136), some (.ref 158), some (.int x4), some (.int x5), none, none] [.ref 136] I J z Φ) : Ev d Z L xs mL_law 690 [some (.retAddr 0), some (.ref 0), some (.ref 136), some (.ref 158), some (.int x4), some (.int x5), none, none] [] I J z Φ := by
  refine Ev.blk (ops := [o0 (.aload_n 2) 1]) (G := True ∧ True) (by decide +kernel) ?_ ⟨trivial, trivial⟩ k
  rfl
theorem BL_law_694 {d Z L : Nat} {xs : Nat → Int32} {z : Nat} {Φ : Out → T2 → T3 → Nat → Prop} {I : T2} {J : T3} {x4 : Int32} {x5 : Int32} {xs0 : Int32}  
    (k : Ev d Z L xs mL_law 696 [some (.retAddr 0), some (.ref 0), some (.ref 136), some (.ref 158), some (.int x4), some (.int x5), none, none] [.int x5, .int xs0] I J z Φ) : Ev d Z L xs mL_law 694 [some (.retAddr 0), some (.ref 0), some (.ref 136), some (.ref 158), some (.int x4), some (.int x5), none, none] [.int xs0] I J z Φ := by
  refine Ev.blk (ops := [o0 (.iload 5) 2]) (G := True ∧ True) (by decide +kernel) ?_ ⟨trivial, trivial⟩ k
  rfl
theorem BL_law_699 {d Z L : Nat} {xs : Nat → Int32} {z : Nat} {Φ : Out → T2 → T3 → Nat → Prop} {I : T2} {J : T3} {x4 : Int32} {x5 : Int32}  
    (k : Ev d Z L xs mL_law 700 [some (.retAddr 0), some (.ref 0), some (.ref 136), some (.ref 158), some (.int x4), some (.int x5), none, none] [.int 0] I J z Φ) : Ev d Z L xs mL_law 699 [some (.retAddr 0), some (.ref 0), some (.ref 136), some (.ref 158), some (.int x4), some (.int x5), none, none] [] I J z Φ := by
  refine Ev.blk (ops := [oI (.iconst 0) 1 0]) (G := True ∧ True) (by decide +kernel) ?_ ⟨trivial, trivial⟩ k
  rfl
theorem BL_law_701 {d Z L : Nat} {xs : Nat → Int32} {z : Nat} {Φ : Out → T2 → T3 → Nat → Prop} {I : T2} {J : T3} {x4 : Int32} {x5 : Int32}  
    (k : Ev d Z L xs mL_law 1313 [some (.retAddr 0), some (.ref 0), some (.ref 136), some (.ref 158), some (.int x4), some (.int x5), none, none] [] I J z Φ) : Ev d Z L xs mL_law 701 [some (.retAddr 0), some (.ref 0), some (.ref 136), some (.ref 158), some (.int x4), some (.int x5), none, none] [] I J z Φ := by
  refine Ev.blk (ops := [oK (.goto 612) 3 1313 0]) (G := True ∧ True) (by decide +kernel) ?_ ⟨trivial, trivial⟩ k
  rfl
theorem BL_law_704 {d Z L : Nat} {xs : Nat → Int32} {z : Nat} {Φ : Out → T2 → T3 → Nat → Prop} {I : T2} {J : T3} {x4 : Int32}  (g1 : vp_in (x4 + 1) L)
    (k : Ev d Z L xs mL_law 711 [some (.retAddr 0), some (.ref 0), some (.ref 136), some (.ref 158), some (.int x4), none, none, none] [.int (xs (x4 + 1).toNatClampNeg), .ref 0] I J z Φ) : Ev d Z L xs mL_law 704 [some (.retAddr 0), some (.ref 0), some (.ref 136), some (.ref 158), some (.int x4), none, none, none] [] I J z Φ := by
  refine Ev.blk (ops := [o0 (.aload_n 1) 1, o0 (.aload_n 0) 1, o0 (.iload 4) 2, oI (.iconst 1) 1 1, o0 (.iadd) 1, o0 (.iaload) 1]) (G := True ∧ True ∧ True ∧ True ∧ True ∧ (vp_in (x4 + 1) L) ∧ True) (by decide +kernel) ?_ ⟨trivial, trivial, trivial, trivial, trivial, g1, trivial⟩ k
  rfl
theorem BL_law_714 {d Z L : Nat} {xs : Nat → Int32} {z : Nat} {Φ : Out → T2 → T3 → Nat → Prop} {I : T2} {J : T3} {x4 : Int32} {xs0 : Int32}  (g1 : vp_in (x4 + 1) L)
    (k : Ev d Z L xs mL_law 723 [some (.retAddr 0), some (.ref 0), some (.ref 136), some (.ref 158), some (.int x4), some (.int xs0), none, none] [.int (xs (x4 + 1).toNatClampNeg), .ref 136] I J z Φ) : Ev d Z L xs mL_law 714 [some (.retAddr 0), some (.ref 0), some (.ref 136), some (.ref 158), some (.int x4), none, none, none] [.int xs0] I J z Φ := by
  refine Ev.blk (ops := [o0 (.istore 5) 2, o0 (.aload_n 2) 1, o0 (.aload_n 0) 1, o0 (.iload 4) 2, oI (.iconst 1) 1 1, o0 (.iadd) 1, o0 (.iaload) 1]) (G := True ∧ True ∧ True ∧ True ∧ True ∧ True ∧ (vp_in (x4 + 1) L) ∧ True) (by decide +kernel) ?_ ⟨trivial, trivial, trivial, trivial, trivial, trivial, g1, trivial⟩ k
  rfl
theorem BL_law_726 {d Z L : Nat} {xs : Nat → Int32} {z : Nat} {Φ : Out → T2 → T3 → Nat → Prop} {I : T2} {J : T3} {x4 : Int32} {x5 : Int32}  
    (k : Ev d Z L xs mL_law 727 [some (.retAddr 0), some (.ref 0), some (.ref 136), some (.ref 158), some (.int x4), some (.int x5), none, none] [.ref 136] I J z Φ) : Ev d Z L xs mL_law 726 [some (.retAddr 0), some (.ref 0), some (.ref 136), some (.ref 158), some (.int x4), some (.int x5), none, none] [] I J z Φ := by
  refine Ev.blk (ops := [o0 (.aload_n 2) 1]) (G := True ∧ True) (by decide +kernel) ?_ ⟨trivial, trivial⟩ k
  rfl
theorem BL_law_730 {d Z L : Nat} {xs : Nat → Int32} {z : Nat} {Φ : Out → T2 → T3 → Nat → Prop} {I : T2} {J : T3} {x4 : Int32} {x5 : Int32} {xs0 : Int32}  
    (k : Ev d Z L xs mL_law 732 [some (.retAddr 0), some (.ref 0), some (.ref 136), some (.ref 158), some (.int x4), some (.int x5), none, none] [.int x5, .int xs0] I J z Φ) : Ev d Z L xs mL_law 730 [some (.retAddr 0), some (.ref 0), some (.ref 136), some (.ref 158), some (.int x4), some (.int x5), none, none] [.int xs0] I J z Φ := by
  refine Ev.blk (ops := [o0 (.iload 5) 2]) (G := True ∧ True) (by decide +kernel) ?_ ⟨trivial, trivial⟩ k
  rfl
theorem BL_law_735 {d Z L : Nat} {xs : Nat → Int32} {z : Nat} {Φ : Out → T2 → T3 → Nat → Prop} {I : T2} {J : T3} {x4 : Int32} {x5 : Int32}  
    (k : Ev d Z L xs mL_law 736 [some (.retAddr 0), some (.ref 0), some (.ref 136), some (.ref 158), some (.int x4), some (.int x5), none, none] [.int 0] I J z Φ) : Ev d Z L xs mL_law 735 [some (.retAddr 0), some (.ref 0), some (.ref 136), some (.ref 158), some (.int x4), some (.int x5), none, none] [] I J z Φ := by
  refine Ev.blk (ops := [oI (.iconst 0) 1 0]) (G := True ∧ True) (by decide +kernel) ?_ ⟨trivial, trivial⟩ k
  rfl
theorem BL_law_737 {d Z L : Nat} {xs : Nat → Int32} {z : Nat} {Φ : Out → T2 → T3 → Nat → Prop} {I : T2} {J : T3} {x4 : Int32} {x5 : Int32}  
    (k : Ev d Z L xs mL_law 1313 [some (.retAddr 0), some (.ref 0), some (.ref 136), some (.ref 158), some (.int x4), some (.int x5), none, none] [] I J z Φ) : Ev d Z L xs mL_law 737 [some (.retAddr 0), some (.ref 0), some (.ref 136), some (.ref 158), some (.int x4), some (.int x5), none, none] [] I J z Φ := by
  refine Ev.blk (ops := [oK (.goto 576) 3 1313 0]) (G := True ∧ True) (by decide +kernel) ?_ ⟨trivial, trivial⟩ k
  rfl
theorem BL_law_740 {d Z L : Nat} {xs : Nat → Int32} {z : Nat} {Φ : Out → T2 → T3 → Nat → Prop} {I : T2} {J : T3} {x4 : Int32}  (g1 : vp_in (x4 + 1) L)
    (k : Ev d Z L xs mL_law 748 [some (.retAddr 0), some (.ref 0), some (.ref 136), some (.ref 158), some (.int x4), none, none, none] [.ref 158, .int (xs (x4 + 1).toNatClampNeg), .ref 0] I J z Φ) : Ev d Z L xs mL_law 740 [some (.retAddr 0), some (.ref 0), some (.ref 136), some (.ref 158), some (.int x4), none, none, none] [] I J z Φ := by
  refine Ev.blk (ops := [o0 (.aload_n 1) 1, o0 (.aload_n 0) 1, o0 (.iload 4) 2, oI (.iconst 1) 1 1, o0 (.iadd) 1, o0 (.iaload) 1, o0 (.aload_n 3) 1]) (G := True ∧ True ∧ True ∧ True ∧ True ∧ (vp_in (x4 + 1) L) ∧ True ∧ True) (by decide +kernel) ?_ ⟨trivial, trivial, trivial, trivial, trivial, g1, trivial, trivial⟩ k
  rfl
theorem BL_law_751 {d Z L : Nat} {xs : Nat → Int32} {z : Nat} {Φ : Out → T2 → T3 → Nat → Prop} {I : T2} {J : T3} {x4 : Int32} {xs0 : Int32}  (g1 : vp_in (x4 + 1) L)
    (k : Ev d Z L xs mL_law 760 [some (.retAddr 0), some (.ref 0), some (.ref 136), some (.ref 158), some (.int x4), some (.int xs0), none, none] [.int (xs (x4 + 1).toNatClampNeg), .ref 136] I J z Φ) : Ev d Z L xs mL_law 751 [some (.retAddr 0), some (.ref 0), some (.ref 136), some (.ref 158), some (.int x4), none, none, none] [.int xs0] I J z Φ := by
  refine Ev.blk (ops := [o0 (.istore 5) 2, o0 (.aload_n 2) 1, o0 (.aload_n 0) 1, o0 (.iload 4) 2, oI (.iconst 1) 1 1, o0 (.iadd) 1, o0 (.iaload) 1]) (G := True ∧ True ∧ True ∧ True ∧ True ∧ True ∧ (vp_in (x4 + 1) L) ∧ True) (by decide +kernel) ?_ ⟨trivial, trivial, trivial, trivial, trivial, trivial, g1, trivial⟩ k
  rfl
theorem BL_law_763 {d Z L : Nat} {xs : Nat → Int32} {z : Nat} {Φ : Out → T2 → T3 → Nat → Prop} {I : T2} {J : T3} {x4 : Int32} {x5 : Int32} {xs0 : Int32}  
    (k : Ev d Z L xs mL_law 766 [some (.retAddr 0), some (.ref 0), some (.ref 136), some (.ref 158), some (.int x4), some (.int x5), some (.int xs0), none] [.ref 136] I J z Φ) : Ev d Z L xs mL_law 763 [some (.retAddr 0), some (.ref 0), some (.ref 136), some (.ref 158), some (.int x4), some (.int x5), none, none] [.int xs0] I J z Φ := by
  refine Ev.blk (ops := [o0 (.istore 6) 2, o0 (.aload_n 2) 1]) (G := True ∧ True ∧ True) (by decide +kernel) ?_ ⟨trivial, trivial, trivial⟩ k
  rfl
theorem BL_law_769 {d Z L : Nat} {xs : Nat → Int32} {z : Nat} {Φ : Out → T2 → T3 → Nat → Prop} {I : T2} {J : T3} {x4 : Int32} {x5 : Int32} {x6 : Int32} {xs0 : Int32}  
    (k : Ev d Z L xs mL_law 771 [some (.retAddr 0), some (.ref 0), some (.ref 136), some (.ref 158), some (.int x4), some (.int x5), some (.int x6), none] [.int x5, .int xs0] I J z Φ) : Ev d Z L xs mL_law 769 [some (.retAddr 0), some (.ref 0), some (.ref 136), some (.ref 158), some (.int x4), some (.int x5), some (.int x6), none] [.int xs0] I J z Φ := by
  refine Ev.blk (ops := [o0 (.iload 5) 2]) (G := True ∧ True) (by decide +kernel) ?_ ⟨trivial, trivial⟩ k
  rfl
theorem BL_law_774 {d Z L : Nat} {xs : Nat → Int32} {z : Nat} {Φ : Out → T2 → T3 → Nat → Prop} {I : T2} {J : T3} {x4 : Int32} {x5 : Int32} {x6 : Int32}  
    (k : Ev d Z L xs mL_law 775 [some (.retAddr 0), some (.ref 0), some (.ref 136), some (.ref 158), some (.int x4), some (.int x5), some (.int x6), none] [.int 0] I J z Φ) : Ev d Z L xs mL_law 774 [some (.retAddr 0), some (.ref 0), some (.ref 136), some (.ref 158), some (.int x4), some (.int x5), some (.int x6), none] [] I J z Φ := by
  refine Ev.blk (ops := [oI (.iconst 0) 1 0]) (G := True ∧ True) (by decide +kernel) ?_ ⟨trivial, trivial⟩ k
  rfl
theorem BL_law_776 {d Z L : Nat} {xs : Nat → Int32} {z : Nat} {Φ : Out → T2 → T3 → Nat → Prop} {I : T2} {J : T3} {x4 : Int32} {x5 : Int32} {x6 : Int32}  
    (k : Ev d Z L xs mL_law 778 [some (.retAddr 0), some (.ref 0), some (.ref 136), some (.ref 158), some (.int x4), some (.int x5), some (.int x6), none] [.int x5] I J z Φ) : Ev d Z L xs mL_law 776 [some (.retAddr 0), some (.ref 0), some (.ref 136), some (.ref 158), some (.int x4), some (.int x5), some (.int x6), none] [] I J z Φ := by
  refine Ev.blk (ops := [o0 (.iload 5) 2]) (G := True ∧ True) (by decide +kernel) ?_ ⟨trivial, trivial⟩ k
  rfl
theorem BL_law_781 {d Z L : Nat} {xs : Nat → Int32} {z : Nat} {Φ : Out → T2 → T3 → Nat → Prop} {I : T2} {J : T3} {x4 : Int32} {x5 : Int32} {x6 : Int32}  (g1 : vp_in 0 1)
    (k : Ev d Z L xs mL_law 788 [some (.retAddr 0), some (.ref 0), some (.ref 136), some (.ref 158), some (.int x4), some (.int x5), some (.int x6), none] [.int (lg_cmp (J 158 (0 : Int32).toNatClampNeg) x6.toInt64)] I J z Φ) : Ev d Z L xs mL_law 781 [some (.retAddr 0), some (.ref 0), some (.ref 136), some (.ref 158), some (.int x4), some (.int x5), some (.int x6), none] [] I J z Φ := by
  refine Ev.blk (ops := [o0 (.aload_n 3) 1, oI (.iconst 0) 1 0, o0 (.laload) 1, o0 (.iload 6) 2, o0 (.i2l) 1, o0 (.lcmp) 1]) (G := True ∧ True ∧ (kd 158 = 9 ∧ vp_in 0 (ln 158)) ∧ True ∧ True ∧ True ∧ True) (by decide +kernel) ?_ ⟨trivial, trivial, ⟨(by decide), g1⟩, trivial, trivial, trivial, trivial⟩ k
  rfl
theorem BL_law_791 {d Z L : Nat} {xs : Nat → Int32} {z : Nat} {Φ : Out → T2 → T3 → Nat → Prop} {I : T2} {J : T3} {x4 : Int32} {x5 : Int32} {x6 : Int32}  
    (k : Ev d Z L xs mL_law 792 [some (.retAddr 0), some (.ref 0), some (.ref 136), some (.ref 158), some (.int x4), some (.int x5), some (.int x6), none] [.int 0] I J z Φ) : Ev d Z L xs mL_law 791 [some (.retAddr 0), some (.ref 0), some (.ref 136), some (.ref 158), some (.int x4), some (.int x5), some (.int x6), none] [] I J z Φ := by
  refine Ev.blk (ops := [oI (.iconst 0) 1 0]) (G := True ∧ True) (by decide +kernel) ?_ ⟨trivial, trivial⟩ k
  rfl
theorem BL_law_793 {d Z L : Nat} {xs : Nat → Int32} {z : Nat} {Φ : Out → T2 → T3 → Nat → Prop} {I : T2} {J : T3} {x4 : Int32} {x5 : Int32} {x6 : Int32}  
    (k : Ev d Z L xs mL_law 1313 [some (.retAddr 0), some (.ref 0), some (.ref 136), some (.ref 158), some (.int x4), some (.int x5), some (.int x6), none] [] I J z Φ) : Ev d Z L xs mL_law 793 [some (.retAddr 0), some (.ref 0), some (.ref 136), some (.ref 158), some (.int x4), some (.int x5), some (.int x6), none] [] I J z Φ := by
  refine Ev.blk (ops := [oK (.goto 520) 3 1313 0]) (G := True ∧ True) (by decide +kernel) ?_ ⟨trivial, trivial⟩ k
  rfl
theorem BL_law_796 {d Z L : Nat} {xs : Nat → Int32} {z : Nat} {Φ : Out → T2 → T3 → Nat → Prop} {I : T2} {J : T3} {x4 : Int32}  (g1 : vp_in (x4 + 1) L) (g2 : vp_in (x4 + 2) L)
    (k : Ev d Z L xs mL_law 810 [some (.retAddr 0), some (.ref 0), some (.ref 136), some (.ref 158), some (.int x4), none, none, none] [.ref 158, .int (xs (x4 + 2).toNatClampNeg), .int (xs (x4 + 1).toNatClampNeg), .ref 0] I J z Φ) : Ev d Z L xs mL_law 796 [some (.retAddr 0), some (.ref 0), some (.ref 136), some (.ref 158), some (.int x4), none, none, none] [] I J z Φ := by
  refine Ev.blk (ops := [o0 (.aload_n 1) 1, o0 (.aload_n 0) 1, o0 (.iload 4) 2, oI (.iconst 1) 1 1, o0 (.iadd) 1, o0 (.iaload) 1, o0 (.aload_n 0) 1, o0 (.iload 4) 2, oI (.iconst 2) 1 2, o0 (.iadd) 1, o0 (.iaload) 1, o0 (.aload_n 3) 1]) (G := True ∧ True ∧ True ∧ True ∧ True ∧ (vp_in (x4 + 1) L) ∧ True ∧ True ∧ True ∧ True ∧ (vp_in (x4 + 2) L) ∧ True ∧ True) (by decide +kernel) ?_ ⟨trivial, trivial, trivial, trivial, trivial, g1, trivial, trivial, trivial, trivial, g2, trivial, trivial⟩ k
  rfl
theorem BL_law_813 {d Z L : Nat} {xs : Nat → Int32} {z : Nat} {Φ : Out → T2 → T3 → Nat → Prop} {I : T2} {J : T3} {x4 : Int32} {xs0 : Int32}  (g1 : vp_in (x4 + 1) L) (g2 : vp_in (x4 + 2) L)
    (k : Ev d Z L xs mL_law 828 [some (.retAddr 0), some (.ref 0), some (.ref 136), some (.ref 158), some (.int x4), some (.int xs0), none, none] [.int (xs (x4 + 2).toNatClampNeg), .int (xs (x4 + 1).toNatClampNeg), .ref 136] I J z Φ) : Ev d Z L xs mL_law 813 [some (.retAddr 0), some (.ref 0), some (.ref 136), some (.ref 158), some (.int x4), none, none, none] [.int xs0] I J z Φ := by
  refine Ev.blk (ops := [o0 (.istore 5) 2, o0 (.aload_n 2) 1, o0 (.aload_n 0) 1, o0 (.iload 4) 2, oI (.iconst 1) 1 1, o0 (.iadd) 1, o0 (.iaload) 1, o0 (.aload_n 0) 1, o0 (.iload 4) 2, oI (.iconst 2) 1 2, o0 (.iadd) 1, o0 (.iaload) 1]) (G := True ∧ True ∧ True ∧ True ∧ True ∧ True ∧ (vp_in (x4 + 1) L) ∧ True ∧ True ∧ True ∧ True ∧ (vp_in (x4 + 2) L) ∧ True) (by decide +kernel) ?_ ⟨trivial, trivial, trivial, trivial, trivial, trivial, g1, trivial, trivial, trivial, trivial, g2, trivial⟩ k
  rfl
theorem BL_law_831 {d Z L : Nat} {xs : Nat → Int32} {z : Nat} {Φ : Out → T2 → T3 → Nat → Prop} {I : T2} {J : T3} {x4 : Int32} {x5 : Int32} {xs0 : Int32}  
    (k : Ev d Z L xs mL_law 834 [some (.retAddr 0), some (.ref 0), some (.ref 136), some (.ref 158), some (.int x4), some (.int x5), some (.int xs0), none] [.ref 136] I J z Φ) : Ev d Z L xs mL_law 831 [some (.retAddr 0), some (.ref 0), some (.ref 136), some (.ref 158), some (.int x4), some (.int x5), none, none] [.int xs0] I J z Φ := by
  refine Ev.blk (ops := [o0 (.istore 6) 2, o0 (.aload_n 2) 1]) (G := True ∧ True ∧ True) (by decide +kernel) ?_ ⟨trivial, trivial, trivial⟩ k
  rfl
theorem BL_law_837 {d Z L : Nat} {xs : Nat → Int32} {z : Nat} {Φ : Out → T2 → T3 → Nat → Prop} {I : T2} {J : T3} {x4 : Int32} {x5 : Int32} {x6 : Int32} {xs0 : Int32}  
    (k : Ev d Z L xs mL_law 839 [some (.retAddr 0), some (.ref 0), some (.ref 136), some (.ref 158), some (.int x4), some (.int x5), some (.int x6), none] [.int x5, .int xs0] I J z Φ) : Ev d Z L xs mL_law 837 [some (.retAddr 0), some (.ref 0), some (.ref 136), some (.ref 158), some (.int x4), some (.int x5), some (.int x6), none] [.int xs0] I J z Φ := by
  refine Ev.blk (ops := [o0 (.iload 5) 2]) (G := True ∧ True) (by decide +kernel) ?_ ⟨trivial, trivial⟩ k
  rfl
theorem BL_law_842 {d Z L : Nat} {xs : Nat → Int32} {z : Nat} {Φ : Out → T2 → T3 → Nat → Prop} {I : T2} {J : T3} {x4 : Int32} {x5 : Int32} {x6 : Int32}  
    (k : Ev d Z L xs mL_law 843 [some (.retAddr 0), some (.ref 0), some (.ref 136), some (.ref 158), some (.int x4), some (.int x5), some (.int x6), none] [.int 0] I J z Φ) : Ev d Z L xs mL_law 842 [some (.retAddr 0), some (.ref 0), some (.ref 136), some (.ref 158), some (.int x4), some (.int x5), some (.int x6), none] [] I J z Φ := by
  refine Ev.blk (ops := [oI (.iconst 0) 1 0]) (G := True ∧ True) (by decide +kernel) ?_ ⟨trivial, trivial⟩ k
  rfl
theorem BL_law_844 {d Z L : Nat} {xs : Nat → Int32} {z : Nat} {Φ : Out → T2 → T3 → Nat → Prop} {I : T2} {J : T3} {x4 : Int32} {x5 : Int32} {x6 : Int32}  
    (k : Ev d Z L xs mL_law 846 [some (.retAddr 0), some (.ref 0), some (.ref 136), some (.ref 158), some (.int x4), some (.int x5), some (.int x6), none] [.int x5] I J z Φ) : Ev d Z L xs mL_law 844 [some (.retAddr 0), some (.ref 0), some (.ref 136), some (.ref 158), some (.int x4), some (.int x5), some (.int x6), none] [] I J z Φ := by
  refine Ev.blk (ops := [o0 (.iload 5) 2]) (G := True ∧ True) (by decide +kernel) ?_ ⟨trivial, trivial⟩ k
  rfl
theorem BL_law_849 {d Z L : Nat} {xs : Nat → Int32} {z : Nat} {Φ : Out → T2 → T3 → Nat → Prop} {I : T2} {J : T3} {x4 : Int32} {x5 : Int32} {x6 : Int32}  (g1 : vp_in 0 1)
    (k : Ev d Z L xs mL_law 856 [some (.retAddr 0), some (.ref 0), some (.ref 136), some (.ref 158), some (.int x4), some (.int x5), some (.int x6), none] [.int (lg_cmp (J 158 (0 : Int32).toNatClampNeg) x6.toInt64)] I J z Φ) : Ev d Z L xs mL_law 849 [some (.retAddr 0), some (.ref 0), some (.ref 136), some (.ref 158), some (.int x4), some (.int x5), some (.int x6), none] [] I J z Φ := by
  refine Ev.blk (ops := [o0 (.aload_n 3) 1, oI (.iconst 0) 1 0, o0 (.laload) 1, o0 (.iload 6) 2, o0 (.i2l) 1, o0 (.lcmp) 1]) (G := True ∧ True ∧ (kd 158 = 9 ∧ vp_in 0 (ln 158)) ∧ True ∧ True ∧ True ∧ True) (by decide +kernel) ?_ ⟨trivial, trivial, ⟨(by decide), g1⟩, trivial, trivial, trivial, trivial⟩ k
  rfl
theorem BL_law_859 {d Z L : Nat} {xs : Nat → Int32} {z : Nat} {Φ : Out → T2 → T3 → Nat → Prop} {I : T2} {J : T3} {x4 : Int32} {x5 : Int32} {x6 : Int32}  
    (k : Ev d Z L xs mL_law 860 [some (.retAddr 0), some (.ref 0), some (.ref 136), some (.ref 158), some (.int x4), some (.int x5), some (.int x6), none] [.int 0] I J z Φ) : Ev d Z L xs mL_law 859 [some (.retAddr 0), some (.ref 0), some (.ref 136), some (.ref 158), some (.int x4), some (.int x5), some (.int x6), none] [] I J z Φ := by
  refine Ev.blk (ops := [oI (.iconst 0) 1 0]) (G := True ∧ True) (by decide +kernel) ?_ ⟨trivial, trivial⟩ k
  rfl
theorem BL_law_861 {d Z L : Nat} {xs : Nat → Int32} {z : Nat} {Φ : Out → T2 → T3 → Nat → Prop} {I : T2} {J : T3} {x4 : Int32} {x5 : Int32} {x6 : Int32}  
    (k : Ev d Z L xs mL_law 1313 [some (.retAddr 0), some (.ref 0), some (.ref 136), some (.ref 158), some (.int x4), some (.int x5), some (.int x6), none] [] I J z Φ) : Ev d Z L xs mL_law 861 [some (.retAddr 0), some (.ref 0), some (.ref 136), some (.ref 158), some (.int x4), some (.int x5), some (.int x6), none] [] I J z Φ := by
  refine Ev.blk (ops := [oK (.goto 452) 3 1313 0]) (G := True ∧ True) (by decide +kernel) ?_ ⟨trivial, trivial⟩ k
  rfl
theorem BL_law_864 {d Z L : Nat} {xs : Nat → Int32} {z : Nat} {Φ : Out → T2 → T3 → Nat → Prop} {I : T2} {J : T3} {x4 : Int32}  (g1 : vp_in (x4 + 1) L)
    (k : Ev d Z L xs mL_law 871 [some (.retAddr 0), some (.ref 0), some (.ref 136), some (.ref 158), some (.int x4), none, none, none] [.int (xs (x4 + 1).toNatClampNeg), .ref 0] I J z Φ) : Ev d Z L xs mL_law 864 [some (.retAddr 0), some (.ref 0), some (.ref 136), some (.ref 158), some (.int x4), none, none, none] [] I J z Φ := by
  refine Ev.blk (ops := [o0 (.aload_n 1) 1, o0 (.aload_n 0) 1, o0 (.iload 4) 2, oI (.iconst 1) 1 1, o0 (.iadd) 1, o0 (.iaload) 1]) (G := True ∧ True ∧ True ∧ True ∧ True ∧ (vp_in (x4 + 1) L) ∧ True) (by decide +kernel) ?_ ⟨trivial, trivial, trivial, trivial, trivial, g1, trivial⟩ k
  rfl
theorem BL_law_874 {d Z L : Nat} {xs : Nat → Int32} {z : Nat} {Φ : Out → T2 → T3 → Nat → Prop} {I : T2} {J : T3} {x4 : Int32} {xs0 : Int32}  (g1 : vp_in (x4 + 1) L)
    (k : Ev d Z L xs mL_law 883 [some (.retAddr 0), some (.ref 0), some (.ref 136), some (.ref 158), some (.int x4), some (.int xs0), none, none] [.int (xs (x4 + 1).toNatClampNeg), .ref 136] I J z Φ) : Ev d Z L xs mL_law 874 [some (.retAddr 0), some (.ref 0), some (.ref 136), some (.ref 158), some (.int x4), none, none, none] [.int xs0] I J z Φ := by
  refine Ev.blk (ops := [o0 (.istore 5) 2, o0 (.aload_n 2) 1, o0 (.aload_n 0) 1, o0 (.iload 4) 2, oI (.iconst 1) 1 1, o0 (.iadd) 1, o0 (.iaload) 1]) (G := True ∧ True ∧ True ∧ True ∧ True ∧ True ∧ (vp_in (x4 + 1) L) ∧ True) (by decide +kernel) ?_ ⟨trivial, trivial, trivial, trivial, trivial, trivial, g1, trivial⟩ k
  rfl
theorem BL_law_886 {d Z L : Nat} {xs : Nat → Int32} {z : Nat} {Φ : Out → T2 → T3 → Nat → Prop} {I : T2} {J : T3} {x4 : Int32} {x5 : Int32}  
    (k : Ev d Z L xs mL_law 887 [some (.retAddr 0), some (.ref 0), some (.ref 136), some (.ref 158), some (.int x4), some (.int x5), none, none] [.ref 136] I J z Φ) : Ev d Z L xs mL_law 886 [some (.retAddr 0), some (.ref 0), some (.ref 136), some (.ref 158), some (.int x4), some (.int x5), none, none] [] I J z Φ := by
  refine Ev.blk (ops := [o0 (.aload_n 2) 1]) (G := True ∧ True) (by decide +kernel) ?_ ⟨trivial, trivial⟩ k
  rfl
theorem BL_law_890 {d Z L : Nat} {xs : Nat → Int32} {z : Nat} {Φ : Out → T2 → T3 → Nat → Prop} {I : T2} {J : T3} {x4 : Int32} {x5 : Int32} {xs0 : Int32}  
    (k : Ev d Z L xs mL_law 892 [some (.retAddr 0), some (.ref 0), some (.ref 136), some (.ref 158), some (.int x4), some (.int x5), none, none] [.int x5, .int xs0] I J z Φ) : Ev d Z L xs mL_law 890 [some (.retAddr 0), some (.ref 0), some (.ref 136), some (.ref 158), some (.int x4), some (.int x5), none, none] [.int xs0] I J z Φ := by
  refine Ev.blk (ops := [o0 (.iload 5) 2]) (G := True ∧ True) (by decide +kernel) ?_ ⟨trivial, trivial⟩ k
  rfl
theorem BL_law_895 {d Z L : Nat} {xs : Nat → Int32} {z : Nat} {Φ : Out → T2 → T3 → Nat → Prop} {I : T2} {J : T3} {x4 : Int32} {x5 : Int32}  
    (k : Ev d Z L xs mL_law 896 [some (.retAddr 0), some (.ref 0), some (.ref 136), some (.ref 158), some (.int x4), some (.int x5), none, none] [.int 0] I J z Φ) : Ev d Z L xs mL_law 895 [some (.retAddr 0), some (.ref 0), some (.ref 136), some (.ref 158), some (.int x4), some (.int x5), none, none] [] I J z Φ := by
  refine Ev.blk (ops := [oI (.iconst 0) 1 0]) (G := True ∧ True) (by decide +kernel) ?_ ⟨trivial, trivial⟩ k
  rfl
theorem BL_law_897 {d Z L : Nat} {xs : Nat → Int32} {z : Nat} {Φ : Out → T2 → T3 → Nat → Prop} {I : T2} {J : T3} {x4 : Int32} {x5 : Int32}  
    (k : Ev d Z L xs mL_law 1313 [some (.retAddr 0), some (.ref 0), some (.ref 136), some (.ref 158), some (.int x4), some (.int x5), none, none] [] I J z Φ) : Ev d Z L xs mL_law 897 [some (.retAddr 0), some (.ref 0), some (.ref 136), some (.ref 158), some (.int x4), some (.int x5), none, none] [] I J z Φ := by
  refine Ev.blk (ops := [oK (.goto 416) 3 1313 0]) (G := True ∧ True) (by decide +kernel) ?_ ⟨trivial, trivial⟩ k
  rfl
theorem BL_law_900 {d Z L : Nat} {xs : Nat → Int32} {z : Nat} {Φ : Out → T2 → T3 → Nat → Prop} {I : T2} {J : T3} {x4 : Int32}  (g1 : vp_in (x4 + 1) L)
    (k : Ev d Z L xs mL_law 908 [some (.retAddr 0), some (.ref 0), some (.ref 136), some (.ref 158), some (.int x4), none, none, none] [.ref 158, .int (xs (x4 + 1).toNatClampNeg), .ref 0] I J z Φ) : Ev d Z L xs mL_law 900 [some (.retAddr 0), some (.ref 0), some (.ref 136), some (.ref 158), some (.int x4), none, none, none] [] I J z Φ := by
  refine Ev.blk (ops := [o0 (.aload_n 1) 1, o0 (.aload_n 0) 1, o0 (.iload 4) 2, oI (.iconst 1) 1 1, o0 (.iadd) 1, o0 (.iaload) 1, o0 (.aload_n 3) 1]) (G := True ∧ True ∧ True ∧ True ∧ True ∧ (vp_in (x4 + 1) L) ∧ True ∧ True) (by decide +kernel) ?_ ⟨trivial, trivial, trivial, trivial, trivial, g1, trivial, trivial⟩ k
  rfl
theorem BL_law_911 {d Z L : Nat} {xs : Nat → Int32} {z : Nat} {Φ : Out → T2 → T3 → Nat → Prop} {I : T2} {J : T3} {x4 : Int32} {xs0 : Int32}  (g1 : vp_in (x4 + 1) L)
    (k : Ev d Z L xs mL_law 920 [some (.retAddr 0), some (.ref 0), some (.ref 136), some (.ref 158), some (.int x4), some (.int xs0), none, none] [.int (xs (x4 + 1).toNatClampNeg), .ref 136] I J z Φ) : Ev d Z L xs mL_law 911 [some (.retAddr 0), some (.ref 0), some (.ref 136), some (.ref 158), some (.int x4), none, none, none] [.int xs0] I J z Φ := by
  refine Ev.blk (ops := [o0 (.istore 5) 2, o0 (.aload_n 2) 1, o0 (.aload_n 0) 1, o0 (.iload 4) 2, oI (.iconst 1) 1 1, o0 (.iadd) 1, o0 (.iaload) 1]) (G := True ∧ True ∧ True ∧ True ∧ True ∧ True ∧ (vp_in (x4 + 1) L) ∧ True) (by decide +kernel) ?_ ⟨trivial, trivial, trivial, trivial, trivial, trivial, g1, trivial⟩ k
  rfl
theorem BL_law_923 {d Z L : Nat} {xs : Nat → Int32} {z : Nat} {Φ : Out → T2 → T3 → Nat → Prop} {I : T2} {J : T3} {x4 : Int32} {x5 : Int32} {xs0 : Int32}  
    (k : Ev d Z L xs mL_law 926 [some (.retAddr 0), some (.ref 0), some (.ref 136), some (.ref 158), some (.int x4), some (.int x5), some (.int xs0), none] [.ref 136] I J z Φ) : Ev d Z L xs mL_law 923 [some (.retAddr 0), some (.ref 0), some (.ref 136), some (.ref 158), some (.int x4), some (.int x5), none, none] [.int xs0] I J z Φ := by
  refine Ev.blk (ops := [o0 (.istore 6) 2, o0 (.aload_n 2) 1]) (G := True ∧ True ∧ True) (by decide +kernel) ?_ ⟨trivial, trivial, trivial⟩ k
  rfl
theorem BL_law_929 {d Z L : Nat} {xs : Nat → Int32} {z : Nat} {Φ : Out → T2 → T3 → Nat → Prop} {I : T2} {J : T3} {x4 : Int32} {x5 : Int32} {x6 : Int32} {xs0 : Int32}  
    (k : Ev d Z L xs mL_law 931 [some (.retAddr 0), some (.ref 0), some (.ref 136), some (.ref 158), some (.int x4), some (.int x5), some (.int x6), none] [.int x5, .int xs0] I J z Φ) : Ev d Z L xs mL_law 929 [some (.retAddr 0), some (.ref 0), some (.ref 136), some (.ref 158), some (.int x4), some (.int x5), some (.int x6), none] [.int xs0] I J z Φ := by
  refine Ev.blk (ops := [o0 (.iload 5) 2]) (G := True ∧ True) (by decide +kernel) ?_ ⟨trivial, trivial⟩ k
  rfl
theorem BL_law_934 {d Z L : Nat} {xs : Nat → Int32} {z : Nat} {Φ : Out → T2 → T3 → Nat → Prop} {I : T2} {J : T3} {x4 : Int32} {x5 : Int32} {x6 : Int32}  
    (k : Ev d Z L xs mL_law 935 [some (.retAddr 0), some (.ref 0), some (.ref 136), some (.ref 158), some (.int x4), some (.int x5), some (.int x6), none] [.int 0] I J z Φ) : Ev d Z L xs mL_law 934 [some (.retAddr 0), some (.ref 0), some (.ref 136), some (.ref 158), some (.int x4), some (.int x5), some (.int x6), none] [] I J z Φ := by
  refine Ev.blk (ops := [oI (.iconst 0) 1 0]) (G := True ∧ True) (by decide +kernel) ?_ ⟨trivial, trivial⟩ k
  rfl
theorem BL_law_936 {d Z L : Nat} {xs : Nat → Int32} {z : Nat} {Φ : Out → T2 → T3 → Nat → Prop} {I : T2} {J : T3} {x4 : Int32} {x5 : Int32} {x6 : Int32}  
    (k : Ev d Z L xs mL_law 938 [some (.retAddr 0), some (.ref 0), some (.ref 136), some (.ref 158), some (.int x4), some (.int x5), some (.int x6), none] [.int x5] I J z Φ) : Ev d Z L xs mL_law 936 [some (.retAddr 0), some (.ref 0), some (.ref 136), some (.ref 158), some (.int x4), some (.int x5), some (.int x6), none] [] I J z Φ := by
  refine Ev.blk (ops := [o0 (.iload 5) 2]) (G := True ∧ True) (by decide +kernel) ?_ ⟨trivial, trivial⟩ k
  rfl
theorem BL_law_941 {d Z L : Nat} {xs : Nat → Int32} {z : Nat} {Φ : Out → T2 → T3 → Nat → Prop} {I : T2} {J : T3} {x4 : Int32} {x5 : Int32} {x6 : Int32}  (g1 : vp_in 0 1)
    (k : Ev d Z L xs mL_law 946 [some (.retAddr 0), some (.ref 0), some (.ref 136), some (.ref 158), some (.int x4), some (.int x5), some (.int x6), none] [.int x6, .long (J 158 (0 : Int32).toNatClampNeg)] I J z Φ) : Ev d Z L xs mL_law 941 [some (.retAddr 0), some (.ref 0), some (.ref 136), some (.ref 158), some (.int x4), some (.int x5), some (.int x6), none] [] I J z Φ := by
  refine Ev.blk (ops := [o0 (.aload_n 3) 1, oI (.iconst 0) 1 0, o0 (.laload) 1, o0 (.iload 6) 2]) (G := True ∧ True ∧ (kd 158 = 9 ∧ vp_in 0 (ln 158)) ∧ True ∧ True) (by decide +kernel) ?_ ⟨trivial, trivial, ⟨(by decide), g1⟩, trivial, trivial⟩ k
  rfl
theorem BL_law_949 {d Z L : Nat} {xs : Nat → Int32} {z : Nat} {Φ : Out → T2 → T3 → Nat → Prop} {I : T2} {J : T3} {x4 : Int32} {x5 : Int32} {x6 : Int32} {ys0 : Int64}  
    (k : Ev d Z L xs mL_law 954 [some (.retAddr 0), some (.ref 0), some (.ref 136), some (.ref 158), some (.int x4), some (.int x5), some (.int x6), none] [.long 1, .long ys0] I J z Φ) : Ev d Z L xs mL_law 949 [some (.retAddr 0), some (.ref 0), some (.ref 136), some (.ref 158), some (.int x4), some (.int x5), some (.int x6), none] [.long ys0] I J z Φ := by
  refine Ev.blk (ops := [oL (.lconst 1) 1 1, oK (.goto 4) 3 954 0]) (G := True ∧ True ∧ True) (by decide +kernel) ?_ ⟨trivial, trivial, trivial⟩ k
  rfl
theorem BL_law_953 {d Z L : Nat} {xs : Nat → Int32} {z : Nat} {Φ : Out → T2 → T3 → Nat → Prop} {I : T2} {J : T3} {x4 : Int32} {x5 : Int32} {x6 : Int32} {ys0 : Int64}  
    (k : Ev d Z L xs mL_law 954 [some (.retAddr 0), some (.ref 0), some (.ref 136), some (.ref 158), some (.int x4), some (.int x5), some (.int x6), none] [.long 0, .long ys0] I J z Φ) : Ev d Z L xs mL_law 953 [some (.retAddr 0), some (.ref 0), some (.ref 136), some (.ref 158), some (.int x4), some (.int x5), some (.int x6), none] [.long ys0] I J z Φ := by
  refine Ev.blk (ops := [oL (.lconst 0) 1 0]) (G := True ∧ True) (by decide +kernel) ?_ ⟨trivial, trivial⟩ k
  rfl
theorem BL_law_954 {d Z L : Nat} {xs : Nat → Int32} {z : Nat} {Φ : Out → T2 → T3 → Nat → Prop} {I : T2} {J : T3} {x4 : Int32} {x5 : Int32} {x6 : Int32} {ys0 : Int64} {ys1 : Int64}  
    (k : Ev d Z L xs mL_law 955 [some (.retAddr 0), some (.ref 0), some (.ref 136), some (.ref 158), some (.int x4), some (.int x5), some (.int x6), none] [.int (lg_cmp ys0 ys1)] I J z Φ) : Ev d Z L xs mL_law 954 [some (.retAddr 0), some (.ref 0), some (.ref 136), some (.ref 158), some (.int x4), some (.int x5), some (.int x6), none] [.long ys1, .long ys0] I J z Φ := by
  refine Ev.blk (ops := [o0 (.lcmp) 1]) (G := True ∧ True) (by decide +kernel) ?_ ⟨trivial, trivial⟩ k
  rfl
theorem BL_law_958 {d Z L : Nat} {xs : Nat → Int32} {z : Nat} {Φ : Out → T2 → T3 → Nat → Prop} {I : T2} {J : T3} {x4 : Int32} {x5 : Int32} {x6 : Int32}  
    (k : Ev d Z L xs mL_law 959 [some (.retAddr 0), some (.ref 0), some (.ref 136), some (.ref 158), some (.int x4), some (.int x5), some (.int x6), none] [.int 0] I J z Φ) : Ev d Z L xs mL_law 958 [some (.retAddr 0), some (.ref 0), some (.ref 136), some (.ref 158), some (.int x4), some (.int x5), some (.int x6), none] [] I J z Φ := by
  refine Ev.blk (ops := [oI (.iconst 0) 1 0]) (G := True ∧ True) (by decide +kernel) ?_ ⟨trivial, trivial⟩ k
  rfl
theorem BL_law_960 {d Z L : Nat} {xs : Nat → Int32} {z : Nat} {Φ : Out → T2 → T3 → Nat → Prop} {I : T2} {J : T3} {x4 : Int32} {x5 : Int32} {x6 : Int32}  
    (k : Ev d Z L xs mL_law 1313 [some (.retAddr 0), some (.ref 0), some (.ref 136), some (.ref 158), some (.int x4), some (.int x5), some (.int x6), none] [] I J z Φ) : Ev d Z L xs mL_law 960 [some (.retAddr 0), some (.ref 0), some (.ref 136), some (.ref 158), some (.int x4), some (.int x5), some (.int x6), none] [] I J z Φ := by
  refine Ev.blk (ops := [oK (.goto 353) 3 1313 0]) (G := True ∧ True) (by decide +kernel) ?_ ⟨trivial, trivial⟩ k
  rfl
theorem BL_law_963 {d Z L : Nat} {xs : Nat → Int32} {z : Nat} {Φ : Out → T2 → T3 → Nat → Prop} {I : T2} {J : T3} {x4 : Int32}  (g1 : vp_in (x4 + 1) L)
    (k : Ev d Z L xs mL_law 970 [some (.retAddr 0), some (.ref 0), some (.ref 136), some (.ref 158), some (.int x4), none, none, none] [.int (xs (x4 + 1).toNatClampNeg), .ref 0] I J z Φ) : Ev d Z L xs mL_law 963 [some (.retAddr 0), some (.ref 0), some (.ref 136), some (.ref 158), some (.int x4), none, none, none] [] I J z Φ := by
  refine Ev.blk (ops := [o0 (.aload_n 1) 1, o0 (.aload_n 0) 1, o0 (.iload 4) 2, oI (.iconst 1) 1 1, o0 (.iadd) 1, o0 (.iaload) 1]) (G := True ∧ True ∧ True ∧ True ∧ True ∧ (vp_in (x4 + 1) L) ∧ True) (by decide +kernel) ?_ ⟨trivial, trivial, trivial, trivial, trivial, g1, trivial⟩ k
  rfl
theorem BL_law_973 {d Z L : Nat} {xs : Nat → Int32} {z : Nat} {Φ : Out → T2 → T3 → Nat → Prop} {I : T2} {J : T3} {x4 : Int32}  
    (k : Ev d Z L xs mL_law 978 [some (.retAddr 0), some (.ref 0), some (.ref 136), some (.ref 158), some (.int x4), none, none, none] [.int 1, .ref 0] I J z Φ) : Ev d Z L xs mL_law 973 [some (.retAddr 0), some (.ref 0), some (.ref 136), some (.ref 158), some (.int x4), none, none, none] [.ref 0] I J z Φ := by
  refine Ev.blk (ops := [oI (.iconst 1) 1 1, oK (.goto 4) 3 978 0]) (G := True ∧ True ∧ True) (by decide +kernel) ?_ ⟨trivial, trivial, trivial⟩ k
  rfl
theorem BL_law_977 {d Z L : Nat} {xs : Nat → Int32} {z : Nat} {Φ : Out → T2 → T3 → Nat → Prop} {I : T2} {J : T3} {x4 : Int32}  
    (k : Ev d Z L xs mL_law 978 [some (.retAddr 0), some (.ref 0), some (.ref 136), some (.ref 158), some (.int x4), none, none, none] [.int 0, .ref 0] I J z Φ) : Ev d Z L xs mL_law 977 [some (.retAddr 0), some (.ref 0), some (.ref 136), some (.ref 158), some (.int x4), none, none, none] [.ref 0] I J z Φ := by
  refine Ev.blk (ops := [oI (.iconst 0) 1 0]) (G := True ∧ True) (by decide +kernel) ?_ ⟨trivial, trivial⟩ k
  rfl
theorem BL_law_981 {d Z L : Nat} {xs : Nat → Int32} {z : Nat} {Φ : Out → T2 → T3 → Nat → Prop} {I : T2} {J : T3} {x4 : Int32} {xs0 : Int32}  (g1 : vp_in (x4 + 1) L)
    (k : Ev d Z L xs mL_law 988 [some (.retAddr 0), some (.ref 0), some (.ref 136), some (.ref 158), some (.int x4), none, none, none] [.int (xs (x4 + 1).toNatClampNeg), .ref 136, .int xs0] I J z Φ) : Ev d Z L xs mL_law 981 [some (.retAddr 0), some (.ref 0), some (.ref 136), some (.ref 158), some (.int x4), none, none, none] [.int xs0] I J z Φ := by
  refine Ev.blk (ops := [o0 (.aload_n 2) 1, o0 (.aload_n 0) 1, o0 (.iload 4) 2, oI (.iconst 1) 1 1, o0 (.iadd) 1, o0 (.iaload) 1]) (G := True ∧ True ∧ True ∧ True ∧ True ∧ (vp_in (x4 + 1) L) ∧ True) (by decide +kernel) ?_ ⟨trivial, trivial, trivial, trivial, trivial, g1, trivial⟩ k
  rfl
theorem BL_law_991 {d Z L : Nat} {xs : Nat → Int32} {z : Nat} {Φ : Out → T2 → T3 → Nat → Prop} {I : T2} {J : T3} {x4 : Int32} {xs0 : Int32}  
    (k : Ev d Z L xs mL_law 996 [some (.retAddr 0), some (.ref 0), some (.ref 136), some (.ref 158), some (.int x4), none, none, none] [.int 1, .ref 136, .int xs0] I J z Φ) : Ev d Z L xs mL_law 991 [some (.retAddr 0), some (.ref 0), some (.ref 136), some (.ref 158), some (.int x4), none, none, none] [.ref 136, .int xs0] I J z Φ := by
  refine Ev.blk (ops := [oI (.iconst 1) 1 1, oK (.goto 4) 3 996 0]) (G := True ∧ True ∧ True) (by decide +kernel) ?_ ⟨trivial, trivial, trivial⟩ k
  rfl
theorem BL_law_995 {d Z L : Nat} {xs : Nat → Int32} {z : Nat} {Φ : Out → T2 → T3 → Nat → Prop} {I : T2} {J : T3} {x4 : Int32} {xs0 : Int32}  
    (k : Ev d Z L xs mL_law 996 [some (.retAddr 0), some (.ref 0), some (.ref 136), some (.ref 158), some (.int x4), none, none, none] [.int 0, .ref 136, .int xs0] I J z Φ) : Ev d Z L xs mL_law 995 [some (.retAddr 0), some (.ref 0), some (.ref 136), some (.ref 158), some (.int x4), none, none, none] [.ref 136, .int xs0] I J z Φ := by
  refine Ev.blk (ops := [oI (.iconst 0) 1 0]) (G := True ∧ True) (by decide +kernel) ?_ ⟨trivial, trivial⟩ k
  rfl
theorem BL_law_1002 {d Z L : Nat} {xs : Nat → Int32} {z : Nat} {Φ : Out → T2 → T3 → Nat → Prop} {I : T2} {J : T3} {x4 : Int32}  
    (k : Ev d Z L xs mL_law 1003 [some (.retAddr 0), some (.ref 0), some (.ref 136), some (.ref 158), some (.int x4), none, none, none] [.int 0] I J z Φ) : Ev d Z L xs mL_law 1002 [some (.retAddr 0), some (.ref 0), some (.ref 136), some (.ref 158), some (.int x4), none, none, none] [] I J z Φ := by
  refine Ev.blk (ops := [oI (.iconst 0) 1 0]) (G := True ∧ True) (by decide +kernel) ?_ ⟨trivial, trivial⟩ k
  rfl
theorem BL_law_1004 {d Z L : Nat} {xs : Nat → Int32} {z : Nat} {Φ : Out → T2 → T3 → Nat → Prop} {I : T2} {J : T3} {x4 : Int32}  (g1 : vp_in (x4 + 1) L) (g2 : vp_in (x4 + 2) L)
    (k : Ev d Z L xs mL_law 1018 [some (.retAddr 0), some (.ref 0), some (.ref 136), some (.ref 158), some (.int x4), none, none, none] [.ref 158, .int (xs (x4 + 2).toNatClampNeg), .int (xs (x4 + 1).toNatClampNeg), .ref 0] I J z Φ) : Ev d Z L xs mL_law 1004 [some (.retAddr 0), some (.ref 0), some (.ref 136), some (.ref 158), some (.int x4), none, none, none] [] I J z Φ := by
  refine Ev.blk (ops := [o0 (.aload_n 1) 1, o0 (.aload_n 0) 1, o0 (.iload 4) 2, oI (.iconst 1) 1 1, o0 (.iadd) 1, o0 (.iaload) 1, o0 (.aload_n 0) 1, o0 (.iload 4) 2, oI (.iconst 2) 1 2, o0 (.iadd) 1, o0 (.iaload) 1, o0 (.aload_n 3) 1]) (G := True ∧ True ∧ True ∧ True ∧ True ∧ (vp_in (x4 + 1) L) ∧ True ∧ True ∧ True ∧ True ∧ (vp_in (x4 + 2) L) ∧ True ∧ True) (by decide +kernel) ?_ ⟨trivial, trivial, trivial, trivial, trivial, g1, trivial, trivial, trivial, trivial, g2, trivial, trivial⟩ k
  rfl
theorem BL_law_1021 {d Z L : Nat} {xs : Nat → Int32} {z : Nat} {Φ : Out → T2 → T3 → Nat → Prop} {I : T2} {J : T3} {x4 : Int32} {xs0 : Int32}  (g1 : vp_in (x4 + 1) L) (g2 : vp_in (x4 + 2) L)
    (k : Ev d Z L xs mL_law 1036 [some (.retAddr 0), some (.ref 0), some (.ref 136), some (.ref 158), some (.int x4), some (.int xs0), none, none] [.int (xs (x4 + 2).toNatClampNeg), .int (xs (x4 + 1).toNatClampNeg), .ref 136] I J z Φ) : Ev d Z L xs mL_law 1021 [some (.retAddr 0), some (.ref 0), some (.ref 136), some (.ref 158), some (.int x4), none, none, none] [.int xs0] I J z Φ := by
  refine Ev.blk (ops := [o0 (.istore 5) 2, o0 (.aload_n 2) 1, o0 (.aload_n 0) 1, o0 (.iload 4) 2, oI (.iconst 1) 1 1, o0 (.iadd) 1, o0 (.iaload) 1, o0 (.aload_n 0) 1, o0 (.iload 4) 2, oI (.iconst 2) 1 2, o0 (.iadd) 1, o0 (.iaload) 1]) (G := True ∧ True ∧ True ∧ True ∧ True ∧ True ∧ (vp_in (x4 + 1) L) ∧ True ∧ True ∧ True ∧ True ∧ (vp_in (x4 + 2) L) ∧ True) (by decide +kernel) ?_ ⟨trivial, trivial, trivial, trivial, trivial, trivial, g1, trivial, trivial, trivial, trivial, g2, trivial⟩ k
  rfl
theorem BL_law_1039 {d Z L : Nat} {xs : Nat → Int32} {z : Nat} {Φ : Out → T2 → T3 → Nat → Prop} {I : T2} {J : T3} {x4 : Int32} {x5 : Int32} {ys0 : Int64}  
    (k : Ev d Z L xs mL_law 1042 [some (.retAddr 0), some (.ref 0), some (.ref 136), some (.ref 158), some (.int x4), some (.int x5), some (.long ys0), none] [.ref 136] I J z Φ) : Ev d Z L xs mL_law 1039 [some (.retAddr 0), some (.ref 0), some (.ref 136), some (.ref 158), some (.int x4), some (.int x5), none, none] [.long ys0] I J z Φ := by
  refine Ev.blk (ops := [o0 (.lstore 6) 2, o0 (.aload_n 2) 1]) (G := True ∧ True ∧ True) (by decide +kernel) ?_ ⟨trivial, trivial, trivial⟩ k
  rfl
theorem BL_law_1045 {d Z L : Nat} {xs : Nat → Int32} {z : Nat} {Φ : Out → T2 → T3 → Nat → Prop} {I : T2} {J : T3} {x4 : Int32} {x5 : Int32} {y6 : Int64} {xs0 : Int32}  
    (k : Ev d Z L xs mL_law 1047 [some (.retAddr 0), some (.ref 0), some (.ref 136), some (.ref 158), some (.int x4), some (.int x5), some (.long y6), none] [.int x5, .int xs0] I J z Φ) : Ev d Z L xs mL_law 1045 [some (.retAddr 0), some (.ref 0), some (.ref 136), some (.ref 158), some (.int x4), some (.int x5), some (.long y6), none] [.int xs0] I J z Φ := by
  refine Ev.blk (ops := [o0 (.iload 5) 2]) (G := True ∧ True) (by decide +kernel) ?_ ⟨trivial, trivial⟩ k
  rfl
theorem BL_law_1050 {d Z L : Nat} {xs : Nat → Int32} {z : Nat} {Φ : Out → T2 → T3 → Nat → Prop} {I : T2} {J : T3} {x4 : Int32} {x5 : Int32} {y6 : Int64}  
    (k : Ev d Z L xs mL_law 1051 [some (.retAddr 0), some (.ref 0), some (.ref 136), some (.ref 158), some (.int x4), some (.int x5), some (.long y6), none] [.int 0] I J z Φ) : Ev d Z L xs mL_law 1050 [some (.retAddr 0), some (.ref 0), some (.ref 136), some (.ref 158), some (.int x4), some (.int x5), some (.long y6), none] [] I J z Φ := by
  refine Ev.blk (ops := [oI (.iconst 0) 1 0]) (G := True ∧ True) (by decide +kernel) ?_ ⟨trivial, trivial⟩ k
  rfl
theorem BL_law_1052 {d Z L : Nat} {xs : Nat → Int32} {z : Nat} {Φ : Out → T2 → T3 → Nat → Prop} {I : T2} {J : T3} {x4 : Int32} {x5 : Int32} {y6 : Int64}  
    (k : Ev d Z L xs mL_law 1054 [some (.retAddr 0), some (.ref 0), some (.ref 136), some (.ref 158), some (.int x4), some (.int x5), some (.long y6), none] [.int x5] I J z Φ) : Ev d Z L xs mL_law 1052 [some (.retAddr 0), some (.ref 0), some (.ref 136), some (.ref 158), some (.int x4), some (.int x5), some (.long y6), none] [] I J z Φ := by
  refine Ev.blk (ops := [o0 (.iload 5) 2]) (G := True ∧ True) (by decide +kernel) ?_ ⟨trivial, trivial⟩ k
  rfl
theorem BL_law_1057 {d Z L : Nat} {xs : Nat → Int32} {z : Nat} {Φ : Out → T2 → T3 → Nat → Prop} {I : T2} {J : T3} {x4 : Int32} {x5 : Int32} {y6 : Int64}  (g1 : vp_in 0 1)
    (k : Ev d Z L xs mL_law 1063 [some (.retAddr 0), some (.ref 0), some (.ref 136), some (.ref 158), some (.int x4), some (.int x5), some (.long y6), none] [.int (lg_cmp (J 158 (0 : Int32).toNatClampNeg) y6)] I J z Φ) : Ev d Z L xs mL_law 1057 [some (.retAddr 0), some (.ref 0), some (.ref 136), some (.ref 158), some (.int x4), some (.int x5), some (.long y6), none] [] I J z Φ := by
  refine Ev.blk (ops := [o0 (.aload_n 3) 1, oI (.iconst 0) 1 0, o0 (.laload) 1, o0 (.lload 6) 2, o0 (.lcmp) 1]) (G := True ∧ True ∧ (kd 158 = 9 ∧ vp_in 0 (ln 158)) ∧ True ∧ True ∧ True) (by decide +kernel) ?_ ⟨trivial, trivial, ⟨(by decide), g1⟩, trivial, trivial, trivial⟩ k
  rfl
theorem BL_law_1066 {d Z L : Nat} {xs : Nat → Int32} {z : Nat} {Φ : Out → T2 → T3 → Nat → Prop} {I : T2} {J : T3} {x4 : Int32} {x5 : Int32} {y6 : Int64}  
    (k : Ev d Z L xs mL_law 1067 [some (.retAddr 0), some (.ref 0), some (.ref 136), some (.ref 158), some (.int x4), some (.int x5), some (.long y6), none] [.int 0] I J z Φ) : Ev d Z L xs mL_law 1066 [some (.retAddr 0), some (.ref 0), some (.ref 136), some (.ref 158), some (.int x4), some (.int x5), some (.long y6), none] [] I J z Φ := by
  refine Ev.blk (ops := [oI (.iconst 0) 1 0]) (G := True ∧ True) (by decide +kernel) ?_ ⟨trivial, trivial⟩ k
  rfl
theorem BL_law_1068 {d Z L : Nat} {xs : Nat → Int32} {z : Nat} {Φ : Out → T2 → T3 → Nat → Prop} {I : T2} {J : T3} {x4 : Int32} {x5 : Int32} {y6 : Int64}  
    (k : Ev d Z L xs mL_law 1313 [some (.retAddr 0), some (.ref 0), some (.ref 136), some (.ref 158), some (.int x4), some (.int x5), some (.long y6), none] [] I J z Φ) : Ev d Z L xs mL_law 1068 [some (.retAddr 0), some (.ref 0), some (.ref 136), some (.ref 158), some (.int x4), some (.int x5), some (.long y6), none] [] I J z Φ := by
  refine Ev.blk (ops := [oK (.goto 245) 3 1313 0]) (G := True ∧ True) (by decide +kernel) ?_ ⟨trivial, trivial⟩ k
  rfl
theorem BL_law_1071 {d Z L : Nat} {xs : Nat → Int32} {z : Nat} {Φ : Out → T2 → T3 → Nat → Prop} {I : T2} {J : T3} {x4 : Int32}  (g1 : vp_in (x4 + 1) L) (g2 : vp_in (x4 + 2) L) (g3 : vp_in (x4 + 3) L)
    (k : Ev d Z L xs mL_law 1091 [some (.retAddr 0), some (.ref 0), some (.ref 136), some (.ref 158), some (.int x4), none, none, none] [.ref 158, .int (xs (x4 + 3).toNatClampNeg), .int (xs (x4 + 2).toNatClampNeg), .int (xs (x4 + 1).toNatClampNeg), .ref 0] I J z Φ) : Ev d Z L xs mL_law 1071 [some (.retAddr 0), some (.ref 0), some (.ref 136), some (.ref 158), some (.int x4), none, none, none] [] I J z Φ := by
  refine Ev.blk (ops := [o0 (.aload_n 1) 1, o0 (.aload_n 0) 1, o0 (.iload 4) 2, oI (.iconst 1) 1 1, o0 (.iadd) 1, o0 (.iaload) 1, o0 (.aload_n 0) 1, o0 (.iload 4) 2, oI (.iconst 2) 1 2, o0 (.iadd) 1, o0 (.iaload) 1, o0 (.aload_n 0) 1, o0 (.iload 4) 2, oI (.iconst 3) 1 3, o0 (.iadd) 1, o0 (.iaload) 1, o0 (.aload_n 3) 1]) (G := True ∧ True ∧ True ∧ True ∧ True ∧ (vp_in (x4 + 1) L) ∧ True ∧ True ∧ True ∧ True ∧ (vp_in (x4 + 2) L) ∧ True ∧ True ∧ True ∧ True ∧ (vp_in (x4 + 3) L) ∧ True ∧ True) (by decide +kernel) ?_ ⟨trivial, trivial, trivial, trivial, trivial, g1, trivial, trivial, trivial, trivial, g2, trivial, trivial, trivial, trivial, g3, trivial, trivial⟩ k
  rfl
theorem BL_law_1094 {d Z L : Nat} {xs : Nat → Int32} {z : Nat} {Φ : Out → T2 → T3 → Nat → Prop} {I : T2} {J : T3} {x4 : Int32} {xs0 : Int32}  (g1 : vp_in (x4 + 1) L) (g2 : vp_in (x4 + 2) L) (g3 : vp_in (x4 + 3) L)
    (k : Ev d Z L xs mL_law 1115 [some (.retAddr 0), some (.ref 0), some (.ref 136), some (.ref 158), some (.int x4), some (.int xs0), none, none] [.int (xs (x4 + 3).toNatClampNeg), .int (xs (x4 + 2).toNatClampNeg), .int (xs (x4 + 1).toNatClampNeg), .ref 136] I J z Φ) : Ev d Z L xs mL_law 1094 [some (.retAddr 0), some (.ref 0), some (.ref 136), some (.ref 158), some (.int x4), none, none, none] [.int xs0] I J z Φ := by
  refine Ev.blk (ops := [o0 (.istore 5) 2, o0 (.aload_n 2) 1, o0 (.aload_n 0) 1, o0 (.iload 4) 2, oI (.iconst 1) 1 1, o0 (.iadd) 1, o0 (.iaload) 1, o0 (.aload_n 0) 1, o0 (.iload 4) 2, oI (.iconst 2) 1 2, o0 (.iadd) 1, o0 (.iaload) 1, o0 (.aload_n 0) 1, o0 (.iload 4) 2, oI (.iconst 3) 1 3, o0 (.iadd) 1, o0 (.iaload) 1]) (G := True ∧ True ∧ True ∧ True ∧ True ∧ True ∧ (vp_in (x4 + 1) L) ∧ True ∧ True ∧ True ∧ True ∧ (vp_in (x4 + 2) L) ∧ True ∧ True ∧ True ∧ True ∧ (vp_in (x4 + 3) L) ∧ True) (by decide +kernel) ?_ ⟨trivial, trivial, trivial, trivial, trivial, trivial, g1, trivial, trivial, trivial, trivial, g2, trivial, trivial, trivial, trivial, g3, trivial⟩ k
  rfl
theorem BL_law_1118 {d Z L : Nat} {xs : Nat → Int32} {z : Nat} {Φ : Out → T2 → T3 → Nat → Prop} {I : T2} {J : T3} {x4 : Int32} {x5 : Int32} {xs0 : Int32}  
    (k : Ev d Z L xs mL_law 1121 [some (.retAddr 0), some (.ref 0), some (.ref 136), some (.ref 158), some (.int x4), some (.int x5), some (.int xs0), none] [.ref 136] I J z Φ) : Ev d Z L xs mL_law 1118 [some (.retAddr 0), some (.ref 0), some (.ref 136), some (.ref 158), some (.int x4), some (.int x5), none, none] [.int xs0] I J z Φ := by
  refine Ev.blk (ops := [o0 (.istore 6) 2, o0 (.aload_n 2) 1]) (G := True ∧ True ∧ True) (by decide +kernel) ?_ ⟨trivial, trivial, trivial⟩ k
  rfl
theorem BL_law_1124 {d Z L : Nat} {xs : Nat → Int32} {z : Nat} {Φ : Out → T2 → T3 → Nat → Prop} {I : T2} {J : T3} {x4 : Int32} {x5 : Int32} {x6 : Int32} {xs0 : Int32}  
    (k : Ev d Z L xs mL_law 1126 [some (.retAddr 0), some (.ref 0), some (.ref 136), some (.ref 158), some (.int x4), some (.int x5), some (.int x6), none] [.int x5, .int xs0] I J z Φ) : Ev d Z L xs mL_law 1124 [some (.retAddr 0), some (.ref 0), some (.ref 136), some (.ref 158), some (.int x4), some (.int x5), some (.int x6), none] [.int xs0] I J z Φ := by
  refine Ev.blk (ops := [o0 (.iload 5) 2]) (G := True ∧ True) (by decide +kernel) ?_ ⟨trivial, trivial⟩ k
  rfl
theorem BL_law_1129 {d Z L : Nat} {xs : Nat → Int32} {z : Nat} {Φ : Out → T2 → T3 → Nat → Prop} {I : T2} {J : T3} {x4 : Int32} {x5 : Int32} {x6 : Int32}  
    (k : Ev d Z L xs mL_law 1130 [some (.retAddr 0), some (.ref 0), some (.ref 136), some (.ref 158), some (.int x4), some (.int x5), some (.int x6), none] [.int 0] I J z Φ) : Ev d Z L xs mL_law 1129 [some (.retAddr 0), some (.ref 0), some (.ref 136), some (.ref 158), some (.int x4), some (.int x5), some (.int x6), none] [] I J z Φ := by
  refine Ev.blk (ops := [oI (.iconst 0) 1 0]) (G := True ∧ True) (by decide +kernel) ?_ ⟨trivial, trivial⟩ k
  rfl
theorem BL_law_1131 {d Z L : Nat} {xs : Nat → Int32} {z : Nat} {Φ : Out → T2 → T3 → Nat → Prop} {I : T2} {J : T3} {x4 : Int32} {x5 : Int32} {x6 : Int32}  
    (k : Ev d Z L xs mL_law 1133 [some (.retAddr 0), some (.ref 0), some (.ref 136), some (.ref 158), some (.int x4), some (.int x5), some (.int x6), none] [.int x5] I J z Φ) : Ev d Z L xs mL_law 1131 [some (.retAddr 0), some (.ref 0), some (.ref 136), some (.ref 158), some (.int x4), some (.int x5), some (.int x6), none] [] I J z Φ := by
  refine Ev.blk (ops := [o0 (.iload 5) 2]) (G := True ∧ True) (by decide +kernel) ?_ ⟨trivial, trivial⟩ k
  rfl
theorem BL_law_1136 {d Z L : Nat} {xs : Nat → Int32} {z : Nat} {Φ : Out → T2 → T3 → Nat → Prop} {I : T2} {J : T3} {x4 : Int32} {x5 : Int32} {x6 : Int32}  (g1 : vp_in 0 1)
    (k : Ev d Z L xs mL_law 1143 [some (.retAddr 0), some (.ref 0), some (.ref 136), some (.ref 158), some (.int x4), some (.int x5), some (.int x6), none] [.int (lg_cmp (J 158 (0 : Int32).toNatClampNeg) x6.toInt64)] I J z Φ) : Ev d Z L xs mL_law 1136 [some (.retAddr 0), some (.ref 0), some (.ref 136), some (.ref 158), some (.int x4), some (.int x5), some (.int x6), none] [] I J z Φ := by
  refine Ev.blk (ops := [o0 (.aload_n 3) 1, oI (.iconst 0) 1 0, o0 (.laload) 1, o0 (.iload 6) 2, o0 (.i2l) 1, o0 (.lcmp) 1]) (G := True ∧ True ∧ (kd 158 = 9 ∧ vp_in 0 (ln 158)) ∧ True ∧ True ∧ True ∧ True) (by decide +kernel) ?_ ⟨trivial, trivial, ⟨(by decide), g1⟩, trivial, trivial, trivial, trivial⟩ k
  rfl
theorem BL_law_1146 {d Z L : Nat} {xs : Nat → Int32} {z : Nat} {Φ : Out → T2 → T3 → Nat → Prop} {I : T2} {J : T3} {x4 : Int32} {x5 : Int32} {x6 : Int32}  
    (k : Ev d Z L xs mL_law 1147 [some (.retAddr 0), some (.ref 0), some (.ref 136), some (.ref 158), some (.int x4), some (.int x5), some (.int x6), none] [.int 0] I J z Φ) : Ev d Z L xs mL_law 1146 [some (.retAddr 0), some (.ref 0), some (.ref 136), some (.ref 158), some (.int x4), some (.int x5), some (.int x6), none] [] I J z Φ := by
  refine Ev.blk (ops := [oI (.iconst 0) 1 0]) (G := True ∧ True) (by decide +kernel) ?_ ⟨trivial, trivial⟩ k
  rfl
theorem BL_law_1148 {d Z L : Nat} {xs : Nat → Int32} {z : Nat} {Φ : Out → T2 → T3 → Nat → Prop} {I : T2} {J : T3} {x4 : Int32} {x5 : Int32} {x6 : Int32}  
    (k : Ev d Z L xs mL_law 1313 [some (.retAddr 0), some (.ref 0), some (.ref 136), some (.ref 158), some (.int x4), some (.int x5), some (.int x6), none] [] I J z Φ) : Ev d Z L xs mL_law 1148 [some (.retAddr 0), some (.ref 0), some (.ref 136), some (.ref 158), some (.int x4), some (.int x5), some (.int x6), none] [] I J z Φ := by
  refine Ev.blk (ops := [oK (.goto 165) 3 1313 0]) (G := True ∧ True) (by decide +kernel) ?_ ⟨trivial, trivial⟩ k
  rfl
theorem BL_law_1151 {d Z L : Nat} {xs : Nat → Int32} {z : Nat} {Φ : Out → T2 → T3 → Nat → Prop} {I : T2} {J : T3} {x4 : Int32}  (g1 : vp_in (x4 + 1) L)
    (k : Ev d Z L xs mL_law 1158 [some (.retAddr 0), some (.ref 0), some (.ref 136), some (.ref 158), some (.int x4), none, none, none] [.int (xs (x4 + 1).toNatClampNeg), .ref 0] I J z Φ) : Ev d Z L xs mL_law 1151 [some (.retAddr 0), some (.ref 0), some (.ref 136), some (.ref 158), some (.int x4), none, none, none] [] I J z Φ := by
  refine Ev.blk (ops := [o0 (.aload_n 1) 1, o0 (.aload_n 0) 1, o0 (.iload 4) 2, oI (.iconst 1) 1 1, o0 (.iadd) 1, o0 (.iaload) 1]) (G := True ∧ True ∧ True ∧ True ∧ True ∧ (vp_in (x4 + 1) L) ∧ True) (by decide +kernel) ?_ ⟨trivial, trivial, trivial, trivial, trivial, g1, trivial⟩ k
  rfl
theorem BL_law_1161 {d Z L : Nat} {xs : Nat → Int32} {z : Nat} {Φ : Out → T2 → T3 → Nat → Prop} {I : T2} {J : T3} {x4 : Int32} {xs0 : Int32}  (g1 : vp_in (x4 + 1) L)
    (k : Ev d Z L xs mL_law 1168 [some (.retAddr 0), some (.ref 0), some (.ref 136), some (.ref 158), some (.int x4), none, none, none] [.int (xs (x4 + 1).toNatClampNeg), .ref 136, .int xs0] I J z Φ) : Ev d Z L xs mL_law 1161 [some (.retAddr 0), some (.ref 0), some (.ref 136), some (.ref 158), some (.int x4), none, none, none] [.int xs0] I J z Φ := by
  refine Ev.blk (ops := [o0 (.aload_n 2) 1, o0 (.aload_n 0) 1, o0 (.iload 4) 2, oI (.iconst 1) 1 1, o0 (.iadd) 1, o0 (.iaload) 1]) (G := True ∧ True ∧ True ∧ True ∧ True ∧ (vp_in (x4 + 1) L) ∧ True) (by decide +kernel) ?_ ⟨trivial, trivial, trivial, trivial, trivial, g1, trivial⟩ k
  rfl
theorem BL_law_1174 {d Z L : Nat} {xs : Nat → Int32} {z : Nat} {Φ : Out → T2 → T3 → Nat → Prop} {I : T2} {J : T3} {x4 : Int32}  
    (k : Ev d Z L xs mL_law 1175 [some (.retAddr 0), some (.ref 0), some (.ref 136), some (.ref 158), some (.int x4), none, none, none] [.int 0] I J z Φ) : Ev d Z L xs mL_law 1174 [some (.retAddr 0), some (.ref 0), some (.ref 136), some (.ref 158), some (.int x4), none, none, none] [] I J z Φ := by
  refine Ev.blk (ops := [oI (.iconst 0) 1 0]) (G := True ∧ True) (by decide +kernel) ?_ ⟨trivial, trivial⟩ k
  rfl
theorem BL_law_1176 {d Z L : Nat} {xs : Nat → Int32} {z : Nat} {Φ : Out → T2 → T3 → Nat → Prop} {I : T2} {J : T3} {x4 : Int32}  (g1 : vp_in (x4 + 1) L)
    (k : Ev d Z L xs mL_law 1183 [some (.retAddr 0), some (.ref 0), some (.ref 136), some (.ref 158), some (.int x4), none, none, none] [.int (xs (x4 + 1).toNatClampNeg), .ref 0] I J z Φ) : Ev d Z L xs mL_law 1176 [some (.retAddr 0), some (.ref 0), some (.ref 136), some (.ref 158), some (.int x4), none, none, none] [] I J z Φ := by
  refine Ev.blk (ops := [o0 (.aload_n 1) 1, o0 (.aload_n 0) 1, o0 (.iload 4) 2, oI (.iconst 1) 1 1, o0 (.iadd) 1, o0 (.iaload) 1]) (G := True ∧ True ∧ True ∧ True ∧ True ∧ (vp_in (x4 + 1) L) ∧ True) (by decide +kernel) ?_ ⟨trivial, trivial, trivial, trivial, trivial, g1, trivial⟩ k
  rfl
theorem BL_law_1186 {d Z L : Nat} {xs : Nat → Int32} {z : Nat} {Φ : Out → T2 → T3 → Nat → Prop} {I : T2} {J : T3} {x4 : Int32} {xs0 : Int32}  (g1 : vp_in (x4 + 1) L)
    (k : Ev d Z L xs mL_law 1193 [some (.retAddr 0), some (.ref 0), some (.ref 136), some (.ref 158), some (.int x4), none, none, none] [.int (xs (x4 + 1).toNatClampNeg), .ref 136, .int xs0] I J z Φ) : Ev d Z L xs mL_law 1186 [some (.retAddr 0), some (.ref 0), some (.ref 136), some (.ref 158), some (.int x4), none, none, none] [.int xs0] I J z Φ := by
  refine Ev.blk (ops := [o0 (.aload_n 2) 1, o0 (.aload_n 0) 1, o0 (.iload 4) 2, oI (.iconst 1) 1 1, o0 (.iadd) 1, o0 (.iaload) 1]) (G := True ∧ True ∧ True ∧ True ∧ True ∧ (vp_in (x4 + 1) L) ∧ True) (by decide +kernel) ?_ ⟨trivial, trivial, trivial, trivial, trivial, g1, trivial⟩ k
  rfl
theorem BL_law_1199 {d Z L : Nat} {xs : Nat → Int32} {z : Nat} {Φ : Out → T2 → T3 → Nat → Prop} {I : T2} {J : T3} {x4 : Int32}  
    (k : Ev d Z L xs mL_law 1200 [some (.retAddr 0), some (.ref 0), some (.ref 136), some (.ref 158), some (.int x4), none, none, none] [.int 0] I J z Φ) : Ev d Z L xs mL_law 1199 [some (.retAddr 0), some (.ref 0), some (.ref 136), some (.ref 158), some (.int x4), none, none, none] [] I J z Φ := by
  refine Ev.blk (ops := [oI (.iconst 0) 1 0]) (G := True ∧ True) (by decide +kernel) ?_ ⟨trivial, trivial⟩ k
  rfl
theorem BL_law_1201 {d Z L : Nat} {xs : Nat → Int32} {z : Nat} {Φ : Out → T2 → T3 → Nat → Prop} {I : T2} {J : T3} {x4 : Int32}  (g1 : vp_in (x4 + 1) L)
    (k : Ev d Z L xs mL_law 1209 [some (.retAddr 0), some (.ref 0), some (.ref 136), some (.ref 158), some (.int x4), none, none, none] [.ref 158, .int (xs (x4 + 1).toNatClampNeg), .ref 0] I J z Φ) : Ev d Z L xs mL_law 1201 [some (.retAddr 0), some (.ref 0), some (.ref 136), some (.ref 158), some (.int x4), none, none, none] [] I J z Φ := by
  refine Ev.blk (ops := [o0 (.aload_n 1) 1, o0 (.aload_n 0) 1, o0 (.iload 4) 2, oI (.iconst 1) 1 1, o0 (.iadd) 1, o0 (.iaload) 1, o0 (.aload_n 3) 1]) (G := True ∧ True ∧ True ∧ True ∧ True ∧ (vp_in (x4 + 1) L) ∧ True ∧ True) (by decide +kernel) ?_ ⟨trivial, trivial, trivial, trivial, trivial, g1, trivial, trivial⟩ k
  rfl
theorem BL_law_1212 {d Z L : Nat} {xs : Nat → Int32} {z : Nat} {Φ : Out → T2 → T3 → Nat → Prop} {I : T2} {J : T3} {x4 : Int32} {xs0 : Int32}  (g1 : vp_in (x4 + 1) L)
    (k : Ev d Z L xs mL_law 1221 [some (.retAddr 0), some (.ref 0), some (.ref 136), some (.ref 158), some (.int x4), some (.int xs0), none, none] [.int (xs (x4 + 1).toNatClampNeg), .ref 136] I J z Φ) : Ev d Z L xs mL_law 1212 [some (.retAddr 0), some (.ref 0), some (.ref 136), some (.ref 158), some (.int x4), none, none, none] [.int xs0] I J z Φ := by
  refine Ev.blk (ops := [o0 (.istore 5) 2, o0 (.aload_n 2) 1, o0 (.aload_n 0) 1, o0 (.iload 4) 2, oI (.iconst 1) 1 1, o0 (.iadd) 1, o0 (.iaload) 1]) (G := True ∧ True ∧ True ∧ True ∧ True ∧ True ∧ (vp_in (x4 + 1) L) ∧ True) (by decide +kernel) ?_ ⟨trivial, trivial, trivial, trivial, trivial, trivial, g1, trivial⟩ k
  rfl
theorem BL_law_1224 {d Z L : Nat} {xs : Nat → Int32} {z : Nat} {Φ : Out → T2 → T3 → Nat → Prop} {I : T2} {J : T3} {x4 : Int32} {x5 : Int32} {xs0 : Int32}  
    (k : Ev d Z L xs mL_law 1227 [some (.retAddr 0), some (.ref 0), some (.ref 136), some (.ref 158), some (.int x4), some (.int x5), some (.int xs0), none] [.ref 136] I J z Φ) : Ev d Z L xs mL_law 1224 [some (.retAddr 0), some (.ref 0), some (.ref 136), some (.ref 158), some (.int x4), some (.int x5), none, none] [.int xs0] I J z Φ := by
  refine Ev.blk (ops := [o0 (.istore 6) 2, o0 (.aload_n 2) 1]) (G := True ∧ True ∧ True) (by decide +kernel) ?_ ⟨trivial, trivial, trivial⟩ k
  rfl
theorem BL_law_1230 {d Z L : Nat} {xs : Nat → Int32} {z : Nat} {Φ : Out → T2 → T3 → Nat → Prop} {I : T2} {J : T3} {x4 : Int32} {x5 : Int32} {x6 : Int32} {xs0 : Int32}  
    (k : Ev d Z L xs mL_law 1232 [some (.retAddr 0), some (.ref 0), some (.ref 136), some (.ref 158), some (.int x4), some (.int x5), some (.int x6), none] [.int x5, .int xs0] I J z Φ) : Ev d Z L xs mL_law 1230 [some (.retAddr 0), some (.ref 0), some (.ref 136), some (.ref 158), some (.int x4), some (.int x5), some (.int x6), none] [.int xs0] I J z Φ := by
  refine Ev.blk (ops := [o0 (.iload 5) 2]) (G := True ∧ True) (by decide +kernel) ?_ ⟨trivial, trivial⟩ k
  rfl
theorem BL_law_1235 {d Z L : Nat} {xs : Nat → Int32} {z : Nat} {Φ : Out → T2 → T3 → Nat → Prop} {I : T2} {J : T3} {x4 : Int32} {x5 : Int32} {x6 : Int32}  
    (k : Ev d Z L xs mL_law 1236 [some (.retAddr 0), some (.ref 0), some (.ref 136), some (.ref 158), some (.int x4), some (.int x5), some (.int x6), none] [.int 0] I J z Φ) : Ev d Z L xs mL_law 1235 [some (.retAddr 0), some (.ref 0), some (.ref 136), some (.ref 158), some (.int x4), some (.int x5), some (.int x6), none] [] I J z Φ := by
  refine Ev.blk (ops := [oI (.iconst 0) 1 0]) (G := True ∧ True) (by decide +kernel) ?_ ⟨trivial, trivial⟩ k
  rfl
theorem BL_law_1237 {d Z L : Nat} {xs : Nat → Int32} {z : Nat} {Φ : Out → T2 → T3 → Nat → Prop} {I : T2} {J : T3} {x4 : Int32} {x5 : Int32} {x6 : Int32}  
    (k : Ev d Z L xs mL_law 1239 [some (.retAddr 0), some (.ref 0), some (.ref 136), some (.ref 158), some (.int x4), some (.int x5), some (.int x6), none] [.int x5] I J z Φ) : Ev d Z L xs mL_law 1237 [some (.retAddr 0), some (.ref 0), some (.ref 136), some (.ref 158), some (.int x4), some (.int x5), some (.int x6), none] [] I J z Φ := by
  refine Ev.blk (ops := [o0 (.iload 5) 2]) (G := True ∧ True) (by decide +kernel) ?_ ⟨trivial, trivial⟩ k
  rfl
theorem BL_law_1242 {d Z L : Nat} {xs : Nat → Int32} {z : Nat} {Φ : Out → T2 → T3 → Nat → Prop} {I : T2} {J : T3} {x4 : Int32} {x5 : Int32} {x6 : Int32}  (g1 : vp_in 0 1)
    (k : Ev d Z L xs mL_law 1249 [some (.retAddr 0), some (.ref 0), some (.ref 136), some (.ref 158), some (.int x4), some (.int x5), some (.int x6), none] [.int (lg_cmp (J 158 (0 : Int32).toNatClampNeg) x6.toInt64)] I J z Φ) : Ev d Z L xs mL_law 1242 [some (.retAddr 0), some (.ref 0), some (.ref 136), some (.ref 158), some (.int x4), some (.int x5), some (.int x6), none] [] I J z Φ := by
  refine Ev.blk (ops := [o0 (.aload_n 3) 1, oI (.iconst 0) 1 0, o0 (.laload) 1, o0 (.iload 6) 2, o0 (.i2l) 1, o0 (.lcmp) 1]) (G := True ∧ True ∧ (kd 158 = 9 ∧ vp_in 0 (ln 158)) ∧ True ∧ True ∧ True ∧ True) (by decide +kernel) ?_ ⟨trivial, trivial, ⟨(by decide), g1⟩, trivial, trivial, trivial, trivial⟩ k
  rfl
theorem BL_law_1252 {d Z L : Nat} {xs : Nat → Int32} {z : Nat} {Φ : Out → T2 → T3 → Nat → Prop} {I : T2} {J : T3} {x4 : Int32} {x5 : Int32} {x6 : Int32}  
    (k : Ev d Z L xs mL_law 1253 [some (.retAddr 0), some (.ref 0), some (.ref 136), some (.ref 158), some (.int x4), some (.int x5), some (.int x6), none] [.int 0] I J z Φ) : Ev d Z L xs mL_law 1252 [some (.retAddr 0), some (.ref 0), some (.ref 136), some (.ref 158), some (.int x4), some (.int x5), some (.int x6), none] [] I J z Φ := by
  refine Ev.blk (ops := [oI (.iconst 0) 1 0]) (G := True ∧ True) (by decide +kernel) ?_ ⟨trivial, trivial⟩ k
  rfl
theorem BL_law_1254 {d Z L : Nat} {xs : Nat → Int32} {z : Nat} {Φ : Out → T2 → T3 → Nat → Prop} {I : T2} {J : T3} {x4 : Int32} {x5 : Int32} {x6 : Int32}  
    (k : Ev d Z L xs mL_law 1313 [some (.retAddr 0), some (.ref 0), some (.ref 136), some (.ref 158), some (.int x4), some (.int x5), some (.int x6), none] [] I J z Φ) : Ev d Z L xs mL_law 1254 [some (.retAddr 0), some (.ref 0), some (.ref 136), some (.ref 158), some (.int x4), some (.int x5), some (.int x6), none] [] I J z Φ := by
  refine Ev.blk (ops := [oK (.goto 59) 3 1313 0]) (G := True ∧ True) (by decide +kernel) ?_ ⟨trivial, trivial⟩ k
  rfl
theorem BL_law_1257 {d Z L : Nat} {xs : Nat → Int32} {z : Nat} {Φ : Out → T2 → T3 → Nat → Prop} {I : T2} {J : T3} {x4 : Int32}  (g1 : vp_in (x4 + 1) L)
    (k : Ev d Z L xs mL_law 1265 [some (.retAddr 0), some (.ref 0), some (.ref 136), some (.ref 158), some (.int x4), none, none, none] [.ref 158, .int (xs (x4 + 1).toNatClampNeg), .ref 0] I J z Φ) : Ev d Z L xs mL_law 1257 [some (.retAddr 0), some (.ref 0), some (.ref 136), some (.ref 158), some (.int x4), none, none, none] [] I J z Φ := by
  refine Ev.blk (ops := [o0 (.aload_n 1) 1, o0 (.aload_n 0) 1, o0 (.iload 4) 2, oI (.iconst 1) 1 1, o0 (.iadd) 1, o0 (.iaload) 1, o0 (.aload_n 3) 1]) (G := True ∧ True ∧ True ∧ True ∧ True ∧ (vp_in (x4 + 1) L) ∧ True ∧ True) (by decide +kernel) ?_ ⟨trivial, trivial, trivial, trivial, trivial, g1, trivial, trivial⟩ k
  rfl
theorem BL_law_1268 {d Z L : Nat} {xs : Nat → Int32} {z : Nat} {Φ : Out → T2 → T3 → Nat → Prop} {I : T2} {J : T3} {x4 : Int32} {xs0 : Int32}  (g1 : vp_in (x4 + 1) L)
    (k : Ev d Z L xs mL_law 1277 [some (.retAddr 0), some (.ref 0), some (.ref 136), some (.ref 158), some (.int x4), some (.int xs0), none, none] [.int (xs (x4 + 1).toNatClampNeg), .ref 136] I J z Φ) : Ev d Z L xs mL_law 1268 [some (.retAddr 0), some (.ref 0), some (.ref 136), some (.ref 158), some (.int x4), none, none, none] [.int xs0] I J z Φ := by
  refine Ev.blk (ops := [o0 (.istore 5) 2, o0 (.aload_n 2) 1, o0 (.aload_n 0) 1, o0 (.iload 4) 2, oI (.iconst 1) 1 1, o0 (.iadd) 1, o0 (.iaload) 1]) (G := True ∧ True ∧ True ∧ True ∧ True ∧ True ∧ (vp_in (x4 + 1) L) ∧ True) (by decide +kernel) ?_ ⟨trivial, trivial, trivial, trivial, trivial, trivial, g1, trivial⟩ k
  rfl
theorem BL_law_1280 {d Z L : Nat} {xs : Nat → Int32} {z : Nat} {Φ : Out → T2 → T3 → Nat → Prop} {I : T2} {J : T3} {x4 : Int32} {x5 : Int32} {xs0 : Int32}  
    (k : Ev d Z L xs mL_law 1283 [some (.retAddr 0), some (.ref 0), some (.ref 136), some (.ref 158), some (.int x4), some (.int x5), some (.int xs0), none] [.ref 136] I J z Φ) : Ev d Z L xs mL_law 1280 [some (.retAddr 0), some (.ref 0), some (.ref 136), some (.ref 158), some (.int x4), some (.int x5), none, none] [.int xs0] I J z Φ := by
  refine Ev.blk (ops := [o0 (.istore 6) 2, o0 (.aload_n 2) 1]) (G := True ∧ True ∧ True) (by decide +kernel) ?_ ⟨trivial, trivial, trivial⟩ k
  rfl
theorem BL_law_1286 {d Z L : Nat} {xs : Nat → Int32} {z : Nat} {Φ : Out → T2 → T3 → Nat → Prop} {I : T2} {J : T3} {x4 : Int32} {x5 : Int32} {x6 : Int32} {xs0 : Int32}  
    (k : Ev d Z L xs mL_law 1288 [some (.retAddr 0), some (.ref 0), some (.ref 136), some (.ref 158), some (.int x4), some (.int x5), some (.int x6), none] [.int x5, .int xs0] I J z Φ) : Ev d Z L xs mL_law 1286 [some (.retAddr 0), some (.ref 0), some (.ref 136), some (.ref 158), some (.int x4), some (.int x5), some (.int x6), none] [.int xs0] I J z Φ := by
  refine Ev.blk (ops := [o0 (.iload 5) 2]) (G := True ∧ True) (by decide +kernel) ?_ ⟨trivial, trivial⟩ k
  rfl
theorem BL_law_1291 {d Z L : Nat} {xs : Nat → Int32} {z : Nat} {Φ : Out → T2 → T3 → Nat → Prop} {I : T2} {J : T3} {x4 : Int32} {x5 : Int32} {x6 : Int32}  
    (k : Ev d Z L xs mL_law 1292 [some (.retAddr 0), some (.ref 0), some (.ref 136), some (.ref 158), some (.int x4), some (.int x5), some (.int x6), none] [.int 0] I J z Φ) : Ev d Z L xs mL_law 1291 [some (.retAddr 0), some (.ref 0), some (.ref 136), some (.ref 158), some (.int x4), some (.int x5), some (.int x6), none] [] I J z Φ := by
  refine Ev.blk (ops := [oI (.iconst 0) 1 0]) (G := True ∧ True) (by decide +kernel) ?_ ⟨trivial, trivial⟩ k
  rfl
theorem BL_law_1293 {d Z L : Nat} {xs : Nat → Int32} {z : Nat} {Φ : Out → T2 → T3 → Nat → Prop} {I : T2} {J : T3} {x4 : Int32} {x5 : Int32} {x6 : Int32}  
    (k : Ev d Z L xs mL_law 1295 [some (.retAddr 0), some (.ref 0), some (.ref 136), some (.ref 158), some (.int x4), some (.int x5), some (.int x6), none] [.int x5] I J z Φ) : Ev d Z L xs mL_law 1293 [some (.retAddr 0), some (.ref 0), some (.ref 136), some (.ref 158), some (.int x4), some (.int x5), some (.int x6), none] [] I J z Φ := by
  refine Ev.blk (ops := [o0 (.iload 5) 2]) (G := True ∧ True) (by decide +kernel) ?_ ⟨trivial, trivial⟩ k
  rfl
theorem BL_law_1298 {d Z L : Nat} {xs : Nat → Int32} {z : Nat} {Φ : Out → T2 → T3 → Nat → Prop} {I : T2} {J : T3} {x4 : Int32} {x5 : Int32} {x6 : Int32}  (g1 : vp_in 0 1)
    (k : Ev d Z L xs mL_law 1305 [some (.retAddr 0), some (.ref 0), some (.ref 136), some (.ref 158), some (.int x4), some (.int x5), some (.int x6), none] [.int (lg_cmp (J 158 (0 : Int32).toNatClampNeg) x6.toInt64)] I J z Φ) : Ev d Z L xs mL_law 1298 [some (.retAddr 0), some (.ref 0), some (.ref 136), some (.ref 158), some (.int x4), some (.int x5), some (.int x6), none] [] I J z Φ := by
  refine Ev.blk (ops := [o0 (.aload_n 3) 1, oI (.iconst 0) 1 0, o0 (.laload) 1, o0 (.iload 6) 2, o0 (.i2l) 1, o0 (.lcmp) 1]) (G := True ∧ True ∧ (kd 158 = 9 ∧ vp_in 0 (ln 158)) ∧ True ∧ True ∧ True ∧ True) (by decide +kernel) ?_ ⟨trivial, trivial, ⟨(by decide), g1⟩, trivial, trivial, trivial, trivial⟩ k
  rfl
theorem BL_law_1308 {d Z L : Nat} {xs : Nat → Int32} {z : Nat} {Φ : Out → T2 → T3 → Nat → Prop} {I : T2} {J : T3} {x4 : Int32} {x5 : Int32} {x6 : Int32}  
    (k : Ev d Z L xs mL_law 1309 [some (.retAddr 0), some (.ref 0), some (.ref 136), some (.ref 158), some (.int x4), some (.int x5), some (.int x6), none] [.int 0] I J z Φ) : Ev d Z L xs mL_law 1308 [some (.retAddr 0), some (.ref 0), some (.ref 136), some (.ref 158), some (.int x4), some (.int x5), some (.int x6), none] [] I J z Φ := by
  refine Ev.blk (ops := [oI (.iconst 0) 1 0]) (G := True ∧ True) (by decide +kernel) ?_ ⟨trivial, trivial⟩ k
  rfl
theorem BL_law_1310 {d Z L : Nat} {xs : Nat → Int32} {z : Nat} {Φ : Out → T2 → T3 → Nat → Prop} {I : T2} {J : T3} {x4 : Int32} {x5 : Int32} {x6 : Int32}  
    (k : Ev d Z L xs mL_law 1313 [some (.retAddr 0), some (.ref 0), some (.ref 136), some (.ref 158), some (.int x4), some (.int x5), some (.int x6), none] [] I J z Φ) : Ev d Z L xs mL_law 1310 [some (.retAddr 0), some (.ref 0), some (.ref 136), some (.ref 158), some (.int x4), some (.int x5), some (.int x6), none] [] I J z Φ := by
  refine Ev.blk (ops := [oK (.goto 3) 3 1313 0]) (G := True ∧ True) (by decide +kernel) ?_ ⟨trivial, trivial⟩ k
  rfl
theorem BL_law_1313 {d Z L : Nat} {xs : Nat → Int32} {z : Nat} {Φ : Out → T2 → T3 → Nat → Prop} {I : T2} {J : T3} {x4 : Int32}  
    (k : Ev d Z L xs mL_law 23 [some (.retAddr 0), some (.ref 0), some (.ref 136), some (.ref 158), some (.int (x4 + 5)), none, none, none] [] I J z Φ) : Ev d Z L xs mL_law 1313 [some (.retAddr 0), some (.ref 0), some (.ref 136), some (.ref 158), some (.int x4), none, none, none] [] I J z Φ := by
  refine Ev.blk (ops := [oI (.iinc 4 5) 3 5, oK (.goto (-1293)) 3 23 0]) (G := True ∧ True ∧ True) (by decide +kernel) ?_ ⟨trivial, trivial, trivial⟩ k
  rfl
theorem BL_law_1319 {d Z L : Nat} {xs : Nat → Int32} {z : Nat} {Φ : Out → T2 → T3 → Nat → Prop} {I : T2} {J : T3} {x4 : Int32}  
    (k : Ev d Z L xs mL_law 1320 [some (.retAddr 0), some (.ref 0), some (.ref 136), some (.ref 158), some (.int x4), none, none, none] [.int 1] I J z Φ) : Ev d Z L xs mL_law 1319 [some (.retAddr 0), some (.ref 0), some (.ref 136), some (.ref 158), some (.int x4), none, none, none] [] I J z Φ := by
  refine Ev.blk (ops := [oI (.iconst 1) 1 1]) (G := True ∧ True) (by decide +kernel) ?_ ⟨trivial, trivial⟩ k
  rfl
