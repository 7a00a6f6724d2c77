theorem BX6_init_0 {d Z L : Nat} {xs : Nat → Int32} {z : Nat} {Φ : Out → T2 → T3 → Nat → Prop} {I : T2} {J : T3}   
    (k : Ev d Z L xs mX6_init 1 [some (.ref 0), none] [.ref 0] I J z Φ) : Ev d Z L xs mX6_init 0 [some (.ref 0), none] [] I J z Φ := by
  refine Ev.blk (ops := [o0 (.aload_n 0) 1]) (G := True ∧ True) (by decide +kernel) ?_ ⟨trivial, trivial⟩ k
  rfl
theorem BX6_init_4 {d Z L : Nat} {xs : Nat → Int32} {z : Nat} {Φ : Out → T2 → T3 → Nat → Prop} {I : T2} {J : T3}   
    (k : Ev d Z L xs mX6_init 7 [some (.ref 0), none] [.int 8, .ref 0] I J z Φ) : Ev d Z L xs mX6_init 4 [some (.ref 0), none] [] I J z Φ := by
  refine Ev.blk (ops := [o0 (.aload_n 0) 1, oI (.bipush 8) 2 8]) (G := True ∧ True ∧ True) (by decide +kernel) ?_ ⟨trivial, trivial, trivial⟩ k
  rfl
theorem BX6_init_17 {d Z L : Nat} {xs : Nat → Int32} {z : Nat} {Φ : Out → T2 → T3 → Nat → Prop} {I : T2} {J : T3}   
    (k : Ev d Z L xs mX6_init 18 [some (.ref 0), none] [.ref 2, .ref 2, .ref 0] I J z Φ) : Ev d Z L xs mX6_init 17 [some (.ref 0), none] [.ref 2, .ref 0] I J z Φ := by
  refine Ev.blk (ops := [o0 (.dup) 1]) (G := True ∧ True) (by decide +kernel) ?_ ⟨trivial, trivial⟩ k
  rfl
theorem BX6_init_28 {d Z L : Nat} {xs : Nat → Int32} {z : Nat} {Φ : Out → T2 → T3 → Nat → Prop} {I : T2} {J : T3}   
    (k : Ev d Z L xs mX6_init 29 [some (.ref 0), none] [.ref 12, .ref 12, .ref 0] I J z Φ) : Ev d Z L xs mX6_init 28 [some (.ref 0), none] [.ref 12, .ref 0] I J z Φ := by
  refine Ev.blk (ops := [o0 (.dup) 1]) (G := True ∧ True) (by decide +kernel) ?_ ⟨trivial, trivial⟩ k
  rfl
theorem BX6_init_39 {d Z L : Nat} {xs : Nat → Int32} {z : Nat} {Φ : Out → T2 → T3 → Nat → Prop} {I : T2} {J : T3}   
    (k : Ev d Z L xs mX6_init 40 [some (.ref 0), none] [.ref 14, .ref 14, .ref 0] I J z Φ) : Ev d Z L xs mX6_init 39 [some (.ref 0), none] [.ref 14, .ref 0] I J z Φ := by
  refine Ev.blk (ops := [o0 (.dup) 1]) (G := True ∧ True) (by decide +kernel) ?_ ⟨trivial, trivial⟩ k
  rfl
theorem BX6_init_50 {d Z L : Nat} {xs : Nat → Int32} {z : Nat} {Φ : Out → T2 → T3 → Nat → Prop} {I : T2} {J : T3}   
    (k : Ev d Z L xs mX6_init 51 [some (.ref 0), none] [.ref 19, .ref 19, .ref 0] I J z Φ) : Ev d Z L xs mX6_init 50 [some (.ref 0), none] [.ref 19, .ref 0] I J z Φ := by
  refine Ev.blk (ops := [o0 (.dup) 1]) (G := True ∧ True) (by decide +kernel) ?_ ⟨trivial, trivial⟩ k
  rfl
theorem BX6_init_76 {d Z L : Nat} {xs : Nat → Int32} {z : Nat} {Φ : Out → T2 → T3 → Nat → Prop} {I : T2} {J : T3} {x1 : Int32}  
    (k : Ev d Z L xs mX6_init 79 [some (.ref 0), some (.int x1)] [.int 8, .int x1] I J z Φ) : Ev d Z L xs mX6_init 76 [some (.ref 0), some (.int x1)] [] I J z Φ := by
  refine Ev.blk (ops := [o0 (.iload_n 1) 1, oI (.bipush 8) 2 8]) (G := True ∧ True ∧ True) (by decide +kernel) ?_ ⟨trivial, trivial, trivial⟩ k
  rfl
theorem BX6_init_82 {d Z L : Nat} {xs : Nat → Int32} {z : Nat} {Φ : Out → T2 → T3 → Nat → Prop} {I : T2} {J : T3} {x1 : Int32}  
    (k : Ev d Z L xs mX6_init 87 [some (.ref 0), some (.int x1)] [.int x1, .ref 1] I J z Φ) : Ev d Z L xs mX6_init 82 [some (.ref 0), some (.int x1)] [] I J z Φ := by
  refine Ev.blk (ops := [o0 (.aload_n 0) 1, oK (.getfield 11) 3 6 0, o0 (.iload_n 1) 1]) (G := True ∧ (kd 0 = 6) ∧ True ∧ True) (by decide +kernel) ?_ ⟨trivial, (by decide), trivial, trivial⟩ k
  rfl
theorem BX6_init_90 {d Z L : Nat} {xs : Nat → Int32} {z : Nat} {Φ : Out → T2 → T3 → Nat → Prop} {I : T2} {J : T3} {x1 : Int32} {as0 : Nat} {xs1 : Int32} {as2 : Nat}  
    (k : Ev d Z L xs mX6_init 92 [some (.ref 0), some (.int x1)] [.int x1, .ref as2, .ref as2, .int xs1, .ref as0] I J z Φ) : Ev d Z L xs mX6_init 90 [some (.ref 0), some (.int x1)] [.ref as2, .int xs1, .ref as0] I J z Φ := by
  refine Ev.blk (ops := [o0 (.dup) 1, o0 (.iload_n 1) 1]) (G := True ∧ True ∧ True) (by decide +kernel) ?_ ⟨trivial, trivial, trivial⟩ k
  rfl
theorem BX6_init_96 {d Z L : Nat} {xs : Nat → Int32} {z : Nat} {Φ : Out → T2 → T3 → Nat → Prop} {I : T2} {J : T3} {x1 : Int32}  
    (k : Ev d Z L xs mX6_init 76 [some (.ref 0), some (.int (x1 + 1))] [] I J z Φ) : Ev d Z L xs mX6_init 96 [some (.ref 0), some (.int x1)] [] I J z Φ := by
  refine Ev.blk (ops := [oI (.iinc 1 1) 3 1, oK (.goto (-23)) 3 76 0]) (G := True ∧ True ∧ True) (by decide +kernel) ?_ ⟨trivial, trivial, trivial⟩ k
  rfl
theorem BX6_init_102 {d Z L : Nat} {xs : Nat → Int32} {z : Nat} {Φ : Out → T2 → T3 → Nat → Prop} {I : T2} {J : T3} {x1 : Int32}  
    (k : Ev d Z L xs mX6_init 109 [some (.ref 0), some (.int x1)] [.int 3, .int 2, .int 10, .int 100, .ref 0] I J z Φ) : Ev d Z L xs mX6_init 102 [some (.ref 0), some (.int x1)] [] I J z Φ := by
  refine Ev.blk (ops := [o0 (.aload_n 0) 1, oI (.bipush 100) 2 100, oI (.bipush 10) 2 10, oI (.iconst 2) 1 2, oI (.iconst 3) 1 3]) (G := True ∧ True ∧ True ∧ True ∧ True ∧ True) (by decide +kernel) ?_ ⟨trivial, trivial, trivial, trivial, trivial, trivial⟩ k
  rfl
theorem BX6_begin_0 {d Z L : Nat} {xs : Nat → Int32} {z : Nat} {Φ : Out → T2 → T3 → Nat → Prop} {I : T2} {J : T3} {x1 : Int32} {x2 : Int32} {x3 : Int32} {x4 : Int32}  
    (k : Ev d Z L xs mX6_begin 27 [some (.ref 0), some (.int x1), some (.int x2), some (.int x3), some (.int x4), none] [.int x1, .ref 2] (up2 (up2 (up2 I 0 7 x4) 0 8 x2) 0 9 x3) (up3 J 0 10 x3.toInt64) z Φ) : Ev d Z L xs mX6_begin 0 [some (.ref 0), some (.int x1), some (.int x2), some (.int x3), some (.int x4), none] [] I J z Φ := by
  refine Ev.blk (ops := [o0 (.aload_n 0) 1, o0 (.iload 4) 2, oK (.putfield 63) 3 6 7, o0 (.aload_n 0) 1, o0 (.iload_n 2) 1, oK (.putfield 67) 3 6 8, o0 (.aload_n 0) 1, o0 (.iload_n 3) 1, oK (.putfield 70) 3 6 9, o0 (.aload_n 0) 1, o0 (.iload_n 3) 1, o0 (.i2l) 1, oK (.putfield 73) 3 6 10, o0 (.aload_n 0) 1, oK (.getfield 18) 3 6 1, o0 (.iload_n 1) 1]) (G := True ∧ True ∧ (kd 0 = 6) ∧ True ∧ True ∧ (kd 0 = 6) ∧ True ∧ True ∧ (kd 0 = 6) ∧ True ∧ True ∧ True ∧ (kd 0 = 6) ∧ True ∧ (kd 0 = 6) ∧ True ∧ True) (by decide +kernel) ?_ ⟨trivial, trivial, (by decide), trivial, trivial, (by decide), trivial, trivial, (by decide), trivial, trivial, trivial, (by decide), trivial, (by decide), trivial, trivial⟩ k
  rfl
theorem BX6_begin_30 {d Z L : Nat} {xs : Nat → Int32} {z : Nat} {Φ : Out → T2 → T3 → Nat → Prop} {I : T2} {J : T3} {x1 : Int32} {x2 : Int32} {x3 : Int32} {x4 : Int32}  
    (k : Ev d Z L xs mX6_begin 34 [some (.ref 0), some (.int x1), some (.int x2), some (.int x3), some (.int x4), none] [.ref 12] I J z Φ) : Ev d Z L xs mX6_begin 30 [some (.ref 0), some (.int x1), some (.int x2), some (.int x3), some (.int x4), none] [] I J z Φ := by
  refine Ev.blk (ops := [o0 (.aload_n 0) 1, oK (.getfield 25) 3 6 2]) (G := True ∧ (kd 0 = 6) ∧ True) (by decide +kernel) ?_ ⟨trivial, (by decide), trivial⟩ k
  rfl
theorem BX6_begin_37 {d Z L : Nat} {xs : Nat → Int32} {z : Nat} {Φ : Out → T2 → T3 → Nat → Prop} {I : T2} {J : T3} {x1 : Int32} {x2 : Int32} {x3 : Int32} {x4 : Int32}  
    (k : Ev d Z L xs mX6_begin 41 [some (.ref 0), some (.int x1), some (.int x2), some (.int x3), some (.int x4), none] [.ref 19] I J z Φ) : Ev d Z L xs mX6_begin 37 [some (.ref 0), some (.int x1), some (.int x2), some (.int x3), some (.int x4), none] [] I J z Φ := by
  refine Ev.blk (ops := [o0 (.aload_n 0) 1, oK (.getfield 39) 3 6 4]) (G := True ∧ (kd 0 = 6) ∧ True) (by decide +kernel) ?_ ⟨trivial, (by decide), trivial⟩ k
  rfl
theorem BX6_begin_44 {d Z L : Nat} {xs : Nat → Int32} {z : Nat} {Φ : Out → T2 → T3 → Nat → Prop} {I : T2} {J : T3} {x1 : Int32} {x2 : Int32} {x3 : Int32} {x4 : Int32}  
    (k : Ev d Z L xs mX6_begin 49 [some (.ref 0), some (.int x1), some (.int x2), some (.int x3), some (.int x4), none] [.int 0, .ref 22] I J z Φ) : Ev d Z L xs mX6_begin 44 [some (.ref 0), some (.int x1), some (.int x2), some (.int x3), some (.int x4), none] [] I J z Φ := by
  refine Ev.blk (ops := [o0 (.aload_n 0) 1, oK (.getfield 43) 3 6 5, oI (.iconst 0) 1 0]) (G := True ∧ (kd 0 = 6) ∧ True ∧ True) (by decide +kernel) ?_ ⟨trivial, (by decide), trivial, trivial⟩ k
  rfl
theorem BX6_begin_52 {d Z L : Nat} {xs : Nat → Int32} {z : Nat} {Φ : Out → T2 → T3 → Nat → Prop} {I : T2} {J : T3} {x1 : Int32} {x2 : Int32} {x3 : Int32} {x4 : Int32}  
    (k : Ev d Z L xs mX6_begin 55 [some (.ref 0), some (.int x1), some (.int x2), some (.int x3), some (.int x4), some (.int 0)] [] I J z Φ) : Ev d Z L xs mX6_begin 52 [some (.ref 0), some (.int x1), some (.int x2), some (.int x3), some (.int x4), none] [] I J z Φ := by
  refine Ev.blk (ops := [oI (.iconst 0) 1 0, o0 (.istore 5) 2]) (G := True ∧ True ∧ True) (by decide +kernel) ?_ ⟨trivial, trivial, trivial⟩ k
  rfl
theorem BX6_begin_55 {d Z L : Nat} {xs : Nat → Int32} {z : Nat} {Φ : Out → T2 → T3 → Nat → Prop} {I : T2} {J : T3} {x1 : Int32} {x2 : Int32} {x3 : Int32} {x4 : Int32} {x5 : Int32}  
    (k : Ev d Z L xs mX6_begin 59 [some (.ref 0), some (.int x1), some (.int x2), some (.int x3), some (.int x4), some (.int x5)] [.int 8, .int x5] I J z Φ) : Ev d Z L xs mX6_begin 55 [some (.ref 0), some (.int x1), some (.int x2), some (.int x3), some (.int x4), some (.int x5)] [] I J z Φ := by
  refine Ev.blk (ops := [o0 (.iload 5) 2, oI (.bipush 8) 2 8]) (G := True ∧ True ∧ True) (by decide +kernel) ?_ ⟨trivial, trivial, trivial⟩ k
  rfl
theorem BX6_begin_62 {d Z L : Nat} {xs : Nat → Int32} {z : Nat} {Φ : Out → T2 → T3 → Nat → Prop} {I : T2} {J : T3} {x1 : Int32} {x2 : Int32} {x3 : Int32} {x4 : Int32} {x5 : Int32}  (g1 : vp_in x5 8)
    (k : Ev d Z L xs mX6_begin 73 [some (.ref 0), some (.int x1), some (.int x2), some (.int x3), some (.int x4), some (.int x5)] [.long (J 0 10), .ref (24 + 14 * x5.toNatClampNeg)] I J z Φ) : Ev d Z L xs mX6_begin 62 [some (.ref 0), some (.int x1), some (.int x2), some (.int x3), some (.int x4), some (.int x5)] [] I J z Φ := by
  refine Ev.blk (ops := [o0 (.aload_n 0) 1, oK (.getfield 11) 3 6 0, o0 (.iload 5) 2, oK (.aaload) 1 11 0, o0 (.aload_n 0) 1, oK (.getfield 73) 3 6 10]) (G := True ∧ (kd 0 = 6) ∧ True ∧ (kd 1 = 11 ∧ vp_in x5 (ln 1)) ∧ True ∧ (kd 0 = 6) ∧ True) (by decide +kernel) ?_ ⟨trivial, (by decide), trivial, ⟨(by decide), g1⟩, trivial, (by decide), trivial⟩ k
  rfl
theorem BX6_begin_76 {d Z L : Nat} {xs : Nat → Int32} {z : Nat} {Φ : Out → T2 → T3 → Nat → Prop} {I : T2} {J : T3} {x1 : Int32} {x2 : Int32} {x3 : Int32} {x4 : Int32} {x5 : Int32}  
    (k : Ev d Z L xs mX6_begin 55 [some (.ref 0), some (.int x1), some (.int x2), some (.int x3), some (.int x4), some (.int (x5 + 1))] [] I J z Φ) : Ev d Z L xs mX6_begin 76 [some (.ref 0), some (.int x1), some (.int x2), some (.int x3), some (.int x4), some (.int x5)] [] I J z Φ := by
  refine Ev.blk (ops := [oI (.iinc 5 1) 3 1, oK (.goto (-24)) 3 55 0]) (G := True ∧ True ∧ True) (by decide +kernel) ?_ ⟨trivial, trivial, trivial⟩ k
  rfl
theorem BX6_desk_0 {d Z L : Nat} {xs : Nat → Int32} {z : Nat} {Φ : Out → T2 → T3 → Nat → Prop} {I : T2} {J : T3} {x1 : Int32}  
    (k : Ev d Z L xs mX6_desk 8 [some (.ref 0), some (.int x1)] [.int x1, .int (I 2 6)] I J z Φ) : Ev d Z L xs mX6_desk 0 [some (.ref 0), some (.int x1)] [] I J z Φ := by
  refine Ev.blk (ops := [o0 (.aload_n 0) 1, oK (.getfield 18) 3 6 1, oK (.getfield 158) 3 2 6, o0 (.iload_n 1) 1]) (G := True ∧ (kd 0 = 6) ∧ (kd 2 = 2) ∧ True ∧ True) (by decide +kernel) ?_ ⟨trivial, (by decide), (by decide), trivial, trivial⟩ k
  rfl
theorem BX6_desk_11 {d Z L : Nat} {xs : Nat → Int32} {z : Nat} {Φ : Out → T2 → T3 → Nat → Prop} {I : T2} {J : T3} {x1 : Int32}  
    (k : Ev d Z L xs mX6_desk 12 [some (.ref 0), some (.int x1)] [.int 0] I J z Φ) : Ev d Z L xs mX6_desk 11 [some (.ref 0), some (.int x1)] [] I J z Φ := by
  refine Ev.blk (ops := [oI (.iconst 0) 1 0]) (G := True ∧ True) (by decide +kernel) ?_ ⟨trivial, trivial⟩ k
  rfl
theorem BX6_desk_13 {d Z L : Nat} {xs : Nat → Int32} {z : Nat} {Φ : Out → T2 → T3 → Nat → Prop} {I : T2} {J : T3} {x1 : Int32}  
    (k : Ev d Z L xs mX6_desk 18 [some (.ref 0), some (.int x1)] [.int x1, .ref 2] I J z Φ) : Ev d Z L xs mX6_desk 13 [some (.ref 0), some (.int x1)] [] I J z Φ := by
  refine Ev.blk (ops := [o0 (.aload_n 0) 1, oK (.getfield 18) 3 6 1, o0 (.iload_n 1) 1]) (G := True ∧ (kd 0 = 6) ∧ True ∧ True) (by decide +kernel) ?_ ⟨trivial, (by decide), trivial, trivial⟩ k
  rfl
theorem BX6_desk_21 {d Z L : Nat} {xs : Nat → Int32} {z : Nat} {Φ : Out → T2 → T3 → Nat → Prop} {I : T2} {J : T3} {x1 : Int32}  
    (k : Ev d Z L xs mX6_desk 26 [some (.ref 0), some (.int x1)] [.int 1, .ref 2] I J z Φ) : Ev d Z L xs mX6_desk 21 [some (.ref 0), some (.int x1)] [.ref 2] I J z Φ := by
  refine Ev.blk (ops := [oI (.iconst 1) 1 1, oK (.goto 4) 3 26 0]) (G := True ∧ True ∧ True) (by decide +kernel) ?_ ⟨trivial, trivial, trivial⟩ k
  rfl
theorem BX6_desk_25 {d Z L : Nat} {xs : Nat → Int32} {z : Nat} {Φ : Out → T2 → T3 → Nat → Prop} {I : T2} {J : T3} {x1 : Int32}  
    (k : Ev d Z L xs mX6_desk 26 [some (.ref 0), some (.int x1)] [.int 0, .ref 2] I J z Φ) : Ev d Z L xs mX6_desk 25 [some (.ref 0), some (.int x1)] [.ref 2] I J z Φ := by
  refine Ev.blk (ops := [oI (.iconst 0) 1 0]) (G := True ∧ True) (by decide +kernel) ?_ ⟨trivial, trivial⟩ k
  rfl
theorem BX6_desk_26 {d Z L : Nat} {xs : Nat → Int32} {z : Nat} {Φ : Out → T2 → T3 → Nat → Prop} {I : T2} {J : T3} {x1 : Int32} {xs1 : Int32}  (g1 : xs1 = (0 : Int32) ∨ xs1 = (1 : Int32))
    (k : Ev d Z L xs mX6_desk 30 [some (.ref 0), some (.int x1)] [.int x1] (up2 I 2 6 xs1) J z Φ) : Ev d Z L xs mX6_desk 26 [some (.ref 0), some (.int x1)] [.int xs1, .ref 2] I J z Φ := by
  refine Ev.blk (ops := [oK (.putfield 158) 3 2 6, o0 (.iload_n 1) 1]) (G := (kd 2 = 2 ∧ (xs1 = (0 : Int32) ∨ xs1 = (1 : Int32))) ∧ True ∧ True) (by decide +kernel) ?_ ⟨⟨(by decide), g1⟩, trivial, trivial⟩ k
  rfl
theorem BX6_desk_33 {d Z L : Nat} {xs : Nat → Int32} {z : Nat} {Φ : Out → T2 → T3 → Nat → Prop} {I : T2} {J : T3} {x1 : Int32}  
    (k : Ev d Z L xs mX6_desk 37 [some (.ref 0), some (.int x1)] [.ref 2] I J z Φ) : Ev d Z L xs mX6_desk 33 [some (.ref 0), some (.int x1)] [] I J z Φ := by
  refine Ev.blk (ops := [o0 (.aload_n 0) 1, oK (.getfield 18) 3 6 1]) (G := True ∧ (kd 0 = 6) ∧ True) (by decide +kernel) ?_ ⟨trivial, (by decide), trivial⟩ k
  rfl
theorem BX6_desk_40 {d Z L : Nat} {xs : Nat → Int32} {z : Nat} {Φ : Out → T2 → T3 → Nat → Prop} {I : T2} {J : T3} {x1 : Int32}  
    (k : Ev d Z L xs mX6_desk 41 [some (.ref 0), some (.int x1)] [.int 1] I J z Φ) : Ev d Z L xs mX6_desk 40 [some (.ref 0), some (.int x1)] [] I J z Φ := by
  refine Ev.blk (ops := [oI (.iconst 1) 1 1]) (G := True ∧ True) (by decide +kernel) ?_ ⟨trivial, trivial⟩ k
  rfl
theorem BX6_there_0 {d Z L : Nat} {xs : Nat → Int32} {z : Nat} {Φ : Out → T2 → T3 → Nat → Prop} {I : T2} {J : T3} {x1 : Int32}  
    (k : Ev d Z L xs mX6_there 8 [some (.ref 0), some (.int x1), none] [.int (I 2 4), .int x1] I J z Φ) : Ev d Z L xs mX6_there 0 [some (.ref 0), some (.int x1), none] [] I J z Φ := by
  refine Ev.blk (ops := [o0 (.iload_n 1) 1, o0 (.aload_n 0) 1, oK (.getfield 18) 3 6 1, oK (.getfield 159) 3 2 4]) (G := True ∧ True ∧ (kd 0 = 6) ∧ (kd 2 = 2) ∧ True) (by decide +kernel) ?_ ⟨trivial, trivial, (by decide), (by decide), trivial⟩ k
  rfl
theorem BX6_there_11 {d Z L : Nat} {xs : Nat → Int32} {z : Nat} {Φ : Out → T2 → T3 → Nat → Prop} {I : T2} {J : T3} {x1 : Int32} {xs0 : Int32}  
    (k : Ev d Z L xs mX6_there 14 [some (.ref 0), some (.int x1), some (.int xs0)] [.int (-1), .int xs0] I J z Φ) : Ev d Z L xs mX6_there 11 [some (.ref 0), some (.int x1), none] [.int xs0] I J z Φ := by
  refine Ev.blk (ops := [o0 (.istore_n 2) 1, o0 (.iload_n 2) 1, oI (.iconst (-1)) 1 (-1)]) (G := True ∧ True ∧ True ∧ True) (by decide +kernel) ?_ ⟨trivial, trivial, trivial, trivial⟩ k
  rfl
theorem BX6_there_17 {d Z L : Nat} {xs : Nat → Int32} {z : Nat} {Φ : Out → T2 → T3 → Nat → Prop} {I : T2} {J : T3} {x1 : Int32} {x2 : Int32}  
    (k : Ev d Z L xs mX6_there 30 [some (.ref 0), some (.int x1), some (.int x2)] [.int 0] I J z Φ) : Ev d Z L xs mX6_there 17 [some (.ref 0), some (.int x1), some (.int x2)] [] I J z Φ := by
  refine Ev.blk (ops := [oI (.iconst 0) 1 0, oK (.goto 12) 3 30 0]) (G := True ∧ True ∧ True) (by decide +kernel) ?_ ⟨trivial, trivial, trivial⟩ k
  rfl
theorem BX6_there_21 {d Z L : Nat} {xs : Nat → Int32} {z : Nat} {Φ : Out → T2 → T3 → Nat → Prop} {I : T2} {J : T3} {x1 : Int32} {x2 : Int32}  (g1 : vp_in x2 3)
    (k : Ev d Z L xs mX6_there 30 [some (.ref 0), some (.int x1), some (.int x2)] [.int (I 3 x2.toNatClampNeg)] I J z Φ) : Ev d Z L xs mX6_there 21 [some (.ref 0), some (.int x1), some (.int x2)] [] I J z Φ := by
  refine Ev.blk (ops := [o0 (.aload_n 0) 1, oK (.getfield 18) 3 6 1, oK (.getfield 170) 3 2 0, o0 (.iload_n 2) 1, o0 (.iaload) 1]) (G := True ∧ (kd 0 = 6) ∧ (kd 2 = 2) ∧ True ∧ (kd 3 = 8 ∧ vp_in x2 (ln 3)) ∧ True) (by decide +kernel) ?_ ⟨trivial, (by decide), (by decide), trivial, ⟨(by decide), g1⟩, trivial⟩ k
  rfl
theorem BX6_slotOf_0 {d Z L : Nat} {xs : Nat → Int32} {z : Nat} {Φ : Out → T2 → T3 → Nat → Prop} {I : T2} {J : T3} {x0 : Int32} {x1 : Int32}  
    (k : Ev d Z L xs mX6_slotOf 1 [some (.int x0), some (.int x1), none] [.int x0] I J z Φ) : Ev d Z L xs mX6_slotOf 0 [some (.int x0), some (.int x1), none] [] I J z Φ := by
  refine Ev.blk (ops := [o0 (.iload_n 0) 1]) (G := True ∧ True) (by decide +kernel) ?_ ⟨trivial, trivial⟩ k
  rfl
theorem BX6_slotOf_4 {d Z L : Nat} {xs : Nat → Int32} {z : Nat} {Φ : Out → T2 → T3 → Nat → Prop} {I : T2} {J : T3} {x0 : Int32} {x1 : Int32}  
    (k : Ev d Z L xs mX6_slotOf 8 [some (.int x0), some (.int x1), none] [.int (x1 - 1), .int x0] I J z Φ) : Ev d Z L xs mX6_slotOf 4 [some (.int x0), some (.int x1), none] [] I J z Φ := by
  refine Ev.blk (ops := [o0 (.iload_n 0) 1, o0 (.iload_n 1) 1, oI (.iconst 1) 1 1, o0 (.isub) 1]) (G := True ∧ True ∧ True ∧ True ∧ True) (by decide +kernel) ?_ ⟨trivial, trivial, trivial, trivial, trivial⟩ k
  rfl
theorem BX6_slotOf_11 {d Z L : Nat} {xs : Nat → Int32} {z : Nat} {Φ : Out → T2 → T3 → Nat → Prop} {I : T2} {J : T3} {x0 : Int32} {x1 : Int32}  
    (k : Ev d Z L xs mX6_slotOf 15 [some (.int x0), some (.int x1), none] [.int (x1 + 1), .int x0] I J z Φ) : Ev d Z L xs mX6_slotOf 11 [some (.int x0), some (.int x1), none] [] I J z Φ := by
  refine Ev.blk (ops := [o0 (.iload_n 0) 1, o0 (.iload_n 1) 1, oI (.iconst 1) 1 1, o0 (.iadd) 1]) (G := True ∧ True ∧ True ∧ True ∧ True) (by decide +kernel) ?_ ⟨trivial, trivial, trivial, trivial, trivial⟩ k
  rfl
theorem BX6_slotOf_18 {d Z L : Nat} {xs : Nat → Int32} {z : Nat} {Φ : Out → T2 → T3 → Nat → Prop} {I : T2} {J : T3} {x0 : Int32} {x1 : Int32}  
    (k : Ev d Z L xs mX6_slotOf 23 [some (.int x0), some (.int x1), none] [.int 1] I J z Φ) : Ev d Z L xs mX6_slotOf 18 [some (.int x0), some (.int x1), none] [] I J z Φ := by
  refine Ev.blk (ops := [oI (.iconst 1) 1 1, oK (.goto 4) 3 23 0]) (G := True ∧ True ∧ True) (by decide +kernel) ?_ ⟨trivial, trivial, trivial⟩ k
  rfl
theorem BX6_slotOf_22 {d Z L : Nat} {xs : Nat → Int32} {z : Nat} {Φ : Out → T2 → T3 → Nat → Prop} {I : T2} {J : T3} {x0 : Int32} {x1 : Int32}  
    (k : Ev d Z L xs mX6_slotOf 23 [some (.int x0), some (.int x1), none] [.int 0] I J z Φ) : Ev d Z L xs mX6_slotOf 22 [some (.int x0), some (.int x1), none] [] I J z Φ := by
  refine Ev.blk (ops := [oI (.iconst 0) 1 0]) (G := True ∧ True) (by decide +kernel) ?_ ⟨trivial, trivial⟩ k
  rfl
theorem BX6_slotOf_23 {d Z L : Nat} {xs : Nat → Int32} {z : Nat} {Φ : Out → T2 → T3 → Nat → Prop} {I : T2} {J : T3} {x0 : Int32} {x1 : Int32} {xs0 : Int32}  
    (k : Ev d Z L xs mX6_slotOf 25 [some (.int x0), some (.int x1), some (.int xs0)] [.int xs0] I J z Φ) : Ev d Z L xs mX6_slotOf 23 [some (.int x0), some (.int x1), none] [.int xs0] I J z Φ := by
  refine Ev.blk (ops := [o0 (.istore_n 2) 1, o0 (.iload_n 2) 1]) (G := True ∧ True ∧ True) (by decide +kernel) ?_ ⟨trivial, trivial, trivial⟩ k
  rfl
theorem BX6_slotOf_28 {d Z L : Nat} {xs : Nat → Int32} {z : Nat} {Φ : Out → T2 → T3 → Nat → Prop} {I : T2} {J : T3} {x0 : Int32} {x1 : Int32} {x2 : Int32}  
    (k : Ev d Z L xs mX6_slotOf 35 [some (.int x0), some (.int x1), some (.int x2)] [.int (x0 - x0 / 3 * 3)] I J z Φ) : Ev d Z L xs mX6_slotOf 28 [some (.int x0), some (.int x1), some (.int x2)] [] I J z Φ := by
  refine Ev.blk (ops := [o0 (.iload_n 0) 1, oI (.iconst 3) 1 3, o0 (.irem) 1, oK (.goto 4) 3 35 0]) (G := True ∧ True ∧ (¬ 3 = (0 : Int32)) ∧ True ∧ True) (by decide +kernel) ?_ ⟨trivial, trivial, (by decide), trivial, trivial⟩ k
  rfl
theorem BX6_slotOf_34 {d Z L : Nat} {xs : Nat → Int32} {z : Nat} {Φ : Out → T2 → T3 → Nat → Prop} {I : T2} {J : T3} {x0 : Int32} {x1 : Int32} {x2 : Int32}  
    (k : Ev d Z L xs mX6_slotOf 35 [some (.int x0), some (.int x1), some (.int x2)] [.int (-1)] I J z Φ) : Ev d Z L xs mX6_slotOf 34 [some (.int x0), some (.int x1), some (.int x2)] [] I J z Φ := by
  refine Ev.blk (ops := [oI (.iconst (-1)) 1 (-1)]) (G := True ∧ True) (by decide +kernel) ?_ ⟨trivial, trivial⟩ k
  rfl
theorem BX6_used_0 {d Z L : Nat} {xs : Nat → Int32} {z : Nat} {Φ : Out → T2 → T3 → Nat → Prop} {I : T2} {J : T3} {x1 : Int32}  
    (k : Ev d Z L xs mX6_used 1 [some (.ref 0), some (.int x1)] [.int x1] I J z Φ) : Ev d Z L xs mX6_used 0 [some (.ref 0), some (.int x1)] [] I J z Φ := by
  refine Ev.blk (ops := [o0 (.iload_n 1) 1]) (G := True ∧ True) (by decide +kernel) ?_ ⟨trivial, trivial⟩ k
  rfl
theorem BX6_used_7 {d Z L : Nat} {xs : Nat → Int32} {z : Nat} {Φ : Out → T2 → T3 → Nat → Prop} {I : T2} {J : T3} {x1 : Int32}  (g1 : vp_in x1 200)
    (k : Ev d Z L xs mX6_used 17 [some (.ref 0), some (.int x1)] [.int (I 22 x1.toNatClampNeg)] I J z Φ) : Ev d Z L xs mX6_used 7 [some (.ref 0), some (.int x1)] [] I J z Φ := by
  refine Ev.blk (ops := [o0 (.aload_n 0) 1, oK (.getfield 43) 3 6 5, o0 (.iload_n 1) 1, o0 (.iaload) 1, oK (.goto 4) 3 17 0]) (G := True ∧ (kd 0 = 6) ∧ True ∧ (kd 22 = 8 ∧ vp_in x1 (ln 22)) ∧ True ∧ True) (by decide +kernel) ?_ ⟨trivial, (by decide), trivial, ⟨(by decide), g1⟩, trivial, trivial⟩ k
  rfl
theorem BX6_used_16 {d Z L : Nat} {xs : Nat → Int32} {z : Nat} {Φ : Out → T2 → T3 → Nat → Prop} {I : T2} {J : T3} {x1 : Int32}  
    (k : Ev d Z L xs mX6_used 17 [some (.ref 0), some (.int x1)] [.int 0] I J z Φ) : Ev d Z L xs mX6_used 16 [some (.ref 0), some (.int x1)] [] I J z Φ := by
  refine Ev.blk (ops := [oI (.iconst 0) 1 0]) (G := True ∧ True) (by decide +kernel) ?_ ⟨trivial, trivial⟩ k
  rfl
theorem BX6_isCounted_0 {d Z L : Nat} {xs : Nat → Int32} {z : Nat} {Φ : Out → T2 → T3 → Nat → Prop} {I : T2} {J : T3} {x0 : Int32}  
    (k : Ev d Z L xs mX6_isCounted 1 [some (.int x0)] [.int x0] I J z Φ) : Ev d Z L xs mX6_isCounted 0 [some (.int x0)] [] I J z Φ := by
  refine Ev.blk (ops := [o0 (.iload_n 0) 1]) (G := True ∧ True) (by decide +kernel) ?_ ⟨trivial, trivial⟩ k
  rfl
theorem BX6_isCounted_4 {d Z L : Nat} {xs : Nat → Int32} {z : Nat} {Φ : Out → T2 → T3 → Nat → Prop} {I : T2} {J : T3} {x0 : Int32}  
    (k : Ev d Z L xs mX6_isCounted 8 [some (.int x0)] [.int 200, .int x0] I J z Φ) : Ev d Z L xs mX6_isCounted 4 [some (.int x0)] [] I J z Φ := by
  refine Ev.blk (ops := [o0 (.iload_n 0) 1, oI (.sipush 200) 3 200]) (G := True ∧ True ∧ True) (by decide +kernel) ?_ ⟨trivial, trivial, trivial⟩ k
  rfl
theorem BX6_isCounted_11 {d Z L : Nat} {xs : Nat → Int32} {z : Nat} {Φ : Out → T2 → T3 → Nat → Prop} {I : T2} {J : T3} {x0 : Int32}  
    (k : Ev d Z L xs mX6_isCounted 16 [some (.int x0)] [.int 1] I J z Φ) : Ev d Z L xs mX6_isCounted 11 [some (.int x0)] [] I J z Φ := by
  refine Ev.blk (ops := [oI (.iconst 1) 1 1, oK (.goto 4) 3 16 0]) (G := True ∧ True ∧ True) (by decide +kernel) ?_ ⟨trivial, trivial, trivial⟩ k
  rfl
theorem BX6_isCounted_15 {d Z L : Nat} {xs : Nat → Int32} {z : Nat} {Φ : Out → T2 → T3 → Nat → Prop} {I : T2} {J : T3} {x0 : Int32}  
    (k : Ev d Z L xs mX6_isCounted 16 [some (.int x0)] [.int 0] I J z Φ) : Ev d Z L xs mX6_isCounted 15 [some (.int x0)] [] I J z Φ := by
  refine Ev.blk (ops := [oI (.iconst 0) 1 0]) (G := True ∧ True) (by decide +kernel) ?_ ⟨trivial, trivial⟩ k
  rfl
theorem BX6_setup_0 {d Z L : Nat} {xs : Nat → Int32} {z : Nat} {Φ : Out → T2 → T3 → Nat → Prop} {I : T2} {J : T3} {x1 : Int32} {x2 : Int32} {x3 : Int32} {x4 : Int32}  
    (k : Ev d Z L xs mX6_setup 2 [some (.ref 0), some (.int x1), some (.int x2), some (.int x3), some (.int x4)] [.int 1, .int x1] I J z Φ) : Ev d Z L xs mX6_setup 0 [some (.ref 0), some (.int x1), some (.int x2), some (.int x3), some (.int x4)] [] I J z Φ := by
  refine Ev.blk (ops := [o0 (.iload_n 1) 1, oI (.iconst 1) 1 1]) (G := True ∧ True ∧ True) (by decide +kernel) ?_ ⟨trivial, trivial, trivial⟩ k
  rfl
theorem BX6_setup_5 {d Z L : Nat} {xs : Nat → Int32} {z : Nat} {Φ : Out → T2 → T3 → Nat → Prop} {I : T2} {J : T3} {x1 : Int32} {x2 : Int32} {x3 : Int32} {x4 : Int32}  
    (k : Ev d Z L xs mX6_setup 8 [some (.ref 0), some (.int x1), some (.int x2), some (.int x3), some (.int x4)] [.int 1000000, .int x1] I J z Φ) : Ev d Z L xs mX6_setup 5 [some (.ref 0), some (.int x1), some (.int x2), some (.int x3), some (.int x4)] [] I J z Φ := by
  refine Ev.blk (ops := [o0 (.iload_n 1) 1, oI (.ldc 57) 2 1000000]) (G := True ∧ True ∧ True) (by decide +kernel) ?_ ⟨trivial, trivial, trivial⟩ k
  rfl
theorem BX6_setup_11 {d Z L : Nat} {xs : Nat → Int32} {z : Nat} {Φ : Out → T2 → T3 → Nat → Prop} {I : T2} {J : T3} {x1 : Int32} {x2 : Int32} {x3 : Int32} {x4 : Int32}  
    (k : Ev d Z L xs mX6_setup 13 [some (.ref 0), some (.int x1), some (.int x2), some (.int x3), some (.int x4)] [.int 2, .int x2] I J z Φ) : Ev d Z L xs mX6_setup 11 [some (.ref 0), some (.int x1), some (.int x2), some (.int x3), some (.int x4)] [] I J z Φ := by
  refine Ev.blk (ops := [o0 (.iload_n 2) 1, oI (.iconst 2) 1 2]) (G := True ∧ True ∧ True) (by decide +kernel) ?_ ⟨trivial, trivial, trivial⟩ k
  rfl
theorem BX6_setup_16 {d Z L : Nat} {xs : Nat → Int32} {z : Nat} {Φ : Out → T2 → T3 → Nat → Prop} {I : T2} {J : T3} {x1 : Int32} {x2 : Int32} {x3 : Int32} {x4 : Int32}  
    (k : Ev d Z L xs mX6_setup 20 [some (.ref 0), some (.int x1), some (.int x2), some (.int x3), some (.int x4)] [.int 10000, .int x2] I J z Φ) : Ev d Z L xs mX6_setup 16 [some (.ref 0), some (.int x1), some (.int x2), some (.int x3), some (.int x4)] [] I J z Φ := by
  refine Ev.blk (ops := [o0 (.iload_n 2) 1, oI (.sipush 10000) 3 10000]) (G := True ∧ True ∧ True) (by decide +kernel) ?_ ⟨trivial, trivial, trivial⟩ k
  rfl
theorem BX6_setup_26 {d Z L : Nat} {xs : Nat → Int32} {z : Nat} {Φ : Out → T2 → T3 → Nat → Prop} {I : T2} {J : T3} {x1 : Int32} {x2 : Int32} {x3 : Int32} {x4 : Int32} {as0 : Nat}  
    (k : Ev d Z L xs mX6_setup 27 [some (.ref 0), some (.int x1), some (.int x2), some (.int x3), some (.int x4)] [.ref as0, .ref as0] I J z Φ) : Ev d Z L xs mX6_setup 26 [some (.ref 0), some (.int x1), some (.int x2), some (.int x3), some (.int x4)] [.ref as0] I J z Φ := by
  refine Ev.blk (ops := [o0 (.dup) 1]) (G := True ∧ True) (by decide +kernel) ?_ ⟨trivial, trivial⟩ k
  rfl
theorem BX6_setup_31 {d Z L : Nat} {xs : Nat → Int32} {z : Nat} {Φ : Out → T2 → T3 → Nat → Prop} {I : T2} {J : T3} {x1 : Int32} {x2 : Int32} {x3 : Int32} {x4 : Int32}  
    (k : Ev d Z L xs mX6_setup 32 [some (.ref 0), some (.int x1), some (.int x2), some (.int x3), some (.int x4)] [.int x3] I J z Φ) : Ev d Z L xs mX6_setup 31 [some (.ref 0), some (.int x1), some (.int x2), some (.int x3), some (.int x4)] [] I J z Φ := by
  refine Ev.blk (ops := [o0 (.iload_n 3) 1]) (G := True ∧ True) (by decide +kernel) ?_ ⟨trivial, trivial⟩ k
  rfl
theorem BX6_setup_35 {d Z L : Nat} {xs : Nat → Int32} {z : Nat} {Φ : Out → T2 → T3 → Nat → Prop} {I : T2} {J : T3} {x1 : Int32} {x2 : Int32} {x3 : Int32} {x4 : Int32}  
    (k : Ev d Z L xs mX6_setup 44 [some (.ref 0), some (.int x1), some (.int x2), some (.int x3), some (.int x4)] [.int (lg_cmp (2 * x3.toInt64) x2.toInt64)] I J z Φ) : Ev d Z L xs mX6_setup 35 [some (.ref 0), some (.int x1), some (.int x2), some (.int x3), some (.int x4)] [] I J z Φ := by
  refine Ev.blk (ops := [oL (.ldc2_w 61) 3 2, o0 (.iload_n 3) 1, o0 (.i2l) 1, o0 (.lmul) 1, o0 (.iload_n 2) 1, o0 (.i2l) 1, o0 (.lcmp) 1]) (G := True ∧ True ∧ True ∧ True ∧ True ∧ True ∧ True ∧ True) (by decide +kernel) ?_ ⟨trivial, trivial, trivial, trivial, trivial, trivial, trivial, trivial⟩ k
  rfl
theorem BX6_setup_47 {d Z L : Nat} {xs : Nat → Int32} {z : Nat} {Φ : Out → T2 → T3 → Nat → Prop} {I : T2} {J : T3} {x1 : Int32} {x2 : Int32} {x3 : Int32} {x4 : Int32}  
    (k : Ev d Z L xs mX6_setup 50 [some (.ref 0), some (.int x1), some (.int x2), some (.int x3), some (.int x4)] [.int 1, .int x4] I J z Φ) : Ev d Z L xs mX6_setup 47 [some (.ref 0), some (.int x1), some (.int x2), some (.int x3), some (.int x4)] [] I J z Φ := by
  refine Ev.blk (ops := [o0 (.iload 4) 2, oI (.iconst 1) 1 1]) (G := True ∧ True ∧ True) (by decide +kernel) ?_ ⟨trivial, trivial, trivial⟩ k
  rfl
theorem BX6_setup_53 {d Z L : Nat} {xs : Nat → Int32} {z : Nat} {Φ : Out → T2 → T3 → Nat → Prop} {I : T2} {J : T3} {x1 : Int32} {x2 : Int32} {x3 : Int32} {x4 : Int32}  
    (k : Ev d Z L xs mX6_setup 57 [some (.ref 0), some (.int x1), some (.int x2), some (.int x3), some (.int x4)] [.int 8, .int x4] I J z Φ) : Ev d Z L xs mX6_setup 53 [some (.ref 0), some (.int x1), some (.int x2), some (.int x3), some (.int x4)] [] I J z Φ := by
  refine Ev.blk (ops := [o0 (.iload 4) 2, oI (.bipush 8) 2 8]) (G := True ∧ True ∧ True) (by decide +kernel) ?_ ⟨trivial, trivial, trivial⟩ k
  rfl
theorem BX6_setup_63 {d Z L : Nat} {xs : Nat → Int32} {z : Nat} {Φ : Out → T2 → T3 → Nat → Prop} {I : T2} {J : T3} {x1 : Int32} {x2 : Int32} {x3 : Int32} {x4 : Int32} {as0 : Nat}  
    (k : Ev d Z L xs mX6_setup 64 [some (.ref 0), some (.int x1), some (.int x2), some (.int x3), some (.int x4)] [.ref as0, .ref as0] I J z Φ) : Ev d Z L xs mX6_setup 63 [some (.ref 0), some (.int x1), some (.int x2), some (.int x3), some (.int x4)] [.ref as0] I J z Φ := by
  refine Ev.blk (ops := [o0 (.dup) 1]) (G := True ∧ True) (by decide +kernel) ?_ ⟨trivial, trivial⟩ k
  rfl
theorem BX6_setup_68 {d Z L : Nat} {xs : Nat → Int32} {z : Nat} {Φ : Out → T2 → T3 → Nat → Prop} {I : T2} {J : T3} {x1 : Int32} {x2 : Int32} {x3 : Int32} {x4 : Int32}  
    (k : Ev d Z L xs mX6_setup 74 [some (.ref 0), some (.int x1), some (.int x2), some (.int x3), some (.int x4)] [.int x4, .int x3, .int x2, .int x1, .ref 0] I J z Φ) : Ev d Z L xs mX6_setup 68 [some (.ref 0), some (.int x1), some (.int x2), some (.int x3), some (.int x4)] [] I J z Φ := by
  refine Ev.blk (ops := [o0 (.aload_n 0) 1, o0 (.iload_n 1) 1, o0 (.iload_n 2) 1, o0 (.iload_n 3) 1, o0 (.iload 4) 2]) (G := True ∧ True ∧ True ∧ True ∧ True ∧ True) (by decide +kernel) ?_ ⟨trivial, trivial, trivial, trivial, trivial, trivial⟩ k
  rfl
theorem BX6_pass_0 {d Z L : Nat} {xs : Nat → Int32} {z : Nat} {Φ : Out → T2 → T3 → Nat → Prop} {I : T2} {J : T3} {x1 : Int32}  
    (k : Ev d Z L xs mX6_pass 1 [some (.ref 0), some (.int x1), none] [.int x1] I J z Φ) : Ev d Z L xs mX6_pass 0 [some (.ref 0), some (.int x1), none] [] I J z Φ := by
  refine Ev.blk (ops := [o0 (.iload_n 1) 1]) (G := True ∧ True) (by decide +kernel) ?_ ⟨trivial, trivial⟩ k
  rfl
theorem BX6_pass_4 {d Z L : Nat} {xs : Nat → Int32} {z : Nat} {Φ : Out → T2 → T3 → Nat → Prop} {I : T2} {J : T3} {x1 : Int32}  
    (k : Ev d Z L xs mX6_pass 7 [some (.ref 0), some (.int x1), none] [.int 1000000, .int x1] I J z Φ) : Ev d Z L xs mX6_pass 4 [some (.ref 0), some (.int x1), none] [] I J z Φ := by
  refine Ev.blk (ops := [o0 (.iload_n 1) 1, oI (.ldc 57) 2 1000000]) (G := True ∧ True ∧ True) (by decide +kernel) ?_ ⟨trivial, trivial, trivial⟩ k
  rfl
theorem BX6_pass_13 {d Z L : Nat} {xs : Nat → Int32} {z : Nat} {Φ : Out → T2 → T3 → Nat → Prop} {I : T2} {J : T3} {x1 : Int32} {as0 : Nat}  
    (k : Ev d Z L xs mX6_pass 14 [some (.ref 0), some (.int x1), none] [.ref as0, .ref as0] I J z Φ) : Ev d Z L xs mX6_pass 13 [some (.ref 0), some (.int x1), none] [.ref as0] I J z Φ := by
  refine Ev.blk (ops := [o0 (.dup) 1]) (G := True ∧ True) (by decide +kernel) ?_ ⟨trivial, trivial⟩ k
  rfl
theorem BX6_pass_18 {d Z L : Nat} {xs : Nat → Int32} {z : Nat} {Φ : Out → T2 → T3 → Nat → Prop} {I : T2} {J : T3} {x1 : Int32}  
    (k : Ev d Z L xs mX6_pass 41 [some (.ref 0), some (.int x1), none] [.int (I 0 8), .long ((up3 J 0 10 ((J 0 10) + x1.toInt64)) 0 10), .ref 2] I (up3 J 0 10 ((J 0 10) + x1.toInt64)) z Φ) : Ev d Z L xs mX6_pass 18 [some (.ref 0), some (.int x1), none] [] I J z Φ := by
  refine Ev.blk (ops := [o0 (.aload_n 0) 1, o0 (.dup) 1, oK (.getfield 73) 3 6 10, o0 (.iload_n 1) 1, o0 (.i2l) 1, o0 (.ladd) 1, oK (.putfield 73) 3 6 10, o0 (.aload_n 0) 1, oK (.getfield 18) 3 6 1, o0 (.aload_n 0) 1, oK (.getfield 73) 3 6 10, o0 (.aload_n 0) 1, oK (.getfield 67) 3 6 8]) (G := True ∧ True ∧ (kd 0 = 6) ∧ True ∧ True ∧ True ∧ (kd 0 = 6) ∧ True ∧ (kd 0 = 6) ∧ True ∧ (kd 0 = 6) ∧ True ∧ (kd 0 = 6) ∧ True) (by decide +kernel) ?_ ⟨trivial, trivial, (by decide), trivial, trivial, trivial, (by decide), trivial, (by decide), trivial, (by decide), trivial, (by decide), trivial⟩ k
  rfl
theorem BX6_pass_47 {d Z L : Nat} {xs : Nat → Int32} {z : Nat} {Φ : Out → T2 → T3 → Nat → Prop} {I : T2} {J : T3} {x1 : Int32}  
    (k : Ev d Z L xs mX6_pass 49 [some (.ref 0), some (.int x1), some (.int 0)] [] I J z Φ) : Ev d Z L xs mX6_pass 47 [some (.ref 0), some (.int x1), none] [] I J z Φ := by
  refine Ev.blk (ops := [oI (.iconst 0) 1 0, o0 (.istore_n 2) 1]) (G := True ∧ True ∧ True) (by decide +kernel) ?_ ⟨trivial, trivial, trivial⟩ k
  rfl
theorem BX6_pass_49 {d Z L : Nat} {xs : Nat → Int32} {z : Nat} {Φ : Out → T2 → T3 → Nat → Prop} {I : T2} {J : T3} {x1 : Int32} {x2 : Int32}  
    (k : Ev d Z L xs mX6_pass 54 [some (.ref 0), some (.int x1), some (.int x2)] [.int (I 0 7), .int x2] I J z Φ) : Ev d Z L xs mX6_pass 49 [some (.ref 0), some (.int x1), some (.int x2)] [] I J z Φ := by
  refine Ev.blk (ops := [o0 (.iload_n 2) 1, o0 (.aload_n 0) 1, oK (.getfield 63) 3 6 7]) (G := True ∧ True ∧ (kd 0 = 6) ∧ True) (by decide +kernel) ?_ ⟨trivial, trivial, (by decide), trivial⟩ k
  rfl
theorem BX6_pass_57 {d Z L : Nat} {xs : Nat → Int32} {z : Nat} {Φ : Out → T2 → T3 → Nat → Prop} {I : T2} {J : T3} {x1 : Int32} {x2 : Int32}  (g1 : vp_in x2 8)
    (k : Ev d Z L xs mX6_pass 71 [some (.ref 0), some (.int x1), some (.int x2)] [.int (I 0 8), .long (J 0 10), .ref (24 + 14 * x2.toNatClampNeg)] I J z Φ) : Ev d Z L xs mX6_pass 57 [some (.ref 0), some (.int x1), some (.int x2)] [] I J z Φ := by
  refine Ev.blk (ops := [o0 (.aload_n 0) 1, oK (.getfield 11) 3 6 0, o0 (.iload_n 2) 1, oK (.aaload) 1 11 0, o0 (.aload_n 0) 1, oK (.getfield 73) 3 6 10, o0 (.aload_n 0) 1, oK (.getfield 67) 3 6 8]) (G := True ∧ (kd 0 = 6) ∧ True ∧ (kd 1 = 11 ∧ vp_in x2 (ln 1)) ∧ True ∧ (kd 0 = 6) ∧ True ∧ (kd 0 = 6) ∧ True) (by decide +kernel) ?_ ⟨trivial, (by decide), trivial, ⟨(by decide), g1⟩, trivial, (by decide), trivial, (by decide), trivial⟩ k
  rfl
theorem BX6_pass_74 {d Z L : Nat} {xs : Nat → Int32} {z : Nat} {Φ : Out → T2 → T3 → Nat → Prop} {I : T2} {J : T3} {x1 : Int32} {x2 : Int32}  
    (k : Ev d Z L xs mX6_pass 49 [some (.ref 0), some (.int x1), some (.int (x2 + 1))] [] I J z Φ) : Ev d Z L xs mX6_pass 74 [some (.ref 0), some (.int x1), some (.int x2)] [] I J z Φ := by
  refine Ev.blk (ops := [oI (.iinc 2 1) 3 1, oK (.goto (-28)) 3 49 0]) (G := True ∧ True ∧ True) (by decide +kernel) ?_ ⟨trivial, trivial, trivial⟩ k
  rfl
theorem BX6_windowAt_0 {d Z L : Nat} {xs : Nat → Int32} {z : Nat} {Φ : Out → T2 → T3 → Nat → Prop} {I : T2} {J : T3} {y0 : Int64} {x2 : Int32}  
    (k : Ev d Z L xs mX6_windowAt 2 [some (.long y0), none, some (.int x2)] [.int 2, .int x2] I J z Φ) : Ev d Z L xs mX6_windowAt 0 [some (.long y0), none, some (.int x2)] [] I J z Φ := by
  refine Ev.blk (ops := [o0 (.iload_n 2) 1, oI (.iconst 2) 1 2]) (G := True ∧ True ∧ True) (by decide +kernel) ?_ ⟨trivial, trivial, trivial⟩ k
  rfl
theorem BX6_windowAt_5 {d Z L : Nat} {xs : Nat → Int32} {z : Nat} {Φ : Out → T2 → T3 → Nat → Prop} {I : T2} {J : T3} {y0 : Int64} {x2 : Int32}  
    (k : Ev d Z L xs mX6_windowAt 14 [some (.long y0), none, some (.int x2)] [.int 0] I J z Φ) : Ev d Z L xs mX6_windowAt 5 [some (.long y0), none, some (.int x2)] [] I J z Φ := by
  refine Ev.blk (ops := [oI (.iconst 0) 1 0, oK (.goto 8) 3 14 0]) (G := True ∧ True ∧ True) (by decide +kernel) ?_ ⟨trivial, trivial, trivial⟩ k
  rfl
theorem BX6_windowAt_9 {d Z L : Nat} {xs : Nat → Int32} {z : Nat} {Φ : Out → T2 → T3 → Nat → Prop} {I : T2} {J : T3} {y0 : Int64} {x2 : Int32}  (g1 : ¬ x2.toInt64 = (0 : Int64))
    (k : Ev d Z L xs mX6_windowAt 14 [some (.long y0), none, some (.int x2)] [.int ((y0 / x2.toInt64).toInt32)] I J z Φ) : Ev d Z L xs mX6_windowAt 9 [some (.long y0), none, some (.int x2)] [] I J z Φ := by
  refine Ev.blk (ops := [o0 (.lload_n 0) 1, o0 (.iload_n 2) 1, o0 (.i2l) 1, o0 (.ldiv) 1, o0 (.l2i) 1]) (G := True ∧ True ∧ True ∧ (¬ x2.toInt64 = (0 : Int64)) ∧ True ∧ True) (by decide +kernel) ?_ ⟨trivial, trivial, trivial, g1, trivial, trivial⟩ k
  rfl
theorem BX6_error_0 {d Z L : Nat} {xs : Nat → Int32} {z : Nat} {Φ : Out → T2 → T3 → Nat → Prop} {I : T2} {J : T3} {x1 : Int32} {x2 : Int32}  
    (k : Ev d Z L xs mX6_error 2 [some (.ref 0), some (.int x1), some (.int x2), none] [.int x1, .ref 0] I J z Φ) : Ev d Z L xs mX6_error 0 [some (.ref 0), some (.int x1), some (.int x2), none] [] I J z Φ := by
  refine Ev.blk (ops := [o0 (.aload_n 0) 1, o0 (.iload_n 1) 1]) (G := True ∧ True ∧ True) (by decide +kernel) ?_ ⟨trivial, trivial, trivial⟩ k
  rfl
theorem BX6_error_5 {d Z L : Nat} {xs : Nat → Int32} {z : Nat} {Φ : Out → T2 → T3 → Nat → Prop} {I : T2} {J : T3} {x1 : Int32} {x2 : Int32} {as0 : Nat}  
    (k : Ev d Z L xs mX6_error 12 [some (.ref 0), some (.int x1), some (.int x2), some (.ref as0)] [.int (-(I 0 9)), .int x2] I J z Φ) : Ev d Z L xs mX6_error 5 [some (.ref 0), some (.int x1), some (.int x2), none] [.ref as0] I J z Φ := by
  refine Ev.blk (ops := [o0 (.astore_n 3) 1, o0 (.iload_n 2) 1, o0 (.aload_n 0) 1, oK (.getfield 70) 3 6 9, o0 (.ineg) 1]) (G := True ∧ True ∧ True ∧ (kd 0 = 6) ∧ True ∧ True) (by decide +kernel) ?_ ⟨trivial, trivial, trivial, (by decide), trivial, trivial⟩ k
  rfl
theorem BX6_error_15 {d Z L : Nat} {xs : Nat → Int32} {z : Nat} {Φ : Out → T2 → T3 → Nat → Prop} {I : T2} {J : T3} {x1 : Int32} {x2 : Int32} {a3 : Nat}  
    (k : Ev d Z L xs mX6_error 20 [some (.ref 0), some (.int x1), some (.int x2), some (.ref a3)] [.int (I 0 9), .int x2] I J z Φ) : Ev d Z L xs mX6_error 15 [some (.ref 0), some (.int x1), some (.int x2), some (.ref a3)] [] I J z Φ := by
  refine Ev.blk (ops := [o0 (.iload_n 2) 1, o0 (.aload_n 0) 1, oK (.getfield 70) 3 6 9]) (G := True ∧ True ∧ (kd 0 = 6) ∧ True) (by decide +kernel) ?_ ⟨trivial, trivial, (by decide), trivial⟩ k
  rfl
theorem BX6_error_26 {d Z L : Nat} {xs : Nat → Int32} {z : Nat} {Φ : Out → T2 → T3 → Nat → Prop} {I : T2} {J : T3} {x1 : Int32} {x2 : Int32} {a3 : Nat} {as0 : Nat}  
    (k : Ev d Z L xs mX6_error 27 [some (.ref 0), some (.int x1), some (.int x2), some (.ref a3)] [.ref as0, .ref as0] I J z Φ) : Ev d Z L xs mX6_error 26 [some (.ref 0), some (.int x1), some (.int x2), some (.ref a3)] [.ref as0] I J z Φ := by
  refine Ev.blk (ops := [o0 (.dup) 1]) (G := True ∧ True) (by decide +kernel) ?_ ⟨trivial, trivial⟩ k
  rfl
theorem BX6_error_31 {d Z L : Nat} {xs : Nat → Int32} {z : Nat} {Φ : Out → T2 → T3 → Nat → Prop} {I : T2} {J : T3} {x1 : Int32} {x2 : Int32} {a3 : Nat} (hk_a3 : kd a3 = 1) 
    (k : Ev d Z L xs mX6_error 45 [some (.ref 0), some (.int x1), some (.int x2), some (.ref a3)] [.int ((up2 I a3 5 x2) 0 8), .long (J 0 10), .ref a3] (up2 I a3 5 x2) J z Φ) : Ev d Z L xs mX6_error 31 [some (.ref 0), some (.int x1), some (.int x2), some (.ref a3)] [] I J z Φ := by
  refine Ev.blk (ops := [o0 (.aload_n 3) 1, o0 (.iload_n 2) 1, oK (.putfield 106) 3 1 5, o0 (.aload_n 3) 1, o0 (.aload_n 0) 1, oK (.getfield 73) 3 6 10, o0 (.aload_n 0) 1, oK (.getfield 67) 3 6 8]) (G := True ∧ True ∧ (kd a3 = 1) ∧ True ∧ True ∧ (kd 0 = 6) ∧ True ∧ (kd 0 = 6) ∧ True) (by decide +kernel) ?_ ⟨trivial, trivial, hk_a3, trivial, trivial, (by decide), trivial, (by decide), trivial⟩ k
  rfl
theorem BX6_gateAt_0 {d Z L : Nat} {xs : Nat → Int32} {z : Nat} {Φ : Out → T2 → T3 → Nat → Prop} {I : T2} {J : T3} {x1 : Int32}  
    (k : Ev d Z L xs mX6_gateAt 1 [some (.ref 0), some (.int x1)] [.int x1] I J z Φ) : Ev d Z L xs mX6_gateAt 0 [some (.ref 0), some (.int x1)] [] I J z Φ := by
  refine Ev.blk (ops := [o0 (.iload_n 1) 1]) (G := True ∧ True) (by decide +kernel) ?_ ⟨trivial, trivial⟩ k
  rfl
theorem BX6_gateAt_4 {d Z L : Nat} {xs : Nat → Int32} {z : Nat} {Φ : Out → T2 → T3 → Nat → Prop} {I : T2} {J : T3} {x1 : Int32}  
    (k : Ev d Z L xs mX6_gateAt 9 [some (.ref 0), some (.int x1)] [.int (I 0 7), .int x1] I J z Φ) : Ev d Z L xs mX6_gateAt 4 [some (.ref 0), some (.int x1)] [] I J z Φ := by
  refine Ev.blk (ops := [o0 (.iload_n 1) 1, o0 (.aload_n 0) 1, oK (.getfield 63) 3 6 7]) (G := True ∧ True ∧ (kd 0 = 6) ∧ True) (by decide +kernel) ?_ ⟨trivial, trivial, (by decide), trivial⟩ k
  rfl
theorem BX6_gateAt_15 {d Z L : Nat} {xs : Nat → Int32} {z : Nat} {Φ : Out → T2 → T3 → Nat → Prop} {I : T2} {J : T3} {x1 : Int32} {as0 : Nat}  
    (k : Ev d Z L xs mX6_gateAt 16 [some (.ref 0), some (.int x1)] [.ref as0, .ref as0] I J z Φ) : Ev d Z L xs mX6_gateAt 15 [some (.ref 0), some (.int x1)] [.ref as0] I J z Φ := by
  refine Ev.blk (ops := [o0 (.dup) 1]) (G := True ∧ True) (by decide +kernel) ?_ ⟨trivial, trivial⟩ k
  rfl
theorem BX6_gateAt_20 {d Z L : Nat} {xs : Nat → Int32} {z : Nat} {Φ : Out → T2 → T3 → Nat → Prop} {I : T2} {J : T3} {x1 : Int32}  (g1 : vp_in x1 8)
    (k : Ev d Z L xs mX6_gateAt 26 [some (.ref 0), some (.int x1)] [.ref (24 + 14 * x1.toNatClampNeg)] I J z Φ) : Ev d Z L xs mX6_gateAt 20 [some (.ref 0), some (.int x1)] [] I J z Φ := by
  refine Ev.blk (ops := [o0 (.aload_n 0) 1, oK (.getfield 11) 3 6 0, o0 (.iload_n 1) 1, oK (.aaload) 1 11 0]) (G := True ∧ (kd 0 = 6) ∧ True ∧ (kd 1 = 11 ∧ vp_in x1 (ln 1)) ∧ True) (by decide +kernel) ?_ ⟨trivial, (by decide), trivial, ⟨(by decide), g1⟩, trivial⟩ k
  rfl
theorem BX6_rule_0 {d Z L : Nat} {xs : Nat → Int32} {z : Nat} {Φ : Out → T2 → T3 → Nat → Prop} {I : T2} {J : T3} {x1 : Int32}  
    (k : Ev d Z L xs mX6_rule 1 [some (.ref 0), some (.int x1)] [.int x1] I J z Φ) : Ev d Z L xs mX6_rule 0 [some (.ref 0), some (.int x1)] [] I J z Φ := by
  refine Ev.blk (ops := [o0 (.iload_n 1) 1]) (G := True ∧ True) (by decide +kernel) ?_ ⟨trivial, trivial⟩ k
  rfl
theorem BX6_rule_4 {d Z L : Nat} {xs : Nat → Int32} {z : Nat} {Φ : Out → T2 → T3 → Nat → Prop} {I : T2} {J : T3} {x1 : Int32}  
    (k : Ev d Z L xs mX6_rule 6 [some (.ref 0), some (.int x1)] [.int 2, .int x1] I J z Φ) : Ev d Z L xs mX6_rule 4 [some (.ref 0), some (.int x1)] [] I J z Φ := by
  refine Ev.blk (ops := [o0 (.iload_n 1) 1, oI (.iconst 2) 1 2]) (G := True ∧ True ∧ True) (by decide +kernel) ?_ ⟨trivial, trivial, trivial⟩ k
  rfl
theorem BX6_rule_12 {d Z L : Nat} {xs : Nat → Int32} {z : Nat} {Φ : Out → T2 → T3 → Nat → Prop} {I : T2} {J : T3} {x1 : Int32} {as0 : Nat}  
    (k : Ev d Z L xs mX6_rule 13 [some (.ref 0), some (.int x1)] [.ref as0, .ref as0] I J z Φ) : Ev d Z L xs mX6_rule 12 [some (.ref 0), some (.int x1)] [.ref as0] I J z Φ := by
  refine Ev.blk (ops := [o0 (.dup) 1]) (G := True ∧ True) (by decide +kernel) ?_ ⟨trivial, trivial⟩ k
  rfl
theorem BX6_rule_17 {d Z L : Nat} {xs : Nat → Int32} {z : Nat} {Φ : Out → T2 → T3 → Nat → Prop} {I : T2} {J : T3} {x1 : Int32}  
    (k : Ev d Z L xs mX6_rule 25 [some (.ref 0), some (.int x1)] [] (up2 I 2 5 x1) J z Φ) : Ev d Z L xs mX6_rule 17 [some (.ref 0), some (.int x1)] [] I J z Φ := by
  refine Ev.blk (ops := [o0 (.aload_n 0) 1, oK (.getfield 18) 3 6 1, o0 (.iload_n 1) 1, oK (.putfield 109) 3 2 5]) (G := True ∧ (kd 0 = 6) ∧ True ∧ (kd 2 = 2) ∧ True) (by decide +kernel) ?_ ⟨trivial, (by decide), trivial, (by decide), trivial⟩ k
  rfl
theorem BX6_admit_0 {d Z L : Nat} {xs : Nat → Int32} {z : Nat} {Φ : Out → T2 → T3 → Nat → Prop} {I : T2} {J : T3} {x1 : Int32} {x2 : Int32}  
    (k : Ev d Z L xs mX6_admit 2 [some (.ref 0), some (.int x1), some (.int x2), none, none] [.int x1, .ref 0] I J z Φ) : Ev d Z L xs mX6_admit 0 [some (.ref 0), some (.int x1), some (.int x2), none, none] [] I J z Φ := by
  refine Ev.blk (ops := [o0 (.aload_n 0) 1, o0 (.iload_n 1) 1]) (G := True ∧ True ∧ True) (by decide +kernel) ?_ ⟨trivial, trivial, trivial⟩ k
  rfl
theorem BX6_admit_5 {d Z L : Nat} {xs : Nat → Int32} {z : Nat} {Φ : Out → T2 → T3 → Nat → Prop} {I : T2} {J : T3} {x1 : Int32} {x2 : Int32} {as0 : Nat}  
    (k : Ev d Z L xs mX6_admit 8 [some (.ref 0), some (.int x1), some (.int x2), some (.ref as0), none] [.int 1, .int x2] I J z Φ) : Ev d Z L xs mX6_admit 5 [some (.ref 0), some (.int x1), some (.int x2), none, none] [.ref as0] I J z Φ := by
  refine Ev.blk (ops := [o0 (.astore_n 3) 1, o0 (.iload_n 2) 1, oI (.iconst 1) 1 1]) (G := True ∧ True ∧ True ∧ True) (by decide +kernel) ?_ ⟨trivial, trivial, trivial, trivial⟩ k
  rfl
theorem BX6_admit_11 {d Z L : Nat} {xs : Nat → Int32} {z : Nat} {Φ : Out → T2 → T3 → Nat → Prop} {I : T2} {J : T3} {x1 : Int32} {x2 : Int32} {a3 : Nat}  
    (k : Ev d Z L xs mX6_admit 15 [some (.ref 0), some (.int x1), some (.int x2), some (.ref a3), none] [.int 1000, .int x2] I J z Φ) : Ev d Z L xs mX6_admit 11 [some (.ref 0), some (.int x1), some (.int x2), some (.ref a3), none] [] I J z Φ := by
  refine Ev.blk (ops := [o0 (.iload_n 2) 1, oI (.sipush 1000) 3 1000]) (G := True ∧ True ∧ True) (by decide +kernel) ?_ ⟨trivial, trivial, trivial⟩ k
  rfl
theorem BX6_admit_21 {d Z L : Nat} {xs : Nat → Int32} {z : Nat} {Φ : Out → T2 → T3 → Nat → Prop} {I : T2} {J : T3} {x1 : Int32} {x2 : Int32} {a3 : Nat} {as0 : Nat}  
    (k : Ev d Z L xs mX6_admit 22 [some (.ref 0), some (.int x1), some (.int x2), some (.ref a3), none] [.ref as0, .ref as0] I J z Φ) : Ev d Z L xs mX6_admit 21 [some (.ref 0), some (.int x1), some (.int x2), some (.ref a3), none] [.ref as0] I J z Φ := by
  refine Ev.blk (ops := [o0 (.dup) 1]) (G := True ∧ True) (by decide +kernel) ?_ ⟨trivial, trivial⟩ k
  rfl
theorem BX6_admit_26 {d Z L : Nat} {xs : Nat → Int32} {z : Nat} {Φ : Out → T2 → T3 → Nat → Prop} {I : T2} {J : T3} {x1 : Int32} {x2 : Int32} {a3 : Nat} (hk_a3 : kd a3 = 1) 
    (k : Ev d Z L xs mX6_admit 30 [some (.ref 0), some (.int x1), some (.int x2), some (.ref a3), none] [.int (I a3 8)] I J z Φ) : Ev d Z L xs mX6_admit 26 [some (.ref 0), some (.int x1), some (.int x2), some (.ref a3), none] [] I J z Φ := by
  refine Ev.blk (ops := [o0 (.aload_n 3) 1, oK (.getfield 112) 3 1 8]) (G := True ∧ (kd a3 = 1) ∧ True) (by decide +kernel) ?_ ⟨trivial, hk_a3, trivial⟩ k
  rfl
theorem BX6_admit_33 {d Z L : Nat} {xs : Nat → Int32} {z : Nat} {Φ : Out → T2 → T3 → Nat → Prop} {I : T2} {J : T3} {x1 : Int32} {x2 : Int32} {a3 : Nat}  
    (k : Ev d Z L xs mX6_admit 35 [some (.ref 0), some (.int x1), some (.int x2), some (.ref a3), none] [.int x2, .ref a3] I J z Φ) : Ev d Z L xs mX6_admit 33 [some (.ref 0), some (.int x1), some (.int x2), some (.ref a3), none] [] I J z Φ := by
  refine Ev.blk (ops := [o0 (.aload_n 3) 1, o0 (.iload_n 2) 1]) (G := True ∧ True ∧ True) (by decide +kernel) ?_ ⟨trivial, trivial, trivial⟩ k
  rfl
theorem BX6_admit_38 {d Z L : Nat} {xs : Nat → Int32} {z : Nat} {Φ : Out → T2 → T3 → Nat → Prop} {I : T2} {J : T3} {x1 : Int32} {x2 : Int32} {a3 : Nat} {xs0 : Int32}  
    (k : Ev d Z L xs mX6_admit 42 [some (.ref 0), some (.int x1), some (.int x2), some (.ref a3), some (.int xs0)] [.int xs0] I J z Φ) : Ev d Z L xs mX6_admit 38 [some (.ref 0), some (.int x1), some (.int x2), some (.ref a3), none] [.int xs0] I J z Φ := by
  refine Ev.blk (ops := [o0 (.istore 4) 2, o0 (.iload 4) 2]) (G := True ∧ True ∧ True) (by decide +kernel) ?_ ⟨trivial, trivial, trivial⟩ k
  rfl
theorem BX6_admit_45 {d Z L : Nat} {xs : Nat → Int32} {z : Nat} {Φ : Out → T2 → T3 → Nat → Prop} {I : T2} {J : T3} {x1 : Int32} {x2 : Int32} {a3 : Nat} {x4 : Int32}  
    (k : Ev d Z L xs mX6_admit 55 [some (.ref 0), some (.int x1), some (.int x2), some (.ref a3), some (.int x4)] [.int x4, .long (J 0 10), .ref 19] I J z Φ) : Ev d Z L xs mX6_admit 45 [some (.ref 0), some (.int x1), some (.int x2), some (.ref a3), some (.int x4)] [] I J z Φ := by
  refine Ev.blk (ops := [o0 (.aload_n 0) 1, oK (.getfield 39) 3 6 4, o0 (.aload_n 0) 1, oK (.getfield 73) 3 6 10, o0 (.iload 4) 2]) (G := True ∧ (kd 0 = 6) ∧ True ∧ (kd 0 = 6) ∧ True ∧ True) (by decide +kernel) ?_ ⟨trivial, (by decide), trivial, (by decide), trivial, trivial⟩ k
  rfl
theorem BX6_admit_58 {d Z L : Nat} {xs : Nat → Int32} {z : Nat} {Φ : Out → T2 → T3 → Nat → Prop} {I : T2} {J : T3} {x1 : Int32} {x2 : Int32} {a3 : Nat} {x4 : Int32} (hk_a3 : kd a3 = 1) 
    (k : Ev d Z L xs mX6_admit 62 [some (.ref 0), some (.int x1), some (.int x2), some (.ref a3), some (.int x4)] [.int (I a3 7)] I J z Φ) : Ev d Z L xs mX6_admit 58 [some (.ref 0), some (.int x1), some (.int x2), some (.ref a3), some (.int x4)] [] I J z Φ := by
  refine Ev.blk (ops := [o0 (.aload_n 3) 1, oK (.getfield 127) 3 1 7]) (G := True ∧ (kd a3 = 1) ∧ True) (by decide +kernel) ?_ ⟨trivial, hk_a3, trivial⟩ k
  rfl
theorem BX6_admit_68 {d Z L : Nat} {xs : Nat → Int32} {z : Nat} {Φ : Out → T2 → T3 → Nat → Prop} {I : T2} {J : T3} {x1 : Int32} {x2 : Int32} {a3 : Nat} {x4 : Int32} (hk_a3 : kd a3 = 1) (g1 : vp_in (I a3 7) 200)
    (k : Ev d Z L xs mX6_admit 82 [some (.ref 0), some (.int x1), some (.int x2), some (.ref a3), some (.int x4)] [] (up2 I 22 (I a3 7).toNatClampNeg ((I 22 (I a3 7).toNatClampNeg) + x4)) J z Φ) : Ev d Z L xs mX6_admit 68 [some (.ref 0), some (.int x1), some (.int x2), some (.ref a3), some (.int x4)] [] I J z Φ := by
  refine Ev.blk (ops := [o0 (.aload_n 0) 1, oK (.getfield 43) 3 6 5, o0 (.aload_n 3) 1, oK (.getfield 127) 3 1 7, o0 (.dup2) 1, o0 (.iaload) 1, o0 (.iload 4) 2, o0 (.iadd) 1, o0 (.iastore) 1]) (G := True ∧ (kd 0 = 6) ∧ True ∧ (kd a3 = 1) ∧ True ∧ (kd 22 = 8 ∧ vp_in (I a3 7) (ln 22)) ∧ True ∧ True ∧ (kd 22 = 8 ∧ vp_in (I a3 7) (ln 22)) ∧ True) (by decide +kernel) ?_ ⟨trivial, (by decide), trivial, hk_a3, trivial, ⟨(by decide), g1⟩, trivial, trivial, ⟨(by decide), g1⟩, trivial⟩ k
  rfl
theorem BX6_admit_82 {d Z L : Nat} {xs : Nat → Int32} {z : Nat} {Φ : Out → T2 → T3 → Nat → Prop} {I : T2} {J : T3} {x1 : Int32} {x2 : Int32} {a3 : Nat} {x4 : Int32}  
    (k : Ev d Z L xs mX6_admit 84 [some (.ref 0), some (.int x1), some (.int x2), some (.ref a3), some (.int x4)] [.int x4] I J z Φ) : Ev d Z L xs mX6_admit 82 [some (.ref 0), some (.int x1), some (.int x2), some (.ref a3), some (.int x4)] [] I J z Φ := by
  refine Ev.blk (ops := [o0 (.iload 4) 2]) (G := True ∧ True) (by decide +kernel) ?_ ⟨trivial, trivial⟩ k
  rfl
theorem BX6_mustBeUp_0 {d Z L : Nat} {xs : Nat → Int32} {z : Nat} {Φ : Out → T2 → T3 → Nat → Prop} {I : T2} {J : T3} {x0 : Int32}  
    (k : Ev d Z L xs mX6_mustBeUp 1 [some (.int x0)] [.int x0] I J z Φ) : Ev d Z L xs mX6_mustBeUp 0 [some (.int x0)] [] I J z Φ := by
  refine Ev.blk (ops := [o0 (.iload_n 0) 1]) (G := True ∧ True) (by decide +kernel) ?_ ⟨trivial, trivial⟩ k
  rfl
theorem BX6_mustBeUp_7 {d Z L : Nat} {xs : Nat → Int32} {z : Nat} {Φ : Out → T2 → T3 → Nat → Prop} {I : T2} {J : T3} {x0 : Int32} {as0 : Nat}  
    (k : Ev d Z L xs mX6_mustBeUp 8 [some (.int x0)] [.ref as0, .ref as0] I J z Φ) : Ev d Z L xs mX6_mustBeUp 7 [some (.int x0)] [.ref as0] I J z Φ := by
  refine Ev.blk (ops := [o0 (.dup) 1]) (G := True ∧ True) (by decide +kernel) ?_ ⟨trivial, trivial⟩ k
  rfl
theorem BX6_plead_0 {d Z L : Nat} {xs : Nat → Int32} {z : Nat} {Φ : Out → T2 → T3 → Nat → Prop} {I : T2} {J : T3} {x1 : Int32} {x2 : Int32}  
    (k : Ev d Z L xs mX6_plead 2 [some (.ref 0), some (.int x1), some (.int x2), none] [.int x1, .ref 0] I J z Φ) : Ev d Z L xs mX6_plead 0 [some (.ref 0), some (.int x1), some (.int x2), none] [] I J z Φ := by
  refine Ev.blk (ops := [o0 (.aload_n 0) 1, o0 (.iload_n 1) 1]) (G := True ∧ True ∧ True) (by decide +kernel) ?_ ⟨trivial, trivial, trivial⟩ k
  rfl
theorem BX6_plead_5 {d Z L : Nat} {xs : Nat → Int32} {z : Nat} {Φ : Out → T2 → T3 → Nat → Prop} {I : T2} {J : T3} {x1 : Int32} {x2 : Int32} {as0 : Nat}  
    (k : Ev d Z L xs mX6_plead 8 [some (.ref 0), some (.int x1), some (.int x2), some (.ref as0)] [.int 1, .int x2] I J z Φ) : Ev d Z L xs mX6_plead 5 [some (.ref 0), some (.int x1), some (.int x2), none] [.ref as0] I J z Φ := by
  refine Ev.blk (ops := [o0 (.astore_n 3) 1, o0 (.iload_n 2) 1, oI (.iconst 1) 1 1]) (G := True ∧ True ∧ True ∧ True) (by decide +kernel) ?_ ⟨trivial, trivial, trivial, trivial⟩ k
  rfl
theorem BX6_plead_11 {d Z L : Nat} {xs : Nat → Int32} {z : Nat} {Φ : Out → T2 → T3 → Nat → Prop} {I : T2} {J : T3} {x1 : Int32} {x2 : Int32} {a3 : Nat}  
    (k : Ev d Z L xs mX6_plead 14 [some (.ref 0), some (.int x1), some (.int x2), some (.ref a3)] [.int 1000000, .int x2] I J z Φ) : Ev d Z L xs mX6_plead 11 [some (.ref 0), some (.int x1), some (.int x2), some (.ref a3)] [] I J z Φ := by
  refine Ev.blk (ops := [o0 (.iload_n 2) 1, oI (.ldc 57) 2 1000000]) (G := True ∧ True ∧ True) (by decide +kernel) ?_ ⟨trivial, trivial, trivial⟩ k
  rfl
theorem BX6_plead_20 {d Z L : Nat} {xs : Nat → Int32} {z : Nat} {Φ : Out → T2 → T3 → Nat → Prop} {I : T2} {J : T3} {x1 : Int32} {x2 : Int32} {a3 : Nat} {as0 : Nat}  
    (k : Ev d Z L xs mX6_plead 21 [some (.ref 0), some (.int x1), some (.int x2), some (.ref a3)] [.ref as0, .ref as0] I J z Φ) : Ev d Z L xs mX6_plead 20 [some (.ref 0), some (.int x1), some (.int x2), some (.ref a3)] [.ref as0] I J z Φ := by
  refine Ev.blk (ops := [o0 (.dup) 1]) (G := True ∧ True) (by decide +kernel) ?_ ⟨trivial, trivial⟩ k
  rfl
theorem BX6_plead_25 {d Z L : Nat} {xs : Nat → Int32} {z : Nat} {Φ : Out → T2 → T3 → Nat → Prop} {I : T2} {J : T3} {x1 : Int32} {x2 : Int32} {a3 : Nat} (hk_a3 : kd a3 = 1) 
    (k : Ev d Z L xs mX6_plead 29 [some (.ref 0), some (.int x1), some (.int x2), some (.ref a3)] [.int (I a3 8)] I J z Φ) : Ev d Z L xs mX6_plead 25 [some (.ref 0), some (.int x1), some (.int x2), some (.ref a3)] [] I J z Φ := by
  refine Ev.blk (ops := [o0 (.aload_n 3) 1, oK (.getfield 112) 3 1 8]) (G := True ∧ (kd a3 = 1) ∧ True) (by decide +kernel) ?_ ⟨trivial, hk_a3, trivial⟩ k
  rfl
theorem BX6_plead_32 {d Z L : Nat} {xs : Nat → Int32} {z : Nat} {Φ : Out → T2 → T3 → Nat → Prop} {I : T2} {J : T3} {x1 : Int32} {x2 : Int32} {a3 : Nat} (hk_a3 : kd a3 = 1) 
    (k : Ev d Z L xs mX6_plead 36 [some (.ref 0), some (.int x1), some (.int x2), some (.ref a3)] [.ref (a3 + 4)] I J z Φ) : Ev d Z L xs mX6_plead 32 [some (.ref 0), some (.int x1), some (.int x2), some (.ref a3)] [] I J z Φ := by
  refine Ev.blk (ops := [o0 (.aload_n 3) 1, oK (.getfield 134) 3 1 0]) (G := True ∧ (kd a3 = 1) ∧ True) (by decide +kernel) ?_ ⟨trivial, hk_a3, trivial⟩ k
  rfl
theorem BX6_plead_39 {d Z L : Nat} {xs : Nat → Int32} {z : Nat} {Φ : Out → T2 → T3 → Nat → Prop} {I : T2} {J : T3} {x1 : Int32} {x2 : Int32} {a3 : Nat} (hk_a3 : kd a3 = 1) 
    (k : Ev d Z L xs mX6_plead 60 [some (.ref 0), some (.int x1), some (.int x2), some (.ref a3)] [.int ((I a3 7) - 1), .ref a3, .int x2, .int (I a3 7), .int 0, .ref 12, .ref (a3 + 4)] I J z Φ) : Ev d Z L xs mX6_plead 39 [some (.ref 0), some (.int x1), some (.int x2), some (.ref a3)] [] I J z Φ := by
  refine Ev.blk (ops := [o0 (.aload_n 3) 1, oK (.getfield 134) 3 1 0, o0 (.aload_n 0) 1, oK (.getfield 25) 3 6 2, oI (.iconst 0) 1 0, o0 (.aload_n 3) 1, oK (.getfield 127) 3 1 7, o0 (.iload_n 2) 1, o0 (.aload_n 3) 1, o0 (.aload_n 3) 1, oK (.getfield 127) 3 1 7, oI (.iconst 1) 1 1, o0 (.isub) 1]) (G := True ∧ (kd a3 = 1) ∧ True ∧ (kd 0 = 6) ∧ True ∧ True ∧ (kd a3 = 1) ∧ True ∧ True ∧ True ∧ (kd a3 = 1) ∧ True ∧ True ∧ True) (by decide +kernel) ?_ ⟨trivial, hk_a3, trivial, (by decide), trivial, trivial, hk_a3, trivial, trivial, trivial, hk_a3, trivial, trivial, trivial⟩ k
  rfl
theorem BX6_mustBeOpen_0 {d Z L : Nat} {xs : Nat → Int32} {z : Nat} {Φ : Out → T2 → T3 → Nat → Prop} {I : T2} {J : T3} {a0 : Nat}  
    (k : Ev d Z L xs mX6_mustBeOpen 1 [some (.ref a0)] [.ref a0] I J z Φ) : Ev d Z L xs mX6_mustBeOpen 0 [some (.ref a0)] [] I J z Φ := by
  refine Ev.blk (ops := [o0 (.aload_n 0) 1]) (G := True ∧ True) (by decide +kernel) ?_ ⟨trivial, trivial⟩ k
  rfl
theorem BX6_mustBeOpen_10 {d Z L : Nat} {xs : Nat → Int32} {z : Nat} {Φ : Out → T2 → T3 → Nat → Prop} {I : T2} {J : T3} {a0 : Nat} {as0 : Nat}  
    (k : Ev d Z L xs mX6_mustBeOpen 11 [some (.ref a0)] [.ref as0, .ref as0] I J z Φ) : Ev d Z L xs mX6_mustBeOpen 10 [some (.ref a0)] [.ref as0] I J z Φ := by
  refine Ev.blk (ops := [o0 (.dup) 1]) (G := True ∧ True) (by decide +kernel) ?_ ⟨trivial, trivial⟩ k
  rfl
theorem BX6_back_0 {d Z L : Nat} {xs : Nat → Int32} {z : Nat} {Φ : Out → T2 → T3 → Nat → Prop} {I : T2} {J : T3} {x1 : Int32} {x2 : Int32} {x3 : Int32}  
    (k : Ev d Z L xs mX6_back 2 [some (.ref 0), some (.int x1), some (.int x2), some (.int x3), none] [.int x1, .ref 0] I J z Φ) : Ev d Z L xs mX6_back 0 [some (.ref 0), some (.int x1), some (.int x2), some (.int x3), none] [] I J z Φ := by
  refine Ev.blk (ops := [o0 (.aload_n 0) 1, o0 (.iload_n 1) 1]) (G := True ∧ True ∧ True) (by decide +kernel) ?_ ⟨trivial, trivial, trivial⟩ k
  rfl
theorem BX6_back_5 {d Z L : Nat} {xs : Nat → Int32} {z : Nat} {Φ : Out → T2 → T3 → Nat → Prop} {I : T2} {J : T3} {x1 : Int32} {x2 : Int32} {x3 : Int32} {as0 : Nat} (hk_as0 : kd as0 = 1) 
    (k : Ev d Z L xs mX6_back 12 [some (.ref 0), some (.int x1), some (.int x2), some (.int x3), some (.ref as0)] [.int (I as0 8)] I J z Φ) : Ev d Z L xs mX6_back 5 [some (.ref 0), some (.int x1), some (.int x2), some (.int x3), none] [.ref as0] I J z Φ := by
  refine Ev.blk (ops := [o0 (.astore 4) 2, o0 (.aload 4) 2, oK (.getfield 112) 3 1 8]) (G := True ∧ True ∧ (kd as0 = 1) ∧ True) (by decide +kernel) ?_ ⟨trivial, trivial, hk_as0, trivial⟩ k
  rfl
theorem BX6_back_15 {d Z L : Nat} {xs : Nat → Int32} {z : Nat} {Φ : Out → T2 → T3 → Nat → Prop} {I : T2} {J : T3} {x1 : Int32} {x2 : Int32} {x3 : Int32} {a4 : Nat}  
    (k : Ev d Z L xs mX6_back 17 [some (.ref 0), some (.int x1), some (.int x2), some (.int x3), some (.ref a4)] [.int 1, .int x3] I J z Φ) : Ev d Z L xs mX6_back 15 [some (.ref 0), some (.int x1), some (.int x2), some (.int x3), some (.ref a4)] [] I J z Φ := by
  refine Ev.blk (ops := [o0 (.iload_n 3) 1, oI (.iconst 1) 1 1]) (G := True ∧ True ∧ True) (by decide +kernel) ?_ ⟨trivial, trivial, trivial⟩ k
  rfl
theorem BX6_back_20 {d Z L : Nat} {xs : Nat → Int32} {z : Nat} {Φ : Out → T2 → T3 → Nat → Prop} {I : T2} {J : T3} {x1 : Int32} {x2 : Int32} {x3 : Int32} {a4 : Nat}  
    (k : Ev d Z L xs mX6_back 24 [some (.ref 0), some (.int x1), some (.int x2), some (.int x3), some (.ref a4)] [.int x2, .ref a4, .int x3] I J z Φ) : Ev d Z L xs mX6_back 20 [some (.ref 0), some (.int x1), some (.int x2), some (.int x3), some (.ref a4)] [] I J z Φ := by
  refine Ev.blk (ops := [o0 (.iload_n 3) 1, o0 (.aload 4) 2, o0 (.iload_n 2) 1]) (G := True ∧ True ∧ True ∧ True) (by decide +kernel) ?_ ⟨trivial, trivial, trivial, trivial⟩ k
  rfl
theorem BX6_back_33 {d Z L : Nat} {xs : Nat → Int32} {z : Nat} {Φ : Out → T2 → T3 → Nat → Prop} {I : T2} {J : T3} {x1 : Int32} {x2 : Int32} {x3 : Int32} {a4 : Nat} {as0 : Nat}  
    (k : Ev d Z L xs mX6_back 34 [some (.ref 0), some (.int x1), some (.int x2), some (.int x3), some (.ref a4)] [.ref as0, .ref as0] I J z Φ) : Ev d Z L xs mX6_back 33 [some (.ref 0), some (.int x1), some (.int x2), some (.int x3), some (.ref a4)] [.ref as0] I J z Φ := by
  refine Ev.blk (ops := [o0 (.dup) 1]) (G := True ∧ True) (by decide +kernel) ?_ ⟨trivial, trivial⟩ k
  rfl
theorem BX6_back_38 {d Z L : Nat} {xs : Nat → Int32} {z : Nat} {Φ : Out → T2 → T3 → Nat → Prop} {I : T2} {J : T3} {x1 : Int32} {x2 : Int32} {x3 : Int32} {a4 : Nat} (hk_a4 : kd a4 = 1) 
    (k : Ev d Z L xs mX6_back 43 [some (.ref 0), some (.int x1), some (.int x2), some (.int x3), some (.ref a4)] [.ref (a4 + 4)] I J z Φ) : Ev d Z L xs mX6_back 38 [some (.ref 0), some (.int x1), some (.int x2), some (.int x3), some (.ref a4)] [] I J z Φ := by
  refine Ev.blk (ops := [o0 (.aload 4) 2, oK (.getfield 134) 3 1 0]) (G := True ∧ (kd a4 = 1) ∧ True) (by decide +kernel) ?_ ⟨trivial, hk_a4, trivial⟩ k
  rfl
theorem BX6_back_46 {d Z L : Nat} {xs : Nat → Int32} {z : Nat} {Φ : Out → T2 → T3 → Nat → Prop} {I : T2} {J : T3} {x1 : Int32} {x2 : Int32} {x3 : Int32} {a4 : Nat}  
    (k : Ev d Z L xs mX6_back 51 [some (.ref 0), some (.int x1), some (.int x2), some (.int x3), some (.ref a4)] [.int (-x3), .int x2, .ref a4] I J z Φ) : Ev d Z L xs mX6_back 46 [some (.ref 0), some (.int x1), some (.int x2), some (.int x3), some (.ref a4)] [] I J z Φ := by
  refine Ev.blk (ops := [o0 (.aload 4) 2, o0 (.iload_n 2) 1, o0 (.iload_n 3) 1, o0 (.ineg) 1]) (G := True ∧ True ∧ True ∧ True ∧ True) (by decide +kernel) ?_ ⟨trivial, trivial, trivial, trivial, trivial⟩ k
  rfl
theorem BX6_back_54 {d Z L : Nat} {xs : Nat → Int32} {z : Nat} {Φ : Out → T2 → T3 → Nat → Prop} {I : T2} {J : T3} {x1 : Int32} {x2 : Int32} {x3 : Int32} {a4 : Nat} (hk_a4 : kd a4 = 1) 
    (k : Ev d Z L xs mX6_back 67 [some (.ref 0), some (.int x1), some (.int x2), some (.int x3), some (.ref a4)] [.int 0, .int x3, .int x2, .int 1, .ref 12, .ref (a4 + 4)] I J z Φ) : Ev d Z L xs mX6_back 54 [some (.ref 0), some (.int x1), some (.int x2), some (.int x3), some (.ref a4)] [] I J z Φ := by
  refine Ev.blk (ops := [o0 (.aload 4) 2, oK (.getfield 134) 3 1 0, o0 (.aload_n 0) 1, oK (.getfield 25) 3 6 2, oI (.iconst 1) 1 1, o0 (.iload_n 2) 1, o0 (.iload_n 3) 1, oI (.iconst 0) 1 0]) (G := True ∧ (kd a4 = 1) ∧ True ∧ (kd 0 = 6) ∧ True ∧ True ∧ True ∧ True ∧ True) (by decide +kernel) ?_ ⟨trivial, hk_a4, trivial, (by decide), trivial, trivial, trivial, trivial, trivial⟩ k
  rfl
theorem BX6_split_0 {d Z L : Nat} {xs : Nat → Int32} {z : Nat} {Φ : Out → T2 → T3 → Nat → Prop} {I : T2} {J : T3}   
    (k : Ev d Z L xs mX6_split 7 [some (.ref 0), none, none] [.int (I 2 6)] I J z Φ) : Ev d Z L xs mX6_split 0 [some (.ref 0), none, none] [] I J z Φ := by
  refine Ev.blk (ops := [o0 (.aload_n 0) 1, oK (.getfield 18) 3 6 1, oK (.getfield 158) 3 2 6]) (G := True ∧ (kd 0 = 6) ∧ (kd 2 = 2) ∧ True) (by decide +kernel) ?_ ⟨trivial, (by decide), (by decide), trivial⟩ k
  rfl
theorem BX6_split_10 {d Z L : Nat} {xs : Nat → Int32} {z : Nat} {Φ : Out → T2 → T3 → Nat → Prop} {I : T2} {J : T3}   
    (k : Ev d Z L xs mX6_split 14 [some (.ref 0), some (.int 0), some (.int (-1))] [] I J z Φ) : Ev d Z L xs mX6_split 10 [some (.ref 0), none, none] [] I J z Φ := by
  refine Ev.blk (ops := [oI (.iconst 0) 1 0, o0 (.istore_n 1) 1, oI (.iconst (-1)) 1 (-1), o0 (.istore_n 2) 1]) (G := True ∧ True ∧ True ∧ True ∧ True) (by decide +kernel) ?_ ⟨trivial, trivial, trivial, trivial, trivial⟩ k
  rfl
theorem BX6_split_14 {d Z L : Nat} {xs : Nat → Int32} {z : Nat} {Φ : Out → T2 → T3 → Nat → Prop} {I : T2} {J : T3} {x1 : Int32} {x2 : Int32}  
    (k : Ev d Z L xs mX6_split 16 [some (.ref 0), some (.int x1), some (.int x2)] [.int 1, .int x2] I J z Φ) : Ev d Z L xs mX6_split 14 [some (.ref 0), some (.int x1), some (.int x2)] [] I J z Φ := by
  refine Ev.blk (ops := [o0 (.iload_n 2) 1, oI (.iconst 1) 1 1]) (G := True ∧ True ∧ True) (by decide +kernel) ?_ ⟨trivial, trivial, trivial⟩ k
  rfl
theorem BX6_split_19 {d Z L : Nat} {xs : Nat → Int32} {z : Nat} {Φ : Out → T2 → T3 → Nat → Prop} {I : T2} {J : T3} {x1 : Int32} {x2 : Int32}  
    (k : Ev d Z L xs mX6_split 30 [some (.ref 0), some (.int x1), some (.int x2)] [.int ((I 2 4) + x2), .ref 0, .int x1] I J z Φ) : Ev d Z L xs mX6_split 19 [some (.ref 0), some (.int x1), some (.int x2)] [] I J z Φ := by
  refine Ev.blk (ops := [o0 (.iload_n 1) 1, o0 (.aload_n 0) 1, o0 (.aload_n 0) 1, oK (.getfield 18) 3 6 1, oK (.getfield 159) 3 2 4, o0 (.iload_n 2) 1, o0 (.iadd) 1]) (G := True ∧ True ∧ True ∧ (kd 0 = 6) ∧ (kd 2 = 2) ∧ True ∧ True ∧ True) (by decide +kernel) ?_ ⟨trivial, trivial, trivial, (by decide), (by decide), trivial, trivial, trivial⟩ k
  rfl
theorem BX6_split_33 {d Z L : Nat} {xs : Nat → Int32} {z : Nat} {Φ : Out → T2 → T3 → Nat → Prop} {I : T2} {J : T3} {x1 : Int32} {x2 : Int32} {xs0 : Int32} {xs1 : Int32}  
    (k : Ev d Z L xs mX6_split 14 [some (.ref 0), some (.int (xs0 + xs1)), some (.int (x2 + 1))] [] I J z Φ) : Ev d Z L xs mX6_split 33 [some (.ref 0), some (.int x1), some (.int x2)] [.int xs1, .int xs0] I J z Φ := by
  refine Ev.blk (ops := [o0 (.iadd) 1, o0 (.istore_n 1) 1, oI (.iinc 2 1) 3 1, oK (.goto (-24)) 3 14 0]) (G := True ∧ True ∧ True ∧ True ∧ True) (by decide +kernel) ?_ ⟨trivial, trivial, trivial, trivial, trivial⟩ k
  rfl
theorem BX6_split_41 {d Z L : Nat} {xs : Nat → Int32} {z : Nat} {Φ : Out → T2 → T3 → Nat → Prop} {I : T2} {J : T3} {x1 : Int32} {x2 : Int32}  
    (k : Ev d Z L xs mX6_split 45 [some (.ref 0), some (.int x1), some (.int x2)] [.ref 2] I J z Φ) : Ev d Z L xs mX6_split 41 [some (.ref 0), some (.int x1), some (.int x2)] [] I J z Φ := by
  refine Ev.blk (ops := [o0 (.aload_n 0) 1, oK (.getfield 18) 3 6 1]) (G := True ∧ (kd 0 = 6) ∧ True) (by decide +kernel) ?_ ⟨trivial, (by decide), trivial⟩ k
  rfl
theorem BX6_split_48 {d Z L : Nat} {xs : Nat → Int32} {z : Nat} {Φ : Out → T2 → T3 → Nat → Prop} {I : T2} {J : T3} {x1 : Int32} {x2 : Int32}  
    (k : Ev d Z L xs mX6_split 49 [some (.ref 0), some (.int x1), some (.int x2)] [.int x1] I J z Φ) : Ev d Z L xs mX6_split 48 [some (.ref 0), some (.int x1), some (.int x2)] [] I J z Φ := by
  refine Ev.blk (ops := [o0 (.iload_n 1) 1]) (G := True ∧ True) (by decide +kernel) ?_ ⟨trivial, trivial⟩ k
  rfl
theorem BX6_shareOut_0 {d Z L : Nat} {xs : Nat → Int32} {z : Nat} {Φ : Out → T2 → T3 → Nat → Prop} {I : T2} {J : T3} {x1 : Int32}  
    (k : Ev d Z L xs mX6_shareOut 8 [some (.ref 0), some (.int x1), none, none, none] [.int (I 2 4), .int x1] I J z Φ) : Ev d Z L xs mX6_shareOut 0 [some (.ref 0), some (.int x1), none, none, none] [] I J z Φ := by
  refine Ev.blk (ops := [o0 (.iload_n 1) 1, o0 (.aload_n 0) 1, oK (.getfield 18) 3 6 1, oK (.getfield 159) 3 2 4]) (G := True ∧ True ∧ (kd 0 = 6) ∧ (kd 2 = 2) ∧ True) (by decide +kernel) ?_ ⟨trivial, trivial, (by decide), (by decide), trivial⟩ k
  rfl
theorem BX6_shareOut_11 {d Z L : Nat} {xs : Nat → Int32} {z : Nat} {Φ : Out → T2 → T3 → Nat → Prop} {I : T2} {J : T3} {x1 : Int32} {xs0 : Int32}  
    (k : Ev d Z L xs mX6_shareOut 14 [some (.ref 0), some (.int x1), some (.int xs0), none, none] [.int (-1), .int xs0] I J z Φ) : Ev d Z L xs mX6_shareOut 11 [some (.ref 0), some (.int x1), none, none, none] [.int xs0] I J z Φ := by
  refine Ev.blk (ops := [o0 (.istore_n 2) 1, o0 (.iload_n 2) 1, oI (.iconst (-1)) 1 (-1)]) (G := True ∧ True ∧ True ∧ True) (by decide +kernel) ?_ ⟨trivial, trivial, trivial, trivial⟩ k
  rfl
theorem BX6_shareOut_17 {d Z L : Nat} {xs : Nat → Int32} {z : Nat} {Φ : Out → T2 → T3 → Nat → Prop} {I : T2} {J : T3} {x1 : Int32} {x2 : Int32}  
    (k : Ev d Z L xs mX6_shareOut 18 [some (.ref 0), some (.int x1), some (.int x2), none, none] [.int 0] I J z Φ) : Ev d Z L xs mX6_shareOut 17 [some (.ref 0), some (.int x1), some (.int x2), none, none] [] I J z Φ := by
  refine Ev.blk (ops := [oI (.iconst 0) 1 0]) (G := True ∧ True) (by decide +kernel) ?_ ⟨trivial, trivial⟩ k
  rfl
theorem BX6_shareOut_19 {d Z L : Nat} {xs : Nat → Int32} {z : Nat} {Φ : Out → T2 → T3 → Nat → Prop} {I : T2} {J : T3} {x1 : Int32} {x2 : Int32}  (g1 : vp_in x2 3)
    (k : Ev d Z L xs mX6_shareOut 32 [some (.ref 0), some (.int x1), some (.int x2), none, none] [.int (I 3 x2.toNatClampNeg), .ref 14] I J z Φ) : Ev d Z L xs mX6_shareOut 19 [some (.ref 0), some (.int x1), some (.int x2), none, none] [] I J z Φ := by
  refine Ev.blk (ops := [o0 (.aload_n 0) 1, oK (.getfield 32) 3 6 3, o0 (.aload_n 0) 1, oK (.getfield 18) 3 6 1, oK (.getfield 170) 3 2 0, o0 (.iload_n 2) 1, o0 (.iaload) 1]) (G := True ∧ (kd 0 = 6) ∧ True ∧ (kd 0 = 6) ∧ (kd 2 = 2) ∧ True ∧ (kd 3 = 8 ∧ vp_in x2 (ln 3)) ∧ True) (by decide +kernel) ?_ ⟨trivial, (by decide), trivial, (by decide), (by decide), trivial, ⟨(by decide), g1⟩, trivial⟩ k
  rfl
theorem BX6_shareOut_35 {d Z L : Nat} {xs : Nat → Int32} {z : Nat} {Φ : Out → T2 → T3 → Nat → Prop} {I : T2} {J : T3} {x1 : Int32} {x2 : Int32}  
    (k : Ev d Z L xs mX6_shareOut 37 [some (.ref 0), some (.int x1), some (.int x2), some (.int 0), none] [] I J z Φ) : Ev d Z L xs mX6_shareOut 35 [some (.ref 0), some (.int x1), some (.int x2), none, none] [] I J z Φ := by
  refine Ev.blk (ops := [oI (.iconst 0) 1 0, o0 (.istore_n 3) 1]) (G := True ∧ True ∧ True) (by decide +kernel) ?_ ⟨trivial, trivial, trivial⟩ k
  rfl
theorem BX6_shareOut_37 {d Z L : Nat} {xs : Nat → Int32} {z : Nat} {Φ : Out → T2 → T3 → Nat → Prop} {I : T2} {J : T3} {x1 : Int32} {x2 : Int32} {x3 : Int32}  
    (k : Ev d Z L xs mX6_shareOut 42 [some (.ref 0), some (.int x1), some (.int x2), some (.int x3), none] [.int (I 0 7), .int x3] I J z Φ) : Ev d Z L xs mX6_shareOut 37 [some (.ref 0), some (.int x1), some (.int x2), some (.int x3), none] [] I J z Φ := by
  refine Ev.blk (ops := [o0 (.iload_n 3) 1, o0 (.aload_n 0) 1, oK (.getfield 63) 3 6 7]) (G := True ∧ True ∧ (kd 0 = 6) ∧ True) (by decide +kernel) ?_ ⟨trivial, trivial, (by decide), trivial⟩ k
  rfl
theorem BX6_shareOut_45 {d Z L : Nat} {xs : Nat → Int32} {z : Nat} {Φ : Out → T2 → T3 → Nat → Prop} {I : T2} {J : T3} {x1 : Int32} {x2 : Int32} {x3 : Int32}  (g1 : vp_in x3 8)
    (k : Ev d Z L xs mX6_shareOut 54 [some (.ref 0), some (.int x1), some (.int x2), some (.int x3), none] [.ref ((24 + 14 * x3.toNatClampNeg) + 9)] I J z Φ) : Ev d Z L xs mX6_shareOut 45 [some (.ref 0), some (.int x1), some (.int x2), some (.int x3), none] [] I J z Φ := by
  refine Ev.blk (ops := [o0 (.aload_n 0) 1, oK (.getfield 11) 3 6 0, o0 (.iload_n 3) 1, oK (.aaload) 1 11 0, oK (.getfield 174) 3 1 1]) (G := True ∧ (kd 0 = 6) ∧ True ∧ (kd 1 = 11 ∧ vp_in x3 (ln 1)) ∧ (kd (24 + 14 * x3.toNatClampNeg) = 1) ∧ True) (by decide +kernel) ?_ ⟨trivial, (by decide), trivial, ⟨(by decide), g1⟩, (kgt (vp_lt g1)), trivial⟩ k
  rfl
theorem BX6_shareOut_60 {d Z L : Nat} {xs : Nat → Int32} {z : Nat} {Φ : Out → T2 → T3 → Nat → Prop} {I : T2} {J : T3} {x1 : Int32} {x2 : Int32} {x3 : Int32}  (g1 : vp_in x2 3) (g2 : vp_in x3 8)
    (k : Ev d Z L xs mX6_shareOut 87 [some (.ref 0), some (.int x1), some (.int x2), some (.int x3), none] [.int (I (8 + 1 + x2.toNatClampNeg) x3.toNatClampNeg), .int (I (4 + 1 + x2.toNatClampNeg) x3.toNatClampNeg), .int x3, .ref 14] I J z Φ) : Ev d Z L xs mX6_shareOut 60 [some (.ref 0), some (.int x1), some (.int x2), some (.int x3), none] [] I J z Φ := by
  refine Ev.blk (ops := [o0 (.aload_n 0) 1, oK (.getfield 32) 3 6 3, o0 (.iload_n 3) 1, o0 (.aload_n 0) 1, oK (.getfield 18) 3 6 1, oK (.getfield 181) 3 2 1, o0 (.iload_n 2) 1, oK (.aaload) 1 12 0, o0 (.iload_n 3) 1, o0 (.iaload) 1, o0 (.aload_n 0) 1, oK (.getfield 18) 3 6 1, oK (.getfield 185) 3 2 2, o0 (.iload_n 2) 1, oK (.aaload) 1 12 0, o0 (.iload_n 3) 1, o0 (.iaload) 1]) (G := True ∧ (kd 0 = 6) ∧ True ∧ True ∧ (kd 0 = 6) ∧ (kd 2 = 2) ∧ True ∧ (kd 4 = 12 ∧ vp_in x2 (ln 4)) ∧ True ∧ (kd (4 + 1 + x2.toNatClampNeg) = 8 ∧ vp_in x3 (ln (4 + 1 + x2.toNatClampNeg))) ∧ True ∧ (kd 0 = 6) ∧ (kd 2 = 2) ∧ True ∧ (kd 8 = 12 ∧ vp_in x2 (ln 8)) ∧ True ∧ (kd (8 + 1 + x2.toNatClampNeg) = 8 ∧ vp_in x3 (ln (8 + 1 + x2.toNatClampNeg))) ∧ True) (by decide +kernel) ?_ ⟨trivial, (by decide), trivial, trivial, (by decide), (by decide), trivial, ⟨(by decide), g1⟩, trivial, ⟨(kr4 (vp_lt g1)), (ln_to (lr4 (vp_lt g1)) g2)⟩, trivial, (by decide), (by decide), trivial, ⟨(by decide), g1⟩, trivial, ⟨(kr8 (vp_lt g1)), (ln_to (lr8 (vp_lt g1)) g2)⟩, trivial⟩ k
  rfl
theorem BX6_shareOut_90 {d Z L : Nat} {xs : Nat → Int32} {z : Nat} {Φ : Out → T2 → T3 → Nat → Prop} {I : T2} {J : T3} {x1 : Int32} {x2 : Int32} {x3 : Int32}  
    (k : Ev d Z L xs mX6_shareOut 37 [some (.ref 0), some (.int x1), some (.int x2), some (.int (x3 + 1)), none] [] I J z Φ) : Ev d Z L xs mX6_shareOut 90 [some (.ref 0), some (.int x1), some (.int x2), some (.int x3), none] [] I J z Φ := by
  refine Ev.blk (ops := [oI (.iinc 3 1) 3 1, oK (.goto (-56)) 3 37 0]) (G := True ∧ True ∧ True) (by decide +kernel) ?_ ⟨trivial, trivial, trivial⟩ k
  rfl
theorem BX6_shareOut_96 {d Z L : Nat} {xs : Nat → Int32} {z : Nat} {Φ : Out → T2 → T3 → Nat → Prop} {I : T2} {J : T3} {x1 : Int32} {x2 : Int32} {x3 : Int32}  
    (k : Ev d Z L xs mX6_shareOut 104 [some (.ref 0), some (.int x1), some (.int x2), some (.int x3), none] [.int 2, .int (I 2 5)] I J z Φ) : Ev d Z L xs mX6_shareOut 96 [some (.ref 0), some (.int x1), some (.int x2), some (.int x3), none] [] I J z Φ := by
  refine Ev.blk (ops := [o0 (.aload_n 0) 1, oK (.getfield 18) 3 6 1, oK (.getfield 109) 3 2 5, oI (.iconst 2) 1 2]) (G := True ∧ (kd 0 = 6) ∧ (kd 2 = 2) ∧ True ∧ True) (by decide +kernel) ?_ ⟨trivial, (by decide), (by decide), trivial, trivial⟩ k
  rfl
theorem BX6_shareOut_107 {d Z L : Nat} {xs : Nat → Int32} {z : Nat} {Φ : Out → T2 → T3 → Nat → Prop} {I : T2} {J : T3} {x1 : Int32} {x2 : Int32} {x3 : Int32}  
    (k : Ev d Z L xs mX6_shareOut 111 [some (.ref 0), some (.int x1), some (.int x2), some (.int x3), none] [.ref 14] I J z Φ) : Ev d Z L xs mX6_shareOut 107 [some (.ref 0), some (.int x1), some (.int x2), some (.int x3), none] [] I J z Φ := by
  refine Ev.blk (ops := [o0 (.aload_n 0) 1, oK (.getfield 32) 3 6 3]) (G := True ∧ (kd 0 = 6) ∧ True) (by decide +kernel) ?_ ⟨trivial, (by decide), trivial⟩ k
  rfl
theorem BX6_shareOut_114 {d Z L : Nat} {xs : Nat → Int32} {z : Nat} {Φ : Out → T2 → T3 → Nat → Prop} {I : T2} {J : T3} {x1 : Int32} {x2 : Int32} {x3 : Int32}  
    (k : Ev d Z L xs mX6_shareOut 124 [some (.ref 0), some (.int x1), some (.int x2), some (.int x3), none] [] I J z Φ) : Ev d Z L xs mX6_shareOut 114 [some (.ref 0), some (.int x1), some (.int x2), some (.int x3), none] [] I J z Φ := by
  refine Ev.blk (ops := [oK (.goto 10) 3 124 0]) (G := True ∧ True) (by decide +kernel) ?_ ⟨trivial, trivial⟩ k
  rfl
theorem BX6_shareOut_117 {d Z L : Nat} {xs : Nat → Int32} {z : Nat} {Φ : Out → T2 → T3 → Nat → Prop} {I : T2} {J : T3} {x1 : Int32} {x2 : Int32} {x3 : Int32}  
    (k : Ev d Z L xs mX6_shareOut 121 [some (.ref 0), some (.int x1), some (.int x2), some (.int x3), none] [.ref 14] I J z Φ) : Ev d Z L xs mX6_shareOut 117 [some (.ref 0), some (.int x1), some (.int x2), some (.int x3), none] [] I J z Φ := by
  refine Ev.blk (ops := [o0 (.aload_n 0) 1, oK (.getfield 32) 3 6 3]) (G := True ∧ (kd 0 = 6) ∧ True) (by decide +kernel) ?_ ⟨trivial, (by decide), trivial⟩ k
  rfl
theorem BX6_shareOut_124 {d Z L : Nat} {xs : Nat → Int32} {z : Nat} {Φ : Out → T2 → T3 → Nat → Prop} {I : T2} {J : T3} {x1 : Int32} {x2 : Int32} {x3 : Int32}  
    (k : Ev d Z L xs mX6_shareOut 129 [some (.ref 0), some (.int x1), some (.int x2), some (.int 0), some (.int 0)] [] I J z Φ) : Ev d Z L xs mX6_shareOut 124 [some (.ref 0), some (.int x1), some (.int x2), some (.int x3), none] [] I J z Φ := by
  refine Ev.blk (ops := [oI (.iconst 0) 1 0, o0 (.istore_n 3) 1, oI (.iconst 0) 1 0, o0 (.istore 4) 2]) (G := True ∧ True ∧ True ∧ True ∧ True) (by decide +kernel) ?_ ⟨trivial, trivial, trivial, trivial, trivial⟩ k
  rfl
theorem BX6_shareOut_129 {d Z L : Nat} {xs : Nat → Int32} {z : Nat} {Φ : Out → T2 → T3 → Nat → Prop} {I : T2} {J : T3} {x1 : Int32} {x2 : Int32} {x3 : Int32} {x4 : Int32}  
    (k : Ev d Z L xs mX6_shareOut 135 [some (.ref 0), some (.int x1), some (.int x2), some (.int x3), some (.int x4)] [.int (I 0 7), .int x4] I J z Φ) : Ev d Z L xs mX6_shareOut 129 [some (.ref 0), some (.int x1), some (.int x2), some (.int x3), some (.int x4)] [] I J z Φ := by
  refine Ev.blk (ops := [o0 (.iload 4) 2, o0 (.aload_n 0) 1, oK (.getfield 63) 3 6 7]) (G := True ∧ True ∧ (kd 0 = 6) ∧ True) (by decide +kernel) ?_ ⟨trivial, trivial, (by decide), trivial⟩ k
  rfl
theorem BX6_shareOut_138 {d Z L : Nat} {xs : Nat → Int32} {z : Nat} {Φ : Out → T2 → T3 → Nat → Prop} {I : T2} {J : T3} {x1 : Int32} {x2 : Int32} {x3 : Int32} {x4 : Int32}  (g1 : vp_in x4 8)
    (k : Ev d Z L xs mX6_shareOut 158 [some (.ref 0), some (.int x1), some (.int x2), some (.int x3), some (.int x4)] [.int (I 17 x4.toNatClampNeg), .int x1, .ref (24 + 14 * x4.toNatClampNeg), .ref 0, .int x3] I J z Φ) : Ev d Z L xs mX6_shareOut 138 [some (.ref 0), some (.int x1), some (.int x2), some (.int x3), some (.int x4)] [] I J z Φ := by
  refine Ev.blk (ops := [o0 (.iload_n 3) 1, o0 (.aload_n 0) 1, o0 (.aload_n 0) 1, oK (.getfield 11) 3 6 0, o0 (.iload 4) 2, oK (.aaload) 1 11 0, o0 (.iload_n 1) 1, o0 (.aload_n 0) 1, oK (.getfield 32) 3 6 3, oK (.getfield 198) 3 4 2, o0 (.iload 4) 2, o0 (.iaload) 1]) (G := True ∧ True ∧ True ∧ (kd 0 = 6) ∧ True ∧ (kd 1 = 11 ∧ vp_in x4 (ln 1)) ∧ True ∧ True ∧ (kd 0 = 6) ∧ (kd 14 = 4) ∧ True ∧ (kd 17 = 8 ∧ vp_in x4 (ln 17)) ∧ True) (by decide +kernel) ?_ ⟨trivial, trivial, trivial, (by decide), trivial, ⟨(by decide), g1⟩, trivial, trivial, (by decide), (by decide), trivial, ⟨(by decide), g1⟩, trivial⟩ k
  rfl
theorem BX6_shareOut_161 {d Z L : Nat} {xs : Nat → Int32} {z : Nat} {Φ : Out → T2 → T3 → Nat → Prop} {I : T2} {J : T3} {x1 : Int32} {x2 : Int32} {x3 : Int32} {x4 : Int32} {xs0 : Int32} {xs1 : Int32}  
    (k : Ev d Z L xs mX6_shareOut 129 [some (.ref 0), some (.int x1), some (.int x2), some (.int (xs0 + xs1)), some (.int (x4 + 1))] [] I J z Φ) : Ev d Z L xs mX6_shareOut 161 [some (.ref 0), some (.int x1), some (.int x2), some (.int x3), some (.int x4)] [.int xs1, .int xs0] I J z Φ := by
  refine Ev.blk (ops := [o0 (.iadd) 1, o0 (.istore_n 3) 1, oI (.iinc 4 1) 3 1, oK (.goto (-37)) 3 129 0]) (G := True ∧ True ∧ True ∧ True ∧ True) (by decide +kernel) ?_ ⟨trivial, trivial, trivial, trivial, trivial⟩ k
  rfl
theorem BX6_shareOut_169 {d Z L : Nat} {xs : Nat → Int32} {z : Nat} {Φ : Out → T2 → T3 → Nat → Prop} {I : T2} {J : T3} {x1 : Int32} {x2 : Int32} {x3 : Int32} {x4 : Int32}  
    (k : Ev d Z L xs mX6_shareOut 170 [some (.ref 0), some (.int x1), some (.int x2), some (.int x3), some (.int x4)] [.int x3] I J z Φ) : Ev d Z L xs mX6_shareOut 169 [some (.ref 0), some (.int x1), some (.int x2), some (.int x3), some (.int x4)] [] I J z Φ := by
  refine Ev.blk (ops := [o0 (.iload_n 3) 1]) (G := True ∧ True) (by decide +kernel) ?_ ⟨trivial, trivial⟩ k
  rfl
theorem BX6_grant_0 {d Z L : Nat} {xs : Nat → Int32} {z : Nat} {Φ : Out → T2 → T3 → Nat → Prop} {I : T2} {J : T3} {a1 : Nat} {x2 : Int32} {x3 : Int32}  
    (k : Ev d Z L xs mX6_grant 1 [some (.ref 0), some (.ref a1), some (.int x2), some (.int x3)] [.int x3] I J z Φ) : Ev d Z L xs mX6_grant 0 [some (.ref 0), some (.ref a1), some (.int x2), some (.int x3)] [] I J z Φ := by
  refine Ev.blk (ops := [o0 (.iload_n 3) 1]) (G := True ∧ True) (by decide +kernel) ?_ ⟨trivial, trivial⟩ k
  rfl
theorem BX6_grant_4 {d Z L : Nat} {xs : Nat → Int32} {z : Nat} {Φ : Out → T2 → T3 → Nat → Prop} {I : T2} {J : T3} {a1 : Nat} {x2 : Int32} {x3 : Int32}  
    (k : Ev d Z L xs mX6_grant 11 [some (.ref 0), some (.ref a1), some (.int x2), some (.int x3)] [.int (-x3), .int x2, .ref 2] I J z Φ) : Ev d Z L xs mX6_grant 4 [some (.ref 0), some (.ref a1), some (.int x2), some (.int x3)] [] I J z Φ := by
  refine Ev.blk (ops := [o0 (.aload_n 0) 1, oK (.getfield 18) 3 6 1, o0 (.iload_n 2) 1, o0 (.iload_n 3) 1, o0 (.ineg) 1]) (G := True ∧ (kd 0 = 6) ∧ True ∧ True ∧ True ∧ True) (by decide +kernel) ?_ ⟨trivial, (by decide), trivial, trivial, trivial, trivial⟩ k
  rfl
theorem BX6_grant_14 {d Z L : Nat} {xs : Nat → Int32} {z : Nat} {Φ : Out → T2 → T3 → Nat → Prop} {I : T2} {J : T3} {a1 : Nat} {x2 : Int32} {x3 : Int32} (hk_a1 : kd a1 = 1) 
    (k : Ev d Z L xs mX6_grant 26 [some (.ref 0), some (.ref a1), some (.int x2), some (.int x3)] [.int 0, .int x3, .int x2, .int 2, .ref 12, .ref (a1 + 9)] I J z Φ) : Ev d Z L xs mX6_grant 14 [some (.ref 0), some (.ref a1), some (.int x2), some (.int x3)] [] I J z Φ := by
  refine Ev.blk (ops := [o0 (.aload_n 1) 1, oK (.getfield 174) 3 1 1, o0 (.aload_n 0) 1, oK (.getfield 25) 3 6 2, oI (.iconst 2) 1 2, o0 (.iload_n 2) 1, o0 (.iload_n 3) 1, oI (.iconst 0) 1 0]) (G := True ∧ (kd a1 = 1) ∧ True ∧ (kd 0 = 6) ∧ True ∧ True ∧ True ∧ True ∧ True) (by decide +kernel) ?_ ⟨trivial, hk_a1, trivial, (by decide), trivial, trivial, trivial, trivial, trivial⟩ k
  rfl
theorem BX6_grant_29 {d Z L : Nat} {xs : Nat → Int32} {z : Nat} {Φ : Out → T2 → T3 → Nat → Prop} {I : T2} {J : T3} {a1 : Nat} {x2 : Int32} {x3 : Int32}  
    (k : Ev d Z L xs mX6_grant 30 [some (.ref 0), some (.ref a1), some (.int x2), some (.int x3)] [.int x3] I J z Φ) : Ev d Z L xs mX6_grant 29 [some (.ref 0), some (.ref a1), some (.int x2), some (.int x3)] [] I J z Φ := by
  refine Ev.blk (ops := [o0 (.iload_n 3) 1]) (G := True ∧ True) (by decide +kernel) ?_ ⟨trivial, trivial⟩ k
  rfl
theorem BX6_deliver_0 {d Z L : Nat} {xs : Nat → Int32} {z : Nat} {Φ : Out → T2 → T3 → Nat → Prop} {I : T2} {J : T3} {x1 : Int32}  
    (k : Ev d Z L xs mX6_deliver 2 [some (.ref 0), some (.int x1)] [.int x1, .ref 0] I J z Φ) : Ev d Z L xs mX6_deliver 0 [some (.ref 0), some (.int x1)] [] I J z Φ := by
  refine Ev.blk (ops := [o0 (.aload_n 0) 1, o0 (.iload_n 1) 1]) (G := True ∧ True ∧ True) (by decide +kernel) ?_ ⟨trivial, trivial, trivial⟩ k
  rfl
theorem BX6_deliver_5 {d Z L : Nat} {xs : Nat → Int32} {z : Nat} {Φ : Out → T2 → T3 → Nat → Prop} {I : T2} {J : T3} {x1 : Int32}  
    (k : Ev d Z L xs mX6_deliver 7 [some (.ref 0), some (.int x1)] [.int x1, .ref 0] I J z Φ) : Ev d Z L xs mX6_deliver 5 [some (.ref 0), some (.int x1)] [] I J z Φ := by
  refine Ev.blk (ops := [o0 (.aload_n 0) 1, o0 (.iload_n 1) 1]) (G := True ∧ True ∧ True) (by decide +kernel) ?_ ⟨trivial, trivial, trivial⟩ k
  rfl
theorem BX6_mustHaveLetter_0 {d Z L : Nat} {xs : Nat → Int32} {z : Nat} {Φ : Out → T2 → T3 → Nat → Prop} {I : T2} {J : T3} {x1 : Int32}  
    (k : Ev d Z L xs mX6_mustHaveLetter 1 [some (.ref 0), some (.int x1)] [.int x1] I J z Φ) : Ev d Z L xs mX6_mustHaveLetter 0 [some (.ref 0), some (.int x1)] [] I J z Φ := by
  refine Ev.blk (ops := [o0 (.iload_n 1) 1]) (G := True ∧ True) (by decide +kernel) ?_ ⟨trivial, trivial⟩ k
  rfl
theorem BX6_mustHaveLetter_4 {d Z L : Nat} {xs : Nat → Int32} {z : Nat} {Φ : Out → T2 → T3 → Nat → Prop} {I : T2} {J : T3} {x1 : Int32}  
    (k : Ev d Z L xs mX6_mustHaveLetter 12 [some (.ref 0), some (.int x1)] [.int (I 12 2), .int x1] I J z Φ) : Ev d Z L xs mX6_mustHaveLetter 4 [some (.ref 0), some (.int x1)] [] I J z Φ := by
  refine Ev.blk (ops := [o0 (.iload_n 1) 1, o0 (.aload_n 0) 1, oK (.getfield 25) 3 6 2, oK (.getfield 214) 3 3 2]) (G := True ∧ True ∧ (kd 0 = 6) ∧ (kd 12 = 3) ∧ True) (by decide +kernel) ?_ ⟨trivial, trivial, (by decide), (by decide), trivial⟩ k
  rfl
theorem BX6_mustHaveLetter_18 {d Z L : Nat} {xs : Nat → Int32} {z : Nat} {Φ : Out → T2 → T3 → Nat → Prop} {I : T2} {J : T3} {x1 : Int32} {as0 : Nat}  
    (k : Ev d Z L xs mX6_mustHaveLetter 19 [some (.ref 0), some (.int x1)] [.ref as0, .ref as0] I J z Φ) : Ev d Z L xs mX6_mustHaveLetter 18 [some (.ref 0), some (.int x1)] [.ref as0] I J z Φ := by
  refine Ev.blk (ops := [o0 (.dup) 1]) (G := True ∧ True) (by decide +kernel) ?_ ⟨trivial, trivial⟩ k
  rfl
theorem BX6_bring_0 {d Z L : Nat} {xs : Nat → Int32} {z : Nat} {Φ : Out → T2 → T3 → Nat → Prop} {I : T2} {J : T3} {x1 : Int32}  
    (k : Ev d Z L xs mX6_bring 9 [some (.ref 0), some (.int x1), none] [.ref 23, .int x1, .ref 12] I J z Φ) : Ev d Z L xs mX6_bring 0 [some (.ref 0), some (.int x1), none] [] I J z Φ := by
  refine Ev.blk (ops := [o0 (.aload_n 0) 1, oK (.getfield 25) 3 6 2, o0 (.iload_n 1) 1, o0 (.aload_n 0) 1, oK (.getfield 47) 3 6 6]) (G := True ∧ (kd 0 = 6) ∧ True ∧ True ∧ (kd 0 = 6) ∧ True) (by decide +kernel) ?_ ⟨trivial, (by decide), trivial, trivial, (by decide), trivial⟩ k
  rfl
theorem BX6_bring_12 {d Z L : Nat} {xs : Nat → Int32} {z : Nat} {Φ : Out → T2 → T3 → Nat → Prop} {I : T2} {J : T3} {x1 : Int32}  
    (k : Ev d Z L xs mX6_bring 17 [some (.ref 0), some (.int x1), none] [.int x1, .ref 12] I J z Φ) : Ev d Z L xs mX6_bring 12 [some (.ref 0), some (.int x1), none] [] I J z Φ := by
  refine Ev.blk (ops := [o0 (.aload_n 0) 1, oK (.getfield 25) 3 6 2, o0 (.iload_n 1) 1]) (G := True ∧ (kd 0 = 6) ∧ True ∧ True) (by decide +kernel) ?_ ⟨trivial, (by decide), trivial, trivial⟩ k
  rfl
theorem BX6_bring_20 {d Z L : Nat} {xs : Nat → Int32} {z : Nat} {Φ : Out → T2 → T3 → Nat → Prop} {I : T2} {J : T3} {x1 : Int32}  (g1 : vp_in 1 6) (g2 : vp_in (I 23 (1 : Int32).toNatClampNeg) 8) (g3 : vp_in 0 6)
    (k : Ev d Z L xs mX6_bring 38 [some (.ref 0), some (.int x1), some (.ref (24 + 14 * (I 23 (1 : Int32).toNatClampNeg).toNatClampNeg))] [.int (I 23 (0 : Int32).toNatClampNeg)] I J z Φ) : Ev d Z L xs mX6_bring 20 [some (.ref 0), some (.int x1), none] [] I J z Φ := by
  refine Ev.blk (ops := [o0 (.aload_n 0) 1, oK (.getfield 11) 3 6 0, o0 (.aload_n 0) 1, oK (.getfield 47) 3 6 6, oI (.iconst 1) 1 1, o0 (.iaload) 1, oK (.aaload) 1 11 0, o0 (.astore_n 2) 1, o0 (.aload_n 0) 1, oK (.getfield 47) 3 6 6, oI (.iconst 0) 1 0, o0 (.iaload) 1]) (G := True ∧ (kd 0 = 6) ∧ True ∧ (kd 0 = 6) ∧ True ∧ (kd 23 = 8 ∧ vp_in 1 (ln 23)) ∧ (kd 1 = 11 ∧ vp_in (I 23 (1 : Int32).toNatClampNeg) (ln 1)) ∧ True ∧ True ∧ (kd 0 = 6) ∧ True ∧ (kd 23 = 8 ∧ vp_in 0 (ln 23)) ∧ True) (by decide +kernel) ?_ ⟨trivial, (by decide), trivial, (by decide), trivial, ⟨(by decide), g1⟩, ⟨(by decide), g2⟩, trivial, trivial, (by decide), trivial, ⟨(by decide), g3⟩, trivial⟩ k
  rfl
theorem BX6_bring_64 {d Z L : Nat} {xs : Nat → Int32} {z : Nat} {Φ : Out → T2 → T3 → Nat → Prop} {I : T2} {J : T3} {x1 : Int32} {a2 : Nat}  
    (k : Ev d Z L xs mX6_bring 66 [some (.ref 0), some (.int x1), some (.ref a2)] [.ref a2, .ref 0] I J z Φ) : Ev d Z L xs mX6_bring 64 [some (.ref 0), some (.int x1), some (.ref a2)] [] I J z Φ := by
  refine Ev.blk (ops := [o0 (.aload_n 0) 1, o0 (.aload_n 2) 1]) (G := True ∧ True ∧ True) (by decide +kernel) ?_ ⟨trivial, trivial, trivial⟩ k
  rfl
theorem BX6_bring_70 {d Z L : Nat} {xs : Nat → Int32} {z : Nat} {Φ : Out → T2 → T3 → Nat → Prop} {I : T2} {J : T3} {x1 : Int32} {a2 : Nat} (hk_a2 : kd a2 = 1) 
    (k : Ev d Z L xs mX6_bring 79 [some (.ref 0), some (.int x1), some (.ref a2)] [.ref (a2 + 4), .int (I a2 8), .ref 0] I J z Φ) : Ev d Z L xs mX6_bring 70 [some (.ref 0), some (.int x1), some (.ref a2)] [] I J z Φ := by
  refine Ev.blk (ops := [o0 (.aload_n 0) 1, o0 (.aload_n 2) 1, oK (.getfield 112) 3 1 8, o0 (.aload_n 2) 1, oK (.getfield 134) 3 1 0]) (G := True ∧ True ∧ (kd a2 = 1) ∧ True ∧ (kd a2 = 1) ∧ True) (by decide +kernel) ?_ ⟨trivial, trivial, hk_a2, trivial, hk_a2, trivial⟩ k
  rfl
theorem BX6_bring_83 {d Z L : Nat} {xs : Nat → Int32} {z : Nat} {Φ : Out → T2 → T3 → Nat → Prop} {I : T2} {J : T3} {x1 : Int32} {a2 : Nat} (hk_a2 : kd a2 = 1) 
    (k : Ev d Z L xs mX6_bring 95 [some (.ref 0), some (.int x1), some (.ref a2)] [.ref (a2 + 9), .int (I 2 6), .ref 0] I J z Φ) : Ev d Z L xs mX6_bring 83 [some (.ref 0), some (.int x1), some (.ref a2)] [] I J z Φ := by
  refine Ev.blk (ops := [o0 (.aload_n 0) 1, o0 (.aload_n 0) 1, oK (.getfield 18) 3 6 1, oK (.getfield 158) 3 2 6, o0 (.aload_n 2) 1, oK (.getfield 174) 3 1 1]) (G := True ∧ True ∧ (kd 0 = 6) ∧ (kd 2 = 2) ∧ True ∧ (kd a2 = 1) ∧ True) (by decide +kernel) ?_ ⟨trivial, trivial, (by decide), (by decide), trivial, hk_a2, trivial⟩ k
  rfl
theorem BX6_bring_99 {d Z L : Nat} {xs : Nat → Int32} {z : Nat} {Φ : Out → T2 → T3 → Nat → Prop} {I : T2} {J : T3} {x1 : Int32} {a2 : Nat}  
    (k : Ev d Z L xs mX6_bring 101 [some (.ref 0), some (.int x1), some (.ref a2)] [.ref a2, .ref 0] I J z Φ) : Ev d Z L xs mX6_bring 99 [some (.ref 0), some (.int x1), some (.ref a2)] [] I J z Φ := by
  refine Ev.blk (ops := [o0 (.aload_n 0) 1, o0 (.aload_n 2) 1]) (G := True ∧ True ∧ True) (by decide +kernel) ?_ ⟨trivial, trivial, trivial⟩ k
  rfl
theorem BX6_comeToGate_0 {d Z L : Nat} {xs : Nat → Int32} {z : Nat} {Φ : Out → T2 → T3 → Nat → Prop} {I : T2} {J : T3} {a1 : Nat} (hk_a1 : kd a1 = 1) 
    (k : Ev d Z L xs mX6_comeToGate 4 [some (.ref 0), some (.ref a1), none] [.int (I a1 8)] I J z Φ) : Ev d Z L xs mX6_comeToGate 0 [some (.ref 0), some (.ref a1), none] [] I J z Φ := by
  refine Ev.blk (ops := [o0 (.aload_n 1) 1, oK (.getfield 112) 3 1 8]) (G := True ∧ (kd a1 = 1) ∧ True) (by decide +kernel) ?_ ⟨trivial, hk_a1, trivial⟩ k
  rfl
theorem BX6_comeToGate_7 {d Z L : Nat} {xs : Nat → Int32} {z : Nat} {Φ : Out → T2 → T3 → Nat → Prop} {I : T2} {J : T3} {a1 : Nat}  
    (k : Ev d Z L xs mX6_comeToGate 8 [some (.ref 0), some (.ref a1), none] [.int 0] I J z Φ) : Ev d Z L xs mX6_comeToGate 7 [some (.ref 0), some (.ref a1), none] [] I J z Φ := by
  refine Ev.blk (ops := [oI (.iconst 0) 1 0]) (G := True ∧ True) (by decide +kernel) ?_ ⟨trivial, trivial⟩ k
  rfl
theorem BX6_comeToGate_9 {d Z L : Nat} {xs : Nat → Int32} {z : Nat} {Φ : Out → T2 → T3 → Nat → Prop} {I : T2} {J : T3} {a1 : Nat} (hk_a1 : kd a1 = 1) (g1 : vp_in 2 6)
    (k : Ev d Z L xs mX6_comeToGate 19 [some (.ref 0), some (.ref a1), none] [.int (I 23 (2 : Int32).toNatClampNeg), .ref (a1 + 9)] I J z Φ) : Ev d Z L xs mX6_comeToGate 9 [some (.ref 0), some (.ref a1), none] [] I J z Φ := by
  refine Ev.blk (ops := [o0 (.aload_n 1) 1, oK (.getfield 174) 3 1 1, o0 (.aload_n 0) 1, oK (.getfield 47) 3 6 6, oI (.iconst 2) 1 2, o0 (.iaload) 1]) (G := True ∧ (kd a1 = 1) ∧ True ∧ (kd 0 = 6) ∧ True ∧ (kd 23 = 8 ∧ vp_in 2 (ln 23)) ∧ True) (by decide +kernel) ?_ ⟨trivial, hk_a1, trivial, (by decide), trivial, ⟨(by decide), g1⟩, trivial⟩ k
  rfl
theorem BX6_comeToGate_22 {d Z L : Nat} {xs : Nat → Int32} {z : Nat} {Φ : Out → T2 → T3 → Nat → Prop} {I : T2} {J : T3} {a1 : Nat} {xs0 : Int32}  
    (k : Ev d Z L xs mX6_comeToGate 24 [some (.ref 0), some (.ref a1), some (.int xs0)] [.int xs0] I J z Φ) : Ev d Z L xs mX6_comeToGate 22 [some (.ref 0), some (.ref a1), none] [.int xs0] I J z Φ := by
  refine Ev.blk (ops := [o0 (.istore_n 2) 1, o0 (.iload_n 2) 1]) (G := True ∧ True ∧ True) (by decide +kernel) ?_ ⟨trivial, trivial, trivial⟩ k
  rfl
theorem BX6_comeToGate_27 {d Z L : Nat} {xs : Nat → Int32} {z : Nat} {Φ : Out → T2 → T3 → Nat → Prop} {I : T2} {J : T3} {a1 : Nat} {x2 : Int32}  (g1 : vp_in 3 6) (g2 : vp_in 4 6)
    (k : Ev d Z L xs mX6_comeToGate 40 [some (.ref 0), some (.ref a1), some (.int x2)] [.int (I 23 (4 : Int32).toNatClampNeg), .int (I 23 (3 : Int32).toNatClampNeg), .ref a1] I J z Φ) : Ev d Z L xs mX6_comeToGate 27 [some (.ref 0), some (.ref a1), some (.int x2)] [] I J z Φ := by
  refine Ev.blk (ops := [o0 (.aload_n 1) 1, o0 (.aload_n 0) 1, oK (.getfield 47) 3 6 6, oI (.iconst 3) 1 3, o0 (.iaload) 1, o0 (.aload_n 0) 1, oK (.getfield 47) 3 6 6, oI (.iconst 4) 1 4, o0 (.iaload) 1]) (G := True ∧ True ∧ (kd 0 = 6) ∧ True ∧ (kd 23 = 8 ∧ vp_in 3 (ln 23)) ∧ True ∧ (kd 0 = 6) ∧ True ∧ (kd 23 = 8 ∧ vp_in 4 (ln 23)) ∧ True) (by decide +kernel) ?_ ⟨trivial, trivial, (by decide), trivial, ⟨(by decide), g1⟩, trivial, (by decide), trivial, ⟨(by decide), g2⟩, trivial⟩ k
  rfl
theorem BX6_comeToGate_43 {d Z L : Nat} {xs : Nat → Int32} {z : Nat} {Φ : Out → T2 → T3 → Nat → Prop} {I : T2} {J : T3} {a1 : Nat} {x2 : Int32} (hk_a1 : kd a1 = 1) 
    (k : Ev d Z L xs mX6_comeToGate 52 [some (.ref 0), some (.ref a1), some (.int x2)] [.int 4, .ref 12, .ref (a1 + 9)] I J z Φ) : Ev d Z L xs mX6_comeToGate 43 [some (.ref 0), some (.ref a1), some (.int x2)] [] I J z Φ := by
  refine Ev.blk (ops := [o0 (.aload_n 1) 1, oK (.getfield 174) 3 1 1, o0 (.aload_n 0) 1, oK (.getfield 25) 3 6 2, oI (.iconst 4) 1 4]) (G := True ∧ (kd a1 = 1) ∧ True ∧ (kd 0 = 6) ∧ True ∧ True) (by decide +kernel) ?_ ⟨trivial, hk_a1, trivial, (by decide), trivial, trivial⟩ k
  rfl
theorem BX6_comeToGate_55 {d Z L : Nat} {xs : Nat → Int32} {z : Nat} {Φ : Out → T2 → T3 → Nat → Prop} {I : T2} {J : T3} {a1 : Nat} {x2 : Int32}  
    (k : Ev d Z L xs mX6_comeToGate 56 [some (.ref 0), some (.ref a1), some (.int x2)] [.int x2] I J z Φ) : Ev d Z L xs mX6_comeToGate 55 [some (.ref 0), some (.ref a1), some (.int x2)] [] I J z Φ := by
  refine Ev.blk (ops := [o0 (.iload_n 2) 1]) (G := True ∧ True) (by decide +kernel) ?_ ⟨trivial, trivial⟩ k
  rfl
theorem BX6_comeToGate_59 {d Z L : Nat} {xs : Nat → Int32} {z : Nat} {Φ : Out → T2 → T3 → Nat → Prop} {I : T2} {J : T3} {a1 : Nat} {x2 : Int32}  
    (k : Ev d Z L xs mX6_comeToGate 64 [some (.ref 0), some (.ref a1), some (.int x2)] [.int 1] I J z Φ) : Ev d Z L xs mX6_comeToGate 59 [some (.ref 0), some (.ref a1), some (.int x2)] [] I J z Φ := by
  refine Ev.blk (ops := [oI (.iconst 1) 1 1, oK (.goto 4) 3 64 0]) (G := True ∧ True ∧ True) (by decide +kernel) ?_ ⟨trivial, trivial, trivial⟩ k
  rfl
theorem BX6_comeToGate_63 {d Z L : Nat} {xs : Nat → Int32} {z : Nat} {Φ : Out → T2 → T3 → Nat → Prop} {I : T2} {J : T3} {a1 : Nat} {x2 : Int32}  
    (k : Ev d Z L xs mX6_comeToGate 64 [some (.ref 0), some (.ref a1), some (.int x2)] [.int 0] I J z Φ) : Ev d Z L xs mX6_comeToGate 63 [some (.ref 0), some (.ref a1), some (.int x2)] [] I J z Φ := by
  refine Ev.blk (ops := [oI (.iconst 0) 1 0]) (G := True ∧ True) (by decide +kernel) ?_ ⟨trivial, trivial⟩ k
  rfl
theorem BX6_comeAsReceipt_0 {d Z L : Nat} {xs : Nat → Int32} {z : Nat} {Φ : Out → T2 → T3 → Nat → Prop} {I : T2} {J : T3} {x1 : Int32} {a2 : Nat}  
    (k : Ev d Z L xs mX6_comeAsReceipt 1 [some (.ref 0), some (.int x1), some (.ref a2)] [.int x1] I J z Φ) : Ev d Z L xs mX6_comeAsReceipt 0 [some (.ref 0), some (.int x1), some (.ref a2)] [] I J z Φ := by
  refine Ev.blk (ops := [o0 (.iload_n 1) 1]) (G := True ∧ True) (by decide +kernel) ?_ ⟨trivial, trivial⟩ k
  rfl
theorem BX6_comeAsReceipt_4 {d Z L : Nat} {xs : Nat → Int32} {z : Nat} {Φ : Out → T2 → T3 → Nat → Prop} {I : T2} {J : T3} {x1 : Int32} {a2 : Nat}  
    (k : Ev d Z L xs mX6_comeAsReceipt 5 [some (.ref 0), some (.int x1), some (.ref a2)] [.int 0] I J z Φ) : Ev d Z L xs mX6_comeAsReceipt 4 [some (.ref 0), some (.int x1), some (.ref a2)] [] I J z Φ := by
  refine Ev.blk (ops := [oI (.iconst 0) 1 0]) (G := True ∧ True) (by decide +kernel) ?_ ⟨trivial, trivial⟩ k
  rfl
theorem BX6_comeAsReceipt_6 {d Z L : Nat} {xs : Nat → Int32} {z : Nat} {Φ : Out → T2 → T3 → Nat → Prop} {I : T2} {J : T3} {x1 : Int32} {a2 : Nat}  (g1 : vp_in 2 6)
    (k : Ev d Z L xs mX6_comeAsReceipt 13 [some (.ref 0), some (.int x1), some (.ref a2)] [.int (I 23 (2 : Int32).toNatClampNeg), .ref a2] I J z Φ) : Ev d Z L xs mX6_comeAsReceipt 6 [some (.ref 0), some (.int x1), some (.ref a2)] [] I J z Φ := by
  refine Ev.blk (ops := [o0 (.aload_n 2) 1, o0 (.aload_n 0) 1, oK (.getfield 47) 3 6 6, oI (.iconst 2) 1 2, o0 (.iaload) 1]) (G := True ∧ True ∧ (kd 0 = 6) ∧ True ∧ (kd 23 = 8 ∧ vp_in 2 (ln 23)) ∧ True) (by decide +kernel) ?_ ⟨trivial, trivial, (by decide), trivial, ⟨(by decide), g1⟩, trivial⟩ k
  rfl
theorem BX6_comeAsReceipt_16 {d Z L : Nat} {xs : Nat → Int32} {z : Nat} {Φ : Out → T2 → T3 → Nat → Prop} {I : T2} {J : T3} {x1 : Int32} {a2 : Nat}  
    (k : Ev d Z L xs mX6_comeAsReceipt 17 [some (.ref 0), some (.int x1), some (.ref a2)] [.int 2] I J z Φ) : Ev d Z L xs mX6_comeAsReceipt 16 [some (.ref 0), some (.int x1), some (.ref a2)] [] I J z Φ := by
  refine Ev.blk (ops := [oI (.iconst 2) 1 2]) (G := True ∧ True) (by decide +kernel) ?_ ⟨trivial, trivial⟩ k
  rfl
theorem BX6_comeToDesk_0 {d Z L : Nat} {xs : Nat → Int32} {z : Nat} {Φ : Out → T2 → T3 → Nat → Prop} {I : T2} {J : T3} {a1 : Nat}  
    (k : Ev d Z L xs mX6_comeToDesk 7 [some (.ref 0), some (.ref a1), none] [.int (I 2 6)] I J z Φ) : Ev d Z L xs mX6_comeToDesk 0 [some (.ref 0), some (.ref a1), none] [] I J z Φ := by
  refine Ev.blk (ops := [o0 (.aload_n 0) 1, oK (.getfield 18) 3 6 1, oK (.getfield 158) 3 2 6]) (G := True ∧ (kd 0 = 6) ∧ (kd 2 = 2) ∧ True) (by decide +kernel) ?_ ⟨trivial, (by decide), (by decide), trivial⟩ k
  rfl
theorem BX6_comeToDesk_10 {d Z L : Nat} {xs : Nat → Int32} {z : Nat} {Φ : Out → T2 → T3 → Nat → Prop} {I : T2} {J : T3} {a1 : Nat}  
    (k : Ev d Z L xs mX6_comeToDesk 11 [some (.ref 0), some (.ref a1), none] [.int 0] I J z Φ) : Ev d Z L xs mX6_comeToDesk 10 [some (.ref 0), some (.ref a1), none] [] I J z Φ := by
  refine Ev.blk (ops := [oI (.iconst 0) 1 0]) (G := True ∧ True) (by decide +kernel) ?_ ⟨trivial, trivial⟩ k
  rfl
theorem BX6_comeToDesk_12 {d Z L : Nat} {xs : Nat → Int32} {z : Nat} {Φ : Out → T2 → T3 → Nat → Prop} {I : T2} {J : T3} {a1 : Nat} (hk_a1 : kd a1 = 1) (g1 : vp_in 2 6)
    (k : Ev d Z L xs mX6_comeToDesk 22 [some (.ref 0), some (.ref a1), none] [.int (I 23 (2 : Int32).toNatClampNeg), .ref (a1 + 4)] I J z Φ) : Ev d Z L xs mX6_comeToDesk 12 [some (.ref 0), some (.ref a1), none] [] I J z Φ := by
  refine Ev.blk (ops := [o0 (.aload_n 1) 1, oK (.getfield 134) 3 1 0, o0 (.aload_n 0) 1, oK (.getfield 47) 3 6 6, oI (.iconst 2) 1 2, o0 (.iaload) 1]) (G := True ∧ (kd a1 = 1) ∧ True ∧ (kd 0 = 6) ∧ True ∧ (kd 23 = 8 ∧ vp_in 2 (ln 23)) ∧ True) (by decide +kernel) ?_ ⟨trivial, hk_a1, trivial, (by decide), trivial, ⟨(by decide), g1⟩, trivial⟩ k
  rfl
theorem BX6_comeToDesk_25 {d Z L : Nat} {xs : Nat → Int32} {z : Nat} {Φ : Out → T2 → T3 → Nat → Prop} {I : T2} {J : T3} {a1 : Nat} {xs0 : Int32}  
    (k : Ev d Z L xs mX6_comeToDesk 27 [some (.ref 0), some (.ref a1), some (.int xs0)] [.int xs0] I J z Φ) : Ev d Z L xs mX6_comeToDesk 25 [some (.ref 0), some (.ref a1), none] [.int xs0] I J z Φ := by
  refine Ev.blk (ops := [o0 (.istore_n 2) 1, o0 (.iload_n 2) 1]) (G := True ∧ True ∧ True) (by decide +kernel) ?_ ⟨trivial, trivial, trivial⟩ k
  rfl
theorem BX6_comeToDesk_30 {d Z L : Nat} {xs : Nat → Int32} {z : Nat} {Φ : Out → T2 → T3 → Nat → Prop} {I : T2} {J : T3} {a1 : Nat} {x2 : Int32}  (g1 : vp_in 0 6)
    (k : Ev d Z L xs mX6_comeToDesk 36 [some (.ref 0), some (.ref a1), some (.int x2)] [.int (I 23 (0 : Int32).toNatClampNeg)] I J z Φ) : Ev d Z L xs mX6_comeToDesk 30 [some (.ref 0), some (.ref a1), some (.int x2)] [] I J z Φ := by
  refine Ev.blk (ops := [o0 (.aload_n 0) 1, oK (.getfield 47) 3 6 6, oI (.iconst 0) 1 0, o0 (.iaload) 1]) (G := True ∧ (kd 0 = 6) ∧ True ∧ (kd 23 = 8 ∧ vp_in 0 (ln 23)) ∧ True) (by decide +kernel) ?_ ⟨trivial, (by decide), trivial, ⟨(by decide), g1⟩, trivial⟩ k
  rfl
theorem BX6_comeToDesk_39 {d Z L : Nat} {xs : Nat → Int32} {z : Nat} {Φ : Out → T2 → T3 → Nat → Prop} {I : T2} {J : T3} {a1 : Nat} {x2 : Int32}  
    (k : Ev d Z L xs mX6_comeToDesk 41 [some (.ref 0), some (.ref a1), some (.int x2)] [.ref a1, .ref 0] I J z Φ) : Ev d Z L xs mX6_comeToDesk 39 [some (.ref 0), some (.ref a1), some (.int x2)] [] I J z Φ := by
  refine Ev.blk (ops := [o0 (.aload_n 0) 1, o0 (.aload_n 1) 1]) (G := True ∧ True ∧ True) (by decide +kernel) ?_ ⟨trivial, trivial, trivial⟩ k
  rfl
theorem BX6_comeToDesk_44 {d Z L : Nat} {xs : Nat → Int32} {z : Nat} {Φ : Out → T2 → T3 → Nat → Prop} {I : T2} {J : T3} {a1 : Nat} {x2 : Int32}  
    (k : Ev d Z L xs mX6_comeToDesk 70 [some (.ref 0), some (.ref a1), some (.int x2)] [] I J z Φ) : Ev d Z L xs mX6_comeToDesk 44 [some (.ref 0), some (.ref a1), some (.int x2)] [] I J z Φ := by
  refine Ev.blk (ops := [oK (.goto 26) 3 70 0]) (G := True ∧ True) (by decide +kernel) ?_ ⟨trivial, trivial⟩ k
  rfl
theorem BX6_comeToDesk_47 {d Z L : Nat} {xs : Nat → Int32} {z : Nat} {Φ : Out → T2 → T3 → Nat → Prop} {I : T2} {J : T3} {a1 : Nat} {x2 : Int32}  
    (k : Ev d Z L xs mX6_comeToDesk 48 [some (.ref 0), some (.ref a1), some (.int x2)] [.int x2] I J z Φ) : Ev d Z L xs mX6_comeToDesk 47 [some (.ref 0), some (.ref a1), some (.int x2)] [] I J z Φ := by
  refine Ev.blk (ops := [o0 (.iload_n 2) 1]) (G := True ∧ True) (by decide +kernel) ?_ ⟨trivial, trivial⟩ k
  rfl
theorem BX6_comeToDesk_51 {d Z L : Nat} {xs : Nat → Int32} {z : Nat} {Φ : Out → T2 → T3 → Nat → Prop} {I : T2} {J : T3} {a1 : Nat} {x2 : Int32}  (g1 : vp_in 3 6) (g2 : vp_in 4 6)
    (k : Ev d Z L xs mX6_comeToDesk 67 [some (.ref 0), some (.ref a1), some (.int x2)] [.int (I 23 (4 : Int32).toNatClampNeg), .int (I 23 (3 : Int32).toNatClampNeg), .ref 2] I J z Φ) : Ev d Z L xs mX6_comeToDesk 51 [some (.ref 0), some (.ref a1), some (.int x2)] [] I J z Φ := by
  refine Ev.blk (ops := [o0 (.aload_n 0) 1, oK (.getfield 18) 3 6 1, o0 (.aload_n 0) 1, oK (.getfield 47) 3 6 6, oI (.iconst 3) 1 3, o0 (.iaload) 1, o0 (.aload_n 0) 1, oK (.getfield 47) 3 6 6, oI (.iconst 4) 1 4, o0 (.iaload) 1]) (G := True ∧ (kd 0 = 6) ∧ True ∧ (kd 0 = 6) ∧ True ∧ (kd 23 = 8 ∧ vp_in 3 (ln 23)) ∧ True ∧ (kd 0 = 6) ∧ True ∧ (kd 23 = 8 ∧ vp_in 4 (ln 23)) ∧ True) (by decide +kernel) ?_ ⟨trivial, (by decide), trivial, (by decide), trivial, ⟨(by decide), g1⟩, trivial, (by decide), trivial, ⟨(by decide), g2⟩, trivial⟩ k
  rfl
theorem BX6_comeToDesk_70 {d Z L : Nat} {xs : Nat → Int32} {z : Nat} {Φ : Out → T2 → T3 → Nat → Prop} {I : T2} {J : T3} {a1 : Nat} {x2 : Int32} (hk_a1 : kd a1 = 1) 
    (k : Ev d Z L xs mX6_comeToDesk 79 [some (.ref 0), some (.ref a1), some (.int x2)] [.int 3, .ref 12, .ref (a1 + 4)] I J z Φ) : Ev d Z L xs mX6_comeToDesk 70 [some (.ref 0), some (.ref a1), some (.int x2)] [] I J z Φ := by
  refine Ev.blk (ops := [o0 (.aload_n 1) 1, oK (.getfield 134) 3 1 0, o0 (.aload_n 0) 1, oK (.getfield 25) 3 6 2, oI (.iconst 3) 1 3]) (G := True ∧ (kd a1 = 1) ∧ True ∧ (kd 0 = 6) ∧ True ∧ True) (by decide +kernel) ?_ ⟨trivial, hk_a1, trivial, (by decide), trivial, trivial⟩ k
  rfl
theorem BX6_comeToDesk_82 {d Z L : Nat} {xs : Nat → Int32} {z : Nat} {Φ : Out → T2 → T3 → Nat → Prop} {I : T2} {J : T3} {a1 : Nat} {x2 : Int32}  
    (k : Ev d Z L xs mX6_comeToDesk 83 [some (.ref 0), some (.ref a1), some (.int x2)] [.int x2] I J z Φ) : Ev d Z L xs mX6_comeToDesk 82 [some (.ref 0), some (.ref a1), some (.int x2)] [] I J z Φ := by
  refine Ev.blk (ops := [o0 (.iload_n 2) 1]) (G := True ∧ True) (by decide +kernel) ?_ ⟨trivial, trivial⟩ k
  rfl
theorem BX6_comeToDesk_86 {d Z L : Nat} {xs : Nat → Int32} {z : Nat} {Φ : Out → T2 → T3 → Nat → Prop} {I : T2} {J : T3} {a1 : Nat} {x2 : Int32}  
    (k : Ev d Z L xs mX6_comeToDesk 91 [some (.ref 0), some (.ref a1), some (.int x2)] [.int 1] I J z Φ) : Ev d Z L xs mX6_comeToDesk 86 [some (.ref 0), some (.ref a1), some (.int x2)] [] I J z Φ := by
  refine Ev.blk (ops := [oI (.iconst 1) 1 1, oK (.goto 4) 3 91 0]) (G := True ∧ True ∧ True) (by decide +kernel) ?_ ⟨trivial, trivial, trivial⟩ k
  rfl
theorem BX6_comeToDesk_90 {d Z L : Nat} {xs : Nat → Int32} {z : Nat} {Φ : Out → T2 → T3 → Nat → Prop} {I : T2} {J : T3} {a1 : Nat} {x2 : Int32}  
    (k : Ev d Z L xs mX6_comeToDesk 91 [some (.ref 0), some (.ref a1), some (.int x2)] [.int 0] I J z Φ) : Ev d Z L xs mX6_comeToDesk 90 [some (.ref 0), some (.ref a1), some (.int x2)] [] I J z Φ := by
  refine Ev.blk (ops := [oI (.iconst 0) 1 0]) (G := True ∧ True) (by decide +kernel) ?_ ⟨trivial, trivial⟩ k
  rfl
theorem BX6_hearPlea_0 {d Z L : Nat} {xs : Nat → Int32} {z : Nat} {Φ : Out → T2 → T3 → Nat → Prop} {I : T2} {J : T3} {a1 : Nat}  (g1 : vp_in 3 6)
    (k : Ev d Z L xs mX6_hearPlea 15 [some (.ref 0), some (.ref a1), some (.int (I 23 (3 : Int32).toNatClampNeg)), none] [.int (I 2 4), .int (I 23 (3 : Int32).toNatClampNeg)] I J z Φ) : Ev d Z L xs mX6_hearPlea 0 [some (.ref 0), some (.ref a1), none, none] [] I J z Φ := by
  refine Ev.blk (ops := [o0 (.aload_n 0) 1, oK (.getfield 47) 3 6 6, oI (.iconst 3) 1 3, o0 (.iaload) 1, o0 (.istore_n 2) 1, o0 (.iload_n 2) 1, o0 (.aload_n 0) 1, oK (.getfield 18) 3 6 1, oK (.getfield 159) 3 2 4]) (G := True ∧ (kd 0 = 6) ∧ True ∧ (kd 23 = 8 ∧ vp_in 3 (ln 23)) ∧ True ∧ True ∧ True ∧ (kd 0 = 6) ∧ (kd 2 = 2) ∧ True) (by decide +kernel) ?_ ⟨trivial, (by decide), trivial, ⟨(by decide), g1⟩, trivial, trivial, trivial, (by decide), (by decide), trivial⟩ k
  rfl
theorem BX6_hearPlea_18 {d Z L : Nat} {xs : Nat → Int32} {z : Nat} {Φ : Out → T2 → T3 → Nat → Prop} {I : T2} {J : T3} {a1 : Nat} {x2 : Int32} {xs0 : Int32}  
    (k : Ev d Z L xs mX6_hearPlea 21 [some (.ref 0), some (.ref a1), some (.int x2), some (.int xs0)] [.int (-1), .int xs0] I J z Φ) : Ev d Z L xs mX6_hearPlea 18 [some (.ref 0), some (.ref a1), some (.int x2), none] [.int xs0] I J z Φ := by
  refine Ev.blk (ops := [o0 (.istore_n 3) 1, o0 (.iload_n 3) 1, oI (.iconst (-1)) 1 (-1)]) (G := True ∧ True ∧ True ∧ True) (by decide +kernel) ?_ ⟨trivial, trivial, trivial, trivial⟩ k
  rfl
theorem BX6_hearPlea_25 {d Z L : Nat} {xs : Nat → Int32} {z : Nat} {Φ : Out → T2 → T3 → Nat → Prop} {I : T2} {J : T3} {a1 : Nat} {x2 : Int32} {x3 : Int32}  
    (k : Ev d Z L xs mX6_hearPlea 32 [some (.ref 0), some (.ref a1), some (.int x2), some (.int x3)] [.int (I 2 5)] I J z Φ) : Ev d Z L xs mX6_hearPlea 25 [some (.ref 0), some (.ref a1), some (.int x2), some (.int x3)] [] I J z Φ := by
  refine Ev.blk (ops := [o0 (.aload_n 0) 1, oK (.getfield 18) 3 6 1, oK (.getfield 109) 3 2 5]) (G := True ∧ (kd 0 = 6) ∧ (kd 2 = 2) ∧ True) (by decide +kernel) ?_ ⟨trivial, (by decide), (by decide), trivial⟩ k
  rfl
theorem BX6_hearPlea_35 {d Z L : Nat} {xs : Nat → Int32} {z : Nat} {Φ : Out → T2 → T3 → Nat → Prop} {I : T2} {J : T3} {a1 : Nat} {x2 : Int32} {x3 : Int32}  (g1 : vp_in x3 3) (g2 : vp_in 1 6) (g3 : vp_in (I 23 (1 : Int32).toNatClampNeg) 8) (g4 : vp_in 4 6) (g5 : vp_in 5 6) (g6 : vp_in ((up2 I (4 + 1 + x3.toNatClampNeg) (I 23 (1 : Int32).toNatClampNeg).toNatClampNeg ((I (4 + 1 + x3.toNatClampNeg) (I 23 (1 : Int32).toNatClampNeg).toNatClampNeg) + (I 23 (4 : Int32).toNatClampNeg))) 23 (1 : Int32).toNatClampNeg) 8)
    (k : Ev d Z L xs mX6_hearPlea 120 [some (.ref 0), some (.ref a1), some (.int x2), some (.int x3)] [] (up2 (up2 I (4 + 1 + x3.toNatClampNeg) (I 23 (1 : Int32).toNatClampNeg).toNatClampNeg ((I (4 + 1 + x3.toNatClampNeg) (I 23 (1 : Int32).toNatClampNeg).toNatClampNeg) + (I 23 (4 : Int32).toNatClampNeg))) (8 + 1 + x3.toNatClampNeg) ((up2 I (4 + 1 + x3.toNatClampNeg) (I 23 (1 : Int32).toNatClampNeg).toNatClampNeg ((I (4 + 1 + x3.toNatClampNeg) (I 23 (1 : Int32).toNatClampNeg).toNatClampNeg) + (I 23 (4 : Int32).toNatClampNeg))) 23 (1 : Int32).toNatClampNeg).toNatClampNeg ((up2 I (4 + 1 + x3.toNatClampNeg) (I 23 (1 : Int32).toNatClampNeg).toNatClampNeg ((I (4 + 1 + x3.toNatClampNeg) (I 23 (1 : Int32).toNatClampNeg).toNatClampNeg) + (I 23 (4 : Int32).toNatClampNeg))) 23 (5 : Int32).toNatClampNeg)) J z Φ) : Ev d Z L xs mX6_hearPlea 35 [some (.ref 0), some (.ref a1), some (.int x2), some (.int x3)] [] I J z Φ := by
  refine Ev.blk (ops := [o0 (.aload_n 0) 1, oK (.getfield 18) 3 6 1, oK (.getfield 181) 3 2 1, o0 (.iload_n 3) 1, oK (.aaload) 1 12 0, o0 (.aload_n 0) 1, oK (.getfield 47) 3 6 6, oI (.iconst 1) 1 1, o0 (.iaload) 1, o0 (.dup2) 1, o0 (.iaload) 1, o0 (.aload_n 0) 1, oK (.getfield 47) 3 6 6, oI (.iconst 4) 1 4, o0 (.iaload) 1, o0 (.iadd) 1, o0 (.iastore) 1, o0 (.aload_n 0) 1, oK (.getfield 18) 3 6 1, oK (.getfield 185) 3 2 2, o0 (.iload_n 3) 1, oK (.aaload) 1 12 0, o0 (.aload_n 0) 1, oK (.getfield 47) 3 6 6, oI (.iconst 1) 1 1, o0 (.iaload) 1, o0 (.aload_n 0) 1, oK (.getfield 47) 3 6 6, oI (.iconst 5) 1 5, o0 (.iaload) 1, o0 (.iastore) 1, oK (.goto 38) 3 120 0]) (G := True ∧ (kd 0 = 6) ∧ (kd 2 = 2) ∧ True ∧ (kd 4 = 12 ∧ vp_in x3 (ln 4)) ∧ True ∧ (kd 0 = 6) ∧ True ∧ (kd 23 = 8 ∧ vp_in 1 (ln 23)) ∧ True ∧ (kd (4 + 1 + x3.toNatClampNeg) = 8 ∧ vp_in (I 23 (1 : Int32).toNatClampNeg) (ln (4 + 1 + x3.toNatClampNeg))) ∧ True ∧ (kd 0 = 6) ∧ True ∧ (kd 23 = 8 ∧ vp_in 4 (ln 23)) ∧ True ∧ (kd (4 + 1 + x3.toNatClampNeg) = 8 ∧ vp_in (I 23 (1 : Int32).toNatClampNeg) (ln (4 + 1 + x3.toNatClampNeg))) ∧ True ∧ (kd 0 = 6) ∧ (kd 2 = 2) ∧ True ∧ (kd 8 = 12 ∧ vp_in x3 (ln 8)) ∧ True ∧ (kd 0 = 6) ∧ True ∧ (kd 23 = 8 ∧ vp_in 1 (ln 23)) ∧ True ∧ (kd 0 = 6) ∧ True ∧ (kd 23 = 8 ∧ vp_in 5 (ln 23)) ∧ (kd (8 + 1 + x3.toNatClampNeg) = 8 ∧ vp_in ((up2 I (4 + 1 + x3.toNatClampNeg) (I 23 (1 : Int32).toNatClampNeg).toNatClampNeg ((I (4 + 1 + x3.toNatClampNeg) (I 23 (1 : Int32).toNatClampNeg).toNatClampNeg) + (I 23 (4 : Int32).toNatClampNeg))) 23 (1 : Int32).toNatClampNeg) (ln (8 + 1 + x3.toNatClampNeg))) ∧ True ∧ True) (by decide +kernel) ?_ ⟨trivial, (by decide), (by decide), trivial, ⟨(by decide), g1⟩, trivial, (by decide), trivial, ⟨(by decide), g2⟩, trivial, ⟨(kr4 (vp_lt g1)), (ln_to (lr4 (vp_lt g1)) g3)⟩, trivial, (by decide), trivial, ⟨(by decide), g4⟩, trivial, ⟨(kr4 (vp_lt g1)), (ln_to (lr4 (vp_lt g1)) g3)⟩, trivial, (by decide), (by decide), trivial, ⟨(by decide), g1⟩, trivial, (by decide), trivial, ⟨(by decide), g2⟩, trivial, (by decide), trivial, ⟨(by decide), g5⟩, ⟨(kr8 (vp_lt g1)), (ln_to (lr8 (vp_lt g1)) g6)⟩, trivial, trivial⟩ k
  rfl
theorem BX6_hearPlea_85 {d Z L : Nat} {xs : Nat → Int32} {z : Nat} {Φ : Out → T2 → T3 → Nat → Prop} {I : T2} {J : T3} {a1 : Nat} {x2 : Int32} {x3 : Int32} (hk_a1 : kd a1 = 1) 
    (k : Ev d Z L xs mX6_hearPlea 89 [some (.ref 0), some (.ref a1), some (.int x2), some (.int x3)] [.ref (a1 + 9)] I J z Φ) : Ev d Z L xs mX6_hearPlea 85 [some (.ref 0), some (.ref a1), some (.int x2), some (.int x3)] [] I J z Φ := by
  refine Ev.blk (ops := [o0 (.aload_n 1) 1, oK (.getfield 174) 3 1 1]) (G := True ∧ (kd a1 = 1) ∧ True) (by decide +kernel) ?_ ⟨trivial, hk_a1, trivial⟩ k
  rfl
theorem BX6_hearPlea_95 {d Z L : Nat} {xs : Nat → Int32} {z : Nat} {Φ : Out → T2 → T3 → Nat → Prop} {I : T2} {J : T3} {a1 : Nat} {x2 : Int32} {x3 : Int32}  (g1 : vp_in 4 6) (g2 : vp_in x3 3)
    (k : Ev d Z L xs mX6_hearPlea 113 [some (.ref 0), some (.ref a1), some (.int x2), some (.int x3)] [.int (I 3 x3.toNatClampNeg), .int (I 23 (4 : Int32).toNatClampNeg), .int x2, .ref a1, .ref 0] I J z Φ) : Ev d Z L xs mX6_hearPlea 95 [some (.ref 0), some (.ref a1), some (.int x2), some (.int x3)] [] I J z Φ := by
  refine Ev.blk (ops := [o0 (.aload_n 0) 1, o0 (.aload_n 1) 1, o0 (.iload_n 2) 1, o0 (.aload_n 0) 1, oK (.getfield 47) 3 6 6, oI (.iconst 4) 1 4, o0 (.iaload) 1, o0 (.aload_n 0) 1, oK (.getfield 18) 3 6 1, oK (.getfield 170) 3 2 0, o0 (.iload_n 3) 1, o0 (.iaload) 1]) (G := True ∧ True ∧ True ∧ True ∧ (kd 0 = 6) ∧ True ∧ (kd 23 = 8 ∧ vp_in 4 (ln 23)) ∧ True ∧ (kd 0 = 6) ∧ (kd 2 = 2) ∧ True ∧ (kd 3 = 8 ∧ vp_in x3 (ln 3)) ∧ True) (by decide +kernel) ?_ ⟨trivial, trivial, trivial, trivial, (by decide), trivial, ⟨(by decide), g1⟩, trivial, (by decide), (by decide), trivial, ⟨(by decide), g2⟩, trivial⟩ k
  rfl
theorem BX6_hearPlea_119 {d Z L : Nat} {xs : Nat → Int32} {z : Nat} {Φ : Out → T2 → T3 → Nat → Prop} {I : T2} {J : T3} {a1 : Nat} {x2 : Int32} {x3 : Int32} {xs0 : Int32}  
    (k : Ev d Z L xs mX6_hearPlea 120 [some (.ref 0), some (.ref a1), some (.int x2), some (.int x3)] [] I J z Φ) : Ev d Z L xs mX6_hearPlea 119 [some (.ref 0), some (.ref a1), some (.int x2), some (.int x3)] [.int xs0] I J z Φ := by
  refine Ev.blk (ops := [o0 (.pop) 1]) (G := True ∧ True) (by decide +kernel) ?_ ⟨trivial, trivial⟩ k
  rfl
theorem BX6_deliverAll_0 {d Z L : Nat} {xs : Nat → Int32} {z : Nat} {Φ : Out → T2 → T3 → Nat → Prop} {I : T2} {J : T3} {x1 : Int32}  
    (k : Ev d Z L xs mX6_deliverAll 1 [some (.ref 0), some (.int x1), none] [.int x1] I J z Φ) : Ev d Z L xs mX6_deliverAll 0 [some (.ref 0), some (.int x1), none] [] I J z Φ := by
  refine Ev.blk (ops := [o0 (.iload_n 1) 1]) (G := True ∧ True) (by decide +kernel) ?_ ⟨trivial, trivial⟩ k
  rfl
theorem BX6_deliverAll_4 {d Z L : Nat} {xs : Nat → Int32} {z : Nat} {Φ : Out → T2 → T3 → Nat → Prop} {I : T2} {J : T3} {x1 : Int32}  
    (k : Ev d Z L xs mX6_deliverAll 8 [some (.ref 0), some (.int x1), none] [.int 1000, .int x1] I J z Φ) : Ev d Z L xs mX6_deliverAll 4 [some (.ref 0), some (.int x1), none] [] I J z Φ := by
  refine Ev.blk (ops := [o0 (.iload_n 1) 1, oI (.sipush 1000) 3 1000]) (G := True ∧ True ∧ True) (by decide +kernel) ?_ ⟨trivial, trivial, trivial⟩ k
  rfl
theorem BX6_deliverAll_14 {d Z L : Nat} {xs : Nat → Int32} {z : Nat} {Φ : Out → T2 → T3 → Nat → Prop} {I : T2} {J : T3} {x1 : Int32} {as0 : Nat}  
    (k : Ev d Z L xs mX6_deliverAll 15 [some (.ref 0), some (.int x1), none] [.ref as0, .ref as0] I J z Φ) : Ev d Z L xs mX6_deliverAll 14 [some (.ref 0), some (.int x1), none] [.ref as0] I J z Φ := by
  refine Ev.blk (ops := [o0 (.dup) 1]) (G := True ∧ True) (by decide +kernel) ?_ ⟨trivial, trivial⟩ k
  rfl
theorem BX6_deliverAll_19 {d Z L : Nat} {xs : Nat → Int32} {z : Nat} {Φ : Out → T2 → T3 → Nat → Prop} {I : T2} {J : T3} {x1 : Int32}  
    (k : Ev d Z L xs mX6_deliverAll 21 [some (.ref 0), some (.int x1), some (.int 0)] [] I J z Φ) : Ev d Z L xs mX6_deliverAll 19 [some (.ref 0), some (.int x1), none] [] I J z Φ := by
  refine Ev.blk (ops := [oI (.iconst 0) 1 0, o0 (.istore_n 2) 1]) (G := True ∧ True ∧ True) (by decide +kernel) ?_ ⟨trivial, trivial, trivial⟩ k
  rfl
theorem BX6_deliverAll_21 {d Z L : Nat} {xs : Nat → Int32} {z : Nat} {Φ : Out → T2 → T3 → Nat → Prop} {I : T2} {J : T3} {x1 : Int32} {x2 : Int32}  
    (k : Ev d Z L xs mX6_deliverAll 23 [some (.ref 0), some (.int x1), some (.int x2)] [.int x1, .int x2] I J z Φ) : Ev d Z L xs mX6_deliverAll 21 [some (.ref 0), some (.int x1), some (.int x2)] [] I J z Φ := by
  refine Ev.blk (ops := [o0 (.iload_n 2) 1, o0 (.iload_n 1) 1]) (G := True ∧ True ∧ True) (by decide +kernel) ?_ ⟨trivial, trivial, trivial⟩ k
  rfl
theorem BX6_deliverAll_26 {d Z L : Nat} {xs : Nat → Int32} {z : Nat} {Φ : Out → T2 → T3 → Nat → Prop} {I : T2} {J : T3} {x1 : Int32} {x2 : Int32}  
    (k : Ev d Z L xs mX6_deliverAll 33 [some (.ref 0), some (.int x1), some (.int x2)] [.int (I 12 2)] I J z Φ) : Ev d Z L xs mX6_deliverAll 26 [some (.ref 0), some (.int x1), some (.int x2)] [] I J z Φ := by
  refine Ev.blk (ops := [o0 (.aload_n 0) 1, oK (.getfield 25) 3 6 2, oK (.getfield 214) 3 3 2]) (G := True ∧ (kd 0 = 6) ∧ (kd 12 = 3) ∧ True) (by decide +kernel) ?_ ⟨trivial, (by decide), (by decide), trivial⟩ k
  rfl
theorem BX6_deliverAll_36 {d Z L : Nat} {xs : Nat → Int32} {z : Nat} {Φ : Out → T2 → T3 → Nat → Prop} {I : T2} {J : T3} {x1 : Int32} {x2 : Int32}  
    (k : Ev d Z L xs mX6_deliverAll 38 [some (.ref 0), some (.int x1), some (.int x2)] [.int 0, .ref 0] I J z Φ) : Ev d Z L xs mX6_deliverAll 36 [some (.ref 0), some (.int x1), some (.int x2)] [] I J z Φ := by
  refine Ev.blk (ops := [o0 (.aload_n 0) 1, oI (.iconst 0) 1 0]) (G := True ∧ True ∧ True) (by decide +kernel) ?_ ⟨trivial, trivial, trivial⟩ k
  rfl
theorem BX6_deliverAll_41 {d Z L : Nat} {xs : Nat → Int32} {z : Nat} {Φ : Out → T2 → T3 → Nat → Prop} {I : T2} {J : T3} {x1 : Int32} {x2 : Int32} {xs0 : Int32}  
    (k : Ev d Z L xs mX6_deliverAll 21 [some (.ref 0), some (.int x1), some (.int (x2 + 1))] [] I J z Φ) : Ev d Z L xs mX6_deliverAll 41 [some (.ref 0), some (.int x1), some (.int x2)] [.int xs0] I J z Φ := by
  refine Ev.blk (ops := [o0 (.pop) 1, oI (.iinc 2 1) 3 1, oK (.goto (-24)) 3 21 0]) (G := True ∧ True ∧ True ∧ True) (by decide +kernel) ?_ ⟨trivial, trivial, trivial, trivial⟩ k
  rfl
theorem BX6_deliverAll_48 {d Z L : Nat} {xs : Nat → Int32} {z : Nat} {Φ : Out → T2 → T3 → Nat → Prop} {I : T2} {J : T3} {x1 : Int32} {x2 : Int32}  
    (k : Ev d Z L xs mX6_deliverAll 49 [some (.ref 0), some (.int x1), some (.int x2)] [.int x2] I J z Φ) : Ev d Z L xs mX6_deliverAll 48 [some (.ref 0), some (.int x1), some (.int x2)] [] I J z Φ := by
  refine Ev.blk (ops := [o0 (.iload_n 2) 1]) (G := True ∧ True) (by decide +kernel) ?_ ⟨trivial, trivial⟩ k
  rfl
theorem BX6_lose_0 {d Z L : Nat} {xs : Nat → Int32} {z : Nat} {Φ : Out → T2 → T3 → Nat → Prop} {I : T2} {J : T3} {x1 : Int32}  
    (k : Ev d Z L xs mX6_lose 2 [some (.ref 0), some (.int x1)] [.int x1, .ref 0] I J z Φ) : Ev d Z L xs mX6_lose 0 [some (.ref 0), some (.int x1)] [] I J z Φ := by
  refine Ev.blk (ops := [o0 (.aload_n 0) 1, o0 (.iload_n 1) 1]) (G := True ∧ True ∧ True) (by decide +kernel) ?_ ⟨trivial, trivial, trivial⟩ k
  rfl
theorem BX6_lose_5 {d Z L : Nat} {xs : Nat → Int32} {z : Nat} {Φ : Out → T2 → T3 → Nat → Prop} {I : T2} {J : T3} {x1 : Int32}  
    (k : Ev d Z L xs mX6_lose 10 [some (.ref 0), some (.int x1)] [.int x1, .ref 12] I J z Φ) : Ev d Z L xs mX6_lose 5 [some (.ref 0), some (.int x1)] [] I J z Φ := by
  refine Ev.blk (ops := [o0 (.aload_n 0) 1, oK (.getfield 25) 3 6 2, o0 (.iload_n 1) 1]) (G := True ∧ (kd 0 = 6) ∧ True ∧ True) (by decide +kernel) ?_ ⟨trivial, (by decide), trivial, trivial⟩ k
  rfl
theorem BX6_twice_0 {d Z L : Nat} {xs : Nat → Int32} {z : Nat} {Φ : Out → T2 → T3 → Nat → Prop} {I : T2} {J : T3} {x1 : Int32}  
    (k : Ev d Z L xs mX6_twice 2 [some (.ref 0), some (.int x1)] [.int x1, .ref 0] I J z Φ) : Ev d Z L xs mX6_twice 0 [some (.ref 0), some (.int x1)] [] I J z Φ := by
  refine Ev.blk (ops := [o0 (.aload_n 0) 1, o0 (.iload_n 1) 1]) (G := True ∧ True ∧ True) (by decide +kernel) ?_ ⟨trivial, trivial, trivial⟩ k
  rfl
theorem BX6_twice_5 {d Z L : Nat} {xs : Nat → Int32} {z : Nat} {Φ : Out → T2 → T3 → Nat → Prop} {I : T2} {J : T3} {x1 : Int32}  
    (k : Ev d Z L xs mX6_twice 9 [some (.ref 0), some (.int x1)] [.ref 12] I J z Φ) : Ev d Z L xs mX6_twice 5 [some (.ref 0), some (.int x1)] [] I J z Φ := by
  refine Ev.blk (ops := [o0 (.aload_n 0) 1, oK (.getfield 25) 3 6 2]) (G := True ∧ (kd 0 = 6) ∧ True) (by decide +kernel) ?_ ⟨trivial, (by decide), trivial⟩ k
  rfl
theorem BX6_twice_18 {d Z L : Nat} {xs : Nat → Int32} {z : Nat} {Φ : Out → T2 → T3 → Nat → Prop} {I : T2} {J : T3} {x1 : Int32} {as0 : Nat}  
    (k : Ev d Z L xs mX6_twice 19 [some (.ref 0), some (.int x1)] [.ref as0, .ref as0] I J z Φ) : Ev d Z L xs mX6_twice 18 [some (.ref 0), some (.int x1)] [.ref as0] I J z Φ := by
  refine Ev.blk (ops := [o0 (.dup) 1]) (G := True ∧ True) (by decide +kernel) ?_ ⟨trivial, trivial⟩ k
  rfl
theorem BX6_twice_23 {d Z L : Nat} {xs : Nat → Int32} {z : Nat} {Φ : Out → T2 → T3 → Nat → Prop} {I : T2} {J : T3} {x1 : Int32}  
    (k : Ev d Z L xs mX6_twice 32 [some (.ref 0), some (.int x1)] [.ref 23, .int x1, .ref 12] I J z Φ) : Ev d Z L xs mX6_twice 23 [some (.ref 0), some (.int x1)] [] I J z Φ := by
  refine Ev.blk (ops := [o0 (.aload_n 0) 1, oK (.getfield 25) 3 6 2, o0 (.iload_n 1) 1, o0 (.aload_n 0) 1, oK (.getfield 47) 3 6 6]) (G := True ∧ (kd 0 = 6) ∧ True ∧ True ∧ (kd 0 = 6) ∧ True) (by decide +kernel) ?_ ⟨trivial, (by decide), trivial, trivial, (by decide), trivial⟩ k
  rfl
theorem BX6_twice_35 {d Z L : Nat} {xs : Nat → Int32} {z : Nat} {Φ : Out → T2 → T3 → Nat → Prop} {I : T2} {J : T3} {x1 : Int32}  (g1 : vp_in 0 6) (g2 : vp_in 1 6) (g3 : vp_in 2 6) (g4 : vp_in 3 6) (g5 : vp_in 4 6) (g6 : vp_in 5 6)
    (k : Ev d Z L xs mX6_twice 75 [some (.ref 0), some (.int x1)] [.int (I 23 (5 : Int32).toNatClampNeg), .int (I 23 (4 : Int32).toNatClampNeg), .int (I 23 (3 : Int32).toNatClampNeg), .int (I 23 (2 : Int32).toNatClampNeg), .int (I 23 (1 : Int32).toNatClampNeg), .int (I 23 (0 : Int32).toNatClampNeg), .ref 12] I J z Φ) : Ev d Z L xs mX6_twice 35 [some (.ref 0), some (.int x1)] [] I J z Φ := by
  refine Ev.blk (ops := [o0 (.aload_n 0) 1, oK (.getfield 25) 3 6 2, o0 (.aload_n 0) 1, oK (.getfield 47) 3 6 6, oI (.iconst 0) 1 0, o0 (.iaload) 1, o0 (.aload_n 0) 1, oK (.getfield 47) 3 6 6, oI (.iconst 1) 1 1, o0 (.iaload) 1, o0 (.aload_n 0) 1, oK (.getfield 47) 3 6 6, oI (.iconst 2) 1 2, o0 (.iaload) 1, o0 (.aload_n 0) 1, oK (.getfield 47) 3 6 6, oI (.iconst 3) 1 3, o0 (.iaload) 1, o0 (.aload_n 0) 1, oK (.getfield 47) 3 6 6, oI (.iconst 4) 1 4, o0 (.iaload) 1, o0 (.aload_n 0) 1, oK (.getfield 47) 3 6 6, oI (.iconst 5) 1 5, o0 (.iaload) 1]) (G := True ∧ (kd 0 = 6) ∧ True ∧ (kd 0 = 6) ∧ True ∧ (kd 23 = 8 ∧ vp_in 0 (ln 23)) ∧ True ∧ (kd 0 = 6) ∧ True ∧ (kd 23 = 8 ∧ vp_in 1 (ln 23)) ∧ True ∧ (kd 0 = 6) ∧ True ∧ (kd 23 = 8 ∧ vp_in 2 (ln 23)) ∧ True ∧ (kd 0 = 6) ∧ True ∧ (kd 23 = 8 ∧ vp_in 3 (ln 23)) ∧ True ∧ (kd 0 = 6) ∧ True ∧ (kd 23 = 8 ∧ vp_in 4 (ln 23)) ∧ True ∧ (kd 0 = 6) ∧ True ∧ (kd 23 = 8 ∧ vp_in 5 (ln 23)) ∧ True) (by decide +kernel) ?_ ⟨trivial, (by decide), trivial, (by decide), trivial, ⟨(by decide), g1⟩, trivial, (by decide), trivial, ⟨(by decide), g2⟩, trivial, (by decide), trivial, ⟨(by decide), g3⟩, trivial, (by decide), trivial, ⟨(by decide), g4⟩, trivial, (by decide), trivial, ⟨(by decide), g5⟩, trivial, (by decide), trivial, ⟨(by decide), g6⟩, trivial⟩ k
  rfl
theorem BX6_resend_0 {d Z L : Nat} {xs : Nat → Int32} {z : Nat} {Φ : Out → T2 → T3 → Nat → Prop} {I : T2} {J : T3} {x1 : Int32}  
    (k : Ev d Z L xs mX6_resend 2 [some (.ref 0), some (.int x1), none, none] [.int x1, .ref 0] I J z Φ) : Ev d Z L xs mX6_resend 0 [some (.ref 0), some (.int x1), none, none] [] I J z Φ := by
  refine Ev.blk (ops := [o0 (.aload_n 0) 1, o0 (.iload_n 1) 1]) (G := True ∧ True ∧ True) (by decide +kernel) ?_ ⟨trivial, trivial, trivial⟩ k
  rfl
theorem BX6_resend_5 {d Z L : Nat} {xs : Nat → Int32} {z : Nat} {Φ : Out → T2 → T3 → Nat → Prop} {I : T2} {J : T3} {x1 : Int32} {as0 : Nat} (hk_as0 : kd as0 = 1) 
    (k : Ev d Z L xs mX6_resend 14 [some (.ref 0), some (.int x1), some (.ref as0), none] [.ref 12, .ref (as0 + 4)] I J z Φ) : Ev d Z L xs mX6_resend 5 [some (.ref 0), some (.int x1), none, none] [.ref as0] I J z Φ := by
  refine Ev.blk (ops := [o0 (.astore_n 2) 1, o0 (.aload_n 2) 1, oK (.getfield 134) 3 1 0, o0 (.aload_n 0) 1, oK (.getfield 25) 3 6 2]) (G := True ∧ True ∧ (kd as0 = 1) ∧ True ∧ (kd 0 = 6) ∧ True) (by decide +kernel) ?_ ⟨trivial, trivial, hk_as0, trivial, (by decide), trivial⟩ k
  rfl
theorem BX6_resend_17 {d Z L : Nat} {xs : Nat → Int32} {z : Nat} {Φ : Out → T2 → T3 → Nat → Prop} {I : T2} {J : T3} {x1 : Int32} {a2 : Nat} {xs0 : Int32} (hk_a2 : kd a2 = 1) 
    (k : Ev d Z L xs mX6_resend 27 [some (.ref 0), some (.int x1), some (.ref a2), some (.int xs0)] [.ref 12, .ref (a2 + 9), .int xs0] I J z Φ) : Ev d Z L xs mX6_resend 17 [some (.ref 0), some (.int x1), some (.ref a2), none] [.int xs0] I J z Φ := by
  refine Ev.blk (ops := [o0 (.istore_n 3) 1, o0 (.iload_n 3) 1, o0 (.aload_n 2) 1, oK (.getfield 174) 3 1 1, o0 (.aload_n 0) 1, oK (.getfield 25) 3 6 2]) (G := True ∧ True ∧ True ∧ (kd a2 = 1) ∧ True ∧ (kd 0 = 6) ∧ True) (by decide +kernel) ?_ ⟨trivial, trivial, trivial, hk_a2, trivial, (by decide), trivial⟩ k
  rfl
theorem BX6_resend_30 {d Z L : Nat} {xs : Nat → Int32} {z : Nat} {Φ : Out → T2 → T3 → Nat → Prop} {I : T2} {J : T3} {x1 : Int32} {a2 : Nat} {x3 : Int32} {xs0 : Int32} {xs1 : Int32}  
    (k : Ev d Z L xs mX6_resend 31 [some (.ref 0), some (.int x1), some (.ref a2), some (.int x3)] [.int (xs0 + xs1)] I J z Φ) : Ev d Z L xs mX6_resend 30 [some (.ref 0), some (.int x1), some (.ref a2), some (.int x3)] [.int xs1, .int xs0] I J z Φ := by
  refine Ev.blk (ops := [o0 (.iadd) 1]) (G := True ∧ True) (by decide +kernel) ?_ ⟨trivial, trivial⟩ k
  rfl
theorem BX6_letter_0 {d Z L : Nat} {xs : Nat → Int32} {z : Nat} {Φ : Out → T2 → T3 → Nat → Prop} {I : T2} {J : T3} {x1 : Int32} {x2 : Int32}  
    (k : Ev d Z L xs mX6_letter 2 [some (.ref 0), some (.int x1), some (.int x2)] [.int x1, .ref 0] I J z Φ) : Ev d Z L xs mX6_letter 0 [some (.ref 0), some (.int x1), some (.int x2)] [] I J z Φ := by
  refine Ev.blk (ops := [o0 (.aload_n 0) 1, o0 (.iload_n 1) 1]) (G := True ∧ True ∧ True) (by decide +kernel) ?_ ⟨trivial, trivial, trivial⟩ k
  rfl
theorem BX6_letter_5 {d Z L : Nat} {xs : Nat → Int32} {z : Nat} {Φ : Out → T2 → T3 → Nat → Prop} {I : T2} {J : T3} {x1 : Int32} {x2 : Int32}  
    (k : Ev d Z L xs mX6_letter 6 [some (.ref 0), some (.int x1), some (.int x2)] [.int x2] I J z Φ) : Ev d Z L xs mX6_letter 5 [some (.ref 0), some (.int x1), some (.int x2)] [] I J z Φ := by
  refine Ev.blk (ops := [o0 (.iload_n 2) 1]) (G := True ∧ True) (by decide +kernel) ?_ ⟨trivial, trivial⟩ k
  rfl
theorem BX6_letter_9 {d Z L : Nat} {xs : Nat → Int32} {z : Nat} {Φ : Out → T2 → T3 → Nat → Prop} {I : T2} {J : T3} {x1 : Int32} {x2 : Int32}  
    (k : Ev d Z L xs mX6_letter 12 [some (.ref 0), some (.int x1), some (.int x2)] [.int 6, .int x2] I J z Φ) : Ev d Z L xs mX6_letter 9 [some (.ref 0), some (.int x1), some (.int x2)] [] I J z Φ := by
  refine Ev.blk (ops := [o0 (.iload_n 2) 1, oI (.bipush 6) 2 6]) (G := True ∧ True ∧ True) (by decide +kernel) ?_ ⟨trivial, trivial, trivial⟩ k
  rfl
theorem BX6_letter_18 {d Z L : Nat} {xs : Nat → Int32} {z : Nat} {Φ : Out → T2 → T3 → Nat → Prop} {I : T2} {J : T3} {x1 : Int32} {x2 : Int32} {as0 : Nat}  
    (k : Ev d Z L xs mX6_letter 19 [some (.ref 0), some (.int x1), some (.int x2)] [.ref as0, .ref as0] I J z Φ) : Ev d Z L xs mX6_letter 18 [some (.ref 0), some (.int x1), some (.int x2)] [.ref as0] I J z Φ := by
  refine Ev.blk (ops := [o0 (.dup) 1]) (G := True ∧ True) (by decide +kernel) ?_ ⟨trivial, trivial⟩ k
  rfl
theorem BX6_letter_23 {d Z L : Nat} {xs : Nat → Int32} {z : Nat} {Φ : Out → T2 → T3 → Nat → Prop} {I : T2} {J : T3} {x1 : Int32} {x2 : Int32}  
    (k : Ev d Z L xs mX6_letter 29 [some (.ref 0), some (.int x1), some (.int x2)] [.int x2, .int x1, .ref 12] I J z Φ) : Ev d Z L xs mX6_letter 23 [some (.ref 0), some (.int x1), some (.int x2)] [] I J z Φ := by
  refine Ev.blk (ops := [o0 (.aload_n 0) 1, oK (.getfield 25) 3 6 2, o0 (.iload_n 1) 1, o0 (.iload_n 2) 1]) (G := True ∧ (kd 0 = 6) ∧ True ∧ True ∧ True) (by decide +kernel) ?_ ⟨trivial, (by decide), trivial, trivial, trivial⟩ k
  rfl
theorem BX6_crash_0 {d Z L : Nat} {xs : Nat → Int32} {z : Nat} {Φ : Out → T2 → T3 → Nat → Prop} {I : T2} {J : T3} {x1 : Int32}  
    (k : Ev d Z L xs mX6_crash 2 [some (.ref 0), some (.int x1), none] [.int x1, .ref 0] I J z Φ) : Ev d Z L xs mX6_crash 0 [some (.ref 0), some (.int x1), none] [] I J z Φ := by
  refine Ev.blk (ops := [o0 (.aload_n 0) 1, o0 (.iload_n 1) 1]) (G := True ∧ True ∧ True) (by decide +kernel) ?_ ⟨trivial, trivial, trivial⟩ k
  rfl
theorem BX6_crash_5 {d Z L : Nat} {xs : Nat → Int32} {z : Nat} {Φ : Out → T2 → T3 → Nat → Prop} {I : T2} {J : T3} {x1 : Int32} {as0 : Nat} (hk_as0 : kd as0 = 1) 
    (k : Ev d Z L xs mX6_crash 10 [some (.ref 0), some (.int x1), some (.ref as0)] [.int (I as0 8)] I J z Φ) : Ev d Z L xs mX6_crash 5 [some (.ref 0), some (.int x1), none] [.ref as0] I J z Φ := by
  refine Ev.blk (ops := [o0 (.astore_n 2) 1, o0 (.aload_n 2) 1, oK (.getfield 112) 3 1 8]) (G := True ∧ True ∧ (kd as0 = 1) ∧ True) (by decide +kernel) ?_ ⟨trivial, trivial, hk_as0, trivial⟩ k
  rfl
theorem BX6_crash_13 {d Z L : Nat} {xs : Nat → Int32} {z : Nat} {Φ : Out → T2 → T3 → Nat → Prop} {I : T2} {J : T3} {x1 : Int32} {a2 : Nat} (hk_a2 : kd a2 = 1) 
    (k : Ev d Z L xs mX6_crash 18 [some (.ref 0), some (.int x1), some (.ref a2)] [] (up2 I a2 8 0) J z Φ) : Ev d Z L xs mX6_crash 13 [some (.ref 0), some (.int x1), some (.ref a2)] [] I J z Φ := by
  refine Ev.blk (ops := [o0 (.aload_n 2) 1, oI (.iconst 0) 1 0, oK (.putfield 112) 3 1 8]) (G := True ∧ True ∧ (kd a2 = 1 ∧ (0 = (0 : Int32) ∨ 0 = (1 : Int32))) ∧ True) (by decide +kernel) ?_ ⟨trivial, trivial, ⟨hk_a2, Or.inl rfl⟩, trivial⟩ k
  rfl
theorem BX6_restart_0 {d Z L : Nat} {xs : Nat → Int32} {z : Nat} {Φ : Out → T2 → T3 → Nat → Prop} {I : T2} {J : T3} {x1 : Int32}  
    (k : Ev d Z L xs mX6_restart 2 [some (.ref 0), some (.int x1), none] [.int x1, .ref 0] I J z Φ) : Ev d Z L xs mX6_restart 0 [some (.ref 0), some (.int x1), none] [] I J z Φ := by
  refine Ev.blk (ops := [o0 (.aload_n 0) 1, o0 (.iload_n 1) 1]) (G := True ∧ True ∧ True) (by decide +kernel) ?_ ⟨trivial, trivial, trivial⟩ k
  rfl
theorem BX6_restart_5 {d Z L : Nat} {xs : Nat → Int32} {z : Nat} {Φ : Out → T2 → T3 → Nat → Prop} {I : T2} {J : T3} {x1 : Int32} {as0 : Nat} (hk_as0 : kd as0 = 1) 
    (k : Ev d Z L xs mX6_restart 10 [some (.ref 0), some (.int x1), some (.ref as0)] [.int (I as0 8)] I J z Φ) : Ev d Z L xs mX6_restart 5 [some (.ref 0), some (.int x1), none] [.ref as0] I J z Φ := by
  refine Ev.blk (ops := [o0 (.astore_n 2) 1, o0 (.aload_n 2) 1, oK (.getfield 112) 3 1 8]) (G := True ∧ True ∧ (kd as0 = 1) ∧ True) (by decide +kernel) ?_ ⟨trivial, trivial, hk_as0, trivial⟩ k
  rfl
theorem BX6_restart_13 {d Z L : Nat} {xs : Nat → Int32} {z : Nat} {Φ : Out → T2 → T3 → Nat → Prop} {I : T2} {J : T3} {x1 : Int32} {a2 : Nat}  
    (k : Ev d Z L xs mX6_restart 14 [some (.ref 0), some (.int x1), some (.ref a2)] [.int 0] I J z Φ) : Ev d Z L xs mX6_restart 13 [some (.ref 0), some (.int x1), some (.ref a2)] [] I J z Φ := by
  refine Ev.blk (ops := [oI (.iconst 0) 1 0]) (G := True ∧ True) (by decide +kernel) ?_ ⟨trivial, trivial⟩ k
  rfl
theorem BX6_restart_15 {d Z L : Nat} {xs : Nat → Int32} {z : Nat} {Φ : Out → T2 → T3 → Nat → Prop} {I : T2} {J : T3} {x1 : Int32} {a2 : Nat}  
    (k : Ev d Z L xs mX6_restart 16 [some (.ref 0), some (.int x1), some (.ref a2)] [.ref a2] I J z Φ) : Ev d Z L xs mX6_restart 15 [some (.ref 0), some (.int x1), some (.ref a2)] [] I J z Φ := by
  refine Ev.blk (ops := [o0 (.aload_n 2) 1]) (G := True ∧ True) (by decide +kernel) ?_ ⟨trivial, trivial⟩ k
  rfl
theorem BX6_restart_19 {d Z L : Nat} {xs : Nat → Int32} {z : Nat} {Φ : Out → T2 → T3 → Nat → Prop} {I : T2} {J : T3} {x1 : Int32} {a2 : Nat}  
    (k : Ev d Z L xs mX6_restart 20 [some (.ref 0), some (.int x1), some (.ref a2)] [.int 1] I J z Φ) : Ev d Z L xs mX6_restart 19 [some (.ref 0), some (.int x1), some (.ref a2)] [] I J z Φ := by
  refine Ev.blk (ops := [oI (.iconst 1) 1 1]) (G := True ∧ True) (by decide +kernel) ?_ ⟨trivial, trivial⟩ k
  rfl
theorem BX6_about_0 {d Z L : Nat} {xs : Nat → Int32} {z : Nat} {Φ : Out → T2 → T3 → Nat → Prop} {I : T2} {J : T3} {x1 : Int32} {x2 : Int32}  
    (k : Ev d Z L xs mX6_about 2 [some (.ref 0), some (.int x1), some (.int x2), none] [.int x1, .ref 0] I J z Φ) : Ev d Z L xs mX6_about 0 [some (.ref 0), some (.int x1), some (.int x2), none] [] I J z Φ := by
  refine Ev.blk (ops := [o0 (.aload_n 0) 1, o0 (.iload_n 1) 1]) (G := True ∧ True ∧ True) (by decide +kernel) ?_ ⟨trivial, trivial, trivial⟩ k
  rfl
theorem BX6_about_5 {d Z L : Nat} {xs : Nat → Int32} {z : Nat} {Φ : Out → T2 → T3 → Nat → Prop} {I : T2} {J : T3} {x1 : Int32} {x2 : Int32} {as0 : Nat}  
    (k : Ev d Z L xs mX6_about 7 [some (.ref 0), some (.int x1), some (.int x2), some (.ref as0)] [.int x2] I J z Φ) : Ev d Z L xs mX6_about 5 [some (.ref 0), some (.int x1), some (.int x2), none] [.ref as0] I J z Φ := by
  refine Ev.blk (ops := [o0 (.astore_n 3) 1, o0 (.iload_n 2) 1]) (G := True ∧ True ∧ True) (by decide +kernel) ?_ ⟨trivial, trivial, trivial⟩ k
  rfl
theorem BX6_about_32 {d Z L : Nat} {xs : Nat → Int32} {z : Nat} {Φ : Out → T2 → T3 → Nat → Prop} {I : T2} {J : T3} {x1 : Int32} {x2 : Int32} {a3 : Nat} (hk_a3 : kd a3 = 1) 
    (k : Ev d Z L xs mX6_about 36 [some (.ref 0), some (.int x1), some (.int x2), some (.ref a3)] [.long (J a3 6)] I J z Φ) : Ev d Z L xs mX6_about 32 [some (.ref 0), some (.int x1), some (.int x2), some (.ref a3)] [] I J z Φ := by
  refine Ev.blk (ops := [o0 (.aload_n 3) 1, oK (.getfield 271) 3 1 6]) (G := True ∧ (kd a3 = 1) ∧ True) (by decide +kernel) ?_ ⟨trivial, hk_a3, trivial⟩ k
  rfl
theorem BX6_about_37 {d Z L : Nat} {xs : Nat → Int32} {z : Nat} {Φ : Out → T2 → T3 → Nat → Prop} {I : T2} {J : T3} {x1 : Int32} {x2 : Int32} {a3 : Nat} (hk_a3 : kd a3 = 1) 
    (k : Ev d Z L xs mX6_about 42 [some (.ref 0), some (.int x1), some (.int x2), some (.ref a3)] [.long ((I a3 7).toInt64)] I J z Φ) : Ev d Z L xs mX6_about 37 [some (.ref 0), some (.int x1), some (.int x2), some (.ref a3)] [] I J z Φ := by
  refine Ev.blk (ops := [o0 (.aload_n 3) 1, oK (.getfield 127) 3 1 7, o0 (.i2l) 1]) (G := True ∧ (kd a3 = 1) ∧ True ∧ True) (by decide +kernel) ?_ ⟨trivial, hk_a3, trivial, trivial⟩ k
  rfl
theorem BX6_about_43 {d Z L : Nat} {xs : Nat → Int32} {z : Nat} {Φ : Out → T2 → T3 → Nat → Prop} {I : T2} {J : T3} {x1 : Int32} {x2 : Int32} {a3 : Nat} (hk_a3 : kd a3 = 1) 
    (k : Ev d Z L xs mX6_about 47 [some (.ref 0), some (.int x1), some (.int x2), some (.ref a3)] [.int (I a3 8)] I J z Φ) : Ev d Z L xs mX6_about 43 [some (.ref 0), some (.int x1), some (.int x2), some (.ref a3)] [] I J z Φ := by
  refine Ev.blk (ops := [o0 (.aload_n 3) 1, oK (.getfield 112) 3 1 8]) (G := True ∧ (kd a3 = 1) ∧ True) (by decide +kernel) ?_ ⟨trivial, hk_a3, trivial⟩ k
  rfl
theorem BX6_about_50 {d Z L : Nat} {xs : Nat → Int32} {z : Nat} {Φ : Out → T2 → T3 → Nat → Prop} {I : T2} {J : T3} {x1 : Int32} {x2 : Int32} {a3 : Nat}  
    (k : Ev d Z L xs mX6_about 55 [some (.ref 0), some (.int x1), some (.int x2), some (.ref a3)] [.long 1] I J z Φ) : Ev d Z L xs mX6_about 50 [some (.ref 0), some (.int x1), some (.int x2), some (.ref a3)] [] I J z Φ := by
  refine Ev.blk (ops := [oL (.lconst 1) 1 1, oK (.goto 4) 3 55 0]) (G := True ∧ True ∧ True) (by decide +kernel) ?_ ⟨trivial, trivial, trivial⟩ k
  rfl
theorem BX6_about_54 {d Z L : Nat} {xs : Nat → Int32} {z : Nat} {Φ : Out → T2 → T3 → Nat → Prop} {I : T2} {J : T3} {x1 : Int32} {x2 : Int32} {a3 : Nat}  
    (k : Ev d Z L xs mX6_about 55 [some (.ref 0), some (.int x1), some (.int x2), some (.ref a3)] [.long 0] I J z Φ) : Ev d Z L xs mX6_about 54 [some (.ref 0), some (.int x1), some (.int x2), some (.ref a3)] [] I J z Φ := by
  refine Ev.blk (ops := [oL (.lconst 0) 1 0]) (G := True ∧ True) (by decide +kernel) ?_ ⟨trivial, trivial⟩ k
  rfl
theorem BX6_about_59 {d Z L : Nat} {xs : Nat → Int32} {z : Nat} {Φ : Out → T2 → T3 → Nat → Prop} {I : T2} {J : T3} {x1 : Int32} {x2 : Int32} {a3 : Nat} {as0 : Nat}  
    (k : Ev d Z L xs mX6_about 60 [some (.ref 0), some (.int x1), some (.int x2), some (.ref a3)] [.ref as0, .ref as0] I J z Φ) : Ev d Z L xs mX6_about 59 [some (.ref 0), some (.int x1), some (.int x2), some (.ref a3)] [.ref as0] I J z Φ := by
  refine Ev.blk (ops := [o0 (.dup) 1]) (G := True ∧ True) (by decide +kernel) ?_ ⟨trivial, trivial⟩ k
  rfl
theorem BX6_has_0 {d Z L : Nat} {xs : Nat → Int32} {z : Nat} {Φ : Out → T2 → T3 → Nat → Prop} {I : T2} {J : T3} {x1 : Int32} {x2 : Int32} {x3 : Int32}  
    (k : Ev d Z L xs mX6_has 2 [some (.ref 0), some (.int x1), some (.int x2), some (.int x3), none, none] [.int x1, .ref 0] I J z Φ) : Ev d Z L xs mX6_has 0 [some (.ref 0), some (.int x1), some (.int x2), some (.int x3), none, none] [] I J z Φ := by
  refine Ev.blk (ops := [o0 (.aload_n 0) 1, o0 (.iload_n 1) 1]) (G := True ∧ True ∧ True) (by decide +kernel) ?_ ⟨trivial, trivial, trivial⟩ k
  rfl
theorem BX6_has_5 {d Z L : Nat} {xs : Nat → Int32} {z : Nat} {Φ : Out → T2 → T3 → Nat → Prop} {I : T2} {J : T3} {x1 : Int32} {x2 : Int32} {x3 : Int32} {as0 : Nat}  
    (k : Ev d Z L xs mX6_has 8 [some (.ref 0), some (.int x1), some (.int x2), some (.int x3), some (.ref as0), none] [.int x3] I J z Φ) : Ev d Z L xs mX6_has 5 [some (.ref 0), some (.int x1), some (.int x2), some (.int x3), none, none] [.ref as0] I J z Φ := by
  refine Ev.blk (ops := [o0 (.astore 4) 2, o0 (.iload_n 3) 1]) (G := True ∧ True ∧ True) (by decide +kernel) ?_ ⟨trivial, trivial, trivial⟩ k
  rfl
theorem BX6_has_11 {d Z L : Nat} {xs : Nat → Int32} {z : Nat} {Φ : Out → T2 → T3 → Nat → Prop} {I : T2} {J : T3} {x1 : Int32} {x2 : Int32} {x3 : Int32} {a4 : Nat}  
    (k : Ev d Z L xs mX6_has 13 [some (.ref 0), some (.int x1), some (.int x2), some (.int x3), some (.ref a4), none] [.int 2, .int x3] I J z Φ) : Ev d Z L xs mX6_has 11 [some (.ref 0), some (.int x1), some (.int x2), some (.int x3), some (.ref a4), none] [] I J z Φ := by
  refine Ev.blk (ops := [o0 (.iload_n 3) 1, oI (.iconst 2) 1 2]) (G := True ∧ True ∧ True) (by decide +kernel) ?_ ⟨trivial, trivial, trivial⟩ k
  rfl
theorem BX6_has_19 {d Z L : Nat} {xs : Nat → Int32} {z : Nat} {Φ : Out → T2 → T3 → Nat → Prop} {I : T2} {J : T3} {x1 : Int32} {x2 : Int32} {x3 : Int32} {a4 : Nat} {as0 : Nat}  
    (k : Ev d Z L xs mX6_has 20 [some (.ref 0), some (.int x1), some (.int x2), some (.int x3), some (.ref a4), none] [.ref as0, .ref as0] I J z Φ) : Ev d Z L xs mX6_has 19 [some (.ref 0), some (.int x1), some (.int x2), some (.int x3), some (.ref a4), none] [.ref as0] I J z Φ := by
  refine Ev.blk (ops := [o0 (.dup) 1]) (G := True ∧ True) (by decide +kernel) ?_ ⟨trivial, trivial⟩ k
  rfl
theorem BX6_has_24 {d Z L : Nat} {xs : Nat → Int32} {z : Nat} {Φ : Out → T2 → T3 → Nat → Prop} {I : T2} {J : T3} {x1 : Int32} {x2 : Int32} {x3 : Int32} {a4 : Nat} (hk_a4 : kd a4 = 1) 
    (k : Ev d Z L xs mX6_has 30 [some (.ref 0), some (.int x1), some (.int x2), some (.int x3), some (.ref a4), none] [.int (I a4 7), .int x2] I J z Φ) : Ev d Z L xs mX6_has 24 [some (.ref 0), some (.int x1), some (.int x2), some (.int x3), some (.ref a4), none] [] I J z Φ := by
  refine Ev.blk (ops := [o0 (.iload_n 2) 1, o0 (.aload 4) 2, oK (.getfield 127) 3 1 7]) (G := True ∧ True ∧ (kd a4 = 1) ∧ True) (by decide +kernel) ?_ ⟨trivial, trivial, hk_a4, trivial⟩ k
  rfl
theorem BX6_has_33 {d Z L : Nat} {xs : Nat → Int32} {z : Nat} {Φ : Out → T2 → T3 → Nat → Prop} {I : T2} {J : T3} {x1 : Int32} {x2 : Int32} {x3 : Int32} {a4 : Nat} {xs0 : Int32}  
    (k : Ev d Z L xs mX6_has 38 [some (.ref 0), some (.int x1), some (.int x2), some (.int x3), some (.ref a4), some (.int xs0)] [.int (-1), .int xs0] I J z Φ) : Ev d Z L xs mX6_has 33 [some (.ref 0), some (.int x1), some (.int x2), some (.int x3), some (.ref a4), none] [.int xs0] I J z Φ := by
  refine Ev.blk (ops := [o0 (.istore 5) 2, o0 (.iload 5) 2, oI (.iconst (-1)) 1 (-1)]) (G := True ∧ True ∧ True ∧ True) (by decide +kernel) ?_ ⟨trivial, trivial, trivial, trivial⟩ k
  rfl
theorem BX6_has_41 {d Z L : Nat} {xs : Nat → Int32} {z : Nat} {Φ : Out → T2 → T3 → Nat → Prop} {I : T2} {J : T3} {x1 : Int32} {x2 : Int32} {x3 : Int32} {a4 : Nat} {x5 : Int32}  
    (k : Ev d Z L xs mX6_has 42 [some (.ref 0), some (.int x1), some (.int x2), some (.int x3), some (.ref a4), some (.int x5)] [.int 0] I J z Φ) : Ev d Z L xs mX6_has 41 [some (.ref 0), some (.int x1), some (.int x2), some (.int x3), some (.ref a4), some (.int x5)] [] I J z Φ := by
  refine Ev.blk (ops := [oI (.iconst 0) 1 0]) (G := True ∧ True) (by decide +kernel) ?_ ⟨trivial, trivial⟩ k
  rfl
theorem BX6_has_43 {d Z L : Nat} {xs : Nat → Int32} {z : Nat} {Φ : Out → T2 → T3 → Nat → Prop} {I : T2} {J : T3} {x1 : Int32} {x2 : Int32} {x3 : Int32} {a4 : Nat} {x5 : Int32}  
    (k : Ev d Z L xs mX6_has 44 [some (.ref 0), some (.int x1), some (.int x2), some (.int x3), some (.ref a4), some (.int x5)] [.int x3] I J z Φ) : Ev d Z L xs mX6_has 43 [some (.ref 0), some (.int x1), some (.int x2), some (.int x3), some (.ref a4), some (.int x5)] [] I J z Φ := by
  refine Ev.blk (ops := [o0 (.iload_n 3) 1]) (G := True ∧ True) (by decide +kernel) ?_ ⟨trivial, trivial⟩ k
  rfl
theorem BX6_has_47 {d Z L : Nat} {xs : Nat → Int32} {z : Nat} {Φ : Out → T2 → T3 → Nat → Prop} {I : T2} {J : T3} {x1 : Int32} {x2 : Int32} {x3 : Int32} {a4 : Nat} {x5 : Int32} (hk_a4 : kd a4 = 1) (g1 : vp_in x5 3)
    (k : Ev d Z L xs mX6_has 55 [some (.ref 0), some (.int x1), some (.int x2), some (.int x3), some (.ref a4), some (.int x5)] [.int (I (a4 + 1) x5.toNatClampNeg)] I J z Φ) : Ev d Z L xs mX6_has 47 [some (.ref 0), some (.int x1), some (.int x2), some (.int x3), some (.ref a4), some (.int x5)] [] I J z Φ := by
  refine Ev.blk (ops := [o0 (.aload 4) 2, oK (.getfield 274) 3 1 2, o0 (.iload 5) 2, o0 (.iaload) 1]) (G := True ∧ (kd a4 = 1) ∧ True ∧ (kd (a4 + 1) = 8 ∧ vp_in x5 (ln (a4 + 1))) ∧ True) (by decide +kernel) ?_ ⟨trivial, hk_a4, trivial, ⟨(kg_1 hk_a4), (ln_to (lg_1 hk_a4) g1)⟩, trivial⟩ k
  rfl
theorem BX6_has_56 {d Z L : Nat} {xs : Nat → Int32} {z : Nat} {Φ : Out → T2 → T3 → Nat → Prop} {I : T2} {J : T3} {x1 : Int32} {x2 : Int32} {x3 : Int32} {a4 : Nat} {x5 : Int32}  
    (k : Ev d Z L xs mX6_has 58 [some (.ref 0), some (.int x1), some (.int x2), some (.int x3), some (.ref a4), some (.int x5)] [.int 1, .int x3] I J z Φ) : Ev d Z L xs mX6_has 56 [some (.ref 0), some (.int x1), some (.int x2), some (.int x3), some (.ref a4), some (.int x5)] [] I J z Φ := by
  refine Ev.blk (ops := [o0 (.iload_n 3) 1, oI (.iconst 1) 1 1]) (G := True ∧ True ∧ True) (by decide +kernel) ?_ ⟨trivial, trivial, trivial⟩ k
  rfl
theorem BX6_has_61 {d Z L : Nat} {xs : Nat → Int32} {z : Nat} {Φ : Out → T2 → T3 → Nat → Prop} {I : T2} {J : T3} {x1 : Int32} {x2 : Int32} {x3 : Int32} {a4 : Nat} {x5 : Int32} (hk_a4 : kd a4 = 1) (g1 : vp_in x5 3)
    (k : Ev d Z L xs mX6_has 80 [some (.ref 0), some (.int x1), some (.int x2), some (.int x3), some (.ref a4), some (.int x5)] [.int (I (a4 + 2) x5.toNatClampNeg)] I J z Φ) : Ev d Z L xs mX6_has 61 [some (.ref 0), some (.int x1), some (.int x2), some (.int x3), some (.ref a4), some (.int x5)] [] I J z Φ := by
  refine Ev.blk (ops := [o0 (.aload 4) 2, oK (.getfield 277) 3 1 3, o0 (.iload 5) 2, o0 (.iaload) 1, oK (.goto 11) 3 80 0]) (G := True ∧ (kd a4 = 1) ∧ True ∧ (kd (a4 + 2) = 8 ∧ vp_in x5 (ln (a4 + 2))) ∧ True ∧ True) (by decide +kernel) ?_ ⟨trivial, hk_a4, trivial, ⟨(kg_2 hk_a4), (ln_to (lg_2 hk_a4) g1)⟩, trivial, trivial⟩ k
  rfl
theorem BX6_has_72 {d Z L : Nat} {xs : Nat → Int32} {z : Nat} {Φ : Out → T2 → T3 → Nat → Prop} {I : T2} {J : T3} {x1 : Int32} {x2 : Int32} {x3 : Int32} {a4 : Nat} {x5 : Int32} (hk_a4 : kd a4 = 1) (g1 : vp_in x5 3)
    (k : Ev d Z L xs mX6_has 80 [some (.ref 0), some (.int x1), some (.int x2), some (.int x3), some (.ref a4), some (.int x5)] [.int (I (a4 + 3) x5.toNatClampNeg)] I J z Φ) : Ev d Z L xs mX6_has 72 [some (.ref 0), some (.int x1), some (.int x2), some (.int x3), some (.ref a4), some (.int x5)] [] I J z Φ := by
  refine Ev.blk (ops := [o0 (.aload 4) 2, oK (.getfield 280) 3 1 4, o0 (.iload 5) 2, o0 (.iaload) 1]) (G := True ∧ (kd a4 = 1) ∧ True ∧ (kd (a4 + 3) = 8 ∧ vp_in x5 (ln (a4 + 3))) ∧ True) (by decide +kernel) ?_ ⟨trivial, hk_a4, trivial, ⟨(kg_3 hk_a4), (ln_to (lg_3 hk_a4) g1)⟩, trivial⟩ k
  rfl
theorem BX6_busiest_0 {d Z L : Nat} {xs : Nat → Int32} {z : Nat} {Φ : Out → T2 → T3 → Nat → Prop} {I : T2} {J : T3} {x1 : Int32}  
    (k : Ev d Z L xs mX6_busiest 2 [some (.ref 0), some (.int x1)] [.int 1, .int x1] I J z Φ) : Ev d Z L xs mX6_busiest 0 [some (.ref 0), some (.int x1)] [] I J z Φ := by
  refine Ev.blk (ops := [o0 (.iload_n 1) 1, oI (.iconst 1) 1 1]) (G := True ∧ True ∧ True) (by decide +kernel) ?_ ⟨trivial, trivial, trivial⟩ k
  rfl
theorem BX6_busiest_5 {d Z L : Nat} {xs : Nat → Int32} {z : Nat} {Φ : Out → T2 → T3 → Nat → Prop} {I : T2} {J : T3} {x1 : Int32}  
    (k : Ev d Z L xs mX6_busiest 8 [some (.ref 0), some (.int x1)] [.int 1000000, .int x1] I J z Φ) : Ev d Z L xs mX6_busiest 5 [some (.ref 0), some (.int x1)] [] I J z Φ := by
  refine Ev.blk (ops := [o0 (.iload_n 1) 1, oI (.ldc 57) 2 1000000]) (G := True ∧ True ∧ True) (by decide +kernel) ?_ ⟨trivial, trivial, trivial⟩ k
  rfl
theorem BX6_busiest_14 {d Z L : Nat} {xs : Nat → Int32} {z : Nat} {Φ : Out → T2 → T3 → Nat → Prop} {I : T2} {J : T3} {x1 : Int32} {as0 : Nat}  
    (k : Ev d Z L xs mX6_busiest 15 [some (.ref 0), some (.int x1)] [.ref as0, .ref as0] I J z Φ) : Ev d Z L xs mX6_busiest 14 [some (.ref 0), some (.int x1)] [.ref as0] I J z Φ := by
  refine Ev.blk (ops := [o0 (.dup) 1]) (G := True ∧ True) (by decide +kernel) ?_ ⟨trivial, trivial⟩ k
  rfl
theorem BX6_busiest_19 {d Z L : Nat} {xs : Nat → Int32} {z : Nat} {Φ : Out → T2 → T3 → Nat → Prop} {I : T2} {J : T3} {x1 : Int32}  
    (k : Ev d Z L xs mX6_busiest 24 [some (.ref 0), some (.int x1)] [.int x1, .ref 19] I J z Φ) : Ev d Z L xs mX6_busiest 19 [some (.ref 0), some (.int x1)] [] I J z Φ := by
  refine Ev.blk (ops := [o0 (.aload_n 0) 1, oK (.getfield 39) 3 6 4, o0 (.iload_n 1) 1]) (G := True ∧ (kd 0 = 6) ∧ True ∧ True) (by decide +kernel) ?_ ⟨trivial, (by decide), trivial, trivial⟩ k
  rfl
theorem BX6_count_0 {d Z L : Nat} {xs : Nat → Int32} {z : Nat} {Φ : Out → T2 → T3 → Nat → Prop} {I : T2} {J : T3} {x1 : Int32}  
    (k : Ev d Z L xs mX6_count 1 [some (.ref 0), some (.int x1)] [.int x1] I J z Φ) : Ev d Z L xs mX6_count 0 [some (.ref 0), some (.int x1)] [] I J z Φ := by
  refine Ev.blk (ops := [o0 (.iload_n 1) 1]) (G := True ∧ True) (by decide +kernel) ?_ ⟨trivial, trivial⟩ k
  rfl
theorem BX6_count_32 {d Z L : Nat} {xs : Nat → Int32} {z : Nat} {Φ : Out → T2 → T3 → Nat → Prop} {I : T2} {J : T3} {x1 : Int32}  
    (k : Ev d Z L xs mX6_count 39 [some (.ref 0), some (.int x1)] [.int (I 12 2)] I J z Φ) : Ev d Z L xs mX6_count 32 [some (.ref 0), some (.int x1)] [] I J z Φ := by
  refine Ev.blk (ops := [o0 (.aload_n 0) 1, oK (.getfield 25) 3 6 2, oK (.getfield 214) 3 3 2]) (G := True ∧ (kd 0 = 6) ∧ (kd 12 = 3) ∧ True) (by decide +kernel) ?_ ⟨trivial, (by decide), (by decide), trivial⟩ k
  rfl
theorem BX6_count_40 {d Z L : Nat} {xs : Nat → Int32} {z : Nat} {Φ : Out → T2 → T3 → Nat → Prop} {I : T2} {J : T3} {x1 : Int32}  
    (k : Ev d Z L xs mX6_count 49 [some (.ref 0), some (.int x1)] [.int (((J 0 10) &&& 2147483647).toInt32)] I J z Φ) : Ev d Z L xs mX6_count 40 [some (.ref 0), some (.int x1)] [] I J z Φ := by
  refine Ev.blk (ops := [o0 (.aload_n 0) 1, oK (.getfield 73) 3 6 10, oL (.ldc2_w 286) 3 2147483647, o0 (.land) 1, o0 (.l2i) 1]) (G := True ∧ (kd 0 = 6) ∧ True ∧ True ∧ True ∧ True) (by decide +kernel) ?_ ⟨trivial, (by decide), trivial, trivial, trivial, trivial⟩ k
  rfl
theorem BX6_count_50 {d Z L : Nat} {xs : Nat → Int32} {z : Nat} {Φ : Out → T2 → T3 → Nat → Prop} {I : T2} {J : T3} {x1 : Int32}  
    (k : Ev d Z L xs mX6_count 54 [some (.ref 0), some (.int x1)] [.int (I 0 7)] I J z Φ) : Ev d Z L xs mX6_count 50 [some (.ref 0), some (.int x1)] [] I J z Φ := by
  refine Ev.blk (ops := [o0 (.aload_n 0) 1, oK (.getfield 63) 3 6 7]) (G := True ∧ (kd 0 = 6) ∧ True) (by decide +kernel) ?_ ⟨trivial, (by decide), trivial⟩ k
  rfl
theorem BX6_count_55 {d Z L : Nat} {xs : Nat → Int32} {z : Nat} {Φ : Out → T2 → T3 → Nat → Prop} {I : T2} {J : T3} {x1 : Int32}  
    (k : Ev d Z L xs mX6_count 59 [some (.ref 0), some (.int x1)] [.ref 2] I J z Φ) : Ev d Z L xs mX6_count 55 [some (.ref 0), some (.int x1)] [] I J z Φ := by
  refine Ev.blk (ops := [o0 (.aload_n 0) 1, oK (.getfield 18) 3 6 1]) (G := True ∧ (kd 0 = 6) ∧ True) (by decide +kernel) ?_ ⟨trivial, (by decide), trivial⟩ k
  rfl
theorem BX6_count_66 {d Z L : Nat} {xs : Nat → Int32} {z : Nat} {Φ : Out → T2 → T3 → Nat → Prop} {I : T2} {J : T3} {x1 : Int32} {as0 : Nat}  
    (k : Ev d Z L xs mX6_count 67 [some (.ref 0), some (.int x1)] [.ref as0, .ref as0] I J z Φ) : Ev d Z L xs mX6_count 66 [some (.ref 0), some (.int x1)] [.ref as0] I J z Φ := by
  refine Ev.blk (ops := [o0 (.dup) 1]) (G := True ∧ True) (by decide +kernel) ?_ ⟨trivial, trivial⟩ k
  rfl
