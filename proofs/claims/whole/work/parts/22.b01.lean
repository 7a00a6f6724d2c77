theorem BX1_init_0 {d Z L : Nat} {xs : Nat → Int32} {z : Nat} {Φ : Out → T2 → T3 → Nat → Prop} {I : T2} {J : T3} {a0 : Nat} {x1 : Int32}  
    (k : Ev d Z L xs mX1_init 1 [some (.ref a0), some (.int x1)] [.ref a0] I J z Φ) : Ev d Z L xs mX1_init 0 [some (.ref a0), some (.int x1)] [] I J z Φ := by
  refine Ev.blk (ops := [o0 (.aload_n 0) 1]) (G := True ∧ True) (by decide +kernel) ?_ ⟨trivial, trivial⟩ k
  rfl
theorem BX1_init_4 {d Z L : Nat} {xs : Nat → Int32} {z : Nat} {Φ : Out → T2 → T3 → Nat → Prop} {I : T2} {J : T3} {a0 : Nat} {x1 : Int32}  
    (k : Ev d Z L xs mX1_init 6 [some (.ref a0), some (.int x1)] [.int 3, .ref a0] I J z Φ) : Ev d Z L xs mX1_init 4 [some (.ref a0), some (.int x1)] [] I J z Φ := by
  refine Ev.blk (ops := [o0 (.aload_n 0) 1, oI (.iconst 3) 1 3]) (G := True ∧ True ∧ True) (by decide +kernel) ?_ ⟨trivial, trivial, trivial⟩ k
  rfl
theorem BX1_init_29 {d Z L : Nat} {xs : Nat → Int32} {z : Nat} {Φ : Out → T2 → T3 → Nat → Prop} {I : T2} {J : T3} {a0 : Nat} {x1 : Int32} {as0 : Nat} {as1 : Nat}  
    (k : Ev d Z L xs mX1_init 31 [some (.ref a0), some (.int x1)] [.int x1, .ref as1, .ref as1, .ref as0] I J z Φ) : Ev d Z L xs mX1_init 29 [some (.ref a0), some (.int x1)] [.ref as1, .ref as0] I J z Φ := by
  refine Ev.blk (ops := [o0 (.dup) 1, o0 (.iload_n 1) 1]) (G := True ∧ True ∧ True) (by decide +kernel) ?_ ⟨trivial, trivial, trivial⟩ k
  rfl
theorem BX1_init_41 {d Z L : Nat} {xs : Nat → Int32} {z : Nat} {Φ : Out → T2 → T3 → Nat → Prop} {I : T2} {J : T3} {a0 : Nat} {x1 : Int32} {as0 : Nat} {as1 : Nat}  
    (k : Ev d Z L xs mX1_init 43 [some (.ref a0), some (.int x1)] [.int x1, .ref as1, .ref as1, .ref as0] I J z Φ) : Ev d Z L xs mX1_init 41 [some (.ref a0), some (.int x1)] [.ref as1, .ref as0] I J z Φ := by
  refine Ev.blk (ops := [o0 (.dup) 1, o0 (.iload_n 1) 1]) (G := True ∧ True ∧ True) (by decide +kernel) ?_ ⟨trivial, trivial, trivial⟩ k
  rfl
theorem BX1_begin_0 {d Z L : Nat} {xs : Nat → Int32} {z : Nat} {Φ : Out → T2 → T3 → Nat → Prop} {I : T2} {J : T3} {a0 : Nat} {y1 : Int64} (hk_a0 : kd a0 = 1) 
    (k : Ev d Z L xs mX1_begin 4 [some (.ref a0), some (.long y1), none] [.ref (a0 + 4)] I J z Φ) : Ev d Z L xs mX1_begin 0 [some (.ref a0), some (.long y1), none] [] I J z Φ := by
  refine Ev.blk (ops := [o0 (.aload_n 0) 1, oK (.getfield 26) 3 1 0]) (G := True ∧ (kd a0 = 1) ∧ True) (by decide +kernel) ?_ ⟨trivial, hk_a0, trivial⟩ k
  rfl
theorem BX1_begin_7 {d Z L : Nat} {xs : Nat → Int32} {z : Nat} {Φ : Out → T2 → T3 → Nat → Prop} {I : T2} {J : T3} {a0 : Nat} {y1 : Int64} (hk_a0 : kd a0 = 1) 
    (k : Ev d Z L xs mX1_begin 11 [some (.ref a0), some (.long y1), none] [.ref (a0 + 9)] I J z Φ) : Ev d Z L xs mX1_begin 7 [some (.ref a0), some (.long y1), none] [] I J z Φ := by
  refine Ev.blk (ops := [o0 (.aload_n 0) 1, oK (.getfield 30) 3 1 1]) (G := True ∧ (kd a0 = 1) ∧ True) (by decide +kernel) ?_ ⟨trivial, hk_a0, trivial⟩ k
  rfl
theorem BX1_begin_14 {d Z L : Nat} {xs : Nat → Int32} {z : Nat} {Φ : Out → T2 → T3 → Nat → Prop} {I : T2} {J : T3} {a0 : Nat} {y1 : Int64} (hk_a0 : kd a0 = 1) 
    (k : Ev d Z L xs mX1_begin 19 [some (.ref a0), some (.long y1), none] [.int 0, .ref (a0 + 1)] I J z Φ) : Ev d Z L xs mX1_begin 14 [some (.ref a0), some (.long y1), none] [] I J z Φ := by
  refine Ev.blk (ops := [o0 (.aload_n 0) 1, oK (.getfield 9) 3 1 2, oI (.iconst 0) 1 0]) (G := True ∧ (kd a0 = 1) ∧ True ∧ True) (by decide +kernel) ?_ ⟨trivial, hk_a0, trivial, trivial⟩ k
  rfl
theorem BX1_begin_22 {d Z L : Nat} {xs : Nat → Int32} {z : Nat} {Φ : Out → T2 → T3 → Nat → Prop} {I : T2} {J : T3} {a0 : Nat} {y1 : Int64} (hk_a0 : kd a0 = 1) 
    (k : Ev d Z L xs mX1_begin 27 [some (.ref a0), some (.long y1), none] [.int 0, .ref (a0 + 2)] I J z Φ) : Ev d Z L xs mX1_begin 22 [some (.ref a0), some (.long y1), none] [] I J z Φ := by
  refine Ev.blk (ops := [o0 (.aload_n 0) 1, oK (.getfield 15) 3 1 3, oI (.iconst 0) 1 0]) (G := True ∧ (kd a0 = 1) ∧ True ∧ True) (by decide +kernel) ?_ ⟨trivial, hk_a0, trivial, trivial⟩ k
  rfl
theorem BX1_begin_30 {d Z L : Nat} {xs : Nat → Int32} {z : Nat} {Φ : Out → T2 → T3 → Nat → Prop} {I : T2} {J : T3} {a0 : Nat} {y1 : Int64} (hk_a0 : kd a0 = 1) 
    (k : Ev d Z L xs mX1_begin 35 [some (.ref a0), some (.long y1), none] [.int 0, .ref (a0 + 3)] I J z Φ) : Ev d Z L xs mX1_begin 30 [some (.ref a0), some (.long y1), none] [] I J z Φ := by
  refine Ev.blk (ops := [o0 (.aload_n 0) 1, oK (.getfield 18) 3 1 4, oI (.iconst 0) 1 0]) (G := True ∧ (kd a0 = 1) ∧ True ∧ True) (by decide +kernel) ?_ ⟨trivial, hk_a0, trivial, trivial⟩ k
  rfl
theorem BX1_begin_38 {d Z L : Nat} {xs : Nat → Int32} {z : Nat} {Φ : Out → T2 → T3 → Nat → Prop} {I : T2} {J : T3} {a0 : Nat} {y1 : Int64} (hk_a0 : kd a0 = 1) 
    (k : Ev d Z L xs mX1_begin 58 [some (.ref a0), some (.long y1), none] [] (up2 (up2 (up2 I a0 5 0) a0 7 0) a0 8 1) (up3 J a0 6 y1) z Φ) : Ev d Z L xs mX1_begin 38 [some (.ref a0), some (.long y1), none] [] I J z Φ := by
  refine Ev.blk (ops := [o0 (.aload_n 0) 1, oI (.iconst 0) 1 0, oK (.putfield 42) 3 1 5, o0 (.aload_n 0) 1, o0 (.lload_n 1) 1, oK (.putfield 46) 3 1 6, o0 (.aload_n 0) 1, oI (.iconst 0) 1 0, oK (.putfield 50) 3 1 7, o0 (.aload_n 0) 1, oI (.iconst 1) 1 1, oK (.putfield 53) 3 1 8]) (G := True ∧ True ∧ (kd a0 = 1) ∧ True ∧ True ∧ (kd a0 = 1) ∧ True ∧ True ∧ (kd a0 = 1) ∧ True ∧ True ∧ (kd a0 = 1 ∧ (1 = (0 : Int32) ∨ 1 = (1 : Int32))) ∧ True) (by decide +kernel) ?_ ⟨trivial, trivial, hk_a0, trivial, trivial, hk_a0, trivial, trivial, hk_a0, trivial, trivial, ⟨hk_a0, Or.inr rfl⟩, trivial⟩ k
  rfl
theorem BX1_look_0 {d Z L : Nat} {xs : Nat → Int32} {z : Nat} {Φ : Out → T2 → T3 → Nat → Prop} {I : T2} {J : T3} {a0 : Nat} {y1 : Int64} {x3 : Int32} (hk_a0 : kd a0 = 1) 
    (k : Ev d Z L xs mX1_look 12 [some (.ref a0), some (.long y1), none, some (.int x3), none, none] [.long (y1 + ((I a0 5).toInt64)), .long (J a0 6), .ref a0] I J z Φ) : Ev d Z L xs mX1_look 0 [some (.ref a0), some (.long y1), none, some (.int x3), none, none] [] I J z Φ := by
  refine Ev.blk (ops := [o0 (.aload_n 0) 1, o0 (.aload_n 0) 1, oK (.getfield 46) 3 1 6, o0 (.lload_n 1) 1, o0 (.aload_n 0) 1, oK (.getfield 42) 3 1 5, o0 (.i2l) 1, o0 (.ladd) 1]) (G := True ∧ True ∧ (kd a0 = 1) ∧ True ∧ True ∧ (kd a0 = 1) ∧ True ∧ True ∧ True) (by decide +kernel) ?_ ⟨trivial, trivial, hk_a0, trivial, trivial, hk_a0, trivial, trivial, trivial⟩ k
  rfl
theorem BX1_look_15 {d Z L : Nat} {xs : Nat → Int32} {z : Nat} {Φ : Out → T2 → T3 → Nat → Prop} {I : T2} {J : T3} {a0 : Nat} {y1 : Int64} {x3 : Int32} {as0 : Nat} {ys1 : Int64} (hk_a0 : kd a0 = 1) (hk_as0 : kd as0 = 1) 
    (k : Ev d Z L xs mX1_look 23 [some (.ref a0), some (.long y1), none, some (.int x3), none, none] [.int x3, .long ((up3 J as0 6 ys1) a0 6)] I (up3 J as0 6 ys1) z Φ) : Ev d Z L xs mX1_look 15 [some (.ref a0), some (.long y1), none, some (.int x3), none, none] [.long ys1, .ref as0] I J z Φ := by
  refine Ev.blk (ops := [oK (.putfield 46) 3 1 6, o0 (.aload_n 0) 1, oK (.getfield 46) 3 1 6, o0 (.iload_n 3) 1]) (G := (kd as0 = 1) ∧ True ∧ (kd a0 = 1) ∧ True ∧ True) (by decide +kernel) ?_ ⟨hk_as0, trivial, hk_a0, trivial, trivial⟩ k
  rfl
theorem BX1_look_26 {d Z L : Nat} {xs : Nat → Int32} {z : Nat} {Φ : Out → T2 → T3 → Nat → Prop} {I : T2} {J : T3} {a0 : Nat} {y1 : Int64} {x3 : Int32} {xs0 : Int32}  
    (k : Ev d Z L xs mX1_look 31 [some (.ref a0), some (.long y1), none, some (.int x3), some (.int xs0), some (.int (-1))] [] I J z Φ) : Ev d Z L xs mX1_look 26 [some (.ref a0), some (.long y1), none, some (.int x3), none, none] [.int xs0] I J z Φ := by
  refine Ev.blk (ops := [o0 (.istore 4) 2, oI (.iconst (-1)) 1 (-1), o0 (.istore 5) 2]) (G := True ∧ True ∧ True ∧ True) (by decide +kernel) ?_ ⟨trivial, trivial, trivial, trivial⟩ k
  rfl
theorem BX1_look_31 {d Z L : Nat} {xs : Nat → Int32} {z : Nat} {Φ : Out → T2 → T3 → Nat → Prop} {I : T2} {J : T3} {a0 : Nat} {y1 : Int64} {x3 : Int32} {x4 : Int32} {x5 : Int32}  
    (k : Ev d Z L xs mX1_look 34 [some (.ref a0), some (.long y1), none, some (.int x3), some (.int x4), some (.int x5)] [.int 1, .int x5] I J z Φ) : Ev d Z L xs mX1_look 31 [some (.ref a0), some (.long y1), none, some (.int x3), some (.int x4), some (.int x5)] [] I J z Φ := by
  refine Ev.blk (ops := [o0 (.iload 5) 2, oI (.iconst 1) 1 1]) (G := True ∧ True ∧ True) (by decide +kernel) ?_ ⟨trivial, trivial, trivial⟩ k
  rfl
theorem BX1_look_37 {d Z L : Nat} {xs : Nat → Int32} {z : Nat} {Φ : Out → T2 → T3 → Nat → Prop} {I : T2} {J : T3} {a0 : Nat} {y1 : Int64} {x3 : Int32} {x4 : Int32} {x5 : Int32} (hk_a0 : kd a0 = 1) 
    (k : Ev d Z L xs mX1_look 48 [some (.ref a0), some (.long y1), none, some (.int x3), some (.int x4), some (.int x5)] [.int ((I a0 7) + 1), .int (x4 + x5)] I J z Φ) : Ev d Z L xs mX1_look 37 [some (.ref a0), some (.long y1), none, some (.int x3), some (.int x4), some (.int x5)] [] I J z Φ := by
  refine Ev.blk (ops := [o0 (.iload 4) 2, o0 (.iload 5) 2, o0 (.iadd) 1, o0 (.aload_n 0) 1, oK (.getfield 50) 3 1 7, oI (.iconst 1) 1 1, o0 (.iadd) 1]) (G := True ∧ True ∧ True ∧ True ∧ (kd a0 = 1) ∧ True ∧ True ∧ True) (by decide +kernel) ?_ ⟨trivial, trivial, trivial, trivial, hk_a0, trivial, trivial, trivial⟩ k
  rfl
theorem BX1_look_51 {d Z L : Nat} {xs : Nat → Int32} {z : Nat} {Φ : Out → T2 → T3 → Nat → Prop} {I : T2} {J : T3} {a0 : Nat} {y1 : Int64} {x3 : Int32} {x4 : Int32} {x5 : Int32}  
    (k : Ev d Z L xs mX1_look 58 [some (.ref a0), some (.long y1), none, some (.int x3), some (.int x4), some (.int x5)] [.int 3, .int (x4 + x5), .ref a0] I J z Φ) : Ev d Z L xs mX1_look 51 [some (.ref a0), some (.long y1), none, some (.int x3), some (.int x4), some (.int x5)] [] I J z Φ := by
  refine Ev.blk (ops := [o0 (.aload_n 0) 1, o0 (.iload 4) 2, o0 (.iload 5) 2, o0 (.iadd) 1, oI (.iconst 3) 1 3]) (G := True ∧ True ∧ True ∧ True ∧ True ∧ True) (by decide +kernel) ?_ ⟨trivial, trivial, trivial, trivial, trivial, trivial⟩ k
  rfl
theorem BX1_look_64 {d Z L : Nat} {xs : Nat → Int32} {z : Nat} {Φ : Out → T2 → T3 → Nat → Prop} {I : T2} {J : T3} {a0 : Nat} {y1 : Int64} {x3 : Int32} {x4 : Int32} {x5 : Int32}  
    (k : Ev d Z L xs mX1_look 31 [some (.ref a0), some (.long y1), none, some (.int x3), some (.int x4), some (.int (x5 + 1))] [] I J z Φ) : Ev d Z L xs mX1_look 64 [some (.ref a0), some (.long y1), none, some (.int x3), some (.int x4), some (.int x5)] [] I J z Φ := by
  refine Ev.blk (ops := [oI (.iinc 5 1) 3 1, oK (.goto (-36)) 3 31 0]) (G := True ∧ True ∧ True) (by decide +kernel) ?_ ⟨trivial, trivial, trivial⟩ k
  rfl
theorem BX1_look_70 {d Z L : Nat} {xs : Nat → Int32} {z : Nat} {Φ : Out → T2 → T3 → Nat → Prop} {I : T2} {J : T3} {a0 : Nat} {y1 : Int64} {x3 : Int32} {x4 : Int32} {x5 : Int32} (hk_a0 : kd a0 = 1) 
    (k : Ev d Z L xs mX1_look 76 [some (.ref a0), some (.long y1), none, some (.int x3), some (.int x4), some (.int x5)] [] (up2 I a0 7 x4) J z Φ) : Ev d Z L xs mX1_look 70 [some (.ref a0), some (.long y1), none, some (.int x3), some (.int x4), some (.int x5)] [] I J z Φ := by
  refine Ev.blk (ops := [o0 (.aload_n 0) 1, o0 (.iload 4) 2, oK (.putfield 50) 3 1 7]) (G := True ∧ True ∧ (kd a0 = 1) ∧ True) (by decide +kernel) ?_ ⟨trivial, trivial, hk_a0, trivial⟩ k
  rfl
theorem BX1_drop_0 {d Z L : Nat} {xs : Nat → Int32} {z : Nat} {Φ : Out → T2 → T3 → Nat → Prop} {I : T2} {J : T3} {a0 : Nat} {x1 : Int32} (hk_a0 : kd a0 = 1) (g1 : vp_in x1 3)
    (k : Ev d Z L xs mX1_drop 21 [some (.ref a0), some (.int x1)] [] (up2 (up2 (up2 I (a0 + 1) x1.toNatClampNeg 0) (a0 + 2) x1.toNatClampNeg 0) (a0 + 3) x1.toNatClampNeg 0) J z Φ) : Ev d Z L xs mX1_drop 0 [some (.ref a0), some (.int x1)] [] I J z Φ := by
  refine Ev.blk (ops := [o0 (.aload_n 0) 1, oK (.getfield 9) 3 1 2, o0 (.iload_n 1) 1, oI (.iconst 0) 1 0, o0 (.iastore) 1, o0 (.aload_n 0) 1, oK (.getfield 15) 3 1 3, o0 (.iload_n 1) 1, oI (.iconst 0) 1 0, o0 (.iastore) 1, o0 (.aload_n 0) 1, oK (.getfield 18) 3 1 4, o0 (.iload_n 1) 1, oI (.iconst 0) 1 0, o0 (.iastore) 1]) (G := True ∧ (kd a0 = 1) ∧ True ∧ True ∧ (kd (a0 + 1) = 8 ∧ vp_in x1 (ln (a0 + 1))) ∧ True ∧ (kd a0 = 1) ∧ True ∧ True ∧ (kd (a0 + 2) = 8 ∧ vp_in x1 (ln (a0 + 2))) ∧ True ∧ (kd a0 = 1) ∧ True ∧ True ∧ (kd (a0 + 3) = 8 ∧ vp_in x1 (ln (a0 + 3))) ∧ True) (by decide +kernel) ?_ ⟨trivial, hk_a0, trivial, trivial, ⟨(kg_1 hk_a0), (ln_to (lg_1 hk_a0) g1)⟩, trivial, hk_a0, trivial, trivial, ⟨(kg_2 hk_a0), (ln_to (lg_2 hk_a0) g1)⟩, trivial, hk_a0, trivial, trivial, ⟨(kg_3 hk_a0), (ln_to (lg_3 hk_a0) g1)⟩, trivial⟩ k
  rfl
theorem BX1_spend_0 {d Z L : Nat} {xs : Nat → Int32} {z : Nat} {Φ : Out → T2 → T3 → Nat → Prop} {I : T2} {J : T3} {a0 : Nat} {x1 : Int32} (hk_a0 : kd a0 = 1) 
    (k : Ev d Z L xs mX1_spend 8 [some (.ref a0), some (.int x1), none, none, none, none] [.int (I a0 7), .int (I a0 7)] I J z Φ) : Ev d Z L xs mX1_spend 0 [some (.ref a0), some (.int x1), none, none, none, none] [] I J z Φ := by
  refine Ev.blk (ops := [o0 (.aload_n 0) 1, oK (.getfield 50) 3 1 7, o0 (.aload_n 0) 1, oK (.getfield 50) 3 1 7]) (G := True ∧ (kd a0 = 1) ∧ True ∧ (kd a0 = 1) ∧ True) (by decide +kernel) ?_ ⟨trivial, hk_a0, trivial, hk_a0, trivial⟩ k
  rfl
theorem BX1_spend_11 {d Z L : Nat} {xs : Nat → Int32} {z : Nat} {Φ : Out → T2 → T3 → Nat → Prop} {I : T2} {J : T3} {a0 : Nat} {x1 : Int32} {xs0 : Int32}  
    (k : Ev d Z L xs mX1_spend 14 [some (.ref a0), some (.int x1), some (.int xs0), none, none, none] [.int (-1), .int xs0] I J z Φ) : Ev d Z L xs mX1_spend 11 [some (.ref a0), some (.int x1), none, none, none, none] [.int xs0] I J z Φ := by
  refine Ev.blk (ops := [o0 (.istore_n 2) 1, o0 (.iload_n 2) 1, oI (.iconst (-1)) 1 (-1)]) (G := True ∧ True ∧ True ∧ True) (by decide +kernel) ?_ ⟨trivial, trivial, trivial, trivial⟩ k
  rfl
theorem BX1_spend_17 {d Z L : Nat} {xs : Nat → Int32} {z : Nat} {Φ : Out → T2 → T3 → Nat → Prop} {I : T2} {J : T3} {a0 : Nat} {x1 : Int32} {x2 : Int32}  
    (k : Ev d Z L xs mX1_spend 18 [some (.ref a0), some (.int x1), some (.int x2), none, none, none] [.int 0] I J z Φ) : Ev d Z L xs mX1_spend 17 [some (.ref a0), some (.int x1), some (.int x2), none, none, none] [] I J z Φ := by
  refine Ev.blk (ops := [oI (.iconst 0) 1 0]) (G := True ∧ True) (by decide +kernel) ?_ ⟨trivial, trivial⟩ k
  rfl
theorem BX1_spend_19 {d Z L : Nat} {xs : Nat → Int32} {z : Nat} {Φ : Out → T2 → T3 → Nat → Prop} {I : T2} {J : T3} {a0 : Nat} {x1 : Int32} {x2 : Int32} (hk_a0 : kd a0 = 1) (g1 : vp_in x2 3)
    (k : Ev d Z L xs mX1_spend 33 [some (.ref a0), some (.int x1), some (.int x2), none, none, none] [.int ((I (a0 + 1) x2.toNatClampNeg) - (I (a0 + 2) x2.toNatClampNeg)), .int x1] I J z Φ) : Ev d Z L xs mX1_spend 19 [some (.ref a0), some (.int x1), some (.int x2), none, none, none] [] I J z Φ := by
  refine Ev.blk (ops := [o0 (.iload_n 1) 1, o0 (.aload_n 0) 1, oK (.getfield 9) 3 1 2, o0 (.iload_n 2) 1, o0 (.iaload) 1, o0 (.aload_n 0) 1, oK (.getfield 15) 3 1 3, o0 (.iload_n 2) 1, o0 (.iaload) 1, o0 (.isub) 1]) (G := True ∧ True ∧ (kd a0 = 1) ∧ True ∧ (kd (a0 + 1) = 8 ∧ vp_in x2 (ln (a0 + 1))) ∧ True ∧ (kd a0 = 1) ∧ True ∧ (kd (a0 + 2) = 8 ∧ vp_in x2 (ln (a0 + 2))) ∧ True ∧ True) (by decide +kernel) ?_ ⟨trivial, trivial, hk_a0, trivial, ⟨(kg_1 hk_a0), (ln_to (lg_1 hk_a0) g1)⟩, trivial, hk_a0, trivial, ⟨(kg_2 hk_a0), (ln_to (lg_2 hk_a0) g1)⟩, trivial, trivial⟩ k
  rfl
theorem BX1_spend_36 {d Z L : Nat} {xs : Nat → Int32} {z : Nat} {Φ : Out → T2 → T3 → Nat → Prop} {I : T2} {J : T3} {a0 : Nat} {x1 : Int32} {x2 : Int32} {xs0 : Int32} (hk_a0 : kd a0 = 1) (g1 : vp_in x2 3)
    (k : Ev d Z L xs mX1_spend 61 [some (.ref a0), some (.int x1), some (.int x2), some (.int xs0), none, none] [.int (((up2 I (a0 + 2) x2.toNatClampNeg ((I (a0 + 2) x2.toNatClampNeg) + xs0)) (a0 + 2) x2.toNatClampNeg) - ((up2 I (a0 + 2) x2.toNatClampNeg ((I (a0 + 2) x2.toNatClampNeg) + xs0)) (a0 + 3) x2.toNatClampNeg)), .int 0] (up2 I (a0 + 2) x2.toNatClampNeg ((I (a0 + 2) x2.toNatClampNeg) + xs0)) J z Φ) : Ev d Z L xs mX1_spend 36 [some (.ref a0), some (.int x1), some (.int x2), none, none, none] [.int xs0] I J z Φ := by
  refine Ev.blk (ops := [o0 (.istore_n 3) 1, o0 (.aload_n 0) 1, oK (.getfield 15) 3 1 3, o0 (.iload_n 2) 1, o0 (.dup2) 1, o0 (.iaload) 1, o0 (.iload_n 3) 1, o0 (.iadd) 1, o0 (.iastore) 1, oI (.iconst 0) 1 0, o0 (.aload_n 0) 1, oK (.getfield 15) 3 1 3, o0 (.iload_n 2) 1, o0 (.iaload) 1, o0 (.aload_n 0) 1, oK (.getfield 18) 3 1 4, o0 (.iload_n 2) 1, o0 (.iaload) 1, o0 (.isub) 1]) (G := True ∧ True ∧ (kd a0 = 1) ∧ True ∧ True ∧ (kd (a0 + 2) = 8 ∧ vp_in x2 (ln (a0 + 2))) ∧ True ∧ True ∧ (kd (a0 + 2) = 8 ∧ vp_in x2 (ln (a0 + 2))) ∧ True ∧ True ∧ (kd a0 = 1) ∧ True ∧ (kd (a0 + 2) = 8 ∧ vp_in x2 (ln (a0 + 2))) ∧ True ∧ (kd a0 = 1) ∧ True ∧ (kd (a0 + 3) = 8 ∧ vp_in x2 (ln (a0 + 3))) ∧ True ∧ True) (by decide +kernel) ?_ ⟨trivial, trivial, hk_a0, trivial, trivial, ⟨(kg_2 hk_a0), (ln_to (lg_2 hk_a0) g1)⟩, trivial, trivial, ⟨(kg_2 hk_a0), (ln_to (lg_2 hk_a0) g1)⟩, trivial, trivial, hk_a0, trivial, ⟨(kg_2 hk_a0), (ln_to (lg_2 hk_a0) g1)⟩, trivial, hk_a0, trivial, ⟨(kg_3 hk_a0), (ln_to (lg_3 hk_a0) g1)⟩, trivial, trivial⟩ k
  rfl
theorem BX1_spend_64 {d Z L : Nat} {xs : Nat → Int32} {z : Nat} {Φ : Out → T2 → T3 → Nat → Prop} {I : T2} {J : T3} {a0 : Nat} {x1 : Int32} {x2 : Int32} {x3 : Int32} {xs0 : Int32} (hk_a0 : kd a0 = 1) (g1 : vp_in x2 3)
    (k : Ev d Z L xs mX1_spend 101 [some (.ref a0), some (.int x1), some (.int x2), some (.int x3), some (.int xs0), some (.int (((xs0 + 16) - 1) / 16))] [.int ((I (a0 + 3) x2.toNatClampNeg) + ((((xs0 + 16) - 1) / 16) * 16)), .int (I (a0 + 1) x2.toNatClampNeg), .int x2, .ref (a0 + 3)] I J z Φ) : Ev d Z L xs mX1_spend 64 [some (.ref a0), some (.int x1), some (.int x2), some (.int x3), none, none] [.int xs0] I J z Φ := by
  refine Ev.blk (ops := [o0 (.istore 4) 2, o0 (.iload 4) 2, oI (.bipush 16) 2 16, o0 (.iadd) 1, oI (.iconst 1) 1 1, o0 (.isub) 1, oI (.bipush 16) 2 16, o0 (.idiv) 1, o0 (.istore 5) 2, o0 (.aload_n 0) 1, oK (.getfield 18) 3 1 4, o0 (.iload_n 2) 1, o0 (.aload_n 0) 1, oK (.getfield 9) 3 1 2, o0 (.iload_n 2) 1, o0 (.iaload) 1, o0 (.aload_n 0) 1, oK (.getfield 18) 3 1 4, o0 (.iload_n 2) 1, o0 (.iaload) 1, o0 (.iload 5) 2, oI (.bipush 16) 2 16, o0 (.imul) 1, o0 (.iadd) 1]) (G := True ∧ True ∧ True ∧ True ∧ True ∧ True ∧ True ∧ (¬ 16 = (0 : Int32)) ∧ True ∧ True ∧ (kd a0 = 1) ∧ True ∧ True ∧ (kd a0 = 1) ∧ True ∧ (kd (a0 + 1) = 8 ∧ vp_in x2 (ln (a0 + 1))) ∧ True ∧ (kd a0 = 1) ∧ True ∧ (kd (a0 + 3) = 8 ∧ vp_in x2 (ln (a0 + 3))) ∧ True ∧ True ∧ True ∧ True ∧ True) (by decide +kernel) ?_ ⟨trivial, trivial, trivial, trivial, trivial, trivial, trivial, (by decide), trivial, trivial, hk_a0, trivial, trivial, hk_a0, trivial, ⟨(kg_1 hk_a0), (ln_to (lg_1 hk_a0) g1)⟩, trivial, hk_a0, trivial, ⟨(kg_3 hk_a0), (ln_to (lg_3 hk_a0) g1)⟩, trivial, trivial, trivial, trivial, trivial⟩ k
  rfl
theorem BX1_spend_104 {d Z L : Nat} {xs : Nat → Int32} {z : Nat} {Φ : Out → T2 → T3 → Nat → Prop} {I : T2} {J : T3} {a0 : Nat} {x1 : Int32} {x2 : Int32} {x3 : Int32} {x4 : Int32} {x5 : Int32} {as0 : Nat} {xs1 : Int32} {xs2 : Int32} (hk_as0 : kd as0 = 8) (g1 : vp_in xs1 (ln as0))
    (k : Ev d Z L xs mX1_spend 106 [some (.ref a0), some (.int x1), some (.int x2), some (.int x3), some (.int x4), some (.int x5)] [.int x3] (up2 I as0 xs1.toNatClampNeg xs2) J z Φ) : Ev d Z L xs mX1_spend 104 [some (.ref a0), some (.int x1), some (.int x2), some (.int x3), some (.int x4), some (.int x5)] [.int xs2, .int xs1, .ref as0] I J z Φ := by
  refine Ev.blk (ops := [o0 (.iastore) 1, o0 (.iload_n 3) 1]) (G := (kd as0 = 8 ∧ vp_in xs1 (ln as0)) ∧ True ∧ True) (by decide +kernel) ?_ ⟨⟨hk_as0, g1⟩, trivial, trivial⟩ k
  rfl
theorem BX1_spentIn_0 {d Z L : Nat} {xs : Nat → Int32} {z : Nat} {Φ : Out → T2 → T3 → Nat → Prop} {I : T2} {J : T3} {a0 : Nat} {x1 : Int32} (hk_a0 : kd a0 = 1) 
    (k : Ev d Z L xs mX1_spentIn 5 [some (.ref a0), some (.int x1), none] [.int (I a0 7), .int x1] I J z Φ) : Ev d Z L xs mX1_spentIn 0 [some (.ref a0), some (.int x1), none] [] I J z Φ := by
  refine Ev.blk (ops := [o0 (.iload_n 1) 1, o0 (.aload_n 0) 1, oK (.getfield 50) 3 1 7]) (G := True ∧ True ∧ (kd a0 = 1) ∧ True) (by decide +kernel) ?_ ⟨trivial, trivial, hk_a0, trivial⟩ k
  rfl
theorem BX1_spentIn_8 {d Z L : Nat} {xs : Nat → Int32} {z : Nat} {Φ : Out → T2 → T3 → Nat → Prop} {I : T2} {J : T3} {a0 : Nat} {x1 : Int32} {xs0 : Int32}  
    (k : Ev d Z L xs mX1_spentIn 11 [some (.ref a0), some (.int x1), some (.int xs0)] [.int (-1), .int xs0] I J z Φ) : Ev d Z L xs mX1_spentIn 8 [some (.ref a0), some (.int x1), none] [.int xs0] I J z Φ := by
  refine Ev.blk (ops := [o0 (.istore_n 2) 1, o0 (.iload_n 2) 1, oI (.iconst (-1)) 1 (-1)]) (G := True ∧ True ∧ True ∧ True) (by decide +kernel) ?_ ⟨trivial, trivial, trivial, trivial⟩ k
  rfl
theorem BX1_spentIn_14 {d Z L : Nat} {xs : Nat → Int32} {z : Nat} {Φ : Out → T2 → T3 → Nat → Prop} {I : T2} {J : T3} {a0 : Nat} {x1 : Int32} {x2 : Int32}  
    (k : Ev d Z L xs mX1_spentIn 24 [some (.ref a0), some (.int x1), some (.int x2)] [.int 0] I J z Φ) : Ev d Z L xs mX1_spentIn 14 [some (.ref a0), some (.int x1), some (.int x2)] [] I J z Φ := by
  refine Ev.blk (ops := [oI (.iconst 0) 1 0, oK (.goto 9) 3 24 0]) (G := True ∧ True ∧ True) (by decide +kernel) ?_ ⟨trivial, trivial, trivial⟩ k
  rfl
theorem BX1_spentIn_18 {d Z L : Nat} {xs : Nat → Int32} {z : Nat} {Φ : Out → T2 → T3 → Nat → Prop} {I : T2} {J : T3} {a0 : Nat} {x1 : Int32} {x2 : Int32} (hk_a0 : kd a0 = 1) (g1 : vp_in x2 3)
    (k : Ev d Z L xs mX1_spentIn 24 [some (.ref a0), some (.int x1), some (.int x2)] [.int (I (a0 + 2) x2.toNatClampNeg)] I J z Φ) : Ev d Z L xs mX1_spentIn 18 [some (.ref a0), some (.int x1), some (.int x2)] [] I J z Φ := by
  refine Ev.blk (ops := [o0 (.aload_n 0) 1, oK (.getfield 15) 3 1 3, o0 (.iload_n 2) 1, o0 (.iaload) 1]) (G := True ∧ (kd a0 = 1) ∧ True ∧ (kd (a0 + 2) = 8 ∧ vp_in x2 (ln (a0 + 2))) ∧ True) (by decide +kernel) ?_ ⟨trivial, hk_a0, trivial, ⟨(kg_2 hk_a0), (ln_to (lg_2 hk_a0) g1)⟩, trivial⟩ k
  rfl
theorem BX1_freeIn_0 {d Z L : Nat} {xs : Nat → Int32} {z : Nat} {Φ : Out → T2 → T3 → Nat → Prop} {I : T2} {J : T3} {a0 : Nat} {x1 : Int32} (hk_a0 : kd a0 = 1) 
    (k : Ev d Z L xs mX1_freeIn 5 [some (.ref a0), some (.int x1), none] [.int (I a0 7), .int x1] I J z Φ) : Ev d Z L xs mX1_freeIn 0 [some (.ref a0), some (.int x1), none] [] I J z Φ := by
  refine Ev.blk (ops := [o0 (.iload_n 1) 1, o0 (.aload_n 0) 1, oK (.getfield 50) 3 1 7]) (G := True ∧ True ∧ (kd a0 = 1) ∧ True) (by decide +kernel) ?_ ⟨trivial, trivial, hk_a0, trivial⟩ k
  rfl
theorem BX1_freeIn_8 {d Z L : Nat} {xs : Nat → Int32} {z : Nat} {Φ : Out → T2 → T3 → Nat → Prop} {I : T2} {J : T3} {a0 : Nat} {x1 : Int32} {xs0 : Int32}  
    (k : Ev d Z L xs mX1_freeIn 11 [some (.ref a0), some (.int x1), some (.int xs0)] [.int (-1), .int xs0] I J z Φ) : Ev d Z L xs mX1_freeIn 8 [some (.ref a0), some (.int x1), none] [.int xs0] I J z Φ := by
  refine Ev.blk (ops := [o0 (.istore_n 2) 1, o0 (.iload_n 2) 1, oI (.iconst (-1)) 1 (-1)]) (G := True ∧ True ∧ True ∧ True) (by decide +kernel) ?_ ⟨trivial, trivial, trivial, trivial⟩ k
  rfl
theorem BX1_freeIn_14 {d Z L : Nat} {xs : Nat → Int32} {z : Nat} {Φ : Out → T2 → T3 → Nat → Prop} {I : T2} {J : T3} {a0 : Nat} {x1 : Int32} {x2 : Int32}  
    (k : Ev d Z L xs mX1_freeIn 31 [some (.ref a0), some (.int x1), some (.int x2)] [.int 0] I J z Φ) : Ev d Z L xs mX1_freeIn 14 [some (.ref a0), some (.int x1), some (.int x2)] [] I J z Φ := by
  refine Ev.blk (ops := [oI (.iconst 0) 1 0, oK (.goto 16) 3 31 0]) (G := True ∧ True ∧ True) (by decide +kernel) ?_ ⟨trivial, trivial, trivial⟩ k
  rfl
theorem BX1_freeIn_18 {d Z L : Nat} {xs : Nat → Int32} {z : Nat} {Φ : Out → T2 → T3 → Nat → Prop} {I : T2} {J : T3} {a0 : Nat} {x1 : Int32} {x2 : Int32} (hk_a0 : kd a0 = 1) (g1 : vp_in x2 3)
    (k : Ev d Z L xs mX1_freeIn 31 [some (.ref a0), some (.int x1), some (.int x2)] [.int ((I (a0 + 1) x2.toNatClampNeg) - (I (a0 + 3) x2.toNatClampNeg))] I J z Φ) : Ev d Z L xs mX1_freeIn 18 [some (.ref a0), some (.int x1), some (.int x2)] [] I J z Φ := by
  refine Ev.blk (ops := [o0 (.aload_n 0) 1, oK (.getfield 9) 3 1 2, o0 (.iload_n 2) 1, o0 (.iaload) 1, o0 (.aload_n 0) 1, oK (.getfield 18) 3 1 4, o0 (.iload_n 2) 1, o0 (.iaload) 1, o0 (.isub) 1]) (G := True ∧ (kd a0 = 1) ∧ True ∧ (kd (a0 + 1) = 8 ∧ vp_in x2 (ln (a0 + 1))) ∧ True ∧ (kd a0 = 1) ∧ True ∧ (kd (a0 + 3) = 8 ∧ vp_in x2 (ln (a0 + 3))) ∧ True ∧ True) (by decide +kernel) ?_ ⟨trivial, hk_a0, trivial, ⟨(kg_1 hk_a0), (ln_to (lg_1 hk_a0) g1)⟩, trivial, hk_a0, trivial, ⟨(kg_3 hk_a0), (ln_to (lg_3 hk_a0) g1)⟩, trivial, trivial⟩ k
  rfl
theorem BX1_addShare_0 {d Z L : Nat} {xs : Nat → Int32} {z : Nat} {Φ : Out → T2 → T3 → Nat → Prop} {I : T2} {J : T3} {a0 : Nat} {x1 : Int32} {x2 : Int32} (hk_a0 : kd a0 = 1) 
    (k : Ev d Z L xs mX1_addShare 5 [some (.ref a0), some (.int x1), some (.int x2), none] [.int (I a0 7), .int x1] I J z Φ) : Ev d Z L xs mX1_addShare 0 [some (.ref a0), some (.int x1), some (.int x2), none] [] I J z Φ := by
  refine Ev.blk (ops := [o0 (.iload_n 1) 1, o0 (.aload_n 0) 1, oK (.getfield 50) 3 1 7]) (G := True ∧ True ∧ (kd a0 = 1) ∧ True) (by decide +kernel) ?_ ⟨trivial, trivial, hk_a0, trivial⟩ k
  rfl
theorem BX1_addShare_8 {d Z L : Nat} {xs : Nat → Int32} {z : Nat} {Φ : Out → T2 → T3 → Nat → Prop} {I : T2} {J : T3} {a0 : Nat} {x1 : Int32} {x2 : Int32} {xs0 : Int32}  
    (k : Ev d Z L xs mX1_addShare 11 [some (.ref a0), some (.int x1), some (.int x2), some (.int xs0)] [.int (-1), .int xs0] I J z Φ) : Ev d Z L xs mX1_addShare 8 [some (.ref a0), some (.int x1), some (.int x2), none] [.int xs0] I J z Φ := by
  refine Ev.blk (ops := [o0 (.istore_n 3) 1, o0 (.iload_n 3) 1, oI (.iconst (-1)) 1 (-1)]) (G := True ∧ True ∧ True ∧ True) (by decide +kernel) ?_ ⟨trivial, trivial, trivial, trivial⟩ k
  rfl
theorem BX1_addShare_14 {d Z L : Nat} {xs : Nat → Int32} {z : Nat} {Φ : Out → T2 → T3 → Nat → Prop} {I : T2} {J : T3} {a0 : Nat} {x1 : Int32} {x2 : Int32} {x3 : Int32} (hk_a0 : kd a0 = 1) (g1 : vp_in x3 3)
    (k : Ev d Z L xs mX1_addShare 24 [some (.ref a0), some (.int x1), some (.int x2), some (.int x3)] [] (up2 I (a0 + 1) x3.toNatClampNeg ((I (a0 + 1) x3.toNatClampNeg) + x2)) J z Φ) : Ev d Z L xs mX1_addShare 14 [some (.ref a0), some (.int x1), some (.int x2), some (.int x3)] [] I J z Φ := by
  refine Ev.blk (ops := [o0 (.aload_n 0) 1, oK (.getfield 9) 3 1 2, o0 (.iload_n 3) 1, o0 (.dup2) 1, o0 (.iaload) 1, o0 (.iload_n 2) 1, o0 (.iadd) 1, o0 (.iastore) 1]) (G := True ∧ (kd a0 = 1) ∧ True ∧ True ∧ (kd (a0 + 1) = 8 ∧ vp_in x3 (ln (a0 + 1))) ∧ True ∧ True ∧ (kd (a0 + 1) = 8 ∧ vp_in x3 (ln (a0 + 1))) ∧ True) (by decide +kernel) ?_ ⟨trivial, hk_a0, trivial, trivial, ⟨(kg_1 hk_a0), (ln_to (lg_1 hk_a0) g1)⟩, trivial, trivial, ⟨(kg_1 hk_a0), (ln_to (lg_1 hk_a0) g1)⟩, trivial⟩ k
  rfl
theorem BX1_comeUp_0 {d Z L : Nat} {xs : Nat → Int32} {z : Nat} {Φ : Out → T2 → T3 → Nat → Prop} {I : T2} {J : T3} {a0 : Nat} (hk_a0 : kd a0 = 1) 
    (k : Ev d Z L xs mX1_comeUp 16 [some (.ref a0)] [.int 3, .int 0, .ref (a0 + 2), .int 0, .ref (a0 + 3)] (up2 I a0 8 1) J z Φ) : Ev d Z L xs mX1_comeUp 0 [some (.ref a0)] [] I J z Φ := by
  refine Ev.blk (ops := [o0 (.aload_n 0) 1, oI (.iconst 1) 1 1, oK (.putfield 53) 3 1 8, o0 (.aload_n 0) 1, oK (.getfield 18) 3 1 4, oI (.iconst 0) 1 0, o0 (.aload_n 0) 1, oK (.getfield 15) 3 1 3, oI (.iconst 0) 1 0, oI (.iconst 3) 1 3]) (G := True ∧ True ∧ (kd a0 = 1 ∧ (1 = (0 : Int32) ∨ 1 = (1 : Int32))) ∧ True ∧ (kd a0 = 1) ∧ True ∧ True ∧ (kd a0 = 1) ∧ True ∧ True ∧ True) (by decide +kernel) ?_ ⟨trivial, trivial, ⟨hk_a0, Or.inr rfl⟩, trivial, hk_a0, trivial, trivial, hk_a0, trivial, trivial, trivial⟩ k
  rfl
