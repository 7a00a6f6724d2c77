theorem BX3_init_0 {d Z L : Nat} {xs : Nat → Int32} {z : Nat} {Φ : Out → T2 → T3 → Nat → Prop} {I : T2} {J : T3}   
    (k : Ev d Z L xs mX3_init 1 [some (.ref 12)] [.ref 12] I J z Φ) : Ev d Z L xs mX3_init 0 [some (.ref 12)] [] I J z Φ := by
  refine Ev.blk (ops := [o0 (.aload_n 0) 1]) (G := True ∧ True) (by decide +kernel) ?_ ⟨trivial, trivial⟩ k
  rfl
theorem BX3_init_4 {d Z L : Nat} {xs : Nat → Int32} {z : Nat} {Φ : Out → T2 → T3 → Nat → Prop} {I : T2} {J : T3}   
    (k : Ev d Z L xs mX3_init 8 [some (.ref 12)] [.int 1200, .ref 12] I J z Φ) : Ev d Z L xs mX3_init 4 [some (.ref 12)] [] I J z Φ := by
  refine Ev.blk (ops := [o0 (.aload_n 0) 1, oI (.sipush 1200) 3 1200]) (G := True ∧ True ∧ True) (by decide +kernel) ?_ ⟨trivial, trivial, trivial⟩ k
  rfl
theorem BX3_begin_0 {d Z L : Nat} {xs : Nat → Int32} {z : Nat} {Φ : Out → T2 → T3 → Nat → Prop} {I : T2} {J : T3}   
    (k : Ev d Z L xs mX3_begin 10 [some (.ref 12)] [] (up2 (up2 I 12 1 0) 12 2 0) J z Φ) : Ev d Z L xs mX3_begin 0 [some (.ref 12)] [] I J z Φ := by
  refine Ev.blk (ops := [o0 (.aload_n 0) 1, oI (.iconst 0) 1 0, oK (.putfield 15) 3 3 1, o0 (.aload_n 0) 1, oI (.iconst 0) 1 0, oK (.putfield 19) 3 3 2]) (G := True ∧ True ∧ (kd 12 = 3) ∧ True ∧ True ∧ (kd 12 = 3) ∧ True) (by decide +kernel) ?_ ⟨trivial, trivial, (by decide), trivial, trivial, (by decide), trivial⟩ k
  rfl
theorem BX3_put_0 {d Z L : Nat} {xs : Nat → Int32} {z : Nat} {Φ : Out → T2 → T3 → Nat → Prop} {I : T2} {J : T3} {x1 : Int32} {x2 : Int32} {x3 : Int32} {x4 : Int32} {x5 : Int32} {x6 : Int32}  
    (k : Ev d Z L xs mX3_put 7 [some (.ref 12), some (.int x1), some (.int x2), some (.int x3), some (.int x4), some (.int x5), some (.int x6), none] [.int 200, .int (I 12 2)] I J z Φ) : Ev d Z L xs mX3_put 0 [some (.ref 12), some (.int x1), some (.int x2), some (.int x3), some (.int x4), some (.int x5), some (.int x6), none] [] I J z Φ := by
  refine Ev.blk (ops := [o0 (.aload_n 0) 1, oK (.getfield 19) 3 3 2, oI (.sipush 200) 3 200]) (G := True ∧ (kd 12 = 3) ∧ True ∧ True) (by decide +kernel) ?_ ⟨trivial, (by decide), trivial, trivial⟩ k
  rfl
theorem BX3_put_11 {d Z L : Nat} {xs : Nat → Int32} {z : Nat} {Φ : Out → T2 → T3 → Nat → Prop} {I : T2} {J : T3} {x1 : Int32} {x2 : Int32} {x3 : Int32} {x4 : Int32} {x5 : Int32} {x6 : Int32}  (g1 : vp_in (((((I 12 1) + (I 12 2)) - ((I 12 1) + (I 12 2)) / 200 * 200) * 6) + 0) 1200) (g2 : vp_in (((((I 12 1) + (I 12 2)) - ((I 12 1) + (I 12 2)) / 200 * 200) * 6) + 1) 1200) (g3 : vp_in (((((I 12 1) + (I 12 2)) - ((I 12 1) + (I 12 2)) / 200 * 200) * 6) + 2) 1200) (g4 : vp_in (((((I 12 1) + (I 12 2)) - ((I 12 1) + (I 12 2)) / 200 * 200) * 6) + 3) 1200) (g5 : vp_in (((((I 12 1) + (I 12 2)) - ((I 12 1) + (I 12 2)) / 200 * 200) * 6) + 4) 1200) (g6 : vp_in (((((I 12 1) + (I 12 2)) - ((I 12 1) + (I 12 2)) / 200 * 200) * 6) + 5) 1200)
    (k : Ev d Z L xs mX3_put 102 [some (.ref 12), some (.int x1), some (.int x2), some (.int x3), some (.int x4), some (.int x5), some (.int x6), some (.int ((((I 12 1) + (I 12 2)) - ((I 12 1) + (I 12 2)) / 200 * 200) * 6))] [] (up2 (up2 (up2 (up2 (up2 (up2 (up2 I 13 (((((I 12 1) + (I 12 2)) - ((I 12 1) + (I 12 2)) / 200 * 200) * 6) + 0).toNatClampNeg x1) 13 (((((I 12 1) + (I 12 2)) - ((I 12 1) + (I 12 2)) / 200 * 200) * 6) + 1).toNatClampNeg x2) 13 (((((I 12 1) + (I 12 2)) - ((I 12 1) + (I 12 2)) / 200 * 200) * 6) + 2).toNatClampNeg x3) 13 (((((I 12 1) + (I 12 2)) - ((I 12 1) + (I 12 2)) / 200 * 200) * 6) + 3).toNatClampNeg x4) 13 (((((I 12 1) + (I 12 2)) - ((I 12 1) + (I 12 2)) / 200 * 200) * 6) + 4).toNatClampNeg x5) 13 (((((I 12 1) + (I 12 2)) - ((I 12 1) + (I 12 2)) / 200 * 200) * 6) + 5).toNatClampNeg x6) 12 2 (((up2 (up2 (up2 (up2 (up2 (up2 I 13 (((((I 12 1) + (I 12 2)) - ((I 12 1) + (I 12 2)) / 200 * 200) * 6) + 0).toNatClampNeg x1) 13 (((((I 12 1) + (I 12 2)) - ((I 12 1) + (I 12 2)) / 200 * 200) * 6) + 1).toNatClampNeg x2) 13 (((((I 12 1) + (I 12 2)) - ((I 12 1) + (I 12 2)) / 200 * 200) * 6) + 2).toNatClampNeg x3) 13 (((((I 12 1) + (I 12 2)) - ((I 12 1) + (I 12 2)) / 200 * 200) * 6) + 3).toNatClampNeg x4) 13 (((((I 12 1) + (I 12 2)) - ((I 12 1) + (I 12 2)) / 200 * 200) * 6) + 4).toNatClampNeg x5) 13 (((((I 12 1) + (I 12 2)) - ((I 12 1) + (I 12 2)) / 200 * 200) * 6) + 5).toNatClampNeg x6) 12 2) + 1)) J z Φ) : Ev d Z L xs mX3_put 11 [some (.ref 12), some (.int x1), some (.int x2), some (.int x3), some (.int x4), some (.int x5), some (.int x6), none] [] I J z Φ := by
  refine Ev.blk (ops := [o0 (.aload_n 0) 1, oK (.getfield 15) 3 3 1, o0 (.aload_n 0) 1, oK (.getfield 19) 3 3 2, o0 (.iadd) 1, oI (.sipush 200) 3 200, o0 (.irem) 1, oI (.bipush 6) 2 6, o0 (.imul) 1, o0 (.istore 7) 2, o0 (.aload_n 0) 1, oK (.getfield 11) 3 3 0, o0 (.iload 7) 2, oI (.iconst 0) 1 0, o0 (.iadd) 1, o0 (.iload_n 1) 1, o0 (.iastore) 1, o0 (.aload_n 0) 1, oK (.getfield 11) 3 3 0, o0 (.iload 7) 2, oI (.iconst 1) 1 1, o0 (.iadd) 1, o0 (.iload_n 2) 1, o0 (.iastore) 1, o0 (.aload_n 0) 1, oK (.getfield 11) 3 3 0, o0 (.iload 7) 2, oI (.iconst 2) 1 2, o0 (.iadd) 1, o0 (.iload_n 3) 1, o0 (.iastore) 1, o0 (.aload_n 0) 1, oK (.getfield 11) 3 3 0, o0 (.iload 7) 2, oI (.iconst 3) 1 3, o0 (.iadd) 1, o0 (.iload 4) 2, o0 (.iastore) 1, o0 (.aload_n 0) 1, oK (.getfield 11) 3 3 0, o0 (.iload 7) 2, oI (.iconst 4) 1 4, o0 (.iadd) 1, o0 (.iload 5) 2, o0 (.iastore) 1, o0 (.aload_n 0) 1, oK (.getfield 11) 3 3 0, o0 (.iload 7) 2, oI (.iconst 5) 1 5, o0 (.iadd) 1, o0 (.iload 6) 2, o0 (.iastore) 1, o0 (.aload_n 0) 1, o0 (.dup) 1, oK (.getfield 19) 3 3 2, oI (.iconst 1) 1 1, o0 (.iadd) 1, oK (.putfield 19) 3 3 2]) (G := True ∧ (kd 12 = 3) ∧ True ∧ (kd 12 = 3) ∧ True ∧ True ∧ (¬ 200 = (0 : Int32)) ∧ True ∧ True ∧ True ∧ True ∧ (kd 12 = 3) ∧ True ∧ True ∧ True ∧ True ∧ (kd 13 = 8 ∧ vp_in (((((I 12 1) + (I 12 2)) - ((I 12 1) + (I 12 2)) / 200 * 200) * 6) + 0) (ln 13)) ∧ True ∧ (kd 12 = 3) ∧ True ∧ True ∧ True ∧ True ∧ (kd 13 = 8 ∧ vp_in (((((I 12 1) + (I 12 2)) - ((I 12 1) + (I 12 2)) / 200 * 200) * 6) + 1) (ln 13)) ∧ True ∧ (kd 12 = 3) ∧ True ∧ True ∧ True ∧ True ∧ (kd 13 = 8 ∧ vp_in (((((I 12 1) + (I 12 2)) - ((I 12 1) + (I 12 2)) / 200 * 200) * 6) + 2) (ln 13)) ∧ True ∧ (kd 12 = 3) ∧ True ∧ True ∧ True ∧ True ∧ (kd 13 = 8 ∧ vp_in (((((I 12 1) + (I 12 2)) - ((I 12 1) + (I 12 2)) / 200 * 200) * 6) + 3) (ln 13)) ∧ True ∧ (kd 12 = 3) ∧ True ∧ True ∧ True ∧ True ∧ (kd 13 = 8 ∧ vp_in (((((I 12 1) + (I 12 2)) - ((I 12 1) + (I 12 2)) / 200 * 200) * 6) + 4) (ln 13)) ∧ True ∧ (kd 12 = 3) ∧ True ∧ True ∧ True ∧ True ∧ (kd 13 = 8 ∧ vp_in (((((I 12 1) + (I 12 2)) - ((I 12 1) + (I 12 2)) / 200 * 200) * 6) + 5) (ln 13)) ∧ True ∧ True ∧ (kd 12 = 3) ∧ True ∧ True ∧ (kd 12 = 3) ∧ True) (by decide +kernel) ?_ ⟨trivial, (by decide), trivial, (by decide), trivial, trivial, (by decide), trivial, trivial, trivial, trivial, (by decide), trivial, trivial, trivial, trivial, ⟨(by decide), g1⟩, trivial, (by decide), trivial, trivial, trivial, trivial, ⟨(by decide), g2⟩, trivial, (by decide), trivial, trivial, trivial, trivial, ⟨(by decide), g3⟩, trivial, (by decide), trivial, trivial, trivial, trivial, ⟨(by decide), g4⟩, trivial, (by decide), trivial, trivial, trivial, trivial, ⟨(by decide), g5⟩, trivial, (by decide), trivial, trivial, trivial, trivial, ⟨(by decide), g6⟩, trivial, trivial, (by decide), trivial, trivial, (by decide), trivial⟩ k
  rfl
theorem BX3_copyTo_0 {d Z L : Nat} {xs : Nat → Int32} {z : Nat} {Φ : Out → T2 → T3 → Nat → Prop} {I : T2} {J : T3} {x1 : Int32} {a2 : Nat}  
    (k : Ev d Z L xs mX3_copyTo 6 [some (.ref 12), some (.int x1), some (.ref a2)] [.int x1, .ref 12, .ref 13] I J z Φ) : Ev d Z L xs mX3_copyTo 0 [some (.ref 12), some (.int x1), some (.ref a2)] [] I J z Φ := by
  refine Ev.blk (ops := [o0 (.aload_n 0) 1, oK (.getfield 11) 3 3 0, o0 (.aload_n 0) 1, o0 (.iload_n 1) 1]) (G := True ∧ (kd 12 = 3) ∧ True ∧ True ∧ True) (by decide +kernel) ?_ ⟨trivial, (by decide), trivial, trivial, trivial⟩ k
  rfl
theorem BX3_copyTo_9 {d Z L : Nat} {xs : Nat → Int32} {z : Nat} {Φ : Out → T2 → T3 → Nat → Prop} {I : T2} {J : T3} {x1 : Int32} {a2 : Nat} {as0 : Nat} {xs1 : Int32}  
    (k : Ev d Z L xs mX3_copyTo 13 [some (.ref 12), some (.int x1), some (.ref a2)] [.int 6, .int 0, .ref a2, .int xs1, .ref as0] I J z Φ) : Ev d Z L xs mX3_copyTo 9 [some (.ref 12), some (.int x1), some (.ref a2)] [.int xs1, .ref as0] I J z Φ := by
  refine Ev.blk (ops := [o0 (.aload_n 2) 1, oI (.iconst 0) 1 0, oI (.bipush 6) 2 6]) (G := True ∧ True ∧ True ∧ True) (by decide +kernel) ?_ ⟨trivial, trivial, trivial, trivial⟩ k
  rfl
theorem BX3_start_0 {d Z L : Nat} {xs : Nat → Int32} {z : Nat} {Φ : Out → T2 → T3 → Nat → Prop} {I : T2} {J : T3} {x1 : Int32}  
    (k : Ev d Z L xs mX3_start 13 [some (.ref 12), some (.int x1)] [.int ((((I 12 1) + x1) - ((I 12 1) + x1) / 200 * 200) * 6)] I J z Φ) : Ev d Z L xs mX3_start 0 [some (.ref 12), some (.int x1)] [] I J z Φ := by
  refine Ev.blk (ops := [o0 (.aload_n 0) 1, oK (.getfield 15) 3 3 1, o0 (.iload_n 1) 1, o0 (.iadd) 1, oI (.sipush 200) 3 200, o0 (.irem) 1, oI (.bipush 6) 2 6, o0 (.imul) 1]) (G := True ∧ (kd 12 = 3) ∧ True ∧ True ∧ True ∧ (¬ 200 = (0 : Int32)) ∧ True ∧ True ∧ True) (by decide +kernel) ?_ ⟨trivial, (by decide), trivial, trivial, trivial, (by decide), trivial, trivial, trivial⟩ k
  rfl
theorem BX3_remove_0 {d Z L : Nat} {xs : Nat → Int32} {z : Nat} {Φ : Out → T2 → T3 → Nat → Prop} {I : T2} {J : T3} {x1 : Int32}  
    (k : Ev d Z L xs mX3_remove 1 [some (.ref 12), some (.int x1), none] [.int x1] I J z Φ) : Ev d Z L xs mX3_remove 0 [some (.ref 12), some (.int x1), none] [] I J z Φ := by
  refine Ev.blk (ops := [o0 (.iload_n 1) 1]) (G := True ∧ True) (by decide +kernel) ?_ ⟨trivial, trivial⟩ k
  rfl
theorem BX3_remove_4 {d Z L : Nat} {xs : Nat → Int32} {z : Nat} {Φ : Out → T2 → T3 → Nat → Prop} {I : T2} {J : T3} {x1 : Int32}  
    (k : Ev d Z L xs mX3_remove 64 [some (.ref 12), some (.int x1), none] [] (up2 I 12 1 (((I 12 1) + 1) - ((I 12 1) + 1) / 200 * 200)) J z Φ) : Ev d Z L xs mX3_remove 4 [some (.ref 12), some (.int x1), none] [] I J z Φ := by
  refine Ev.blk (ops := [o0 (.aload_n 0) 1, o0 (.aload_n 0) 1, oK (.getfield 15) 3 3 1, oI (.iconst 1) 1 1, o0 (.iadd) 1, oI (.sipush 200) 3 200, o0 (.irem) 1, oK (.putfield 15) 3 3 1, oK (.goto 46) 3 64 0]) (G := True ∧ True ∧ (kd 12 = 3) ∧ True ∧ True ∧ True ∧ (¬ 200 = (0 : Int32)) ∧ (kd 12 = 3) ∧ True ∧ True) (by decide +kernel) ?_ ⟨trivial, trivial, (by decide), trivial, trivial, trivial, (by decide), (by decide), trivial, trivial⟩ k
  rfl
theorem BX3_remove_21 {d Z L : Nat} {xs : Nat → Int32} {z : Nat} {Φ : Out → T2 → T3 → Nat → Prop} {I : T2} {J : T3} {x1 : Int32}  
    (k : Ev d Z L xs mX3_remove 23 [some (.ref 12), some (.int x1), some (.int x1)] [] I J z Φ) : Ev d Z L xs mX3_remove 21 [some (.ref 12), some (.int x1), none] [] I J z Φ := by
  refine Ev.blk (ops := [o0 (.iload_n 1) 1, o0 (.istore_n 2) 1]) (G := True ∧ True ∧ True) (by decide +kernel) ?_ ⟨trivial, trivial, trivial⟩ k
  rfl
theorem BX3_remove_23 {d Z L : Nat} {xs : Nat → Int32} {z : Nat} {Φ : Out → T2 → T3 → Nat → Prop} {I : T2} {J : T3} {x1 : Int32} {x2 : Int32}  
    (k : Ev d Z L xs mX3_remove 30 [some (.ref 12), some (.int x1), some (.int x2)] [.int ((I 12 2) - 1), .int x2] I J z Φ) : Ev d Z L xs mX3_remove 23 [some (.ref 12), some (.int x1), some (.int x2)] [] I J z Φ := by
  refine Ev.blk (ops := [o0 (.iload_n 2) 1, o0 (.aload_n 0) 1, oK (.getfield 19) 3 3 2, oI (.iconst 1) 1 1, o0 (.isub) 1]) (G := True ∧ True ∧ (kd 12 = 3) ∧ True ∧ True ∧ True) (by decide +kernel) ?_ ⟨trivial, trivial, (by decide), trivial, trivial, trivial⟩ k
  rfl
theorem BX3_remove_33 {d Z L : Nat} {xs : Nat → Int32} {z : Nat} {Φ : Out → T2 → T3 → Nat → Prop} {I : T2} {J : T3} {x1 : Int32} {x2 : Int32}  
    (k : Ev d Z L xs mX3_remove 41 [some (.ref 12), some (.int x1), some (.int x2)] [.int (x2 + 1), .ref 12, .ref 13] I J z Φ) : Ev d Z L xs mX3_remove 33 [some (.ref 12), some (.int x1), some (.int x2)] [] I J z Φ := by
  refine Ev.blk (ops := [o0 (.aload_n 0) 1, oK (.getfield 11) 3 3 0, o0 (.aload_n 0) 1, o0 (.iload_n 2) 1, oI (.iconst 1) 1 1, o0 (.iadd) 1]) (G := True ∧ (kd 12 = 3) ∧ True ∧ True ∧ True ∧ True ∧ True) (by decide +kernel) ?_ ⟨trivial, (by decide), trivial, trivial, trivial, trivial, trivial⟩ k
  rfl
theorem BX3_remove_44 {d Z L : Nat} {xs : Nat → Int32} {z : Nat} {Φ : Out → T2 → T3 → Nat → Prop} {I : T2} {J : T3} {x1 : Int32} {x2 : Int32} {as0 : Nat} {xs1 : Int32}  
    (k : Ev d Z L xs mX3_remove 50 [some (.ref 12), some (.int x1), some (.int x2)] [.int x2, .ref 12, .ref 13, .int xs1, .ref as0] I J z Φ) : Ev d Z L xs mX3_remove 44 [some (.ref 12), some (.int x1), some (.int x2)] [.int xs1, .ref as0] I J z Φ := by
  refine Ev.blk (ops := [o0 (.aload_n 0) 1, oK (.getfield 11) 3 3 0, o0 (.aload_n 0) 1, o0 (.iload_n 2) 1]) (G := True ∧ (kd 12 = 3) ∧ True ∧ True ∧ True) (by decide +kernel) ?_ ⟨trivial, (by decide), trivial, trivial, trivial⟩ k
  rfl
theorem BX3_remove_53 {d Z L : Nat} {xs : Nat → Int32} {z : Nat} {Φ : Out → T2 → T3 → Nat → Prop} {I : T2} {J : T3} {x1 : Int32} {x2 : Int32} {as0 : Nat} {xs1 : Int32} {as2 : Nat} {xs3 : Int32}  
    (k : Ev d Z L xs mX3_remove 55 [some (.ref 12), some (.int x1), some (.int x2)] [.int 6, .int xs3, .ref as2, .int xs1, .ref as0] I J z Φ) : Ev d Z L xs mX3_remove 53 [some (.ref 12), some (.int x1), some (.int x2)] [.int xs3, .ref as2, .int xs1, .ref as0] I J z Φ := by
  refine Ev.blk (ops := [oI (.bipush 6) 2 6]) (G := True ∧ True) (by decide +kernel) ?_ ⟨trivial, trivial⟩ k
  rfl
theorem BX3_remove_58 {d Z L : Nat} {xs : Nat → Int32} {z : Nat} {Φ : Out → T2 → T3 → Nat → Prop} {I : T2} {J : T3} {x1 : Int32} {x2 : Int32}  
    (k : Ev d Z L xs mX3_remove 23 [some (.ref 12), some (.int x1), some (.int (x2 + 1))] [] I J z Φ) : Ev d Z L xs mX3_remove 58 [some (.ref 12), some (.int x1), some (.int x2)] [] I J z Φ := by
  refine Ev.blk (ops := [oI (.iinc 2 1) 3 1, oK (.goto (-38)) 3 23 0]) (G := True ∧ True ∧ True) (by decide +kernel) ?_ ⟨trivial, trivial, trivial⟩ k
  rfl
theorem BX3_remove_64 {d Z L : Nat} {xs : Nat → Int32} {z : Nat} {Φ : Out → T2 → T3 → Nat → Prop} {I : T2} {J : T3} {x1 : Int32}  
    (k : Ev d Z L xs mX3_remove 74 [some (.ref 12), some (.int x1), none] [] (up2 I 12 2 ((I 12 2) - 1)) J z Φ) : Ev d Z L xs mX3_remove 64 [some (.ref 12), some (.int x1), none] [] I J z Φ := by
  refine Ev.blk (ops := [o0 (.aload_n 0) 1, o0 (.dup) 1, oK (.getfield 19) 3 3 2, oI (.iconst 1) 1 1, o0 (.isub) 1, oK (.putfield 19) 3 3 2]) (G := True ∧ True ∧ (kd 12 = 3) ∧ True ∧ True ∧ (kd 12 = 3) ∧ True) (by decide +kernel) ?_ ⟨trivial, trivial, (by decide), trivial, trivial, (by decide), trivial⟩ k
  rfl
theorem BX3_isFull_0 {d Z L : Nat} {xs : Nat → Int32} {z : Nat} {Φ : Out → T2 → T3 → Nat → Prop} {I : T2} {J : T3}   
    (k : Ev d Z L xs mX3_isFull 7 [some (.ref 12)] [.int 200, .int (I 12 2)] I J z Φ) : Ev d Z L xs mX3_isFull 0 [some (.ref 12)] [] I J z Φ := by
  refine Ev.blk (ops := [o0 (.aload_n 0) 1, oK (.getfield 19) 3 3 2, oI (.sipush 200) 3 200]) (G := True ∧ (kd 12 = 3) ∧ True ∧ True) (by decide +kernel) ?_ ⟨trivial, (by decide), trivial, trivial⟩ k
  rfl
theorem BX3_isFull_10 {d Z L : Nat} {xs : Nat → Int32} {z : Nat} {Φ : Out → T2 → T3 → Nat → Prop} {I : T2} {J : T3}   
    (k : Ev d Z L xs mX3_isFull 15 [some (.ref 12)] [.int 1] I J z Φ) : Ev d Z L xs mX3_isFull 10 [some (.ref 12)] [] I J z Φ := by
  refine Ev.blk (ops := [oI (.iconst 1) 1 1, oK (.goto 4) 3 15 0]) (G := True ∧ True ∧ True) (by decide +kernel) ?_ ⟨trivial, trivial, trivial⟩ k
  rfl
theorem BX3_isFull_14 {d Z L : Nat} {xs : Nat → Int32} {z : Nat} {Φ : Out → T2 → T3 → Nat → Prop} {I : T2} {J : T3}   
    (k : Ev d Z L xs mX3_isFull 15 [some (.ref 12)] [.int 0] I J z Φ) : Ev d Z L xs mX3_isFull 14 [some (.ref 12)] [] I J z Φ := by
  refine Ev.blk (ops := [oI (.iconst 0) 1 0]) (G := True ∧ True) (by decide +kernel) ?_ ⟨trivial, trivial⟩ k
  rfl
theorem BX3_cell_0 {d Z L : Nat} {xs : Nat → Int32} {z : Nat} {Φ : Out → T2 → T3 → Nat → Prop} {I : T2} {J : T3} {x1 : Int32} {x2 : Int32}  
    (k : Ev d Z L xs mX3_cell 6 [some (.ref 12), some (.int x1), some (.int x2)] [.int x1, .ref 12, .ref 13] I J z Φ) : Ev d Z L xs mX3_cell 0 [some (.ref 12), some (.int x1), some (.int x2)] [] I J z Φ := by
  refine Ev.blk (ops := [o0 (.aload_n 0) 1, oK (.getfield 11) 3 3 0, o0 (.aload_n 0) 1, o0 (.iload_n 1) 1]) (G := True ∧ (kd 12 = 3) ∧ True ∧ True ∧ True) (by decide +kernel) ?_ ⟨trivial, (by decide), trivial, trivial, trivial⟩ k
  rfl
theorem BX3_cell_9 {d Z L : Nat} {xs : Nat → Int32} {z : Nat} {Φ : Out → T2 → T3 → Nat → Prop} {I : T2} {J : T3} {x1 : Int32} {x2 : Int32} {as0 : Nat} {xs1 : Int32} (hk_as0 : kd as0 = 8) (g1 : vp_in (xs1 + x2) (ln as0))
    (k : Ev d Z L xs mX3_cell 12 [some (.ref 12), some (.int x1), some (.int x2)] [.int (I as0 (xs1 + x2).toNatClampNeg)] I J z Φ) : Ev d Z L xs mX3_cell 9 [some (.ref 12), some (.int x1), some (.int x2)] [.int xs1, .ref as0] I J z Φ := by
  refine Ev.blk (ops := [o0 (.iload_n 2) 1, o0 (.iadd) 1, o0 (.iaload) 1]) (G := True ∧ True ∧ (kd as0 = 8 ∧ vp_in (xs1 + x2) (ln as0)) ∧ True) (by decide +kernel) ?_ ⟨trivial, trivial, ⟨hk_as0, g1⟩, trivial⟩ k
  rfl
