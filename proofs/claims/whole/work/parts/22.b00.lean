theorem BX0_init_0 {d Z L : Nat} {xs : Nat → Int32} {z : Nat} {Φ : Out → T2 → T3 → Nat → Prop} {I : T2} {J : T3}   
    (k : Ev d Z L xs mX0_init 1 [some (.ref 19)] [.ref 19] I J z Φ) : Ev d Z L xs mX0_init 0 [some (.ref 19)] [] I J z Φ := by
  refine Ev.blk (ops := [o0 (.aload_n 0) 1]) (G := True ∧ True) (by decide +kernel) ?_ ⟨trivial, trivial⟩ k
  rfl
theorem BX0_init_4 {d Z L : Nat} {xs : Nat → Int32} {z : Nat} {Φ : Out → T2 → T3 → Nat → Prop} {I : T2} {J : T3}   
    (k : Ev d Z L xs mX0_init 8 [some (.ref 19)] [.int 512, .ref 19] I J z Φ) : Ev d Z L xs mX0_init 4 [some (.ref 19)] [] I J z Φ := by
  refine Ev.blk (ops := [o0 (.aload_n 0) 1, oI (.sipush 512) 3 512]) (G := True ∧ True ∧ True) (by decide +kernel) ?_ ⟨trivial, trivial, trivial⟩ k
  rfl
theorem BX0_begin_0 {d Z L : Nat} {xs : Nat → Int32} {z : Nat} {Φ : Out → T2 → T3 → Nat → Prop} {I : T2} {J : T3}   
    (k : Ev d Z L xs mX0_begin 15 [some (.ref 19)] [] (up2 (up2 (up2 I 19 2 0) 19 3 0) 19 4 0) J z Φ) : Ev d Z L xs mX0_begin 0 [some (.ref 19)] [] I J z Φ := by
  refine Ev.blk (ops := [o0 (.aload_n 0) 1, oI (.iconst 0) 1 0, oK (.putfield 17) 3 0 2, o0 (.aload_n 0) 1, oI (.iconst 0) 1 0, oK (.putfield 21) 3 0 3, o0 (.aload_n 0) 1, oI (.iconst 0) 1 0, oK (.putfield 24) 3 0 4]) (G := True ∧ True ∧ (kd 19 = 0) ∧ True ∧ True ∧ (kd 19 = 0) ∧ True ∧ True ∧ (kd 19 = 0) ∧ True) (by decide +kernel) ?_ ⟨trivial, trivial, (by decide), trivial, trivial, (by decide), trivial, trivial, (by decide), trivial⟩ k
  rfl
theorem BX0_add_0 {d Z L : Nat} {xs : Nat → Int32} {z : Nat} {Φ : Out → T2 → T3 → Nat → Prop} {I : T2} {J : T3} {y1 : Int64} {x3 : Int32}  
    (k : Ev d Z L xs mX0_add 4 [some (.ref 19), some (.long y1), none, some (.int x3), none] [.int (I 19 3)] I J z Φ) : Ev d Z L xs mX0_add 0 [some (.ref 19), some (.long y1), none, some (.int x3), none] [] I J z Φ := by
  refine Ev.blk (ops := [o0 (.aload_n 0) 1, oK (.getfield 21) 3 0 3]) (G := True ∧ (kd 19 = 0) ∧ True) (by decide +kernel) ?_ ⟨trivial, (by decide), trivial⟩ k
  rfl
theorem BX0_add_7 {d Z L : Nat} {xs : Nat → Int32} {z : Nat} {Φ : Out → T2 → T3 → Nat → Prop} {I : T2} {J : T3} {y1 : Int64} {x3 : Int32}  
    (k : Ev d Z L xs mX0_add 18 [some (.ref 19), some (.long y1), none, some (.int x3), none] [.int ((I 19 3) - 1), .ref 19, .ref 20] I J z Φ) : Ev d Z L xs mX0_add 7 [some (.ref 19), some (.long y1), none, some (.int x3), none] [] I J z Φ := by
  refine Ev.blk (ops := [o0 (.aload_n 0) 1, oK (.getfield 9) 3 0 0, o0 (.aload_n 0) 1, o0 (.aload_n 0) 1, oK (.getfield 21) 3 0 3, oI (.iconst 1) 1 1, o0 (.isub) 1]) (G := True ∧ (kd 19 = 0) ∧ True ∧ True ∧ (kd 19 = 0) ∧ True ∧ True ∧ True) (by decide +kernel) ?_ ⟨trivial, (by decide), trivial, trivial, (by decide), trivial, trivial, trivial⟩ k
  rfl
theorem BX0_add_21 {d Z L : Nat} {xs : Nat → Int32} {z : Nat} {Φ : Out → T2 → T3 → Nat → Prop} {I : T2} {J : T3} {y1 : Int64} {x3 : Int32} {as0 : Nat} {xs1 : Int32} (hk_as0 : kd as0 = 9) (g1 : vp_in xs1 (ln as0))
    (k : Ev d Z L xs mX0_add 24 [some (.ref 19), some (.long y1), none, some (.int x3), none] [.int (lg_cmp (J as0 xs1.toNatClampNeg) y1)] I J z Φ) : Ev d Z L xs mX0_add 21 [some (.ref 19), some (.long y1), none, some (.int x3), none] [.int xs1, .ref as0] I J z Φ := by
  refine Ev.blk (ops := [o0 (.laload) 1, o0 (.lload_n 1) 1, o0 (.lcmp) 1]) (G := (kd as0 = 9 ∧ vp_in xs1 (ln as0)) ∧ True ∧ True ∧ True) (by decide +kernel) ?_ ⟨⟨hk_as0, g1⟩, trivial, trivial, trivial⟩ k
  rfl
theorem BX0_add_27 {d Z L : Nat} {xs : Nat → Int32} {z : Nat} {Φ : Out → T2 → T3 → Nat → Prop} {I : T2} {J : T3} {y1 : Int64} {x3 : Int32}  
    (k : Ev d Z L xs mX0_add 29 [some (.ref 19), some (.long y1), none, some (.int x3), none] [.long y1, .ref 19] I J z Φ) : Ev d Z L xs mX0_add 27 [some (.ref 19), some (.long y1), none, some (.int x3), none] [] I J z Φ := by
  refine Ev.blk (ops := [o0 (.aload_n 0) 1, o0 (.lload_n 1) 1]) (G := True ∧ True ∧ True) (by decide +kernel) ?_ ⟨trivial, trivial, trivial⟩ k
  rfl
theorem BX0_add_32 {d Z L : Nat} {xs : Nat → Int32} {z : Nat} {Φ : Out → T2 → T3 → Nat → Prop} {I : T2} {J : T3} {y1 : Int64} {x3 : Int32}  
    (k : Ev d Z L xs mX0_add 43 [some (.ref 19), some (.long y1), none, some (.int x3), none] [.int ((I 19 3) - 1), .ref 19, .ref 21] I J z Φ) : Ev d Z L xs mX0_add 32 [some (.ref 19), some (.long y1), none, some (.int x3), none] [] I J z Φ := by
  refine Ev.blk (ops := [o0 (.aload_n 0) 1, oK (.getfield 13) 3 0 1, o0 (.aload_n 0) 1, o0 (.aload_n 0) 1, oK (.getfield 21) 3 0 3, oI (.iconst 1) 1 1, o0 (.isub) 1]) (G := True ∧ (kd 19 = 0) ∧ True ∧ True ∧ (kd 19 = 0) ∧ True ∧ True ∧ True) (by decide +kernel) ?_ ⟨trivial, (by decide), trivial, trivial, (by decide), trivial, trivial, trivial⟩ k
  rfl
theorem BX0_add_46 {d Z L : Nat} {xs : Nat → Int32} {z : Nat} {Φ : Out → T2 → T3 → Nat → Prop} {I : T2} {J : T3} {y1 : Int64} {x3 : Int32} {as0 : Nat} {xs1 : Int32} (hk_as0 : kd as0 = 8) (g1 : vp_in xs1 (ln as0))
    (k : Ev d Z L xs mX0_add 64 [some (.ref 19), some (.long y1), none, some (.int x3), some (.int 0)] [] (up2 (up2 I as0 xs1.toNatClampNeg ((I as0 xs1.toNatClampNeg) + x3)) 19 4 (((up2 I as0 xs1.toNatClampNeg ((I as0 xs1.toNatClampNeg) + x3)) 19 4) + x3)) J z Φ) : Ev d Z L xs mX0_add 46 [some (.ref 19), some (.long y1), none, some (.int x3), none] [.int xs1, .ref as0] I J z Φ := by
  refine Ev.blk (ops := [o0 (.dup2) 1, o0 (.iaload) 1, o0 (.iload_n 3) 1, o0 (.iadd) 1, o0 (.iastore) 1, o0 (.aload_n 0) 1, o0 (.dup) 1, oK (.getfield 24) 3 0 4, o0 (.iload_n 3) 1, o0 (.iadd) 1, oK (.putfield 24) 3 0 4, oI (.iconst 0) 1 0, o0 (.istore 4) 2]) (G := True ∧ (kd as0 = 8 ∧ vp_in xs1 (ln as0)) ∧ True ∧ True ∧ (kd as0 = 8 ∧ vp_in xs1 (ln as0)) ∧ True ∧ True ∧ (kd 19 = 0) ∧ True ∧ True ∧ (kd 19 = 0) ∧ True ∧ True ∧ True) (by decide +kernel) ?_ ⟨trivial, ⟨hk_as0, g1⟩, trivial, trivial, ⟨hk_as0, g1⟩, trivial, trivial, (by decide), trivial, trivial, (by decide), trivial, trivial, trivial⟩ k
  rfl
theorem BX0_add_64 {d Z L : Nat} {xs : Nat → Int32} {z : Nat} {Φ : Out → T2 → T3 → Nat → Prop} {I : T2} {J : T3} {y1 : Int64} {x3 : Int32} {x4 : Int32}  
    (k : Ev d Z L xs mX0_add 69 [some (.ref 19), some (.long y1), none, some (.int x3), some (.int x4)] [.int 512, .int x4] I J z Φ) : Ev d Z L xs mX0_add 64 [some (.ref 19), some (.long y1), none, some (.int x3), some (.int x4)] [] I J z Φ := by
  refine Ev.blk (ops := [o0 (.iload 4) 2, oI (.sipush 512) 3 512]) (G := True ∧ True ∧ True) (by decide +kernel) ?_ ⟨trivial, trivial, trivial⟩ k
  rfl
theorem BX0_add_72 {d Z L : Nat} {xs : Nat → Int32} {z : Nat} {Φ : Out → T2 → T3 → Nat → Prop} {I : T2} {J : T3} {y1 : Int64} {x3 : Int32} {x4 : Int32}  
    (k : Ev d Z L xs mX0_add 79 [some (.ref 19), some (.long y1), none, some (.int x3), some (.int x4)] [.int 2000, .int (I 19 4)] I J z Φ) : Ev d Z L xs mX0_add 72 [some (.ref 19), some (.long y1), none, some (.int x3), some (.int x4)] [] I J z Φ := by
  refine Ev.blk (ops := [o0 (.aload_n 0) 1, oK (.getfield 24) 3 0 4, oI (.sipush 2000) 3 2000]) (G := True ∧ (kd 19 = 0) ∧ True ∧ True) (by decide +kernel) ?_ ⟨trivial, (by decide), trivial, trivial⟩ k
  rfl
theorem BX0_add_82 {d Z L : Nat} {xs : Nat → Int32} {z : Nat} {Φ : Out → T2 → T3 → Nat → Prop} {I : T2} {J : T3} {y1 : Int64} {x3 : Int32} {x4 : Int32}  
    (k : Ev d Z L xs mX0_add 91 [some (.ref 19), some (.long y1), none, some (.int x3), some (.int x4)] [.int ((I 19 4) - 2000), .ref 19] I J z Φ) : Ev d Z L xs mX0_add 82 [some (.ref 19), some (.long y1), none, some (.int x3), some (.int x4)] [] I J z Φ := by
  refine Ev.blk (ops := [o0 (.aload_n 0) 1, o0 (.aload_n 0) 1, oK (.getfield 24) 3 0 4, oI (.sipush 2000) 3 2000, o0 (.isub) 1]) (G := True ∧ True ∧ (kd 19 = 0) ∧ True ∧ True ∧ True) (by decide +kernel) ?_ ⟨trivial, trivial, (by decide), trivial, trivial, trivial⟩ k
  rfl
theorem BX0_add_94 {d Z L : Nat} {xs : Nat → Int32} {z : Nat} {Φ : Out → T2 → T3 → Nat → Prop} {I : T2} {J : T3} {y1 : Int64} {x3 : Int32} {x4 : Int32}  
    (k : Ev d Z L xs mX0_add 64 [some (.ref 19), some (.long y1), none, some (.int x3), some (.int (x4 + 1))] [] I J z Φ) : Ev d Z L xs mX0_add 94 [some (.ref 19), some (.long y1), none, some (.int x3), some (.int x4)] [] I J z Φ := by
  refine Ev.blk (ops := [oI (.iinc 4 1) 3 1, oK (.goto (-33)) 3 64 0]) (G := True ∧ True ∧ True) (by decide +kernel) ?_ ⟨trivial, trivial, trivial⟩ k
  rfl
theorem BX0_row_0 {d Z L : Nat} {xs : Nat → Int32} {z : Nat} {Φ : Out → T2 → T3 → Nat → Prop} {I : T2} {J : T3} {x1 : Int32}  
    (k : Ev d Z L xs mX0_row 10 [some (.ref 19), some (.int x1)] [.int (((I 19 2) + x1) - ((I 19 2) + x1) / 512 * 512)] I J z Φ) : Ev d Z L xs mX0_row 0 [some (.ref 19), some (.int x1)] [] I J z Φ := by
  refine Ev.blk (ops := [o0 (.aload_n 0) 1, oK (.getfield 17) 3 0 2, o0 (.iload_n 1) 1, o0 (.iadd) 1, oI (.sipush 512) 3 512, o0 (.irem) 1]) (G := True ∧ (kd 19 = 0) ∧ True ∧ True ∧ True ∧ (¬ 512 = (0 : Int32)) ∧ True) (by decide +kernel) ?_ ⟨trivial, (by decide), trivial, trivial, trivial, (by decide), trivial⟩ k
  rfl
theorem BX0_openRow_0 {d Z L : Nat} {xs : Nat → Int32} {z : Nat} {Φ : Out → T2 → T3 → Nat → Prop} {I : T2} {J : T3} {y1 : Int64}  
    (k : Ev d Z L xs mX0_openRow 7 [some (.ref 19), some (.long y1), none] [.int 512, .int (I 19 3)] I J z Φ) : Ev d Z L xs mX0_openRow 0 [some (.ref 19), some (.long y1), none] [] I J z Φ := by
  refine Ev.blk (ops := [o0 (.aload_n 0) 1, oK (.getfield 21) 3 0 3, oI (.sipush 512) 3 512]) (G := True ∧ (kd 19 = 0) ∧ True ∧ True) (by decide +kernel) ?_ ⟨trivial, (by decide), trivial, trivial⟩ k
  rfl
theorem BX0_openRow_10 {d Z L : Nat} {xs : Nat → Int32} {z : Nat} {Φ : Out → T2 → T3 → Nat → Prop} {I : T2} {J : T3} {y1 : Int64}  (g1 : vp_in (I 19 2) 512)
    (k : Ev d Z L xs mX0_openRow 20 [some (.ref 19), some (.long y1), none] [.int (I 21 (I 19 2).toNatClampNeg), .ref 19] I J z Φ) : Ev d Z L xs mX0_openRow 10 [some (.ref 19), some (.long y1), none] [] I J z Φ := by
  refine Ev.blk (ops := [o0 (.aload_n 0) 1, o0 (.aload_n 0) 1, oK (.getfield 13) 3 0 1, o0 (.aload_n 0) 1, oK (.getfield 17) 3 0 2, o0 (.iaload) 1]) (G := True ∧ True ∧ (kd 19 = 0) ∧ True ∧ (kd 19 = 0) ∧ (kd 21 = 8 ∧ vp_in (I 19 2) (ln 21)) ∧ True) (by decide +kernel) ?_ ⟨trivial, trivial, (by decide), trivial, (by decide), ⟨(by decide), g1⟩, trivial⟩ k
  rfl
theorem BX0_openRow_23 {d Z L : Nat} {xs : Nat → Int32} {z : Nat} {Φ : Out → T2 → T3 → Nat → Prop} {I : T2} {J : T3} {y1 : Int64}  
    (k : Ev d Z L xs mX0_openRow 44 [some (.ref 19), some (.long y1), none] [.int (((up2 I 19 3 ((I 19 3) + 1)) 19 3) - 1), .ref 19, .ref 20] (up2 I 19 3 ((I 19 3) + 1)) J z Φ) : Ev d Z L xs mX0_openRow 23 [some (.ref 19), some (.long y1), none] [] I J z Φ := by
  refine Ev.blk (ops := [o0 (.aload_n 0) 1, o0 (.dup) 1, oK (.getfield 21) 3 0 3, oI (.iconst 1) 1 1, o0 (.iadd) 1, oK (.putfield 21) 3 0 3, o0 (.aload_n 0) 1, oK (.getfield 9) 3 0 0, o0 (.aload_n 0) 1, o0 (.aload_n 0) 1, oK (.getfield 21) 3 0 3, oI (.iconst 1) 1 1, o0 (.isub) 1]) (G := True ∧ True ∧ (kd 19 = 0) ∧ True ∧ True ∧ (kd 19 = 0) ∧ True ∧ (kd 19 = 0) ∧ True ∧ True ∧ (kd 19 = 0) ∧ True ∧ True ∧ True) (by decide +kernel) ?_ ⟨trivial, trivial, (by decide), trivial, trivial, (by decide), trivial, (by decide), trivial, trivial, (by decide), trivial, trivial, trivial⟩ k
  rfl
theorem BX0_openRow_47 {d Z L : Nat} {xs : Nat → Int32} {z : Nat} {Φ : Out → T2 → T3 → Nat → Prop} {I : T2} {J : T3} {y1 : Int64} {as0 : Nat} {xs1 : Int32} (hk_as0 : kd as0 = 9) (g1 : vp_in xs1 (ln as0))
    (k : Ev d Z L xs mX0_openRow 60 [some (.ref 19), some (.long y1), none] [.int ((I 19 3) - 1), .ref 19, .ref 21] I (up3 J as0 xs1.toNatClampNeg y1) z Φ) : Ev d Z L xs mX0_openRow 47 [some (.ref 19), some (.long y1), none] [.int xs1, .ref as0] I J z Φ := by
  refine Ev.blk (ops := [o0 (.lload_n 1) 1, o0 (.lastore) 1, o0 (.aload_n 0) 1, oK (.getfield 13) 3 0 1, o0 (.aload_n 0) 1, o0 (.aload_n 0) 1, oK (.getfield 21) 3 0 3, oI (.iconst 1) 1 1, o0 (.isub) 1]) (G := True ∧ (kd as0 = 9 ∧ vp_in xs1 (ln as0)) ∧ True ∧ (kd 19 = 0) ∧ True ∧ True ∧ (kd 19 = 0) ∧ True ∧ True ∧ True) (by decide +kernel) ?_ ⟨trivial, ⟨hk_as0, g1⟩, trivial, (by decide), trivial, trivial, (by decide), trivial, trivial, trivial⟩ k
  rfl
theorem BX0_openRow_63 {d Z L : Nat} {xs : Nat → Int32} {z : Nat} {Φ : Out → T2 → T3 → Nat → Prop} {I : T2} {J : T3} {y1 : Int64} {as0 : Nat} {xs1 : Int32} (hk_as0 : kd as0 = 8) (g1 : vp_in xs1 (ln as0))
    (k : Ev d Z L xs mX0_openRow 65 [some (.ref 19), some (.long y1), none] [] (up2 I as0 xs1.toNatClampNeg 0) J z Φ) : Ev d Z L xs mX0_openRow 63 [some (.ref 19), some (.long y1), none] [.int xs1, .ref as0] I J z Φ := by
  refine Ev.blk (ops := [oI (.iconst 0) 1 0, o0 (.iastore) 1]) (G := True ∧ (kd as0 = 8 ∧ vp_in xs1 (ln as0)) ∧ True) (by decide +kernel) ?_ ⟨trivial, ⟨hk_as0, g1⟩, trivial⟩ k
  rfl
theorem BX0_forgetOldest_0 {d Z L : Nat} {xs : Nat → Int32} {z : Nat} {Φ : Out → T2 → T3 → Nat → Prop} {I : T2} {J : T3} {x1 : Int32}  (g1 : vp_in (I 19 2) 512)
    (k : Ev d Z L xs mX0_forgetOldest 10 [some (.ref 19), some (.int x1), none] [.int (I 21 (I 19 2).toNatClampNeg), .int x1] I J z Φ) : Ev d Z L xs mX0_forgetOldest 0 [some (.ref 19), some (.int x1), none] [] I J z Φ := by
  refine Ev.blk (ops := [o0 (.iload_n 1) 1, o0 (.aload_n 0) 1, oK (.getfield 13) 3 0 1, o0 (.aload_n 0) 1, oK (.getfield 17) 3 0 2, o0 (.iaload) 1]) (G := True ∧ True ∧ (kd 19 = 0) ∧ True ∧ (kd 19 = 0) ∧ (kd 21 = 8 ∧ vp_in (I 19 2) (ln 21)) ∧ True) (by decide +kernel) ?_ ⟨trivial, trivial, (by decide), trivial, (by decide), ⟨(by decide), g1⟩, trivial⟩ k
  rfl
theorem BX0_forgetOldest_13 {d Z L : Nat} {xs : Nat → Int32} {z : Nat} {Φ : Out → T2 → T3 → Nat → Prop} {I : T2} {J : T3} {x1 : Int32} {xs0 : Int32}  (g1 : vp_in (I 19 2) 512) (g2 : vp_in ((up2 (up2 I 21 (I 19 2).toNatClampNeg ((I 21 (I 19 2).toNatClampNeg) - xs0)) 19 4 (((up2 I 21 (I 19 2).toNatClampNeg ((I 21 (I 19 2).toNatClampNeg) - xs0)) 19 4) - xs0)) 19 2) 512)
    (k : Ev d Z L xs mX0_forgetOldest 46 [some (.ref 19), some (.int x1), some (.int xs0)] [.int ((up2 (up2 I 21 (I 19 2).toNatClampNeg ((I 21 (I 19 2).toNatClampNeg) - xs0)) 19 4 (((up2 I 21 (I 19 2).toNatClampNeg ((I 21 (I 19 2).toNatClampNeg) - xs0)) 19 4) - xs0)) 21 ((up2 (up2 I 21 (I 19 2).toNatClampNeg ((I 21 (I 19 2).toNatClampNeg) - xs0)) 19 4 (((up2 I 21 (I 19 2).toNatClampNeg ((I 21 (I 19 2).toNatClampNeg) - xs0)) 19 4) - xs0)) 19 2).toNatClampNeg)] (up2 (up2 I 21 (I 19 2).toNatClampNeg ((I 21 (I 19 2).toNatClampNeg) - xs0)) 19 4 (((up2 I 21 (I 19 2).toNatClampNeg ((I 21 (I 19 2).toNatClampNeg) - xs0)) 19 4) - xs0)) J z Φ) : Ev d Z L xs mX0_forgetOldest 13 [some (.ref 19), some (.int x1), none] [.int xs0] I J z Φ := by
  refine Ev.blk (ops := [o0 (.istore_n 2) 1, o0 (.aload_n 0) 1, oK (.getfield 13) 3 0 1, o0 (.aload_n 0) 1, oK (.getfield 17) 3 0 2, o0 (.dup2) 1, o0 (.iaload) 1, o0 (.iload_n 2) 1, o0 (.isub) 1, o0 (.iastore) 1, o0 (.aload_n 0) 1, o0 (.dup) 1, oK (.getfield 24) 3 0 4, o0 (.iload_n 2) 1, o0 (.isub) 1, oK (.putfield 24) 3 0 4, o0 (.aload_n 0) 1, oK (.getfield 13) 3 0 1, o0 (.aload_n 0) 1, oK (.getfield 17) 3 0 2, o0 (.iaload) 1]) (G := True ∧ True ∧ (kd 19 = 0) ∧ True ∧ (kd 19 = 0) ∧ True ∧ (kd 21 = 8 ∧ vp_in (I 19 2) (ln 21)) ∧ True ∧ True ∧ (kd 21 = 8 ∧ vp_in (I 19 2) (ln 21)) ∧ True ∧ True ∧ (kd 19 = 0) ∧ True ∧ True ∧ (kd 19 = 0) ∧ True ∧ (kd 19 = 0) ∧ True ∧ (kd 19 = 0) ∧ (kd 21 = 8 ∧ vp_in ((up2 (up2 I 21 (I 19 2).toNatClampNeg ((I 21 (I 19 2).toNatClampNeg) - xs0)) 19 4 (((up2 I 21 (I 19 2).toNatClampNeg ((I 21 (I 19 2).toNatClampNeg) - xs0)) 19 4) - xs0)) 19 2) (ln 21)) ∧ True) (by decide +kernel) ?_ ⟨trivial, trivial, (by decide), trivial, (by decide), trivial, ⟨(by decide), g1⟩, trivial, trivial, ⟨(by decide), g1⟩, trivial, trivial, (by decide), trivial, trivial, (by decide), trivial, (by decide), trivial, (by decide), ⟨(by decide), g2⟩, trivial⟩ k
  rfl
theorem BX0_forgetOldest_49 {d Z L : Nat} {xs : Nat → Int32} {z : Nat} {Φ : Out → T2 → T3 → Nat → Prop} {I : T2} {J : T3} {x1 : Int32} {x2 : Int32}  
    (k : Ev d Z L xs mX0_forgetOldest 52 [some (.ref 19), some (.int x1), some (.int x2)] [.int 1, .ref 19, .ref 19] I J z Φ) : Ev d Z L xs mX0_forgetOldest 49 [some (.ref 19), some (.int x1), some (.int x2)] [] I J z Φ := by
  refine Ev.blk (ops := [o0 (.aload_n 0) 1, o0 (.aload_n 0) 1, oI (.iconst 1) 1 1]) (G := True ∧ True ∧ True ∧ True) (by decide +kernel) ?_ ⟨trivial, trivial, trivial, trivial⟩ k
  rfl
theorem BX0_forgetOldest_55 {d Z L : Nat} {xs : Nat → Int32} {z : Nat} {Φ : Out → T2 → T3 → Nat → Prop} {I : T2} {J : T3} {x1 : Int32} {x2 : Int32} {xs1 : Int32}  
    (k : Ev d Z L xs mX0_forgetOldest 68 [some (.ref 19), some (.int x1), some (.int x2)] [] (up2 (up2 I 19 2 xs1) 19 3 (((up2 I 19 2 xs1) 19 3) - 1)) J z Φ) : Ev d Z L xs mX0_forgetOldest 55 [some (.ref 19), some (.int x1), some (.int x2)] [.int xs1, .ref 19] I J z Φ := by
  refine Ev.blk (ops := [oK (.putfield 17) 3 0 2, o0 (.aload_n 0) 1, o0 (.dup) 1, oK (.getfield 21) 3 0 3, oI (.iconst 1) 1 1, o0 (.isub) 1, oK (.putfield 21) 3 0 3]) (G := (kd 19 = 0) ∧ True ∧ True ∧ (kd 19 = 0) ∧ True ∧ True ∧ (kd 19 = 0) ∧ True) (by decide +kernel) ?_ ⟨(by decide), trivial, trivial, (by decide), trivial, trivial, (by decide), trivial⟩ k
  rfl
theorem BX0_mostWithin_0 {d Z L : Nat} {xs : Nat → Int32} {z : Nat} {Φ : Out → T2 → T3 → Nat → Prop} {I : T2} {J : T3} {x1 : Int32}  
    (k : Ev d Z L xs mX0_mostWithin 10 [some (.ref 19), some (.int x1), some (.int 0), some (.int 0), some (.int 0), some (.int 0)] [] I J z Φ) : Ev d Z L xs mX0_mostWithin 0 [some (.ref 19), some (.int x1), none, none, none, none] [] I J z Φ := by
  refine Ev.blk (ops := [oI (.iconst 0) 1 0, o0 (.istore_n 2) 1, oI (.iconst 0) 1 0, o0 (.istore_n 3) 1, oI (.iconst 0) 1 0, o0 (.istore 4) 2, oI (.iconst 0) 1 0, o0 (.istore 5) 2]) (G := True ∧ True ∧ True ∧ True ∧ True ∧ True ∧ True ∧ True ∧ True) (by decide +kernel) ?_ ⟨trivial, trivial, trivial, trivial, trivial, trivial, trivial, trivial, trivial⟩ k
  rfl
theorem BX0_mostWithin_10 {d Z L : Nat} {xs : Nat → Int32} {z : Nat} {Φ : Out → T2 → T3 → Nat → Prop} {I : T2} {J : T3} {x1 : Int32} {x2 : Int32} {x3 : Int32} {x4 : Int32} {x5 : Int32}  
    (k : Ev d Z L xs mX0_mostWithin 16 [some (.ref 19), some (.int x1), some (.int x2), some (.int x3), some (.int x4), some (.int x5)] [.int (I 19 3), .int x5] I J z Φ) : Ev d Z L xs mX0_mostWithin 10 [some (.ref 19), some (.int x1), some (.int x2), some (.int x3), some (.int x4), some (.int x5)] [] I J z Φ := by
  refine Ev.blk (ops := [o0 (.iload 5) 2, o0 (.aload_n 0) 1, oK (.getfield 21) 3 0 3]) (G := True ∧ True ∧ (kd 19 = 0) ∧ True) (by decide +kernel) ?_ ⟨trivial, trivial, (by decide), trivial⟩ k
  rfl
theorem BX0_mostWithin_19 {d Z L : Nat} {xs : Nat → Int32} {z : Nat} {Φ : Out → T2 → T3 → Nat → Prop} {I : T2} {J : T3} {x1 : Int32} {x2 : Int32} {x3 : Int32} {x4 : Int32} {x5 : Int32}  
    (k : Ev d Z L xs mX0_mostWithin 27 [some (.ref 19), some (.int x1), some (.int x2), some (.int x3), some (.int x4), some (.int x5)] [.int x5, .ref 19, .ref 21, .int x3] I J z Φ) : Ev d Z L xs mX0_mostWithin 19 [some (.ref 19), some (.int x1), some (.int x2), some (.int x3), some (.int x4), some (.int x5)] [] I J z Φ := by
  refine Ev.blk (ops := [o0 (.iload_n 3) 1, o0 (.aload_n 0) 1, oK (.getfield 13) 3 0 1, o0 (.aload_n 0) 1, o0 (.iload 5) 2]) (G := True ∧ True ∧ (kd 19 = 0) ∧ True ∧ True ∧ True) (by decide +kernel) ?_ ⟨trivial, trivial, (by decide), trivial, trivial, trivial⟩ k
  rfl
theorem BX0_mostWithin_30 {d Z L : Nat} {xs : Nat → Int32} {z : Nat} {Φ : Out → T2 → T3 → Nat → Prop} {I : T2} {J : T3} {x1 : Int32} {x2 : Int32} {x3 : Int32} {x4 : Int32} {x5 : Int32} {xs0 : Int32} {as1 : Nat} {xs2 : Int32} (hk_as1 : kd as1 = 8) (g1 : vp_in xs2 (ln as1))
    (k : Ev d Z L xs mX0_mostWithin 33 [some (.ref 19), some (.int x1), some (.int x2), some (.int (xs0 + (I as1 xs2.toNatClampNeg))), some (.int x4), some (.int x5)] [] I J z Φ) : Ev d Z L xs mX0_mostWithin 30 [some (.ref 19), some (.int x1), some (.int x2), some (.int x3), some (.int x4), some (.int x5)] [.int xs2, .ref as1, .int xs0] I J z Φ := by
  refine Ev.blk (ops := [o0 (.iaload) 1, o0 (.iadd) 1, o0 (.istore_n 3) 1]) (G := (kd as1 = 8 ∧ vp_in xs2 (ln as1)) ∧ True ∧ True ∧ True) (by decide +kernel) ?_ ⟨⟨hk_as1, g1⟩, trivial, trivial, trivial⟩ k
  rfl
theorem BX0_mostWithin_33 {d Z L : Nat} {xs : Nat → Int32} {z : Nat} {Φ : Out → T2 → T3 → Nat → Prop} {I : T2} {J : T3} {x1 : Int32} {x2 : Int32} {x3 : Int32} {x4 : Int32} {x5 : Int32}  
    (k : Ev d Z L xs mX0_mostWithin 37 [some (.ref 19), some (.int x1), some (.int x2), some (.int x3), some (.int x4), some (.int x5)] [.int x5, .int x4] I J z Φ) : Ev d Z L xs mX0_mostWithin 33 [some (.ref 19), some (.int x1), some (.int x2), some (.int x3), some (.int x4), some (.int x5)] [] I J z Φ := by
  refine Ev.blk (ops := [o0 (.iload 4) 2, o0 (.iload 5) 2]) (G := True ∧ True ∧ True) (by decide +kernel) ?_ ⟨trivial, trivial, trivial⟩ k
  rfl
theorem BX0_mostWithin_40 {d Z L : Nat} {xs : Nat → Int32} {z : Nat} {Φ : Out → T2 → T3 → Nat → Prop} {I : T2} {J : T3} {x1 : Int32} {x2 : Int32} {x3 : Int32} {x4 : Int32} {x5 : Int32}  
    (k : Ev d Z L xs mX0_mostWithin 47 [some (.ref 19), some (.int x1), some (.int x2), some (.int x3), some (.int x4), some (.int x5)] [.int x5, .ref 19, .ref 20] I J z Φ) : Ev d Z L xs mX0_mostWithin 40 [some (.ref 19), some (.int x1), some (.int x2), some (.int x3), some (.int x4), some (.int x5)] [] I J z Φ := by
  refine Ev.blk (ops := [o0 (.aload_n 0) 1, oK (.getfield 9) 3 0 0, o0 (.aload_n 0) 1, o0 (.iload 5) 2]) (G := True ∧ (kd 19 = 0) ∧ True ∧ True ∧ True) (by decide +kernel) ?_ ⟨trivial, (by decide), trivial, trivial, trivial⟩ k
  rfl
theorem BX0_mostWithin_50 {d Z L : Nat} {xs : Nat → Int32} {z : Nat} {Φ : Out → T2 → T3 → Nat → Prop} {I : T2} {J : T3} {x1 : Int32} {x2 : Int32} {x3 : Int32} {x4 : Int32} {x5 : Int32} {as0 : Nat} {xs1 : Int32} (hk_as0 : kd as0 = 9) (g1 : vp_in xs1 (ln as0))
    (k : Ev d Z L xs mX0_mostWithin 58 [some (.ref 19), some (.int x1), some (.int x2), some (.int x3), some (.int x4), some (.int x5)] [.int x4, .ref 19, .ref 20, .long (J as0 xs1.toNatClampNeg)] I J z Φ) : Ev d Z L xs mX0_mostWithin 50 [some (.ref 19), some (.int x1), some (.int x2), some (.int x3), some (.int x4), some (.int x5)] [.int xs1, .ref as0] I J z Φ := by
  refine Ev.blk (ops := [o0 (.laload) 1, o0 (.aload_n 0) 1, oK (.getfield 9) 3 0 0, o0 (.aload_n 0) 1, o0 (.iload 4) 2]) (G := (kd as0 = 9 ∧ vp_in xs1 (ln as0)) ∧ True ∧ (kd 19 = 0) ∧ True ∧ True ∧ True) (by decide +kernel) ?_ ⟨⟨hk_as0, g1⟩, trivial, (by decide), trivial, trivial, trivial⟩ k
  rfl
theorem BX0_mostWithin_61 {d Z L : Nat} {xs : Nat → Int32} {z : Nat} {Φ : Out → T2 → T3 → Nat → Prop} {I : T2} {J : T3} {x1 : Int32} {x2 : Int32} {x3 : Int32} {x4 : Int32} {x5 : Int32} {ys0 : Int64} {as1 : Nat} {xs2 : Int32} (hk_as1 : kd as1 = 9) (g1 : vp_in xs2 (ln as1))
    (k : Ev d Z L xs mX0_mostWithin 66 [some (.ref 19), some (.int x1), some (.int x2), some (.int x3), some (.int x4), some (.int x5)] [.int (lg_cmp (ys0 - (J as1 xs2.toNatClampNeg)) x1.toInt64)] I J z Φ) : Ev d Z L xs mX0_mostWithin 61 [some (.ref 19), some (.int x1), some (.int x2), some (.int x3), some (.int x4), some (.int x5)] [.int xs2, .ref as1, .long ys0] I J z Φ := by
  refine Ev.blk (ops := [o0 (.laload) 1, o0 (.lsub) 1, o0 (.iload_n 1) 1, o0 (.i2l) 1, o0 (.lcmp) 1]) (G := (kd as1 = 9 ∧ vp_in xs2 (ln as1)) ∧ True ∧ True ∧ True ∧ True ∧ True) (by decide +kernel) ?_ ⟨⟨hk_as1, g1⟩, trivial, trivial, trivial, trivial, trivial⟩ k
  rfl
theorem BX0_mostWithin_69 {d Z L : Nat} {xs : Nat → Int32} {z : Nat} {Φ : Out → T2 → T3 → Nat → Prop} {I : T2} {J : T3} {x1 : Int32} {x2 : Int32} {x3 : Int32} {x4 : Int32} {x5 : Int32}  
    (k : Ev d Z L xs mX0_mostWithin 77 [some (.ref 19), some (.int x1), some (.int x2), some (.int x3), some (.int x4), some (.int x5)] [.int x4, .ref 19, .ref 21, .int x3] I J z Φ) : Ev d Z L xs mX0_mostWithin 69 [some (.ref 19), some (.int x1), some (.int x2), some (.int x3), some (.int x4), some (.int x5)] [] I J z Φ := by
  refine Ev.blk (ops := [o0 (.iload_n 3) 1, o0 (.aload_n 0) 1, oK (.getfield 13) 3 0 1, o0 (.aload_n 0) 1, o0 (.iload 4) 2]) (G := True ∧ True ∧ (kd 19 = 0) ∧ True ∧ True ∧ True) (by decide +kernel) ?_ ⟨trivial, trivial, (by decide), trivial, trivial, trivial⟩ k
  rfl
theorem BX0_mostWithin_80 {d Z L : Nat} {xs : Nat → Int32} {z : Nat} {Φ : Out → T2 → T3 → Nat → Prop} {I : T2} {J : T3} {x1 : Int32} {x2 : Int32} {x3 : Int32} {x4 : Int32} {x5 : Int32} {xs0 : Int32} {as1 : Nat} {xs2 : Int32} (hk_as1 : kd as1 = 8) (g1 : vp_in xs2 (ln as1))
    (k : Ev d Z L xs mX0_mostWithin 33 [some (.ref 19), some (.int x1), some (.int x2), some (.int (xs0 - (I as1 xs2.toNatClampNeg))), some (.int (x4 + 1)), some (.int x5)] [] I J z Φ) : Ev d Z L xs mX0_mostWithin 80 [some (.ref 19), some (.int x1), some (.int x2), some (.int x3), some (.int x4), some (.int x5)] [.int xs2, .ref as1, .int xs0] I J z Φ := by
  refine Ev.blk (ops := [o0 (.iaload) 1, o0 (.isub) 1, o0 (.istore_n 3) 1, oI (.iinc 4 1) 3 1, oK (.goto (-53)) 3 33 0]) (G := (kd as1 = 8 ∧ vp_in xs2 (ln as1)) ∧ True ∧ True ∧ True ∧ True ∧ True) (by decide +kernel) ?_ ⟨⟨hk_as1, g1⟩, trivial, trivial, trivial, trivial, trivial⟩ k
  rfl
theorem BX0_mostWithin_89 {d Z L : Nat} {xs : Nat → Int32} {z : Nat} {Φ : Out → T2 → T3 → Nat → Prop} {I : T2} {J : T3} {x1 : Int32} {x2 : Int32} {x3 : Int32} {x4 : Int32} {x5 : Int32}  
    (k : Ev d Z L xs mX0_mostWithin 91 [some (.ref 19), some (.int x1), some (.int x2), some (.int x3), some (.int x4), some (.int x5)] [.int x3, .int x2] I J z Φ) : Ev d Z L xs mX0_mostWithin 89 [some (.ref 19), some (.int x1), some (.int x2), some (.int x3), some (.int x4), some (.int x5)] [] I J z Φ := by
  refine Ev.blk (ops := [o0 (.iload_n 2) 1, o0 (.iload_n 3) 1]) (G := True ∧ True ∧ True) (by decide +kernel) ?_ ⟨trivial, trivial, trivial⟩ k
  rfl
theorem BX0_mostWithin_94 {d Z L : Nat} {xs : Nat → Int32} {z : Nat} {Φ : Out → T2 → T3 → Nat → Prop} {I : T2} {J : T3} {x1 : Int32} {x2 : Int32} {x3 : Int32} {x4 : Int32} {x5 : Int32} {xs0 : Int32}  
    (k : Ev d Z L xs mX0_mostWithin 10 [some (.ref 19), some (.int x1), some (.int xs0), some (.int x3), some (.int x4), some (.int (x5 + 1))] [] I J z Φ) : Ev d Z L xs mX0_mostWithin 94 [some (.ref 19), some (.int x1), some (.int x2), some (.int x3), some (.int x4), some (.int x5)] [.int xs0] I J z Φ := by
  refine Ev.blk (ops := [o0 (.istore_n 2) 1, oI (.iinc 5 1) 3 1, oK (.goto (-88)) 3 10 0]) (G := True ∧ True ∧ True ∧ True) (by decide +kernel) ?_ ⟨trivial, trivial, trivial, trivial⟩ k
  rfl
theorem BX0_mostWithin_101 {d Z L : Nat} {xs : Nat → Int32} {z : Nat} {Φ : Out → T2 → T3 → Nat → Prop} {I : T2} {J : T3} {x1 : Int32} {x2 : Int32} {x3 : Int32} {x4 : Int32} {x5 : Int32}  
    (k : Ev d Z L xs mX0_mostWithin 102 [some (.ref 19), some (.int x1), some (.int x2), some (.int x3), some (.int x4), some (.int x5)] [.int x2] I J z Φ) : Ev d Z L xs mX0_mostWithin 101 [some (.ref 19), some (.int x1), some (.int x2), some (.int x3), some (.int x4), some (.int x5)] [] I J z Φ := by
  refine Ev.blk (ops := [o0 (.iload_n 2) 1]) (G := True ∧ True) (by decide +kernel) ?_ ⟨trivial, trivial⟩ k
  rfl
