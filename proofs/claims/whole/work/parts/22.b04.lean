theorem BX4_init_0 {d Z L : Nat} {xs : Nat → Int32} {z : Nat} {Φ : Out → T2 → T3 → Nat → Prop} {I : T2} {J : T3}   
    (k : Ev d Z L xs mX4_init 1 [some (.ref 14)] [.ref 14] I J z Φ) : Ev d Z L xs mX4_init 0 [some (.ref 14)] [] I J z Φ := by
  refine Ev.blk (ops := [o0 (.aload_n 0) 1]) (G := True ∧ True) (by decide +kernel) ?_ ⟨trivial, trivial⟩ k
  rfl
theorem BX4_init_4 {d Z L : Nat} {xs : Nat → Int32} {z : Nat} {Φ : Out → T2 → T3 → Nat → Prop} {I : T2} {J : T3}   
    (k : Ev d Z L xs mX4_init 7 [some (.ref 14)] [.int 8, .ref 14] I J z Φ) : Ev d Z L xs mX4_init 4 [some (.ref 14)] [] I J z Φ := by
  refine Ev.blk (ops := [o0 (.aload_n 0) 1, oI (.bipush 8) 2 8]) (G := True ∧ True ∧ True) (by decide +kernel) ?_ ⟨trivial, trivial, trivial⟩ k
  rfl
theorem BX4_begin_0 {d Z L : Nat} {xs : Nat → Int32} {z : Nat} {Φ : Out → T2 → T3 → Nat → Prop} {I : T2} {J : T3} {x1 : Int32}  
    (k : Ev d Z L xs mX4_begin 10 [some (.ref 14), some (.int x1)] [.int 0, .ref 15] (up2 I 14 4 x1) J z Φ) : Ev d Z L xs mX4_begin 0 [some (.ref 14), some (.int x1)] [] I J z Φ := by
  refine Ev.blk (ops := [o0 (.aload_n 0) 1, o0 (.iload_n 1) 1, oK (.putfield 25) 3 4 4, o0 (.aload_n 0) 1, oK (.getfield 9) 3 4 0, oI (.iconst 0) 1 0]) (G := True ∧ True ∧ (kd 14 = 4) ∧ True ∧ (kd 14 = 4) ∧ True ∧ True) (by decide +kernel) ?_ ⟨trivial, trivial, (by decide), trivial, (by decide), trivial, trivial⟩ k
  rfl
theorem BX4_begin_13 {d Z L : Nat} {xs : Nat → Int32} {z : Nat} {Φ : Out → T2 → T3 → Nat → Prop} {I : T2} {J : T3} {x1 : Int32}  
    (k : Ev d Z L xs mX4_begin 18 [some (.ref 14), some (.int x1)] [.int 0, .ref 16] I J z Φ) : Ev d Z L xs mX4_begin 13 [some (.ref 14), some (.int x1)] [] I J z Φ := by
  refine Ev.blk (ops := [o0 (.aload_n 0) 1, oK (.getfield 15) 3 4 1, oI (.iconst 0) 1 0]) (G := True ∧ (kd 14 = 4) ∧ True ∧ True) (by decide +kernel) ?_ ⟨trivial, (by decide), trivial, trivial⟩ k
  rfl
theorem BX4_begin_21 {d Z L : Nat} {xs : Nat → Int32} {z : Nat} {Φ : Out → T2 → T3 → Nat → Prop} {I : T2} {J : T3} {x1 : Int32}  
    (k : Ev d Z L xs mX4_begin 26 [some (.ref 14), some (.int x1)] [.int 0, .ref 17] I J z Φ) : Ev d Z L xs mX4_begin 21 [some (.ref 14), some (.int x1)] [] I J z Φ := by
  refine Ev.blk (ops := [o0 (.aload_n 0) 1, oK (.getfield 18) 3 4 2, oI (.iconst 0) 1 0]) (G := True ∧ (kd 14 = 4) ∧ True ∧ True) (by decide +kernel) ?_ ⟨trivial, (by decide), trivial, trivial⟩ k
  rfl
theorem BX4_enter_0 {d Z L : Nat} {xs : Nat → Int32} {z : Nat} {Φ : Out → T2 → T3 → Nat → Prop} {I : T2} {J : T3} {x1 : Int32} {x2 : Int32} {x3 : Int32}  (g1 : vp_in x1 8)
    (k : Ev d Z L xs mX4_enter 14 [some (.ref 14), some (.int x1), some (.int x2), some (.int x3)] [] (up2 (up2 I 15 x1.toNatClampNeg x2) 16 x1.toNatClampNeg x3) J z Φ) : Ev d Z L xs mX4_enter 0 [some (.ref 14), some (.int x1), some (.int x2), some (.int x3)] [] I J z Φ := by
  refine Ev.blk (ops := [o0 (.aload_n 0) 1, oK (.getfield 9) 3 4 0, o0 (.iload_n 1) 1, o0 (.iload_n 2) 1, o0 (.iastore) 1, o0 (.aload_n 0) 1, oK (.getfield 15) 3 4 1, o0 (.iload_n 1) 1, o0 (.iload_n 3) 1, o0 (.iastore) 1]) (G := True ∧ (kd 14 = 4) ∧ True ∧ True ∧ (kd 15 = 8 ∧ vp_in x1 (ln 15)) ∧ True ∧ (kd 14 = 4) ∧ True ∧ True ∧ (kd 16 = 8 ∧ vp_in x1 (ln 16)) ∧ True) (by decide +kernel) ?_ ⟨trivial, (by decide), trivial, trivial, ⟨(by decide), g1⟩, trivial, (by decide), trivial, trivial, ⟨(by decide), g1⟩, trivial⟩ k
  rfl
theorem BX4_giveByUse_0 {d Z L : Nat} {xs : Nat → Int32} {z : Nat} {Φ : Out → T2 → T3 → Nat → Prop} {I : T2} {J : T3}   
    (k : Ev d Z L xs mX4_giveByUse 2 [some (.ref 14), some (.int 0), none, none] [] I J z Φ) : Ev d Z L xs mX4_giveByUse 0 [some (.ref 14), none, none, none] [] I J z Φ := by
  refine Ev.blk (ops := [oI (.iconst 0) 1 0, o0 (.istore_n 1) 1]) (G := True ∧ True ∧ True) (by decide +kernel) ?_ ⟨trivial, trivial, trivial⟩ k
  rfl
theorem BX4_giveByUse_2 {d Z L : Nat} {xs : Nat → Int32} {z : Nat} {Φ : Out → T2 → T3 → Nat → Prop} {I : T2} {J : T3} {x1 : Int32}  
    (k : Ev d Z L xs mX4_giveByUse 5 [some (.ref 14), some (.int x1), none, none] [.int 100, .int x1] I J z Φ) : Ev d Z L xs mX4_giveByUse 2 [some (.ref 14), some (.int x1), none, none] [] I J z Φ := by
  refine Ev.blk (ops := [o0 (.iload_n 1) 1, oI (.bipush 100) 2 100]) (G := True ∧ True ∧ True) (by decide +kernel) ?_ ⟨trivial, trivial, trivial⟩ k
  rfl
theorem BX4_giveByUse_8 {d Z L : Nat} {xs : Nat → Int32} {z : Nat} {Φ : Out → T2 → T3 → Nat → Prop} {I : T2} {J : T3} {x1 : Int32}  
    (k : Ev d Z L xs mX4_giveByUse 12 [some (.ref 14), some (.int x1), none, none] [.int (I 14 4)] I J z Φ) : Ev d Z L xs mX4_giveByUse 8 [some (.ref 14), some (.int x1), none, none] [] I J z Φ := by
  refine Ev.blk (ops := [o0 (.aload_n 0) 1, oK (.getfield 25) 3 4 4]) (G := True ∧ (kd 14 = 4) ∧ True) (by decide +kernel) ?_ ⟨trivial, (by decide), trivial⟩ k
  rfl
theorem BX4_giveByUse_15 {d Z L : Nat} {xs : Nat → Int32} {z : Nat} {Φ : Out → T2 → T3 → Nat → Prop} {I : T2} {J : T3} {x1 : Int32}  
    (k : Ev d Z L xs mX4_giveByUse 16 [some (.ref 14), some (.int x1), none, none] [.ref 14] I J z Φ) : Ev d Z L xs mX4_giveByUse 15 [some (.ref 14), some (.int x1), none, none] [] I J z Φ := by
  refine Ev.blk (ops := [o0 (.aload_n 0) 1]) (G := True ∧ True) (by decide +kernel) ?_ ⟨trivial, trivial⟩ k
  rfl
theorem BX4_giveByUse_22 {d Z L : Nat} {xs : Nat → Int32} {z : Nat} {Φ : Out → T2 → T3 → Nat → Prop} {I : T2} {J : T3} {x1 : Int32}  
    (k : Ev d Z L xs mX4_giveByUse 23 [some (.ref 14), some (.int x1), none, none] [.ref 14] I J z Φ) : Ev d Z L xs mX4_giveByUse 22 [some (.ref 14), some (.int x1), none, none] [] I J z Φ := by
  refine Ev.blk (ops := [o0 (.aload_n 0) 1]) (G := True ∧ True) (by decide +kernel) ?_ ⟨trivial, trivial⟩ k
  rfl
theorem BX4_giveByUse_26 {d Z L : Nat} {xs : Nat → Int32} {z : Nat} {Φ : Out → T2 → T3 → Nat → Prop} {I : T2} {J : T3} {x1 : Int32} {ys0 : Int64}  
    (k : Ev d Z L xs mX4_giveByUse 30 [some (.ref 14), some (.int x1), some (.long ys0), none] [.int (lg_cmp ys0 0)] I J z Φ) : Ev d Z L xs mX4_giveByUse 26 [some (.ref 14), some (.int x1), none, none] [.long ys0] I J z Φ := by
  refine Ev.blk (ops := [o0 (.lstore_n 2) 1, o0 (.lload_n 2) 1, oL (.lconst 0) 1 0, o0 (.lcmp) 1]) (G := True ∧ True ∧ True ∧ True ∧ True) (by decide +kernel) ?_ ⟨trivial, trivial, trivial, trivial, trivial⟩ k
  rfl
theorem BX4_giveByUse_33 {d Z L : Nat} {xs : Nat → Int32} {z : Nat} {Φ : Out → T2 → T3 → Nat → Prop} {I : T2} {J : T3} {x1 : Int32} {y2 : Int64}  
    (k : Ev d Z L xs mX4_giveByUse 34 [some (.ref 14), some (.int x1), some (.long y2), none] [.ref 14] I J z Φ) : Ev d Z L xs mX4_giveByUse 33 [some (.ref 14), some (.int x1), some (.long y2), none] [] I J z Φ := by
  refine Ev.blk (ops := [o0 (.aload_n 0) 1]) (G := True ∧ True) (by decide +kernel) ?_ ⟨trivial, trivial⟩ k
  rfl
theorem BX4_giveByUse_38 {d Z L : Nat} {xs : Nat → Int32} {z : Nat} {Φ : Out → T2 → T3 → Nat → Prop} {I : T2} {J : T3} {x1 : Int32} {y2 : Int64}  
    (k : Ev d Z L xs mX4_giveByUse 40 [some (.ref 14), some (.int x1), some (.long y2), none] [.long y2, .ref 14] I J z Φ) : Ev d Z L xs mX4_giveByUse 38 [some (.ref 14), some (.int x1), some (.long y2), none] [] I J z Φ := by
  refine Ev.blk (ops := [o0 (.aload_n 0) 1, o0 (.lload_n 2) 1]) (G := True ∧ True ∧ True) (by decide +kernel) ?_ ⟨trivial, trivial, trivial⟩ k
  rfl
theorem BX4_giveByUse_43 {d Z L : Nat} {xs : Nat → Int32} {z : Nat} {Φ : Out → T2 → T3 → Nat → Prop} {I : T2} {J : T3} {x1 : Int32} {y2 : Int64}  
    (k : Ev d Z L xs mX4_giveByUse 44 [some (.ref 14), some (.int x1), some (.long y2), none] [.ref 14] I J z Φ) : Ev d Z L xs mX4_giveByUse 43 [some (.ref 14), some (.int x1), some (.long y2), none] [] I J z Φ := by
  refine Ev.blk (ops := [o0 (.aload_n 0) 1]) (G := True ∧ True) (by decide +kernel) ?_ ⟨trivial, trivial⟩ k
  rfl
theorem BX4_giveByUse_47 {d Z L : Nat} {xs : Nat → Int32} {z : Nat} {Φ : Out → T2 → T3 → Nat → Prop} {I : T2} {J : T3} {x1 : Int32} {y2 : Int64}  
    (k : Ev d Z L xs mX4_giveByUse 2 [some (.ref 14), some (.int (x1 + 1)), some (.long y2), none] [] I J z Φ) : Ev d Z L xs mX4_giveByUse 47 [some (.ref 14), some (.int x1), some (.long y2), none] [] I J z Φ := by
  refine Ev.blk (ops := [oI (.iinc 1 1) 3 1, oK (.goto (-48)) 3 2 0]) (G := True ∧ True ∧ True) (by decide +kernel) ?_ ⟨trivial, trivial, trivial⟩ k
  rfl
theorem BX4_wantingGates_0 {d Z L : Nat} {xs : Nat → Int32} {z : Nat} {Φ : Out → T2 → T3 → Nat → Prop} {I : T2} {J : T3}   
    (k : Ev d Z L xs mX4_wantingGates 4 [some (.ref 14), some (.int 0), some (.int 0)] [] I J z Φ) : Ev d Z L xs mX4_wantingGates 0 [some (.ref 14), none, none] [] I J z Φ := by
  refine Ev.blk (ops := [oI (.iconst 0) 1 0, o0 (.istore_n 1) 1, oI (.iconst 0) 1 0, o0 (.istore_n 2) 1]) (G := True ∧ True ∧ True ∧ True ∧ True) (by decide +kernel) ?_ ⟨trivial, trivial, trivial, trivial, trivial⟩ k
  rfl
theorem BX4_wantingGates_4 {d Z L : Nat} {xs : Nat → Int32} {z : Nat} {Φ : Out → T2 → T3 → Nat → Prop} {I : T2} {J : T3} {x1 : Int32} {x2 : Int32}  
    (k : Ev d Z L xs mX4_wantingGates 7 [some (.ref 14), some (.int x1), some (.int x2)] [.int 8, .int x2] I J z Φ) : Ev d Z L xs mX4_wantingGates 4 [some (.ref 14), some (.int x1), some (.int x2)] [] I J z Φ := by
  refine Ev.blk (ops := [o0 (.iload_n 2) 1, oI (.bipush 8) 2 8]) (G := True ∧ True ∧ True) (by decide +kernel) ?_ ⟨trivial, trivial, trivial⟩ k
  rfl
theorem BX4_wantingGates_10 {d Z L : Nat} {xs : Nat → Int32} {z : Nat} {Φ : Out → T2 → T3 → Nat → Prop} {I : T2} {J : T3} {x1 : Int32} {x2 : Int32}  
    (k : Ev d Z L xs mX4_wantingGates 13 [some (.ref 14), some (.int x1), some (.int x2)] [.int x2, .ref 14, .int x1] I J z Φ) : Ev d Z L xs mX4_wantingGates 10 [some (.ref 14), some (.int x1), some (.int x2)] [] I J z Φ := by
  refine Ev.blk (ops := [o0 (.iload_n 1) 1, o0 (.aload_n 0) 1, o0 (.iload_n 2) 1]) (G := True ∧ True ∧ True ∧ True) (by decide +kernel) ?_ ⟨trivial, trivial, trivial, trivial⟩ k
  rfl
theorem BX4_wantingGates_19 {d Z L : Nat} {xs : Nat → Int32} {z : Nat} {Φ : Out → T2 → T3 → Nat → Prop} {I : T2} {J : T3} {x1 : Int32} {x2 : Int32} {xs0 : Int32}  
    (k : Ev d Z L xs mX4_wantingGates 24 [some (.ref 14), some (.int x1), some (.int x2)] [.int 1, .int xs0] I J z Φ) : Ev d Z L xs mX4_wantingGates 19 [some (.ref 14), some (.int x1), some (.int x2)] [.int xs0] I J z Φ := by
  refine Ev.blk (ops := [oI (.iconst 1) 1 1, oK (.goto 4) 3 24 0]) (G := True ∧ True ∧ True) (by decide +kernel) ?_ ⟨trivial, trivial, trivial⟩ k
  rfl
theorem BX4_wantingGates_23 {d Z L : Nat} {xs : Nat → Int32} {z : Nat} {Φ : Out → T2 → T3 → Nat → Prop} {I : T2} {J : T3} {x1 : Int32} {x2 : Int32} {xs0 : Int32}  
    (k : Ev d Z L xs mX4_wantingGates 24 [some (.ref 14), some (.int x1), some (.int x2)] [.int 0, .int xs0] I J z Φ) : Ev d Z L xs mX4_wantingGates 23 [some (.ref 14), some (.int x1), some (.int x2)] [.int xs0] I J z Φ := by
  refine Ev.blk (ops := [oI (.iconst 0) 1 0]) (G := True ∧ True) (by decide +kernel) ?_ ⟨trivial, trivial⟩ k
  rfl
theorem BX4_wantingGates_24 {d Z L : Nat} {xs : Nat → Int32} {z : Nat} {Φ : Out → T2 → T3 → Nat → Prop} {I : T2} {J : T3} {x1 : Int32} {x2 : Int32} {xs0 : Int32} {xs1 : Int32}  
    (k : Ev d Z L xs mX4_wantingGates 4 [some (.ref 14), some (.int (xs0 + xs1)), some (.int (x2 + 1))] [] I J z Φ) : Ev d Z L xs mX4_wantingGates 24 [some (.ref 14), some (.int x1), some (.int x2)] [.int xs1, .int xs0] I J z Φ := by
  refine Ev.blk (ops := [o0 (.iadd) 1, o0 (.istore_n 1) 1, oI (.iinc 2 1) 3 1, oK (.goto (-25)) 3 4 0]) (G := True ∧ True ∧ True ∧ True ∧ True) (by decide +kernel) ?_ ⟨trivial, trivial, trivial, trivial, trivial⟩ k
  rfl
theorem BX4_wantingGates_32 {d Z L : Nat} {xs : Nat → Int32} {z : Nat} {Φ : Out → T2 → T3 → Nat → Prop} {I : T2} {J : T3} {x1 : Int32} {x2 : Int32}  
    (k : Ev d Z L xs mX4_wantingGates 33 [some (.ref 14), some (.int x1), some (.int x2)] [.int x1] I J z Φ) : Ev d Z L xs mX4_wantingGates 32 [some (.ref 14), some (.int x1), some (.int x2)] [] I J z Φ := by
  refine Ev.blk (ops := [o0 (.iload_n 1) 1]) (G := True ∧ True) (by decide +kernel) ?_ ⟨trivial, trivial⟩ k
  rfl
theorem BX4_wantsMore_0 {d Z L : Nat} {xs : Nat → Int32} {z : Nat} {Φ : Out → T2 → T3 → Nat → Prop} {I : T2} {J : T3} {x1 : Int32}  (g1 : vp_in x1 8)
    (k : Ev d Z L xs mX4_wantsMore 12 [some (.ref 14), some (.int x1)] [.int (I 15 x1.toNatClampNeg), .int (I 17 x1.toNatClampNeg)] I J z Φ) : Ev d Z L xs mX4_wantsMore 0 [some (.ref 14), some (.int x1)] [] I J z Φ := by
  refine Ev.blk (ops := [o0 (.aload_n 0) 1, oK (.getfield 18) 3 4 2, o0 (.iload_n 1) 1, o0 (.iaload) 1, o0 (.aload_n 0) 1, oK (.getfield 9) 3 4 0, o0 (.iload_n 1) 1, o0 (.iaload) 1]) (G := True ∧ (kd 14 = 4) ∧ True ∧ (kd 17 = 8 ∧ vp_in x1 (ln 17)) ∧ True ∧ (kd 14 = 4) ∧ True ∧ (kd 15 = 8 ∧ vp_in x1 (ln 15)) ∧ True) (by decide +kernel) ?_ ⟨trivial, (by decide), trivial, ⟨(by decide), g1⟩, trivial, (by decide), trivial, ⟨(by decide), g1⟩, trivial⟩ k
  rfl
theorem BX4_wantsMore_15 {d Z L : Nat} {xs : Nat → Int32} {z : Nat} {Φ : Out → T2 → T3 → Nat → Prop} {I : T2} {J : T3} {x1 : Int32}  
    (k : Ev d Z L xs mX4_wantsMore 20 [some (.ref 14), some (.int x1)] [.int 1] I J z Φ) : Ev d Z L xs mX4_wantsMore 15 [some (.ref 14), some (.int x1)] [] I J z Φ := by
  refine Ev.blk (ops := [oI (.iconst 1) 1 1, oK (.goto 4) 3 20 0]) (G := True ∧ True ∧ True) (by decide +kernel) ?_ ⟨trivial, trivial, trivial⟩ k
  rfl
theorem BX4_wantsMore_19 {d Z L : Nat} {xs : Nat → Int32} {z : Nat} {Φ : Out → T2 → T3 → Nat → Prop} {I : T2} {J : T3} {x1 : Int32}  
    (k : Ev d Z L xs mX4_wantsMore 20 [some (.ref 14), some (.int x1)] [.int 0] I J z Φ) : Ev d Z L xs mX4_wantsMore 19 [some (.ref 14), some (.int x1)] [] I J z Φ := by
  refine Ev.blk (ops := [oI (.iconst 0) 1 0]) (G := True ∧ True) (by decide +kernel) ?_ ⟨trivial, trivial⟩ k
  rfl
theorem BX4_useOfWanting_0 {d Z L : Nat} {xs : Nat → Int32} {z : Nat} {Φ : Out → T2 → T3 → Nat → Prop} {I : T2} {J : T3}   
    (k : Ev d Z L xs mX4_useOfWanting 4 [some (.ref 14), some (.long 0), none, some (.int 0)] [] I J z Φ) : Ev d Z L xs mX4_useOfWanting 0 [some (.ref 14), none, none, none] [] I J z Φ := by
  refine Ev.blk (ops := [oL (.lconst 0) 1 0, o0 (.lstore_n 1) 1, oI (.iconst 0) 1 0, o0 (.istore_n 3) 1]) (G := True ∧ True ∧ True ∧ True ∧ True) (by decide +kernel) ?_ ⟨trivial, trivial, trivial, trivial, trivial⟩ k
  rfl
theorem BX4_useOfWanting_4 {d Z L : Nat} {xs : Nat → Int32} {z : Nat} {Φ : Out → T2 → T3 → Nat → Prop} {I : T2} {J : T3} {y1 : Int64} {x3 : Int32}  
    (k : Ev d Z L xs mX4_useOfWanting 7 [some (.ref 14), some (.long y1), none, some (.int x3)] [.int 8, .int x3] I J z Φ) : Ev d Z L xs mX4_useOfWanting 4 [some (.ref 14), some (.long y1), none, some (.int x3)] [] I J z Φ := by
  refine Ev.blk (ops := [o0 (.iload_n 3) 1, oI (.bipush 8) 2 8]) (G := True ∧ True ∧ True) (by decide +kernel) ?_ ⟨trivial, trivial, trivial⟩ k
  rfl
theorem BX4_useOfWanting_10 {d Z L : Nat} {xs : Nat → Int32} {z : Nat} {Φ : Out → T2 → T3 → Nat → Prop} {I : T2} {J : T3} {y1 : Int64} {x3 : Int32}  
    (k : Ev d Z L xs mX4_useOfWanting 13 [some (.ref 14), some (.long y1), none, some (.int x3)] [.int x3, .ref 14, .long y1] I J z Φ) : Ev d Z L xs mX4_useOfWanting 10 [some (.ref 14), some (.long y1), none, some (.int x3)] [] I J z Φ := by
  refine Ev.blk (ops := [o0 (.lload_n 1) 1, o0 (.aload_n 0) 1, o0 (.iload_n 3) 1]) (G := True ∧ True ∧ True ∧ True) (by decide +kernel) ?_ ⟨trivial, trivial, trivial, trivial⟩ k
  rfl
theorem BX4_useOfWanting_19 {d Z L : Nat} {xs : Nat → Int32} {z : Nat} {Φ : Out → T2 → T3 → Nat → Prop} {I : T2} {J : T3} {y1 : Int64} {x3 : Int32} {ys0 : Int64}  (g1 : vp_in x3 8)
    (k : Ev d Z L xs mX4_useOfWanting 30 [some (.ref 14), some (.long y1), none, some (.int x3)] [.long ((I 16 x3.toNatClampNeg).toInt64), .long ys0] I J z Φ) : Ev d Z L xs mX4_useOfWanting 19 [some (.ref 14), some (.long y1), none, some (.int x3)] [.long ys0] I J z Φ := by
  refine Ev.blk (ops := [o0 (.aload_n 0) 1, oK (.getfield 15) 3 4 1, o0 (.iload_n 3) 1, o0 (.iaload) 1, o0 (.i2l) 1, oK (.goto 4) 3 30 0]) (G := True ∧ (kd 14 = 4) ∧ True ∧ (kd 16 = 8 ∧ vp_in x3 (ln 16)) ∧ True ∧ True ∧ True) (by decide +kernel) ?_ ⟨trivial, (by decide), trivial, ⟨(by decide), g1⟩, trivial, trivial, trivial⟩ k
  rfl
theorem BX4_useOfWanting_29 {d Z L : Nat} {xs : Nat → Int32} {z : Nat} {Φ : Out → T2 → T3 → Nat → Prop} {I : T2} {J : T3} {y1 : Int64} {x3 : Int32} {ys0 : Int64}  
    (k : Ev d Z L xs mX4_useOfWanting 30 [some (.ref 14), some (.long y1), none, some (.int x3)] [.long 0, .long ys0] I J z Φ) : Ev d Z L xs mX4_useOfWanting 29 [some (.ref 14), some (.long y1), none, some (.int x3)] [.long ys0] I J z Φ := by
  refine Ev.blk (ops := [oL (.lconst 0) 1 0]) (G := True ∧ True) (by decide +kernel) ?_ ⟨trivial, trivial⟩ k
  rfl
theorem BX4_useOfWanting_30 {d Z L : Nat} {xs : Nat → Int32} {z : Nat} {Φ : Out → T2 → T3 → Nat → Prop} {I : T2} {J : T3} {y1 : Int64} {x3 : Int32} {ys0 : Int64} {ys1 : Int64}  
    (k : Ev d Z L xs mX4_useOfWanting 4 [some (.ref 14), some (.long (ys0 + ys1)), none, some (.int (x3 + 1))] [] I J z Φ) : Ev d Z L xs mX4_useOfWanting 30 [some (.ref 14), some (.long y1), none, some (.int x3)] [.long ys1, .long ys0] I J z Φ := by
  refine Ev.blk (ops := [o0 (.ladd) 1, o0 (.lstore_n 1) 1, oI (.iinc 3 1) 3 1, oK (.goto (-31)) 3 4 0]) (G := True ∧ True ∧ True ∧ True ∧ True) (by decide +kernel) ?_ ⟨trivial, trivial, trivial, trivial, trivial⟩ k
  rfl
theorem BX4_useOfWanting_38 {d Z L : Nat} {xs : Nat → Int32} {z : Nat} {Φ : Out → T2 → T3 → Nat → Prop} {I : T2} {J : T3} {y1 : Int64} {x3 : Int32}  
    (k : Ev d Z L xs mX4_useOfWanting 39 [some (.ref 14), some (.long y1), none, some (.int x3)] [.long y1] I J z Φ) : Ev d Z L xs mX4_useOfWanting 38 [some (.ref 14), some (.long y1), none, some (.int x3)] [] I J z Φ := by
  refine Ev.blk (ops := [o0 (.lload_n 1) 1]) (G := True ∧ True) (by decide +kernel) ?_ ⟨trivial, trivial⟩ k
  rfl
theorem BX4_giveEqually_0 {d Z L : Nat} {xs : Nat → Int32} {z : Nat} {Φ : Out → T2 → T3 → Nat → Prop} {I : T2} {J : T3}   
    (k : Ev d Z L xs mX4_giveEqually 1 [some (.ref 14), none, none] [.ref 14] I J z Φ) : Ev d Z L xs mX4_giveEqually 0 [some (.ref 14), none, none] [] I J z Φ := by
  refine Ev.blk (ops := [o0 (.aload_n 0) 1]) (G := True ∧ True) (by decide +kernel) ?_ ⟨trivial, trivial⟩ k
  rfl
theorem BX4_giveEqually_4 {d Z L : Nat} {xs : Nat → Int32} {z : Nat} {Φ : Out → T2 → T3 → Nat → Prop} {I : T2} {J : T3} {xs0 : Int32}  
    (k : Ev d Z L xs mX4_giveEqually 7 [some (.ref 14), some (.int xs0), some (.int 0)] [] I J z Φ) : Ev d Z L xs mX4_giveEqually 4 [some (.ref 14), none, none] [.int xs0] I J z Φ := by
  refine Ev.blk (ops := [o0 (.istore_n 1) 1, oI (.iconst 0) 1 0, o0 (.istore_n 2) 1]) (G := True ∧ True ∧ True ∧ True) (by decide +kernel) ?_ ⟨trivial, trivial, trivial, trivial⟩ k
  rfl
theorem BX4_giveEqually_7 {d Z L : Nat} {xs : Nat → Int32} {z : Nat} {Φ : Out → T2 → T3 → Nat → Prop} {I : T2} {J : T3} {x1 : Int32} {x2 : Int32}  
    (k : Ev d Z L xs mX4_giveEqually 10 [some (.ref 14), some (.int x1), some (.int x2)] [.int 100, .int x2] I J z Φ) : Ev d Z L xs mX4_giveEqually 7 [some (.ref 14), some (.int x1), some (.int x2)] [] I J z Φ := by
  refine Ev.blk (ops := [o0 (.iload_n 2) 1, oI (.bipush 100) 2 100]) (G := True ∧ True ∧ True) (by decide +kernel) ?_ ⟨trivial, trivial, trivial⟩ k
  rfl
theorem BX4_giveEqually_13 {d Z L : Nat} {xs : Nat → Int32} {z : Nat} {Φ : Out → T2 → T3 → Nat → Prop} {I : T2} {J : T3} {x1 : Int32} {x2 : Int32}  
    (k : Ev d Z L xs mX4_giveEqually 17 [some (.ref 14), some (.int x1), some (.int x2)] [.int (I 14 4)] I J z Φ) : Ev d Z L xs mX4_giveEqually 13 [some (.ref 14), some (.int x1), some (.int x2)] [] I J z Φ := by
  refine Ev.blk (ops := [o0 (.aload_n 0) 1, oK (.getfield 25) 3 4 4]) (G := True ∧ (kd 14 = 4) ∧ True) (by decide +kernel) ?_ ⟨trivial, (by decide), trivial⟩ k
  rfl
theorem BX4_giveEqually_20 {d Z L : Nat} {xs : Nat → Int32} {z : Nat} {Φ : Out → T2 → T3 → Nat → Prop} {I : T2} {J : T3} {x1 : Int32} {x2 : Int32}  
    (k : Ev d Z L xs mX4_giveEqually 21 [some (.ref 14), some (.int x1), some (.int x2)] [.int x1] I J z Φ) : Ev d Z L xs mX4_giveEqually 20 [some (.ref 14), some (.int x1), some (.int x2)] [] I J z Φ := by
  refine Ev.blk (ops := [o0 (.iload_n 1) 1]) (G := True ∧ True) (by decide +kernel) ?_ ⟨trivial, trivial⟩ k
  rfl
theorem BX4_giveEqually_24 {d Z L : Nat} {xs : Nat → Int32} {z : Nat} {Φ : Out → T2 → T3 → Nat → Prop} {I : T2} {J : T3} {x1 : Int32} {x2 : Int32}  
    (k : Ev d Z L xs mX4_giveEqually 29 [some (.ref 14), some (.int x1), some (.int x2)] [.int x1, .int (I 14 4)] I J z Φ) : Ev d Z L xs mX4_giveEqually 24 [some (.ref 14), some (.int x1), some (.int x2)] [] I J z Φ := by
  refine Ev.blk (ops := [o0 (.aload_n 0) 1, oK (.getfield 25) 3 4 4, o0 (.iload_n 1) 1]) (G := True ∧ (kd 14 = 4) ∧ True ∧ True) (by decide +kernel) ?_ ⟨trivial, (by decide), trivial, trivial⟩ k
  rfl
theorem BX4_giveEqually_32 {d Z L : Nat} {xs : Nat → Int32} {z : Nat} {Φ : Out → T2 → T3 → Nat → Prop} {I : T2} {J : T3} {x1 : Int32} {x2 : Int32}  
    (k : Ev d Z L xs mX4_giveEqually 34 [some (.ref 14), some (.int x1), some (.int x2)] [.int 1, .ref 14] I J z Φ) : Ev d Z L xs mX4_giveEqually 32 [some (.ref 14), some (.int x1), some (.int x2)] [] I J z Φ := by
  refine Ev.blk (ops := [o0 (.aload_n 0) 1, oI (.iconst 1) 1 1]) (G := True ∧ True ∧ True) (by decide +kernel) ?_ ⟨trivial, trivial, trivial⟩ k
  rfl
theorem BX4_giveEqually_37 {d Z L : Nat} {xs : Nat → Int32} {z : Nat} {Φ : Out → T2 → T3 → Nat → Prop} {I : T2} {J : T3} {x1 : Int32} {x2 : Int32}  
    (k : Ev d Z L xs mX4_giveEqually 57 [some (.ref 14), some (.int x1), some (.int x2)] [] I J z Φ) : Ev d Z L xs mX4_giveEqually 37 [some (.ref 14), some (.int x1), some (.int x2)] [] I J z Φ := by
  refine Ev.blk (ops := [oK (.goto 20) 3 57 0]) (G := True ∧ True) (by decide +kernel) ?_ ⟨trivial, trivial⟩ k
  rfl
theorem BX4_giveEqually_40 {d Z L : Nat} {xs : Nat → Int32} {z : Nat} {Φ : Out → T2 → T3 → Nat → Prop} {I : T2} {J : T3} {x1 : Int32} {x2 : Int32}  (g1 : ¬ x1 = (0 : Int32))
    (k : Ev d Z L xs mX4_giveEqually 48 [some (.ref 14), some (.int x1), some (.int x2)] [.ref 14, .int ((I 14 4) / x1), .ref 14] I J z Φ) : Ev d Z L xs mX4_giveEqually 40 [some (.ref 14), some (.int x1), some (.int x2)] [] I J z Φ := by
  refine Ev.blk (ops := [o0 (.aload_n 0) 1, o0 (.aload_n 0) 1, oK (.getfield 25) 3 4 4, o0 (.iload_n 1) 1, o0 (.idiv) 1, o0 (.aload_n 0) 1]) (G := True ∧ True ∧ (kd 14 = 4) ∧ True ∧ (¬ x1 = (0 : Int32)) ∧ True ∧ True) (by decide +kernel) ?_ ⟨trivial, trivial, (by decide), trivial, g1, trivial, trivial⟩ k
  rfl
theorem BX4_giveEqually_57 {d Z L : Nat} {xs : Nat → Int32} {z : Nat} {Φ : Out → T2 → T3 → Nat → Prop} {I : T2} {J : T3} {x1 : Int32} {x2 : Int32}  
    (k : Ev d Z L xs mX4_giveEqually 58 [some (.ref 14), some (.int x1), some (.int x2)] [.ref 14] I J z Φ) : Ev d Z L xs mX4_giveEqually 57 [some (.ref 14), some (.int x1), some (.int x2)] [] I J z Φ := by
  refine Ev.blk (ops := [o0 (.aload_n 0) 1]) (G := True ∧ True) (by decide +kernel) ?_ ⟨trivial, trivial⟩ k
  rfl
theorem BX4_giveEqually_61 {d Z L : Nat} {xs : Nat → Int32} {z : Nat} {Φ : Out → T2 → T3 → Nat → Prop} {I : T2} {J : T3} {x1 : Int32} {x2 : Int32} {xs0 : Int32}  
    (k : Ev d Z L xs mX4_giveEqually 7 [some (.ref 14), some (.int xs0), some (.int (x2 + 1))] [] I J z Φ) : Ev d Z L xs mX4_giveEqually 61 [some (.ref 14), some (.int x1), some (.int x2)] [.int xs0] I J z Φ := by
  refine Ev.blk (ops := [o0 (.istore_n 1) 1, oI (.iinc 2 1) 3 1, oK (.goto (-58)) 3 7 0]) (G := True ∧ True ∧ True ∧ True) (by decide +kernel) ?_ ⟨trivial, trivial, trivial, trivial⟩ k
  rfl
theorem BX4_giveLayer_0 {d Z L : Nat} {xs : Nat → Int32} {z : Nat} {Φ : Out → T2 → T3 → Nat → Prop} {I : T2} {J : T3} {x1 : Int32}  
    (k : Ev d Z L xs mX4_giveLayer 2 [some (.ref 14), some (.int x1), some (.int 0)] [] I J z Φ) : Ev d Z L xs mX4_giveLayer 0 [some (.ref 14), some (.int x1), none] [] I J z Φ := by
  refine Ev.blk (ops := [oI (.iconst 0) 1 0, o0 (.istore_n 2) 1]) (G := True ∧ True ∧ True) (by decide +kernel) ?_ ⟨trivial, trivial, trivial⟩ k
  rfl
theorem BX4_giveLayer_2 {d Z L : Nat} {xs : Nat → Int32} {z : Nat} {Φ : Out → T2 → T3 → Nat → Prop} {I : T2} {J : T3} {x1 : Int32} {x2 : Int32}  
    (k : Ev d Z L xs mX4_giveLayer 5 [some (.ref 14), some (.int x1), some (.int x2)] [.int 8, .int x2] I J z Φ) : Ev d Z L xs mX4_giveLayer 2 [some (.ref 14), some (.int x1), some (.int x2)] [] I J z Φ := by
  refine Ev.blk (ops := [o0 (.iload_n 2) 1, oI (.bipush 8) 2 8]) (G := True ∧ True ∧ True) (by decide +kernel) ?_ ⟨trivial, trivial, trivial⟩ k
  rfl
theorem BX4_giveLayer_8 {d Z L : Nat} {xs : Nat → Int32} {z : Nat} {Φ : Out → T2 → T3 → Nat → Prop} {I : T2} {J : T3} {x1 : Int32} {x2 : Int32}  
    (k : Ev d Z L xs mX4_giveLayer 13 [some (.ref 14), some (.int x1), some (.int x2)] [.int x1, .int (I 14 4)] I J z Φ) : Ev d Z L xs mX4_giveLayer 8 [some (.ref 14), some (.int x1), some (.int x2)] [] I J z Φ := by
  refine Ev.blk (ops := [o0 (.aload_n 0) 1, oK (.getfield 25) 3 4 4, o0 (.iload_n 1) 1]) (G := True ∧ (kd 14 = 4) ∧ True ∧ True) (by decide +kernel) ?_ ⟨trivial, (by decide), trivial, trivial⟩ k
  rfl
theorem BX4_giveLayer_16 {d Z L : Nat} {xs : Nat → Int32} {z : Nat} {Φ : Out → T2 → T3 → Nat → Prop} {I : T2} {J : T3} {x1 : Int32} {x2 : Int32}  
    (k : Ev d Z L xs mX4_giveLayer 18 [some (.ref 14), some (.int x1), some (.int x2)] [.int x2, .ref 14] I J z Φ) : Ev d Z L xs mX4_giveLayer 16 [some (.ref 14), some (.int x1), some (.int x2)] [] I J z Φ := by
  refine Ev.blk (ops := [o0 (.aload_n 0) 1, o0 (.iload_n 2) 1]) (G := True ∧ True ∧ True) (by decide +kernel) ?_ ⟨trivial, trivial, trivial⟩ k
  rfl
theorem BX4_giveLayer_24 {d Z L : Nat} {xs : Nat → Int32} {z : Nat} {Φ : Out → T2 → T3 → Nat → Prop} {I : T2} {J : T3} {x1 : Int32} {x2 : Int32}  
    (k : Ev d Z L xs mX4_giveLayer 27 [some (.ref 14), some (.int x1), some (.int x2)] [.int x1, .int x2, .ref 14] I J z Φ) : Ev d Z L xs mX4_giveLayer 24 [some (.ref 14), some (.int x1), some (.int x2)] [] I J z Φ := by
  refine Ev.blk (ops := [o0 (.aload_n 0) 1, o0 (.iload_n 2) 1, o0 (.iload_n 1) 1]) (G := True ∧ True ∧ True ∧ True) (by decide +kernel) ?_ ⟨trivial, trivial, trivial, trivial⟩ k
  rfl
theorem BX4_giveLayer_30 {d Z L : Nat} {xs : Nat → Int32} {z : Nat} {Φ : Out → T2 → T3 → Nat → Prop} {I : T2} {J : T3} {x1 : Int32} {x2 : Int32}  
    (k : Ev d Z L xs mX4_giveLayer 2 [some (.ref 14), some (.int x1), some (.int (x2 + 1))] [] I J z Φ) : Ev d Z L xs mX4_giveLayer 30 [some (.ref 14), some (.int x1), some (.int x2)] [] I J z Φ := by
  refine Ev.blk (ops := [oI (.iinc 2 1) 3 1, oK (.goto (-31)) 3 2 0]) (G := True ∧ True ∧ True) (by decide +kernel) ?_ ⟨trivial, trivial, trivial⟩ k
  rfl
theorem BX4_give_0 {d Z L : Nat} {xs : Nat → Int32} {z : Nat} {Φ : Out → T2 → T3 → Nat → Prop} {I : T2} {J : T3} {x1 : Int32} {x2 : Int32}  (g1 : vp_in x1 8)
    (k : Ev d Z L xs mX4_give 20 [some (.ref 14), some (.int x1), some (.int x2)] [] (up2 (up2 I 17 x1.toNatClampNeg ((I 17 x1.toNatClampNeg) + x2)) 14 4 (((up2 I 17 x1.toNatClampNeg ((I 17 x1.toNatClampNeg) + x2)) 14 4) - x2)) J z Φ) : Ev d Z L xs mX4_give 0 [some (.ref 14), some (.int x1), some (.int x2)] [] I J z Φ := by
  refine Ev.blk (ops := [o0 (.aload_n 0) 1, oK (.getfield 18) 3 4 2, o0 (.iload_n 1) 1, o0 (.dup2) 1, o0 (.iaload) 1, o0 (.iload_n 2) 1, o0 (.iadd) 1, o0 (.iastore) 1, o0 (.aload_n 0) 1, o0 (.dup) 1, oK (.getfield 25) 3 4 4, o0 (.iload_n 2) 1, o0 (.isub) 1, oK (.putfield 25) 3 4 4]) (G := True ∧ (kd 14 = 4) ∧ True ∧ True ∧ (kd 17 = 8 ∧ vp_in x1 (ln 17)) ∧ True ∧ True ∧ (kd 17 = 8 ∧ vp_in x1 (ln 17)) ∧ True ∧ True ∧ (kd 14 = 4) ∧ True ∧ True ∧ (kd 14 = 4) ∧ True) (by decide +kernel) ?_ ⟨trivial, (by decide), trivial, trivial, ⟨(by decide), g1⟩, trivial, trivial, ⟨(by decide), g1⟩, trivial, trivial, (by decide), trivial, trivial, (by decide), trivial⟩ k
  rfl
theorem BX4_leastWish_0 {d Z L : Nat} {xs : Nat → Int32} {z : Nat} {Φ : Out → T2 → T3 → Nat → Prop} {I : T2} {J : T3}   
    (k : Ev d Z L xs mX4_leastWish 7 [some (.ref 14), some (.int (I 14 4)), some (.int 0)] [] I J z Φ) : Ev d Z L xs mX4_leastWish 0 [some (.ref 14), none, none] [] I J z Φ := by
  refine Ev.blk (ops := [o0 (.aload_n 0) 1, oK (.getfield 25) 3 4 4, o0 (.istore_n 1) 1, oI (.iconst 0) 1 0, o0 (.istore_n 2) 1]) (G := True ∧ (kd 14 = 4) ∧ True ∧ True ∧ True ∧ True) (by decide +kernel) ?_ ⟨trivial, (by decide), trivial, trivial, trivial, trivial⟩ k
  rfl
theorem BX4_leastWish_7 {d Z L : Nat} {xs : Nat → Int32} {z : Nat} {Φ : Out → T2 → T3 → Nat → Prop} {I : T2} {J : T3} {x1 : Int32} {x2 : Int32}  
    (k : Ev d Z L xs mX4_leastWish 10 [some (.ref 14), some (.int x1), some (.int x2)] [.int 8, .int x2] I J z Φ) : Ev d Z L xs mX4_leastWish 7 [some (.ref 14), some (.int x1), some (.int x2)] [] I J z Φ := by
  refine Ev.blk (ops := [o0 (.iload_n 2) 1, oI (.bipush 8) 2 8]) (G := True ∧ True ∧ True) (by decide +kernel) ?_ ⟨trivial, trivial, trivial⟩ k
  rfl
theorem BX4_leastWish_13 {d Z L : Nat} {xs : Nat → Int32} {z : Nat} {Φ : Out → T2 → T3 → Nat → Prop} {I : T2} {J : T3} {x1 : Int32} {x2 : Int32}  
    (k : Ev d Z L xs mX4_leastWish 15 [some (.ref 14), some (.int x1), some (.int x2)] [.int x2, .ref 14] I J z Φ) : Ev d Z L xs mX4_leastWish 13 [some (.ref 14), some (.int x1), some (.int x2)] [] I J z Φ := by
  refine Ev.blk (ops := [o0 (.aload_n 0) 1, o0 (.iload_n 2) 1]) (G := True ∧ True ∧ True) (by decide +kernel) ?_ ⟨trivial, trivial, trivial⟩ k
  rfl
theorem BX4_leastWish_21 {d Z L : Nat} {xs : Nat → Int32} {z : Nat} {Φ : Out → T2 → T3 → Nat → Prop} {I : T2} {J : T3} {x1 : Int32} {x2 : Int32}  (g1 : vp_in x2 8)
    (k : Ev d Z L xs mX4_leastWish 35 [some (.ref 14), some (.int x1), some (.int x2)] [.int ((I 15 x2.toNatClampNeg) - (I 17 x2.toNatClampNeg)), .int x1] I J z Φ) : Ev d Z L xs mX4_leastWish 21 [some (.ref 14), some (.int x1), some (.int x2)] [] I J z Φ := by
  refine Ev.blk (ops := [o0 (.iload_n 1) 1, o0 (.aload_n 0) 1, oK (.getfield 9) 3 4 0, o0 (.iload_n 2) 1, o0 (.iaload) 1, o0 (.aload_n 0) 1, oK (.getfield 18) 3 4 2, o0 (.iload_n 2) 1, o0 (.iaload) 1, o0 (.isub) 1]) (G := True ∧ True ∧ (kd 14 = 4) ∧ True ∧ (kd 15 = 8 ∧ vp_in x2 (ln 15)) ∧ True ∧ (kd 14 = 4) ∧ True ∧ (kd 17 = 8 ∧ vp_in x2 (ln 17)) ∧ True ∧ True) (by decide +kernel) ?_ ⟨trivial, trivial, (by decide), trivial, ⟨(by decide), g1⟩, trivial, (by decide), trivial, ⟨(by decide), g1⟩, trivial, trivial⟩ k
  rfl
theorem BX4_leastWish_38 {d Z L : Nat} {xs : Nat → Int32} {z : Nat} {Φ : Out → T2 → T3 → Nat → Prop} {I : T2} {J : T3} {x1 : Int32} {x2 : Int32} {xs0 : Int32}  
    (k : Ev d Z L xs mX4_leastWish 39 [some (.ref 14), some (.int xs0), some (.int x2)] [] I J z Φ) : Ev d Z L xs mX4_leastWish 38 [some (.ref 14), some (.int x1), some (.int x2)] [.int xs0] I J z Φ := by
  refine Ev.blk (ops := [o0 (.istore_n 1) 1]) (G := True ∧ True) (by decide +kernel) ?_ ⟨trivial, trivial⟩ k
  rfl
theorem BX4_leastWish_39 {d Z L : Nat} {xs : Nat → Int32} {z : Nat} {Φ : Out → T2 → T3 → Nat → Prop} {I : T2} {J : T3} {x1 : Int32} {x2 : Int32}  
    (k : Ev d Z L xs mX4_leastWish 7 [some (.ref 14), some (.int x1), some (.int (x2 + 1))] [] I J z Φ) : Ev d Z L xs mX4_leastWish 39 [some (.ref 14), some (.int x1), some (.int x2)] [] I J z Φ := by
  refine Ev.blk (ops := [oI (.iinc 2 1) 3 1, oK (.goto (-35)) 3 7 0]) (G := True ∧ True ∧ True) (by decide +kernel) ?_ ⟨trivial, trivial, trivial⟩ k
  rfl
theorem BX4_leastWish_45 {d Z L : Nat} {xs : Nat → Int32} {z : Nat} {Φ : Out → T2 → T3 → Nat → Prop} {I : T2} {J : T3} {x1 : Int32} {x2 : Int32}  
    (k : Ev d Z L xs mX4_leastWish 46 [some (.ref 14), some (.int x1), some (.int x2)] [.int x1] I J z Φ) : Ev d Z L xs mX4_leastWish 45 [some (.ref 14), some (.int x1), some (.int x2)] [] I J z Φ := by
  refine Ev.blk (ops := [o0 (.iload_n 1) 1]) (G := True ∧ True) (by decide +kernel) ?_ ⟨trivial, trivial⟩ k
  rfl
theorem BX4_giveParts_0 {d Z L : Nat} {xs : Nat → Int32} {z : Nat} {Φ : Out → T2 → T3 → Nat → Prop} {I : T2} {J : T3} {y1 : Int64}  
    (k : Ev d Z L xs mX4_giveParts 9 [some (.ref 14), some (.long y1), none, some (.long ((I 14 4).toInt64)), none, some (.int 0), none, none] [] I J z Φ) : Ev d Z L xs mX4_giveParts 0 [some (.ref 14), some (.long y1), none, none, none, none, none, none] [] I J z Φ := by
  refine Ev.blk (ops := [o0 (.aload_n 0) 1, oK (.getfield 25) 3 4 4, o0 (.i2l) 1, o0 (.lstore_n 3) 1, oI (.iconst 0) 1 0, o0 (.istore 5) 2]) (G := True ∧ (kd 14 = 4) ∧ True ∧ True ∧ True ∧ True ∧ True) (by decide +kernel) ?_ ⟨trivial, (by decide), trivial, trivial, trivial, trivial, trivial⟩ k
  rfl
theorem BX4_giveParts_9 {d Z L : Nat} {xs : Nat → Int32} {z : Nat} {Φ : Out → T2 → T3 → Nat → Prop} {I : T2} {J : T3} {y1 : Int64} {y3 : Int64} {x5 : Int32}  
    (k : Ev d Z L xs mX4_giveParts 13 [some (.ref 14), some (.long y1), none, some (.long y3), none, some (.int x5), none, none] [.int 8, .int x5] I J z Φ) : Ev d Z L xs mX4_giveParts 9 [some (.ref 14), some (.long y1), none, some (.long y3), none, some (.int x5), none, none] [] I J z Φ := by
  refine Ev.blk (ops := [o0 (.iload 5) 2, oI (.bipush 8) 2 8]) (G := True ∧ True ∧ True) (by decide +kernel) ?_ ⟨trivial, trivial, trivial⟩ k
  rfl
theorem BX4_giveParts_16 {d Z L : Nat} {xs : Nat → Int32} {z : Nat} {Φ : Out → T2 → T3 → Nat → Prop} {I : T2} {J : T3} {y1 : Int64} {y3 : Int64} {x5 : Int32}  
    (k : Ev d Z L xs mX4_giveParts 19 [some (.ref 14), some (.long y1), none, some (.long y3), none, some (.int x5), none, none] [.int x5, .ref 14] I J z Φ) : Ev d Z L xs mX4_giveParts 16 [some (.ref 14), some (.long y1), none, some (.long y3), none, some (.int x5), none, none] [] I J z Φ := by
  refine Ev.blk (ops := [o0 (.aload_n 0) 1, o0 (.iload 5) 2]) (G := True ∧ True ∧ True) (by decide +kernel) ?_ ⟨trivial, trivial, trivial⟩ k
  rfl
theorem BX4_giveParts_25 {d Z L : Nat} {xs : Nat → Int32} {z : Nat} {Φ : Out → T2 → T3 → Nat → Prop} {I : T2} {J : T3} {y1 : Int64} {y3 : Int64} {x5 : Int32}  (g1 : vp_in x5 8) (g2 : ¬ y1 = (0 : Int64))
    (k : Ev d Z L xs mX4_giveParts 71 [some (.ref 14), some (.long y1), none, some (.long y3), none, some (.int x5), some (.long (y3 * ((I 16 x5.toNatClampNeg).toInt64))), none] [.long (((I 15 x5.toNatClampNeg) - (I 17 x5.toNatClampNeg)).toInt64), .long ((y3 * ((I 16 x5.toNatClampNeg).toInt64)) / y1), .int x5, .ref 14] I (up3 J 18 x5.toNatClampNeg ((y3 * ((I 16 x5.toNatClampNeg).toInt64)) - (y3 * ((I 16 x5.toNatClampNeg).toInt64)) / y1 * y1)) z Φ) : Ev d Z L xs mX4_giveParts 25 [some (.ref 14), some (.long y1), none, some (.long y3), none, some (.int x5), none, none] [] I J z Φ := by
  refine Ev.blk (ops := [o0 (.lload_n 3) 1, o0 (.aload_n 0) 1, oK (.getfield 15) 3 4 1, o0 (.iload 5) 2, o0 (.iaload) 1, o0 (.i2l) 1, o0 (.lmul) 1, o0 (.lstore 6) 2, o0 (.aload_n 0) 1, oK (.getfield 21) 3 4 3, o0 (.iload 5) 2, o0 (.lload 6) 2, o0 (.lload_n 1) 1, o0 (.lrem) 1, o0 (.lastore) 1, o0 (.aload_n 0) 1, o0 (.iload 5) 2, o0 (.lload 6) 2, o0 (.lload_n 1) 1, o0 (.ldiv) 1, o0 (.aload_n 0) 1, oK (.getfield 9) 3 4 0, o0 (.iload 5) 2, o0 (.iaload) 1, o0 (.aload_n 0) 1, oK (.getfield 18) 3 4 2, o0 (.iload 5) 2, o0 (.iaload) 1, o0 (.isub) 1, o0 (.i2l) 1]) (G := True ∧ True ∧ (kd 14 = 4) ∧ True ∧ (kd 16 = 8 ∧ vp_in x5 (ln 16)) ∧ True ∧ True ∧ True ∧ True ∧ (kd 14 = 4) ∧ True ∧ True ∧ True ∧ (¬ y1 = (0 : Int64)) ∧ (kd 18 = 9 ∧ vp_in x5 (ln 18)) ∧ True ∧ True ∧ True ∧ True ∧ (¬ y1 = (0 : Int64)) ∧ True ∧ (kd 14 = 4) ∧ True ∧ (kd 15 = 8 ∧ vp_in x5 (ln 15)) ∧ True ∧ (kd 14 = 4) ∧ True ∧ (kd 17 = 8 ∧ vp_in x5 (ln 17)) ∧ True ∧ True ∧ True) (by decide +kernel) ?_ ⟨trivial, trivial, (by decide), trivial, ⟨(by decide), g1⟩, trivial, trivial, trivial, trivial, (by decide), trivial, trivial, trivial, g2, ⟨(by decide), g1⟩, trivial, trivial, trivial, trivial, g2, trivial, (by decide), trivial, ⟨(by decide), g1⟩, trivial, (by decide), trivial, ⟨(by decide), g1⟩, trivial, trivial, trivial⟩ k
  rfl
theorem BX4_giveParts_74 {d Z L : Nat} {xs : Nat → Int32} {z : Nat} {Φ : Out → T2 → T3 → Nat → Prop} {I : T2} {J : T3} {y1 : Int64} {y3 : Int64} {x5 : Int32} {y6 : Int64} {xs1 : Int32} {ys2 : Int64}  
    (k : Ev d Z L xs mX4_giveParts 75 [some (.ref 14), some (.long y1), none, some (.long y3), none, some (.int x5), some (.long y6), none] [.int ys2.toInt32, .int xs1, .ref 14] I J z Φ) : Ev d Z L xs mX4_giveParts 74 [some (.ref 14), some (.long y1), none, some (.long y3), none, some (.int x5), some (.long y6), none] [.long ys2, .int xs1, .ref 14] I J z Φ := by
  refine Ev.blk (ops := [o0 (.l2i) 1]) (G := True ∧ True) (by decide +kernel) ?_ ⟨trivial, trivial⟩ k
  rfl
theorem BX4_giveParts_78 {d Z L : Nat} {xs : Nat → Int32} {z : Nat} {Φ : Out → T2 → T3 → Nat → Prop} {I : T2} {J : T3} {y1 : Int64} {y3 : Int64} {x5 : Int32}  
    (k : Ev d Z L xs mX4_giveParts 9 [some (.ref 14), some (.long y1), none, some (.long y3), none, some (.int (x5 + 1)), none, none] [] I J z Φ) : Ev d Z L xs mX4_giveParts 78 [some (.ref 14), some (.long y1), none, some (.long y3), none, some (.int x5), none, none] [] I J z Φ := by
  refine Ev.blk (ops := [oI (.iinc 5 1) 3 1, oK (.goto (-72)) 3 9 0]) (G := True ∧ True ∧ True) (by decide +kernel) ?_ ⟨trivial, trivial, trivial⟩ k
  rfl
theorem BX4_giveRemainders_0 {d Z L : Nat} {xs : Nat → Int32} {z : Nat} {Φ : Out → T2 → T3 → Nat → Prop} {I : T2} {J : T3}   
    (k : Ev d Z L xs mX4_giveRemainders 2 [some (.ref 14), some (.int 0), none] [] I J z Φ) : Ev d Z L xs mX4_giveRemainders 0 [some (.ref 14), none, none] [] I J z Φ := by
  refine Ev.blk (ops := [oI (.iconst 0) 1 0, o0 (.istore_n 1) 1]) (G := True ∧ True ∧ True) (by decide +kernel) ?_ ⟨trivial, trivial, trivial⟩ k
  rfl
theorem BX4_giveRemainders_2 {d Z L : Nat} {xs : Nat → Int32} {z : Nat} {Φ : Out → T2 → T3 → Nat → Prop} {I : T2} {J : T3} {x1 : Int32}  
    (k : Ev d Z L xs mX4_giveRemainders 5 [some (.ref 14), some (.int x1), none] [.int 8, .int x1] I J z Φ) : Ev d Z L xs mX4_giveRemainders 2 [some (.ref 14), some (.int x1), none] [] I J z Φ := by
  refine Ev.blk (ops := [o0 (.iload_n 1) 1, oI (.bipush 8) 2 8]) (G := True ∧ True ∧ True) (by decide +kernel) ?_ ⟨trivial, trivial, trivial⟩ k
  rfl
theorem BX4_giveRemainders_8 {d Z L : Nat} {xs : Nat → Int32} {z : Nat} {Φ : Out → T2 → T3 → Nat → Prop} {I : T2} {J : T3} {x1 : Int32}  
    (k : Ev d Z L xs mX4_giveRemainders 12 [some (.ref 14), some (.int x1), none] [.int (I 14 4)] I J z Φ) : Ev d Z L xs mX4_giveRemainders 8 [some (.ref 14), some (.int x1), none] [] I J z Φ := by
  refine Ev.blk (ops := [o0 (.aload_n 0) 1, oK (.getfield 25) 3 4 4]) (G := True ∧ (kd 14 = 4) ∧ True) (by decide +kernel) ?_ ⟨trivial, (by decide), trivial⟩ k
  rfl
theorem BX4_giveRemainders_15 {d Z L : Nat} {xs : Nat → Int32} {z : Nat} {Φ : Out → T2 → T3 → Nat → Prop} {I : T2} {J : T3} {x1 : Int32}  
    (k : Ev d Z L xs mX4_giveRemainders 16 [some (.ref 14), some (.int x1), none] [.ref 14] I J z Φ) : Ev d Z L xs mX4_giveRemainders 15 [some (.ref 14), some (.int x1), none] [] I J z Φ := by
  refine Ev.blk (ops := [o0 (.aload_n 0) 1]) (G := True ∧ True) (by decide +kernel) ?_ ⟨trivial, trivial⟩ k
  rfl
theorem BX4_giveRemainders_19 {d Z L : Nat} {xs : Nat → Int32} {z : Nat} {Φ : Out → T2 → T3 → Nat → Prop} {I : T2} {J : T3} {x1 : Int32} {xs0 : Int32}  
    (k : Ev d Z L xs mX4_giveRemainders 22 [some (.ref 14), some (.int x1), some (.int xs0)] [.int (-1), .int xs0] I J z Φ) : Ev d Z L xs mX4_giveRemainders 19 [some (.ref 14), some (.int x1), none] [.int xs0] I J z Φ := by
  refine Ev.blk (ops := [o0 (.istore_n 2) 1, o0 (.iload_n 2) 1, oI (.iconst (-1)) 1 (-1)]) (G := True ∧ True ∧ True ∧ True) (by decide +kernel) ?_ ⟨trivial, trivial, trivial, trivial⟩ k
  rfl
theorem BX4_giveRemainders_26 {d Z L : Nat} {xs : Nat → Int32} {z : Nat} {Φ : Out → T2 → T3 → Nat → Prop} {I : T2} {J : T3} {x1 : Int32} {x2 : Int32}  
    (k : Ev d Z L xs mX4_giveRemainders 29 [some (.ref 14), some (.int x1), some (.int x2)] [.int 1, .int x2, .ref 14] I J z Φ) : Ev d Z L xs mX4_giveRemainders 26 [some (.ref 14), some (.int x1), some (.int x2)] [] I J z Φ := by
  refine Ev.blk (ops := [o0 (.aload_n 0) 1, o0 (.iload_n 2) 1, oI (.iconst 1) 1 1]) (G := True ∧ True ∧ True ∧ True) (by decide +kernel) ?_ ⟨trivial, trivial, trivial, trivial⟩ k
  rfl
theorem BX4_giveRemainders_32 {d Z L : Nat} {xs : Nat → Int32} {z : Nat} {Φ : Out → T2 → T3 → Nat → Prop} {I : T2} {J : T3} {x1 : Int32} {x2 : Int32}  (g1 : vp_in x2 8)
    (k : Ev d Z L xs mX4_giveRemainders 2 [some (.ref 14), some (.int (x1 + 1)), some (.int x2)] [] I (up3 J 18 x2.toNatClampNeg (-1)) z Φ) : Ev d Z L xs mX4_giveRemainders 32 [some (.ref 14), some (.int x1), some (.int x2)] [] I J z Φ := by
  refine Ev.blk (ops := [o0 (.aload_n 0) 1, oK (.getfield 21) 3 4 3, o0 (.iload_n 2) 1, oL (.ldc2_w 80) 3 (-1), o0 (.lastore) 1, oI (.iinc 1 1) 3 1, oK (.goto (-42)) 3 2 0]) (G := True ∧ (kd 14 = 4) ∧ True ∧ True ∧ (kd 18 = 9 ∧ vp_in x2 (ln 18)) ∧ True ∧ True ∧ True) (by decide +kernel) ?_ ⟨trivial, (by decide), trivial, trivial, ⟨(by decide), g1⟩, trivial, trivial, trivial⟩ k
  rfl
theorem BX4_greatestRemainder_0 {d Z L : Nat} {xs : Nat → Int32} {z : Nat} {Φ : Out → T2 → T3 → Nat → Prop} {I : T2} {J : T3}   
    (k : Ev d Z L xs mX4_greatestRemainder 9 [some (.ref 14), some (.int (-1)), some (.long (-1)), none, some (.int 0)] [] I J z Φ) : Ev d Z L xs mX4_greatestRemainder 0 [some (.ref 14), none, none, none, none] [] I J z Φ := by
  refine Ev.blk (ops := [oI (.iconst (-1)) 1 (-1), o0 (.istore_n 1) 1, oL (.ldc2_w 80) 3 (-1), o0 (.lstore_n 2) 1, oI (.iconst 0) 1 0, o0 (.istore 4) 2]) (G := True ∧ True ∧ True ∧ True ∧ True ∧ True ∧ True) (by decide +kernel) ?_ ⟨trivial, trivial, trivial, trivial, trivial, trivial, trivial⟩ k
  rfl
theorem BX4_greatestRemainder_9 {d Z L : Nat} {xs : Nat → Int32} {z : Nat} {Φ : Out → T2 → T3 → Nat → Prop} {I : T2} {J : T3} {x1 : Int32} {y2 : Int64} {x4 : Int32}  
    (k : Ev d Z L xs mX4_greatestRemainder 13 [some (.ref 14), some (.int x1), some (.long y2), none, some (.int x4)] [.int 8, .int x4] I J z Φ) : Ev d Z L xs mX4_greatestRemainder 9 [some (.ref 14), some (.int x1), some (.long y2), none, some (.int x4)] [] I J z Φ := by
  refine Ev.blk (ops := [o0 (.iload 4) 2, oI (.bipush 8) 2 8]) (G := True ∧ True ∧ True) (by decide +kernel) ?_ ⟨trivial, trivial, trivial⟩ k
  rfl
theorem BX4_greatestRemainder_16 {d Z L : Nat} {xs : Nat → Int32} {z : Nat} {Φ : Out → T2 → T3 → Nat → Prop} {I : T2} {J : T3} {x1 : Int32} {y2 : Int64} {x4 : Int32}  
    (k : Ev d Z L xs mX4_greatestRemainder 19 [some (.ref 14), some (.int x1), some (.long y2), none, some (.int x4)] [.int x4, .ref 14] I J z Φ) : Ev d Z L xs mX4_greatestRemainder 16 [some (.ref 14), some (.int x1), some (.long y2), none, some (.int x4)] [] I J z Φ := by
  refine Ev.blk (ops := [o0 (.aload_n 0) 1, o0 (.iload 4) 2]) (G := True ∧ True ∧ True) (by decide +kernel) ?_ ⟨trivial, trivial, trivial⟩ k
  rfl
theorem BX4_greatestRemainder_25 {d Z L : Nat} {xs : Nat → Int32} {z : Nat} {Φ : Out → T2 → T3 → Nat → Prop} {I : T2} {J : T3} {x1 : Int32} {y2 : Int64} {x4 : Int32}  (g1 : vp_in x4 8)
    (k : Ev d Z L xs mX4_greatestRemainder 34 [some (.ref 14), some (.int x1), some (.long y2), none, some (.int x4)] [.int (lg_cmp (J 18 x4.toNatClampNeg) y2)] I J z Φ) : Ev d Z L xs mX4_greatestRemainder 25 [some (.ref 14), some (.int x1), some (.long y2), none, some (.int x4)] [] I J z Φ := by
  refine Ev.blk (ops := [o0 (.aload_n 0) 1, oK (.getfield 21) 3 4 3, o0 (.iload 4) 2, o0 (.laload) 1, o0 (.lload_n 2) 1, o0 (.lcmp) 1]) (G := True ∧ (kd 14 = 4) ∧ True ∧ (kd 18 = 9 ∧ vp_in x4 (ln 18)) ∧ True ∧ True ∧ True) (by decide +kernel) ?_ ⟨trivial, (by decide), trivial, ⟨(by decide), g1⟩, trivial, trivial, trivial⟩ k
  rfl
theorem BX4_greatestRemainder_37 {d Z L : Nat} {xs : Nat → Int32} {z : Nat} {Φ : Out → T2 → T3 → Nat → Prop} {I : T2} {J : T3} {x1 : Int32} {y2 : Int64} {x4 : Int32}  (g1 : vp_in x4 8)
    (k : Ev d Z L xs mX4_greatestRemainder 48 [some (.ref 14), some (.int x4), some (.long (J 18 x4.toNatClampNeg)), none, some (.int x4)] [] I J z Φ) : Ev d Z L xs mX4_greatestRemainder 37 [some (.ref 14), some (.int x1), some (.long y2), none, some (.int x4)] [] I J z Φ := by
  refine Ev.blk (ops := [o0 (.iload 4) 2, o0 (.istore_n 1) 1, o0 (.aload_n 0) 1, oK (.getfield 21) 3 4 3, o0 (.iload 4) 2, o0 (.laload) 1, o0 (.lstore_n 2) 1]) (G := True ∧ True ∧ True ∧ (kd 14 = 4) ∧ True ∧ (kd 18 = 9 ∧ vp_in x4 (ln 18)) ∧ True ∧ True) (by decide +kernel) ?_ ⟨trivial, trivial, trivial, (by decide), trivial, ⟨(by decide), g1⟩, trivial, trivial⟩ k
  rfl
theorem BX4_greatestRemainder_48 {d Z L : Nat} {xs : Nat → Int32} {z : Nat} {Φ : Out → T2 → T3 → Nat → Prop} {I : T2} {J : T3} {x1 : Int32} {y2 : Int64} {x4 : Int32}  
    (k : Ev d Z L xs mX4_greatestRemainder 9 [some (.ref 14), some (.int x1), some (.long y2), none, some (.int (x4 + 1))] [] I J z Φ) : Ev d Z L xs mX4_greatestRemainder 48 [some (.ref 14), some (.int x1), some (.long y2), none, some (.int x4)] [] I J z Φ := by
  refine Ev.blk (ops := [oI (.iinc 4 1) 3 1, oK (.goto (-42)) 3 9 0]) (G := True ∧ True ∧ True) (by decide +kernel) ?_ ⟨trivial, trivial, trivial⟩ k
  rfl
theorem BX4_greatestRemainder_54 {d Z L : Nat} {xs : Nat → Int32} {z : Nat} {Φ : Out → T2 → T3 → Nat → Prop} {I : T2} {J : T3} {x1 : Int32} {y2 : Int64} {x4 : Int32}  
    (k : Ev d Z L xs mX4_greatestRemainder 55 [some (.ref 14), some (.int x1), some (.long y2), none, some (.int x4)] [.int x1] I J z Φ) : Ev d Z L xs mX4_greatestRemainder 54 [some (.ref 14), some (.int x1), some (.long y2), none, some (.int x4)] [] I J z Φ := by
  refine Ev.blk (ops := [o0 (.iload_n 1) 1]) (G := True ∧ True) (by decide +kernel) ?_ ⟨trivial, trivial⟩ k
  rfl
