theorem BX2_init_0 {d Z L : Nat} {xs : Nat → Int32} {z : Nat} {Φ : Out → T2 → T3 → Nat → Prop} {I : T2} {J : T3}   
    (k : Ev d Z L xs mX2_init 1 [some (.ref 2)] [.ref 2] I J z Φ) : Ev d Z L xs mX2_init 0 [some (.ref 2)] [] I J z Φ := by
  refine Ev.blk (ops := [o0 (.aload_n 0) 1]) (G := True ∧ True) (by decide +kernel) ?_ ⟨trivial, trivial⟩ k
  rfl
theorem BX2_init_4 {d Z L : Nat} {xs : Nat → Int32} {z : Nat} {Φ : Out → T2 → T3 → Nat → Prop} {I : T2} {J : T3}   
    (k : Ev d Z L xs mX2_init 6 [some (.ref 2)] [.int 3, .ref 2] I J z Φ) : Ev d Z L xs mX2_init 4 [some (.ref 2)] [] I J z Φ := by
  refine Ev.blk (ops := [o0 (.aload_n 0) 1, oI (.iconst 3) 1 3]) (G := True ∧ True ∧ True) (by decide +kernel) ?_ ⟨trivial, trivial, trivial⟩ k
  rfl
theorem BX2_begin_0 {d Z L : Nat} {xs : Nat → Int32} {z : Nat} {Φ : Out → T2 → T3 → Nat → Prop} {I : T2} {J : T3} {x1 : Int32}  
    (k : Ev d Z L xs mX2_begin 28 [some (.ref 2), some (.int x1)] [.int ((up2 (up2 (up2 (up2 I 2 3 x1) 2 4 0) 2 5 0) 2 6 1) 2 3), .ref 3] (up2 (up2 (up2 (up2 I 2 3 x1) 2 4 0) 2 5 0) 2 6 1) J z Φ) : Ev d Z L xs mX2_begin 0 [some (.ref 2), some (.int x1)] [] I J z Φ := by
  refine Ev.blk (ops := [o0 (.aload_n 0) 1, o0 (.iload_n 1) 1, oK (.putfield 23) 3 2 3, o0 (.aload_n 0) 1, oI (.iconst 0) 1 0, oK (.putfield 27) 3 2 4, o0 (.aload_n 0) 1, oI (.iconst 0) 1 0, oK (.putfield 30) 3 2 5, o0 (.aload_n 0) 1, oI (.iconst 1) 1 1, oK (.putfield 33) 3 2 6, o0 (.aload_n 0) 1, oK (.getfield 9) 3 2 0, o0 (.aload_n 0) 1, oK (.getfield 23) 3 2 3]) (G := True ∧ True ∧ (kd 2 = 2) ∧ True ∧ True ∧ (kd 2 = 2) ∧ True ∧ True ∧ (kd 2 = 2) ∧ True ∧ True ∧ (kd 2 = 2 ∧ (1 = (0 : Int32) ∨ 1 = (1 : Int32))) ∧ True ∧ (kd 2 = 2) ∧ True ∧ (kd 2 = 2) ∧ True) (by decide +kernel) ?_ ⟨trivial, trivial, (by decide), trivial, trivial, (by decide), trivial, trivial, (by decide), trivial, trivial, ⟨(by decide), Or.inr rfl⟩, trivial, (by decide), trivial, (by decide), trivial⟩ k
  rfl
theorem BX2_begin_31 {d Z L : Nat} {xs : Nat → Int32} {z : Nat} {Φ : Out → T2 → T3 → Nat → Prop} {I : T2} {J : T3} {x1 : Int32}  
    (k : Ev d Z L xs mX2_begin 32 [some (.ref 2), some (.int x1)] [.ref 2] I J z Φ) : Ev d Z L xs mX2_begin 31 [some (.ref 2), some (.int x1)] [] I J z Φ := by
  refine Ev.blk (ops := [o0 (.aload_n 0) 1]) (G := True ∧ True) (by decide +kernel) ?_ ⟨trivial, trivial⟩ k
  rfl
theorem BX2_forgetPleas_0 {d Z L : Nat} {xs : Nat → Int32} {z : Nat} {Φ : Out → T2 → T3 → Nat → Prop} {I : T2} {J : T3}   
    (k : Ev d Z L xs mX2_forgetPleas 2 [some (.ref 2), some (.int 0)] [] I J z Φ) : Ev d Z L xs mX2_forgetPleas 0 [some (.ref 2), none] [] I J z Φ := by
  refine Ev.blk (ops := [oI (.iconst 0) 1 0, o0 (.istore_n 1) 1]) (G := True ∧ True ∧ True) (by decide +kernel) ?_ ⟨trivial, trivial, trivial⟩ k
  rfl
theorem BX2_forgetPleas_2 {d Z L : Nat} {xs : Nat → Int32} {z : Nat} {Φ : Out → T2 → T3 → Nat → Prop} {I : T2} {J : T3} {x1 : Int32}  
    (k : Ev d Z L xs mX2_forgetPleas 4 [some (.ref 2), some (.int x1)] [.int 3, .int x1] I J z Φ) : Ev d Z L xs mX2_forgetPleas 2 [some (.ref 2), some (.int x1)] [] I J z Φ := by
  refine Ev.blk (ops := [o0 (.iload_n 1) 1, oI (.iconst 3) 1 3]) (G := True ∧ True ∧ True) (by decide +kernel) ?_ ⟨trivial, trivial, trivial⟩ k
  rfl
theorem BX2_forgetPleas_7 {d Z L : Nat} {xs : Nat → Int32} {z : Nat} {Φ : Out → T2 → T3 → Nat → Prop} {I : T2} {J : T3} {x1 : Int32}  (g1 : vp_in x1 3)
    (k : Ev d Z L xs mX2_forgetPleas 14 [some (.ref 2), some (.int x1)] [.int 0, .ref (4 + 1 + x1.toNatClampNeg)] I J z Φ) : Ev d Z L xs mX2_forgetPleas 7 [some (.ref 2), some (.int x1)] [] I J z Φ := by
  refine Ev.blk (ops := [o0 (.aload_n 0) 1, oK (.getfield 17) 3 2 1, o0 (.iload_n 1) 1, oK (.aaload) 1 12 0, oI (.iconst 0) 1 0]) (G := True ∧ (kd 2 = 2) ∧ True ∧ (kd 4 = 12 ∧ vp_in x1 (ln 4)) ∧ True ∧ True) (by decide +kernel) ?_ ⟨trivial, (by decide), trivial, ⟨(by decide), g1⟩, trivial, trivial⟩ k
  rfl
theorem BX2_forgetPleas_17 {d Z L : Nat} {xs : Nat → Int32} {z : Nat} {Φ : Out → T2 → T3 → Nat → Prop} {I : T2} {J : T3} {x1 : Int32}  
    (k : Ev d Z L xs mX2_forgetPleas 2 [some (.ref 2), some (.int (x1 + 1))] [] I J z Φ) : Ev d Z L xs mX2_forgetPleas 17 [some (.ref 2), some (.int x1)] [] I J z Φ := by
  refine Ev.blk (ops := [oI (.iinc 1 1) 3 1, oK (.goto (-18)) 3 2 0]) (G := True ∧ True ∧ True) (by decide +kernel) ?_ ⟨trivial, trivial, trivial⟩ k
  rfl
theorem BX2_turnTo_0 {d Z L : Nat} {xs : Nat → Int32} {z : Nat} {Φ : Out → T2 → T3 → Nat → Prop} {I : T2} {J : T3} {x1 : Int32}  
    (k : Ev d Z L xs mX2_turnTo 2 [some (.ref 2), some (.int x1), some (.int (-1))] [] I J z Φ) : Ev d Z L xs mX2_turnTo 0 [some (.ref 2), some (.int x1), none] [] I J z Φ := by
  refine Ev.blk (ops := [oI (.iconst (-1)) 1 (-1), o0 (.istore_n 2) 1]) (G := True ∧ True ∧ True) (by decide +kernel) ?_ ⟨trivial, trivial, trivial⟩ k
  rfl
theorem BX2_turnTo_2 {d Z L : Nat} {xs : Nat → Int32} {z : Nat} {Φ : Out → T2 → T3 → Nat → Prop} {I : T2} {J : T3} {x1 : Int32} {x2 : Int32}  
    (k : Ev d Z L xs mX2_turnTo 4 [some (.ref 2), some (.int x1), some (.int x2)] [.int 1, .int x2] I J z Φ) : Ev d Z L xs mX2_turnTo 2 [some (.ref 2), some (.int x1), some (.int x2)] [] I J z Φ := by
  refine Ev.blk (ops := [o0 (.iload_n 2) 1, oI (.iconst 1) 1 1]) (G := True ∧ True ∧ True) (by decide +kernel) ?_ ⟨trivial, trivial, trivial⟩ k
  rfl
theorem BX2_turnTo_7 {d Z L : Nat} {xs : Nat → Int32} {z : Nat} {Φ : Out → T2 → T3 → Nat → Prop} {I : T2} {J : T3} {x1 : Int32} {x2 : Int32}  
    (k : Ev d Z L xs mX2_turnTo 16 [some (.ref 2), some (.int x1), some (.int x2)] [.int ((I 2 4) + 1), .int (x1 + x2)] I J z Φ) : Ev d Z L xs mX2_turnTo 7 [some (.ref 2), some (.int x1), some (.int x2)] [] I J z Φ := by
  refine Ev.blk (ops := [o0 (.iload_n 1) 1, o0 (.iload_n 2) 1, o0 (.iadd) 1, o0 (.aload_n 0) 1, oK (.getfield 27) 3 2 4, oI (.iconst 1) 1 1, o0 (.iadd) 1]) (G := True ∧ True ∧ True ∧ True ∧ (kd 2 = 2) ∧ True ∧ True ∧ True) (by decide +kernel) ?_ ⟨trivial, trivial, trivial, trivial, (by decide), trivial, trivial, trivial⟩ k
  rfl
theorem BX2_turnTo_19 {d Z L : Nat} {xs : Nat → Int32} {z : Nat} {Φ : Out → T2 → T3 → Nat → Prop} {I : T2} {J : T3} {x1 : Int32} {x2 : Int32}  
    (k : Ev d Z L xs mX2_turnTo 24 [some (.ref 2), some (.int x1), some (.int x2)] [.int 3, .int (x1 + x2), .ref 2] I J z Φ) : Ev d Z L xs mX2_turnTo 19 [some (.ref 2), some (.int x1), some (.int x2)] [] I J z Φ := by
  refine Ev.blk (ops := [o0 (.aload_n 0) 1, o0 (.iload_n 1) 1, o0 (.iload_n 2) 1, o0 (.iadd) 1, oI (.iconst 3) 1 3]) (G := True ∧ True ∧ True ∧ True ∧ True ∧ True) (by decide +kernel) ?_ ⟨trivial, trivial, trivial, trivial, trivial, trivial⟩ k
  rfl
theorem BX2_turnTo_30 {d Z L : Nat} {xs : Nat → Int32} {z : Nat} {Φ : Out → T2 → T3 → Nat → Prop} {I : T2} {J : T3} {x1 : Int32} {x2 : Int32}  
    (k : Ev d Z L xs mX2_turnTo 2 [some (.ref 2), some (.int x1), some (.int (x2 + 1))] [] I J z Φ) : Ev d Z L xs mX2_turnTo 30 [some (.ref 2), some (.int x1), some (.int x2)] [] I J z Φ := by
  refine Ev.blk (ops := [oI (.iinc 2 1) 3 1, oK (.goto (-31)) 3 2 0]) (G := True ∧ True ∧ True) (by decide +kernel) ?_ ⟨trivial, trivial, trivial⟩ k
  rfl
theorem BX2_turnTo_36 {d Z L : Nat} {xs : Nat → Int32} {z : Nat} {Φ : Out → T2 → T3 → Nat → Prop} {I : T2} {J : T3} {x1 : Int32} {x2 : Int32}  
    (k : Ev d Z L xs mX2_turnTo 41 [some (.ref 2), some (.int x1), some (.int x2)] [] (up2 I 2 4 x1) J z Φ) : Ev d Z L xs mX2_turnTo 36 [some (.ref 2), some (.int x1), some (.int x2)] [] I J z Φ := by
  refine Ev.blk (ops := [o0 (.aload_n 0) 1, o0 (.iload_n 1) 1, oK (.putfield 27) 3 2 4]) (G := True ∧ True ∧ (kd 2 = 2) ∧ True) (by decide +kernel) ?_ ⟨trivial, trivial, (by decide), trivial⟩ k
  rfl
theorem BX2_renew_0 {d Z L : Nat} {xs : Nat → Int32} {z : Nat} {Φ : Out → T2 → T3 → Nat → Prop} {I : T2} {J : T3} {x1 : Int32}  (g1 : vp_in x1 3)
    (k : Ev d Z L xs mX2_renew 17 [some (.ref 2), some (.int x1)] [.int 0, .ref (4 + 1 + x1.toNatClampNeg)] (up2 I 3 x1.toNatClampNeg (I 2 3)) J z Φ) : Ev d Z L xs mX2_renew 0 [some (.ref 2), some (.int x1)] [] I J z Φ := by
  refine Ev.blk (ops := [o0 (.aload_n 0) 1, oK (.getfield 9) 3 2 0, o0 (.iload_n 1) 1, o0 (.aload_n 0) 1, oK (.getfield 23) 3 2 3, o0 (.iastore) 1, o0 (.aload_n 0) 1, oK (.getfield 17) 3 2 1, o0 (.iload_n 1) 1, oK (.aaload) 1 12 0, oI (.iconst 0) 1 0]) (G := True ∧ (kd 2 = 2) ∧ True ∧ True ∧ (kd 2 = 2) ∧ (kd 3 = 8 ∧ vp_in x1 (ln 3)) ∧ True ∧ (kd 2 = 2) ∧ True ∧ (kd 4 = 12 ∧ vp_in x1 (ln 4)) ∧ True ∧ True) (by decide +kernel) ?_ ⟨trivial, (by decide), trivial, trivial, (by decide), ⟨(by decide), g1⟩, trivial, (by decide), trivial, ⟨(by decide), g1⟩, trivial, trivial⟩ k
  rfl
theorem BX2_addUnits_0 {d Z L : Nat} {xs : Nat → Int32} {z : Nat} {Φ : Out → T2 → T3 → Nat → Prop} {I : T2} {J : T3} {x1 : Int32} {x2 : Int32}  
    (k : Ev d Z L xs mX2_addUnits 5 [some (.ref 2), some (.int x1), some (.int x2), none] [.int (I 2 4), .int x1] I J z Φ) : Ev d Z L xs mX2_addUnits 0 [some (.ref 2), some (.int x1), some (.int x2), none] [] I J z Φ := by
  refine Ev.blk (ops := [o0 (.iload_n 1) 1, o0 (.aload_n 0) 1, oK (.getfield 27) 3 2 4]) (G := True ∧ True ∧ (kd 2 = 2) ∧ True) (by decide +kernel) ?_ ⟨trivial, trivial, (by decide), trivial⟩ k
  rfl
theorem BX2_addUnits_8 {d Z L : Nat} {xs : Nat → Int32} {z : Nat} {Φ : Out → T2 → T3 → Nat → Prop} {I : T2} {J : T3} {x1 : Int32} {x2 : Int32} {xs0 : Int32}  
    (k : Ev d Z L xs mX2_addUnits 11 [some (.ref 2), some (.int x1), some (.int x2), some (.int xs0)] [.int (-1), .int xs0] I J z Φ) : Ev d Z L xs mX2_addUnits 8 [some (.ref 2), some (.int x1), some (.int x2), none] [.int xs0] I J z Φ := by
  refine Ev.blk (ops := [o0 (.istore_n 3) 1, o0 (.iload_n 3) 1, oI (.iconst (-1)) 1 (-1)]) (G := True ∧ True ∧ True ∧ True) (by decide +kernel) ?_ ⟨trivial, trivial, trivial, trivial⟩ k
  rfl
theorem BX2_addUnits_14 {d Z L : Nat} {xs : Nat → Int32} {z : Nat} {Φ : Out → T2 → T3 → Nat → Prop} {I : T2} {J : T3} {x1 : Int32} {x2 : Int32} {x3 : Int32}  (g1 : vp_in x3 3)
    (k : Ev d Z L xs mX2_addUnits 24 [some (.ref 2), some (.int x1), some (.int x2), some (.int x3)] [] (up2 I 3 x3.toNatClampNeg ((I 3 x3.toNatClampNeg) + x2)) J z Φ) : Ev d Z L xs mX2_addUnits 14 [some (.ref 2), some (.int x1), some (.int x2), some (.int x3)] [] I J z Φ := by
  refine Ev.blk (ops := [o0 (.aload_n 0) 1, oK (.getfield 9) 3 2 0, o0 (.iload_n 3) 1, o0 (.dup2) 1, o0 (.iaload) 1, o0 (.iload_n 2) 1, o0 (.iadd) 1, o0 (.iastore) 1]) (G := True ∧ (kd 2 = 2) ∧ True ∧ True ∧ (kd 3 = 8 ∧ vp_in x3 (ln 3)) ∧ True ∧ True ∧ (kd 3 = 8 ∧ vp_in x3 (ln 3)) ∧ True) (by decide +kernel) ?_ ⟨trivial, (by decide), trivial, trivial, ⟨(by decide), g1⟩, trivial, trivial, ⟨(by decide), g1⟩, trivial⟩ k
  rfl
theorem BX2_waitingPleas_0 {d Z L : Nat} {xs : Nat → Int32} {z : Nat} {Φ : Out → T2 → T3 → Nat → Prop} {I : T2} {J : T3}   
    (k : Ev d Z L xs mX2_waitingPleas 4 [some (.ref 2), some (.int 0), some (.int 0), none] [] I J z Φ) : Ev d Z L xs mX2_waitingPleas 0 [some (.ref 2), none, none, none] [] I J z Φ := by
  refine Ev.blk (ops := [oI (.iconst 0) 1 0, o0 (.istore_n 1) 1, oI (.iconst 0) 1 0, o0 (.istore_n 2) 1]) (G := True ∧ True ∧ True ∧ True ∧ True) (by decide +kernel) ?_ ⟨trivial, trivial, trivial, trivial, trivial⟩ k
  rfl
theorem BX2_waitingPleas_4 {d Z L : Nat} {xs : Nat → Int32} {z : Nat} {Φ : Out → T2 → T3 → Nat → Prop} {I : T2} {J : T3} {x1 : Int32} {x2 : Int32}  
    (k : Ev d Z L xs mX2_waitingPleas 6 [some (.ref 2), some (.int x1), some (.int x2), none] [.int 3, .int x2] I J z Φ) : Ev d Z L xs mX2_waitingPleas 4 [some (.ref 2), some (.int x1), some (.int x2), none] [] I J z Φ := by
  refine Ev.blk (ops := [o0 (.iload_n 2) 1, oI (.iconst 3) 1 3]) (G := True ∧ True ∧ True) (by decide +kernel) ?_ ⟨trivial, trivial, trivial⟩ k
  rfl
theorem BX2_waitingPleas_9 {d Z L : Nat} {xs : Nat → Int32} {z : Nat} {Φ : Out → T2 → T3 → Nat → Prop} {I : T2} {J : T3} {x1 : Int32} {x2 : Int32}  
    (k : Ev d Z L xs mX2_waitingPleas 11 [some (.ref 2), some (.int x1), some (.int x2), some (.int 0)] [] I J z Φ) : Ev d Z L xs mX2_waitingPleas 9 [some (.ref 2), some (.int x1), some (.int x2), none] [] I J z Φ := by
  refine Ev.blk (ops := [oI (.iconst 0) 1 0, o0 (.istore_n 3) 1]) (G := True ∧ True ∧ True) (by decide +kernel) ?_ ⟨trivial, trivial, trivial⟩ k
  rfl
theorem BX2_waitingPleas_11 {d Z L : Nat} {xs : Nat → Int32} {z : Nat} {Φ : Out → T2 → T3 → Nat → Prop} {I : T2} {J : T3} {x1 : Int32} {x2 : Int32} {x3 : Int32}  
    (k : Ev d Z L xs mX2_waitingPleas 14 [some (.ref 2), some (.int x1), some (.int x2), some (.int x3)] [.int 8, .int x3] I J z Φ) : Ev d Z L xs mX2_waitingPleas 11 [some (.ref 2), some (.int x1), some (.int x2), some (.int x3)] [] I J z Φ := by
  refine Ev.blk (ops := [o0 (.iload_n 3) 1, oI (.bipush 8) 2 8]) (G := True ∧ True ∧ True) (by decide +kernel) ?_ ⟨trivial, trivial, trivial⟩ k
  rfl
theorem BX2_waitingPleas_17 {d Z L : Nat} {xs : Nat → Int32} {z : Nat} {Φ : Out → T2 → T3 → Nat → Prop} {I : T2} {J : T3} {x1 : Int32} {x2 : Int32} {x3 : Int32}  (g1 : vp_in x2 3) (g2 : vp_in x3 8)
    (k : Ev d Z L xs mX2_waitingPleas 26 [some (.ref 2), some (.int x1), some (.int x2), some (.int x3)] [.int (I (4 + 1 + x2.toNatClampNeg) x3.toNatClampNeg), .int x1] I J z Φ) : Ev d Z L xs mX2_waitingPleas 17 [some (.ref 2), some (.int x1), some (.int x2), some (.int x3)] [] I J z Φ := by
  refine Ev.blk (ops := [o0 (.iload_n 1) 1, o0 (.aload_n 0) 1, oK (.getfield 17) 3 2 1, o0 (.iload_n 2) 1, oK (.aaload) 1 12 0, o0 (.iload_n 3) 1, o0 (.iaload) 1]) (G := True ∧ True ∧ (kd 2 = 2) ∧ True ∧ (kd 4 = 12 ∧ vp_in x2 (ln 4)) ∧ True ∧ (kd (4 + 1 + x2.toNatClampNeg) = 8 ∧ vp_in x3 (ln (4 + 1 + x2.toNatClampNeg))) ∧ True) (by decide +kernel) ?_ ⟨trivial, trivial, (by decide), trivial, ⟨(by decide), g1⟩, trivial, ⟨(kr4 (vp_lt g1)), (ln_to (lr4 (vp_lt g1)) g2)⟩, trivial⟩ k
  rfl
theorem BX2_waitingPleas_29 {d Z L : Nat} {xs : Nat → Int32} {z : Nat} {Φ : Out → T2 → T3 → Nat → Prop} {I : T2} {J : T3} {x1 : Int32} {x2 : Int32} {x3 : Int32} {xs0 : Int32}  
    (k : Ev d Z L xs mX2_waitingPleas 34 [some (.ref 2), some (.int x1), some (.int x2), some (.int x3)] [.int 1, .int xs0] I J z Φ) : Ev d Z L xs mX2_waitingPleas 29 [some (.ref 2), some (.int x1), some (.int x2), some (.int x3)] [.int xs0] I J z Φ := by
  refine Ev.blk (ops := [oI (.iconst 1) 1 1, oK (.goto 4) 3 34 0]) (G := True ∧ True ∧ True) (by decide +kernel) ?_ ⟨trivial, trivial, trivial⟩ k
  rfl
theorem BX2_waitingPleas_33 {d Z L : Nat} {xs : Nat → Int32} {z : Nat} {Φ : Out → T2 → T3 → Nat → Prop} {I : T2} {J : T3} {x1 : Int32} {x2 : Int32} {x3 : Int32} {xs0 : Int32}  
    (k : Ev d Z L xs mX2_waitingPleas 34 [some (.ref 2), some (.int x1), some (.int x2), some (.int x3)] [.int 0, .int xs0] I J z Φ) : Ev d Z L xs mX2_waitingPleas 33 [some (.ref 2), some (.int x1), some (.int x2), some (.int x3)] [.int xs0] I J z Φ := by
  refine Ev.blk (ops := [oI (.iconst 0) 1 0]) (G := True ∧ True) (by decide +kernel) ?_ ⟨trivial, trivial⟩ k
  rfl
theorem BX2_waitingPleas_34 {d Z L : Nat} {xs : Nat → Int32} {z : Nat} {Φ : Out → T2 → T3 → Nat → Prop} {I : T2} {J : T3} {x1 : Int32} {x2 : Int32} {x3 : Int32} {xs0 : Int32} {xs1 : Int32}  
    (k : Ev d Z L xs mX2_waitingPleas 11 [some (.ref 2), some (.int (xs0 + xs1)), some (.int x2), some (.int (x3 + 1))] [] I J z Φ) : Ev d Z L xs mX2_waitingPleas 34 [some (.ref 2), some (.int x1), some (.int x2), some (.int x3)] [.int xs1, .int xs0] I J z Φ := by
  refine Ev.blk (ops := [o0 (.iadd) 1, o0 (.istore_n 1) 1, oI (.iinc 3 1) 3 1, oK (.goto (-28)) 3 11 0]) (G := True ∧ True ∧ True ∧ True ∧ True) (by decide +kernel) ?_ ⟨trivial, trivial, trivial, trivial, trivial⟩ k
  rfl
theorem BX2_waitingPleas_42 {d Z L : Nat} {xs : Nat → Int32} {z : Nat} {Φ : Out → T2 → T3 → Nat → Prop} {I : T2} {J : T3} {x1 : Int32} {x2 : Int32} {x3 : Int32}  
    (k : Ev d Z L xs mX2_waitingPleas 4 [some (.ref 2), some (.int x1), some (.int (x2 + 1)), some (.int x3)] [] I J z Φ) : Ev d Z L xs mX2_waitingPleas 42 [some (.ref 2), some (.int x1), some (.int x2), some (.int x3)] [] I J z Φ := by
  refine Ev.blk (ops := [oI (.iinc 2 1) 3 1, oK (.goto (-41)) 3 4 0]) (G := True ∧ True ∧ True) (by decide +kernel) ?_ ⟨trivial, trivial, trivial⟩ k
  rfl
theorem BX2_waitingPleas_48 {d Z L : Nat} {xs : Nat → Int32} {z : Nat} {Φ : Out → T2 → T3 → Nat → Prop} {I : T2} {J : T3} {x1 : Int32} {x2 : Int32}  
    (k : Ev d Z L xs mX2_waitingPleas 49 [some (.ref 2), some (.int x1), some (.int x2), none] [.int x1] I J z Φ) : Ev d Z L xs mX2_waitingPleas 48 [some (.ref 2), some (.int x1), some (.int x2), none] [] I J z Φ := by
  refine Ev.blk (ops := [o0 (.iload_n 1) 1]) (G := True ∧ True) (by decide +kernel) ?_ ⟨trivial, trivial⟩ k
  rfl
