theorem BX5_init_0 {d Z L : Nat} {xs : Nat → Int32} {z : Nat} {Φ : Out → T2 → T3 → Nat → Prop} {I : T2} {J : T3} {a0 : Nat} {x1 : Int32}  
    (k : Ev d Z L xs mX5_init 1 [some (.ref a0), some (.int x1)] [.ref a0] I J z Φ) : Ev d Z L xs mX5_init 0 [some (.ref a0), some (.int x1)] [] I J z Φ := by
  refine Ev.blk (ops := [o0 (.aload_n 0) 1]) (G := True ∧ True) (by decide +kernel) ?_ ⟨trivial, trivial⟩ k
  rfl
theorem BX5_init_4 {d Z L : Nat} {xs : Nat → Int32} {z : Nat} {Φ : Out → T2 → T3 → Nat → Prop} {I : T2} {J : T3} {a0 : Nat} {x1 : Int32}  
    (k : Ev d Z L xs mX5_init 7 [some (.ref a0), some (.int x1)] [.int 50, .ref a0] I J z Φ) : Ev d Z L xs mX5_init 4 [some (.ref a0), some (.int x1)] [] I J z Φ := by
  refine Ev.blk (ops := [o0 (.aload_n 0) 1, oI (.bipush 50) 2 50]) (G := True ∧ True ∧ True) (by decide +kernel) ?_ ⟨trivial, trivial, trivial⟩ k
  rfl
theorem BX5_begin_0 {d Z L : Nat} {xs : Nat → Int32} {z : Nat} {Φ : Out → T2 → T3 → Nat → Prop} {I : T2} {J : T3} {a0 : Nat} (hk_a0 : kd a0 = 5) 
    (k : Ev d Z L xs mX5_begin 15 [some (.ref a0)] [] (up2 (up2 (up2 I a0 5 0) a0 6 0) a0 7 0) J z Φ) : Ev d Z L xs mX5_begin 0 [some (.ref a0)] [] I J z Φ := by
  refine Ev.blk (ops := [o0 (.aload_n 0) 1, oI (.iconst 0) 1 0, oK (.putfield 26) 3 5 5, o0 (.aload_n 0) 1, oI (.iconst 0) 1 0, oK (.putfield 29) 3 5 6, o0 (.aload_n 0) 1, oI (.iconst 0) 1 0, oK (.putfield 32) 3 5 7]) (G := True ∧ True ∧ (kd a0 = 5) ∧ True ∧ True ∧ (kd a0 = 5) ∧ True ∧ True ∧ (kd a0 = 5) ∧ True) (by decide +kernel) ?_ ⟨trivial, trivial, hk_a0, trivial, trivial, hk_a0, trivial, trivial, hk_a0, trivial⟩ k
  rfl
theorem BX5_isShut_0 {d Z L : Nat} {xs : Nat → Int32} {z : Nat} {Φ : Out → T2 → T3 → Nat → Prop} {I : T2} {J : T3} {a0 : Nat} (hk_a0 : kd a0 = 5) 
    (k : Ev d Z L xs mX5_isShut 11 [some (.ref a0)] [.int 50, .int ((I a0 5) - (I a0 6))] I J z Φ) : Ev d Z L xs mX5_isShut 0 [some (.ref a0)] [] I J z Φ := by
  refine Ev.blk (ops := [o0 (.aload_n 0) 1, oK (.getfield 26) 3 5 5, o0 (.aload_n 0) 1, oK (.getfield 29) 3 5 6, o0 (.isub) 1, oI (.bipush 50) 2 50]) (G := True ∧ (kd a0 = 5) ∧ True ∧ (kd a0 = 5) ∧ True ∧ True ∧ True) (by decide +kernel) ?_ ⟨trivial, hk_a0, trivial, hk_a0, trivial, trivial, trivial⟩ k
  rfl
theorem BX5_isShut_14 {d Z L : Nat} {xs : Nat → Int32} {z : Nat} {Φ : Out → T2 → T3 → Nat → Prop} {I : T2} {J : T3} {a0 : Nat}  
    (k : Ev d Z L xs mX5_isShut 19 [some (.ref a0)] [.int 1] I J z Φ) : Ev d Z L xs mX5_isShut 14 [some (.ref a0)] [] I J z Φ := by
  refine Ev.blk (ops := [oI (.iconst 1) 1 1, oK (.goto 4) 3 19 0]) (G := True ∧ True ∧ True) (by decide +kernel) ?_ ⟨trivial, trivial, trivial⟩ k
  rfl
theorem BX5_isShut_18 {d Z L : Nat} {xs : Nat → Int32} {z : Nat} {Φ : Out → T2 → T3 → Nat → Prop} {I : T2} {J : T3} {a0 : Nat}  
    (k : Ev d Z L xs mX5_isShut 19 [some (.ref a0)] [.int 0] I J z Φ) : Ev d Z L xs mX5_isShut 18 [some (.ref a0)] [] I J z Φ := by
  refine Ev.blk (ops := [oI (.iconst 0) 1 0]) (G := True ∧ True) (by decide +kernel) ?_ ⟨trivial, trivial⟩ k
  rfl
theorem BX5_send_0 {d Z L : Nat} {xs : Nat → Int32} {z : Nat} {Φ : Out → T2 → T3 → Nat → Prop} {I : T2} {J : T3} {a0 : Nat} {x2 : Int32} {x3 : Int32} {x4 : Int32} {x5 : Int32} (hk_a0 : kd a0 = 5) 
    (k : Ev d Z L xs mX5_send 16 [some (.ref a0), some (.ref 12), some (.int x2), some (.int x3), some (.int x4), some (.int x5), none] [.int 50, .int ((up2 I a0 5 ((I a0 5) + 1)) a0 5)] (up2 I a0 5 ((I a0 5) + 1)) J z Φ) : Ev d Z L xs mX5_send 0 [some (.ref a0), some (.ref 12), some (.int x2), some (.int x3), some (.int x4), some (.int x5), none] [] I J z Φ := by
  refine Ev.blk (ops := [o0 (.aload_n 0) 1, o0 (.dup) 1, oK (.getfield 26) 3 5 5, oI (.iconst 1) 1 1, o0 (.iadd) 1, oK (.putfield 26) 3 5 5, o0 (.aload_n 0) 1, oK (.getfield 26) 3 5 5, oI (.bipush 50) 2 50]) (G := True ∧ True ∧ (kd a0 = 5) ∧ True ∧ True ∧ (kd a0 = 5) ∧ True ∧ (kd a0 = 5) ∧ True ∧ True) (by decide +kernel) ?_ ⟨trivial, trivial, hk_a0, trivial, trivial, hk_a0, trivial, hk_a0, trivial, trivial⟩ k
  rfl
theorem BX5_send_19 {d Z L : Nat} {xs : Nat → Int32} {z : Nat} {Φ : Out → T2 → T3 → Nat → Prop} {I : T2} {J : T3} {a0 : Nat} {x2 : Int32} {x3 : Int32} {x4 : Int32} {x5 : Int32} {xs0 : Int32} (hk_a0 : kd a0 = 5) (g1 : vp_in xs0 50)
    (k : Ev d Z L xs mX5_send 70 [some (.ref a0), some (.ref 12), some (.int x2), some (.int x3), some (.int x4), some (.int x5), some (.int xs0)] [.int x5, .int x4, .int x3, .int ((up2 (up2 (up2 (up2 I (a0 + 1) xs0.toNatClampNeg x2) (a0 + 2) xs0.toNatClampNeg x3) (a0 + 3) xs0.toNatClampNeg x4) (a0 + 4) xs0.toNatClampNeg x5) a0 5), .int ((up2 (up2 (up2 (up2 I (a0 + 1) xs0.toNatClampNeg x2) (a0 + 2) xs0.toNatClampNeg x3) (a0 + 3) xs0.toNatClampNeg x4) (a0 + 4) xs0.toNatClampNeg x5) a0 0), .int x2, .ref 12] (up2 (up2 (up2 (up2 I (a0 + 1) xs0.toNatClampNeg x2) (a0 + 2) xs0.toNatClampNeg x3) (a0 + 3) xs0.toNatClampNeg x4) (a0 + 4) xs0.toNatClampNeg x5) J z Φ) : Ev d Z L xs mX5_send 19 [some (.ref a0), some (.ref 12), some (.int x2), some (.int x3), some (.int x4), some (.int x5), none] [.int xs0] I J z Φ := by
  refine Ev.blk (ops := [o0 (.istore 6) 2, o0 (.aload_n 0) 1, oK (.getfield 9) 3 5 1, o0 (.iload 6) 2, o0 (.iload_n 2) 1, o0 (.iastore) 1, o0 (.aload_n 0) 1, oK (.getfield 13) 3 5 2, o0 (.iload 6) 2, o0 (.iload_n 3) 1, o0 (.iastore) 1, o0 (.aload_n 0) 1, oK (.getfield 16) 3 5 3, o0 (.iload 6) 2, o0 (.iload 4) 2, o0 (.iastore) 1, o0 (.aload_n 0) 1, oK (.getfield 19) 3 5 4, o0 (.iload 6) 2, o0 (.iload 5) 2, o0 (.iastore) 1, o0 (.aload_n 1) 1, o0 (.iload_n 2) 1, o0 (.aload_n 0) 1, oK (.getfield 22) 3 5 0, o0 (.aload_n 0) 1, oK (.getfield 26) 3 5 5, o0 (.iload_n 3) 1, o0 (.iload 4) 2, o0 (.iload 5) 2]) (G := True ∧ True ∧ (kd a0 = 5) ∧ True ∧ True ∧ (kd (a0 + 1) = 8 ∧ vp_in xs0 (ln (a0 + 1))) ∧ True ∧ (kd a0 = 5) ∧ True ∧ True ∧ (kd (a0 + 2) = 8 ∧ vp_in xs0 (ln (a0 + 2))) ∧ True ∧ (kd a0 = 5) ∧ True ∧ True ∧ (kd (a0 + 3) = 8 ∧ vp_in xs0 (ln (a0 + 3))) ∧ True ∧ (kd a0 = 5) ∧ True ∧ True ∧ (kd (a0 + 4) = 8 ∧ vp_in xs0 (ln (a0 + 4))) ∧ True ∧ True ∧ True ∧ (kd a0 = 5) ∧ True ∧ (kd a0 = 5) ∧ True ∧ True ∧ True ∧ True) (by decide +kernel) ?_ ⟨trivial, trivial, hk_a0, trivial, trivial, ⟨(kw_1 hk_a0), (ln_to (lw_1 hk_a0) g1)⟩, trivial, hk_a0, trivial, trivial, ⟨(kw_2 hk_a0), (ln_to (lw_2 hk_a0) g1)⟩, trivial, hk_a0, trivial, trivial, ⟨(kw_3 hk_a0), (ln_to (lw_3 hk_a0) g1)⟩, trivial, hk_a0, trivial, trivial, ⟨(kw_4 hk_a0), (ln_to (lw_4 hk_a0) g1)⟩, trivial, trivial, trivial, hk_a0, trivial, hk_a0, trivial, trivial, trivial, trivial⟩ k
  rfl
theorem BX5_take_0 {d Z L : Nat} {xs : Nat → Int32} {z : Nat} {Φ : Out → T2 → T3 → Nat → Prop} {I : T2} {J : T3} {a0 : Nat} {x1 : Int32} (hk_a0 : kd a0 = 5) 
    (k : Ev d Z L xs mX5_take 7 [some (.ref a0), some (.int x1)] [.int ((I a0 7) + 1), .int x1] I J z Φ) : Ev d Z L xs mX5_take 0 [some (.ref a0), some (.int x1)] [] I J z Φ := by
  refine Ev.blk (ops := [o0 (.iload_n 1) 1, o0 (.aload_n 0) 1, oK (.getfield 32) 3 5 7, oI (.iconst 1) 1 1, o0 (.iadd) 1]) (G := True ∧ True ∧ (kd a0 = 5) ∧ True ∧ True ∧ True) (by decide +kernel) ?_ ⟨trivial, trivial, hk_a0, trivial, trivial, trivial⟩ k
  rfl
theorem BX5_take_10 {d Z L : Nat} {xs : Nat → Int32} {z : Nat} {Φ : Out → T2 → T3 → Nat → Prop} {I : T2} {J : T3} {a0 : Nat} {x1 : Int32}  
    (k : Ev d Z L xs mX5_take 11 [some (.ref a0), some (.int x1)] [.int 0] I J z Φ) : Ev d Z L xs mX5_take 10 [some (.ref a0), some (.int x1)] [] I J z Φ := by
  refine Ev.blk (ops := [oI (.iconst 0) 1 0]) (G := True ∧ True) (by decide +kernel) ?_ ⟨trivial, trivial⟩ k
  rfl
theorem BX5_take_12 {d Z L : Nat} {xs : Nat → Int32} {z : Nat} {Φ : Out → T2 → T3 → Nat → Prop} {I : T2} {J : T3} {a0 : Nat} {x1 : Int32} (hk_a0 : kd a0 = 5) 
    (k : Ev d Z L xs mX5_take 18 [some (.ref a0), some (.int x1)] [.int 1] (up2 I a0 7 x1) J z Φ) : Ev d Z L xs mX5_take 12 [some (.ref a0), some (.int x1)] [] I J z Φ := by
  refine Ev.blk (ops := [o0 (.aload_n 0) 1, o0 (.iload_n 1) 1, oK (.putfield 32) 3 5 7, oI (.iconst 1) 1 1]) (G := True ∧ True ∧ (kd a0 = 5) ∧ True ∧ True) (by decide +kernel) ?_ ⟨trivial, trivial, hk_a0, trivial, trivial⟩ k
  rfl
theorem BX5_sendReceipt_0 {d Z L : Nat} {xs : Nat → Int32} {z : Nat} {Φ : Out → T2 → T3 → Nat → Prop} {I : T2} {J : T3} {a0 : Nat} {x2 : Int32} (hk_a0 : kd a0 = 5) 
    (k : Ev d Z L xs mX5_sendReceipt 13 [some (.ref a0), some (.ref 12), some (.int x2)] [.int 0, .int 0, .int 0, .int (I a0 7), .int (I a0 0), .int x2, .ref 12] I J z Φ) : Ev d Z L xs mX5_sendReceipt 0 [some (.ref a0), some (.ref 12), some (.int x2)] [] I J z Φ := by
  refine Ev.blk (ops := [o0 (.aload_n 1) 1, o0 (.iload_n 2) 1, o0 (.aload_n 0) 1, oK (.getfield 22) 3 5 0, o0 (.aload_n 0) 1, oK (.getfield 32) 3 5 7, oI (.iconst 0) 1 0, oI (.iconst 0) 1 0, oI (.iconst 0) 1 0]) (G := True ∧ True ∧ True ∧ (kd a0 = 5) ∧ True ∧ (kd a0 = 5) ∧ True ∧ True ∧ True ∧ True) (by decide +kernel) ?_ ⟨trivial, trivial, trivial, hk_a0, trivial, hk_a0, trivial, trivial, trivial, trivial⟩ k
  rfl
theorem BX5_markReceived_0 {d Z L : Nat} {xs : Nat → Int32} {z : Nat} {Φ : Out → T2 → T3 → Nat → Prop} {I : T2} {J : T3} {a0 : Nat} {x1 : Int32} (hk_a0 : kd a0 = 5) 
    (k : Ev d Z L xs mX5_markReceived 6 [some (.ref a0), some (.int x1)] [.int x1, .int (I a0 6), .ref a0] I J z Φ) : Ev d Z L xs mX5_markReceived 0 [some (.ref a0), some (.int x1)] [] I J z Φ := by
  refine Ev.blk (ops := [o0 (.aload_n 0) 1, o0 (.aload_n 0) 1, oK (.getfield 29) 3 5 6, o0 (.iload_n 1) 1]) (G := True ∧ True ∧ (kd a0 = 5) ∧ True ∧ True) (by decide +kernel) ?_ ⟨trivial, trivial, hk_a0, trivial, trivial⟩ k
  rfl
theorem BX5_markReceived_9 {d Z L : Nat} {xs : Nat → Int32} {z : Nat} {Φ : Out → T2 → T3 → Nat → Prop} {I : T2} {J : T3} {a0 : Nat} {x1 : Int32} {as0 : Nat} {xs1 : Int32} (hk_as0 : kd as0 = 5) 
    (k : Ev d Z L xs mX5_markReceived 12 [some (.ref a0), some (.int x1)] [] (up2 I as0 6 xs1) J z Φ) : Ev d Z L xs mX5_markReceived 9 [some (.ref a0), some (.int x1)] [.int xs1, .ref as0] I J z Φ := by
  refine Ev.blk (ops := [oK (.putfield 29) 3 5 6]) (G := (kd as0 = 5) ∧ True) (by decide +kernel) ?_ ⟨hk_as0, trivial⟩ k
  rfl
theorem BX5_sendAnew_0 {d Z L : Nat} {xs : Nat → Int32} {z : Nat} {Φ : Out → T2 → T3 → Nat → Prop} {I : T2} {J : T3} {a0 : Nat} (hk_a0 : kd a0 = 5) 
    (k : Ev d Z L xs mX5_sendAnew 12 [some (.ref a0), some (.ref 12), some (.int ((I a0 5) - (I a0 6))), some (.int 1), none] [] I J z Φ) : Ev d Z L xs mX5_sendAnew 0 [some (.ref a0), some (.ref 12), none, none, none] [] I J z Φ := by
  refine Ev.blk (ops := [o0 (.aload_n 0) 1, oK (.getfield 26) 3 5 5, o0 (.aload_n 0) 1, oK (.getfield 29) 3 5 6, o0 (.isub) 1, o0 (.istore_n 2) 1, oI (.iconst 1) 1 1, o0 (.istore_n 3) 1]) (G := True ∧ (kd a0 = 5) ∧ True ∧ (kd a0 = 5) ∧ True ∧ True ∧ True ∧ True ∧ True) (by decide +kernel) ?_ ⟨trivial, hk_a0, trivial, hk_a0, trivial, trivial, trivial, trivial, trivial⟩ k
  rfl
theorem BX5_sendAnew_12 {d Z L : Nat} {xs : Nat → Int32} {z : Nat} {Φ : Out → T2 → T3 → Nat → Prop} {I : T2} {J : T3} {a0 : Nat} {x2 : Int32} {x3 : Int32}  
    (k : Ev d Z L xs mX5_sendAnew 14 [some (.ref a0), some (.ref 12), some (.int x2), some (.int x3), none] [.int x2, .int x3] I J z Φ) : Ev d Z L xs mX5_sendAnew 12 [some (.ref a0), some (.ref 12), some (.int x2), some (.int x3), none] [] I J z Φ := by
  refine Ev.blk (ops := [o0 (.iload_n 3) 1, o0 (.iload_n 2) 1]) (G := True ∧ True ∧ True) (by decide +kernel) ?_ ⟨trivial, trivial, trivial⟩ k
  rfl
theorem BX5_sendAnew_17 {d Z L : Nat} {xs : Nat → Int32} {z : Nat} {Φ : Out → T2 → T3 → Nat → Prop} {I : T2} {J : T3} {a0 : Nat} {x2 : Int32} {x3 : Int32} (hk_a0 : kd a0 = 5) 
    (k : Ev d Z L xs mX5_sendAnew 25 [some (.ref a0), some (.ref 12), some (.int x2), some (.int x3), none] [.int 50, .int ((I a0 6) + x3)] I J z Φ) : Ev d Z L xs mX5_sendAnew 17 [some (.ref a0), some (.ref 12), some (.int x2), some (.int x3), none] [] I J z Φ := by
  refine Ev.blk (ops := [o0 (.aload_n 0) 1, oK (.getfield 29) 3 5 6, o0 (.iload_n 3) 1, o0 (.iadd) 1, oI (.bipush 50) 2 50]) (G := True ∧ (kd a0 = 5) ∧ True ∧ True ∧ True ∧ True) (by decide +kernel) ?_ ⟨trivial, hk_a0, trivial, trivial, trivial, trivial⟩ k
  rfl
theorem BX5_sendAnew_28 {d Z L : Nat} {xs : Nat → Int32} {z : Nat} {Φ : Out → T2 → T3 → Nat → Prop} {I : T2} {J : T3} {a0 : Nat} {x2 : Int32} {x3 : Int32} {xs0 : Int32} (hk_a0 : kd a0 = 5) (g1 : vp_in xs0 50)
    (k : Ev d Z L xs mX5_sendAnew 69 [some (.ref a0), some (.ref 12), some (.int x2), some (.int x3), some (.int xs0)] [.int (I (a0 + 4) xs0.toNatClampNeg), .int (I (a0 + 3) xs0.toNatClampNeg), .int (I (a0 + 2) xs0.toNatClampNeg), .int ((I a0 6) + x3), .int (I a0 0), .int (I (a0 + 1) xs0.toNatClampNeg), .ref 12] I J z Φ) : Ev d Z L xs mX5_sendAnew 28 [some (.ref a0), some (.ref 12), some (.int x2), some (.int x3), none] [.int xs0] I J z Φ := by
  refine Ev.blk (ops := [o0 (.istore 4) 2, o0 (.aload_n 1) 1, o0 (.aload_n 0) 1, oK (.getfield 9) 3 5 1, o0 (.iload 4) 2, o0 (.iaload) 1, o0 (.aload_n 0) 1, oK (.getfield 22) 3 5 0, o0 (.aload_n 0) 1, oK (.getfield 29) 3 5 6, o0 (.iload_n 3) 1, o0 (.iadd) 1, o0 (.aload_n 0) 1, oK (.getfield 13) 3 5 2, o0 (.iload 4) 2, o0 (.iaload) 1, o0 (.aload_n 0) 1, oK (.getfield 16) 3 5 3, o0 (.iload 4) 2, o0 (.iaload) 1, o0 (.aload_n 0) 1, oK (.getfield 19) 3 5 4, o0 (.iload 4) 2, o0 (.iaload) 1]) (G := True ∧ True ∧ True ∧ (kd a0 = 5) ∧ True ∧ (kd (a0 + 1) = 8 ∧ vp_in xs0 (ln (a0 + 1))) ∧ True ∧ (kd a0 = 5) ∧ True ∧ (kd a0 = 5) ∧ True ∧ True ∧ True ∧ (kd a0 = 5) ∧ True ∧ (kd (a0 + 2) = 8 ∧ vp_in xs0 (ln (a0 + 2))) ∧ True ∧ (kd a0 = 5) ∧ True ∧ (kd (a0 + 3) = 8 ∧ vp_in xs0 (ln (a0 + 3))) ∧ True ∧ (kd a0 = 5) ∧ True ∧ (kd (a0 + 4) = 8 ∧ vp_in xs0 (ln (a0 + 4))) ∧ True) (by decide +kernel) ?_ ⟨trivial, trivial, trivial, hk_a0, trivial, ⟨(kw_1 hk_a0), (ln_to (lw_1 hk_a0) g1)⟩, trivial, hk_a0, trivial, hk_a0, trivial, trivial, trivial, hk_a0, trivial, ⟨(kw_2 hk_a0), (ln_to (lw_2 hk_a0) g1)⟩, trivial, hk_a0, trivial, ⟨(kw_3 hk_a0), (ln_to (lw_3 hk_a0) g1)⟩, trivial, hk_a0, trivial, ⟨(kw_4 hk_a0), (ln_to (lw_4 hk_a0) g1)⟩, trivial⟩ k
  rfl
theorem BX5_sendAnew_72 {d Z L : Nat} {xs : Nat → Int32} {z : Nat} {Φ : Out → T2 → T3 → Nat → Prop} {I : T2} {J : T3} {a0 : Nat} {x2 : Int32} {x3 : Int32} {x4 : Int32}  
    (k : Ev d Z L xs mX5_sendAnew 12 [some (.ref a0), some (.ref 12), some (.int x2), some (.int (x3 + 1)), some (.int x4)] [] I J z Φ) : Ev d Z L xs mX5_sendAnew 72 [some (.ref a0), some (.ref 12), some (.int x2), some (.int x3), some (.int x4)] [] I J z Φ := by
  refine Ev.blk (ops := [oI (.iinc 3 1) 3 1, oK (.goto (-63)) 3 12 0]) (G := True ∧ True ∧ True) (by decide +kernel) ?_ ⟨trivial, trivial, trivial⟩ k
  rfl
theorem BX5_sendAnew_78 {d Z L : Nat} {xs : Nat → Int32} {z : Nat} {Φ : Out → T2 → T3 → Nat → Prop} {I : T2} {J : T3} {a0 : Nat} {x2 : Int32} {x3 : Int32}  
    (k : Ev d Z L xs mX5_sendAnew 79 [some (.ref a0), some (.ref 12), some (.int x2), some (.int x3), none] [.int x2] I J z Φ) : Ev d Z L xs mX5_sendAnew 78 [some (.ref a0), some (.ref 12), some (.int x2), some (.int x3), none] [] I J z Φ := by
  refine Ev.blk (ops := [o0 (.iload_n 2) 1]) (G := True ∧ True) (by decide +kernel) ?_ ⟨trivial, trivial⟩ k
  rfl
