theorem BJ7_fill_53178_0 {d Z L : Nat} {xs : Nat → Int32} {z : Nat} {Φ : Out → T2 → T3 → Nat → Prop} {I : T2} {J : T3} {a0 : Nat} {x1 : Int32} (hk_a0 : kd a0 = 8) 
    (k : Ev d Z L xs mJ7_fill_53178 5 [some (.ref a0), some (.int x1), some (.int 0), some (.int (nI (ln a0)))] [] I J z Φ) : Ev d Z L xs mJ7_fill_53178 0 [some (.ref a0), some (.int x1), none, none] [] I J z Φ := by
  refine Ev.blk (ops := [oI (.iconst 0) 1 0, o0 (.istore_n 2) 1, o0 (.aload_n 0) 1, o0 (.arraylength) 1, o0 (.istore_n 3) 1]) (G := True ∧ True ∧ True ∧ (kd a0 = 8) ∧ True ∧ True) (by decide +kernel) ?_ ⟨trivial, trivial, trivial, hk_a0, trivial, trivial⟩ k
  rfl
theorem BJ7_fill_53178_5 {d Z L : Nat} {xs : Nat → Int32} {z : Nat} {Φ : Out → T2 → T3 → Nat → Prop} {I : T2} {J : T3} {a0 : Nat} {x1 : Int32} {x2 : Int32} {x3 : Int32}  
    (k : Ev d Z L xs mJ7_fill_53178 7 [some (.ref a0), some (.int x1), some (.int x2), some (.int x3)] [.int x3, .int x2] I J z Φ) : Ev d Z L xs mJ7_fill_53178 5 [some (.ref a0), some (.int x1), some (.int x2), some (.int x3)] [] I J z Φ := by
  refine Ev.blk (ops := [o0 (.iload_n 2) 1, o0 (.iload_n 3) 1]) (G := True ∧ True ∧ True) (by decide +kernel) ?_ ⟨trivial, trivial, trivial⟩ k
  rfl
theorem BJ7_fill_53178_10 {d Z L : Nat} {xs : Nat → Int32} {z : Nat} {Φ : Out → T2 → T3 → Nat → Prop} {I : T2} {J : T3} {a0 : Nat} {x1 : Int32} {x2 : Int32} {x3 : Int32} (hk_a0 : kd a0 = 8) (g1 : vp_in x2 (ln a0))
    (k : Ev d Z L xs mJ7_fill_53178 5 [some (.ref a0), some (.int x1), some (.int (x2 + 1)), some (.int x3)] [] (up2 I a0 x2.toNatClampNeg x1) J z Φ) : Ev d Z L xs mJ7_fill_53178 10 [some (.ref a0), some (.int x1), some (.int x2), some (.int x3)] [] I J z Φ := by
  refine Ev.blk (ops := [o0 (.aload_n 0) 1, o0 (.iload_n 2) 1, o0 (.iload_n 1) 1, o0 (.iastore) 1, oI (.iinc 2 1) 3 1, oK (.goto (-12)) 3 5 0]) (G := True ∧ True ∧ True ∧ (kd a0 = 8 ∧ vp_in x2 (ln a0)) ∧ True ∧ True ∧ True) (by decide +kernel) ?_ ⟨trivial, trivial, trivial, ⟨hk_a0, g1⟩, trivial, trivial, trivial⟩ k
  rfl
