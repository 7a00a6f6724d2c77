theorem BJ9_floorMod_7cf53_0 {d Z L : Nat} {xs : Nat → Int32} {z : Nat} {Φ : Out → T2 → T3 → Nat → Prop} {I : T2} {J : T3} {x0 : Int32} {x1 : Int32}  (g1 : ¬ x1 = (0 : Int32))
    (k : Ev d Z L xs mJ9_floorMod_7cf53 7 [some (.int x0), some (.int x1), some (.int (x0 - x0 / x1 * x1))] [.int (x0 ^^^ x1)] I J z Φ) : Ev d Z L xs mJ9_floorMod_7cf53 0 [some (.int x0), some (.int x1), none] [] I J z Φ := by
  refine Ev.blk (ops := [o0 (.iload_n 0) 1, o0 (.iload_n 1) 1, o0 (.irem) 1, o0 (.istore_n 2) 1, o0 (.iload_n 0) 1, o0 (.iload_n 1) 1, o0 (.ixor) 1]) (G := True ∧ True ∧ (¬ x1 = (0 : Int32)) ∧ True ∧ True ∧ True ∧ True ∧ True) (by decide +kernel) ?_ ⟨trivial, trivial, g1, trivial, trivial, trivial, trivial, trivial⟩ k
  rfl
theorem BJ9_floorMod_7cf53_10 {d Z L : Nat} {xs : Nat → Int32} {z : Nat} {Φ : Out → T2 → T3 → Nat → Prop} {I : T2} {J : T3} {x0 : Int32} {x1 : Int32} {x2 : Int32}  
    (k : Ev d Z L xs mJ9_floorMod_7cf53 11 [some (.int x0), some (.int x1), some (.int x2)] [.int x2] I J z Φ) : Ev d Z L xs mJ9_floorMod_7cf53 10 [some (.int x0), some (.int x1), some (.int x2)] [] I J z Φ := by
  refine Ev.blk (ops := [o0 (.iload_n 2) 1]) (G := True ∧ True) (by decide +kernel) ?_ ⟨trivial, trivial⟩ k
  rfl
theorem BJ9_floorMod_7cf53_14 {d Z L : Nat} {xs : Nat → Int32} {z : Nat} {Φ : Out → T2 → T3 → Nat → Prop} {I : T2} {J : T3} {x0 : Int32} {x1 : Int32} {x2 : Int32}  
    (k : Ev d Z L xs mJ9_floorMod_7cf53 17 [some (.int x0), some (.int x1), some (.int x2)] [.int (x2 + x1)] I J z Φ) : Ev d Z L xs mJ9_floorMod_7cf53 14 [some (.int x0), some (.int x1), some (.int x2)] [] I J z Φ := by
  refine Ev.blk (ops := [o0 (.iload_n 2) 1, o0 (.iload_n 1) 1, o0 (.iadd) 1]) (G := True ∧ True ∧ True ∧ True) (by decide +kernel) ?_ ⟨trivial, trivial, trivial, trivial⟩ k
  rfl
theorem BJ9_floorMod_7cf53_18 {d Z L : Nat} {xs : Nat → Int32} {z : Nat} {Φ : Out → T2 → T3 → Nat → Prop} {I : T2} {J : T3} {x0 : Int32} {x1 : Int32} {x2 : Int32}  
    (k : Ev d Z L xs mJ9_floorMod_7cf53 19 [some (.int x0), some (.int x1), some (.int x2)] [.int x2] I J z Φ) : Ev d Z L xs mJ9_floorMod_7cf53 18 [some (.int x0), some (.int x1), some (.int x2)] [] I J z Φ := by
  refine Ev.blk (ops := [o0 (.iload_n 2) 1]) (G := True ∧ True) (by decide +kernel) ?_ ⟨trivial, trivial⟩ k
  rfl
theorem BJ9_max_f86c9_0 {d Z L : Nat} {xs : Nat → Int32} {z : Nat} {Φ : Out → T2 → T3 → Nat → Prop} {I : T2} {J : T3} {y0 : Int64} {y2 : Int64}  
    (k : Ev d Z L xs mJ9_max_f86c9 3 [some (.long y0), none, some (.long y2), none] [.int (lg_cmp y0 y2)] I J z Φ) : Ev d Z L xs mJ9_max_f86c9 0 [some (.long y0), none, some (.long y2), none] [] I J z Φ := by
  refine Ev.blk (ops := [o0 (.lload_n 0) 1, o0 (.lload_n 2) 1, o0 (.lcmp) 1]) (G := True ∧ True ∧ True ∧ True) (by decide +kernel) ?_ ⟨trivial, trivial, trivial, trivial⟩ k
  rfl
theorem BJ9_max_f86c9_6 {d Z L : Nat} {xs : Nat → Int32} {z : Nat} {Φ : Out → T2 → T3 → Nat → Prop} {I : T2} {J : T3} {y0 : Int64} {y2 : Int64}  
    (k : Ev d Z L xs mJ9_max_f86c9 11 [some (.long y0), none, some (.long y2), none] [.long y0] I J z Φ) : Ev d Z L xs mJ9_max_f86c9 6 [some (.long y0), none, some (.long y2), none] [] I J z Φ := by
  refine Ev.blk (ops := [o0 (.lload_n 0) 1, oK (.goto 4) 3 11 0]) (G := True ∧ True ∧ True) (by decide +kernel) ?_ ⟨trivial, trivial, trivial⟩ k
  rfl
theorem BJ9_max_f86c9_10 {d Z L : Nat} {xs : Nat → Int32} {z : Nat} {Φ : Out → T2 → T3 → Nat → Prop} {I : T2} {J : T3} {y0 : Int64} {y2 : Int64}  
    (k : Ev d Z L xs mJ9_max_f86c9 11 [some (.long y0), none, some (.long y2), none] [.long y2] I J z Φ) : Ev d Z L xs mJ9_max_f86c9 10 [some (.long y0), none, some (.long y2), none] [] I J z Φ := by
  refine Ev.blk (ops := [o0 (.lload_n 2) 1]) (G := True ∧ True) (by decide +kernel) ?_ ⟨trivial, trivial⟩ k
  rfl
theorem BJ9_min_7cf53_0 {d Z L : Nat} {xs : Nat → Int32} {z : Nat} {Φ : Out → T2 → T3 → Nat → Prop} {I : T2} {J : T3} {x0 : Int32} {x1 : Int32}  
    (k : Ev d Z L xs mJ9_min_7cf53 2 [some (.int x0), some (.int x1)] [.int x1, .int x0] I J z Φ) : Ev d Z L xs mJ9_min_7cf53 0 [some (.int x0), some (.int x1)] [] I J z Φ := by
  refine Ev.blk (ops := [o0 (.iload_n 0) 1, o0 (.iload_n 1) 1]) (G := True ∧ True ∧ True) (by decide +kernel) ?_ ⟨trivial, trivial, trivial⟩ k
  rfl
theorem BJ9_min_7cf53_5 {d Z L : Nat} {xs : Nat → Int32} {z : Nat} {Φ : Out → T2 → T3 → Nat → Prop} {I : T2} {J : T3} {x0 : Int32} {x1 : Int32}  
    (k : Ev d Z L xs mJ9_min_7cf53 10 [some (.int x0), some (.int x1)] [.int x0] I J z Φ) : Ev d Z L xs mJ9_min_7cf53 5 [some (.int x0), some (.int x1)] [] I J z Φ := by
  refine Ev.blk (ops := [o0 (.iload_n 0) 1, oK (.goto 4) 3 10 0]) (G := True ∧ True ∧ True) (by decide +kernel) ?_ ⟨trivial, trivial, trivial⟩ k
  rfl
theorem BJ9_min_7cf53_9 {d Z L : Nat} {xs : Nat → Int32} {z : Nat} {Φ : Out → T2 → T3 → Nat → Prop} {I : T2} {J : T3} {x0 : Int32} {x1 : Int32}  
    (k : Ev d Z L xs mJ9_min_7cf53 10 [some (.int x0), some (.int x1)] [.int x1] I J z Φ) : Ev d Z L xs mJ9_min_7cf53 9 [some (.int x0), some (.int x1)] [] I J z Φ := by
  refine Ev.blk (ops := [o0 (.iload_n 1) 1]) (G := True ∧ True) (by decide +kernel) ?_ ⟨trivial, trivial⟩ k
  rfl
theorem BJ9_max_7cf53_0 {d Z L : Nat} {xs : Nat → Int32} {z : Nat} {Φ : Out → T2 → T3 → Nat → Prop} {I : T2} {J : T3} {x0 : Int32} {x1 : Int32}  
    (k : Ev d Z L xs mJ9_max_7cf53 2 [some (.int x0), some (.int x1)] [.int x1, .int x0] I J z Φ) : Ev d Z L xs mJ9_max_7cf53 0 [some (.int x0), some (.int x1)] [] I J z Φ := by
  refine Ev.blk (ops := [o0 (.iload_n 0) 1, o0 (.iload_n 1) 1]) (G := True ∧ True ∧ True) (by decide +kernel) ?_ ⟨trivial, trivial, trivial⟩ k
  rfl
theorem BJ9_max_7cf53_5 {d Z L : Nat} {xs : Nat → Int32} {z : Nat} {Φ : Out → T2 → T3 → Nat → Prop} {I : T2} {J : T3} {x0 : Int32} {x1 : Int32}  
    (k : Ev d Z L xs mJ9_max_7cf53 10 [some (.int x0), some (.int x1)] [.int x0] I J z Φ) : Ev d Z L xs mJ9_max_7cf53 5 [some (.int x0), some (.int x1)] [] I J z Φ := by
  refine Ev.blk (ops := [o0 (.iload_n 0) 1, oK (.goto 4) 3 10 0]) (G := True ∧ True ∧ True) (by decide +kernel) ?_ ⟨trivial, trivial, trivial⟩ k
  rfl
theorem BJ9_max_7cf53_9 {d Z L : Nat} {xs : Nat → Int32} {z : Nat} {Φ : Out → T2 → T3 → Nat → Prop} {I : T2} {J : T3} {x0 : Int32} {x1 : Int32}  
    (k : Ev d Z L xs mJ9_max_7cf53 10 [some (.int x0), some (.int x1)] [.int x1] I J z Φ) : Ev d Z L xs mJ9_max_7cf53 9 [some (.int x0), some (.int x1)] [] I J z Φ := by
  refine Ev.blk (ops := [o0 (.iload_n 1) 1]) (G := True ∧ True) (by decide +kernel) ?_ ⟨trivial, trivial⟩ k
  rfl
theorem BJ9_min_f86c9_0 {d Z L : Nat} {xs : Nat → Int32} {z : Nat} {Φ : Out → T2 → T3 → Nat → Prop} {I : T2} {J : T3} {y0 : Int64} {y2 : Int64}  
    (k : Ev d Z L xs mJ9_min_f86c9 3 [some (.long y0), none, some (.long y2), none] [.int (lg_cmp y0 y2)] I J z Φ) : Ev d Z L xs mJ9_min_f86c9 0 [some (.long y0), none, some (.long y2), none] [] I J z Φ := by
  refine Ev.blk (ops := [o0 (.lload_n 0) 1, o0 (.lload_n 2) 1, o0 (.lcmp) 1]) (G := True ∧ True ∧ True ∧ True) (by decide +kernel) ?_ ⟨trivial, trivial, trivial, trivial⟩ k
  rfl
theorem BJ9_min_f86c9_6 {d Z L : Nat} {xs : Nat → Int32} {z : Nat} {Φ : Out → T2 → T3 → Nat → Prop} {I : T2} {J : T3} {y0 : Int64} {y2 : Int64}  
    (k : Ev d Z L xs mJ9_min_f86c9 11 [some (.long y0), none, some (.long y2), none] [.long y0] I J z Φ) : Ev d Z L xs mJ9_min_f86c9 6 [some (.long y0), none, some (.long y2), none] [] I J z Φ := by
  refine Ev.blk (ops := [o0 (.lload_n 0) 1, oK (.goto 4) 3 11 0]) (G := True ∧ True ∧ True) (by decide +kernel) ?_ ⟨trivial, trivial, trivial⟩ k
  rfl
theorem BJ9_min_f86c9_10 {d Z L : Nat} {xs : Nat → Int32} {z : Nat} {Φ : Out → T2 → T3 → Nat → Prop} {I : T2} {J : T3} {y0 : Int64} {y2 : Int64}  
    (k : Ev d Z L xs mJ9_min_f86c9 11 [some (.long y0), none, some (.long y2), none] [.long y2] I J z Φ) : Ev d Z L xs mJ9_min_f86c9 10 [some (.long y0), none, some (.long y2), none] [] I J z Φ := by
  refine Ev.blk (ops := [o0 (.lload_n 2) 1]) (G := True ∧ True) (by decide +kernel) ?_ ⟨trivial, trivial⟩ k
  rfl
