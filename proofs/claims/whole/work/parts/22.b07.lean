theorem BX7_init_0 {d Z L : Nat} {xs : Nat → Int32} {z : Nat} {Φ : Out → T2 → T3 → Nat → Prop} {I : T2} {J : T3}   
    (k : Ev d Z L xs mX7_init 1 [some (.ref 136)] [.ref 136] I J z Φ) : Ev d Z L xs mX7_init 0 [some (.ref 136)] [] I J z Φ := by
  refine Ev.blk (ops := [o0 (.aload_n 0) 1]) (G := True ∧ True) (by decide +kernel) ?_ ⟨trivial, trivial⟩ k
  rfl
theorem BX7_init_4 {d Z L : Nat} {xs : Nat → Int32} {z : Nat} {Φ : Out → T2 → T3 → Nat → Prop} {I : T2} {J : T3}   
    (k : Ev d Z L xs mX7_init 6 [some (.ref 136)] [.int 3, .ref 136] I J z Φ) : Ev d Z L xs mX7_init 4 [some (.ref 136)] [] I J z Φ := by
  refine Ev.blk (ops := [o0 (.aload_n 0) 1, oI (.iconst 3) 1 3]) (G := True ∧ True ∧ True) (by decide +kernel) ?_ ⟨trivial, trivial, trivial⟩ k
  rfl
theorem BX7_begin_0 {d Z L : Nat} {xs : Nat → Int32} {z : Nat} {Φ : Out → T2 → T3 → Nat → Prop} {I : T2} {J : T3} {x1 : Int32} {x2 : Int32} {x3 : Int32} {x4 : Int32}  (g1 : ¬ x2.toInt64 = (0 : Int64))
    (k : Ev d Z L xs mX7_begin 58 [some (.ref 136), some (.int x1), some (.int x2), some (.int x3), some (.int x4), none] [.int ((up2 (up2 (up2 (up2 (up2 (up2 (up2 I 136 1 x1) 136 2 x2) 136 3 x3) 136 4 x4) 136 6 0) 136 7 0) 136 8 ((((up3 J 136 5 x3.toInt64) 136 5) / x2.toInt64).toInt32)) 136 8), .int 0, .ref 137] (up2 (up2 (up2 (up2 (up2 (up2 (up2 I 136 1 x1) 136 2 x2) 136 3 x3) 136 4 x4) 136 6 0) 136 7 0) 136 8 ((((up3 J 136 5 x3.toInt64) 136 5) / x2.toInt64).toInt32)) (up3 J 136 5 x3.toInt64) z Φ) : Ev d Z L xs mX7_begin 0 [some (.ref 136), some (.int x1), some (.int x2), some (.int x3), some (.int x4), none] [] I J z Φ := by
  refine Ev.blk (ops := [o0 (.aload_n 0) 1, o0 (.iload_n 1) 1, oK (.putfield 83) 3 7 1, o0 (.aload_n 0) 1, o0 (.iload_n 2) 1, oK (.putfield 86) 3 7 2, o0 (.aload_n 0) 1, o0 (.iload_n 3) 1, oK (.putfield 89) 3 7 3, o0 (.aload_n 0) 1, o0 (.iload 4) 2, oK (.putfield 92) 3 7 4, o0 (.aload_n 0) 1, o0 (.iload_n 3) 1, o0 (.i2l) 1, oK (.putfield 95) 3 7 5, o0 (.aload_n 0) 1, oI (.iconst 0) 1 0, oK (.putfield 99) 3 7 6, o0 (.aload_n 0) 1, oI (.iconst 0) 1 0, oK (.putfield 102) 3 7 7, o0 (.aload_n 0) 1, o0 (.aload_n 0) 1, oK (.getfield 95) 3 7 5, o0 (.iload_n 2) 1, o0 (.i2l) 1, o0 (.ldiv) 1, o0 (.l2i) 1, oK (.putfield 106) 3 7 8, o0 (.aload_n 0) 1, oK (.getfield 7) 3 7 9, oI (.iconst 0) 1 0, o0 (.aload_n 0) 1, oK (.getfield 106) 3 7 8]) (G := True ∧ True ∧ (kd 136 = 7) ∧ True ∧ True ∧ (kd 136 = 7) ∧ True ∧ True ∧ (kd 136 = 7) ∧ True ∧ True ∧ (kd 136 = 7) ∧ True ∧ True ∧ True ∧ (kd 136 = 7) ∧ True ∧ True ∧ (kd 136 = 7) ∧ True ∧ True ∧ (kd 136 = 7 ∧ (0 = (0 : Int32) ∨ 0 = (1 : Int32))) ∧ True ∧ True ∧ (kd 136 = 7) ∧ True ∧ True ∧ (¬ x2.toInt64 = (0 : Int64)) ∧ True ∧ (kd 136 = 7) ∧ True ∧ (kd 136 = 7) ∧ True ∧ True ∧ (kd 136 = 7) ∧ True) (by decide +kernel) ?_ ⟨trivial, trivial, (by decide), trivial, trivial, (by decide), trivial, trivial, (by decide), trivial, trivial, (by decide), trivial, trivial, trivial, (by decide), trivial, trivial, (by decide), trivial, trivial, ⟨(by decide), Or.inl rfl⟩, trivial, trivial, (by decide), trivial, trivial, g1, trivial, (by decide), trivial, (by decide), trivial, trivial, (by decide), trivial⟩ k
  rfl
theorem BX7_begin_61 {d Z L : Nat} {xs : Nat → Int32} {z : Nat} {Φ : Out → T2 → T3 → Nat → Prop} {I : T2} {J : T3} {x1 : Int32} {x2 : Int32} {x3 : Int32} {x4 : Int32} {as0 : Nat} {xs1 : Int32}  
    (k : Ev d Z L xs mX7_begin 66 [some (.ref 136), some (.int x1), some (.int x2), some (.int x3), some (.int x4), none] [.int x1, .int xs1, .ref as0] I J z Φ) : Ev d Z L xs mX7_begin 61 [some (.ref 136), some (.int x1), some (.int x2), some (.int x3), some (.int x4), none] [.int xs1, .ref as0] I J z Φ := by
  refine Ev.blk (ops := [o0 (.iload_n 1) 1, oK (.goto 4) 3 66 0]) (G := True ∧ True ∧ True) (by decide +kernel) ?_ ⟨trivial, trivial, trivial⟩ k
  rfl
theorem BX7_begin_65 {d Z L : Nat} {xs : Nat → Int32} {z : Nat} {Φ : Out → T2 → T3 → Nat → Prop} {I : T2} {J : T3} {x1 : Int32} {x2 : Int32} {x3 : Int32} {x4 : Int32} {as0 : Nat} {xs1 : Int32}  
    (k : Ev d Z L xs mX7_begin 66 [some (.ref 136), some (.int x1), some (.int x2), some (.int x3), some (.int x4), none] [.int 0, .int xs1, .ref as0] I J z Φ) : Ev d Z L xs mX7_begin 65 [some (.ref 136), some (.int x1), some (.int x2), some (.int x3), some (.int x4), none] [.int xs1, .ref as0] I J z Φ := by
  refine Ev.blk (ops := [oI (.iconst 0) 1 0]) (G := True ∧ True) (by decide +kernel) ?_ ⟨trivial, trivial⟩ k
  rfl
theorem BX7_begin_66 {d Z L : Nat} {xs : Nat → Int32} {z : Nat} {Φ : Out → T2 → T3 → Nat → Prop} {I : T2} {J : T3} {x1 : Int32} {x2 : Int32} {x3 : Int32} {x4 : Int32} {as0 : Nat} {xs1 : Int32} {xs2 : Int32} (hk_as0 : kd as0 = 8) (g1 : vp_in xs1 (ln as0)) (g2 : vp_in 1 3) (g3 : vp_in 2 3)
    (k : Ev d Z L xs mX7_begin 84 [some (.ref 136), some (.int x1), some (.int x2), some (.int x3), some (.int x4), some (.int 0)] [] (up2 (up2 (up2 I as0 xs1.toNatClampNeg xs2) 137 (1 : Int32).toNatClampNeg x1) 137 (2 : Int32).toNatClampNeg x1) J z Φ) : Ev d Z L xs mX7_begin 66 [some (.ref 136), some (.int x1), some (.int x2), some (.int x3), some (.int x4), none] [.int xs2, .int xs1, .ref as0] I J z Φ := by
  refine Ev.blk (ops := [o0 (.iastore) 1, o0 (.aload_n 0) 1, oK (.getfield 7) 3 7 9, oI (.iconst 1) 1 1, o0 (.iload_n 1) 1, o0 (.iastore) 1, o0 (.aload_n 0) 1, oK (.getfield 7) 3 7 9, oI (.iconst 2) 1 2, o0 (.iload_n 1) 1, o0 (.iastore) 1, oI (.iconst 0) 1 0, o0 (.istore 5) 2]) (G := (kd as0 = 8 ∧ vp_in xs1 (ln as0)) ∧ True ∧ (kd 136 = 7) ∧ True ∧ True ∧ (kd 137 = 8 ∧ vp_in 1 (ln 137)) ∧ True ∧ (kd 136 = 7) ∧ True ∧ True ∧ (kd 137 = 8 ∧ vp_in 2 (ln 137)) ∧ True ∧ True ∧ True) (by decide +kernel) ?_ ⟨⟨hk_as0, g1⟩, trivial, (by decide), trivial, trivial, ⟨(by decide), g2⟩, trivial, (by decide), trivial, trivial, ⟨(by decide), g3⟩, trivial, trivial, trivial⟩ k
  rfl
theorem BX7_begin_84 {d Z L : Nat} {xs : Nat → Int32} {z : Nat} {Φ : Out → T2 → T3 → Nat → Prop} {I : T2} {J : T3} {x1 : Int32} {x2 : Int32} {x3 : Int32} {x4 : Int32} {x5 : Int32}  
    (k : Ev d Z L xs mX7_begin 88 [some (.ref 136), some (.int x1), some (.int x2), some (.int x3), some (.int x4), some (.int x5)] [.int 24, .int x5] I J z Φ) : Ev d Z L xs mX7_begin 84 [some (.ref 136), some (.int x1), some (.int x2), some (.int x3), some (.int x4), some (.int x5)] [] I J z Φ := by
  refine Ev.blk (ops := [o0 (.iload 5) 2, oI (.bipush 24) 2 24]) (G := True ∧ True ∧ True) (by decide +kernel) ?_ ⟨trivial, trivial, trivial⟩ k
  rfl
theorem BX7_begin_91 {d Z L : Nat} {xs : Nat → Int32} {z : Nat} {Φ : Out → T2 → T3 → Nat → Prop} {I : T2} {J : T3} {x1 : Int32} {x2 : Int32} {x3 : Int32} {x4 : Int32} {x5 : Int32}  (g1 : vp_in x5 24)
    (k : Ev d Z L xs mX7_begin 84 [some (.ref 136), some (.int x1), some (.int x2), some (.int x3), some (.int x4), some (.int (x5 + 1))] [] (up2 (up2 (up2 (up2 (up2 I 138 x5.toNatClampNeg 0) 139 x5.toNatClampNeg 0) 144 x5.toNatClampNeg 0) 145 x5.toNatClampNeg 0) 146 x5.toNatClampNeg 0) J z Φ) : Ev d Z L xs mX7_begin 91 [some (.ref 136), some (.int x1), some (.int x2), some (.int x3), some (.int x4), some (.int x5)] [] I J z Φ := by
  refine Ev.blk (ops := [o0 (.aload_n 0) 1, oK (.getfield 13) 3 7 10, o0 (.iload 5) 2, oI (.iconst 0) 1 0, o0 (.iastore) 1, o0 (.aload_n 0) 1, oK (.getfield 16) 3 7 11, o0 (.iload 5) 2, oI (.iconst 0) 1 0, o0 (.iastore) 1, o0 (.aload_n 0) 1, oK (.getfield 33) 3 7 16, o0 (.iload 5) 2, oI (.iconst 0) 1 0, o0 (.iastore) 1, o0 (.aload_n 0) 1, oK (.getfield 36) 3 7 17, o0 (.iload 5) 2, oI (.iconst 0) 1 0, o0 (.iastore) 1, o0 (.aload_n 0) 1, oK (.getfield 39) 3 7 18, o0 (.iload 5) 2, oI (.iconst 0) 1 0, o0 (.iastore) 1, oI (.iinc 5 1) 3 1, oK (.goto (-50)) 3 84 0]) (G := True ∧ (kd 136 = 7) ∧ True ∧ True ∧ (kd 138 = 8 ∧ vp_in x5 (ln 138)) ∧ True ∧ (kd 136 = 7) ∧ True ∧ True ∧ (kd 139 = 8 ∧ vp_in x5 (ln 139)) ∧ True ∧ (kd 136 = 7) ∧ True ∧ True ∧ (kd 144 = 8 ∧ vp_in x5 (ln 144)) ∧ True ∧ (kd 136 = 7) ∧ True ∧ True ∧ (kd 145 = 8 ∧ vp_in x5 (ln 145)) ∧ True ∧ (kd 136 = 7) ∧ True ∧ True ∧ (kd 146 = 8 ∧ vp_in x5 (ln 146)) ∧ True ∧ True ∧ True) (by decide +kernel) ?_ ⟨trivial, (by decide), trivial, trivial, ⟨(by decide), g1⟩, trivial, (by decide), trivial, trivial, ⟨(by decide), g1⟩, trivial, (by decide), trivial, trivial, ⟨(by decide), g1⟩, trivial, (by decide), trivial, trivial, ⟨(by decide), g1⟩, trivial, (by decide), trivial, trivial, ⟨(by decide), g1⟩, trivial, trivial, trivial⟩ k
  rfl
theorem BX7_begin_137 {d Z L : Nat} {xs : Nat → Int32} {z : Nat} {Φ : Out → T2 → T3 → Nat → Prop} {I : T2} {J : T3} {x1 : Int32} {x2 : Int32} {x3 : Int32} {x4 : Int32} {x5 : Int32}  
    (k : Ev d Z L xs mX7_begin 140 [some (.ref 136), some (.int x1), some (.int x2), some (.int x3), some (.int x4), some (.int 0)] [] I J z Φ) : Ev d Z L xs mX7_begin 137 [some (.ref 136), some (.int x1), some (.int x2), some (.int x3), some (.int x4), some (.int x5)] [] I J z Φ := by
  refine Ev.blk (ops := [oI (.iconst 0) 1 0, o0 (.istore 5) 2]) (G := True ∧ True ∧ True) (by decide +kernel) ?_ ⟨trivial, trivial, trivial⟩ k
  rfl
theorem BX7_begin_140 {d Z L : Nat} {xs : Nat → Int32} {z : Nat} {Φ : Out → T2 → T3 → Nat → Prop} {I : T2} {J : T3} {x1 : Int32} {x2 : Int32} {x3 : Int32} {x4 : Int32} {x5 : Int32}  
    (k : Ev d Z L xs mX7_begin 144 [some (.ref 136), some (.int x1), some (.int x2), some (.int x3), some (.int x4), some (.int x5)] [.int 8, .int x5] I J z Φ) : Ev d Z L xs mX7_begin 140 [some (.ref 136), some (.int x1), some (.int x2), some (.int x3), some (.int x4), some (.int x5)] [] I J z Φ := by
  refine Ev.blk (ops := [o0 (.iload 5) 2, oI (.bipush 8) 2 8]) (G := True ∧ True ∧ True) (by decide +kernel) ?_ ⟨trivial, trivial, trivial⟩ k
  rfl
theorem BX7_begin_147 {d Z L : Nat} {xs : Nat → Int32} {z : Nat} {Φ : Out → T2 → T3 → Nat → Prop} {I : T2} {J : T3} {x1 : Int32} {x2 : Int32} {x3 : Int32} {x4 : Int32} {x5 : Int32}  (g1 : vp_in x5 8)
    (k : Ev d Z L xs mX7_begin 140 [some (.ref 136), some (.int x1), some (.int x2), some (.int x3), some (.int x4), some (.int (x5 + 1))] [] (up2 (up2 (up2 I 140 x5.toNatClampNeg 0) 142 x5.toNatClampNeg ((up2 I 140 x5.toNatClampNeg 0) 136 8)) 143 x5.toNatClampNeg 0) (up3 J 141 x5.toNatClampNeg (J 136 5)) z Φ) : Ev d Z L xs mX7_begin 147 [some (.ref 136), some (.int x1), some (.int x2), some (.int x3), some (.int x4), some (.int x5)] [] I J z Φ := by
  refine Ev.blk (ops := [o0 (.aload_n 0) 1, oK (.getfield 19) 3 7 12, o0 (.iload 5) 2, oI (.iconst 0) 1 0, o0 (.iastore) 1, o0 (.aload_n 0) 1, oK (.getfield 22) 3 7 13, o0 (.iload 5) 2, o0 (.aload_n 0) 1, oK (.getfield 95) 3 7 5, o0 (.lastore) 1, o0 (.aload_n 0) 1, oK (.getfield 26) 3 7 14, o0 (.iload 5) 2, o0 (.aload_n 0) 1, oK (.getfield 106) 3 7 8, o0 (.iastore) 1, o0 (.aload_n 0) 1, oK (.getfield 29) 3 7 15, o0 (.iload 5) 2, oI (.iconst 0) 1 0, o0 (.bastore) 1, oI (.iinc 5 1) 3 1, oK (.goto (-48)) 3 140 0]) (G := True ∧ (kd 136 = 7) ∧ True ∧ True ∧ (kd 140 = 8 ∧ vp_in x5 (ln 140)) ∧ True ∧ (kd 136 = 7) ∧ True ∧ True ∧ (kd 136 = 7) ∧ (kd 141 = 9 ∧ vp_in x5 (ln 141)) ∧ True ∧ (kd 136 = 7) ∧ True ∧ True ∧ (kd 136 = 7) ∧ (kd 142 = 8 ∧ vp_in x5 (ln 142)) ∧ True ∧ (kd 136 = 7) ∧ True ∧ True ∧ (kd 143 = 10 ∧ vp_in x5 (ln 143) ∧ (0 = (0 : Int32) ∨ 0 = (1 : Int32))) ∧ True ∧ True ∧ True) (by decide +kernel) ?_ ⟨trivial, (by decide), trivial, trivial, ⟨(by decide), g1⟩, trivial, (by decide), trivial, trivial, (by decide), ⟨(by decide), g1⟩, trivial, (by decide), trivial, trivial, (by decide), ⟨(by decide), g1⟩, trivial, (by decide), trivial, trivial, ⟨(by decide), g1, Or.inl rfl⟩, trivial, trivial, trivial⟩ k
  rfl
theorem BX7_begin_191 {d Z L : Nat} {xs : Nat → Int32} {z : Nat} {Φ : Out → T2 → T3 → Nat → Prop} {I : T2} {J : T3} {x1 : Int32} {x2 : Int32} {x3 : Int32} {x4 : Int32} {x5 : Int32}  
    (k : Ev d Z L xs mX7_begin 194 [some (.ref 136), some (.int x1), some (.int x2), some (.int x3), some (.int x4), some (.int 0)] [] I J z Φ) : Ev d Z L xs mX7_begin 191 [some (.ref 136), some (.int x1), some (.int x2), some (.int x3), some (.int x4), some (.int x5)] [] I J z Φ := by
  refine Ev.blk (ops := [oI (.iconst 0) 1 0, o0 (.istore 5) 2]) (G := True ∧ True ∧ True) (by decide +kernel) ?_ ⟨trivial, trivial, trivial⟩ k
  rfl
theorem BX7_begin_194 {d Z L : Nat} {xs : Nat → Int32} {z : Nat} {Φ : Out → T2 → T3 → Nat → Prop} {I : T2} {J : T3} {x1 : Int32} {x2 : Int32} {x3 : Int32} {x4 : Int32} {x5 : Int32}  
    (k : Ev d Z L xs mX7_begin 198 [some (.ref 136), some (.int x1), some (.int x2), some (.int x3), some (.int x4), some (.int x5)] [.int 16, .int x5] I J z Φ) : Ev d Z L xs mX7_begin 194 [some (.ref 136), some (.int x1), some (.int x2), some (.int x3), some (.int x4), some (.int x5)] [] I J z Φ := by
  refine Ev.blk (ops := [o0 (.iload 5) 2, oI (.bipush 16) 2 16]) (G := True ∧ True ∧ True) (by decide +kernel) ?_ ⟨trivial, trivial, trivial⟩ k
  rfl
theorem BX7_begin_201 {d Z L : Nat} {xs : Nat → Int32} {z : Nat} {Φ : Out → T2 → T3 → Nat → Prop} {I : T2} {J : T3} {x1 : Int32} {x2 : Int32} {x3 : Int32} {x4 : Int32} {x5 : Int32}  (g1 : vp_in x5 16)
    (k : Ev d Z L xs mX7_begin 194 [some (.ref 136), some (.int x1), some (.int x2), some (.int x3), some (.int x4), some (.int (x5 + 1))] [] (up2 (up2 (up2 I 148 x5.toNatClampNeg 0) 149 x5.toNatClampNeg 0) 150 x5.toNatClampNeg 0) J z Φ) : Ev d Z L xs mX7_begin 201 [some (.ref 136), some (.int x1), some (.int x2), some (.int x3), some (.int x4), some (.int x5)] [] I J z Φ := by
  refine Ev.blk (ops := [o0 (.aload_n 0) 1, oK (.getfield 45) 3 7 20, o0 (.iload 5) 2, oI (.iconst 0) 1 0, o0 (.iastore) 1, o0 (.aload_n 0) 1, oK (.getfield 48) 3 7 21, o0 (.iload 5) 2, oI (.iconst 0) 1 0, o0 (.iastore) 1, o0 (.aload_n 0) 1, oK (.getfield 51) 3 7 22, o0 (.iload 5) 2, oI (.iconst 0) 1 0, o0 (.iastore) 1, oI (.iinc 5 1) 3 1, oK (.goto (-34)) 3 194 0]) (G := True ∧ (kd 136 = 7) ∧ True ∧ True ∧ (kd 148 = 8 ∧ vp_in x5 (ln 148)) ∧ True ∧ (kd 136 = 7) ∧ True ∧ True ∧ (kd 149 = 8 ∧ vp_in x5 (ln 149)) ∧ True ∧ (kd 136 = 7) ∧ True ∧ True ∧ (kd 150 = 8 ∧ vp_in x5 (ln 150)) ∧ True ∧ True ∧ True) (by decide +kernel) ?_ ⟨trivial, (by decide), trivial, trivial, ⟨(by decide), g1⟩, trivial, (by decide), trivial, trivial, ⟨(by decide), g1⟩, trivial, (by decide), trivial, trivial, ⟨(by decide), g1⟩, trivial, trivial, trivial⟩ k
  rfl
theorem BX7_begin_231 {d Z L : Nat} {xs : Nat → Int32} {z : Nat} {Φ : Out → T2 → T3 → Nat → Prop} {I : T2} {J : T3} {x1 : Int32} {x2 : Int32} {x3 : Int32} {x4 : Int32} {x5 : Int32}  
    (k : Ev d Z L xs mX7_begin 239 [some (.ref 136), some (.int x1), some (.int x2), some (.int x3), some (.int x4), some (.int 0)] [] (up2 I 136 24 0) J z Φ) : Ev d Z L xs mX7_begin 231 [some (.ref 136), some (.int x1), some (.int x2), some (.int x3), some (.int x4), some (.int x5)] [] I J z Φ := by
  refine Ev.blk (ops := [o0 (.aload_n 0) 1, oI (.iconst 0) 1 0, oK (.putfield 109) 3 7 24, oI (.iconst 0) 1 0, o0 (.istore 5) 2]) (G := True ∧ True ∧ (kd 136 = 7) ∧ True ∧ True ∧ True) (by decide +kernel) ?_ ⟨trivial, trivial, (by decide), trivial, trivial, trivial⟩ k
  rfl
theorem BX7_begin_239 {d Z L : Nat} {xs : Nat → Int32} {z : Nat} {Φ : Out → T2 → T3 → Nat → Prop} {I : T2} {J : T3} {x1 : Int32} {x2 : Int32} {x3 : Int32} {x4 : Int32} {x5 : Int32}  
    (k : Ev d Z L xs mX7_begin 244 [some (.ref 136), some (.int x1), some (.int x2), some (.int x3), some (.int x4), some (.int x5)] [.int 200, .int x5] I J z Φ) : Ev d Z L xs mX7_begin 239 [some (.ref 136), some (.int x1), some (.int x2), some (.int x3), some (.int x4), some (.int x5)] [] I J z Φ := by
  refine Ev.blk (ops := [o0 (.iload 5) 2, oI (.sipush 200) 3 200]) (G := True ∧ True ∧ True) (by decide +kernel) ?_ ⟨trivial, trivial, trivial⟩ k
  rfl
theorem BX7_begin_247 {d Z L : Nat} {xs : Nat → Int32} {z : Nat} {Φ : Out → T2 → T3 → Nat → Prop} {I : T2} {J : T3} {x1 : Int32} {x2 : Int32} {x3 : Int32} {x4 : Int32} {x5 : Int32}  (g1 : vp_in x5 200)
    (k : Ev d Z L xs mX7_begin 239 [some (.ref 136), some (.int x1), some (.int x2), some (.int x3), some (.int x4), some (.int (x5 + 1))] [] (up2 I 152 x5.toNatClampNeg 0) J z Φ) : Ev d Z L xs mX7_begin 247 [some (.ref 136), some (.int x1), some (.int x2), some (.int x3), some (.int x4), some (.int x5)] [] I J z Φ := by
  refine Ev.blk (ops := [o0 (.aload_n 0) 1, oK (.getfield 57) 3 7 25, o0 (.iload 5) 2, oI (.iconst 0) 1 0, o0 (.iastore) 1, oI (.iinc 5 1) 3 1, oK (.goto (-19)) 3 239 0]) (G := True ∧ (kd 136 = 7) ∧ True ∧ True ∧ (kd 152 = 8 ∧ vp_in x5 (ln 152)) ∧ True ∧ True ∧ True) (by decide +kernel) ?_ ⟨trivial, (by decide), trivial, trivial, ⟨(by decide), g1⟩, trivial, trivial, trivial⟩ k
  rfl
theorem BX7_begin_261 {d Z L : Nat} {xs : Nat → Int32} {z : Nat} {Φ : Out → T2 → T3 → Nat → Prop} {I : T2} {J : T3} {x1 : Int32} {x2 : Int32} {x3 : Int32} {x4 : Int32} {x5 : Int32}  
    (k : Ev d Z L xs mX7_begin 266 [some (.ref 136), some (.int x1), some (.int x2), some (.int x3), some (.int x4), some (.int x5)] [] (up2 I 136 27 0) J z Φ) : Ev d Z L xs mX7_begin 261 [some (.ref 136), some (.int x1), some (.int x2), some (.int x3), some (.int x4), some (.int x5)] [] I J z Φ := by
  refine Ev.blk (ops := [o0 (.aload_n 0) 1, oI (.iconst 0) 1 0, oK (.putfield 112) 3 7 27]) (G := True ∧ True ∧ (kd 136 = 7) ∧ True) (by decide +kernel) ?_ ⟨trivial, trivial, (by decide), trivial⟩ k
  rfl
theorem BX7_thrown_0 {d Z L : Nat} {xs : Nat → Int32} {z : Nat} {Φ : Out → T2 → T3 → Nat → Prop} {I : T2} {J : T3}   
    (k : Ev d Z L xs mX7_thrown 4 [some (.ref 136)] [.int (I 136 0)] I J z Φ) : Ev d Z L xs mX7_thrown 0 [some (.ref 136)] [] I J z Φ := by
  refine Ev.blk (ops := [o0 (.aload_n 0) 1, oK (.getfield 79) 3 7 0]) (G := True ∧ (kd 136 = 7) ∧ True) (by decide +kernel) ?_ ⟨trivial, (by decide), trivial⟩ k
  rfl
theorem BX7_setup_0 {d Z L : Nat} {xs : Nat → Int32} {z : Nat} {Φ : Out → T2 → T3 → Nat → Prop} {I : T2} {J : T3} {x1 : Int32} {x2 : Int32} {x3 : Int32} {x4 : Int32}  
    (k : Ev d Z L xs mX7_setup 3 [some (.ref 136), some (.int x1), some (.int x2), some (.int x3), some (.int x4)] [.int 1, .int x1, .ref 136] I J z Φ) : Ev d Z L xs mX7_setup 0 [some (.ref 136), some (.int x1), some (.int x2), some (.int x3), some (.int x4)] [] I J z Φ := by
  refine Ev.blk (ops := [o0 (.aload_n 0) 1, o0 (.iload_n 1) 1, oI (.iconst 1) 1 1]) (G := True ∧ True ∧ True ∧ True) (by decide +kernel) ?_ ⟨trivial, trivial, trivial, trivial⟩ k
  rfl
theorem BX7_setup_6 {d Z L : Nat} {xs : Nat → Int32} {z : Nat} {Φ : Out → T2 → T3 → Nat → Prop} {I : T2} {J : T3} {x1 : Int32} {x2 : Int32} {x3 : Int32} {x4 : Int32}  
    (k : Ev d Z L xs mX7_setup 9 [some (.ref 136), some (.int x1), some (.int x2), some (.int x3), some (.int x4)] [.int 1000000, .int x1, .ref 136] I J z Φ) : Ev d Z L xs mX7_setup 6 [some (.ref 136), some (.int x1), some (.int x2), some (.int x3), some (.int x4)] [.ref 136] I J z Φ := by
  refine Ev.blk (ops := [o0 (.iload_n 1) 1, oI (.ldc 115) 2 1000000]) (G := True ∧ True ∧ True) (by decide +kernel) ?_ ⟨trivial, trivial, trivial⟩ k
  rfl
theorem BX7_setup_12 {d Z L : Nat} {xs : Nat → Int32} {z : Nat} {Φ : Out → T2 → T3 → Nat → Prop} {I : T2} {J : T3} {x1 : Int32} {x2 : Int32} {x3 : Int32} {x4 : Int32}  
    (k : Ev d Z L xs mX7_setup 14 [some (.ref 136), some (.int x1), some (.int x2), some (.int x3), some (.int x4)] [.int 2, .int x2, .ref 136] I J z Φ) : Ev d Z L xs mX7_setup 12 [some (.ref 136), some (.int x1), some (.int x2), some (.int x3), some (.int x4)] [.ref 136] I J z Φ := by
  refine Ev.blk (ops := [o0 (.iload_n 2) 1, oI (.iconst 2) 1 2]) (G := True ∧ True ∧ True) (by decide +kernel) ?_ ⟨trivial, trivial, trivial⟩ k
  rfl
theorem BX7_setup_17 {d Z L : Nat} {xs : Nat → Int32} {z : Nat} {Φ : Out → T2 → T3 → Nat → Prop} {I : T2} {J : T3} {x1 : Int32} {x2 : Int32} {x3 : Int32} {x4 : Int32}  
    (k : Ev d Z L xs mX7_setup 21 [some (.ref 136), some (.int x1), some (.int x2), some (.int x3), some (.int x4)] [.int 10000, .int x2, .ref 136] I J z Φ) : Ev d Z L xs mX7_setup 17 [some (.ref 136), some (.int x1), some (.int x2), some (.int x3), some (.int x4)] [.ref 136] I J z Φ := by
  refine Ev.blk (ops := [o0 (.iload_n 2) 1, oI (.sipush 10000) 3 10000]) (G := True ∧ True ∧ True) (by decide +kernel) ?_ ⟨trivial, trivial, trivial⟩ k
  rfl
theorem BX7_setup_24 {d Z L : Nat} {xs : Nat → Int32} {z : Nat} {Φ : Out → T2 → T3 → Nat → Prop} {I : T2} {J : T3} {x1 : Int32} {x2 : Int32} {x3 : Int32} {x4 : Int32}  
    (k : Ev d Z L xs mX7_setup 25 [some (.ref 136), some (.int x1), some (.int x2), some (.int x3), some (.int x4)] [.int x3, .ref 136] I J z Φ) : Ev d Z L xs mX7_setup 24 [some (.ref 136), some (.int x1), some (.int x2), some (.int x3), some (.int x4)] [.ref 136] I J z Φ := by
  refine Ev.blk (ops := [o0 (.iload_n 3) 1]) (G := True ∧ True) (by decide +kernel) ?_ ⟨trivial, trivial⟩ k
  rfl
theorem BX7_setup_28 {d Z L : Nat} {xs : Nat → Int32} {z : Nat} {Φ : Out → T2 → T3 → Nat → Prop} {I : T2} {J : T3} {x1 : Int32} {x2 : Int32} {x3 : Int32} {x4 : Int32}  
    (k : Ev d Z L xs mX7_setup 37 [some (.ref 136), some (.int x1), some (.int x2), some (.int x3), some (.int x4)] [.int (lg_cmp (2 * x3.toInt64) x2.toInt64), .ref 136] I J z Φ) : Ev d Z L xs mX7_setup 28 [some (.ref 136), some (.int x1), some (.int x2), some (.int x3), some (.int x4)] [.ref 136] I J z Φ := by
  refine Ev.blk (ops := [oL (.ldc2_w 116) 3 2, o0 (.iload_n 3) 1, o0 (.i2l) 1, o0 (.lmul) 1, o0 (.iload_n 2) 1, o0 (.i2l) 1, o0 (.lcmp) 1]) (G := True ∧ True ∧ True ∧ True ∧ True ∧ True ∧ True ∧ True) (by decide +kernel) ?_ ⟨trivial, trivial, trivial, trivial, trivial, trivial, trivial, trivial⟩ k
  rfl
theorem BX7_setup_40 {d Z L : Nat} {xs : Nat → Int32} {z : Nat} {Φ : Out → T2 → T3 → Nat → Prop} {I : T2} {J : T3} {x1 : Int32} {x2 : Int32} {x3 : Int32} {x4 : Int32}  
    (k : Ev d Z L xs mX7_setup 43 [some (.ref 136), some (.int x1), some (.int x2), some (.int x3), some (.int x4)] [.int 1, .int x4, .ref 136] I J z Φ) : Ev d Z L xs mX7_setup 40 [some (.ref 136), some (.int x1), some (.int x2), some (.int x3), some (.int x4)] [.ref 136] I J z Φ := by
  refine Ev.blk (ops := [o0 (.iload 4) 2, oI (.iconst 1) 1 1]) (G := True ∧ True ∧ True) (by decide +kernel) ?_ ⟨trivial, trivial, trivial⟩ k
  rfl
theorem BX7_setup_46 {d Z L : Nat} {xs : Nat → Int32} {z : Nat} {Φ : Out → T2 → T3 → Nat → Prop} {I : T2} {J : T3} {x1 : Int32} {x2 : Int32} {x3 : Int32} {x4 : Int32}  
    (k : Ev d Z L xs mX7_setup 50 [some (.ref 136), some (.int x1), some (.int x2), some (.int x3), some (.int x4)] [.int 8, .int x4, .ref 136] I J z Φ) : Ev d Z L xs mX7_setup 46 [some (.ref 136), some (.int x1), some (.int x2), some (.int x3), some (.int x4)] [.ref 136] I J z Φ := by
  refine Ev.blk (ops := [o0 (.iload 4) 2, oI (.bipush 8) 2 8]) (G := True ∧ True ∧ True) (by decide +kernel) ?_ ⟨trivial, trivial, trivial⟩ k
  rfl
theorem BX7_setup_53 {d Z L : Nat} {xs : Nat → Int32} {z : Nat} {Φ : Out → T2 → T3 → Nat → Prop} {I : T2} {J : T3} {x1 : Int32} {x2 : Int32} {x3 : Int32} {x4 : Int32}  
    (k : Ev d Z L xs mX7_setup 58 [some (.ref 136), some (.int x1), some (.int x2), some (.int x3), some (.int x4)] [.int 0, .ref 136] I J z Φ) : Ev d Z L xs mX7_setup 53 [some (.ref 136), some (.int x1), some (.int x2), some (.int x3), some (.int x4)] [.ref 136] I J z Φ := by
  refine Ev.blk (ops := [oI (.iconst 0) 1 0, oK (.goto 4) 3 58 0]) (G := True ∧ True ∧ True) (by decide +kernel) ?_ ⟨trivial, trivial, trivial⟩ k
  rfl
theorem BX7_setup_57 {d Z L : Nat} {xs : Nat → Int32} {z : Nat} {Φ : Out → T2 → T3 → Nat → Prop} {I : T2} {J : T3} {x1 : Int32} {x2 : Int32} {x3 : Int32} {x4 : Int32}  
    (k : Ev d Z L xs mX7_setup 58 [some (.ref 136), some (.int x1), some (.int x2), some (.int x3), some (.int x4)] [.int 1, .ref 136] I J z Φ) : Ev d Z L xs mX7_setup 57 [some (.ref 136), some (.int x1), some (.int x2), some (.int x3), some (.int x4)] [.ref 136] I J z Φ := by
  refine Ev.blk (ops := [oI (.iconst 1) 1 1]) (G := True ∧ True) (by decide +kernel) ?_ ⟨trivial, trivial⟩ k
  rfl
theorem BX7_setup_58 {d Z L : Nat} {xs : Nat → Int32} {z : Nat} {Φ : Out → T2 → T3 → Nat → Prop} {I : T2} {J : T3} {x1 : Int32} {x2 : Int32} {x3 : Int32} {x4 : Int32} {xs1 : Int32}  
    (k : Ev d Z L xs mX7_setup 65 [some (.ref 136), some (.int x1), some (.int x2), some (.int x3), some (.int x4)] [.int ((up2 I 136 0 xs1) 136 0)] (up2 I 136 0 xs1) J z Φ) : Ev d Z L xs mX7_setup 58 [some (.ref 136), some (.int x1), some (.int x2), some (.int x3), some (.int x4)] [.int xs1, .ref 136] I J z Φ := by
  refine Ev.blk (ops := [oK (.putfield 79) 3 7 0, o0 (.aload_n 0) 1, oK (.getfield 79) 3 7 0]) (G := (kd 136 = 7) ∧ True ∧ (kd 136 = 7) ∧ True) (by decide +kernel) ?_ ⟨(by decide), trivial, (by decide), trivial⟩ k
  rfl
theorem BX7_setup_68 {d Z L : Nat} {xs : Nat → Int32} {z : Nat} {Φ : Out → T2 → T3 → Nat → Prop} {I : T2} {J : T3} {x1 : Int32} {x2 : Int32} {x3 : Int32} {x4 : Int32}  
    (k : Ev d Z L xs mX7_setup 74 [some (.ref 136), some (.int x1), some (.int x2), some (.int x3), some (.int x4)] [.int x4, .int x3, .int x2, .int x1, .ref 136] I J z Φ) : Ev d Z L xs mX7_setup 68 [some (.ref 136), some (.int x1), some (.int x2), some (.int x3), some (.int x4)] [] I J z Φ := by
  refine Ev.blk (ops := [o0 (.aload_n 0) 1, o0 (.iload_n 1) 1, o0 (.iload_n 2) 1, o0 (.iload_n 3) 1, o0 (.iload 4) 2]) (G := True ∧ True ∧ True ∧ True ∧ True ∧ True) (by decide +kernel) ?_ ⟨trivial, trivial, trivial, trivial, trivial, trivial⟩ k
  rfl
theorem BX7_pass_0 {d Z L : Nat} {xs : Nat → Int32} {z : Nat} {Φ : Out → T2 → T3 → Nat → Prop} {I : T2} {J : T3} {x1 : Int32}  
    (k : Ev d Z L xs mX7_pass 2 [some (.ref 136), some (.int x1), none, none, none, none] [.int x1, .ref 136] I J z Φ) : Ev d Z L xs mX7_pass 0 [some (.ref 136), some (.int x1), none, none, none, none] [] I J z Φ := by
  refine Ev.blk (ops := [o0 (.aload_n 0) 1, o0 (.iload_n 1) 1]) (G := True ∧ True ∧ True) (by decide +kernel) ?_ ⟨trivial, trivial, trivial⟩ k
  rfl
theorem BX7_pass_5 {d Z L : Nat} {xs : Nat → Int32} {z : Nat} {Φ : Out → T2 → T3 → Nat → Prop} {I : T2} {J : T3} {x1 : Int32}  
    (k : Ev d Z L xs mX7_pass 8 [some (.ref 136), some (.int x1), none, none, none, none] [.int 1000000, .int x1, .ref 136] I J z Φ) : Ev d Z L xs mX7_pass 5 [some (.ref 136), some (.int x1), none, none, none, none] [.ref 136] I J z Φ := by
  refine Ev.blk (ops := [o0 (.iload_n 1) 1, oI (.ldc 115) 2 1000000]) (G := True ∧ True ∧ True) (by decide +kernel) ?_ ⟨trivial, trivial, trivial⟩ k
  rfl
theorem BX7_pass_11 {d Z L : Nat} {xs : Nat → Int32} {z : Nat} {Φ : Out → T2 → T3 → Nat → Prop} {I : T2} {J : T3} {x1 : Int32}  
    (k : Ev d Z L xs mX7_pass 16 [some (.ref 136), some (.int x1), none, none, none, none] [.int 0, .ref 136] I J z Φ) : Ev d Z L xs mX7_pass 11 [some (.ref 136), some (.int x1), none, none, none, none] [.ref 136] I J z Φ := by
  refine Ev.blk (ops := [oI (.iconst 0) 1 0, oK (.goto 4) 3 16 0]) (G := True ∧ True ∧ True) (by decide +kernel) ?_ ⟨trivial, trivial, trivial⟩ k
  rfl
theorem BX7_pass_15 {d Z L : Nat} {xs : Nat → Int32} {z : Nat} {Φ : Out → T2 → T3 → Nat → Prop} {I : T2} {J : T3} {x1 : Int32}  
    (k : Ev d Z L xs mX7_pass 16 [some (.ref 136), some (.int x1), none, none, none, none] [.int 1, .ref 136] I J z Φ) : Ev d Z L xs mX7_pass 15 [some (.ref 136), some (.int x1), none, none, none, none] [.ref 136] I J z Φ := by
  refine Ev.blk (ops := [oI (.iconst 1) 1 1]) (G := True ∧ True) (by decide +kernel) ?_ ⟨trivial, trivial⟩ k
  rfl
theorem BX7_pass_16 {d Z L : Nat} {xs : Nat → Int32} {z : Nat} {Φ : Out → T2 → T3 → Nat → Prop} {I : T2} {J : T3} {x1 : Int32} {xs1 : Int32}  
    (k : Ev d Z L xs mX7_pass 23 [some (.ref 136), some (.int x1), none, none, none, none] [.int ((up2 I 136 0 xs1) 136 0)] (up2 I 136 0 xs1) J z Φ) : Ev d Z L xs mX7_pass 16 [some (.ref 136), some (.int x1), none, none, none, none] [.int xs1, .ref 136] I J z Φ := by
  refine Ev.blk (ops := [oK (.putfield 79) 3 7 0, o0 (.aload_n 0) 1, oK (.getfield 79) 3 7 0]) (G := (kd 136 = 7) ∧ True ∧ (kd 136 = 7) ∧ True) (by decide +kernel) ?_ ⟨(by decide), trivial, (by decide), trivial⟩ k
  rfl
theorem BX7_pass_27 {d Z L : Nat} {xs : Nat → Int32} {z : Nat} {Φ : Out → T2 → T3 → Nat → Prop} {I : T2} {J : T3} {x1 : Int32}  (g1 : ¬ ((I 136 2).toInt64) = (0 : Int64))
    (k : Ev d Z L xs mX7_pass 68 [some (.ref 136), some (.int x1), some (.int ((((up3 J 136 5 ((J 136 5) + x1.toInt64)) 136 5) / ((I 136 2).toInt64)).toInt32)), some (.long ((((((up3 J 136 5 ((J 136 5) + x1.toInt64)) 136 5) / ((I 136 2).toInt64)).toInt32) - (I 136 8)).toInt64)), none, none] [.int (I 136 1), .long ((((((up3 J 136 5 ((J 136 5) + x1.toInt64)) 136 5) / ((I 136 2).toInt64)).toInt32) - (I 136 8)).toInt64), .int 0, .ref 137] I (up3 J 136 5 ((J 136 5) + x1.toInt64)) z Φ) : Ev d Z L xs mX7_pass 27 [some (.ref 136), some (.int x1), none, none, none, none] [] I J z Φ := by
  refine Ev.blk (ops := [o0 (.aload_n 0) 1, o0 (.aload_n 0) 1, oK (.getfield 95) 3 7 5, o0 (.iload_n 1) 1, o0 (.i2l) 1, o0 (.ladd) 1, oK (.putfield 95) 3 7 5, o0 (.aload_n 0) 1, oK (.getfield 95) 3 7 5, o0 (.aload_n 0) 1, oK (.getfield 86) 3 7 2, o0 (.i2l) 1, o0 (.ldiv) 1, o0 (.l2i) 1, o0 (.istore_n 2) 1, o0 (.iload_n 2) 1, o0 (.aload_n 0) 1, oK (.getfield 106) 3 7 8, o0 (.isub) 1, o0 (.i2l) 1, o0 (.lstore_n 3) 1, o0 (.aload_n 0) 1, oK (.getfield 7) 3 7 9, oI (.iconst 0) 1 0, o0 (.lload_n 3) 1, o0 (.aload_n 0) 1, oK (.getfield 83) 3 7 1]) (G := True ∧ True ∧ (kd 136 = 7) ∧ True ∧ True ∧ True ∧ (kd 136 = 7) ∧ True ∧ (kd 136 = 7) ∧ True ∧ (kd 136 = 7) ∧ True ∧ (¬ ((I 136 2).toInt64) = (0 : Int64)) ∧ True ∧ True ∧ True ∧ True ∧ (kd 136 = 7) ∧ True ∧ True ∧ True ∧ True ∧ (kd 136 = 7) ∧ True ∧ True ∧ True ∧ (kd 136 = 7) ∧ True) (by decide +kernel) ?_ ⟨trivial, trivial, (by decide), trivial, trivial, trivial, (by decide), trivial, (by decide), trivial, (by decide), trivial, g1, trivial, trivial, trivial, trivial, (by decide), trivial, trivial, trivial, trivial, (by decide), trivial, trivial, trivial, (by decide), trivial⟩ k
  rfl
theorem BX7_pass_71 {d Z L : Nat} {xs : Nat → Int32} {z : Nat} {Φ : Out → T2 → T3 → Nat → Prop} {I : T2} {J : T3} {x1 : Int32} {x2 : Int32} {y3 : Int64}  
    (k : Ev d Z L xs mX7_pass 74 [some (.ref 136), some (.int x1), some (.int x2), some (.long y3), none, some (.int 0)] [] I J z Φ) : Ev d Z L xs mX7_pass 71 [some (.ref 136), some (.int x1), some (.int x2), some (.long y3), none, none] [] I J z Φ := by
  refine Ev.blk (ops := [oI (.iconst 0) 1 0, o0 (.istore 5) 2]) (G := True ∧ True ∧ True) (by decide +kernel) ?_ ⟨trivial, trivial, trivial⟩ k
  rfl
theorem BX7_pass_74 {d Z L : Nat} {xs : Nat → Int32} {z : Nat} {Φ : Out → T2 → T3 → Nat → Prop} {I : T2} {J : T3} {x1 : Int32} {x2 : Int32} {y3 : Int64} {x5 : Int32}  
    (k : Ev d Z L xs mX7_pass 80 [some (.ref 136), some (.int x1), some (.int x2), some (.long y3), none, some (.int x5)] [.int (I 136 4), .int x5] I J z Φ) : Ev d Z L xs mX7_pass 74 [some (.ref 136), some (.int x1), some (.int x2), some (.long y3), none, some (.int x5)] [] I J z Φ := by
  refine Ev.blk (ops := [o0 (.iload 5) 2, o0 (.aload_n 0) 1, oK (.getfield 92) 3 7 4]) (G := True ∧ True ∧ (kd 136 = 7) ∧ True) (by decide +kernel) ?_ ⟨trivial, trivial, (by decide), trivial⟩ k
  rfl
theorem BX7_pass_83 {d Z L : Nat} {xs : Nat → Int32} {z : Nat} {Φ : Out → T2 → T3 → Nat → Prop} {I : T2} {J : T3} {x1 : Int32} {x2 : Int32} {y3 : Int64} {x5 : Int32}  
    (k : Ev d Z L xs mX7_pass 93 [some (.ref 136), some (.int x1), some (.int x2), some (.long y3), none, some (.int x5)] [.int 0, .long y3, .int (3 * x5), .ref 138] I J z Φ) : Ev d Z L xs mX7_pass 83 [some (.ref 136), some (.int x1), some (.int x2), some (.long y3), none, some (.int x5)] [] I J z Φ := by
  refine Ev.blk (ops := [o0 (.aload_n 0) 1, oK (.getfield 13) 3 7 10, oI (.iconst 3) 1 3, o0 (.iload 5) 2, o0 (.imul) 1, o0 (.lload_n 3) 1, oI (.iconst 0) 1 0]) (G := True ∧ (kd 136 = 7) ∧ True ∧ True ∧ True ∧ True ∧ True ∧ True) (by decide +kernel) ?_ ⟨trivial, (by decide), trivial, trivial, trivial, trivial, trivial, trivial⟩ k
  rfl
theorem BX7_pass_96 {d Z L : Nat} {xs : Nat → Int32} {z : Nat} {Φ : Out → T2 → T3 → Nat → Prop} {I : T2} {J : T3} {x1 : Int32} {x2 : Int32} {y3 : Int64} {x5 : Int32}  
    (k : Ev d Z L xs mX7_pass 106 [some (.ref 136), some (.int x1), some (.int x2), some (.long y3), none, some (.int x5)] [.int 0, .long y3, .int (3 * x5), .ref 139] I J z Φ) : Ev d Z L xs mX7_pass 96 [some (.ref 136), some (.int x1), some (.int x2), some (.long y3), none, some (.int x5)] [] I J z Φ := by
  refine Ev.blk (ops := [o0 (.aload_n 0) 1, oK (.getfield 16) 3 7 11, oI (.iconst 3) 1 3, o0 (.iload 5) 2, o0 (.imul) 1, o0 (.lload_n 3) 1, oI (.iconst 0) 1 0]) (G := True ∧ (kd 136 = 7) ∧ True ∧ True ∧ True ∧ True ∧ True ∧ True) (by decide +kernel) ?_ ⟨trivial, (by decide), trivial, trivial, trivial, trivial, trivial, trivial⟩ k
  rfl
theorem BX7_pass_109 {d Z L : Nat} {xs : Nat → Int32} {z : Nat} {Φ : Out → T2 → T3 → Nat → Prop} {I : T2} {J : T3} {x1 : Int32} {x2 : Int32} {y3 : Int64} {x5 : Int32}  
    (k : Ev d Z L xs mX7_pass 112 [some (.ref 136), some (.int x1), some (.int x2), some (.long y3), none, some (.int x5)] [.int x5, .ref 136] I J z Φ) : Ev d Z L xs mX7_pass 109 [some (.ref 136), some (.int x1), some (.int x2), some (.long y3), none, some (.int x5)] [] I J z Φ := by
  refine Ev.blk (ops := [o0 (.aload_n 0) 1, o0 (.iload 5) 2]) (G := True ∧ True ∧ True) (by decide +kernel) ?_ ⟨trivial, trivial, trivial⟩ k
  rfl
theorem BX7_pass_115 {d Z L : Nat} {xs : Nat → Int32} {z : Nat} {Φ : Out → T2 → T3 → Nat → Prop} {I : T2} {J : T3} {x1 : Int32} {x2 : Int32} {y3 : Int64} {x5 : Int32}  
    (k : Ev d Z L xs mX7_pass 74 [some (.ref 136), some (.int x1), some (.int x2), some (.long y3), none, some (.int (x5 + 1))] [] I J z Φ) : Ev d Z L xs mX7_pass 115 [some (.ref 136), some (.int x1), some (.int x2), some (.long y3), none, some (.int x5)] [] I J z Φ := by
  refine Ev.blk (ops := [oI (.iinc 5 1) 3 1, oK (.goto (-44)) 3 74 0]) (G := True ∧ True ∧ True) (by decide +kernel) ?_ ⟨trivial, trivial, trivial⟩ k
  rfl
theorem BX7_pass_121 {d Z L : Nat} {xs : Nat → Int32} {z : Nat} {Φ : Out → T2 → T3 → Nat → Prop} {I : T2} {J : T3} {x1 : Int32} {x2 : Int32} {y3 : Int64} {x5 : Int32}  
    (k : Ev d Z L xs mX7_pass 126 [some (.ref 136), some (.int x1), some (.int x2), some (.long y3), none, some (.int x5)] [] (up2 I 136 8 x2) J z Φ) : Ev d Z L xs mX7_pass 121 [some (.ref 136), some (.int x1), some (.int x2), some (.long y3), none, some (.int x5)] [] I J z Φ := by
  refine Ev.blk (ops := [o0 (.aload_n 0) 1, o0 (.iload_n 2) 1, oK (.putfield 106) 3 7 8]) (G := True ∧ True ∧ (kd 136 = 7) ∧ True) (by decide +kernel) ?_ ⟨trivial, trivial, (by decide), trivial⟩ k
  rfl
theorem BX7_move_0 {d Z L : Nat} {xs : Nat → Int32} {z : Nat} {Φ : Out → T2 → T3 → Nat → Prop} {I : T2} {J : T3} {a0 : Nat} {x1 : Int32} {y2 : Int64} {x4 : Int32}  
    (k : Ev d Z L xs mX7_move 3 [some (.ref a0), some (.int x1), some (.long y2), none, some (.int x4), some (.long 0), none] [] I J z Φ) : Ev d Z L xs mX7_move 0 [some (.ref a0), some (.int x1), some (.long y2), none, some (.int x4), none, none] [] I J z Φ := by
  refine Ev.blk (ops := [oL (.lconst 0) 1 0, o0 (.lstore 5) 2]) (G := True ∧ True ∧ True) (by decide +kernel) ?_ ⟨trivial, trivial, trivial⟩ k
  rfl
theorem BX7_move_3 {d Z L : Nat} {xs : Nat → Int32} {z : Nat} {Φ : Out → T2 → T3 → Nat → Prop} {I : T2} {J : T3} {a0 : Nat} {x1 : Int32} {y2 : Int64} {x4 : Int32} {y5 : Int64}  
    (k : Ev d Z L xs mX7_move 7 [some (.ref a0), some (.int x1), some (.long y2), none, some (.int x4), some (.long y5), none] [.int (lg_cmp y5 y2)] I J z Φ) : Ev d Z L xs mX7_move 3 [some (.ref a0), some (.int x1), some (.long y2), none, some (.int x4), some (.long y5), none] [] I J z Φ := by
  refine Ev.blk (ops := [o0 (.lload 5) 2, o0 (.lload_n 2) 1, o0 (.lcmp) 1]) (G := True ∧ True ∧ True ∧ True) (by decide +kernel) ?_ ⟨trivial, trivial, trivial, trivial⟩ k
  rfl
theorem BX7_move_10 {d Z L : Nat} {xs : Nat → Int32} {z : Nat} {Φ : Out → T2 → T3 → Nat → Prop} {I : T2} {J : T3} {a0 : Nat} {x1 : Int32} {y2 : Int64} {x4 : Int32} {y5 : Int64}  
    (k : Ev d Z L xs mX7_move 16 [some (.ref a0), some (.int x1), some (.long y2), none, some (.int x4), some (.long y5), none] [.int (lg_cmp y5 3)] I J z Φ) : Ev d Z L xs mX7_move 10 [some (.ref a0), some (.int x1), some (.long y2), none, some (.int x4), some (.long y5), none] [] I J z Φ := by
  refine Ev.blk (ops := [o0 (.lload 5) 2, oL (.ldc2_w 118) 3 3, o0 (.lcmp) 1]) (G := True ∧ True ∧ True ∧ True) (by decide +kernel) ?_ ⟨trivial, trivial, trivial, trivial⟩ k
  rfl
theorem BX7_move_19 {d Z L : Nat} {xs : Nat → Int32} {z : Nat} {Φ : Out → T2 → T3 → Nat → Prop} {I : T2} {J : T3} {a0 : Nat} {x1 : Int32} {y2 : Int64} {x4 : Int32} {y5 : Int64} (hk_a0 : kd a0 = 8) (g1 : vp_in (x1 + 1) (ln a0)) (g2 : vp_in x1 (ln a0)) (g3 : vp_in (x1 + 2) (ln a0))
    (k : Ev d Z L xs mX7_move 3 [some (.ref a0), some (.int x1), some (.long y2), none, some (.int x4), some (.long (y5 + 1)), none] [] (up2 (up2 (up2 I a0 x1.toNatClampNeg (I a0 (x1 + 1).toNatClampNeg)) a0 (x1 + 1).toNatClampNeg ((up2 I a0 x1.toNatClampNeg (I a0 (x1 + 1).toNatClampNeg)) a0 (x1 + 2).toNatClampNeg)) a0 (x1 + 2).toNatClampNeg x4) J z Φ) : Ev d Z L xs mX7_move 19 [some (.ref a0), some (.int x1), some (.long y2), none, some (.int x4), some (.long y5), none] [] I J z Φ := by
  refine Ev.blk (ops := [o0 (.aload_n 0) 1, o0 (.iload_n 1) 1, o0 (.aload_n 0) 1, o0 (.iload_n 1) 1, oI (.iconst 1) 1 1, o0 (.iadd) 1, o0 (.iaload) 1, o0 (.iastore) 1, o0 (.aload_n 0) 1, o0 (.iload_n 1) 1, oI (.iconst 1) 1 1, o0 (.iadd) 1, o0 (.aload_n 0) 1, o0 (.iload_n 1) 1, oI (.iconst 2) 1 2, o0 (.iadd) 1, o0 (.iaload) 1, o0 (.iastore) 1, o0 (.aload_n 0) 1, o0 (.iload_n 1) 1, oI (.iconst 2) 1 2, o0 (.iadd) 1, o0 (.iload 4) 2, o0 (.iastore) 1, o0 (.lload 5) 2, oL (.lconst 1) 1 1, o0 (.ladd) 1, o0 (.lstore 5) 2, oK (.goto (-47)) 3 3 0]) (G := True ∧ True ∧ True ∧ True ∧ True ∧ True ∧ (kd a0 = 8 ∧ vp_in (x1 + 1) (ln a0)) ∧ (kd a0 = 8 ∧ vp_in x1 (ln a0)) ∧ True ∧ True ∧ True ∧ True ∧ True ∧ True ∧ True ∧ True ∧ (kd a0 = 8 ∧ vp_in (x1 + 2) (ln a0)) ∧ (kd a0 = 8 ∧ vp_in (x1 + 1) (ln a0)) ∧ True ∧ True ∧ True ∧ True ∧ True ∧ (kd a0 = 8 ∧ vp_in (x1 + 2) (ln a0)) ∧ True ∧ True ∧ True ∧ True ∧ True ∧ True) (by decide +kernel) ?_ ⟨trivial, trivial, trivial, trivial, trivial, trivial, ⟨hk_a0, g1⟩, ⟨hk_a0, g2⟩, trivial, trivial, trivial, trivial, trivial, trivial, trivial, trivial, ⟨hk_a0, g3⟩, ⟨hk_a0, g1⟩, trivial, trivial, trivial, trivial, trivial, ⟨hk_a0, g3⟩, trivial, trivial, trivial, trivial, trivial, trivial⟩ k
  rfl
theorem BX7_tick_0 {d Z L : Nat} {xs : Nat → Int32} {z : Nat} {Φ : Out → T2 → T3 → Nat → Prop} {I : T2} {J : T3} {x1 : Int32}  (g1 : vp_in x1 8)
    (k : Ev d Z L xs mX7_tick 26 [some (.ref 136), some (.int x1), some (.long ((J 136 5) + ((I 140 x1.toNatClampNeg).toInt64))), none, none, none, none] [.int (lg_cmp ((J 136 5) + ((I 140 x1.toNatClampNeg).toInt64)) (J 141 x1.toNatClampNeg)), .int x1, .ref 141] I J z Φ) : Ev d Z L xs mX7_tick 0 [some (.ref 136), some (.int x1), none, none, none, none, none] [] I J z Φ := by
  refine Ev.blk (ops := [o0 (.aload_n 0) 1, oK (.getfield 95) 3 7 5, o0 (.aload_n 0) 1, oK (.getfield 19) 3 7 12, o0 (.iload_n 1) 1, o0 (.iaload) 1, o0 (.i2l) 1, o0 (.ladd) 1, o0 (.lstore_n 2) 1, o0 (.aload_n 0) 1, oK (.getfield 22) 3 7 13, o0 (.iload_n 1) 1, o0 (.lload_n 2) 1, o0 (.aload_n 0) 1, oK (.getfield 22) 3 7 13, o0 (.iload_n 1) 1, o0 (.laload) 1, o0 (.lcmp) 1]) (G := True ∧ (kd 136 = 7) ∧ True ∧ (kd 136 = 7) ∧ True ∧ (kd 140 = 8 ∧ vp_in x1 (ln 140)) ∧ True ∧ True ∧ True ∧ True ∧ (kd 136 = 7) ∧ True ∧ True ∧ True ∧ (kd 136 = 7) ∧ True ∧ (kd 141 = 9 ∧ vp_in x1 (ln 141)) ∧ True ∧ True) (by decide +kernel) ?_ ⟨trivial, (by decide), trivial, (by decide), trivial, ⟨(by decide), g1⟩, trivial, trivial, trivial, trivial, (by decide), trivial, trivial, trivial, (by decide), trivial, ⟨(by decide), g1⟩, trivial, trivial⟩ k
  rfl
theorem BX7_tick_29 {d Z L : Nat} {xs : Nat → Int32} {z : Nat} {Φ : Out → T2 → T3 → Nat → Prop} {I : T2} {J : T3} {x1 : Int32} {y2 : Int64} {as0 : Nat} {xs1 : Int32}  
    (k : Ev d Z L xs mX7_tick 39 [some (.ref 136), some (.int x1), some (.long y2), none, none, none, none] [.long y2, .int xs1, .ref as0] I J z Φ) : Ev d Z L xs mX7_tick 29 [some (.ref 136), some (.int x1), some (.long y2), none, none, none, none] [.int xs1, .ref as0] I J z Φ := by
  refine Ev.blk (ops := [o0 (.lload_n 2) 1, oK (.goto 9) 3 39 0]) (G := True ∧ True ∧ True) (by decide +kernel) ?_ ⟨trivial, trivial, trivial⟩ k
  rfl
theorem BX7_tick_33 {d Z L : Nat} {xs : Nat → Int32} {z : Nat} {Φ : Out → T2 → T3 → Nat → Prop} {I : T2} {J : T3} {x1 : Int32} {y2 : Int64} {as0 : Nat} {xs1 : Int32}  (g1 : vp_in x1 8)
    (k : Ev d Z L xs mX7_tick 39 [some (.ref 136), some (.int x1), some (.long y2), none, none, none, none] [.long (J 141 x1.toNatClampNeg), .int xs1, .ref as0] I J z Φ) : Ev d Z L xs mX7_tick 33 [some (.ref 136), some (.int x1), some (.long y2), none, none, none, none] [.int xs1, .ref as0] I J z Φ := by
  refine Ev.blk (ops := [o0 (.aload_n 0) 1, oK (.getfield 22) 3 7 13, o0 (.iload_n 1) 1, o0 (.laload) 1]) (G := True ∧ (kd 136 = 7) ∧ True ∧ (kd 141 = 9 ∧ vp_in x1 (ln 141)) ∧ True) (by decide +kernel) ?_ ⟨trivial, (by decide), trivial, ⟨(by decide), g1⟩, trivial⟩ k
  rfl
theorem BX7_tick_39 {d Z L : Nat} {xs : Nat → Int32} {z : Nat} {Φ : Out → T2 → T3 → Nat → Prop} {I : T2} {J : T3} {x1 : Int32} {y2 : Int64} {as0 : Nat} {xs1 : Int32} {ys2 : Int64} (hk_as0 : kd as0 = 9) (g1 : vp_in xs1 (ln as0)) (g2 : vp_in x1 8) (g3 : ¬ ((I 136 2).toInt64) = (0 : Int64))
    (k : Ev d Z L xs mX7_tick 77 [some (.ref 136), some (.int x1), some (.long y2), none, some (.int ((((up3 J as0 xs1.toNatClampNeg ys2) 141 x1.toNatClampNeg) / ((I 136 2).toInt64)).toInt32)), some (.long ((((((up3 J as0 xs1.toNatClampNeg ys2) 141 x1.toNatClampNeg) / ((I 136 2).toInt64)).toInt32) - (I 142 x1.toNatClampNeg)).toInt64)), none] [.int 0, .long ((((((up3 J as0 xs1.toNatClampNeg ys2) 141 x1.toNatClampNeg) / ((I 136 2).toInt64)).toInt32) - (I 142 x1.toNatClampNeg)).toInt64), .int (3 * x1), .ref 144] I (up3 J as0 xs1.toNatClampNeg ys2) z Φ) : Ev d Z L xs mX7_tick 39 [some (.ref 136), some (.int x1), some (.long y2), none, none, none, none] [.long ys2, .int xs1, .ref as0] I J z Φ := by
  refine Ev.blk (ops := [o0 (.lastore) 1, o0 (.aload_n 0) 1, oK (.getfield 22) 3 7 13, o0 (.iload_n 1) 1, o0 (.laload) 1, o0 (.aload_n 0) 1, oK (.getfield 86) 3 7 2, o0 (.i2l) 1, o0 (.ldiv) 1, o0 (.l2i) 1, o0 (.istore 4) 2, o0 (.iload 4) 2, o0 (.aload_n 0) 1, oK (.getfield 26) 3 7 14, o0 (.iload_n 1) 1, o0 (.iaload) 1, o0 (.isub) 1, o0 (.i2l) 1, o0 (.lstore 5) 2, o0 (.aload_n 0) 1, oK (.getfield 33) 3 7 16, oI (.iconst 3) 1 3, o0 (.iload_n 1) 1, o0 (.imul) 1, o0 (.lload 5) 2, oI (.iconst 0) 1 0]) (G := (kd as0 = 9 ∧ vp_in xs1 (ln as0)) ∧ True ∧ (kd 136 = 7) ∧ True ∧ (kd 141 = 9 ∧ vp_in x1 (ln 141)) ∧ True ∧ (kd 136 = 7) ∧ True ∧ (¬ ((I 136 2).toInt64) = (0 : Int64)) ∧ True ∧ True ∧ True ∧ True ∧ (kd 136 = 7) ∧ True ∧ (kd 142 = 8 ∧ vp_in x1 (ln 142)) ∧ True ∧ True ∧ True ∧ True ∧ (kd 136 = 7) ∧ True ∧ True ∧ True ∧ True ∧ True ∧ True) (by decide +kernel) ?_ ⟨⟨hk_as0, g1⟩, trivial, (by decide), trivial, ⟨(by decide), g2⟩, trivial, (by decide), trivial, g3, trivial, trivial, trivial, trivial, (by decide), trivial, ⟨(by decide), g2⟩, trivial, trivial, trivial, trivial, (by decide), trivial, trivial, trivial, trivial, trivial, trivial⟩ k
  rfl
theorem BX7_tick_80 {d Z L : Nat} {xs : Nat → Int32} {z : Nat} {Φ : Out → T2 → T3 → Nat → Prop} {I : T2} {J : T3} {x1 : Int32} {y2 : Int64} {x4 : Int32} {y5 : Int64}  
    (k : Ev d Z L xs mX7_tick 90 [some (.ref 136), some (.int x1), some (.long y2), none, some (.int x4), some (.long y5), none] [.int 0, .long y5, .int (3 * x1), .ref 145] I J z Φ) : Ev d Z L xs mX7_tick 80 [some (.ref 136), some (.int x1), some (.long y2), none, some (.int x4), some (.long y5), none] [] I J z Φ := by
  refine Ev.blk (ops := [o0 (.aload_n 0) 1, oK (.getfield 36) 3 7 17, oI (.iconst 3) 1 3, o0 (.iload_n 1) 1, o0 (.imul) 1, o0 (.lload 5) 2, oI (.iconst 0) 1 0]) (G := True ∧ (kd 136 = 7) ∧ True ∧ True ∧ True ∧ True ∧ True ∧ True) (by decide +kernel) ?_ ⟨trivial, (by decide), trivial, trivial, trivial, trivial, trivial, trivial⟩ k
  rfl
theorem BX7_tick_93 {d Z L : Nat} {xs : Nat → Int32} {z : Nat} {Φ : Out → T2 → T3 → Nat → Prop} {I : T2} {J : T3} {x1 : Int32} {y2 : Int64} {x4 : Int32} {y5 : Int64}  
    (k : Ev d Z L xs mX7_tick 103 [some (.ref 136), some (.int x1), some (.long y2), none, some (.int x4), some (.long y5), none] [.int 0, .long y5, .int (3 * x1), .ref 146] I J z Φ) : Ev d Z L xs mX7_tick 93 [some (.ref 136), some (.int x1), some (.long y2), none, some (.int x4), some (.long y5), none] [] I J z Φ := by
  refine Ev.blk (ops := [o0 (.aload_n 0) 1, oK (.getfield 39) 3 7 18, oI (.iconst 3) 1 3, o0 (.iload_n 1) 1, o0 (.imul) 1, o0 (.lload 5) 2, oI (.iconst 0) 1 0]) (G := True ∧ (kd 136 = 7) ∧ True ∧ True ∧ True ∧ True ∧ True ∧ True) (by decide +kernel) ?_ ⟨trivial, (by decide), trivial, trivial, trivial, trivial, trivial, trivial⟩ k
  rfl
theorem BX7_tick_106 {d Z L : Nat} {xs : Nat → Int32} {z : Nat} {Φ : Out → T2 → T3 → Nat → Prop} {I : T2} {J : T3} {x1 : Int32} {y2 : Int64} {x4 : Int32} {y5 : Int64}  (g1 : vp_in x1 8)
    (k : Ev d Z L xs mX7_tick 114 [some (.ref 136), some (.int x1), some (.long y2), none, some (.int x4), some (.long y5), none] [] (up2 I 142 x1.toNatClampNeg x4) J z Φ) : Ev d Z L xs mX7_tick 106 [some (.ref 136), some (.int x1), some (.long y2), none, some (.int x4), some (.long y5), none] [] I J z Φ := by
  refine Ev.blk (ops := [o0 (.aload_n 0) 1, oK (.getfield 26) 3 7 14, o0 (.iload_n 1) 1, o0 (.iload 4) 2, o0 (.iastore) 1]) (G := True ∧ (kd 136 = 7) ∧ True ∧ True ∧ (kd 142 = 8 ∧ vp_in x1 (ln 142)) ∧ True) (by decide +kernel) ?_ ⟨trivial, (by decide), trivial, trivial, ⟨(by decide), g1⟩, trivial⟩ k
  rfl
theorem BX7_error_0 {d Z L : Nat} {xs : Nat → Int32} {z : Nat} {Φ : Out → T2 → T3 → Nat → Prop} {I : T2} {J : T3} {x1 : Int32} {x2 : Int32}  
    (k : Ev d Z L xs mX7_error 3 [some (.ref 136), some (.int x1), some (.int x2)] [.int x1, .ref 136, .ref 136] I J z Φ) : Ev d Z L xs mX7_error 0 [some (.ref 136), some (.int x1), some (.int x2)] [] I J z Φ := by
  refine Ev.blk (ops := [o0 (.aload_n 0) 1, o0 (.aload_n 0) 1, o0 (.iload_n 1) 1]) (G := True ∧ True ∧ True ∧ True) (by decide +kernel) ?_ ⟨trivial, trivial, trivial, trivial⟩ k
  rfl
theorem BX7_error_9 {d Z L : Nat} {xs : Nat → Int32} {z : Nat} {Φ : Out → T2 → T3 → Nat → Prop} {I : T2} {J : T3} {x1 : Int32} {x2 : Int32}  
    (k : Ev d Z L xs mX7_error 35 [some (.ref 136), some (.int x1), some (.int x2)] [.int 1, .ref 136] I J z Φ) : Ev d Z L xs mX7_error 9 [some (.ref 136), some (.int x1), some (.int x2)] [.ref 136] I J z Φ := by
  refine Ev.blk (ops := [oI (.iconst 1) 1 1, oK (.goto 25) 3 35 0]) (G := True ∧ True ∧ True) (by decide +kernel) ?_ ⟨trivial, trivial, trivial⟩ k
  rfl
theorem BX7_error_13 {d Z L : Nat} {xs : Nat → Int32} {z : Nat} {Φ : Out → T2 → T3 → Nat → Prop} {I : T2} {J : T3} {x1 : Int32} {x2 : Int32}  
    (k : Ev d Z L xs mX7_error 19 [some (.ref 136), some (.int x1), some (.int x2)] [.int (-(I 136 3)), .int x2, .ref 136] I J z Φ) : Ev d Z L xs mX7_error 13 [some (.ref 136), some (.int x1), some (.int x2)] [.ref 136] I J z Φ := by
  refine Ev.blk (ops := [o0 (.iload_n 2) 1, o0 (.aload_n 0) 1, oK (.getfield 89) 3 7 3, o0 (.ineg) 1]) (G := True ∧ True ∧ (kd 136 = 7) ∧ True ∧ True) (by decide +kernel) ?_ ⟨trivial, trivial, (by decide), trivial, trivial⟩ k
  rfl
theorem BX7_error_22 {d Z L : Nat} {xs : Nat → Int32} {z : Nat} {Φ : Out → T2 → T3 → Nat → Prop} {I : T2} {J : T3} {x1 : Int32} {x2 : Int32}  
    (k : Ev d Z L xs mX7_error 27 [some (.ref 136), some (.int x1), some (.int x2)] [.int (I 136 3), .int x2, .ref 136] I J z Φ) : Ev d Z L xs mX7_error 22 [some (.ref 136), some (.int x1), some (.int x2)] [.ref 136] I J z Φ := by
  refine Ev.blk (ops := [o0 (.iload_n 2) 1, o0 (.aload_n 0) 1, oK (.getfield 89) 3 7 3]) (G := True ∧ True ∧ (kd 136 = 7) ∧ True) (by decide +kernel) ?_ ⟨trivial, trivial, (by decide), trivial⟩ k
  rfl
theorem BX7_error_30 {d Z L : Nat} {xs : Nat → Int32} {z : Nat} {Φ : Out → T2 → T3 → Nat → Prop} {I : T2} {J : T3} {x1 : Int32} {x2 : Int32}  
    (k : Ev d Z L xs mX7_error 35 [some (.ref 136), some (.int x1), some (.int x2)] [.int 2, .ref 136] I J z Φ) : Ev d Z L xs mX7_error 30 [some (.ref 136), some (.int x1), some (.int x2)] [.ref 136] I J z Φ := by
  refine Ev.blk (ops := [oI (.iconst 2) 1 2, oK (.goto 4) 3 35 0]) (G := True ∧ True ∧ True) (by decide +kernel) ?_ ⟨trivial, trivial, trivial⟩ k
  rfl
theorem BX7_error_34 {d Z L : Nat} {xs : Nat → Int32} {z : Nat} {Φ : Out → T2 → T3 → Nat → Prop} {I : T2} {J : T3} {x1 : Int32} {x2 : Int32}  
    (k : Ev d Z L xs mX7_error 35 [some (.ref 136), some (.int x1), some (.int x2)] [.int 0, .ref 136] I J z Φ) : Ev d Z L xs mX7_error 34 [some (.ref 136), some (.int x1), some (.int x2)] [.ref 136] I J z Φ := by
  refine Ev.blk (ops := [oI (.iconst 0) 1 0]) (G := True ∧ True) (by decide +kernel) ?_ ⟨trivial, trivial⟩ k
  rfl
theorem BX7_error_35 {d Z L : Nat} {xs : Nat → Int32} {z : Nat} {Φ : Out → T2 → T3 → Nat → Prop} {I : T2} {J : T3} {x1 : Int32} {x2 : Int32} {xs1 : Int32}  
    (k : Ev d Z L xs mX7_error 42 [some (.ref 136), some (.int x1), some (.int x2)] [.int ((up2 I 136 0 xs1) 136 0)] (up2 I 136 0 xs1) J z Φ) : Ev d Z L xs mX7_error 35 [some (.ref 136), some (.int x1), some (.int x2)] [.int xs1, .ref 136] I J z Φ := by
  refine Ev.blk (ops := [oK (.putfield 79) 3 7 0, o0 (.aload_n 0) 1, oK (.getfield 79) 3 7 0]) (G := (kd 136 = 7) ∧ True ∧ (kd 136 = 7) ∧ True) (by decide +kernel) ?_ ⟨(by decide), trivial, (by decide), trivial⟩ k
  rfl
theorem BX7_error_45 {d Z L : Nat} {xs : Nat → Int32} {z : Nat} {Φ : Out → T2 → T3 → Nat → Prop} {I : T2} {J : T3} {x1 : Int32} {x2 : Int32}  (g1 : vp_in x1 8)
    (k : Ev d Z L xs mX7_error 54 [some (.ref 136), some (.int x1), some (.int x2)] [.int x1, .ref 136] (up2 I 140 x1.toNatClampNeg x2) J z Φ) : Ev d Z L xs mX7_error 45 [some (.ref 136), some (.int x1), some (.int x2)] [] I J z Φ := by
  refine Ev.blk (ops := [o0 (.aload_n 0) 1, oK (.getfield 19) 3 7 12, o0 (.iload_n 1) 1, o0 (.iload_n 2) 1, o0 (.iastore) 1, o0 (.aload_n 0) 1, o0 (.iload_n 1) 1]) (G := True ∧ (kd 136 = 7) ∧ True ∧ True ∧ (kd 140 = 8 ∧ vp_in x1 (ln 140)) ∧ True ∧ True ∧ True) (by decide +kernel) ?_ ⟨trivial, (by decide), trivial, trivial, ⟨(by decide), g1⟩, trivial, trivial, trivial⟩ k
  rfl
theorem BX7_isGate_0 {d Z L : Nat} {xs : Nat → Int32} {z : Nat} {Φ : Out → T2 → T3 → Nat → Prop} {I : T2} {J : T3} {x1 : Int32}  
    (k : Ev d Z L xs mX7_isGate 1 [some (.ref 136), some (.int x1)] [.int x1] I J z Φ) : Ev d Z L xs mX7_isGate 0 [some (.ref 136), some (.int x1)] [] I J z Φ := by
  refine Ev.blk (ops := [o0 (.iload_n 1) 1]) (G := True ∧ True) (by decide +kernel) ?_ ⟨trivial, trivial⟩ k
  rfl
theorem BX7_isGate_4 {d Z L : Nat} {xs : Nat → Int32} {z : Nat} {Φ : Out → T2 → T3 → Nat → Prop} {I : T2} {J : T3} {x1 : Int32}  
    (k : Ev d Z L xs mX7_isGate 9 [some (.ref 136), some (.int x1)] [.int (I 136 4), .int x1] I J z Φ) : Ev d Z L xs mX7_isGate 4 [some (.ref 136), some (.int x1)] [] I J z Φ := by
  refine Ev.blk (ops := [o0 (.iload_n 1) 1, o0 (.aload_n 0) 1, oK (.getfield 92) 3 7 4]) (G := True ∧ True ∧ (kd 136 = 7) ∧ True) (by decide +kernel) ?_ ⟨trivial, trivial, (by decide), trivial⟩ k
  rfl
theorem BX7_isGate_12 {d Z L : Nat} {xs : Nat → Int32} {z : Nat} {Φ : Out → T2 → T3 → Nat → Prop} {I : T2} {J : T3} {x1 : Int32}  
    (k : Ev d Z L xs mX7_isGate 17 [some (.ref 136), some (.int x1)] [.int 1] I J z Φ) : Ev d Z L xs mX7_isGate 12 [some (.ref 136), some (.int x1)] [] I J z Φ := by
  refine Ev.blk (ops := [oI (.iconst 1) 1 1, oK (.goto 4) 3 17 0]) (G := True ∧ True ∧ True) (by decide +kernel) ?_ ⟨trivial, trivial, trivial⟩ k
  rfl
theorem BX7_isGate_16 {d Z L : Nat} {xs : Nat → Int32} {z : Nat} {Φ : Out → T2 → T3 → Nat → Prop} {I : T2} {J : T3} {x1 : Int32}  
    (k : Ev d Z L xs mX7_isGate 17 [some (.ref 136), some (.int x1)] [.int 0] I J z Φ) : Ev d Z L xs mX7_isGate 16 [some (.ref 136), some (.int x1)] [] I J z Φ := by
  refine Ev.blk (ops := [oI (.iconst 0) 1 0]) (G := True ∧ True) (by decide +kernel) ?_ ⟨trivial, trivial⟩ k
  rfl
theorem BX7_rule_0 {d Z L : Nat} {xs : Nat → Int32} {z : Nat} {Φ : Out → T2 → T3 → Nat → Prop} {I : T2} {J : T3} {x1 : Int32}  
    (k : Ev d Z L xs mX7_rule 2 [some (.ref 136), some (.int x1)] [.int x1, .ref 136] I J z Φ) : Ev d Z L xs mX7_rule 0 [some (.ref 136), some (.int x1)] [] I J z Φ := by
  refine Ev.blk (ops := [o0 (.aload_n 0) 1, o0 (.iload_n 1) 1]) (G := True ∧ True ∧ True) (by decide +kernel) ?_ ⟨trivial, trivial, trivial⟩ k
  rfl
theorem BX7_rule_5 {d Z L : Nat} {xs : Nat → Int32} {z : Nat} {Φ : Out → T2 → T3 → Nat → Prop} {I : T2} {J : T3} {x1 : Int32}  
    (k : Ev d Z L xs mX7_rule 7 [some (.ref 136), some (.int x1)] [.int 2, .int x1, .ref 136] I J z Φ) : Ev d Z L xs mX7_rule 5 [some (.ref 136), some (.int x1)] [.ref 136] I J z Φ := by
  refine Ev.blk (ops := [o0 (.iload_n 1) 1, oI (.iconst 2) 1 2]) (G := True ∧ True ∧ True) (by decide +kernel) ?_ ⟨trivial, trivial, trivial⟩ k
  rfl
theorem BX7_rule_10 {d Z L : Nat} {xs : Nat → Int32} {z : Nat} {Φ : Out → T2 → T3 → Nat → Prop} {I : T2} {J : T3} {x1 : Int32}  
    (k : Ev d Z L xs mX7_rule 15 [some (.ref 136), some (.int x1)] [.int 0, .ref 136] I J z Φ) : Ev d Z L xs mX7_rule 10 [some (.ref 136), some (.int x1)] [.ref 136] I J z Φ := by
  refine Ev.blk (ops := [oI (.iconst 0) 1 0, oK (.goto 4) 3 15 0]) (G := True ∧ True ∧ True) (by decide +kernel) ?_ ⟨trivial, trivial, trivial⟩ k
  rfl
theorem BX7_rule_14 {d Z L : Nat} {xs : Nat → Int32} {z : Nat} {Φ : Out → T2 → T3 → Nat → Prop} {I : T2} {J : T3} {x1 : Int32}  
    (k : Ev d Z L xs mX7_rule 15 [some (.ref 136), some (.int x1)] [.int 1, .ref 136] I J z Φ) : Ev d Z L xs mX7_rule 14 [some (.ref 136), some (.int x1)] [.ref 136] I J z Φ := by
  refine Ev.blk (ops := [oI (.iconst 1) 1 1]) (G := True ∧ True) (by decide +kernel) ?_ ⟨trivial, trivial⟩ k
  rfl
theorem BX7_rule_15 {d Z L : Nat} {xs : Nat → Int32} {z : Nat} {Φ : Out → T2 → T3 → Nat → Prop} {I : T2} {J : T3} {x1 : Int32} {xs1 : Int32}  
    (k : Ev d Z L xs mX7_rule 23 [some (.ref 136), some (.int x1)] [.int ((up2 I 136 0 xs1) 136 0), .ref 136] (up2 I 136 0 xs1) J z Φ) : Ev d Z L xs mX7_rule 15 [some (.ref 136), some (.int x1)] [.int xs1, .ref 136] I J z Φ := by
  refine Ev.blk (ops := [oK (.putfield 79) 3 7 0, o0 (.aload_n 0) 1, o0 (.aload_n 0) 1, oK (.getfield 79) 3 7 0]) (G := (kd 136 = 7) ∧ True ∧ True ∧ (kd 136 = 7) ∧ True) (by decide +kernel) ?_ ⟨(by decide), trivial, trivial, (by decide), trivial⟩ k
  rfl
theorem BX7_rule_26 {d Z L : Nat} {xs : Nat → Int32} {z : Nat} {Φ : Out → T2 → T3 → Nat → Prop} {I : T2} {J : T3} {x1 : Int32}  
    (k : Ev d Z L xs mX7_rule 34 [some (.ref 136), some (.int x1)] [.int (I 136 6), .ref 136] I J z Φ) : Ev d Z L xs mX7_rule 26 [some (.ref 136), some (.int x1)] [.ref 136] I J z Φ := by
  refine Ev.blk (ops := [o0 (.aload_n 0) 1, oK (.getfield 99) 3 7 6, oK (.goto 4) 3 34 0]) (G := True ∧ (kd 136 = 7) ∧ True ∧ True) (by decide +kernel) ?_ ⟨trivial, (by decide), trivial, trivial⟩ k
  rfl
theorem BX7_rule_33 {d Z L : Nat} {xs : Nat → Int32} {z : Nat} {Φ : Out → T2 → T3 → Nat → Prop} {I : T2} {J : T3} {x1 : Int32}  
    (k : Ev d Z L xs mX7_rule 34 [some (.ref 136), some (.int x1)] [.int x1, .ref 136] I J z Φ) : Ev d Z L xs mX7_rule 33 [some (.ref 136), some (.int x1)] [.ref 136] I J z Φ := by
  refine Ev.blk (ops := [o0 (.iload_n 1) 1]) (G := True ∧ True) (by decide +kernel) ?_ ⟨trivial, trivial⟩ k
  rfl
theorem BX7_rule_34 {d Z L : Nat} {xs : Nat → Int32} {z : Nat} {Φ : Out → T2 → T3 → Nat → Prop} {I : T2} {J : T3} {x1 : Int32} {xs1 : Int32}  
    (k : Ev d Z L xs mX7_rule 37 [some (.ref 136), some (.int x1)] [] (up2 I 136 6 xs1) J z Φ) : Ev d Z L xs mX7_rule 34 [some (.ref 136), some (.int x1)] [.int xs1, .ref 136] I J z Φ := by
  refine Ev.blk (ops := [oK (.putfield 99) 3 7 6]) (G := (kd 136 = 7) ∧ True) (by decide +kernel) ?_ ⟨(by decide), trivial⟩ k
  rfl
theorem BX7_admit_0 {d Z L : Nat} {xs : Nat → Int32} {z : Nat} {Φ : Out → T2 → T3 → Nat → Prop} {I : T2} {J : T3} {x1 : Int32} {x2 : Int32}  
    (k : Ev d Z L xs mX7_admit 3 [some (.ref 136), some (.int x1), some (.int x2), none, none, none, none] [.int x1, .ref 136, .ref 136] I J z Φ) : Ev d Z L xs mX7_admit 0 [some (.ref 136), some (.int x1), some (.int x2), none, none, none, none] [] I J z Φ := by
  refine Ev.blk (ops := [o0 (.aload_n 0) 1, o0 (.aload_n 0) 1, o0 (.iload_n 1) 1]) (G := True ∧ True ∧ True ∧ True) (by decide +kernel) ?_ ⟨trivial, trivial, trivial, trivial⟩ k
  rfl
theorem BX7_admit_9 {d Z L : Nat} {xs : Nat → Int32} {z : Nat} {Φ : Out → T2 → T3 → Nat → Prop} {I : T2} {J : T3} {x1 : Int32} {x2 : Int32}  
    (k : Ev d Z L xs mX7_admit 43 [some (.ref 136), some (.int x1), some (.int x2), none, none, none, none] [.int 1, .ref 136] I J z Φ) : Ev d Z L xs mX7_admit 9 [some (.ref 136), some (.int x1), some (.int x2), none, none, none, none] [.ref 136] I J z Φ := by
  refine Ev.blk (ops := [oI (.iconst 1) 1 1, oK (.goto 33) 3 43 0]) (G := True ∧ True ∧ True) (by decide +kernel) ?_ ⟨trivial, trivial, trivial⟩ k
  rfl
theorem BX7_admit_13 {d Z L : Nat} {xs : Nat → Int32} {z : Nat} {Φ : Out → T2 → T3 → Nat → Prop} {I : T2} {J : T3} {x1 : Int32} {x2 : Int32}  
    (k : Ev d Z L xs mX7_admit 15 [some (.ref 136), some (.int x1), some (.int x2), none, none, none, none] [.int 1, .int x2, .ref 136] I J z Φ) : Ev d Z L xs mX7_admit 13 [some (.ref 136), some (.int x1), some (.int x2), none, none, none, none] [.ref 136] I J z Φ := by
  refine Ev.blk (ops := [o0 (.iload_n 2) 1, oI (.iconst 1) 1 1]) (G := True ∧ True ∧ True) (by decide +kernel) ?_ ⟨trivial, trivial, trivial⟩ k
  rfl
theorem BX7_admit_18 {d Z L : Nat} {xs : Nat → Int32} {z : Nat} {Φ : Out → T2 → T3 → Nat → Prop} {I : T2} {J : T3} {x1 : Int32} {x2 : Int32}  
    (k : Ev d Z L xs mX7_admit 22 [some (.ref 136), some (.int x1), some (.int x2), none, none, none, none] [.int 1000, .int x2, .ref 136] I J z Φ) : Ev d Z L xs mX7_admit 18 [some (.ref 136), some (.int x1), some (.int x2), none, none, none, none] [.ref 136] I J z Φ := by
  refine Ev.blk (ops := [o0 (.iload_n 2) 1, oI (.sipush 1000) 3 1000]) (G := True ∧ True ∧ True) (by decide +kernel) ?_ ⟨trivial, trivial, trivial⟩ k
  rfl
theorem BX7_admit_25 {d Z L : Nat} {xs : Nat → Int32} {z : Nat} {Φ : Out → T2 → T3 → Nat → Prop} {I : T2} {J : T3} {x1 : Int32} {x2 : Int32}  
    (k : Ev d Z L xs mX7_admit 43 [some (.ref 136), some (.int x1), some (.int x2), none, none, none, none] [.int 2, .ref 136] I J z Φ) : Ev d Z L xs mX7_admit 25 [some (.ref 136), some (.int x1), some (.int x2), none, none, none, none] [.ref 136] I J z Φ := by
  refine Ev.blk (ops := [oI (.iconst 2) 1 2, oK (.goto 17) 3 43 0]) (G := True ∧ True ∧ True) (by decide +kernel) ?_ ⟨trivial, trivial, trivial⟩ k
  rfl
theorem BX7_admit_29 {d Z L : Nat} {xs : Nat → Int32} {z : Nat} {Φ : Out → T2 → T3 → Nat → Prop} {I : T2} {J : T3} {x1 : Int32} {x2 : Int32}  (g1 : vp_in x1 8)
    (k : Ev d Z L xs mX7_admit 35 [some (.ref 136), some (.int x1), some (.int x2), none, none, none, none] [.int (I 143 x1.toNatClampNeg), .ref 136] I J z Φ) : Ev d Z L xs mX7_admit 29 [some (.ref 136), some (.int x1), some (.int x2), none, none, none, none] [.ref 136] I J z Φ := by
  refine Ev.blk (ops := [o0 (.aload_n 0) 1, oK (.getfield 29) 3 7 15, o0 (.iload_n 1) 1, o0 (.baload) 1]) (G := True ∧ (kd 136 = 7) ∧ True ∧ (kd 143 = 10 ∧ vp_in x1 (ln 143)) ∧ True) (by decide +kernel) ?_ ⟨trivial, (by decide), trivial, ⟨(by decide), g1⟩, trivial⟩ k
  rfl
theorem BX7_admit_38 {d Z L : Nat} {xs : Nat → Int32} {z : Nat} {Φ : Out → T2 → T3 → Nat → Prop} {I : T2} {J : T3} {x1 : Int32} {x2 : Int32}  
    (k : Ev d Z L xs mX7_admit 43 [some (.ref 136), some (.int x1), some (.int x2), none, none, none, none] [.int 3, .ref 136] I J z Φ) : Ev d Z L xs mX7_admit 38 [some (.ref 136), some (.int x1), some (.int x2), none, none, none, none] [.ref 136] I J z Φ := by
  refine Ev.blk (ops := [oI (.iconst 3) 1 3, oK (.goto 4) 3 43 0]) (G := True ∧ True ∧ True) (by decide +kernel) ?_ ⟨trivial, trivial, trivial⟩ k
  rfl
theorem BX7_admit_42 {d Z L : Nat} {xs : Nat → Int32} {z : Nat} {Φ : Out → T2 → T3 → Nat → Prop} {I : T2} {J : T3} {x1 : Int32} {x2 : Int32}  
    (k : Ev d Z L xs mX7_admit 43 [some (.ref 136), some (.int x1), some (.int x2), none, none, none, none] [.int 0, .ref 136] I J z Φ) : Ev d Z L xs mX7_admit 42 [some (.ref 136), some (.int x1), some (.int x2), none, none, none, none] [.ref 136] I J z Φ := by
  refine Ev.blk (ops := [oI (.iconst 0) 1 0]) (G := True ∧ True) (by decide +kernel) ?_ ⟨trivial, trivial⟩ k
  rfl
theorem BX7_admit_43 {d Z L : Nat} {xs : Nat → Int32} {z : Nat} {Φ : Out → T2 → T3 → Nat → Prop} {I : T2} {J : T3} {x1 : Int32} {x2 : Int32} {xs1 : Int32}  
    (k : Ev d Z L xs mX7_admit 50 [some (.ref 136), some (.int x1), some (.int x2), none, none, none, none] [.int ((up2 I 136 0 xs1) 136 0)] (up2 I 136 0 xs1) J z Φ) : Ev d Z L xs mX7_admit 43 [some (.ref 136), some (.int x1), some (.int x2), none, none, none, none] [.int xs1, .ref 136] I J z Φ := by
  refine Ev.blk (ops := [oK (.putfield 79) 3 7 0, o0 (.aload_n 0) 1, oK (.getfield 79) 3 7 0]) (G := (kd 136 = 7) ∧ True ∧ (kd 136 = 7) ∧ True) (by decide +kernel) ?_ ⟨(by decide), trivial, (by decide), trivial⟩ k
  rfl
theorem BX7_admit_53 {d Z L : Nat} {xs : Nat → Int32} {z : Nat} {Φ : Out → T2 → T3 → Nat → Prop} {I : T2} {J : T3} {x1 : Int32} {x2 : Int32}  
    (k : Ev d Z L xs mX7_admit 54 [some (.ref 136), some (.int x1), some (.int x2), none, none, none, none] [.int 0] I J z Φ) : Ev d Z L xs mX7_admit 53 [some (.ref 136), some (.int x1), some (.int x2), none, none, none, none] [] I J z Φ := by
  refine Ev.blk (ops := [oI (.iconst 0) 1 0]) (G := True ∧ True) (by decide +kernel) ?_ ⟨trivial, trivial⟩ k
  rfl
theorem BX7_admit_55 {d Z L : Nat} {xs : Nat → Int32} {z : Nat} {Φ : Out → T2 → T3 → Nat → Prop} {I : T2} {J : T3} {x1 : Int32} {x2 : Int32}  
    (k : Ev d Z L xs mX7_admit 67 [some (.ref 136), some (.int x1), some (.int x2), some (.int ((3 * x1) + 1)), some (.int 0), some (.int 0), none] [] I J z Φ) : Ev d Z L xs mX7_admit 55 [some (.ref 136), some (.int x1), some (.int x2), none, none, none, none] [] I J z Φ := by
  refine Ev.blk (ops := [oI (.iconst 3) 1 3, o0 (.iload_n 1) 1, o0 (.imul) 1, oI (.iconst 1) 1 1, o0 (.iadd) 1, o0 (.istore_n 3) 1, oI (.iconst 0) 1 0, o0 (.istore 4) 2, oI (.iconst 0) 1 0, o0 (.istore 5) 2]) (G := True ∧ True ∧ True ∧ True ∧ True ∧ True ∧ True ∧ True ∧ True ∧ True ∧ True) (by decide +kernel) ?_ ⟨trivial, trivial, trivial, trivial, trivial, trivial, trivial, trivial, trivial, trivial, trivial⟩ k
  rfl
theorem BX7_admit_67 {d Z L : Nat} {xs : Nat → Int32} {z : Nat} {Φ : Out → T2 → T3 → Nat → Prop} {I : T2} {J : T3} {x1 : Int32} {x2 : Int32} {x3 : Int32} {x4 : Int32} {x5 : Int32}  
    (k : Ev d Z L xs mX7_admit 70 [some (.ref 136), some (.int x1), some (.int x2), some (.int x3), some (.int x4), some (.int x5), none] [.int x2, .int x5] I J z Φ) : Ev d Z L xs mX7_admit 67 [some (.ref 136), some (.int x1), some (.int x2), some (.int x3), some (.int x4), some (.int x5), none] [] I J z Φ := by
  refine Ev.blk (ops := [o0 (.iload 5) 2, o0 (.iload_n 2) 1]) (G := True ∧ True ∧ True) (by decide +kernel) ?_ ⟨trivial, trivial, trivial⟩ k
  rfl
theorem BX7_admit_73 {d Z L : Nat} {xs : Nat → Int32} {z : Nat} {Φ : Out → T2 → T3 → Nat → Prop} {I : T2} {J : T3} {x1 : Int32} {x2 : Int32} {x3 : Int32} {x4 : Int32} {x5 : Int32}  (g1 : vp_in x3 24)
    (k : Ev d Z L xs mX7_admit 85 [some (.ref 136), some (.int x1), some (.int x2), some (.int x3), some (.int x4), some (.int x5), none] [.int (I 144 x3.toNatClampNeg), .int (I 145 x3.toNatClampNeg)] I J z Φ) : Ev d Z L xs mX7_admit 73 [some (.ref 136), some (.int x1), some (.int x2), some (.int x3), some (.int x4), some (.int x5), none] [] I J z Φ := by
  refine Ev.blk (ops := [o0 (.aload_n 0) 1, oK (.getfield 36) 3 7 17, o0 (.iload_n 3) 1, o0 (.iaload) 1, o0 (.aload_n 0) 1, oK (.getfield 33) 3 7 16, o0 (.iload_n 3) 1, o0 (.iaload) 1]) (G := True ∧ (kd 136 = 7) ∧ True ∧ (kd 145 = 8 ∧ vp_in x3 (ln 145)) ∧ True ∧ (kd 136 = 7) ∧ True ∧ (kd 144 = 8 ∧ vp_in x3 (ln 144)) ∧ True) (by decide +kernel) ?_ ⟨trivial, (by decide), trivial, ⟨(by decide), g1⟩, trivial, (by decide), trivial, ⟨(by decide), g1⟩, trivial⟩ k
  rfl
theorem BX7_admit_88 {d Z L : Nat} {xs : Nat → Int32} {z : Nat} {Φ : Out → T2 → T3 → Nat → Prop} {I : T2} {J : T3} {x1 : Int32} {x2 : Int32} {x3 : Int32} {x4 : Int32} {x5 : Int32}  (g1 : vp_in x3 24)
    (k : Ev d Z L xs mX7_admit 100 [some (.ref 136), some (.int x1), some (.int x2), some (.int x3), some (.int x4), some (.int x5), none] [.int (I 146 x3.toNatClampNeg), .int (I 145 x3.toNatClampNeg)] I J z Φ) : Ev d Z L xs mX7_admit 88 [some (.ref 136), some (.int x1), some (.int x2), some (.int x3), some (.int x4), some (.int x5), none] [] I J z Φ := by
  refine Ev.blk (ops := [o0 (.aload_n 0) 1, oK (.getfield 36) 3 7 17, o0 (.iload_n 3) 1, o0 (.iaload) 1, o0 (.aload_n 0) 1, oK (.getfield 39) 3 7 18, o0 (.iload_n 3) 1, o0 (.iaload) 1]) (G := True ∧ (kd 136 = 7) ∧ True ∧ (kd 145 = 8 ∧ vp_in x3 (ln 145)) ∧ True ∧ (kd 136 = 7) ∧ True ∧ (kd 146 = 8 ∧ vp_in x3 (ln 146)) ∧ True) (by decide +kernel) ?_ ⟨trivial, (by decide), trivial, ⟨(by decide), g1⟩, trivial, (by decide), trivial, ⟨(by decide), g1⟩, trivial⟩ k
  rfl
theorem BX7_admit_103 {d Z L : Nat} {xs : Nat → Int32} {z : Nat} {Φ : Out → T2 → T3 → Nat → Prop} {I : T2} {J : T3} {x1 : Int32} {x2 : Int32} {x3 : Int32} {x4 : Int32} {x5 : Int32}  (g1 : vp_in x3 24)
    (k : Ev d Z L xs mX7_admit 133 [some (.ref 136), some (.int x1), some (.int x2), some (.int x3), some (.int x4), some (.int x5), some (.int ((I 144 x3.toNatClampNeg) - (I 146 x3.toNatClampNeg)))] [.int 16, .int ((I 144 x3.toNatClampNeg) - (I 146 x3.toNatClampNeg)), .int (I 146 x3.toNatClampNeg), .int x3, .ref 146] I J z Φ) : Ev d Z L xs mX7_admit 103 [some (.ref 136), some (.int x1), some (.int x2), some (.int x3), some (.int x4), some (.int x5), none] [] I J z Φ := by
  refine Ev.blk (ops := [o0 (.aload_n 0) 1, oK (.getfield 33) 3 7 16, o0 (.iload_n 3) 1, o0 (.iaload) 1, o0 (.aload_n 0) 1, oK (.getfield 39) 3 7 18, o0 (.iload_n 3) 1, o0 (.iaload) 1, o0 (.isub) 1, o0 (.istore 6) 2, o0 (.aload_n 0) 1, oK (.getfield 39) 3 7 18, o0 (.iload_n 3) 1, o0 (.aload_n 0) 1, oK (.getfield 39) 3 7 18, o0 (.iload_n 3) 1, o0 (.iaload) 1, o0 (.iload 6) 2, oI (.bipush 16) 2 16]) (G := True ∧ (kd 136 = 7) ∧ True ∧ (kd 144 = 8 ∧ vp_in x3 (ln 144)) ∧ True ∧ (kd 136 = 7) ∧ True ∧ (kd 146 = 8 ∧ vp_in x3 (ln 146)) ∧ True ∧ True ∧ True ∧ (kd 136 = 7) ∧ True ∧ True ∧ (kd 136 = 7) ∧ True ∧ (kd 146 = 8 ∧ vp_in x3 (ln 146)) ∧ True ∧ True ∧ True) (by decide +kernel) ?_ ⟨trivial, (by decide), trivial, ⟨(by decide), g1⟩, trivial, (by decide), trivial, ⟨(by decide), g1⟩, trivial, trivial, trivial, (by decide), trivial, trivial, (by decide), trivial, ⟨(by decide), g1⟩, trivial, trivial, trivial⟩ k
  rfl
theorem BX7_admit_136 {d Z L : Nat} {xs : Nat → Int32} {z : Nat} {Φ : Out → T2 → T3 → Nat → Prop} {I : T2} {J : T3} {x1 : Int32} {x2 : Int32} {x3 : Int32} {x4 : Int32} {x5 : Int32} {x6 : Int32} {as0 : Nat} {xs1 : Int32} {xs2 : Int32}  
    (k : Ev d Z L xs mX7_admit 143 [some (.ref 136), some (.int x1), some (.int x2), some (.int x3), some (.int x4), some (.int x5), some (.int x6)] [.int 16, .int xs2, .int xs1, .ref as0] I J z Φ) : Ev d Z L xs mX7_admit 136 [some (.ref 136), some (.int x1), some (.int x2), some (.int x3), some (.int x4), some (.int x5), some (.int x6)] [.int xs2, .int xs1, .ref as0] I J z Φ := by
  refine Ev.blk (ops := [oI (.bipush 16) 2 16, oK (.goto 5) 3 143 0]) (G := True ∧ True ∧ True) (by decide +kernel) ?_ ⟨trivial, trivial, trivial⟩ k
  rfl
theorem BX7_admit_141 {d Z L : Nat} {xs : Nat → Int32} {z : Nat} {Φ : Out → T2 → T3 → Nat → Prop} {I : T2} {J : T3} {x1 : Int32} {x2 : Int32} {x3 : Int32} {x4 : Int32} {x5 : Int32} {x6 : Int32} {as0 : Nat} {xs1 : Int32} {xs2 : Int32}  
    (k : Ev d Z L xs mX7_admit 143 [some (.ref 136), some (.int x1), some (.int x2), some (.int x3), some (.int x4), some (.int x5), some (.int x6)] [.int x6, .int xs2, .int xs1, .ref as0] I J z Φ) : Ev d Z L xs mX7_admit 141 [some (.ref 136), some (.int x1), some (.int x2), some (.int x3), some (.int x4), some (.int x5), some (.int x6)] [.int xs2, .int xs1, .ref as0] I J z Φ := by
  refine Ev.blk (ops := [o0 (.iload 6) 2]) (G := True ∧ True) (by decide +kernel) ?_ ⟨trivial, trivial⟩ k
  rfl
theorem BX7_admit_143 {d Z L : Nat} {xs : Nat → Int32} {z : Nat} {Φ : Out → T2 → T3 → Nat → Prop} {I : T2} {J : T3} {x1 : Int32} {x2 : Int32} {x3 : Int32} {x4 : Int32} {x5 : Int32} {x6 : Int32} {as0 : Nat} {xs1 : Int32} {xs2 : Int32} {xs3 : Int32} (hk_as0 : kd as0 = 8) (g1 : vp_in xs1 (ln as0))
    (k : Ev d Z L xs mX7_admit 145 [some (.ref 136), some (.int x1), some (.int x2), some (.int x3), some (.int x4), some (.int x5), some (.int x6)] [] (up2 I as0 xs1.toNatClampNeg (xs2 + xs3)) J z Φ) : Ev d Z L xs mX7_admit 143 [some (.ref 136), some (.int x1), some (.int x2), some (.int x3), some (.int x4), some (.int x5), some (.int x6)] [.int xs3, .int xs2, .int xs1, .ref as0] I J z Φ := by
  refine Ev.blk (ops := [o0 (.iadd) 1, o0 (.iastore) 1]) (G := True ∧ (kd as0 = 8 ∧ vp_in xs1 (ln as0)) ∧ True) (by decide +kernel) ?_ ⟨trivial, ⟨hk_as0, g1⟩, trivial⟩ k
  rfl
theorem BX7_admit_145 {d Z L : Nat} {xs : Nat → Int32} {z : Nat} {Φ : Out → T2 → T3 → Nat → Prop} {I : T2} {J : T3} {x1 : Int32} {x2 : Int32} {x3 : Int32} {x4 : Int32} {x5 : Int32}  (g1 : vp_in x3 24) (g2 : vp_in x1 8)
    (k : Ev d Z L xs mX7_admit 167 [some (.ref 136), some (.int x1), some (.int x2), some (.int x3), some (.int (x4 + 1)), some (.int x5), none] [.int 200, .int ((up2 I 145 x3.toNatClampNeg ((I 145 x3.toNatClampNeg) + 1)) 142 x1.toNatClampNeg)] (up2 I 145 x3.toNatClampNeg ((I 145 x3.toNatClampNeg) + 1)) J z Φ) : Ev d Z L xs mX7_admit 145 [some (.ref 136), some (.int x1), some (.int x2), some (.int x3), some (.int x4), some (.int x5), none] [] I J z Φ := by
  refine Ev.blk (ops := [o0 (.aload_n 0) 1, oK (.getfield 36) 3 7 17, o0 (.iload_n 3) 1, o0 (.dup2) 1, o0 (.iaload) 1, oI (.iconst 1) 1 1, o0 (.iadd) 1, o0 (.iastore) 1, oI (.iinc 4 1) 3 1, o0 (.aload_n 0) 1, oK (.getfield 26) 3 7 14, o0 (.iload_n 1) 1, o0 (.iaload) 1, oI (.sipush 200) 3 200]) (G := True ∧ (kd 136 = 7) ∧ True ∧ True ∧ (kd 145 = 8 ∧ vp_in x3 (ln 145)) ∧ True ∧ True ∧ (kd 145 = 8 ∧ vp_in x3 (ln 145)) ∧ True ∧ True ∧ (kd 136 = 7) ∧ True ∧ (kd 142 = 8 ∧ vp_in x1 (ln 142)) ∧ True ∧ True) (by decide +kernel) ?_ ⟨trivial, (by decide), trivial, trivial, ⟨(by decide), g1⟩, trivial, trivial, ⟨(by decide), g1⟩, trivial, trivial, (by decide), trivial, ⟨(by decide), g2⟩, trivial, trivial⟩ k
  rfl
theorem BX7_admit_170 {d Z L : Nat} {xs : Nat → Int32} {z : Nat} {Φ : Out → T2 → T3 → Nat → Prop} {I : T2} {J : T3} {x1 : Int32} {x2 : Int32} {x3 : Int32} {x4 : Int32} {x5 : Int32}  (g1 : vp_in x1 8) (g2 : vp_in (I 142 x1.toNatClampNeg) 200)
    (k : Ev d Z L xs mX7_admit 185 [some (.ref 136), some (.int x1), some (.int x2), some (.int x3), some (.int x4), some (.int x5), none] [] (up2 I 152 (I 142 x1.toNatClampNeg).toNatClampNeg ((I 152 (I 142 x1.toNatClampNeg).toNatClampNeg) + 1)) J z Φ) : Ev d Z L xs mX7_admit 170 [some (.ref 136), some (.int x1), some (.int x2), some (.int x3), some (.int x4), some (.int x5), none] [] I J z Φ := by
  refine Ev.blk (ops := [o0 (.aload_n 0) 1, oK (.getfield 57) 3 7 25, o0 (.aload_n 0) 1, oK (.getfield 26) 3 7 14, o0 (.iload_n 1) 1, o0 (.iaload) 1, o0 (.dup2) 1, o0 (.iaload) 1, oI (.iconst 1) 1 1, o0 (.iadd) 1, o0 (.iastore) 1]) (G := True ∧ (kd 136 = 7) ∧ True ∧ (kd 136 = 7) ∧ True ∧ (kd 142 = 8 ∧ vp_in x1 (ln 142)) ∧ True ∧ (kd 152 = 8 ∧ vp_in (I 142 x1.toNatClampNeg) (ln 152)) ∧ True ∧ True ∧ (kd 152 = 8 ∧ vp_in (I 142 x1.toNatClampNeg) (ln 152)) ∧ True) (by decide +kernel) ?_ ⟨trivial, (by decide), trivial, (by decide), trivial, ⟨(by decide), g1⟩, trivial, ⟨(by decide), g2⟩, trivial, trivial, ⟨(by decide), g2⟩, trivial⟩ k
  rfl
theorem BX7_admit_185 {d Z L : Nat} {xs : Nat → Int32} {z : Nat} {Φ : Out → T2 → T3 → Nat → Prop} {I : T2} {J : T3} {x1 : Int32} {x2 : Int32} {x3 : Int32} {x4 : Int32} {x5 : Int32}  
    (k : Ev d Z L xs mX7_admit 186 [some (.ref 136), some (.int x1), some (.int x2), some (.int x3), some (.int x4), some (.int x5), none] [.ref 136] I J z Φ) : Ev d Z L xs mX7_admit 185 [some (.ref 136), some (.int x1), some (.int x2), some (.int x3), some (.int x4), some (.int x5), none] [] I J z Φ := by
  refine Ev.blk (ops := [o0 (.aload_n 0) 1]) (G := True ∧ True) (by decide +kernel) ?_ ⟨trivial, trivial⟩ k
  rfl
theorem BX7_admit_189 {d Z L : Nat} {xs : Nat → Int32} {z : Nat} {Φ : Out → T2 → T3 → Nat → Prop} {I : T2} {J : T3} {x1 : Int32} {x2 : Int32} {x3 : Int32} {x4 : Int32} {x5 : Int32}  
    (k : Ev d Z L xs mX7_admit 67 [some (.ref 136), some (.int x1), some (.int x2), some (.int x3), some (.int x4), some (.int (x5 + 1)), none] [] I J z Φ) : Ev d Z L xs mX7_admit 189 [some (.ref 136), some (.int x1), some (.int x2), some (.int x3), some (.int x4), some (.int x5), none] [] I J z Φ := by
  refine Ev.blk (ops := [oI (.iinc 5 1) 3 1, oK (.goto (-125)) 3 67 0]) (G := True ∧ True ∧ True) (by decide +kernel) ?_ ⟨trivial, trivial, trivial⟩ k
  rfl
theorem BX7_admit_195 {d Z L : Nat} {xs : Nat → Int32} {z : Nat} {Φ : Out → T2 → T3 → Nat → Prop} {I : T2} {J : T3} {x1 : Int32} {x2 : Int32} {x3 : Int32} {x4 : Int32} {x5 : Int32}  
    (k : Ev d Z L xs mX7_admit 197 [some (.ref 136), some (.int x1), some (.int x2), some (.int x3), some (.int x4), some (.int x5), none] [.int x4] I J z Φ) : Ev d Z L xs mX7_admit 195 [some (.ref 136), some (.int x1), some (.int x2), some (.int x3), some (.int x4), some (.int x5), none] [] I J z Φ := by
  refine Ev.blk (ops := [o0 (.iload 4) 2]) (G := True ∧ True) (by decide +kernel) ?_ ⟨trivial, trivial⟩ k
  rfl
theorem BX7_remember_0 {d Z L : Nat} {xs : Nat → Int32} {z : Nat} {Φ : Out → T2 → T3 → Nat → Prop} {I : T2} {J : T3}   
    (k : Ev d Z L xs mX7_remember 7 [some (.ref 136), none] [.int 2000, .int (I 136 27)] I J z Φ) : Ev d Z L xs mX7_remember 0 [some (.ref 136), none] [] I J z Φ := by
  refine Ev.blk (ops := [o0 (.aload_n 0) 1, oK (.getfield 112) 3 7 27, oI (.sipush 2000) 3 2000]) (G := True ∧ (kd 136 = 7) ∧ True ∧ True) (by decide +kernel) ?_ ⟨trivial, (by decide), trivial, trivial⟩ k
  rfl
theorem BX7_remember_10 {d Z L : Nat} {xs : Nat → Int32} {z : Nat} {Φ : Out → T2 → T3 → Nat → Prop} {I : T2} {J : T3}   
    (k : Ev d Z L xs mX7_remember 12 [some (.ref 136), some (.int 0)] [] I J z Φ) : Ev d Z L xs mX7_remember 10 [some (.ref 136), none] [] I J z Φ := by
  refine Ev.blk (ops := [oI (.iconst 0) 1 0, o0 (.istore_n 1) 1]) (G := True ∧ True ∧ True) (by decide +kernel) ?_ ⟨trivial, trivial, trivial⟩ k
  rfl
theorem BX7_remember_12 {d Z L : Nat} {xs : Nat → Int32} {z : Nat} {Φ : Out → T2 → T3 → Nat → Prop} {I : T2} {J : T3} {x1 : Int32}  
    (k : Ev d Z L xs mX7_remember 18 [some (.ref 136), some (.int x1)] [.int 2000, .int (x1 + 1)] I J z Φ) : Ev d Z L xs mX7_remember 12 [some (.ref 136), some (.int x1)] [] I J z Φ := by
  refine Ev.blk (ops := [o0 (.iload_n 1) 1, oI (.iconst 1) 1 1, o0 (.iadd) 1, oI (.sipush 2000) 3 2000]) (G := True ∧ True ∧ True ∧ True ∧ True) (by decide +kernel) ?_ ⟨trivial, trivial, trivial, trivial, trivial⟩ k
  rfl
theorem BX7_remember_21 {d Z L : Nat} {xs : Nat → Int32} {z : Nat} {Φ : Out → T2 → T3 → Nat → Prop} {I : T2} {J : T3} {x1 : Int32}  (g1 : vp_in (x1 + 1) 2000) (g2 : vp_in x1 2000)
    (k : Ev d Z L xs mX7_remember 12 [some (.ref 136), some (.int (x1 + 1))] [] I (up3 J 153 x1.toNatClampNeg (J 153 (x1 + 1).toNatClampNeg)) z Φ) : Ev d Z L xs mX7_remember 21 [some (.ref 136), some (.int x1)] [] I J z Φ := by
  refine Ev.blk (ops := [o0 (.aload_n 0) 1, oK (.getfield 60) 3 7 26, o0 (.iload_n 1) 1, o0 (.aload_n 0) 1, oK (.getfield 60) 3 7 26, o0 (.iload_n 1) 1, oI (.iconst 1) 1 1, o0 (.iadd) 1, o0 (.laload) 1, o0 (.lastore) 1, oI (.iinc 1 1) 3 1, oK (.goto (-26)) 3 12 0]) (G := True ∧ (kd 136 = 7) ∧ True ∧ True ∧ (kd 136 = 7) ∧ True ∧ True ∧ True ∧ (kd 153 = 9 ∧ vp_in (x1 + 1) (ln 153)) ∧ (kd 153 = 9 ∧ vp_in x1 (ln 153)) ∧ True ∧ True ∧ True) (by decide +kernel) ?_ ⟨trivial, (by decide), trivial, trivial, (by decide), trivial, trivial, trivial, ⟨(by decide), g1⟩, ⟨(by decide), g2⟩, trivial, trivial, trivial⟩ k
  rfl
theorem BX7_remember_41 {d Z L : Nat} {xs : Nat → Int32} {z : Nat} {Φ : Out → T2 → T3 → Nat → Prop} {I : T2} {J : T3} {x1 : Int32}  
    (k : Ev d Z L xs mX7_remember 51 [some (.ref 136), some (.int x1)] [] (up2 I 136 27 ((I 136 27) - 1)) J z Φ) : Ev d Z L xs mX7_remember 41 [some (.ref 136), some (.int x1)] [] I J z Φ := by
  refine Ev.blk (ops := [o0 (.aload_n 0) 1, o0 (.dup) 1, oK (.getfield 112) 3 7 27, oI (.iconst 1) 1 1, o0 (.isub) 1, oK (.putfield 112) 3 7 27]) (G := True ∧ True ∧ (kd 136 = 7) ∧ True ∧ True ∧ (kd 136 = 7) ∧ True) (by decide +kernel) ?_ ⟨trivial, trivial, (by decide), trivial, trivial, (by decide), trivial⟩ k
  rfl
theorem BX7_remember_51 {d Z L : Nat} {xs : Nat → Int32} {z : Nat} {Φ : Out → T2 → T3 → Nat → Prop} {I : T2} {J : T3}   (g1 : vp_in (I 136 27) 2000)
    (k : Ev d Z L xs mX7_remember 74 [some (.ref 136), none] [] (up2 I 136 27 ((I 136 27) + 1)) (up3 J 153 (I 136 27).toNatClampNeg (J 136 5)) z Φ) : Ev d Z L xs mX7_remember 51 [some (.ref 136), none] [] I J z Φ := by
  refine Ev.blk (ops := [o0 (.aload_n 0) 1, oK (.getfield 60) 3 7 26, o0 (.aload_n 0) 1, oK (.getfield 112) 3 7 27, o0 (.aload_n 0) 1, oK (.getfield 95) 3 7 5, o0 (.lastore) 1, o0 (.aload_n 0) 1, o0 (.dup) 1, oK (.getfield 112) 3 7 27, oI (.iconst 1) 1 1, o0 (.iadd) 1, oK (.putfield 112) 3 7 27]) (G := True ∧ (kd 136 = 7) ∧ True ∧ (kd 136 = 7) ∧ True ∧ (kd 136 = 7) ∧ (kd 153 = 9 ∧ vp_in (I 136 27) (ln 153)) ∧ True ∧ True ∧ (kd 136 = 7) ∧ True ∧ True ∧ (kd 136 = 7) ∧ True) (by decide +kernel) ?_ ⟨trivial, (by decide), trivial, (by decide), trivial, (by decide), ⟨(by decide), g1⟩, trivial, trivial, (by decide), trivial, trivial, (by decide), trivial⟩ k
  rfl
theorem BX7_busiest_0 {d Z L : Nat} {xs : Nat → Int32} {z : Nat} {Φ : Out → T2 → T3 → Nat → Prop} {I : T2} {J : T3} {x1 : Int32}  
    (k : Ev d Z L xs mX7_busiest 3 [some (.ref 136), some (.int x1), none, none, none] [.int 1, .int x1, .ref 136] I J z Φ) : Ev d Z L xs mX7_busiest 0 [some (.ref 136), some (.int x1), none, none, none] [] I J z Φ := by
  refine Ev.blk (ops := [o0 (.aload_n 0) 1, o0 (.iload_n 1) 1, oI (.iconst 1) 1 1]) (G := True ∧ True ∧ True ∧ True) (by decide +kernel) ?_ ⟨trivial, trivial, trivial, trivial⟩ k
  rfl
theorem BX7_busiest_6 {d Z L : Nat} {xs : Nat → Int32} {z : Nat} {Φ : Out → T2 → T3 → Nat → Prop} {I : T2} {J : T3} {x1 : Int32}  
    (k : Ev d Z L xs mX7_busiest 9 [some (.ref 136), some (.int x1), none, none, none] [.int 1000000, .int x1, .ref 136] I J z Φ) : Ev d Z L xs mX7_busiest 6 [some (.ref 136), some (.int x1), none, none, none] [.ref 136] I J z Φ := by
  refine Ev.blk (ops := [o0 (.iload_n 1) 1, oI (.ldc 115) 2 1000000]) (G := True ∧ True ∧ True) (by decide +kernel) ?_ ⟨trivial, trivial, trivial⟩ k
  rfl
theorem BX7_busiest_12 {d Z L : Nat} {xs : Nat → Int32} {z : Nat} {Φ : Out → T2 → T3 → Nat → Prop} {I : T2} {J : T3} {x1 : Int32}  
    (k : Ev d Z L xs mX7_busiest 17 [some (.ref 136), some (.int x1), none, none, none] [.int 0, .ref 136] I J z Φ) : Ev d Z L xs mX7_busiest 12 [some (.ref 136), some (.int x1), none, none, none] [.ref 136] I J z Φ := by
  refine Ev.blk (ops := [oI (.iconst 0) 1 0, oK (.goto 4) 3 17 0]) (G := True ∧ True ∧ True) (by decide +kernel) ?_ ⟨trivial, trivial, trivial⟩ k
  rfl
theorem BX7_busiest_16 {d Z L : Nat} {xs : Nat → Int32} {z : Nat} {Φ : Out → T2 → T3 → Nat → Prop} {I : T2} {J : T3} {x1 : Int32}  
    (k : Ev d Z L xs mX7_busiest 17 [some (.ref 136), some (.int x1), none, none, none] [.int 1, .ref 136] I J z Φ) : Ev d Z L xs mX7_busiest 16 [some (.ref 136), some (.int x1), none, none, none] [.ref 136] I J z Φ := by
  refine Ev.blk (ops := [oI (.iconst 1) 1 1]) (G := True ∧ True) (by decide +kernel) ?_ ⟨trivial, trivial⟩ k
  rfl
theorem BX7_busiest_17 {d Z L : Nat} {xs : Nat → Int32} {z : Nat} {Φ : Out → T2 → T3 → Nat → Prop} {I : T2} {J : T3} {x1 : Int32} {xs1 : Int32}  
    (k : Ev d Z L xs mX7_busiest 24 [some (.ref 136), some (.int x1), none, none, none] [.int ((up2 I 136 0 xs1) 136 0)] (up2 I 136 0 xs1) J z Φ) : Ev d Z L xs mX7_busiest 17 [some (.ref 136), some (.int x1), none, none, none] [.int xs1, .ref 136] I J z Φ := by
  refine Ev.blk (ops := [oK (.putfield 79) 3 7 0, o0 (.aload_n 0) 1, oK (.getfield 79) 3 7 0]) (G := (kd 136 = 7) ∧ True ∧ (kd 136 = 7) ∧ True) (by decide +kernel) ?_ ⟨(by decide), trivial, (by decide), trivial⟩ k
  rfl
theorem BX7_busiest_27 {d Z L : Nat} {xs : Nat → Int32} {z : Nat} {Φ : Out → T2 → T3 → Nat → Prop} {I : T2} {J : T3} {x1 : Int32}  
    (k : Ev d Z L xs mX7_busiest 28 [some (.ref 136), some (.int x1), none, none, none] [.int 0] I J z Φ) : Ev d Z L xs mX7_busiest 27 [some (.ref 136), some (.int x1), none, none, none] [] I J z Φ := by
  refine Ev.blk (ops := [oI (.iconst 0) 1 0]) (G := True ∧ True) (by decide +kernel) ?_ ⟨trivial, trivial⟩ k
  rfl
theorem BX7_busiest_29 {d Z L : Nat} {xs : Nat → Int32} {z : Nat} {Φ : Out → T2 → T3 → Nat → Prop} {I : T2} {J : T3} {x1 : Int32}  
    (k : Ev d Z L xs mX7_busiest 36 [some (.ref 136), some (.int x1), some (.int 0), some (.int 0), some (.int 0)] [] I J z Φ) : Ev d Z L xs mX7_busiest 29 [some (.ref 136), some (.int x1), none, none, none] [] I J z Φ := by
  refine Ev.blk (ops := [oI (.iconst 0) 1 0, o0 (.istore_n 2) 1, oI (.iconst 0) 1 0, o0 (.istore_n 3) 1, oI (.iconst 0) 1 0, o0 (.istore 4) 2]) (G := True ∧ True ∧ True ∧ True ∧ True ∧ True ∧ True) (by decide +kernel) ?_ ⟨trivial, trivial, trivial, trivial, trivial, trivial, trivial⟩ k
  rfl
theorem BX7_busiest_36 {d Z L : Nat} {xs : Nat → Int32} {z : Nat} {Φ : Out → T2 → T3 → Nat → Prop} {I : T2} {J : T3} {x1 : Int32} {x2 : Int32} {x3 : Int32} {x4 : Int32}  
    (k : Ev d Z L xs mX7_busiest 42 [some (.ref 136), some (.int x1), some (.int x2), some (.int x3), some (.int x4)] [.int (I 136 27), .int x4] I J z Φ) : Ev d Z L xs mX7_busiest 36 [some (.ref 136), some (.int x1), some (.int x2), some (.int x3), some (.int x4)] [] I J z Φ := by
  refine Ev.blk (ops := [o0 (.iload 4) 2, o0 (.aload_n 0) 1, oK (.getfield 112) 3 7 27]) (G := True ∧ True ∧ (kd 136 = 7) ∧ True) (by decide +kernel) ?_ ⟨trivial, trivial, (by decide), trivial⟩ k
  rfl
theorem BX7_busiest_45 {d Z L : Nat} {xs : Nat → Int32} {z : Nat} {Φ : Out → T2 → T3 → Nat → Prop} {I : T2} {J : T3} {x1 : Int32} {x2 : Int32} {x3 : Int32} {x4 : Int32}  (g1 : vp_in x4 2000) (g2 : vp_in x3 2000)
    (k : Ev d Z L xs mX7_busiest 62 [some (.ref 136), some (.int x1), some (.int x2), some (.int x3), some (.int x4)] [.int (lg_cmp ((J 153 x4.toNatClampNeg) - (J 153 x3.toNatClampNeg)) x1.toInt64)] I J z Φ) : Ev d Z L xs mX7_busiest 45 [some (.ref 136), some (.int x1), some (.int x2), some (.int x3), some (.int x4)] [] I J z Φ := by
  refine Ev.blk (ops := [o0 (.aload_n 0) 1, oK (.getfield 60) 3 7 26, o0 (.iload 4) 2, o0 (.laload) 1, o0 (.aload_n 0) 1, oK (.getfield 60) 3 7 26, o0 (.iload_n 3) 1, o0 (.laload) 1, o0 (.lsub) 1, o0 (.iload_n 1) 1, o0 (.i2l) 1, o0 (.lcmp) 1]) (G := True ∧ (kd 136 = 7) ∧ True ∧ (kd 153 = 9 ∧ vp_in x4 (ln 153)) ∧ True ∧ (kd 136 = 7) ∧ True ∧ (kd 153 = 9 ∧ vp_in x3 (ln 153)) ∧ True ∧ True ∧ True ∧ True ∧ True) (by decide +kernel) ?_ ⟨trivial, (by decide), trivial, ⟨(by decide), g1⟩, trivial, (by decide), trivial, ⟨(by decide), g2⟩, trivial, trivial, trivial, trivial, trivial⟩ k
  rfl
theorem BX7_busiest_65 {d Z L : Nat} {xs : Nat → Int32} {z : Nat} {Φ : Out → T2 → T3 → Nat → Prop} {I : T2} {J : T3} {x1 : Int32} {x2 : Int32} {x3 : Int32} {x4 : Int32}  
    (k : Ev d Z L xs mX7_busiest 45 [some (.ref 136), some (.int x1), some (.int x2), some (.int (x3 + 1)), some (.int x4)] [] I J z Φ) : Ev d Z L xs mX7_busiest 65 [some (.ref 136), some (.int x1), some (.int x2), some (.int x3), some (.int x4)] [] I J z Φ := by
  refine Ev.blk (ops := [oI (.iinc 3 1) 3 1, oK (.goto (-23)) 3 45 0]) (G := True ∧ True ∧ True) (by decide +kernel) ?_ ⟨trivial, trivial, trivial⟩ k
  rfl
theorem BX7_busiest_71 {d Z L : Nat} {xs : Nat → Int32} {z : Nat} {Φ : Out → T2 → T3 → Nat → Prop} {I : T2} {J : T3} {x1 : Int32} {x2 : Int32} {x3 : Int32} {x4 : Int32}  
    (k : Ev d Z L xs mX7_busiest 78 [some (.ref 136), some (.int x1), some (.int x2), some (.int x3), some (.int x4)] [.int x2, .int ((x4 - x3) + 1)] I J z Φ) : Ev d Z L xs mX7_busiest 71 [some (.ref 136), some (.int x1), some (.int x2), some (.int x3), some (.int x4)] [] I J z Φ := by
  refine Ev.blk (ops := [o0 (.iload 4) 2, o0 (.iload_n 3) 1, o0 (.isub) 1, oI (.iconst 1) 1 1, o0 (.iadd) 1, o0 (.iload_n 2) 1]) (G := True ∧ True ∧ True ∧ True ∧ True ∧ True ∧ True) (by decide +kernel) ?_ ⟨trivial, trivial, trivial, trivial, trivial, trivial, trivial⟩ k
  rfl
theorem BX7_busiest_81 {d Z L : Nat} {xs : Nat → Int32} {z : Nat} {Φ : Out → T2 → T3 → Nat → Prop} {I : T2} {J : T3} {x1 : Int32} {x2 : Int32} {x3 : Int32} {x4 : Int32}  
    (k : Ev d Z L xs mX7_busiest 91 [some (.ref 136), some (.int x1), some (.int x2), some (.int x3), some (.int x4)] [.int ((x4 - x3) + 1)] I J z Φ) : Ev d Z L xs mX7_busiest 81 [some (.ref 136), some (.int x1), some (.int x2), some (.int x3), some (.int x4)] [] I J z Φ := by
  refine Ev.blk (ops := [o0 (.iload 4) 2, o0 (.iload_n 3) 1, o0 (.isub) 1, oI (.iconst 1) 1 1, o0 (.iadd) 1, oK (.goto 4) 3 91 0]) (G := True ∧ True ∧ True ∧ True ∧ True ∧ True ∧ True) (by decide +kernel) ?_ ⟨trivial, trivial, trivial, trivial, trivial, trivial, trivial⟩ k
  rfl
theorem BX7_busiest_90 {d Z L : Nat} {xs : Nat → Int32} {z : Nat} {Φ : Out → T2 → T3 → Nat → Prop} {I : T2} {J : T3} {x1 : Int32} {x2 : Int32} {x3 : Int32} {x4 : Int32}  
    (k : Ev d Z L xs mX7_busiest 91 [some (.ref 136), some (.int x1), some (.int x2), some (.int x3), some (.int x4)] [.int x2] I J z Φ) : Ev d Z L xs mX7_busiest 90 [some (.ref 136), some (.int x1), some (.int x2), some (.int x3), some (.int x4)] [] I J z Φ := by
  refine Ev.blk (ops := [o0 (.iload_n 2) 1]) (G := True ∧ True) (by decide +kernel) ?_ ⟨trivial, trivial⟩ k
  rfl
theorem BX7_busiest_91 {d Z L : Nat} {xs : Nat → Int32} {z : Nat} {Φ : Out → T2 → T3 → Nat → Prop} {I : T2} {J : T3} {x1 : Int32} {x2 : Int32} {x3 : Int32} {x4 : Int32} {xs0 : Int32}  
    (k : Ev d Z L xs mX7_busiest 36 [some (.ref 136), some (.int x1), some (.int xs0), some (.int x3), some (.int (x4 + 1))] [] I J z Φ) : Ev d Z L xs mX7_busiest 91 [some (.ref 136), some (.int x1), some (.int x2), some (.int x3), some (.int x4)] [.int xs0] I J z Φ := by
  refine Ev.blk (ops := [o0 (.istore_n 2) 1, oI (.iinc 4 1) 3 1, oK (.goto (-59)) 3 36 0]) (G := True ∧ True ∧ True ∧ True) (by decide +kernel) ?_ ⟨trivial, trivial, trivial, trivial⟩ k
  rfl
theorem BX7_busiest_98 {d Z L : Nat} {xs : Nat → Int32} {z : Nat} {Φ : Out → T2 → T3 → Nat → Prop} {I : T2} {J : T3} {x1 : Int32} {x2 : Int32} {x3 : Int32} {x4 : Int32}  
    (k : Ev d Z L xs mX7_busiest 99 [some (.ref 136), some (.int x1), some (.int x2), some (.int x3), some (.int x4)] [.int x2] I J z Φ) : Ev d Z L xs mX7_busiest 98 [some (.ref 136), some (.int x1), some (.int x2), some (.int x3), some (.int x4)] [] I J z Φ := by
  refine Ev.blk (ops := [o0 (.iload_n 2) 1]) (G := True ∧ True) (by decide +kernel) ?_ ⟨trivial, trivial⟩ k
  rfl
theorem BX7_plead_0 {d Z L : Nat} {xs : Nat → Int32} {z : Nat} {Φ : Out → T2 → T3 → Nat → Prop} {I : T2} {J : T3} {x1 : Int32} {x2 : Int32}  
    (k : Ev d Z L xs mX7_plead 3 [some (.ref 136), some (.int x1), some (.int x2)] [.int x1, .ref 136, .ref 136] I J z Φ) : Ev d Z L xs mX7_plead 0 [some (.ref 136), some (.int x1), some (.int x2)] [] I J z Φ := by
  refine Ev.blk (ops := [o0 (.aload_n 0) 1, o0 (.aload_n 0) 1, o0 (.iload_n 1) 1]) (G := True ∧ True ∧ True ∧ True) (by decide +kernel) ?_ ⟨trivial, trivial, trivial, trivial⟩ k
  rfl
theorem BX7_plead_9 {d Z L : Nat} {xs : Nat → Int32} {z : Nat} {Φ : Out → T2 → T3 → Nat → Prop} {I : T2} {J : T3} {x1 : Int32} {x2 : Int32}  
    (k : Ev d Z L xs mX7_plead 54 [some (.ref 136), some (.int x1), some (.int x2)] [.int 1, .ref 136] I J z Φ) : Ev d Z L xs mX7_plead 9 [some (.ref 136), some (.int x1), some (.int x2)] [.ref 136] I J z Φ := by
  refine Ev.blk (ops := [oI (.iconst 1) 1 1, oK (.goto 44) 3 54 0]) (G := True ∧ True ∧ True) (by decide +kernel) ?_ ⟨trivial, trivial, trivial⟩ k
  rfl
theorem BX7_plead_13 {d Z L : Nat} {xs : Nat → Int32} {z : Nat} {Φ : Out → T2 → T3 → Nat → Prop} {I : T2} {J : T3} {x1 : Int32} {x2 : Int32}  
    (k : Ev d Z L xs mX7_plead 15 [some (.ref 136), some (.int x1), some (.int x2)] [.int 1, .int x2, .ref 136] I J z Φ) : Ev d Z L xs mX7_plead 13 [some (.ref 136), some (.int x1), some (.int x2)] [.ref 136] I J z Φ := by
  refine Ev.blk (ops := [o0 (.iload_n 2) 1, oI (.iconst 1) 1 1]) (G := True ∧ True ∧ True) (by decide +kernel) ?_ ⟨trivial, trivial, trivial⟩ k
  rfl
theorem BX7_plead_18 {d Z L : Nat} {xs : Nat → Int32} {z : Nat} {Φ : Out → T2 → T3 → Nat → Prop} {I : T2} {J : T3} {x1 : Int32} {x2 : Int32}  
    (k : Ev d Z L xs mX7_plead 21 [some (.ref 136), some (.int x1), some (.int x2)] [.int 1000000, .int x2, .ref 136] I J z Φ) : Ev d Z L xs mX7_plead 18 [some (.ref 136), some (.int x1), some (.int x2)] [.ref 136] I J z Φ := by
  refine Ev.blk (ops := [o0 (.iload_n 2) 1, oI (.ldc 115) 2 1000000]) (G := True ∧ True ∧ True) (by decide +kernel) ?_ ⟨trivial, trivial, trivial⟩ k
  rfl
theorem BX7_plead_24 {d Z L : Nat} {xs : Nat → Int32} {z : Nat} {Φ : Out → T2 → T3 → Nat → Prop} {I : T2} {J : T3} {x1 : Int32} {x2 : Int32}  
    (k : Ev d Z L xs mX7_plead 54 [some (.ref 136), some (.int x1), some (.int x2)] [.int 2, .ref 136] I J z Φ) : Ev d Z L xs mX7_plead 24 [some (.ref 136), some (.int x1), some (.int x2)] [.ref 136] I J z Φ := by
  refine Ev.blk (ops := [oI (.iconst 2) 1 2, oK (.goto 29) 3 54 0]) (G := True ∧ True ∧ True) (by decide +kernel) ?_ ⟨trivial, trivial, trivial⟩ k
  rfl
theorem BX7_plead_28 {d Z L : Nat} {xs : Nat → Int32} {z : Nat} {Φ : Out → T2 → T3 → Nat → Prop} {I : T2} {J : T3} {x1 : Int32} {x2 : Int32}  (g1 : vp_in x1 8)
    (k : Ev d Z L xs mX7_plead 34 [some (.ref 136), some (.int x1), some (.int x2)] [.int (I 143 x1.toNatClampNeg), .ref 136] I J z Φ) : Ev d Z L xs mX7_plead 28 [some (.ref 136), some (.int x1), some (.int x2)] [.ref 136] I J z Φ := by
  refine Ev.blk (ops := [o0 (.aload_n 0) 1, oK (.getfield 29) 3 7 15, o0 (.iload_n 1) 1, o0 (.baload) 1]) (G := True ∧ (kd 136 = 7) ∧ True ∧ (kd 143 = 10 ∧ vp_in x1 (ln 143)) ∧ True) (by decide +kernel) ?_ ⟨trivial, (by decide), trivial, ⟨(by decide), g1⟩, trivial⟩ k
  rfl
theorem BX7_plead_37 {d Z L : Nat} {xs : Nat → Int32} {z : Nat} {Φ : Out → T2 → T3 → Nat → Prop} {I : T2} {J : T3} {x1 : Int32} {x2 : Int32}  
    (k : Ev d Z L xs mX7_plead 54 [some (.ref 136), some (.int x1), some (.int x2)] [.int 3, .ref 136] I J z Φ) : Ev d Z L xs mX7_plead 37 [some (.ref 136), some (.int x1), some (.int x2)] [.ref 136] I J z Φ := by
  refine Ev.blk (ops := [oI (.iconst 3) 1 3, oK (.goto 16) 3 54 0]) (G := True ∧ True ∧ True) (by decide +kernel) ?_ ⟨trivial, trivial, trivial⟩ k
  rfl
theorem BX7_plead_41 {d Z L : Nat} {xs : Nat → Int32} {z : Nat} {Φ : Out → T2 → T3 → Nat → Prop} {I : T2} {J : T3} {x1 : Int32} {x2 : Int32}  
    (k : Ev d Z L xs mX7_plead 43 [some (.ref 136), some (.int x1), some (.int x2)] [.int x1, .ref 136, .ref 136] I J z Φ) : Ev d Z L xs mX7_plead 41 [some (.ref 136), some (.int x1), some (.int x2)] [.ref 136] I J z Φ := by
  refine Ev.blk (ops := [o0 (.aload_n 0) 1, o0 (.iload_n 1) 1]) (G := True ∧ True ∧ True) (by decide +kernel) ?_ ⟨trivial, trivial, trivial⟩ k
  rfl
theorem BX7_plead_49 {d Z L : Nat} {xs : Nat → Int32} {z : Nat} {Φ : Out → T2 → T3 → Nat → Prop} {I : T2} {J : T3} {x1 : Int32} {x2 : Int32}  
    (k : Ev d Z L xs mX7_plead 54 [some (.ref 136), some (.int x1), some (.int x2)] [.int 4, .ref 136] I J z Φ) : Ev d Z L xs mX7_plead 49 [some (.ref 136), some (.int x1), some (.int x2)] [.ref 136] I J z Φ := by
  refine Ev.blk (ops := [oI (.iconst 4) 1 4, oK (.goto 4) 3 54 0]) (G := True ∧ True ∧ True) (by decide +kernel) ?_ ⟨trivial, trivial, trivial⟩ k
  rfl
theorem BX7_plead_53 {d Z L : Nat} {xs : Nat → Int32} {z : Nat} {Φ : Out → T2 → T3 → Nat → Prop} {I : T2} {J : T3} {x1 : Int32} {x2 : Int32}  
    (k : Ev d Z L xs mX7_plead 54 [some (.ref 136), some (.int x1), some (.int x2)] [.int 0, .ref 136] I J z Φ) : Ev d Z L xs mX7_plead 53 [some (.ref 136), some (.int x1), some (.int x2)] [.ref 136] I J z Φ := by
  refine Ev.blk (ops := [oI (.iconst 0) 1 0]) (G := True ∧ True) (by decide +kernel) ?_ ⟨trivial, trivial⟩ k
  rfl
theorem BX7_plead_54 {d Z L : Nat} {xs : Nat → Int32} {z : Nat} {Φ : Out → T2 → T3 → Nat → Prop} {I : T2} {J : T3} {x1 : Int32} {x2 : Int32} {xs1 : Int32}  
    (k : Ev d Z L xs mX7_plead 61 [some (.ref 136), some (.int x1), some (.int x2)] [.int ((up2 I 136 0 xs1) 136 0)] (up2 I 136 0 xs1) J z Φ) : Ev d Z L xs mX7_plead 54 [some (.ref 136), some (.int x1), some (.int x2)] [.int xs1, .ref 136] I J z Φ := by
  refine Ev.blk (ops := [oK (.putfield 79) 3 7 0, o0 (.aload_n 0) 1, oK (.getfield 79) 3 7 0]) (G := (kd 136 = 7) ∧ True ∧ (kd 136 = 7) ∧ True) (by decide +kernel) ?_ ⟨(by decide), trivial, (by decide), trivial⟩ k
  rfl
theorem BX7_plead_64 {d Z L : Nat} {xs : Nat → Int32} {z : Nat} {Φ : Out → T2 → T3 → Nat → Prop} {I : T2} {J : T3} {x1 : Int32} {x2 : Int32}  (g1 : vp_in x1 8) (g2 : vp_in (3 * x1) 24)
    (k : Ev d Z L xs mX7_plead 83 [some (.ref 136), some (.int x1), some (.int x2)] [.int (I 145 (3 * x1).toNatClampNeg), .int x2, .int (I 142 x1.toNatClampNeg), .int x1, .int 0, .int x1, .ref 136] I J z Φ) : Ev d Z L xs mX7_plead 64 [some (.ref 136), some (.int x1), some (.int x2)] [] I J z Φ := by
  refine Ev.blk (ops := [o0 (.aload_n 0) 1, o0 (.iload_n 1) 1, oI (.iconst 0) 1 0, o0 (.iload_n 1) 1, o0 (.aload_n 0) 1, oK (.getfield 26) 3 7 14, o0 (.iload_n 1) 1, o0 (.iaload) 1, o0 (.iload_n 2) 1, o0 (.aload_n 0) 1, oK (.getfield 36) 3 7 17, oI (.iconst 3) 1 3, o0 (.iload_n 1) 1, o0 (.imul) 1, o0 (.iaload) 1]) (G := True ∧ True ∧ True ∧ True ∧ True ∧ (kd 136 = 7) ∧ True ∧ (kd 142 = 8 ∧ vp_in x1 (ln 142)) ∧ True ∧ True ∧ (kd 136 = 7) ∧ True ∧ True ∧ True ∧ (kd 145 = 8 ∧ vp_in (3 * x1) (ln 145)) ∧ True) (by decide +kernel) ?_ ⟨trivial, trivial, trivial, trivial, trivial, (by decide), trivial, ⟨(by decide), g1⟩, trivial, trivial, (by decide), trivial, trivial, trivial, ⟨(by decide), g2⟩, trivial⟩ k
  rfl
theorem BX7_canSend_0 {d Z L : Nat} {xs : Nat → Int32} {z : Nat} {Φ : Out → T2 → T3 → Nat → Prop} {I : T2} {J : T3} {x1 : Int32}  (g1 : vp_in x1 16)
    (k : Ev d Z L xs mX7_canSend 8 [some (.ref 136), some (.int x1)] [.int 50, .int (I 148 x1.toNatClampNeg)] I J z Φ) : Ev d Z L xs mX7_canSend 0 [some (.ref 136), some (.int x1)] [] I J z Φ := by
  refine Ev.blk (ops := [o0 (.aload_n 0) 1, oK (.getfield 45) 3 7 20, o0 (.iload_n 1) 1, o0 (.iaload) 1, oI (.bipush 50) 2 50]) (G := True ∧ (kd 136 = 7) ∧ True ∧ (kd 148 = 8 ∧ vp_in x1 (ln 148)) ∧ True ∧ True) (by decide +kernel) ?_ ⟨trivial, (by decide), trivial, ⟨(by decide), g1⟩, trivial, trivial⟩ k
  rfl
theorem BX7_canSend_11 {d Z L : Nat} {xs : Nat → Int32} {z : Nat} {Φ : Out → T2 → T3 → Nat → Prop} {I : T2} {J : T3} {x1 : Int32}  
    (k : Ev d Z L xs mX7_canSend 16 [some (.ref 136), some (.int x1)] [.int 1] I J z Φ) : Ev d Z L xs mX7_canSend 11 [some (.ref 136), some (.int x1)] [] I J z Φ := by
  refine Ev.blk (ops := [oI (.iconst 1) 1 1, oK (.goto 4) 3 16 0]) (G := True ∧ True ∧ True) (by decide +kernel) ?_ ⟨trivial, trivial, trivial⟩ k
  rfl
theorem BX7_canSend_15 {d Z L : Nat} {xs : Nat → Int32} {z : Nat} {Φ : Out → T2 → T3 → Nat → Prop} {I : T2} {J : T3} {x1 : Int32}  
    (k : Ev d Z L xs mX7_canSend 16 [some (.ref 136), some (.int x1)] [.int 0] I J z Φ) : Ev d Z L xs mX7_canSend 15 [some (.ref 136), some (.int x1)] [] I J z Φ := by
  refine Ev.blk (ops := [oI (.iconst 0) 1 0]) (G := True ∧ True) (by decide +kernel) ?_ ⟨trivial, trivial⟩ k
  rfl
theorem BX7_send_0 {d Z L : Nat} {xs : Nat → Int32} {z : Nat} {Φ : Out → T2 → T3 → Nat → Prop} {I : T2} {J : T3} {x1 : Int32} {x2 : Int32} {x3 : Int32} {x4 : Int32} {x5 : Int32} {x6 : Int32}  (g1 : vp_in x1 16) (g2 : vp_in (6 * ((50 * x1) + ((up2 I 149 x1.toNatClampNeg ((I 149 x1.toNatClampNeg) + 1)) 148 x1.toNatClampNeg))) 4800) (g3 : vp_in ((6 * ((50 * x1) + ((up2 I 149 x1.toNatClampNeg ((I 149 x1.toNatClampNeg) + 1)) 148 x1.toNatClampNeg))) + 1) 4800) (g4 : vp_in ((6 * ((50 * x1) + ((up2 I 149 x1.toNatClampNeg ((I 149 x1.toNatClampNeg) + 1)) 148 x1.toNatClampNeg))) + 2) 4800) (g5 : vp_in ((6 * ((50 * x1) + ((up2 I 149 x1.toNatClampNeg ((I 149 x1.toNatClampNeg) + 1)) 148 x1.toNatClampNeg))) + 3) 4800) (g6 : vp_in ((6 * ((50 * x1) + ((up2 I 149 x1.toNatClampNeg ((I 149 x1.toNatClampNeg) + 1)) 148 x1.toNatClampNeg))) + 4) 4800) (g7 : vp_in ((6 * ((50 * x1) + ((up2 I 149 x1.toNatClampNeg ((I 149 x1.toNatClampNeg) + 1)) 148 x1.toNatClampNeg))) + 5) 4800)
    (k : Ev d Z L xs mX7_send 117 [some (.ref 136), some (.int x1), some (.int x2), some (.int x3), some (.int x4), some (.int x5), some (.int x6), some (.int (6 * ((50 * x1) + ((up2 I 149 x1.toNatClampNeg ((I 149 x1.toNatClampNeg) + 1)) 148 x1.toNatClampNeg))))] [.int x6, .int x5, .int x4, .int ((up2 (up2 (up2 (up2 (up2 (up2 (up2 (up2 I 149 x1.toNatClampNeg ((I 149 x1.toNatClampNeg) + 1)) 147 (6 * ((50 * x1) + ((up2 I 149 x1.toNatClampNeg ((I 149 x1.toNatClampNeg) + 1)) 148 x1.toNatClampNeg))).toNatClampNeg x2) 147 ((6 * ((50 * x1) + ((up2 I 149 x1.toNatClampNeg ((I 149 x1.toNatClampNeg) + 1)) 148 x1.toNatClampNeg))) + 1).toNatClampNeg x3) 147 ((6 * ((50 * x1) + ((up2 I 149 x1.toNatClampNeg ((I 149 x1.toNatClampNeg) + 1)) 148 x1.toNatClampNeg))) + 2).toNatClampNeg ((up2 (up2 (up2 I 149 x1.toNatClampNeg ((I 149 x1.toNatClampNeg) + 1)) 147 (6 * ((50 * x1) + ((up2 I 149 x1.toNatClampNeg ((I 149 x1.toNatClampNeg) + 1)) 148 x1.toNatClampNeg))).toNatClampNeg x2) 147 ((6 * ((50 * x1) + ((up2 I 149 x1.toNatClampNeg ((I 149 x1.toNatClampNeg) + 1)) 148 x1.toNatClampNeg))) + 1).toNatClampNeg x3) 149 x1.toNatClampNeg)) 147 ((6 * ((50 * x1) + ((up2 I 149 x1.toNatClampNeg ((I 149 x1.toNatClampNeg) + 1)) 148 x1.toNatClampNeg))) + 3).toNatClampNeg x4) 147 ((6 * ((50 * x1) + ((up2 I 149 x1.toNatClampNeg ((I 149 x1.toNatClampNeg) + 1)) 148 x1.toNatClampNeg))) + 4).toNatClampNeg x5) 147 ((6 * ((50 * x1) + ((up2 I 149 x1.toNatClampNeg ((I 149 x1.toNatClampNeg) + 1)) 148 x1.toNatClampNeg))) + 5).toNatClampNeg x6) 148 x1.toNatClampNeg (((up2 (up2 (up2 (up2 (up2 (up2 (up2 I 149 x1.toNatClampNeg ((I 149 x1.toNatClampNeg) + 1)) 147 (6 * ((50 * x1) + ((up2 I 149 x1.toNatClampNeg ((I 149 x1.toNatClampNeg) + 1)) 148 x1.toNatClampNeg))).toNatClampNeg x2) 147 ((6 * ((50 * x1) + ((up2 I 149 x1.toNatClampNeg ((I 149 x1.toNatClampNeg) + 1)) 148 x1.toNatClampNeg))) + 1).toNatClampNeg x3) 147 ((6 * ((50 * x1) + ((up2 I 149 x1.toNatClampNeg ((I 149 x1.toNatClampNeg) + 1)) 148 x1.toNatClampNeg))) + 2).toNatClampNeg ((up2 (up2 (up2 I 149 x1.toNatClampNeg ((I 149 x1.toNatClampNeg) + 1)) 147 (6 * ((50 * x1) + ((up2 I 149 x1.toNatClampNeg ((I 149 x1.toNatClampNeg) + 1)) 148 x1.toNatClampNeg))).toNatClampNeg x2) 147 ((6 * ((50 * x1) + ((up2 I 149 x1.toNatClampNeg ((I 149 x1.toNatClampNeg) + 1)) 148 x1.toNatClampNeg))) + 1).toNatClampNeg x3) 149 x1.toNatClampNeg)) 147 ((6 * ((50 * x1) + ((up2 I 149 x1.toNatClampNeg ((I 149 x1.toNatClampNeg) + 1)) 148 x1.toNatClampNeg))) + 3).toNatClampNeg x4) 147 ((6 * ((50 * x1) + ((up2 I 149 x1.toNatClampNeg ((I 149 x1.toNatClampNeg) + 1)) 148 x1.toNatClampNeg))) + 4).toNatClampNeg x5) 147 ((6 * ((50 * x1) + ((up2 I 149 x1.toNatClampNeg ((I 149 x1.toNatClampNeg) + 1)) 148 x1.toNatClampNeg))) + 5).toNatClampNeg x6) 148 x1.toNatClampNeg) + 1)) 149 x1.toNatClampNeg), .int x3, .int x2, .ref 136] (up2 (up2 (up2 (up2 (up2 (up2 (up2 (up2 I 149 x1.toNatClampNeg ((I 149 x1.toNatClampNeg) + 1)) 147 (6 * ((50 * x1) + ((up2 I 149 x1.toNatClampNeg ((I 149 x1.toNatClampNeg) + 1)) 148 x1.toNatClampNeg))).toNatClampNeg x2) 147 ((6 * ((50 * x1) + ((up2 I 149 x1.toNatClampNeg ((I 149 x1.toNatClampNeg) + 1)) 148 x1.toNatClampNeg))) + 1).toNatClampNeg x3) 147 ((6 * ((50 * x1) + ((up2 I 149 x1.toNatClampNeg ((I 149 x1.toNatClampNeg) + 1)) 148 x1.toNatClampNeg))) + 2).toNatClampNeg ((up2 (up2 (up2 I 149 x1.toNatClampNeg ((I 149 x1.toNatClampNeg) + 1)) 147 (6 * ((50 * x1) + ((up2 I 149 x1.toNatClampNeg ((I 149 x1.toNatClampNeg) + 1)) 148 x1.toNatClampNeg))).toNatClampNeg x2) 147 ((6 * ((50 * x1) + ((up2 I 149 x1.toNatClampNeg ((I 149 x1.toNatClampNeg) + 1)) 148 x1.toNatClampNeg))) + 1).toNatClampNeg x3) 149 x1.toNatClampNeg)) 147 ((6 * ((50 * x1) + ((up2 I 149 x1.toNatClampNeg ((I 149 x1.toNatClampNeg) + 1)) 148 x1.toNatClampNeg))) + 3).toNatClampNeg x4) 147 ((6 * ((50 * x1) + ((up2 I 149 x1.toNatClampNeg ((I 149 x1.toNatClampNeg) + 1)) 148 x1.toNatClampNeg))) + 4).toNatClampNeg x5) 147 ((6 * ((50 * x1) + ((up2 I 149 x1.toNatClampNeg ((I 149 x1.toNatClampNeg) + 1)) 148 x1.toNatClampNeg))) + 5).toNatClampNeg x6) 148 x1.toNatClampNeg (((up2 (up2 (up2 (up2 (up2 (up2 (up2 I 149 x1.toNatClampNeg ((I 149 x1.toNatClampNeg) + 1)) 147 (6 * ((50 * x1) + ((up2 I 149 x1.toNatClampNeg ((I 149 x1.toNatClampNeg) + 1)) 148 x1.toNatClampNeg))).toNatClampNeg x2) 147 ((6 * ((50 * x1) + ((up2 I 149 x1.toNatClampNeg ((I 149 x1.toNatClampNeg) + 1)) 148 x1.toNatClampNeg))) + 1).toNatClampNeg x3) 147 ((6 * ((50 * x1) + ((up2 I 149 x1.toNatClampNeg ((I 149 x1.toNatClampNeg) + 1)) 148 x1.toNatClampNeg))) + 2).toNatClampNeg ((up2 (up2 (up2 I 149 x1.toNatClampNeg ((I 149 x1.toNatClampNeg) + 1)) 147 (6 * ((50 * x1) + ((up2 I 149 x1.toNatClampNeg ((I 149 x1.toNatClampNeg) + 1)) 148 x1.toNatClampNeg))).toNatClampNeg x2) 147 ((6 * ((50 * x1) + ((up2 I 149 x1.toNatClampNeg ((I 149 x1.toNatClampNeg) + 1)) 148 x1.toNatClampNeg))) + 1).toNatClampNeg x3) 149 x1.toNatClampNeg)) 147 ((6 * ((50 * x1) + ((up2 I 149 x1.toNatClampNeg ((I 149 x1.toNatClampNeg) + 1)) 148 x1.toNatClampNeg))) + 3).toNatClampNeg x4) 147 ((6 * ((50 * x1) + ((up2 I 149 x1.toNatClampNeg ((I 149 x1.toNatClampNeg) + 1)) 148 x1.toNatClampNeg))) + 4).toNatClampNeg x5) 147 ((6 * ((50 * x1) + ((up2 I 149 x1.toNatClampNeg ((I 149 x1.toNatClampNeg) + 1)) 148 x1.toNatClampNeg))) + 5).toNatClampNeg x6) 148 x1.toNatClampNeg) + 1)) J z Φ) : Ev d Z L xs mX7_send 0 [some (.ref 136), some (.int x1), some (.int x2), some (.int x3), some (.int x4), some (.int x5), some (.int x6), none] [] I J z Φ := by
  refine Ev.blk (ops := [o0 (.aload_n 0) 1, oK (.getfield 48) 3 7 21, o0 (.iload_n 1) 1, o0 (.dup2) 1, o0 (.iaload) 1, oI (.iconst 1) 1 1, o0 (.iadd) 1, o0 (.iastore) 1, oI (.bipush 6) 2 6, oI (.bipush 50) 2 50, o0 (.iload_n 1) 1, o0 (.imul) 1, o0 (.aload_n 0) 1, oK (.getfield 45) 3 7 20, o0 (.iload_n 1) 1, o0 (.iaload) 1, o0 (.iadd) 1, o0 (.imul) 1, o0 (.istore 7) 2, o0 (.aload_n 0) 1, oK (.getfield 42) 3 7 19, o0 (.iload 7) 2, o0 (.iload_n 2) 1, o0 (.iastore) 1, o0 (.aload_n 0) 1, oK (.getfield 42) 3 7 19, o0 (.iload 7) 2, oI (.iconst 1) 1 1, o0 (.iadd) 1, o0 (.iload_n 3) 1, o0 (.iastore) 1, o0 (.aload_n 0) 1, oK (.getfield 42) 3 7 19, o0 (.iload 7) 2, oI (.iconst 2) 1 2, o0 (.iadd) 1, o0 (.aload_n 0) 1, oK (.getfield 48) 3 7 21, o0 (.iload_n 1) 1, o0 (.iaload) 1, o0 (.iastore) 1, o0 (.aload_n 0) 1, oK (.getfield 42) 3 7 19, o0 (.iload 7) 2, oI (.iconst 3) 1 3, o0 (.iadd) 1, o0 (.iload 4) 2, o0 (.iastore) 1, o0 (.aload_n 0) 1, oK (.getfield 42) 3 7 19, o0 (.iload 7) 2, oI (.iconst 4) 1 4, o0 (.iadd) 1, o0 (.iload 5) 2, o0 (.iastore) 1, o0 (.aload_n 0) 1, oK (.getfield 42) 3 7 19, o0 (.iload 7) 2, oI (.iconst 5) 1 5, o0 (.iadd) 1, o0 (.iload 6) 2, o0 (.iastore) 1, o0 (.aload_n 0) 1, oK (.getfield 45) 3 7 20, o0 (.iload_n 1) 1, o0 (.dup2) 1, o0 (.iaload) 1, oI (.iconst 1) 1 1, o0 (.iadd) 1, o0 (.iastore) 1, o0 (.aload_n 0) 1, o0 (.iload_n 2) 1, o0 (.iload_n 3) 1, o0 (.aload_n 0) 1, oK (.getfield 48) 3 7 21, o0 (.iload_n 1) 1, o0 (.iaload) 1, o0 (.iload 4) 2, o0 (.iload 5) 2, o0 (.iload 6) 2]) (G := True ∧ (kd 136 = 7) ∧ True ∧ True ∧ (kd 149 = 8 ∧ vp_in x1 (ln 149)) ∧ True ∧ True ∧ (kd 149 = 8 ∧ vp_in x1 (ln 149)) ∧ True ∧ True ∧ True ∧ True ∧ True ∧ (kd 136 = 7) ∧ True ∧ (kd 148 = 8 ∧ vp_in x1 (ln 148)) ∧ True ∧ True ∧ True ∧ True ∧ (kd 136 = 7) ∧ True ∧ True ∧ (kd 147 = 8 ∧ vp_in (6 * ((50 * x1) + ((up2 I 149 x1.toNatClampNeg ((I 149 x1.toNatClampNeg) + 1)) 148 x1.toNatClampNeg))) (ln 147)) ∧ True ∧ (kd 136 = 7) ∧ True ∧ True ∧ True ∧ True ∧ (kd 147 = 8 ∧ vp_in ((6 * ((50 * x1) + ((up2 I 149 x1.toNatClampNeg ((I 149 x1.toNatClampNeg) + 1)) 148 x1.toNatClampNeg))) + 1) (ln 147)) ∧ True ∧ (kd 136 = 7) ∧ True ∧ True ∧ True ∧ True ∧ (kd 136 = 7) ∧ True ∧ (kd 149 = 8 ∧ vp_in x1 (ln 149)) ∧ (kd 147 = 8 ∧ vp_in ((6 * ((50 * x1) + ((up2 I 149 x1.toNatClampNeg ((I 149 x1.toNatClampNeg) + 1)) 148 x1.toNatClampNeg))) + 2) (ln 147)) ∧ True ∧ (kd 136 = 7) ∧ True ∧ True ∧ True ∧ True ∧ (kd 147 = 8 ∧ vp_in ((6 * ((50 * x1) + ((up2 I 149 x1.toNatClampNeg ((I 149 x1.toNatClampNeg) + 1)) 148 x1.toNatClampNeg))) + 3) (ln 147)) ∧ True ∧ (kd 136 = 7) ∧ True ∧ True ∧ True ∧ True ∧ (kd 147 = 8 ∧ vp_in ((6 * ((50 * x1) + ((up2 I 149 x1.toNatClampNeg ((I 149 x1.toNatClampNeg) + 1)) 148 x1.toNatClampNeg))) + 4) (ln 147)) ∧ True ∧ (kd 136 = 7) ∧ True ∧ True ∧ True ∧ True ∧ (kd 147 = 8 ∧ vp_in ((6 * ((50 * x1) + ((up2 I 149 x1.toNatClampNeg ((I 149 x1.toNatClampNeg) + 1)) 148 x1.toNatClampNeg))) + 5) (ln 147)) ∧ True ∧ (kd 136 = 7) ∧ True ∧ True ∧ (kd 148 = 8 ∧ vp_in x1 (ln 148)) ∧ True ∧ True ∧ (kd 148 = 8 ∧ vp_in x1 (ln 148)) ∧ True ∧ True ∧ True ∧ True ∧ (kd 136 = 7) ∧ True ∧ (kd 149 = 8 ∧ vp_in x1 (ln 149)) ∧ True ∧ True ∧ True ∧ True) (by decide +kernel) ?_ ⟨trivial, (by decide), trivial, trivial, ⟨(by decide), g1⟩, trivial, trivial, ⟨(by decide), g1⟩, trivial, trivial, trivial, trivial, trivial, (by decide), trivial, ⟨(by decide), g1⟩, trivial, trivial, trivial, trivial, (by decide), trivial, trivial, ⟨(by decide), g2⟩, trivial, (by decide), trivial, trivial, trivial, trivial, ⟨(by decide), g3⟩, trivial, (by decide), trivial, trivial, trivial, trivial, (by decide), trivial, ⟨(by decide), g1⟩, ⟨(by decide), g4⟩, trivial, (by decide), trivial, trivial, trivial, trivial, ⟨(by decide), g5⟩, trivial, (by decide), trivial, trivial, trivial, trivial, ⟨(by decide), g6⟩, trivial, (by decide), trivial, trivial, trivial, trivial, ⟨(by decide), g7⟩, trivial, (by decide), trivial, trivial, ⟨(by decide), g1⟩, trivial, trivial, ⟨(by decide), g1⟩, trivial, trivial, trivial, trivial, (by decide), trivial, ⟨(by decide), g1⟩, trivial, trivial, trivial, trivial⟩ k
  rfl
theorem BX7_put_0 {d Z L : Nat} {xs : Nat → Int32} {z : Nat} {Φ : Out → T2 → T3 → Nat → Prop} {I : T2} {J : T3} {x1 : Int32} {x2 : Int32} {x3 : Int32} {x4 : Int32} {x5 : Int32} {x6 : Int32}  
    (k : Ev d Z L xs mX7_put 7 [some (.ref 136), some (.int x1), some (.int x2), some (.int x3), some (.int x4), some (.int x5), some (.int x6), none] [.int 200, .int (I 136 24)] I J z Φ) : Ev d Z L xs mX7_put 0 [some (.ref 136), some (.int x1), some (.int x2), some (.int x3), some (.int x4), some (.int x5), some (.int x6), none] [] I J z Φ := by
  refine Ev.blk (ops := [o0 (.aload_n 0) 1, oK (.getfield 109) 3 7 24, oI (.sipush 200) 3 200]) (G := True ∧ (kd 136 = 7) ∧ True ∧ True) (by decide +kernel) ?_ ⟨trivial, (by decide), trivial, trivial⟩ k
  rfl
theorem BX7_put_10 {d Z L : Nat} {xs : Nat → Int32} {z : Nat} {Φ : Out → T2 → T3 → Nat → Prop} {I : T2} {J : T3} {x1 : Int32} {x2 : Int32} {x3 : Int32} {x4 : Int32} {x5 : Int32} {x6 : Int32}  (g1 : vp_in (6 * (I 136 24)) 1200) (g2 : vp_in ((6 * (I 136 24)) + 1) 1200) (g3 : vp_in ((6 * (I 136 24)) + 2) 1200) (g4 : vp_in ((6 * (I 136 24)) + 3) 1200) (g5 : vp_in ((6 * (I 136 24)) + 4) 1200) (g6 : vp_in ((6 * (I 136 24)) + 5) 1200)
    (k : Ev d Z L xs mX7_put 90 [some (.ref 136), some (.int x1), some (.int x2), some (.int x3), some (.int x4), some (.int x5), some (.int x6), some (.int (6 * (I 136 24)))] [] (up2 (up2 (up2 (up2 (up2 (up2 (up2 I 151 (6 * (I 136 24)).toNatClampNeg x1) 151 ((6 * (I 136 24)) + 1).toNatClampNeg x2) 151 ((6 * (I 136 24)) + 2).toNatClampNeg x3) 151 ((6 * (I 136 24)) + 3).toNatClampNeg x4) 151 ((6 * (I 136 24)) + 4).toNatClampNeg x5) 151 ((6 * (I 136 24)) + 5).toNatClampNeg x6) 136 24 (((up2 (up2 (up2 (up2 (up2 (up2 I 151 (6 * (I 136 24)).toNatClampNeg x1) 151 ((6 * (I 136 24)) + 1).toNatClampNeg x2) 151 ((6 * (I 136 24)) + 2).toNatClampNeg x3) 151 ((6 * (I 136 24)) + 3).toNatClampNeg x4) 151 ((6 * (I 136 24)) + 4).toNatClampNeg x5) 151 ((6 * (I 136 24)) + 5).toNatClampNeg x6) 136 24) + 1)) J z Φ) : Ev d Z L xs mX7_put 10 [some (.ref 136), some (.int x1), some (.int x2), some (.int x3), some (.int x4), some (.int x5), some (.int x6), none] [] I J z Φ := by
  refine Ev.blk (ops := [oI (.bipush 6) 2 6, o0 (.aload_n 0) 1, oK (.getfield 109) 3 7 24, o0 (.imul) 1, o0 (.istore 7) 2, o0 (.aload_n 0) 1, oK (.getfield 54) 3 7 23, o0 (.iload 7) 2, o0 (.iload_n 1) 1, o0 (.iastore) 1, o0 (.aload_n 0) 1, oK (.getfield 54) 3 7 23, o0 (.iload 7) 2, oI (.iconst 1) 1 1, o0 (.iadd) 1, o0 (.iload_n 2) 1, o0 (.iastore) 1, o0 (.aload_n 0) 1, oK (.getfield 54) 3 7 23, o0 (.iload 7) 2, oI (.iconst 2) 1 2, o0 (.iadd) 1, o0 (.iload_n 3) 1, o0 (.iastore) 1, o0 (.aload_n 0) 1, oK (.getfield 54) 3 7 23, o0 (.iload 7) 2, oI (.iconst 3) 1 3, o0 (.iadd) 1, o0 (.iload 4) 2, o0 (.iastore) 1, o0 (.aload_n 0) 1, oK (.getfield 54) 3 7 23, o0 (.iload 7) 2, oI (.iconst 4) 1 4, o0 (.iadd) 1, o0 (.iload 5) 2, o0 (.iastore) 1, o0 (.aload_n 0) 1, oK (.getfield 54) 3 7 23, o0 (.iload 7) 2, oI (.iconst 5) 1 5, o0 (.iadd) 1, o0 (.iload 6) 2, o0 (.iastore) 1, o0 (.aload_n 0) 1, o0 (.dup) 1, oK (.getfield 109) 3 7 24, oI (.iconst 1) 1 1, o0 (.iadd) 1, oK (.putfield 109) 3 7 24]) (G := True ∧ True ∧ (kd 136 = 7) ∧ True ∧ True ∧ True ∧ (kd 136 = 7) ∧ True ∧ True ∧ (kd 151 = 8 ∧ vp_in (6 * (I 136 24)) (ln 151)) ∧ True ∧ (kd 136 = 7) ∧ True ∧ True ∧ True ∧ True ∧ (kd 151 = 8 ∧ vp_in ((6 * (I 136 24)) + 1) (ln 151)) ∧ True ∧ (kd 136 = 7) ∧ True ∧ True ∧ True ∧ True ∧ (kd 151 = 8 ∧ vp_in ((6 * (I 136 24)) + 2) (ln 151)) ∧ True ∧ (kd 136 = 7) ∧ True ∧ True ∧ True ∧ True ∧ (kd 151 = 8 ∧ vp_in ((6 * (I 136 24)) + 3) (ln 151)) ∧ True ∧ (kd 136 = 7) ∧ True ∧ True ∧ True ∧ True ∧ (kd 151 = 8 ∧ vp_in ((6 * (I 136 24)) + 4) (ln 151)) ∧ True ∧ (kd 136 = 7) ∧ True ∧ True ∧ True ∧ True ∧ (kd 151 = 8 ∧ vp_in ((6 * (I 136 24)) + 5) (ln 151)) ∧ True ∧ True ∧ (kd 136 = 7) ∧ True ∧ True ∧ (kd 136 = 7) ∧ True) (by decide +kernel) ?_ ⟨trivial, trivial, (by decide), trivial, trivial, trivial, (by decide), trivial, trivial, ⟨(by decide), g1⟩, trivial, (by decide), trivial, trivial, trivial, trivial, ⟨(by decide), g2⟩, trivial, (by decide), trivial, trivial, trivial, trivial, ⟨(by decide), g3⟩, trivial, (by decide), trivial, trivial, trivial, trivial, ⟨(by decide), g4⟩, trivial, (by decide), trivial, trivial, trivial, trivial, ⟨(by decide), g5⟩, trivial, (by decide), trivial, trivial, trivial, trivial, ⟨(by decide), g6⟩, trivial, trivial, (by decide), trivial, trivial, (by decide), trivial⟩ k
  rfl
theorem BX7_back_0 {d Z L : Nat} {xs : Nat → Int32} {z : Nat} {Φ : Out → T2 → T3 → Nat → Prop} {I : T2} {J : T3} {x1 : Int32} {x2 : Int32} {x3 : Int32}  
    (k : Ev d Z L xs mX7_back 2 [some (.ref 136), some (.int x1), some (.int x2), some (.int x3), none, none] [.int x1, .ref 136] I J z Φ) : Ev d Z L xs mX7_back 0 [some (.ref 136), some (.int x1), some (.int x2), some (.int x3), none, none] [] I J z Φ := by
  refine Ev.blk (ops := [o0 (.aload_n 0) 1, o0 (.iload_n 1) 1]) (G := True ∧ True ∧ True) (by decide +kernel) ?_ ⟨trivial, trivial, trivial⟩ k
  rfl
theorem BX7_back_8 {d Z L : Nat} {xs : Nat → Int32} {z : Nat} {Φ : Out → T2 → T3 → Nat → Prop} {I : T2} {J : T3} {x1 : Int32} {x2 : Int32} {x3 : Int32}  (g1 : vp_in x1 8)
    (k : Ev d Z L xs mX7_back 15 [some (.ref 136), some (.int x1), some (.int x2), some (.int x3), none, none] [.int (I 142 x1.toNatClampNeg), .int x2] I J z Φ) : Ev d Z L xs mX7_back 8 [some (.ref 136), some (.int x1), some (.int x2), some (.int x3), none, none] [] I J z Φ := by
  refine Ev.blk (ops := [o0 (.iload_n 2) 1, o0 (.aload_n 0) 1, oK (.getfield 26) 3 7 14, o0 (.iload_n 1) 1, o0 (.iaload) 1]) (G := True ∧ True ∧ (kd 136 = 7) ∧ True ∧ (kd 142 = 8 ∧ vp_in x1 (ln 142)) ∧ True) (by decide +kernel) ?_ ⟨trivial, trivial, (by decide), trivial, ⟨(by decide), g1⟩, trivial⟩ k
  rfl
theorem BX7_back_18 {d Z L : Nat} {xs : Nat → Int32} {z : Nat} {Φ : Out → T2 → T3 → Nat → Prop} {I : T2} {J : T3} {x1 : Int32} {x2 : Int32} {x3 : Int32} {xs0 : Int32}  
    (k : Ev d Z L xs mX7_back 22 [some (.ref 136), some (.int x1), some (.int x2), some (.int x3), none, none] [.int xs0] I J z Φ) : Ev d Z L xs mX7_back 18 [some (.ref 136), some (.int x1), some (.int x2), some (.int x3), none, none] [.int xs0] I J z Φ := by
  refine Ev.blk (ops := [oK (.goto 4) 3 22 0]) (G := True ∧ True) (by decide +kernel) ?_ ⟨trivial, trivial⟩ k
  rfl
theorem BX7_back_21 {d Z L : Nat} {xs : Nat → Int32} {z : Nat} {Φ : Out → T2 → T3 → Nat → Prop} {I : T2} {J : T3} {x1 : Int32} {x2 : Int32} {x3 : Int32}  
    (k : Ev d Z L xs mX7_back 22 [some (.ref 136), some (.int x1), some (.int x2), some (.int x3), none, none] [.int (-1)] I J z Φ) : Ev d Z L xs mX7_back 21 [some (.ref 136), some (.int x1), some (.int x2), some (.int x3), none, none] [] I J z Φ := by
  refine Ev.blk (ops := [oI (.iconst (-1)) 1 (-1)]) (G := True ∧ True) (by decide +kernel) ?_ ⟨trivial, trivial⟩ k
  rfl
theorem BX7_back_22 {d Z L : Nat} {xs : Nat → Int32} {z : Nat} {Φ : Out → T2 → T3 → Nat → Prop} {I : T2} {J : T3} {x1 : Int32} {x2 : Int32} {x3 : Int32} {xs0 : Int32}  
    (k : Ev d Z L xs mX7_back 26 [some (.ref 136), some (.int x1), some (.int x2), some (.int x3), some (.int xs0), none] [.int xs0] I J z Φ) : Ev d Z L xs mX7_back 22 [some (.ref 136), some (.int x1), some (.int x2), some (.int x3), none, none] [.int xs0] I J z Φ := by
  refine Ev.blk (ops := [o0 (.istore 4) 2, o0 (.iload 4) 2]) (G := True ∧ True ∧ True) (by decide +kernel) ?_ ⟨trivial, trivial, trivial⟩ k
  rfl
theorem BX7_back_29 {d Z L : Nat} {xs : Nat → Int32} {z : Nat} {Φ : Out → T2 → T3 → Nat → Prop} {I : T2} {J : T3} {x1 : Int32} {x2 : Int32} {x3 : Int32} {x4 : Int32}  
    (k : Ev d Z L xs mX7_back 31 [some (.ref 136), some (.int x1), some (.int x2), some (.int x3), some (.int x4), none] [.int 1, .int x3] I J z Φ) : Ev d Z L xs mX7_back 29 [some (.ref 136), some (.int x1), some (.int x2), some (.int x3), some (.int x4), none] [] I J z Φ := by
  refine Ev.blk (ops := [o0 (.iload_n 3) 1, oI (.iconst 1) 1 1]) (G := True ∧ True ∧ True) (by decide +kernel) ?_ ⟨trivial, trivial, trivial⟩ k
  rfl
theorem BX7_back_34 {d Z L : Nat} {xs : Nat → Int32} {z : Nat} {Φ : Out → T2 → T3 → Nat → Prop} {I : T2} {J : T3} {x1 : Int32} {x2 : Int32} {x3 : Int32} {x4 : Int32}  (g1 : vp_in ((3 * x1) + x4) 24)
    (k : Ev d Z L xs mX7_back 58 [some (.ref 136), some (.int x1), some (.int x2), some (.int x3), some (.int x4), none] [.int ((I 144 ((3 * x1) + x4).toNatClampNeg) - (I 146 ((3 * x1) + x4).toNatClampNeg)), .int x3] I J z Φ) : Ev d Z L xs mX7_back 34 [some (.ref 136), some (.int x1), some (.int x2), some (.int x3), some (.int x4), none] [] I J z Φ := by
  refine Ev.blk (ops := [o0 (.iload_n 3) 1, o0 (.aload_n 0) 1, oK (.getfield 33) 3 7 16, oI (.iconst 3) 1 3, o0 (.iload_n 1) 1, o0 (.imul) 1, o0 (.iload 4) 2, o0 (.iadd) 1, o0 (.iaload) 1, o0 (.aload_n 0) 1, oK (.getfield 39) 3 7 18, oI (.iconst 3) 1 3, o0 (.iload_n 1) 1, o0 (.imul) 1, o0 (.iload 4) 2, o0 (.iadd) 1, o0 (.iaload) 1, o0 (.isub) 1]) (G := True ∧ True ∧ (kd 136 = 7) ∧ True ∧ True ∧ True ∧ True ∧ True ∧ (kd 144 = 8 ∧ vp_in ((3 * x1) + x4) (ln 144)) ∧ True ∧ (kd 136 = 7) ∧ True ∧ True ∧ True ∧ True ∧ True ∧ (kd 146 = 8 ∧ vp_in ((3 * x1) + x4) (ln 146)) ∧ True ∧ True) (by decide +kernel) ?_ ⟨trivial, trivial, (by decide), trivial, trivial, trivial, trivial, trivial, ⟨(by decide), g1⟩, trivial, (by decide), trivial, trivial, trivial, trivial, trivial, ⟨(by decide), g1⟩, trivial, trivial⟩ k
  rfl
theorem BX7_back_61 {d Z L : Nat} {xs : Nat → Int32} {z : Nat} {Φ : Out → T2 → T3 → Nat → Prop} {I : T2} {J : T3} {x1 : Int32} {x2 : Int32} {x3 : Int32} {x4 : Int32}  
    (k : Ev d Z L xs mX7_back 66 [some (.ref 136), some (.int x1), some (.int x2), some (.int x3), some (.int x4), none] [.int 1] I J z Φ) : Ev d Z L xs mX7_back 61 [some (.ref 136), some (.int x1), some (.int x2), some (.int x3), some (.int x4), none] [] I J z Φ := by
  refine Ev.blk (ops := [oI (.iconst 1) 1 1, oK (.goto 4) 3 66 0]) (G := True ∧ True ∧ True) (by decide +kernel) ?_ ⟨trivial, trivial, trivial⟩ k
  rfl
theorem BX7_back_65 {d Z L : Nat} {xs : Nat → Int32} {z : Nat} {Φ : Out → T2 → T3 → Nat → Prop} {I : T2} {J : T3} {x1 : Int32} {x2 : Int32} {x3 : Int32} {x4 : Int32}  
    (k : Ev d Z L xs mX7_back 66 [some (.ref 136), some (.int x1), some (.int x2), some (.int x3), some (.int x4), none] [.int 0] I J z Φ) : Ev d Z L xs mX7_back 65 [some (.ref 136), some (.int x1), some (.int x2), some (.int x3), some (.int x4), none] [] I J z Φ := by
  refine Ev.blk (ops := [oI (.iconst 0) 1 0]) (G := True ∧ True) (by decide +kernel) ?_ ⟨trivial, trivial⟩ k
  rfl
theorem BX7_back_66 {d Z L : Nat} {xs : Nat → Int32} {z : Nat} {Φ : Out → T2 → T3 → Nat → Prop} {I : T2} {J : T3} {x1 : Int32} {x2 : Int32} {x3 : Int32} {x4 : Int32} {xs0 : Int32}  
    (k : Ev d Z L xs mX7_back 71 [some (.ref 136), some (.int x1), some (.int x2), some (.int x3), some (.int x4), some (.int xs0)] [.int x1, .ref 136, .ref 136] I J z Φ) : Ev d Z L xs mX7_back 66 [some (.ref 136), some (.int x1), some (.int x2), some (.int x3), some (.int x4), none] [.int xs0] I J z Φ := by
  refine Ev.blk (ops := [o0 (.istore 5) 2, o0 (.aload_n 0) 1, o0 (.aload_n 0) 1, o0 (.iload_n 1) 1]) (G := True ∧ True ∧ True ∧ True ∧ True) (by decide +kernel) ?_ ⟨trivial, trivial, trivial, trivial, trivial⟩ k
  rfl
theorem BX7_back_77 {d Z L : Nat} {xs : Nat → Int32} {z : Nat} {Φ : Out → T2 → T3 → Nat → Prop} {I : T2} {J : T3} {x1 : Int32} {x2 : Int32} {x3 : Int32} {x4 : Int32} {x5 : Int32}  
    (k : Ev d Z L xs mX7_back 116 [some (.ref 136), some (.int x1), some (.int x2), some (.int x3), some (.int x4), some (.int x5)] [.int 1, .ref 136] I J z Φ) : Ev d Z L xs mX7_back 77 [some (.ref 136), some (.int x1), some (.int x2), some (.int x3), some (.int x4), some (.int x5)] [.ref 136] I J z Φ := by
  refine Ev.blk (ops := [oI (.iconst 1) 1 1, oK (.goto 38) 3 116 0]) (G := True ∧ True ∧ True) (by decide +kernel) ?_ ⟨trivial, trivial, trivial⟩ k
  rfl
theorem BX7_back_81 {d Z L : Nat} {xs : Nat → Int32} {z : Nat} {Φ : Out → T2 → T3 → Nat → Prop} {I : T2} {J : T3} {x1 : Int32} {x2 : Int32} {x3 : Int32} {x4 : Int32} {x5 : Int32}  (g1 : vp_in x1 8)
    (k : Ev d Z L xs mX7_back 87 [some (.ref 136), some (.int x1), some (.int x2), some (.int x3), some (.int x4), some (.int x5)] [.int (I 143 x1.toNatClampNeg), .ref 136] I J z Φ) : Ev d Z L xs mX7_back 81 [some (.ref 136), some (.int x1), some (.int x2), some (.int x3), some (.int x4), some (.int x5)] [.ref 136] I J z Φ := by
  refine Ev.blk (ops := [o0 (.aload_n 0) 1, oK (.getfield 29) 3 7 15, o0 (.iload_n 1) 1, o0 (.baload) 1]) (G := True ∧ (kd 136 = 7) ∧ True ∧ (kd 143 = 10 ∧ vp_in x1 (ln 143)) ∧ True) (by decide +kernel) ?_ ⟨trivial, (by decide), trivial, ⟨(by decide), g1⟩, trivial⟩ k
  rfl
theorem BX7_back_90 {d Z L : Nat} {xs : Nat → Int32} {z : Nat} {Φ : Out → T2 → T3 → Nat → Prop} {I : T2} {J : T3} {x1 : Int32} {x2 : Int32} {x3 : Int32} {x4 : Int32} {x5 : Int32}  
    (k : Ev d Z L xs mX7_back 116 [some (.ref 136), some (.int x1), some (.int x2), some (.int x3), some (.int x4), some (.int x5)] [.int 2, .ref 136] I J z Φ) : Ev d Z L xs mX7_back 90 [some (.ref 136), some (.int x1), some (.int x2), some (.int x3), some (.int x4), some (.int x5)] [.ref 136] I J z Φ := by
  refine Ev.blk (ops := [oI (.iconst 2) 1 2, oK (.goto 25) 3 116 0]) (G := True ∧ True ∧ True) (by decide +kernel) ?_ ⟨trivial, trivial, trivial⟩ k
  rfl
theorem BX7_back_94 {d Z L : Nat} {xs : Nat → Int32} {z : Nat} {Φ : Out → T2 → T3 → Nat → Prop} {I : T2} {J : T3} {x1 : Int32} {x2 : Int32} {x3 : Int32} {x4 : Int32} {x5 : Int32}  
    (k : Ev d Z L xs mX7_back 96 [some (.ref 136), some (.int x1), some (.int x2), some (.int x3), some (.int x4), some (.int x5)] [.int x5, .ref 136] I J z Φ) : Ev d Z L xs mX7_back 94 [some (.ref 136), some (.int x1), some (.int x2), some (.int x3), some (.int x4), some (.int x5)] [.ref 136] I J z Φ := by
  refine Ev.blk (ops := [o0 (.iload 5) 2]) (G := True ∧ True) (by decide +kernel) ?_ ⟨trivial, trivial⟩ k
  rfl
theorem BX7_back_99 {d Z L : Nat} {xs : Nat → Int32} {z : Nat} {Φ : Out → T2 → T3 → Nat → Prop} {I : T2} {J : T3} {x1 : Int32} {x2 : Int32} {x3 : Int32} {x4 : Int32} {x5 : Int32}  
    (k : Ev d Z L xs mX7_back 116 [some (.ref 136), some (.int x1), some (.int x2), some (.int x3), some (.int x4), some (.int x5)] [.int 3, .ref 136] I J z Φ) : Ev d Z L xs mX7_back 99 [some (.ref 136), some (.int x1), some (.int x2), some (.int x3), some (.int x4), some (.int x5)] [.ref 136] I J z Φ := by
  refine Ev.blk (ops := [oI (.iconst 3) 1 3, oK (.goto 16) 3 116 0]) (G := True ∧ True ∧ True) (by decide +kernel) ?_ ⟨trivial, trivial, trivial⟩ k
  rfl
theorem BX7_back_103 {d Z L : Nat} {xs : Nat → Int32} {z : Nat} {Φ : Out → T2 → T3 → Nat → Prop} {I : T2} {J : T3} {x1 : Int32} {x2 : Int32} {x3 : Int32} {x4 : Int32} {x5 : Int32}  
    (k : Ev d Z L xs mX7_back 105 [some (.ref 136), some (.int x1), some (.int x2), some (.int x3), some (.int x4), some (.int x5)] [.int x1, .ref 136, .ref 136] I J z Φ) : Ev d Z L xs mX7_back 103 [some (.ref 136), some (.int x1), some (.int x2), some (.int x3), some (.int x4), some (.int x5)] [.ref 136] I J z Φ := by
  refine Ev.blk (ops := [o0 (.aload_n 0) 1, o0 (.iload_n 1) 1]) (G := True ∧ True ∧ True) (by decide +kernel) ?_ ⟨trivial, trivial, trivial⟩ k
  rfl
theorem BX7_back_111 {d Z L : Nat} {xs : Nat → Int32} {z : Nat} {Φ : Out → T2 → T3 → Nat → Prop} {I : T2} {J : T3} {x1 : Int32} {x2 : Int32} {x3 : Int32} {x4 : Int32} {x5 : Int32}  
    (k : Ev d Z L xs mX7_back 116 [some (.ref 136), some (.int x1), some (.int x2), some (.int x3), some (.int x4), some (.int x5)] [.int 4, .ref 136] I J z Φ) : Ev d Z L xs mX7_back 111 [some (.ref 136), some (.int x1), some (.int x2), some (.int x3), some (.int x4), some (.int x5)] [.ref 136] I J z Φ := by
  refine Ev.blk (ops := [oI (.iconst 4) 1 4, oK (.goto 4) 3 116 0]) (G := True ∧ True ∧ True) (by decide +kernel) ?_ ⟨trivial, trivial, trivial⟩ k
  rfl
theorem BX7_back_115 {d Z L : Nat} {xs : Nat → Int32} {z : Nat} {Φ : Out → T2 → T3 → Nat → Prop} {I : T2} {J : T3} {x1 : Int32} {x2 : Int32} {x3 : Int32} {x4 : Int32} {x5 : Int32}  
    (k : Ev d Z L xs mX7_back 116 [some (.ref 136), some (.int x1), some (.int x2), some (.int x3), some (.int x4), some (.int x5)] [.int 0, .ref 136] I J z Φ) : Ev d Z L xs mX7_back 115 [some (.ref 136), some (.int x1), some (.int x2), some (.int x3), some (.int x4), some (.int x5)] [.ref 136] I J z Φ := by
  refine Ev.blk (ops := [oI (.iconst 0) 1 0]) (G := True ∧ True) (by decide +kernel) ?_ ⟨trivial, trivial⟩ k
  rfl
theorem BX7_back_116 {d Z L : Nat} {xs : Nat → Int32} {z : Nat} {Φ : Out → T2 → T3 → Nat → Prop} {I : T2} {J : T3} {x1 : Int32} {x2 : Int32} {x3 : Int32} {x4 : Int32} {x5 : Int32} {xs1 : Int32}  
    (k : Ev d Z L xs mX7_back 123 [some (.ref 136), some (.int x1), some (.int x2), some (.int x3), some (.int x4), some (.int x5)] [.int ((up2 I 136 0 xs1) 136 0)] (up2 I 136 0 xs1) J z Φ) : Ev d Z L xs mX7_back 116 [some (.ref 136), some (.int x1), some (.int x2), some (.int x3), some (.int x4), some (.int x5)] [.int xs1, .ref 136] I J z Φ := by
  refine Ev.blk (ops := [oK (.putfield 79) 3 7 0, o0 (.aload_n 0) 1, oK (.getfield 79) 3 7 0]) (G := (kd 136 = 7) ∧ True ∧ (kd 136 = 7) ∧ True) (by decide +kernel) ?_ ⟨(by decide), trivial, (by decide), trivial⟩ k
  rfl
theorem BX7_back_126 {d Z L : Nat} {xs : Nat → Int32} {z : Nat} {Φ : Out → T2 → T3 → Nat → Prop} {I : T2} {J : T3} {x1 : Int32} {x2 : Int32} {x3 : Int32} {x4 : Int32} {x5 : Int32}  (g1 : vp_in ((3 * x1) + x4) 24)
    (k : Ev d Z L xs mX7_back 148 [some (.ref 136), some (.int x1), some (.int x2), some (.int x3), some (.int x4), some (.int x5)] [.int 0, .int x3, .int x2, .int x1, .int 1, .int x1, .ref 136] (up2 I 144 ((3 * x1) + x4).toNatClampNeg ((I 144 ((3 * x1) + x4).toNatClampNeg) - x3)) J z Φ) : Ev d Z L xs mX7_back 126 [some (.ref 136), some (.int x1), some (.int x2), some (.int x3), some (.int x4), some (.int x5)] [] I J z Φ := by
  refine Ev.blk (ops := [o0 (.aload_n 0) 1, oK (.getfield 33) 3 7 16, oI (.iconst 3) 1 3, o0 (.iload_n 1) 1, o0 (.imul) 1, o0 (.iload 4) 2, o0 (.iadd) 1, o0 (.dup2) 1, o0 (.iaload) 1, o0 (.iload_n 3) 1, o0 (.isub) 1, o0 (.iastore) 1, o0 (.aload_n 0) 1, o0 (.iload_n 1) 1, oI (.iconst 1) 1 1, o0 (.iload_n 1) 1, o0 (.iload_n 2) 1, o0 (.iload_n 3) 1, oI (.iconst 0) 1 0]) (G := True ∧ (kd 136 = 7) ∧ True ∧ True ∧ True ∧ True ∧ True ∧ True ∧ (kd 144 = 8 ∧ vp_in ((3 * x1) + x4) (ln 144)) ∧ True ∧ True ∧ (kd 144 = 8 ∧ vp_in ((3 * x1) + x4) (ln 144)) ∧ True ∧ True ∧ True ∧ True ∧ True ∧ True ∧ True ∧ True) (by decide +kernel) ?_ ⟨trivial, (by decide), trivial, trivial, trivial, trivial, trivial, trivial, ⟨(by decide), g1⟩, trivial, trivial, ⟨(by decide), g1⟩, trivial, trivial, trivial, trivial, trivial, trivial, trivial, trivial⟩ k
  rfl
theorem BX7_which_0 {d Z L : Nat} {xs : Nat → Int32} {z : Nat} {Φ : Out → T2 → T3 → Nat → Prop} {I : T2} {J : T3} {x0 : Int32} {x1 : Int32}  
    (k : Ev d Z L xs mX7_which 9 [some (.int x0), some (.int x1), some (.long ((x0.toInt64 - x1.toInt64) + 1)), none] [.int x0] I J z Φ) : Ev d Z L xs mX7_which 0 [some (.int x0), some (.int x1), none, none] [] I J z Φ := by
  refine Ev.blk (ops := [o0 (.iload_n 0) 1, o0 (.i2l) 1, o0 (.iload_n 1) 1, o0 (.i2l) 1, o0 (.lsub) 1, oL (.lconst 1) 1 1, o0 (.ladd) 1, o0 (.lstore_n 2) 1, o0 (.iload_n 0) 1]) (G := True ∧ True ∧ True ∧ True ∧ True ∧ True ∧ True ∧ True ∧ True ∧ True) (by decide +kernel) ?_ ⟨trivial, trivial, trivial, trivial, trivial, trivial, trivial, trivial, trivial, trivial⟩ k
  rfl
theorem BX7_which_12 {d Z L : Nat} {xs : Nat → Int32} {z : Nat} {Φ : Out → T2 → T3 → Nat → Prop} {I : T2} {J : T3} {x0 : Int32} {x1 : Int32} {y2 : Int64}  
    (k : Ev d Z L xs mX7_which 15 [some (.int x0), some (.int x1), some (.long y2), none] [.int (lg_cmp y2 0)] I J z Φ) : Ev d Z L xs mX7_which 12 [some (.int x0), some (.int x1), some (.long y2), none] [] I J z Φ := by
  refine Ev.blk (ops := [o0 (.lload_n 2) 1, oL (.lconst 0) 1 0, o0 (.lcmp) 1]) (G := True ∧ True ∧ True ∧ True) (by decide +kernel) ?_ ⟨trivial, trivial, trivial, trivial⟩ k
  rfl
theorem BX7_which_18 {d Z L : Nat} {xs : Nat → Int32} {z : Nat} {Φ : Out → T2 → T3 → Nat → Prop} {I : T2} {J : T3} {x0 : Int32} {x1 : Int32} {y2 : Int64}  
    (k : Ev d Z L xs mX7_which 23 [some (.int x0), some (.int x1), some (.long y2), none] [.int (lg_cmp y2 2)] I J z Φ) : Ev d Z L xs mX7_which 18 [some (.int x0), some (.int x1), some (.long y2), none] [] I J z Φ := by
  refine Ev.blk (ops := [o0 (.lload_n 2) 1, oL (.ldc2_w 116) 3 2, o0 (.lcmp) 1]) (G := True ∧ True ∧ True ∧ True) (by decide +kernel) ?_ ⟨trivial, trivial, trivial, trivial⟩ k
  rfl
theorem BX7_which_26 {d Z L : Nat} {xs : Nat → Int32} {z : Nat} {Φ : Out → T2 → T3 → Nat → Prop} {I : T2} {J : T3} {x0 : Int32} {x1 : Int32} {y2 : Int64}  
    (k : Ev d Z L xs mX7_which 32 [some (.int x0), some (.int x1), some (.long y2), none] [.int (-1)] I J z Φ) : Ev d Z L xs mX7_which 26 [some (.int x0), some (.int x1), some (.long y2), none] [] I J z Φ := by
  refine Ev.blk (ops := [oI (.iconst (-1)) 1 (-1), oK (.goto 5) 3 32 0]) (G := True ∧ True ∧ True) (by decide +kernel) ?_ ⟨trivial, trivial, trivial⟩ k
  rfl
theorem BX7_which_30 {d Z L : Nat} {xs : Nat → Int32} {z : Nat} {Φ : Out → T2 → T3 → Nat → Prop} {I : T2} {J : T3} {x0 : Int32} {x1 : Int32} {y2 : Int64}  
    (k : Ev d Z L xs mX7_which 32 [some (.int x0), some (.int x1), some (.long y2), none] [.int y2.toInt32] I J z Φ) : Ev d Z L xs mX7_which 30 [some (.int x0), some (.int x1), some (.long y2), none] [] I J z Φ := by
  refine Ev.blk (ops := [o0 (.lload_n 2) 1, o0 (.l2i) 1]) (G := True ∧ True ∧ True) (by decide +kernel) ?_ ⟨trivial, trivial, trivial⟩ k
  rfl
theorem BX7_split_0 {d Z L : Nat} {xs : Nat → Int32} {z : Nat} {Φ : Out → T2 → T3 → Nat → Prop} {I : T2} {J : T3}   
    (k : Ev d Z L xs mX7_split 5 [some (.ref 136), none, none, none, none, none] [.int (I 136 7), .ref 136] I J z Φ) : Ev d Z L xs mX7_split 0 [some (.ref 136), none, none, none, none, none] [] I J z Φ := by
  refine Ev.blk (ops := [o0 (.aload_n 0) 1, o0 (.aload_n 0) 1, oK (.getfield 102) 3 7 7]) (G := True ∧ True ∧ (kd 136 = 7) ∧ True) (by decide +kernel) ?_ ⟨trivial, trivial, (by decide), trivial⟩ k
  rfl
theorem BX7_split_8 {d Z L : Nat} {xs : Nat → Int32} {z : Nat} {Φ : Out → T2 → T3 → Nat → Prop} {I : T2} {J : T3}   
    (k : Ev d Z L xs mX7_split 13 [some (.ref 136), none, none, none, none, none] [.int 1, .ref 136] I J z Φ) : Ev d Z L xs mX7_split 8 [some (.ref 136), none, none, none, none, none] [.ref 136] I J z Φ := by
  refine Ev.blk (ops := [oI (.iconst 1) 1 1, oK (.goto 4) 3 13 0]) (G := True ∧ True ∧ True) (by decide +kernel) ?_ ⟨trivial, trivial, trivial⟩ k
  rfl
theorem BX7_split_12 {d Z L : Nat} {xs : Nat → Int32} {z : Nat} {Φ : Out → T2 → T3 → Nat → Prop} {I : T2} {J : T3}   
    (k : Ev d Z L xs mX7_split 13 [some (.ref 136), none, none, none, none, none] [.int 0, .ref 136] I J z Φ) : Ev d Z L xs mX7_split 12 [some (.ref 136), none, none, none, none, none] [.ref 136] I J z Φ := by
  refine Ev.blk (ops := [oI (.iconst 0) 1 0]) (G := True ∧ True) (by decide +kernel) ?_ ⟨trivial, trivial⟩ k
  rfl
theorem BX7_split_13 {d Z L : Nat} {xs : Nat → Int32} {z : Nat} {Φ : Out → T2 → T3 → Nat → Prop} {I : T2} {J : T3} {xs1 : Int32}  
    (k : Ev d Z L xs mX7_split 20 [some (.ref 136), none, none, none, none, none] [.int ((up2 I 136 0 xs1) 136 0)] (up2 I 136 0 xs1) J z Φ) : Ev d Z L xs mX7_split 13 [some (.ref 136), none, none, none, none, none] [.int xs1, .ref 136] I J z Φ := by
  refine Ev.blk (ops := [oK (.putfield 79) 3 7 0, o0 (.aload_n 0) 1, oK (.getfield 79) 3 7 0]) (G := (kd 136 = 7) ∧ True ∧ (kd 136 = 7) ∧ True) (by decide +kernel) ?_ ⟨(by decide), trivial, (by decide), trivial⟩ k
  rfl
theorem BX7_split_23 {d Z L : Nat} {xs : Nat → Int32} {z : Nat} {Φ : Out → T2 → T3 → Nat → Prop} {I : T2} {J : T3}   
    (k : Ev d Z L xs mX7_split 24 [some (.ref 136), none, none, none, none, none] [.int 0] I J z Φ) : Ev d Z L xs mX7_split 23 [some (.ref 136), none, none, none, none, none] [] I J z Φ := by
  refine Ev.blk (ops := [oI (.iconst 0) 1 0]) (G := True ∧ True) (by decide +kernel) ?_ ⟨trivial, trivial⟩ k
  rfl
theorem BX7_split_25 {d Z L : Nat} {xs : Nat → Int32} {z : Nat} {Φ : Out → T2 → T3 → Nat → Prop} {I : T2} {J : T3}   
    (k : Ev d Z L xs mX7_split 29 [some (.ref 136), some (.int 0), some (.int 0), none, none, none] [] I J z Φ) : Ev d Z L xs mX7_split 25 [some (.ref 136), none, none, none, none, none] [] I J z Φ := by
  refine Ev.blk (ops := [oI (.iconst 0) 1 0, o0 (.istore_n 1) 1, oI (.iconst 0) 1 0, o0 (.istore_n 2) 1]) (G := True ∧ True ∧ True ∧ True ∧ True) (by decide +kernel) ?_ ⟨trivial, trivial, trivial, trivial, trivial⟩ k
  rfl
theorem BX7_split_29 {d Z L : Nat} {xs : Nat → Int32} {z : Nat} {Φ : Out → T2 → T3 → Nat → Prop} {I : T2} {J : T3} {x1 : Int32} {x2 : Int32}  
    (k : Ev d Z L xs mX7_split 31 [some (.ref 136), some (.int x1), some (.int x2), none, none, none] [.int 3, .int x2] I J z Φ) : Ev d Z L xs mX7_split 29 [some (.ref 136), some (.int x1), some (.int x2), none, none, none] [] I J z Φ := by
  refine Ev.blk (ops := [o0 (.iload_n 2) 1, oI (.iconst 3) 1 3]) (G := True ∧ True ∧ True) (by decide +kernel) ?_ ⟨trivial, trivial, trivial⟩ k
  rfl
theorem BX7_split_34 {d Z L : Nat} {xs : Nat → Int32} {z : Nat} {Φ : Out → T2 → T3 → Nat → Prop} {I : T2} {J : T3} {x1 : Int32} {x2 : Int32}  
    (k : Ev d Z L xs mX7_split 36 [some (.ref 136), some (.int x1), some (.int x2), some (.int 0), none, none] [] I J z Φ) : Ev d Z L xs mX7_split 34 [some (.ref 136), some (.int x1), some (.int x2), none, none, none] [] I J z Φ := by
  refine Ev.blk (ops := [oI (.iconst 0) 1 0, o0 (.istore_n 3) 1]) (G := True ∧ True ∧ True) (by decide +kernel) ?_ ⟨trivial, trivial, trivial⟩ k
  rfl
theorem BX7_split_36 {d Z L : Nat} {xs : Nat → Int32} {z : Nat} {Φ : Out → T2 → T3 → Nat → Prop} {I : T2} {J : T3} {x1 : Int32} {x2 : Int32} {x3 : Int32}  
    (k : Ev d Z L xs mX7_split 41 [some (.ref 136), some (.int x1), some (.int x2), some (.int x3), none, none] [.int (I 136 4), .int x3] I J z Φ) : Ev d Z L xs mX7_split 36 [some (.ref 136), some (.int x1), some (.int x2), some (.int x3), none, none] [] I J z Φ := by
  refine Ev.blk (ops := [o0 (.iload_n 3) 1, o0 (.aload_n 0) 1, oK (.getfield 92) 3 7 4]) (G := True ∧ True ∧ (kd 136 = 7) ∧ True) (by decide +kernel) ?_ ⟨trivial, trivial, (by decide), trivial⟩ k
  rfl
theorem BX7_split_44 {d Z L : Nat} {xs : Nat → Int32} {z : Nat} {Φ : Out → T2 → T3 → Nat → Prop} {I : T2} {J : T3} {x1 : Int32} {x2 : Int32} {x3 : Int32}  
    (k : Ev d Z L xs mX7_split 54 [some (.ref 136), some (.int x1), some (.int x2), some (.int x3), none, none] [.int (8 + x3), .ref 136, .int x3, .ref 154] I J z Φ) : Ev d Z L xs mX7_split 44 [some (.ref 136), some (.int x1), some (.int x2), some (.int x3), none, none] [] I J z Φ := by
  refine Ev.blk (ops := [o0 (.aload_n 0) 1, oK (.getfield 63) 3 7 28, o0 (.iload_n 3) 1, o0 (.aload_n 0) 1, oI (.bipush 8) 2 8, o0 (.iload_n 3) 1, o0 (.iadd) 1]) (G := True ∧ (kd 136 = 7) ∧ True ∧ True ∧ True ∧ True ∧ True ∧ True) (by decide +kernel) ?_ ⟨trivial, (by decide), trivial, trivial, trivial, trivial, trivial, trivial⟩ k
  rfl
theorem BX7_split_60 {d Z L : Nat} {xs : Nat → Int32} {z : Nat} {Φ : Out → T2 → T3 → Nat → Prop} {I : T2} {J : T3} {x1 : Int32} {x2 : Int32} {x3 : Int32} {as0 : Nat} {xs1 : Int32}  (g1 : vp_in ((3 * x3) + x2) 24)
    (k : Ev d Z L xs mX7_split 74 [some (.ref 136), some (.int x1), some (.int x2), some (.int x3), none, none] [.int (I 138 ((3 * x3) + x2).toNatClampNeg), .int xs1, .ref as0] I J z Φ) : Ev d Z L xs mX7_split 60 [some (.ref 136), some (.int x1), some (.int x2), some (.int x3), none, none] [.int xs1, .ref as0] I J z Φ := by
  refine Ev.blk (ops := [o0 (.aload_n 0) 1, oK (.getfield 13) 3 7 10, oI (.iconst 3) 1 3, o0 (.iload_n 3) 1, o0 (.imul) 1, o0 (.iload_n 2) 1, o0 (.iadd) 1, o0 (.iaload) 1, oK (.goto 4) 3 74 0]) (G := True ∧ (kd 136 = 7) ∧ True ∧ True ∧ True ∧ True ∧ True ∧ (kd 138 = 8 ∧ vp_in ((3 * x3) + x2) (ln 138)) ∧ True ∧ True) (by decide +kernel) ?_ ⟨trivial, (by decide), trivial, trivial, trivial, trivial, trivial, ⟨(by decide), g1⟩, trivial, trivial⟩ k
  rfl
theorem BX7_split_73 {d Z L : Nat} {xs : Nat → Int32} {z : Nat} {Φ : Out → T2 → T3 → Nat → Prop} {I : T2} {J : T3} {x1 : Int32} {x2 : Int32} {x3 : Int32} {as0 : Nat} {xs1 : Int32}  
    (k : Ev d Z L xs mX7_split 74 [some (.ref 136), some (.int x1), some (.int x2), some (.int x3), none, none] [.int 0, .int xs1, .ref as0] I J z Φ) : Ev d Z L xs mX7_split 73 [some (.ref 136), some (.int x1), some (.int x2), some (.int x3), none, none] [.int xs1, .ref as0] I J z Φ := by
  refine Ev.blk (ops := [oI (.iconst 0) 1 0]) (G := True ∧ True) (by decide +kernel) ?_ ⟨trivial, trivial⟩ k
  rfl
theorem BX7_split_74 {d Z L : Nat} {xs : Nat → Int32} {z : Nat} {Φ : Out → T2 → T3 → Nat → Prop} {I : T2} {J : T3} {x1 : Int32} {x2 : Int32} {x3 : Int32} {as0 : Nat} {xs1 : Int32} {xs2 : Int32} (hk_as0 : kd as0 = 8) (g1 : vp_in xs1 (ln as0)) (g2 : vp_in x3 8) (g3 : vp_in ((3 * x3) + x2) 24)
    (k : Ev d Z L xs mX7_split 36 [some (.ref 136), some (.int x1), some (.int x2), some (.int (x3 + 1)), none, none] [] (up2 (up2 (up2 I as0 xs1.toNatClampNeg xs2) 155 x3.toNatClampNeg 0) 138 ((3 * x3) + x2).toNatClampNeg 0) J z Φ) : Ev d Z L xs mX7_split 74 [some (.ref 136), some (.int x1), some (.int x2), some (.int x3), none, none] [.int xs2, .int xs1, .ref as0] I J z Φ := by
  refine Ev.blk (ops := [o0 (.iastore) 1, o0 (.aload_n 0) 1, oK (.getfield 66) 3 7 29, o0 (.iload_n 3) 1, oI (.iconst 0) 1 0, o0 (.iastore) 1, o0 (.aload_n 0) 1, oK (.getfield 13) 3 7 10, oI (.iconst 3) 1 3, o0 (.iload_n 3) 1, o0 (.imul) 1, o0 (.iload_n 2) 1, o0 (.iadd) 1, oI (.iconst 0) 1 0, o0 (.iastore) 1, oI (.iinc 3 1) 3 1, oK (.goto (-60)) 3 36 0]) (G := (kd as0 = 8 ∧ vp_in xs1 (ln as0)) ∧ True ∧ (kd 136 = 7) ∧ True ∧ True ∧ (kd 155 = 8 ∧ vp_in x3 (ln 155)) ∧ True ∧ (kd 136 = 7) ∧ True ∧ True ∧ True ∧ True ∧ True ∧ True ∧ (kd 138 = 8 ∧ vp_in ((3 * x3) + x2) (ln 138)) ∧ True ∧ True ∧ True) (by decide +kernel) ?_ ⟨⟨hk_as0, g1⟩, trivial, (by decide), trivial, trivial, ⟨(by decide), g2⟩, trivial, (by decide), trivial, trivial, trivial, trivial, trivial, trivial, ⟨(by decide), g3⟩, trivial, trivial, trivial⟩ k
  rfl
theorem BX7_split_99 {d Z L : Nat} {xs : Nat → Int32} {z : Nat} {Φ : Out → T2 → T3 → Nat → Prop} {I : T2} {J : T3} {x1 : Int32} {x2 : Int32} {x3 : Int32}  (g1 : vp_in x2 3)
    (k : Ev d Z L xs mX7_split 107 [some (.ref 136), some (.int x1), some (.int x2), some (.int (I 137 x2.toNatClampNeg)), none, none] [.int (I 137 x2.toNatClampNeg)] I J z Φ) : Ev d Z L xs mX7_split 99 [some (.ref 136), some (.int x1), some (.int x2), some (.int x3), none, none] [] I J z Φ := by
  refine Ev.blk (ops := [o0 (.aload_n 0) 1, oK (.getfield 7) 3 7 9, o0 (.iload_n 2) 1, o0 (.iaload) 1, o0 (.istore_n 3) 1, o0 (.iload_n 3) 1]) (G := True ∧ (kd 136 = 7) ∧ True ∧ (kd 137 = 8 ∧ vp_in x2 (ln 137)) ∧ True ∧ True ∧ True) (by decide +kernel) ?_ ⟨trivial, (by decide), trivial, ⟨(by decide), g1⟩, trivial, trivial, trivial⟩ k
  rfl
theorem BX7_split_110 {d Z L : Nat} {xs : Nat → Int32} {z : Nat} {Φ : Out → T2 → T3 → Nat → Prop} {I : T2} {J : T3} {x1 : Int32} {x2 : Int32} {x3 : Int32}  
    (k : Ev d Z L xs mX7_split 115 [some (.ref 136), some (.int x1), some (.int x2), some (.int x3), none, none] [.int 1] I J z Φ) : Ev d Z L xs mX7_split 110 [some (.ref 136), some (.int x1), some (.int x2), some (.int x3), none, none] [] I J z Φ := by
  refine Ev.blk (ops := [oI (.iconst 1) 1 1, oK (.goto 4) 3 115 0]) (G := True ∧ True ∧ True) (by decide +kernel) ?_ ⟨trivial, trivial, trivial⟩ k
  rfl
theorem BX7_split_114 {d Z L : Nat} {xs : Nat → Int32} {z : Nat} {Φ : Out → T2 → T3 → Nat → Prop} {I : T2} {J : T3} {x1 : Int32} {x2 : Int32} {x3 : Int32}  
    (k : Ev d Z L xs mX7_split 115 [some (.ref 136), some (.int x1), some (.int x2), some (.int x3), none, none] [.int 0] I J z Φ) : Ev d Z L xs mX7_split 114 [some (.ref 136), some (.int x1), some (.int x2), some (.int x3), none, none] [] I J z Φ := by
  refine Ev.blk (ops := [oI (.iconst 0) 1 0]) (G := True ∧ True) (by decide +kernel) ?_ ⟨trivial, trivial⟩ k
  rfl
theorem BX7_split_115 {d Z L : Nat} {xs : Nat → Int32} {z : Nat} {Φ : Out → T2 → T3 → Nat → Prop} {I : T2} {J : T3} {x1 : Int32} {x2 : Int32} {x3 : Int32} {xs0 : Int32}  
    (k : Ev d Z L xs mX7_split 117 [some (.ref 136), some (.int x1), some (.int x2), some (.int x3), some (.int xs0), none] [] I J z Φ) : Ev d Z L xs mX7_split 115 [some (.ref 136), some (.int x1), some (.int x2), some (.int x3), none, none] [.int xs0] I J z Φ := by
  refine Ev.blk (ops := [o0 (.istore 4) 2]) (G := True ∧ True) (by decide +kernel) ?_ ⟨trivial, trivial⟩ k
  rfl
theorem BX7_split_117 {d Z L : Nat} {xs : Nat → Int32} {z : Nat} {Φ : Out → T2 → T3 → Nat → Prop} {I : T2} {J : T3} {x1 : Int32} {x2 : Int32} {x3 : Int32} {x4 : Int32}  
    (k : Ev d Z L xs mX7_split 119 [some (.ref 136), some (.int x1), some (.int x2), some (.int x3), some (.int x4), none] [.int x4] I J z Φ) : Ev d Z L xs mX7_split 117 [some (.ref 136), some (.int x1), some (.int x2), some (.int x3), some (.int x4), none] [] I J z Φ := by
  refine Ev.blk (ops := [o0 (.iload 4) 2]) (G := True ∧ True) (by decide +kernel) ?_ ⟨trivial, trivial⟩ k
  rfl
theorem BX7_split_122 {d Z L : Nat} {xs : Nat → Int32} {z : Nat} {Φ : Out → T2 → T3 → Nat → Prop} {I : T2} {J : T3} {x1 : Int32} {x2 : Int32} {x3 : Int32} {x4 : Int32}  
    (k : Ev d Z L xs mX7_split 130 [some (.ref 136), some (.int x1), some (.int x2), some (.int x3), some (.int x4), some (.int x3)] [.int 2, .int (I 136 6)] I J z Φ) : Ev d Z L xs mX7_split 122 [some (.ref 136), some (.int x1), some (.int x2), some (.int x3), some (.int x4), none] [] I J z Φ := by
  refine Ev.blk (ops := [o0 (.iload_n 3) 1, o0 (.istore 5) 2, o0 (.aload_n 0) 1, oK (.getfield 99) 3 7 6, oI (.iconst 2) 1 2]) (G := True ∧ True ∧ True ∧ (kd 136 = 7) ∧ True ∧ True) (by decide +kernel) ?_ ⟨trivial, trivial, trivial, (by decide), trivial, trivial⟩ k
  rfl
theorem BX7_split_133 {d Z L : Nat} {xs : Nat → Int32} {z : Nat} {Φ : Out → T2 → T3 → Nat → Prop} {I : T2} {J : T3} {x1 : Int32} {x2 : Int32} {x3 : Int32} {x4 : Int32} {x5 : Int32}  
    (k : Ev d Z L xs mX7_split 136 [some (.ref 136), some (.int x1), some (.int x2), some (.int x3), some (.int x4), some (.int x5)] [.int x2, .int x3, .ref 136] I J z Φ) : Ev d Z L xs mX7_split 133 [some (.ref 136), some (.int x1), some (.int x2), some (.int x3), some (.int x4), some (.int x5)] [] I J z Φ := by
  refine Ev.blk (ops := [o0 (.aload_n 0) 1, o0 (.iload_n 3) 1, o0 (.iload_n 2) 1]) (G := True ∧ True ∧ True ∧ True) (by decide +kernel) ?_ ⟨trivial, trivial, trivial, trivial⟩ k
  rfl
theorem BX7_split_139 {d Z L : Nat} {xs : Nat → Int32} {z : Nat} {Φ : Out → T2 → T3 → Nat → Prop} {I : T2} {J : T3} {x1 : Int32} {x2 : Int32} {x3 : Int32} {x4 : Int32} {x5 : Int32} {xs0 : Int32}  
    (k : Ev d Z L xs mX7_split 147 [some (.ref 136), some (.int x1), some (.int x2), some (.int x3), some (.int x4), some (.int x5)] [.int xs0] I J z Φ) : Ev d Z L xs mX7_split 139 [some (.ref 136), some (.int x1), some (.int x2), some (.int x3), some (.int x4), some (.int x5)] [.int xs0] I J z Φ := by
  refine Ev.blk (ops := [oK (.goto 8) 3 147 0]) (G := True ∧ True) (by decide +kernel) ?_ ⟨trivial, trivial⟩ k
  rfl
theorem BX7_split_142 {d Z L : Nat} {xs : Nat → Int32} {z : Nat} {Φ : Out → T2 → T3 → Nat → Prop} {I : T2} {J : T3} {x1 : Int32} {x2 : Int32} {x3 : Int32} {x4 : Int32} {x5 : Int32}  
    (k : Ev d Z L xs mX7_split 144 [some (.ref 136), some (.int x1), some (.int x2), some (.int x3), some (.int x4), some (.int x5)] [.int x3, .ref 136] I J z Φ) : Ev d Z L xs mX7_split 142 [some (.ref 136), some (.int x1), some (.int x2), some (.int x3), some (.int x4), some (.int x5)] [] I J z Φ := by
  refine Ev.blk (ops := [o0 (.aload_n 0) 1, o0 (.iload_n 3) 1]) (G := True ∧ True ∧ True) (by decide +kernel) ?_ ⟨trivial, trivial, trivial⟩ k
  rfl
theorem BX7_split_147 {d Z L : Nat} {xs : Nat → Int32} {z : Nat} {Φ : Out → T2 → T3 → Nat → Prop} {I : T2} {J : T3} {x1 : Int32} {x2 : Int32} {x3 : Int32} {x4 : Int32} {x5 : Int32} {xs0 : Int32}  
    (k : Ev d Z L xs mX7_split 149 [some (.ref 136), some (.int x1), some (.int x2), some (.int xs0), some (.int x4), some (.int x5)] [.int xs0] I J z Φ) : Ev d Z L xs mX7_split 147 [some (.ref 136), some (.int x1), some (.int x2), some (.int x3), some (.int x4), some (.int x5)] [.int xs0] I J z Φ := by
  refine Ev.blk (ops := [o0 (.istore_n 3) 1, o0 (.iload_n 3) 1]) (G := True ∧ True ∧ True) (by decide +kernel) ?_ ⟨trivial, trivial, trivial⟩ k
  rfl
theorem BX7_split_152 {d Z L : Nat} {xs : Nat → Int32} {z : Nat} {Φ : Out → T2 → T3 → Nat → Prop} {I : T2} {J : T3} {x1 : Int32} {x2 : Int32} {x3 : Int32} {x4 : Int32} {x5 : Int32}  
    (k : Ev d Z L xs mX7_split 155 [some (.ref 136), some (.int x1), some (.int x2), some (.int x3), some (.int x4), some (.int x5)] [.int x5, .int x3] I J z Φ) : Ev d Z L xs mX7_split 152 [some (.ref 136), some (.int x1), some (.int x2), some (.int x3), some (.int x4), some (.int x5)] [] I J z Φ := by
  refine Ev.blk (ops := [o0 (.iload_n 3) 1, o0 (.iload 5) 2]) (G := True ∧ True ∧ True) (by decide +kernel) ?_ ⟨trivial, trivial, trivial⟩ k
  rfl
theorem BX7_split_158 {d Z L : Nat} {xs : Nat → Int32} {z : Nat} {Φ : Out → T2 → T3 → Nat → Prop} {I : T2} {J : T3} {x1 : Int32} {x2 : Int32} {x3 : Int32} {x4 : Int32} {x5 : Int32}  
    (k : Ev d Z L xs mX7_split 163 [some (.ref 136), some (.int x1), some (.int x2), some (.int x3), some (.int x4), some (.int x5)] [.int 1] I J z Φ) : Ev d Z L xs mX7_split 158 [some (.ref 136), some (.int x1), some (.int x2), some (.int x3), some (.int x4), some (.int x5)] [] I J z Φ := by
  refine Ev.blk (ops := [oI (.iconst 1) 1 1, oK (.goto 4) 3 163 0]) (G := True ∧ True ∧ True) (by decide +kernel) ?_ ⟨trivial, trivial, trivial⟩ k
  rfl
theorem BX7_split_162 {d Z L : Nat} {xs : Nat → Int32} {z : Nat} {Φ : Out → T2 → T3 → Nat → Prop} {I : T2} {J : T3} {x1 : Int32} {x2 : Int32} {x3 : Int32} {x4 : Int32} {x5 : Int32}  
    (k : Ev d Z L xs mX7_split 163 [some (.ref 136), some (.int x1), some (.int x2), some (.int x3), some (.int x4), some (.int x5)] [.int 0] I J z Φ) : Ev d Z L xs mX7_split 162 [some (.ref 136), some (.int x1), some (.int x2), some (.int x3), some (.int x4), some (.int x5)] [] I J z Φ := by
  refine Ev.blk (ops := [oI (.iconst 0) 1 0]) (G := True ∧ True) (by decide +kernel) ?_ ⟨trivial, trivial⟩ k
  rfl
theorem BX7_split_163 {d Z L : Nat} {xs : Nat → Int32} {z : Nat} {Φ : Out → T2 → T3 → Nat → Prop} {I : T2} {J : T3} {x1 : Int32} {x2 : Int32} {x3 : Int32} {x4 : Int32} {x5 : Int32} {xs0 : Int32}  
    (k : Ev d Z L xs mX7_split 117 [some (.ref 136), some (.int x1), some (.int x2), some (.int x3), some (.int xs0), some (.int x5)] [] I J z Φ) : Ev d Z L xs mX7_split 163 [some (.ref 136), some (.int x1), some (.int x2), some (.int x3), some (.int x4), some (.int x5)] [.int xs0] I J z Φ := by
  refine Ev.blk (ops := [o0 (.istore 4) 2, oK (.goto (-48)) 3 117 0]) (G := True ∧ True ∧ True) (by decide +kernel) ?_ ⟨trivial, trivial, trivial⟩ k
  rfl
theorem BX7_split_168 {d Z L : Nat} {xs : Nat → Int32} {z : Nat} {Φ : Out → T2 → T3 → Nat → Prop} {I : T2} {J : T3} {x1 : Int32} {x2 : Int32} {x3 : Int32} {x4 : Int32}  
    (k : Ev d Z L xs mX7_split 171 [some (.ref 136), some (.int x1), some (.int x2), some (.int x3), some (.int x4), some (.int 0)] [] I J z Φ) : Ev d Z L xs mX7_split 168 [some (.ref 136), some (.int x1), some (.int x2), some (.int x3), some (.int x4), none] [] I J z Φ := by
  refine Ev.blk (ops := [oI (.iconst 0) 1 0, o0 (.istore 5) 2]) (G := True ∧ True ∧ True) (by decide +kernel) ?_ ⟨trivial, trivial, trivial⟩ k
  rfl
theorem BX7_split_171 {d Z L : Nat} {xs : Nat → Int32} {z : Nat} {Φ : Out → T2 → T3 → Nat → Prop} {I : T2} {J : T3} {x1 : Int32} {x2 : Int32} {x3 : Int32} {x4 : Int32} {x5 : Int32}  
    (k : Ev d Z L xs mX7_split 177 [some (.ref 136), some (.int x1), some (.int x2), some (.int x3), some (.int x4), some (.int x5)] [.int (I 136 4), .int x5] I J z Φ) : Ev d Z L xs mX7_split 171 [some (.ref 136), some (.int x1), some (.int x2), some (.int x3), some (.int x4), some (.int x5)] [] I J z Φ := by
  refine Ev.blk (ops := [o0 (.iload 5) 2, o0 (.aload_n 0) 1, oK (.getfield 92) 3 7 4]) (G := True ∧ True ∧ (kd 136 = 7) ∧ True) (by decide +kernel) ?_ ⟨trivial, trivial, (by decide), trivial⟩ k
  rfl
theorem BX7_split_180 {d Z L : Nat} {xs : Nat → Int32} {z : Nat} {Φ : Out → T2 → T3 → Nat → Prop} {I : T2} {J : T3} {x1 : Int32} {x2 : Int32} {x3 : Int32} {x4 : Int32} {x5 : Int32}  (g1 : vp_in x5 8)
    (k : Ev d Z L xs mX7_split 187 [some (.ref 136), some (.int x1), some (.int x2), some (.int x3), some (.int x4), some (.int x5)] [.int (I 155 x5.toNatClampNeg)] I J z Φ) : Ev d Z L xs mX7_split 180 [some (.ref 136), some (.int x1), some (.int x2), some (.int x3), some (.int x4), some (.int x5)] [] I J z Φ := by
  refine Ev.blk (ops := [o0 (.aload_n 0) 1, oK (.getfield 66) 3 7 29, o0 (.iload 5) 2, o0 (.iaload) 1]) (G := True ∧ (kd 136 = 7) ∧ True ∧ (kd 155 = 8 ∧ vp_in x5 (ln 155)) ∧ True) (by decide +kernel) ?_ ⟨trivial, (by decide), trivial, ⟨(by decide), g1⟩, trivial⟩ k
  rfl
theorem BX7_split_190 {d Z L : Nat} {xs : Nat → Int32} {z : Nat} {Φ : Out → T2 → T3 → Nat → Prop} {I : T2} {J : T3} {x1 : Int32} {x2 : Int32} {x3 : Int32} {x4 : Int32} {x5 : Int32}  (g1 : vp_in x2 3) (g2 : vp_in x5 8)
    (k : Ev d Z L xs mX7_split 241 [some (.ref 136), some (.int (x1 + ((up2 I 137 x2.toNatClampNeg ((I 137 x2.toNatClampNeg) - (I 155 x5.toNatClampNeg))) 155 x5.toNatClampNeg))), some (.int x2), some (.int x3), some (.int x4), some (.int x5)] [.int 0, .int ((up2 I 137 x2.toNatClampNeg ((I 137 x2.toNatClampNeg) - (I 155 x5.toNatClampNeg))) 155 x5.toNatClampNeg), .int ((((up2 I 137 x2.toNatClampNeg ((I 137 x2.toNatClampNeg) - (I 155 x5.toNatClampNeg))) 136 8) - 1) + x2), .int x5, .int 2, .int (8 + x5), .ref 136] (up2 I 137 x2.toNatClampNeg ((I 137 x2.toNatClampNeg) - (I 155 x5.toNatClampNeg))) J z Φ) : Ev d Z L xs mX7_split 190 [some (.ref 136), some (.int x1), some (.int x2), some (.int x3), some (.int x4), some (.int x5)] [] I J z Φ := by
  refine Ev.blk (ops := [o0 (.aload_n 0) 1, oK (.getfield 7) 3 7 9, o0 (.iload_n 2) 1, o0 (.dup2) 1, o0 (.iaload) 1, o0 (.aload_n 0) 1, oK (.getfield 66) 3 7 29, o0 (.iload 5) 2, o0 (.iaload) 1, o0 (.isub) 1, o0 (.iastore) 1, o0 (.iload_n 1) 1, o0 (.aload_n 0) 1, oK (.getfield 66) 3 7 29, o0 (.iload 5) 2, o0 (.iaload) 1, o0 (.iadd) 1, o0 (.istore_n 1) 1, o0 (.aload_n 0) 1, oI (.bipush 8) 2 8, o0 (.iload 5) 2, o0 (.iadd) 1, oI (.iconst 2) 1 2, o0 (.iload 5) 2, o0 (.aload_n 0) 1, oK (.getfield 106) 3 7 8, oI (.iconst 1) 1 1, o0 (.isub) 1, o0 (.iload_n 2) 1, o0 (.iadd) 1, o0 (.aload_n 0) 1, oK (.getfield 66) 3 7 29, o0 (.iload 5) 2, o0 (.iaload) 1, oI (.iconst 0) 1 0]) (G := True ∧ (kd 136 = 7) ∧ True ∧ True ∧ (kd 137 = 8 ∧ vp_in x2 (ln 137)) ∧ True ∧ (kd 136 = 7) ∧ True ∧ (kd 155 = 8 ∧ vp_in x5 (ln 155)) ∧ True ∧ (kd 137 = 8 ∧ vp_in x2 (ln 137)) ∧ True ∧ True ∧ (kd 136 = 7) ∧ True ∧ (kd 155 = 8 ∧ vp_in x5 (ln 155)) ∧ True ∧ True ∧ True ∧ True ∧ True ∧ True ∧ True ∧ True ∧ True ∧ (kd 136 = 7) ∧ True ∧ True ∧ True ∧ True ∧ True ∧ (kd 136 = 7) ∧ True ∧ (kd 155 = 8 ∧ vp_in x5 (ln 155)) ∧ True ∧ True) (by decide +kernel) ?_ ⟨trivial, (by decide), trivial, trivial, ⟨(by decide), g1⟩, trivial, (by decide), trivial, ⟨(by decide), g2⟩, trivial, ⟨(by decide), g1⟩, trivial, trivial, (by decide), trivial, ⟨(by decide), g2⟩, trivial, trivial, trivial, trivial, trivial, trivial, trivial, trivial, trivial, (by decide), trivial, trivial, trivial, trivial, trivial, (by decide), trivial, ⟨(by decide), g2⟩, trivial, trivial⟩ k
  rfl
theorem BX7_split_244 {d Z L : Nat} {xs : Nat → Int32} {z : Nat} {Φ : Out → T2 → T3 → Nat → Prop} {I : T2} {J : T3} {x1 : Int32} {x2 : Int32} {x3 : Int32} {x4 : Int32} {x5 : Int32}  
    (k : Ev d Z L xs mX7_split 171 [some (.ref 136), some (.int x1), some (.int x2), some (.int x3), some (.int x4), some (.int (x5 + 1))] [] I J z Φ) : Ev d Z L xs mX7_split 244 [some (.ref 136), some (.int x1), some (.int x2), some (.int x3), some (.int x4), some (.int x5)] [] I J z Φ := by
  refine Ev.blk (ops := [oI (.iinc 5 1) 3 1, oK (.goto (-76)) 3 171 0]) (G := True ∧ True ∧ True) (by decide +kernel) ?_ ⟨trivial, trivial, trivial⟩ k
  rfl
theorem BX7_split_250 {d Z L : Nat} {xs : Nat → Int32} {z : Nat} {Φ : Out → T2 → T3 → Nat → Prop} {I : T2} {J : T3} {x1 : Int32} {x2 : Int32} {x3 : Int32} {x4 : Int32} {x5 : Int32}  
    (k : Ev d Z L xs mX7_split 29 [some (.ref 136), some (.int x1), some (.int (x2 + 1)), some (.int x3), some (.int x4), some (.int x5)] [] I J z Φ) : Ev d Z L xs mX7_split 250 [some (.ref 136), some (.int x1), some (.int x2), some (.int x3), some (.int x4), some (.int x5)] [] I J z Φ := by
  refine Ev.blk (ops := [oI (.iinc 2 1) 3 1, oK (.goto (-224)) 3 29 0]) (G := True ∧ True ∧ True) (by decide +kernel) ?_ ⟨trivial, trivial, trivial⟩ k
  rfl
theorem BX7_split_256 {d Z L : Nat} {xs : Nat → Int32} {z : Nat} {Φ : Out → T2 → T3 → Nat → Prop} {I : T2} {J : T3} {x1 : Int32} {x2 : Int32}  
    (k : Ev d Z L xs mX7_split 257 [some (.ref 136), some (.int x1), some (.int x2), none, none, none] [.int x1] I J z Φ) : Ev d Z L xs mX7_split 256 [some (.ref 136), some (.int x1), some (.int x2), none, none, none] [] I J z Φ := by
  refine Ev.blk (ops := [o0 (.iload_n 1) 1]) (G := True ∧ True) (by decide +kernel) ?_ ⟨trivial, trivial⟩ k
  rfl
theorem BX7_byUse_0 {d Z L : Nat} {xs : Nat → Int32} {z : Nat} {Φ : Out → T2 → T3 → Nat → Prop} {I : T2} {J : T3} {x1 : Int32} {x2 : Int32}  
    (k : Ev d Z L xs mX7_byUse 5 [some (.ref 136), some (.int x1), some (.int x2), some (.long 0), none, some (.int 0), none, none, none, none] [] I J z Φ) : Ev d Z L xs mX7_byUse 0 [some (.ref 136), some (.int x1), some (.int x2), none, none, none, none, none, none, none] [] I J z Φ := by
  refine Ev.blk (ops := [oL (.lconst 0) 1 0, o0 (.lstore_n 3) 1, oI (.iconst 0) 1 0, o0 (.istore 5) 2]) (G := True ∧ True ∧ True ∧ True ∧ True) (by decide +kernel) ?_ ⟨trivial, trivial, trivial, trivial, trivial⟩ k
  rfl
theorem BX7_byUse_5 {d Z L : Nat} {xs : Nat → Int32} {z : Nat} {Φ : Out → T2 → T3 → Nat → Prop} {I : T2} {J : T3} {x1 : Int32} {x2 : Int32} {y3 : Int64} {x5 : Int32}  
    (k : Ev d Z L xs mX7_byUse 11 [some (.ref 136), some (.int x1), some (.int x2), some (.long y3), none, some (.int x5), none, none, none, none] [.int (I 136 4), .int x5] I J z Φ) : Ev d Z L xs mX7_byUse 5 [some (.ref 136), some (.int x1), some (.int x2), some (.long y3), none, some (.int x5), none, none, none, none] [] I J z Φ := by
  refine Ev.blk (ops := [o0 (.iload 5) 2, o0 (.aload_n 0) 1, oK (.getfield 92) 3 7 4]) (G := True ∧ True ∧ (kd 136 = 7) ∧ True) (by decide +kernel) ?_ ⟨trivial, trivial, (by decide), trivial⟩ k
  rfl
theorem BX7_byUse_14 {d Z L : Nat} {xs : Nat → Int32} {z : Nat} {Φ : Out → T2 → T3 → Nat → Prop} {I : T2} {J : T3} {x1 : Int32} {x2 : Int32} {y3 : Int64} {x5 : Int32}  
    (k : Ev d Z L xs mX7_byUse 17 [some (.ref 136), some (.int x1), some (.int x2), some (.long y3), none, some (.int x5), none, none, none, none] [.int x5, .ref 136] I J z Φ) : Ev d Z L xs mX7_byUse 14 [some (.ref 136), some (.int x1), some (.int x2), some (.long y3), none, some (.int x5), none, none, none, none] [] I J z Φ := by
  refine Ev.blk (ops := [o0 (.aload_n 0) 1, o0 (.iload 5) 2]) (G := True ∧ True ∧ True) (by decide +kernel) ?_ ⟨trivial, trivial, trivial⟩ k
  rfl
theorem BX7_byUse_23 {d Z L : Nat} {xs : Nat → Int32} {z : Nat} {Φ : Out → T2 → T3 → Nat → Prop} {I : T2} {J : T3} {x1 : Int32} {x2 : Int32} {y3 : Int64} {x5 : Int32}  (g1 : vp_in ((3 * x5) + x2) 24)
    (k : Ev d Z L xs mX7_byUse 41 [some (.ref 136), some (.int x1), some (.int x2), some (.long y3), none, some (.int x5), none, none, none, none] [.long (y3 + ((I 139 ((3 * x5) + x2).toNatClampNeg).toInt64))] I J z Φ) : Ev d Z L xs mX7_byUse 23 [some (.ref 136), some (.int x1), some (.int x2), some (.long y3), none, some (.int x5), none, none, none, none] [] I J z Φ := by
  refine Ev.blk (ops := [o0 (.lload_n 3) 1, o0 (.aload_n 0) 1, oK (.getfield 16) 3 7 11, oI (.iconst 3) 1 3, o0 (.iload 5) 2, o0 (.imul) 1, o0 (.iload_n 2) 1, o0 (.iadd) 1, o0 (.iaload) 1, o0 (.i2l) 1, o0 (.ladd) 1, oK (.goto 4) 3 41 0]) (G := True ∧ True ∧ (kd 136 = 7) ∧ True ∧ True ∧ True ∧ True ∧ True ∧ (kd 139 = 8 ∧ vp_in ((3 * x5) + x2) (ln 139)) ∧ True ∧ True ∧ True ∧ True) (by decide +kernel) ?_ ⟨trivial, trivial, (by decide), trivial, trivial, trivial, trivial, trivial, ⟨(by decide), g1⟩, trivial, trivial, trivial, trivial⟩ k
  rfl
theorem BX7_byUse_40 {d Z L : Nat} {xs : Nat → Int32} {z : Nat} {Φ : Out → T2 → T3 → Nat → Prop} {I : T2} {J : T3} {x1 : Int32} {x2 : Int32} {y3 : Int64} {x5 : Int32}  
    (k : Ev d Z L xs mX7_byUse 41 [some (.ref 136), some (.int x1), some (.int x2), some (.long y3), none, some (.int x5), none, none, none, none] [.long y3] I J z Φ) : Ev d Z L xs mX7_byUse 40 [some (.ref 136), some (.int x1), some (.int x2), some (.long y3), none, some (.int x5), none, none, none, none] [] I J z Φ := by
  refine Ev.blk (ops := [o0 (.lload_n 3) 1]) (G := True ∧ True) (by decide +kernel) ?_ ⟨trivial, trivial⟩ k
  rfl
theorem BX7_byUse_41 {d Z L : Nat} {xs : Nat → Int32} {z : Nat} {Φ : Out → T2 → T3 → Nat → Prop} {I : T2} {J : T3} {x1 : Int32} {x2 : Int32} {y3 : Int64} {x5 : Int32} {ys0 : Int64}  
    (k : Ev d Z L xs mX7_byUse 5 [some (.ref 136), some (.int x1), some (.int x2), some (.long ys0), none, some (.int (x5 + 1)), none, none, none, none] [] I J z Φ) : Ev d Z L xs mX7_byUse 41 [some (.ref 136), some (.int x1), some (.int x2), some (.long y3), none, some (.int x5), none, none, none, none] [.long ys0] I J z Φ := by
  refine Ev.blk (ops := [o0 (.lstore_n 3) 1, oI (.iinc 5 1) 3 1, oK (.goto (-40)) 3 5 0]) (G := True ∧ True ∧ True ∧ True) (by decide +kernel) ?_ ⟨trivial, trivial, trivial, trivial⟩ k
  rfl
theorem BX7_byUse_48 {d Z L : Nat} {xs : Nat → Int32} {z : Nat} {Φ : Out → T2 → T3 → Nat → Prop} {I : T2} {J : T3} {x1 : Int32} {x2 : Int32} {y3 : Int64} {x5 : Int32}  
    (k : Ev d Z L xs mX7_byUse 51 [some (.ref 136), some (.int x1), some (.int x2), some (.long y3), none, some (.int x5), none, none, none, none] [.int (lg_cmp y3 0)] I J z Φ) : Ev d Z L xs mX7_byUse 48 [some (.ref 136), some (.int x1), some (.int x2), some (.long y3), none, some (.int x5), none, none, none, none] [] I J z Φ := by
  refine Ev.blk (ops := [o0 (.lload_n 3) 1, oL (.lconst 0) 1 0, o0 (.lcmp) 1]) (G := True ∧ True ∧ True ∧ True) (by decide +kernel) ?_ ⟨trivial, trivial, trivial, trivial⟩ k
  rfl
theorem BX7_byUse_54 {d Z L : Nat} {xs : Nat → Int32} {z : Nat} {Φ : Out → T2 → T3 → Nat → Prop} {I : T2} {J : T3} {x1 : Int32} {x2 : Int32} {y3 : Int64} {x5 : Int32}  
    (k : Ev d Z L xs mX7_byUse 56 [some (.ref 136), some (.int x1), some (.int x2), some (.long y3), none, some (.int x5), none, none, none, none] [.int x1, .ref 136] I J z Φ) : Ev d Z L xs mX7_byUse 54 [some (.ref 136), some (.int x1), some (.int x2), some (.long y3), none, some (.int x5), none, none, none, none] [] I J z Φ := by
  refine Ev.blk (ops := [o0 (.aload_n 0) 1, o0 (.iload_n 1) 1]) (G := True ∧ True ∧ True) (by decide +kernel) ?_ ⟨trivial, trivial, trivial⟩ k
  rfl
theorem BX7_byUse_60 {d Z L : Nat} {xs : Nat → Int32} {z : Nat} {Φ : Out → T2 → T3 → Nat → Prop} {I : T2} {J : T3} {x1 : Int32} {x2 : Int32} {y3 : Int64} {x5 : Int32}  
    (k : Ev d Z L xs mX7_byUse 66 [some (.ref 136), some (.int x1), some (.int x2), some (.long y3), none, some (.int x1), some (.int 0), none, none, none] [] I J z Φ) : Ev d Z L xs mX7_byUse 60 [some (.ref 136), some (.int x1), some (.int x2), some (.long y3), none, some (.int x5), none, none, none, none] [] I J z Φ := by
  refine Ev.blk (ops := [o0 (.iload_n 1) 1, o0 (.istore 5) 2, oI (.iconst 0) 1 0, o0 (.istore 6) 2]) (G := True ∧ True ∧ True ∧ True ∧ True) (by decide +kernel) ?_ ⟨trivial, trivial, trivial, trivial, trivial⟩ k
  rfl
theorem BX7_byUse_66 {d Z L : Nat} {xs : Nat → Int32} {z : Nat} {Φ : Out → T2 → T3 → Nat → Prop} {I : T2} {J : T3} {x1 : Int32} {x2 : Int32} {y3 : Int64} {x5 : Int32} {x6 : Int32}  
    (k : Ev d Z L xs mX7_byUse 72 [some (.ref 136), some (.int x1), some (.int x2), some (.long y3), none, some (.int x5), some (.int x6), none, none, none] [.int (I 136 4), .int x6] I J z Φ) : Ev d Z L xs mX7_byUse 66 [some (.ref 136), some (.int x1), some (.int x2), some (.long y3), none, some (.int x5), some (.int x6), none, none, none] [] I J z Φ := by
  refine Ev.blk (ops := [o0 (.iload 6) 2, o0 (.aload_n 0) 1, oK (.getfield 92) 3 7 4]) (G := True ∧ True ∧ (kd 136 = 7) ∧ True) (by decide +kernel) ?_ ⟨trivial, trivial, (by decide), trivial⟩ k
  rfl
theorem BX7_byUse_75 {d Z L : Nat} {xs : Nat → Int32} {z : Nat} {Φ : Out → T2 → T3 → Nat → Prop} {I : T2} {J : T3} {x1 : Int32} {x2 : Int32} {y3 : Int64} {x5 : Int32} {x6 : Int32}  
    (k : Ev d Z L xs mX7_byUse 84 [some (.ref 136), some (.int x1), some (.int x2), some (.long y3), none, some (.int x5), some (.int x6), none, none, none] [.int x6, .ref 136, .int x6, .ref 157] I J z Φ) : Ev d Z L xs mX7_byUse 75 [some (.ref 136), some (.int x1), some (.int x2), some (.long y3), none, some (.int x5), some (.int x6), none, none, none] [] I J z Φ := by
  refine Ev.blk (ops := [o0 (.aload_n 0) 1, oK (.getfield 72) 3 7 31, o0 (.iload 6) 2, o0 (.aload_n 0) 1, o0 (.iload 6) 2]) (G := True ∧ (kd 136 = 7) ∧ True ∧ True ∧ True ∧ True) (by decide +kernel) ?_ ⟨trivial, (by decide), trivial, trivial, trivial, trivial⟩ k
  rfl
theorem BX7_byUse_90 {d Z L : Nat} {xs : Nat → Int32} {z : Nat} {Φ : Out → T2 → T3 → Nat → Prop} {I : T2} {J : T3} {x1 : Int32} {x2 : Int32} {y3 : Int64} {x5 : Int32} {x6 : Int32} {as0 : Nat} {xs1 : Int32}  
    (k : Ev d Z L xs mX7_byUse 95 [some (.ref 136), some (.int x1), some (.int x2), some (.long y3), none, some (.int x5), some (.int x6), none, none, none] [.int 1, .int xs1, .ref as0] I J z Φ) : Ev d Z L xs mX7_byUse 90 [some (.ref 136), some (.int x1), some (.int x2), some (.long y3), none, some (.int x5), some (.int x6), none, none, none] [.int xs1, .ref as0] I J z Φ := by
  refine Ev.blk (ops := [oI (.iconst 1) 1 1, oK (.goto 4) 3 95 0]) (G := True ∧ True ∧ True) (by decide +kernel) ?_ ⟨trivial, trivial, trivial⟩ k
  rfl
theorem BX7_byUse_94 {d Z L : Nat} {xs : Nat → Int32} {z : Nat} {Φ : Out → T2 → T3 → Nat → Prop} {I : T2} {J : T3} {x1 : Int32} {x2 : Int32} {y3 : Int64} {x5 : Int32} {x6 : Int32} {as0 : Nat} {xs1 : Int32}  
    (k : Ev d Z L xs mX7_byUse 95 [some (.ref 136), some (.int x1), some (.int x2), some (.long y3), none, some (.int x5), some (.int x6), none, none, none] [.int 0, .int xs1, .ref as0] I J z Φ) : Ev d Z L xs mX7_byUse 94 [some (.ref 136), some (.int x1), some (.int x2), some (.long y3), none, some (.int x5), some (.int x6), none, none, none] [.int xs1, .ref as0] I J z Φ := by
  refine Ev.blk (ops := [oI (.iconst 0) 1 0]) (G := True ∧ True) (by decide +kernel) ?_ ⟨trivial, trivial⟩ k
  rfl
theorem BX7_byUse_95 {d Z L : Nat} {xs : Nat → Int32} {z : Nat} {Φ : Out → T2 → T3 → Nat → Prop} {I : T2} {J : T3} {x1 : Int32} {x2 : Int32} {y3 : Int64} {x5 : Int32} {x6 : Int32} {as0 : Nat} {xs1 : Int32} {xs2 : Int32} (hk_as0 : kd as0 = 10) (g1 : vp_in xs1 (ln as0)) (g2 : xs2 = (0 : Int32) ∨ xs2 = (1 : Int32)) (g3 : vp_in ((3 * x6) + x2) 24) (g4 : ¬ y3 = (0 : Int64)) (g5 : vp_in x6 8)
    (k : Ev d Z L xs mX7_byUse 127 [some (.ref 136), some (.int x1), some (.int x2), some (.long y3), none, some (.int x5), some (.int x6), none, none, none] [.int ((up2 I as0 xs1.toNatClampNeg xs2) 157 x6.toNatClampNeg)] (up2 I as0 xs1.toNatClampNeg xs2) (up3 J 156 x6.toNatClampNeg ((x1.toInt64 * (((up2 I as0 xs1.toNatClampNeg xs2) 139 ((3 * x6) + x2).toNatClampNeg).toInt64)) - (x1.toInt64 * (((up2 I as0 xs1.toNatClampNeg xs2) 139 ((3 * x6) + x2).toNatClampNeg).toInt64)) / y3 * y3)) z Φ) : Ev d Z L xs mX7_byUse 95 [some (.ref 136), some (.int x1), some (.int x2), some (.long y3), none, some (.int x5), some (.int x6), none, none, none] [.int xs2, .int xs1, .ref as0] I J z Φ := by
  refine Ev.blk (ops := [o0 (.bastore) 1, o0 (.aload_n 0) 1, oK (.getfield 69) 3 7 30, o0 (.iload 6) 2, o0 (.iload_n 1) 1, o0 (.i2l) 1, o0 (.aload_n 0) 1, oK (.getfield 16) 3 7 11, oI (.iconst 3) 1 3, o0 (.iload 6) 2, o0 (.imul) 1, o0 (.iload_n 2) 1, o0 (.iadd) 1, o0 (.iaload) 1, o0 (.i2l) 1, o0 (.lmul) 1, o0 (.lload_n 3) 1, o0 (.lrem) 1, o0 (.lastore) 1, o0 (.aload_n 0) 1, oK (.getfield 72) 3 7 31, o0 (.iload 6) 2, o0 (.baload) 1]) (G := (kd as0 = 10 ∧ vp_in xs1 (ln as0) ∧ (xs2 = (0 : Int32) ∨ xs2 = (1 : Int32))) ∧ True ∧ (kd 136 = 7) ∧ True ∧ True ∧ True ∧ True ∧ (kd 136 = 7) ∧ True ∧ True ∧ True ∧ True ∧ True ∧ (kd 139 = 8 ∧ vp_in ((3 * x6) + x2) (ln 139)) ∧ True ∧ True ∧ True ∧ (¬ y3 = (0 : Int64)) ∧ (kd 156 = 9 ∧ vp_in x6 (ln 156)) ∧ True ∧ (kd 136 = 7) ∧ True ∧ (kd 157 = 10 ∧ vp_in x6 (ln 157)) ∧ True) (by decide +kernel) ?_ ⟨⟨hk_as0, g1, g2⟩, trivial, (by decide), trivial, trivial, trivial, trivial, (by decide), trivial, trivial, trivial, trivial, trivial, ⟨(by decide), g3⟩, trivial, trivial, trivial, g4, ⟨(by decide), g5⟩, trivial, (by decide), trivial, ⟨(by decide), g5⟩, trivial⟩ k
  rfl
theorem BX7_byUse_130 {d Z L : Nat} {xs : Nat → Int32} {z : Nat} {Φ : Out → T2 → T3 → Nat → Prop} {I : T2} {J : T3} {x1 : Int32} {x2 : Int32} {y3 : Int64} {x5 : Int32} {x6 : Int32}  (g1 : vp_in ((3 * x6) + x2) 24) (g2 : ¬ y3 = (0 : Int64)) (g3 : vp_in x6 8)
    (k : Ev d Z L xs mX7_byUse 168 [some (.ref 136), some (.int x1), some (.int x2), some (.long y3), none, some (.int x5), some (.int x6), some (.long ((x1.toInt64 * ((I 139 ((3 * x6) + x2).toNatClampNeg).toInt64)) / y3)), none, none] [.int (lg_cmp ((x1.toInt64 * ((I 139 ((3 * x6) + x2).toNatClampNeg).toInt64)) / y3) (((I 154 x6.toNatClampNeg) - (I 155 x6.toNatClampNeg)).toInt64))] I J z Φ) : Ev d Z L xs mX7_byUse 130 [some (.ref 136), some (.int x1), some (.int x2), some (.long y3), none, some (.int x5), some (.int x6), none, none, none] [] I J z Φ := by
  refine Ev.blk (ops := [o0 (.iload_n 1) 1, o0 (.i2l) 1, o0 (.aload_n 0) 1, oK (.getfield 16) 3 7 11, oI (.iconst 3) 1 3, o0 (.iload 6) 2, o0 (.imul) 1, o0 (.iload_n 2) 1, o0 (.iadd) 1, o0 (.iaload) 1, o0 (.i2l) 1, o0 (.lmul) 1, o0 (.lload_n 3) 1, o0 (.ldiv) 1, o0 (.lstore 7) 2, o0 (.lload 7) 2, o0 (.aload_n 0) 1, oK (.getfield 63) 3 7 28, o0 (.iload 6) 2, o0 (.iaload) 1, o0 (.aload_n 0) 1, oK (.getfield 66) 3 7 29, o0 (.iload 6) 2, o0 (.iaload) 1, o0 (.isub) 1, o0 (.i2l) 1, o0 (.lcmp) 1]) (G := True ∧ True ∧ True ∧ (kd 136 = 7) ∧ True ∧ True ∧ True ∧ True ∧ True ∧ (kd 139 = 8 ∧ vp_in ((3 * x6) + x2) (ln 139)) ∧ True ∧ True ∧ True ∧ (¬ y3 = (0 : Int64)) ∧ True ∧ True ∧ True ∧ (kd 136 = 7) ∧ True ∧ (kd 154 = 8 ∧ vp_in x6 (ln 154)) ∧ True ∧ (kd 136 = 7) ∧ True ∧ (kd 155 = 8 ∧ vp_in x6 (ln 155)) ∧ True ∧ True ∧ True ∧ True) (by decide +kernel) ?_ ⟨trivial, trivial, trivial, (by decide), trivial, trivial, trivial, trivial, trivial, ⟨(by decide), g1⟩, trivial, trivial, trivial, g2, trivial, trivial, trivial, (by decide), trivial, ⟨(by decide), g3⟩, trivial, (by decide), trivial, ⟨(by decide), g3⟩, trivial, trivial, trivial, trivial⟩ k
  rfl
theorem BX7_byUse_171 {d Z L : Nat} {xs : Nat → Int32} {z : Nat} {Φ : Out → T2 → T3 → Nat → Prop} {I : T2} {J : T3} {x1 : Int32} {x2 : Int32} {y3 : Int64} {x5 : Int32} {x6 : Int32} {y7 : Int64}  (g1 : vp_in x6 8)
    (k : Ev d Z L xs mX7_byUse 192 [some (.ref 136), some (.int x1), some (.int x2), some (.long y3), none, some (.int x5), some (.int x6), some (.long y7), none, none] [.int ((I 154 x6.toNatClampNeg) - (I 155 x6.toNatClampNeg))] I J z Φ) : Ev d Z L xs mX7_byUse 171 [some (.ref 136), some (.int x1), some (.int x2), some (.long y3), none, some (.int x5), some (.int x6), some (.long y7), none, none] [] I J z Φ := by
  refine Ev.blk (ops := [o0 (.aload_n 0) 1, oK (.getfield 63) 3 7 28, o0 (.iload 6) 2, o0 (.iaload) 1, o0 (.aload_n 0) 1, oK (.getfield 66) 3 7 29, o0 (.iload 6) 2, o0 (.iaload) 1, o0 (.isub) 1, oK (.goto 6) 3 192 0]) (G := True ∧ (kd 136 = 7) ∧ True ∧ (kd 154 = 8 ∧ vp_in x6 (ln 154)) ∧ True ∧ (kd 136 = 7) ∧ True ∧ (kd 155 = 8 ∧ vp_in x6 (ln 155)) ∧ True ∧ True ∧ True) (by decide +kernel) ?_ ⟨trivial, (by decide), trivial, ⟨(by decide), g1⟩, trivial, (by decide), trivial, ⟨(by decide), g1⟩, trivial, trivial, trivial⟩ k
  rfl
theorem BX7_byUse_189 {d Z L : Nat} {xs : Nat → Int32} {z : Nat} {Φ : Out → T2 → T3 → Nat → Prop} {I : T2} {J : T3} {x1 : Int32} {x2 : Int32} {y3 : Int64} {x5 : Int32} {x6 : Int32} {y7 : Int64}  
    (k : Ev d Z L xs mX7_byUse 192 [some (.ref 136), some (.int x1), some (.int x2), some (.long y3), none, some (.int x5), some (.int x6), some (.long y7), none, none] [.int y7.toInt32] I J z Φ) : Ev d Z L xs mX7_byUse 189 [some (.ref 136), some (.int x1), some (.int x2), some (.long y3), none, some (.int x5), some (.int x6), some (.long y7), none, none] [] I J z Φ := by
  refine Ev.blk (ops := [o0 (.lload 7) 2, o0 (.l2i) 1]) (G := True ∧ True ∧ True) (by decide +kernel) ?_ ⟨trivial, trivial, trivial⟩ k
  rfl
theorem BX7_byUse_192 {d Z L : Nat} {xs : Nat → Int32} {z : Nat} {Φ : Out → T2 → T3 → Nat → Prop} {I : T2} {J : T3} {x1 : Int32} {x2 : Int32} {y3 : Int64} {x5 : Int32} {x6 : Int32} {y7 : Int64} {xs0 : Int32}  (g1 : vp_in x6 8)
    (k : Ev d Z L xs mX7_byUse 222 [some (.ref 136), some (.int x1), some (.int x2), some (.long y3), none, some (.int (x5 - xs0)), some (.int x6), some (.long y7), none, some (.int xs0)] [.int x6, .ref 136, .int x6, .ref 157] (up2 I 155 x6.toNatClampNeg ((I 155 x6.toNatClampNeg) + xs0)) J z Φ) : Ev d Z L xs mX7_byUse 192 [some (.ref 136), some (.int x1), some (.int x2), some (.long y3), none, some (.int x5), some (.int x6), some (.long y7), none, none] [.int xs0] I J z Φ := by
  refine Ev.blk (ops := [o0 (.istore 9) 2, o0 (.aload_n 0) 1, oK (.getfield 66) 3 7 29, o0 (.iload 6) 2, o0 (.dup2) 1, o0 (.iaload) 1, o0 (.iload 9) 2, o0 (.iadd) 1, o0 (.iastore) 1, o0 (.iload 5) 2, o0 (.iload 9) 2, o0 (.isub) 1, o0 (.istore 5) 2, o0 (.aload_n 0) 1, oK (.getfield 72) 3 7 31, o0 (.iload 6) 2, o0 (.aload_n 0) 1, o0 (.iload 6) 2]) (G := True ∧ True ∧ (kd 136 = 7) ∧ True ∧ True ∧ (kd 155 = 8 ∧ vp_in x6 (ln 155)) ∧ True ∧ True ∧ (kd 155 = 8 ∧ vp_in x6 (ln 155)) ∧ True ∧ True ∧ True ∧ True ∧ True ∧ (kd 136 = 7) ∧ True ∧ True ∧ True ∧ True) (by decide +kernel) ?_ ⟨trivial, trivial, (by decide), trivial, trivial, ⟨(by decide), g1⟩, trivial, trivial, ⟨(by decide), g1⟩, trivial, trivial, trivial, trivial, trivial, (by decide), trivial, trivial, trivial, trivial⟩ k
  rfl
theorem BX7_byUse_228 {d Z L : Nat} {xs : Nat → Int32} {z : Nat} {Φ : Out → T2 → T3 → Nat → Prop} {I : T2} {J : T3} {x1 : Int32} {x2 : Int32} {y3 : Int64} {x5 : Int32} {x6 : Int32} {y7 : Int64} {x9 : Int32} {as0 : Nat} {xs1 : Int32}  
    (k : Ev d Z L xs mX7_byUse 233 [some (.ref 136), some (.int x1), some (.int x2), some (.long y3), none, some (.int x5), some (.int x6), some (.long y7), none, some (.int x9)] [.int 1, .int xs1, .ref as0] I J z Φ) : Ev d Z L xs mX7_byUse 228 [some (.ref 136), some (.int x1), some (.int x2), some (.long y3), none, some (.int x5), some (.int x6), some (.long y7), none, some (.int x9)] [.int xs1, .ref as0] I J z Φ := by
  refine Ev.blk (ops := [oI (.iconst 1) 1 1, oK (.goto 4) 3 233 0]) (G := True ∧ True ∧ True) (by decide +kernel) ?_ ⟨trivial, trivial, trivial⟩ k
  rfl
theorem BX7_byUse_232 {d Z L : Nat} {xs : Nat → Int32} {z : Nat} {Φ : Out → T2 → T3 → Nat → Prop} {I : T2} {J : T3} {x1 : Int32} {x2 : Int32} {y3 : Int64} {x5 : Int32} {x6 : Int32} {y7 : Int64} {x9 : Int32} {as0 : Nat} {xs1 : Int32}  
    (k : Ev d Z L xs mX7_byUse 233 [some (.ref 136), some (.int x1), some (.int x2), some (.long y3), none, some (.int x5), some (.int x6), some (.long y7), none, some (.int x9)] [.int 0, .int xs1, .ref as0] I J z Φ) : Ev d Z L xs mX7_byUse 232 [some (.ref 136), some (.int x1), some (.int x2), some (.long y3), none, some (.int x5), some (.int x6), some (.long y7), none, some (.int x9)] [.int xs1, .ref as0] I J z Φ := by
  refine Ev.blk (ops := [oI (.iconst 0) 1 0]) (G := True ∧ True) (by decide +kernel) ?_ ⟨trivial, trivial⟩ k
  rfl
theorem BX7_byUse_233 {d Z L : Nat} {xs : Nat → Int32} {z : Nat} {Φ : Out → T2 → T3 → Nat → Prop} {I : T2} {J : T3} {x1 : Int32} {x2 : Int32} {y3 : Int64} {x5 : Int32} {x6 : Int32} {y7 : Int64} {x9 : Int32} {as0 : Nat} {xs1 : Int32} {xs2 : Int32} (hk_as0 : kd as0 = 10) (g1 : vp_in xs1 (ln as0)) (g2 : xs2 = (0 : Int32) ∨ xs2 = (1 : Int32))
    (k : Ev d Z L xs mX7_byUse 234 [some (.ref 136), some (.int x1), some (.int x2), some (.long y3), none, some (.int x5), some (.int x6), some (.long y7), none, some (.int x9)] [] (up2 I as0 xs1.toNatClampNeg xs2) J z Φ) : Ev d Z L xs mX7_byUse 233 [some (.ref 136), some (.int x1), some (.int x2), some (.long y3), none, some (.int x5), some (.int x6), some (.long y7), none, some (.int x9)] [.int xs2, .int xs1, .ref as0] I J z Φ := by
  refine Ev.blk (ops := [o0 (.bastore) 1]) (G := (kd as0 = 10 ∧ vp_in xs1 (ln as0) ∧ (xs2 = (0 : Int32) ∨ xs2 = (1 : Int32))) ∧ True) (by decide +kernel) ?_ ⟨⟨hk_as0, g1, g2⟩, trivial⟩ k
  rfl
theorem BX7_byUse_234 {d Z L : Nat} {xs : Nat → Int32} {z : Nat} {Φ : Out → T2 → T3 → Nat → Prop} {I : T2} {J : T3} {x1 : Int32} {x2 : Int32} {y3 : Int64} {x5 : Int32} {x6 : Int32}  
    (k : Ev d Z L xs mX7_byUse 66 [some (.ref 136), some (.int x1), some (.int x2), some (.long y3), none, some (.int x5), some (.int (x6 + 1)), none, none, none] [] I J z Φ) : Ev d Z L xs mX7_byUse 234 [some (.ref 136), some (.int x1), some (.int x2), some (.long y3), none, some (.int x5), some (.int x6), none, none, none] [] I J z Φ := by
  refine Ev.blk (ops := [oI (.iinc 6 1) 3 1, oK (.goto (-171)) 3 66 0]) (G := True ∧ True ∧ True) (by decide +kernel) ?_ ⟨trivial, trivial, trivial⟩ k
  rfl
theorem BX7_byUse_240 {d Z L : Nat} {xs : Nat → Int32} {z : Nat} {Φ : Out → T2 → T3 → Nat → Prop} {I : T2} {J : T3} {x1 : Int32} {x2 : Int32} {y3 : Int64} {x5 : Int32} {x6 : Int32}  
    (k : Ev d Z L xs mX7_byUse 242 [some (.ref 136), some (.int x1), some (.int x2), some (.long y3), none, some (.int x5), some (.int x6), none, none, none] [.int x5] I J z Φ) : Ev d Z L xs mX7_byUse 240 [some (.ref 136), some (.int x1), some (.int x2), some (.long y3), none, some (.int x5), some (.int x6), none, none, none] [] I J z Φ := by
  refine Ev.blk (ops := [o0 (.iload 5) 2]) (G := True ∧ True) (by decide +kernel) ?_ ⟨trivial, trivial⟩ k
  rfl
theorem BX7_byUse_245 {d Z L : Nat} {xs : Nat → Int32} {z : Nat} {Φ : Out → T2 → T3 → Nat → Prop} {I : T2} {J : T3} {x1 : Int32} {x2 : Int32} {y3 : Int64} {x5 : Int32} {x6 : Int32}  
    (k : Ev d Z L xs mX7_byUse 250 [some (.ref 136), some (.int x1), some (.int x2), some (.long y3), none, some (.int x5), some (.int x6), none, none, none] [.int 1] I J z Φ) : Ev d Z L xs mX7_byUse 245 [some (.ref 136), some (.int x1), some (.int x2), some (.long y3), none, some (.int x5), some (.int x6), none, none, none] [] I J z Φ := by
  refine Ev.blk (ops := [oI (.iconst 1) 1 1, oK (.goto 4) 3 250 0]) (G := True ∧ True ∧ True) (by decide +kernel) ?_ ⟨trivial, trivial, trivial⟩ k
  rfl
theorem BX7_byUse_249 {d Z L : Nat} {xs : Nat → Int32} {z : Nat} {Φ : Out → T2 → T3 → Nat → Prop} {I : T2} {J : T3} {x1 : Int32} {x2 : Int32} {y3 : Int64} {x5 : Int32} {x6 : Int32}  
    (k : Ev d Z L xs mX7_byUse 250 [some (.ref 136), some (.int x1), some (.int x2), some (.long y3), none, some (.int x5), some (.int x6), none, none, none] [.int 0] I J z Φ) : Ev d Z L xs mX7_byUse 249 [some (.ref 136), some (.int x1), some (.int x2), some (.long y3), none, some (.int x5), some (.int x6), none, none, none] [] I J z Φ := by
  refine Ev.blk (ops := [oI (.iconst 0) 1 0]) (G := True ∧ True) (by decide +kernel) ?_ ⟨trivial, trivial⟩ k
  rfl
theorem BX7_byUse_250 {d Z L : Nat} {xs : Nat → Int32} {z : Nat} {Φ : Out → T2 → T3 → Nat → Prop} {I : T2} {J : T3} {x1 : Int32} {x2 : Int32} {y3 : Int64} {x5 : Int32} {x6 : Int32} {xs0 : Int32}  
    (k : Ev d Z L xs mX7_byUse 252 [some (.ref 136), some (.int x1), some (.int x2), some (.long y3), none, some (.int x5), some (.int xs0), none, none, none] [] I J z Φ) : Ev d Z L xs mX7_byUse 250 [some (.ref 136), some (.int x1), some (.int x2), some (.long y3), none, some (.int x5), some (.int x6), none, none, none] [.int xs0] I J z Φ := by
  refine Ev.blk (ops := [o0 (.istore 6) 2]) (G := True ∧ True) (by decide +kernel) ?_ ⟨trivial, trivial⟩ k
  rfl
theorem BX7_byUse_252 {d Z L : Nat} {xs : Nat → Int32} {z : Nat} {Φ : Out → T2 → T3 → Nat → Prop} {I : T2} {J : T3} {x1 : Int32} {x2 : Int32} {y3 : Int64} {x5 : Int32} {x6 : Int32}  
    (k : Ev d Z L xs mX7_byUse 254 [some (.ref 136), some (.int x1), some (.int x2), some (.long y3), none, some (.int x5), some (.int x6), none, none, none] [.int x6] I J z Φ) : Ev d Z L xs mX7_byUse 252 [some (.ref 136), some (.int x1), some (.int x2), some (.long y3), none, some (.int x5), some (.int x6), none, none, none] [] I J z Φ := by
  refine Ev.blk (ops := [o0 (.iload 6) 2]) (G := True ∧ True) (by decide +kernel) ?_ ⟨trivial, trivial⟩ k
  rfl
theorem BX7_byUse_257 {d Z L : Nat} {xs : Nat → Int32} {z : Nat} {Φ : Out → T2 → T3 → Nat → Prop} {I : T2} {J : T3} {x1 : Int32} {x2 : Int32} {y3 : Int64} {x5 : Int32} {x6 : Int32}  
    (k : Ev d Z L xs mX7_byUse 263 [some (.ref 136), some (.int x1), some (.int x2), some (.long y3), none, some (.int x5), some (.int x6), some (.int (-1)), some (.int 0), none] [] I J z Φ) : Ev d Z L xs mX7_byUse 257 [some (.ref 136), some (.int x1), some (.int x2), some (.long y3), none, some (.int x5), some (.int x6), none, none, none] [] I J z Φ := by
  refine Ev.blk (ops := [oI (.iconst (-1)) 1 (-1), o0 (.istore 7) 2, oI (.iconst 0) 1 0, o0 (.istore 8) 2]) (G := True ∧ True ∧ True ∧ True ∧ True) (by decide +kernel) ?_ ⟨trivial, trivial, trivial, trivial, trivial⟩ k
  rfl
theorem BX7_byUse_263 {d Z L : Nat} {xs : Nat → Int32} {z : Nat} {Φ : Out → T2 → T3 → Nat → Prop} {I : T2} {J : T3} {x1 : Int32} {x2 : Int32} {y3 : Int64} {x5 : Int32} {x6 : Int32} {x7 : Int32} {x8 : Int32}  
    (k : Ev d Z L xs mX7_byUse 269 [some (.ref 136), some (.int x1), some (.int x2), some (.long y3), none, some (.int x5), some (.int x6), some (.int x7), some (.int x8), none] [.int (I 136 4), .int x8] I J z Φ) : Ev d Z L xs mX7_byUse 263 [some (.ref 136), some (.int x1), some (.int x2), some (.long y3), none, some (.int x5), some (.int x6), some (.int x7), some (.int x8), none] [] I J z Φ := by
  refine Ev.blk (ops := [o0 (.iload 8) 2, o0 (.aload_n 0) 1, oK (.getfield 92) 3 7 4]) (G := True ∧ True ∧ (kd 136 = 7) ∧ True) (by decide +kernel) ?_ ⟨trivial, trivial, (by decide), trivial⟩ k
  rfl
theorem BX7_byUse_272 {d Z L : Nat} {xs : Nat → Int32} {z : Nat} {Φ : Out → T2 → T3 → Nat → Prop} {I : T2} {J : T3} {x1 : Int32} {x2 : Int32} {y3 : Int64} {x5 : Int32} {x6 : Int32} {x7 : Int32} {x8 : Int32}  (g1 : vp_in x8 8)
    (k : Ev d Z L xs mX7_byUse 279 [some (.ref 136), some (.int x1), some (.int x2), some (.long y3), none, some (.int x5), some (.int x6), some (.int x7), some (.int x8), none] [.int (I 157 x8.toNatClampNeg)] I J z Φ) : Ev d Z L xs mX7_byUse 272 [some (.ref 136), some (.int x1), some (.int x2), some (.long y3), none, some (.int x5), some (.int x6), some (.int x7), some (.int x8), none] [] I J z Φ := by
  refine Ev.blk (ops := [o0 (.aload_n 0) 1, oK (.getfield 72) 3 7 31, o0 (.iload 8) 2, o0 (.baload) 1]) (G := True ∧ (kd 136 = 7) ∧ True ∧ (kd 157 = 10 ∧ vp_in x8 (ln 157)) ∧ True) (by decide +kernel) ?_ ⟨trivial, (by decide), trivial, ⟨(by decide), g1⟩, trivial⟩ k
  rfl
theorem BX7_byUse_282 {d Z L : Nat} {xs : Nat → Int32} {z : Nat} {Φ : Out → T2 → T3 → Nat → Prop} {I : T2} {J : T3} {x1 : Int32} {x2 : Int32} {y3 : Int64} {x5 : Int32} {x6 : Int32} {x7 : Int32} {x8 : Int32}  
    (k : Ev d Z L xs mX7_byUse 284 [some (.ref 136), some (.int x1), some (.int x2), some (.long y3), none, some (.int x5), some (.int x6), some (.int x7), some (.int x8), none] [.int x7] I J z Φ) : Ev d Z L xs mX7_byUse 282 [some (.ref 136), some (.int x1), some (.int x2), some (.long y3), none, some (.int x5), some (.int x6), some (.int x7), some (.int x8), none] [] I J z Φ := by
  refine Ev.blk (ops := [o0 (.iload 7) 2]) (G := True ∧ True) (by decide +kernel) ?_ ⟨trivial, trivial⟩ k
  rfl
theorem BX7_byUse_287 {d Z L : Nat} {xs : Nat → Int32} {z : Nat} {Φ : Out → T2 → T3 → Nat → Prop} {I : T2} {J : T3} {x1 : Int32} {x2 : Int32} {y3 : Int64} {x5 : Int32} {x6 : Int32} {x7 : Int32} {x8 : Int32}  (g1 : vp_in x8 8) (g2 : vp_in x7 8)
    (k : Ev d Z L xs mX7_byUse 302 [some (.ref 136), some (.int x1), some (.int x2), some (.long y3), none, some (.int x5), some (.int x6), some (.int x7), some (.int x8), none] [.int (lg_cmp (J 156 x8.toNatClampNeg) (J 156 x7.toNatClampNeg))] I J z Φ) : Ev d Z L xs mX7_byUse 287 [some (.ref 136), some (.int x1), some (.int x2), some (.long y3), none, some (.int x5), some (.int x6), some (.int x7), some (.int x8), none] [] I J z Φ := by
  refine Ev.blk (ops := [o0 (.aload_n 0) 1, oK (.getfield 69) 3 7 30, o0 (.iload 8) 2, o0 (.laload) 1, o0 (.aload_n 0) 1, oK (.getfield 69) 3 7 30, o0 (.iload 7) 2, o0 (.laload) 1, o0 (.lcmp) 1]) (G := True ∧ (kd 136 = 7) ∧ True ∧ (kd 156 = 9 ∧ vp_in x8 (ln 156)) ∧ True ∧ (kd 136 = 7) ∧ True ∧ (kd 156 = 9 ∧ vp_in x7 (ln 156)) ∧ True ∧ True) (by decide +kernel) ?_ ⟨trivial, (by decide), trivial, ⟨(by decide), g1⟩, trivial, (by decide), trivial, ⟨(by decide), g2⟩, trivial, trivial⟩ k
  rfl
theorem BX7_byUse_305 {d Z L : Nat} {xs : Nat → Int32} {z : Nat} {Φ : Out → T2 → T3 → Nat → Prop} {I : T2} {J : T3} {x1 : Int32} {x2 : Int32} {y3 : Int64} {x5 : Int32} {x6 : Int32} {x7 : Int32} {x8 : Int32}  
    (k : Ev d Z L xs mX7_byUse 312 [some (.ref 136), some (.int x1), some (.int x2), some (.long y3), none, some (.int x5), some (.int x6), some (.int x7), some (.int x8), none] [.int x8] I J z Φ) : Ev d Z L xs mX7_byUse 305 [some (.ref 136), some (.int x1), some (.int x2), some (.long y3), none, some (.int x5), some (.int x6), some (.int x7), some (.int x8), none] [] I J z Φ := by
  refine Ev.blk (ops := [o0 (.iload 8) 2, oK (.goto 5) 3 312 0]) (G := True ∧ True ∧ True) (by decide +kernel) ?_ ⟨trivial, trivial, trivial⟩ k
  rfl
theorem BX7_byUse_310 {d Z L : Nat} {xs : Nat → Int32} {z : Nat} {Φ : Out → T2 → T3 → Nat → Prop} {I : T2} {J : T3} {x1 : Int32} {x2 : Int32} {y3 : Int64} {x5 : Int32} {x6 : Int32} {x7 : Int32} {x8 : Int32}  
    (k : Ev d Z L xs mX7_byUse 312 [some (.ref 136), some (.int x1), some (.int x2), some (.long y3), none, some (.int x5), some (.int x6), some (.int x7), some (.int x8), none] [.int x7] I J z Φ) : Ev d Z L xs mX7_byUse 310 [some (.ref 136), some (.int x1), some (.int x2), some (.long y3), none, some (.int x5), some (.int x6), some (.int x7), some (.int x8), none] [] I J z Φ := by
  refine Ev.blk (ops := [o0 (.iload 7) 2]) (G := True ∧ True) (by decide +kernel) ?_ ⟨trivial, trivial⟩ k
  rfl
theorem BX7_byUse_312 {d Z L : Nat} {xs : Nat → Int32} {z : Nat} {Φ : Out → T2 → T3 → Nat → Prop} {I : T2} {J : T3} {x1 : Int32} {x2 : Int32} {y3 : Int64} {x5 : Int32} {x6 : Int32} {x7 : Int32} {x8 : Int32} {xs0 : Int32}  
    (k : Ev d Z L xs mX7_byUse 263 [some (.ref 136), some (.int x1), some (.int x2), some (.long y3), none, some (.int x5), some (.int x6), some (.int xs0), some (.int (x8 + 1)), none] [] I J z Φ) : Ev d Z L xs mX7_byUse 312 [some (.ref 136), some (.int x1), some (.int x2), some (.long y3), none, some (.int x5), some (.int x6), some (.int x7), some (.int x8), none] [.int xs0] I J z Φ := by
  refine Ev.blk (ops := [o0 (.istore 7) 2, oI (.iinc 8 1) 3 1, oK (.goto (-54)) 3 263 0]) (G := True ∧ True ∧ True ∧ True) (by decide +kernel) ?_ ⟨trivial, trivial, trivial, trivial⟩ k
  rfl
theorem BX7_byUse_320 {d Z L : Nat} {xs : Nat → Int32} {z : Nat} {Φ : Out → T2 → T3 → Nat → Prop} {I : T2} {J : T3} {x1 : Int32} {x2 : Int32} {y3 : Int64} {x5 : Int32} {x6 : Int32} {x7 : Int32} {x8 : Int32}  
    (k : Ev d Z L xs mX7_byUse 322 [some (.ref 136), some (.int x1), some (.int x2), some (.long y3), none, some (.int x5), some (.int x6), some (.int x7), some (.int x8), none] [.int x7] I J z Φ) : Ev d Z L xs mX7_byUse 320 [some (.ref 136), some (.int x1), some (.int x2), some (.long y3), none, some (.int x5), some (.int x6), some (.int x7), some (.int x8), none] [] I J z Φ := by
  refine Ev.blk (ops := [o0 (.iload 7) 2]) (G := True ∧ True) (by decide +kernel) ?_ ⟨trivial, trivial⟩ k
  rfl
theorem BX7_byUse_325 {d Z L : Nat} {xs : Nat → Int32} {z : Nat} {Φ : Out → T2 → T3 → Nat → Prop} {I : T2} {J : T3} {x1 : Int32} {x2 : Int32} {y3 : Int64} {x5 : Int32} {x6 : Int32} {x7 : Int32} {x8 : Int32}  (g1 : vp_in x7 8)
    (k : Ev d Z L xs mX7_byUse 347 [some (.ref 136), some (.int x1), some (.int x2), some (.long y3), none, some (.int (x5 + (-1))), some (.int x6), some (.int x7), some (.int x8), none] [] (up2 (up2 I 157 x7.toNatClampNeg 1) 155 x7.toNatClampNeg (((up2 I 157 x7.toNatClampNeg 1) 155 x7.toNatClampNeg) + 1)) J z Φ) : Ev d Z L xs mX7_byUse 325 [some (.ref 136), some (.int x1), some (.int x2), some (.long y3), none, some (.int x5), some (.int x6), some (.int x7), some (.int x8), none] [] I J z Φ := by
  refine Ev.blk (ops := [o0 (.aload_n 0) 1, oK (.getfield 72) 3 7 31, o0 (.iload 7) 2, oI (.iconst 1) 1 1, o0 (.bastore) 1, o0 (.aload_n 0) 1, oK (.getfield 66) 3 7 29, o0 (.iload 7) 2, o0 (.dup2) 1, o0 (.iaload) 1, oI (.iconst 1) 1 1, o0 (.iadd) 1, o0 (.iastore) 1, oI (.iinc 5 (-1)) 3 (-1)]) (G := True ∧ (kd 136 = 7) ∧ True ∧ True ∧ (kd 157 = 10 ∧ vp_in x7 (ln 157) ∧ (1 = (0 : Int32) ∨ 1 = (1 : Int32))) ∧ True ∧ (kd 136 = 7) ∧ True ∧ True ∧ (kd 155 = 8 ∧ vp_in x7 (ln 155)) ∧ True ∧ True ∧ (kd 155 = 8 ∧ vp_in x7 (ln 155)) ∧ True ∧ True) (by decide +kernel) ?_ ⟨trivial, (by decide), trivial, trivial, ⟨(by decide), g1, Or.inr rfl⟩, trivial, (by decide), trivial, trivial, ⟨(by decide), g1⟩, trivial, trivial, ⟨(by decide), g1⟩, trivial, trivial⟩ k
  rfl
theorem BX7_byUse_347 {d Z L : Nat} {xs : Nat → Int32} {z : Nat} {Φ : Out → T2 → T3 → Nat → Prop} {I : T2} {J : T3} {x1 : Int32} {x2 : Int32} {y3 : Int64} {x5 : Int32} {x6 : Int32} {x7 : Int32} {x8 : Int32}  
    (k : Ev d Z L xs mX7_byUse 349 [some (.ref 136), some (.int x1), some (.int x2), some (.long y3), none, some (.int x5), some (.int x6), some (.int x7), some (.int x8), none] [.int x7] I J z Φ) : Ev d Z L xs mX7_byUse 347 [some (.ref 136), some (.int x1), some (.int x2), some (.long y3), none, some (.int x5), some (.int x6), some (.int x7), some (.int x8), none] [] I J z Φ := by
  refine Ev.blk (ops := [o0 (.iload 7) 2]) (G := True ∧ True) (by decide +kernel) ?_ ⟨trivial, trivial⟩ k
  rfl
theorem BX7_byUse_352 {d Z L : Nat} {xs : Nat → Int32} {z : Nat} {Φ : Out → T2 → T3 → Nat → Prop} {I : T2} {J : T3} {x1 : Int32} {x2 : Int32} {y3 : Int64} {x5 : Int32} {x6 : Int32} {x7 : Int32} {x8 : Int32}  
    (k : Ev d Z L xs mX7_byUse 354 [some (.ref 136), some (.int x1), some (.int x2), some (.long y3), none, some (.int x5), some (.int x6), some (.int x7), some (.int x8), none] [.int x5] I J z Φ) : Ev d Z L xs mX7_byUse 352 [some (.ref 136), some (.int x1), some (.int x2), some (.long y3), none, some (.int x5), some (.int x6), some (.int x7), some (.int x8), none] [] I J z Φ := by
  refine Ev.blk (ops := [o0 (.iload 5) 2]) (G := True ∧ True) (by decide +kernel) ?_ ⟨trivial, trivial⟩ k
  rfl
theorem BX7_byUse_357 {d Z L : Nat} {xs : Nat → Int32} {z : Nat} {Φ : Out → T2 → T3 → Nat → Prop} {I : T2} {J : T3} {x1 : Int32} {x2 : Int32} {y3 : Int64} {x5 : Int32} {x6 : Int32} {x7 : Int32} {x8 : Int32}  
    (k : Ev d Z L xs mX7_byUse 362 [some (.ref 136), some (.int x1), some (.int x2), some (.long y3), none, some (.int x5), some (.int x6), some (.int x7), some (.int x8), none] [.int 1] I J z Φ) : Ev d Z L xs mX7_byUse 357 [some (.ref 136), some (.int x1), some (.int x2), some (.long y3), none, some (.int x5), some (.int x6), some (.int x7), some (.int x8), none] [] I J z Φ := by
  refine Ev.blk (ops := [oI (.iconst 1) 1 1, oK (.goto 4) 3 362 0]) (G := True ∧ True ∧ True) (by decide +kernel) ?_ ⟨trivial, trivial, trivial⟩ k
  rfl
theorem BX7_byUse_361 {d Z L : Nat} {xs : Nat → Int32} {z : Nat} {Φ : Out → T2 → T3 → Nat → Prop} {I : T2} {J : T3} {x1 : Int32} {x2 : Int32} {y3 : Int64} {x5 : Int32} {x6 : Int32} {x7 : Int32} {x8 : Int32}  
    (k : Ev d Z L xs mX7_byUse 362 [some (.ref 136), some (.int x1), some (.int x2), some (.long y3), none, some (.int x5), some (.int x6), some (.int x7), some (.int x8), none] [.int 0] I J z Φ) : Ev d Z L xs mX7_byUse 361 [some (.ref 136), some (.int x1), some (.int x2), some (.long y3), none, some (.int x5), some (.int x6), some (.int x7), some (.int x8), none] [] I J z Φ := by
  refine Ev.blk (ops := [oI (.iconst 0) 1 0]) (G := True ∧ True) (by decide +kernel) ?_ ⟨trivial, trivial⟩ k
  rfl
theorem BX7_byUse_362 {d Z L : Nat} {xs : Nat → Int32} {z : Nat} {Φ : Out → T2 → T3 → Nat → Prop} {I : T2} {J : T3} {x1 : Int32} {x2 : Int32} {y3 : Int64} {x5 : Int32} {x6 : Int32} {x7 : Int32} {x8 : Int32} {xs0 : Int32}  
    (k : Ev d Z L xs mX7_byUse 252 [some (.ref 136), some (.int x1), some (.int x2), some (.long y3), none, some (.int x5), some (.int xs0), some (.int x7), some (.int x8), none] [] I J z Φ) : Ev d Z L xs mX7_byUse 362 [some (.ref 136), some (.int x1), some (.int x2), some (.long y3), none, some (.int x5), some (.int x6), some (.int x7), some (.int x8), none] [.int xs0] I J z Φ := by
  refine Ev.blk (ops := [o0 (.istore 6) 2, oK (.goto (-112)) 3 252 0]) (G := True ∧ True ∧ True) (by decide +kernel) ?_ ⟨trivial, trivial, trivial⟩ k
  rfl
theorem BX7_byUse_367 {d Z L : Nat} {xs : Nat → Int32} {z : Nat} {Φ : Out → T2 → T3 → Nat → Prop} {I : T2} {J : T3} {x1 : Int32} {x2 : Int32} {y3 : Int64} {x5 : Int32} {x6 : Int32}  
    (k : Ev d Z L xs mX7_byUse 369 [some (.ref 136), some (.int x1), some (.int x2), some (.long y3), none, some (.int x5), some (.int x6), none, none, none] [.int x5] I J z Φ) : Ev d Z L xs mX7_byUse 367 [some (.ref 136), some (.int x1), some (.int x2), some (.long y3), none, some (.int x5), some (.int x6), none, none, none] [] I J z Φ := by
  refine Ev.blk (ops := [o0 (.iload 5) 2]) (G := True ∧ True) (by decide +kernel) ?_ ⟨trivial, trivial⟩ k
  rfl
theorem BX7_wantsMore_0 {d Z L : Nat} {xs : Nat → Int32} {z : Nat} {Φ : Out → T2 → T3 → Nat → Prop} {I : T2} {J : T3} {x1 : Int32}  (g1 : vp_in x1 8)
    (k : Ev d Z L xs mX7_wantsMore 12 [some (.ref 136), some (.int x1)] [.int (I 154 x1.toNatClampNeg), .int (I 155 x1.toNatClampNeg)] I J z Φ) : Ev d Z L xs mX7_wantsMore 0 [some (.ref 136), some (.int x1)] [] I J z Φ := by
  refine Ev.blk (ops := [o0 (.aload_n 0) 1, oK (.getfield 66) 3 7 29, o0 (.iload_n 1) 1, o0 (.iaload) 1, o0 (.aload_n 0) 1, oK (.getfield 63) 3 7 28, o0 (.iload_n 1) 1, o0 (.iaload) 1]) (G := True ∧ (kd 136 = 7) ∧ True ∧ (kd 155 = 8 ∧ vp_in x1 (ln 155)) ∧ True ∧ (kd 136 = 7) ∧ True ∧ (kd 154 = 8 ∧ vp_in x1 (ln 154)) ∧ True) (by decide +kernel) ?_ ⟨trivial, (by decide), trivial, ⟨(by decide), g1⟩, trivial, (by decide), trivial, ⟨(by decide), g1⟩, trivial⟩ k
  rfl
theorem BX7_wantsMore_15 {d Z L : Nat} {xs : Nat → Int32} {z : Nat} {Φ : Out → T2 → T3 → Nat → Prop} {I : T2} {J : T3} {x1 : Int32}  
    (k : Ev d Z L xs mX7_wantsMore 20 [some (.ref 136), some (.int x1)] [.int 1] I J z Φ) : Ev d Z L xs mX7_wantsMore 15 [some (.ref 136), some (.int x1)] [] I J z Φ := by
  refine Ev.blk (ops := [oI (.iconst 1) 1 1, oK (.goto 4) 3 20 0]) (G := True ∧ True ∧ True) (by decide +kernel) ?_ ⟨trivial, trivial, trivial⟩ k
  rfl
theorem BX7_wantsMore_19 {d Z L : Nat} {xs : Nat → Int32} {z : Nat} {Φ : Out → T2 → T3 → Nat → Prop} {I : T2} {J : T3} {x1 : Int32}  
    (k : Ev d Z L xs mX7_wantsMore 20 [some (.ref 136), some (.int x1)] [.int 0] I J z Φ) : Ev d Z L xs mX7_wantsMore 19 [some (.ref 136), some (.int x1)] [] I J z Φ := by
  refine Ev.blk (ops := [oI (.iconst 0) 1 0]) (G := True ∧ True) (by decide +kernel) ?_ ⟨trivial, trivial⟩ k
  rfl
theorem BX7_equal_0 {d Z L : Nat} {xs : Nat → Int32} {z : Nat} {Φ : Out → T2 → T3 → Nat → Prop} {I : T2} {J : T3} {x1 : Int32}  
    (k : Ev d Z L xs mX7_equal 3 [some (.ref 136), some (.int x1), some (.int x1), none, none, none] [.int x1] I J z Φ) : Ev d Z L xs mX7_equal 0 [some (.ref 136), some (.int x1), none, none, none, none] [] I J z Φ := by
  refine Ev.blk (ops := [o0 (.iload_n 1) 1, o0 (.istore_n 2) 1, o0 (.iload_n 2) 1]) (G := True ∧ True ∧ True ∧ True) (by decide +kernel) ?_ ⟨trivial, trivial, trivial, trivial⟩ k
  rfl
theorem BX7_equal_6 {d Z L : Nat} {xs : Nat → Int32} {z : Nat} {Φ : Out → T2 → T3 → Nat → Prop} {I : T2} {J : T3} {x1 : Int32} {x2 : Int32}  
    (k : Ev d Z L xs mX7_equal 11 [some (.ref 136), some (.int x1), some (.int x2), none, none, none] [.int 1] I J z Φ) : Ev d Z L xs mX7_equal 6 [some (.ref 136), some (.int x1), some (.int x2), none, none, none] [] I J z Φ := by
  refine Ev.blk (ops := [oI (.iconst 1) 1 1, oK (.goto 4) 3 11 0]) (G := True ∧ True ∧ True) (by decide +kernel) ?_ ⟨trivial, trivial, trivial⟩ k
  rfl
theorem BX7_equal_10 {d Z L : Nat} {xs : Nat → Int32} {z : Nat} {Φ : Out → T2 → T3 → Nat → Prop} {I : T2} {J : T3} {x1 : Int32} {x2 : Int32}  
    (k : Ev d Z L xs mX7_equal 11 [some (.ref 136), some (.int x1), some (.int x2), none, none, none] [.int 0] I J z Φ) : Ev d Z L xs mX7_equal 10 [some (.ref 136), some (.int x1), some (.int x2), none, none, none] [] I J z Φ := by
  refine Ev.blk (ops := [oI (.iconst 0) 1 0]) (G := True ∧ True) (by decide +kernel) ?_ ⟨trivial, trivial⟩ k
  rfl
theorem BX7_equal_11 {d Z L : Nat} {xs : Nat → Int32} {z : Nat} {Φ : Out → T2 → T3 → Nat → Prop} {I : T2} {J : T3} {x1 : Int32} {x2 : Int32} {xs0 : Int32}  
    (k : Ev d Z L xs mX7_equal 12 [some (.ref 136), some (.int x1), some (.int x2), some (.int xs0), none, none] [] I J z Φ) : Ev d Z L xs mX7_equal 11 [some (.ref 136), some (.int x1), some (.int x2), none, none, none] [.int xs0] I J z Φ := by
  refine Ev.blk (ops := [o0 (.istore_n 3) 1]) (G := True ∧ True) (by decide +kernel) ?_ ⟨trivial, trivial⟩ k
  rfl
theorem BX7_equal_12 {d Z L : Nat} {xs : Nat → Int32} {z : Nat} {Φ : Out → T2 → T3 → Nat → Prop} {I : T2} {J : T3} {x1 : Int32} {x2 : Int32} {x3 : Int32}  
    (k : Ev d Z L xs mX7_equal 13 [some (.ref 136), some (.int x1), some (.int x2), some (.int x3), none, none] [.int x3] I J z Φ) : Ev d Z L xs mX7_equal 12 [some (.ref 136), some (.int x1), some (.int x2), some (.int x3), none, none] [] I J z Φ := by
  refine Ev.blk (ops := [o0 (.iload_n 3) 1]) (G := True ∧ True) (by decide +kernel) ?_ ⟨trivial, trivial⟩ k
  rfl
theorem BX7_equal_16 {d Z L : Nat} {xs : Nat → Int32} {z : Nat} {Φ : Out → T2 → T3 → Nat → Prop} {I : T2} {J : T3} {x1 : Int32} {x2 : Int32} {x3 : Int32}  
    (k : Ev d Z L xs mX7_equal 22 [some (.ref 136), some (.int x1), some (.int x2), some (.int x3), some (.int (-1)), some (.int 0)] [] I J z Φ) : Ev d Z L xs mX7_equal 16 [some (.ref 136), some (.int x1), some (.int x2), some (.int x3), none, none] [] I J z Φ := by
  refine Ev.blk (ops := [oI (.iconst (-1)) 1 (-1), o0 (.istore 4) 2, oI (.iconst 0) 1 0, o0 (.istore 5) 2]) (G := True ∧ True ∧ True ∧ True ∧ True) (by decide +kernel) ?_ ⟨trivial, trivial, trivial, trivial, trivial⟩ k
  rfl
theorem BX7_equal_22 {d Z L : Nat} {xs : Nat → Int32} {z : Nat} {Φ : Out → T2 → T3 → Nat → Prop} {I : T2} {J : T3} {x1 : Int32} {x2 : Int32} {x3 : Int32} {x4 : Int32} {x5 : Int32}  
    (k : Ev d Z L xs mX7_equal 28 [some (.ref 136), some (.int x1), some (.int x2), some (.int x3), some (.int x4), some (.int x5)] [.int (I 136 4), .int x5] I J z Φ) : Ev d Z L xs mX7_equal 22 [some (.ref 136), some (.int x1), some (.int x2), some (.int x3), some (.int x4), some (.int x5)] [] I J z Φ := by
  refine Ev.blk (ops := [o0 (.iload 5) 2, o0 (.aload_n 0) 1, oK (.getfield 92) 3 7 4]) (G := True ∧ True ∧ (kd 136 = 7) ∧ True) (by decide +kernel) ?_ ⟨trivial, trivial, (by decide), trivial⟩ k
  rfl
theorem BX7_equal_31 {d Z L : Nat} {xs : Nat → Int32} {z : Nat} {Φ : Out → T2 → T3 → Nat → Prop} {I : T2} {J : T3} {x1 : Int32} {x2 : Int32} {x3 : Int32} {x4 : Int32} {x5 : Int32}  
    (k : Ev d Z L xs mX7_equal 34 [some (.ref 136), some (.int x1), some (.int x2), some (.int x3), some (.int x4), some (.int x5)] [.int x5, .ref 136] I J z Φ) : Ev d Z L xs mX7_equal 31 [some (.ref 136), some (.int x1), some (.int x2), some (.int x3), some (.int x4), some (.int x5)] [] I J z Φ := by
  refine Ev.blk (ops := [o0 (.aload_n 0) 1, o0 (.iload 5) 2]) (G := True ∧ True ∧ True) (by decide +kernel) ?_ ⟨trivial, trivial, trivial⟩ k
  rfl
theorem BX7_equal_40 {d Z L : Nat} {xs : Nat → Int32} {z : Nat} {Φ : Out → T2 → T3 → Nat → Prop} {I : T2} {J : T3} {x1 : Int32} {x2 : Int32} {x3 : Int32} {x4 : Int32} {x5 : Int32}  
    (k : Ev d Z L xs mX7_equal 42 [some (.ref 136), some (.int x1), some (.int x2), some (.int x3), some (.int x4), some (.int x5)] [.int x4] I J z Φ) : Ev d Z L xs mX7_equal 40 [some (.ref 136), some (.int x1), some (.int x2), some (.int x3), some (.int x4), some (.int x5)] [] I J z Φ := by
  refine Ev.blk (ops := [o0 (.iload 4) 2]) (G := True ∧ True) (by decide +kernel) ?_ ⟨trivial, trivial⟩ k
  rfl
theorem BX7_equal_45 {d Z L : Nat} {xs : Nat → Int32} {z : Nat} {Φ : Out → T2 → T3 → Nat → Prop} {I : T2} {J : T3} {x1 : Int32} {x2 : Int32} {x3 : Int32} {x4 : Int32} {x5 : Int32}  (g1 : vp_in x5 8) (g2 : vp_in x4 8)
    (k : Ev d Z L xs mX7_equal 59 [some (.ref 136), some (.int x1), some (.int x2), some (.int x3), some (.int x4), some (.int x5)] [.int (I 155 x4.toNatClampNeg), .int (I 155 x5.toNatClampNeg)] I J z Φ) : Ev d Z L xs mX7_equal 45 [some (.ref 136), some (.int x1), some (.int x2), some (.int x3), some (.int x4), some (.int x5)] [] I J z Φ := by
  refine Ev.blk (ops := [o0 (.aload_n 0) 1, oK (.getfield 66) 3 7 29, o0 (.iload 5) 2, o0 (.iaload) 1, o0 (.aload_n 0) 1, oK (.getfield 66) 3 7 29, o0 (.iload 4) 2, o0 (.iaload) 1]) (G := True ∧ (kd 136 = 7) ∧ True ∧ (kd 155 = 8 ∧ vp_in x5 (ln 155)) ∧ True ∧ (kd 136 = 7) ∧ True ∧ (kd 155 = 8 ∧ vp_in x4 (ln 155)) ∧ True) (by decide +kernel) ?_ ⟨trivial, (by decide), trivial, ⟨(by decide), g1⟩, trivial, (by decide), trivial, ⟨(by decide), g2⟩, trivial⟩ k
  rfl
theorem BX7_equal_62 {d Z L : Nat} {xs : Nat → Int32} {z : Nat} {Φ : Out → T2 → T3 → Nat → Prop} {I : T2} {J : T3} {x1 : Int32} {x2 : Int32} {x3 : Int32} {x4 : Int32} {x5 : Int32}  
    (k : Ev d Z L xs mX7_equal 69 [some (.ref 136), some (.int x1), some (.int x2), some (.int x3), some (.int x4), some (.int x5)] [.int x5] I J z Φ) : Ev d Z L xs mX7_equal 62 [some (.ref 136), some (.int x1), some (.int x2), some (.int x3), some (.int x4), some (.int x5)] [] I J z Φ := by
  refine Ev.blk (ops := [o0 (.iload 5) 2, oK (.goto 5) 3 69 0]) (G := True ∧ True ∧ True) (by decide +kernel) ?_ ⟨trivial, trivial, trivial⟩ k
  rfl
theorem BX7_equal_67 {d Z L : Nat} {xs : Nat → Int32} {z : Nat} {Φ : Out → T2 → T3 → Nat → Prop} {I : T2} {J : T3} {x1 : Int32} {x2 : Int32} {x3 : Int32} {x4 : Int32} {x5 : Int32}  
    (k : Ev d Z L xs mX7_equal 69 [some (.ref 136), some (.int x1), some (.int x2), some (.int x3), some (.int x4), some (.int x5)] [.int x4] I J z Φ) : Ev d Z L xs mX7_equal 67 [some (.ref 136), some (.int x1), some (.int x2), some (.int x3), some (.int x4), some (.int x5)] [] I J z Φ := by
  refine Ev.blk (ops := [o0 (.iload 4) 2]) (G := True ∧ True) (by decide +kernel) ?_ ⟨trivial, trivial⟩ k
  rfl
theorem BX7_equal_69 {d Z L : Nat} {xs : Nat → Int32} {z : Nat} {Φ : Out → T2 → T3 → Nat → Prop} {I : T2} {J : T3} {x1 : Int32} {x2 : Int32} {x3 : Int32} {x4 : Int32} {x5 : Int32} {xs0 : Int32}  
    (k : Ev d Z L xs mX7_equal 22 [some (.ref 136), some (.int x1), some (.int x2), some (.int x3), some (.int xs0), some (.int (x5 + 1))] [] I J z Φ) : Ev d Z L xs mX7_equal 69 [some (.ref 136), some (.int x1), some (.int x2), some (.int x3), some (.int x4), some (.int x5)] [.int xs0] I J z Φ := by
  refine Ev.blk (ops := [o0 (.istore 4) 2, oI (.iinc 5 1) 3 1, oK (.goto (-52)) 3 22 0]) (G := True ∧ True ∧ True ∧ True) (by decide +kernel) ?_ ⟨trivial, trivial, trivial, trivial⟩ k
  rfl
theorem BX7_equal_77 {d Z L : Nat} {xs : Nat → Int32} {z : Nat} {Φ : Out → T2 → T3 → Nat → Prop} {I : T2} {J : T3} {x1 : Int32} {x2 : Int32} {x3 : Int32} {x4 : Int32} {x5 : Int32}  
    (k : Ev d Z L xs mX7_equal 79 [some (.ref 136), some (.int x1), some (.int x2), some (.int x3), some (.int x4), some (.int x5)] [.int x4] I J z Φ) : Ev d Z L xs mX7_equal 77 [some (.ref 136), some (.int x1), some (.int x2), some (.int x3), some (.int x4), some (.int x5)] [] I J z Φ := by
  refine Ev.blk (ops := [o0 (.iload 4) 2]) (G := True ∧ True) (by decide +kernel) ?_ ⟨trivial, trivial⟩ k
  rfl
theorem BX7_equal_82 {d Z L : Nat} {xs : Nat → Int32} {z : Nat} {Φ : Out → T2 → T3 → Nat → Prop} {I : T2} {J : T3} {x1 : Int32} {x2 : Int32} {x3 : Int32} {x4 : Int32} {x5 : Int32}  (g1 : vp_in x4 8)
    (k : Ev d Z L xs mX7_equal 96 [some (.ref 136), some (.int x1), some (.int (x2 + (-1))), some (.int x3), some (.int x4), some (.int x5)] [] (up2 I 155 x4.toNatClampNeg ((I 155 x4.toNatClampNeg) + 1)) J z Φ) : Ev d Z L xs mX7_equal 82 [some (.ref 136), some (.int x1), some (.int x2), some (.int x3), some (.int x4), some (.int x5)] [] I J z Φ := by
  refine Ev.blk (ops := [o0 (.aload_n 0) 1, oK (.getfield 66) 3 7 29, o0 (.iload 4) 2, o0 (.dup2) 1, o0 (.iaload) 1, oI (.iconst 1) 1 1, o0 (.iadd) 1, o0 (.iastore) 1, oI (.iinc 2 (-1)) 3 (-1)]) (G := True ∧ (kd 136 = 7) ∧ True ∧ True ∧ (kd 155 = 8 ∧ vp_in x4 (ln 155)) ∧ True ∧ True ∧ (kd 155 = 8 ∧ vp_in x4 (ln 155)) ∧ True ∧ True) (by decide +kernel) ?_ ⟨trivial, (by decide), trivial, trivial, ⟨(by decide), g1⟩, trivial, trivial, ⟨(by decide), g1⟩, trivial, trivial⟩ k
  rfl
theorem BX7_equal_96 {d Z L : Nat} {xs : Nat → Int32} {z : Nat} {Φ : Out → T2 → T3 → Nat → Prop} {I : T2} {J : T3} {x1 : Int32} {x2 : Int32} {x3 : Int32} {x4 : Int32} {x5 : Int32}  
    (k : Ev d Z L xs mX7_equal 98 [some (.ref 136), some (.int x1), some (.int x2), some (.int x3), some (.int x4), some (.int x5)] [.int x4] I J z Φ) : Ev d Z L xs mX7_equal 96 [some (.ref 136), some (.int x1), some (.int x2), some (.int x3), some (.int x4), some (.int x5)] [] I J z Φ := by
  refine Ev.blk (ops := [o0 (.iload 4) 2]) (G := True ∧ True) (by decide +kernel) ?_ ⟨trivial, trivial⟩ k
  rfl
theorem BX7_equal_101 {d Z L : Nat} {xs : Nat → Int32} {z : Nat} {Φ : Out → T2 → T3 → Nat → Prop} {I : T2} {J : T3} {x1 : Int32} {x2 : Int32} {x3 : Int32} {x4 : Int32} {x5 : Int32}  
    (k : Ev d Z L xs mX7_equal 102 [some (.ref 136), some (.int x1), some (.int x2), some (.int x3), some (.int x4), some (.int x5)] [.int x2] I J z Φ) : Ev d Z L xs mX7_equal 101 [some (.ref 136), some (.int x1), some (.int x2), some (.int x3), some (.int x4), some (.int x5)] [] I J z Φ := by
  refine Ev.blk (ops := [o0 (.iload_n 2) 1]) (G := True ∧ True) (by decide +kernel) ?_ ⟨trivial, trivial⟩ k
  rfl
theorem BX7_equal_105 {d Z L : Nat} {xs : Nat → Int32} {z : Nat} {Φ : Out → T2 → T3 → Nat → Prop} {I : T2} {J : T3} {x1 : Int32} {x2 : Int32} {x3 : Int32} {x4 : Int32} {x5 : Int32}  
    (k : Ev d Z L xs mX7_equal 110 [some (.ref 136), some (.int x1), some (.int x2), some (.int x3), some (.int x4), some (.int x5)] [.int 1] I J z Φ) : Ev d Z L xs mX7_equal 105 [some (.ref 136), some (.int x1), some (.int x2), some (.int x3), some (.int x4), some (.int x5)] [] I J z Φ := by
  refine Ev.blk (ops := [oI (.iconst 1) 1 1, oK (.goto 4) 3 110 0]) (G := True ∧ True ∧ True) (by decide +kernel) ?_ ⟨trivial, trivial, trivial⟩ k
  rfl
theorem BX7_equal_109 {d Z L : Nat} {xs : Nat → Int32} {z : Nat} {Φ : Out → T2 → T3 → Nat → Prop} {I : T2} {J : T3} {x1 : Int32} {x2 : Int32} {x3 : Int32} {x4 : Int32} {x5 : Int32}  
    (k : Ev d Z L xs mX7_equal 110 [some (.ref 136), some (.int x1), some (.int x2), some (.int x3), some (.int x4), some (.int x5)] [.int 0] I J z Φ) : Ev d Z L xs mX7_equal 109 [some (.ref 136), some (.int x1), some (.int x2), some (.int x3), some (.int x4), some (.int x5)] [] I J z Φ := by
  refine Ev.blk (ops := [oI (.iconst 0) 1 0]) (G := True ∧ True) (by decide +kernel) ?_ ⟨trivial, trivial⟩ k
  rfl
theorem BX7_equal_110 {d Z L : Nat} {xs : Nat → Int32} {z : Nat} {Φ : Out → T2 → T3 → Nat → Prop} {I : T2} {J : T3} {x1 : Int32} {x2 : Int32} {x3 : Int32} {x4 : Int32} {x5 : Int32} {xs0 : Int32}  
    (k : Ev d Z L xs mX7_equal 12 [some (.ref 136), some (.int x1), some (.int x2), some (.int xs0), some (.int x4), some (.int x5)] [] I J z Φ) : Ev d Z L xs mX7_equal 110 [some (.ref 136), some (.int x1), some (.int x2), some (.int x3), some (.int x4), some (.int x5)] [.int xs0] I J z Φ := by
  refine Ev.blk (ops := [o0 (.istore_n 3) 1, oK (.goto (-99)) 3 12 0]) (G := True ∧ True ∧ True) (by decide +kernel) ?_ ⟨trivial, trivial, trivial⟩ k
  rfl
theorem BX7_equal_114 {d Z L : Nat} {xs : Nat → Int32} {z : Nat} {Φ : Out → T2 → T3 → Nat → Prop} {I : T2} {J : T3} {x1 : Int32} {x2 : Int32} {x3 : Int32}  
    (k : Ev d Z L xs mX7_equal 115 [some (.ref 136), some (.int x1), some (.int x2), some (.int x3), none, none] [.int x2] I J z Φ) : Ev d Z L xs mX7_equal 114 [some (.ref 136), some (.int x1), some (.int x2), some (.int x3), none, none] [] I J z Φ := by
  refine Ev.blk (ops := [o0 (.iload_n 2) 1]) (G := True ∧ True) (by decide +kernel) ?_ ⟨trivial, trivial⟩ k
  rfl
theorem BX7_deliver_0 {d Z L : Nat} {xs : Nat → Int32} {z : Nat} {Φ : Out → T2 → T3 → Nat → Prop} {I : T2} {J : T3} {x1 : Int32}  
    (k : Ev d Z L xs mX7_deliver 3 [some (.ref 136), some (.int x1)] [.int x1, .ref 136, .ref 136] I J z Φ) : Ev d Z L xs mX7_deliver 0 [some (.ref 136), some (.int x1)] [] I J z Φ := by
  refine Ev.blk (ops := [o0 (.aload_n 0) 1, o0 (.aload_n 0) 1, o0 (.iload_n 1) 1]) (G := True ∧ True ∧ True ∧ True) (by decide +kernel) ?_ ⟨trivial, trivial, trivial, trivial⟩ k
  rfl
theorem BX7_deliver_9 {d Z L : Nat} {xs : Nat → Int32} {z : Nat} {Φ : Out → T2 → T3 → Nat → Prop} {I : T2} {J : T3} {x1 : Int32}  
    (k : Ev d Z L xs mX7_deliver 14 [some (.ref 136), some (.int x1)] [.int 0, .ref 136] I J z Φ) : Ev d Z L xs mX7_deliver 9 [some (.ref 136), some (.int x1)] [.ref 136] I J z Φ := by
  refine Ev.blk (ops := [oI (.iconst 0) 1 0, oK (.goto 4) 3 14 0]) (G := True ∧ True ∧ True) (by decide +kernel) ?_ ⟨trivial, trivial, trivial⟩ k
  rfl
theorem BX7_deliver_13 {d Z L : Nat} {xs : Nat → Int32} {z : Nat} {Φ : Out → T2 → T3 → Nat → Prop} {I : T2} {J : T3} {x1 : Int32}  
    (k : Ev d Z L xs mX7_deliver 14 [some (.ref 136), some (.int x1)] [.int 1, .ref 136] I J z Φ) : Ev d Z L xs mX7_deliver 13 [some (.ref 136), some (.int x1)] [.ref 136] I J z Φ := by
  refine Ev.blk (ops := [oI (.iconst 1) 1 1]) (G := True ∧ True) (by decide +kernel) ?_ ⟨trivial, trivial⟩ k
  rfl
theorem BX7_deliver_14 {d Z L : Nat} {xs : Nat → Int32} {z : Nat} {Φ : Out → T2 → T3 → Nat → Prop} {I : T2} {J : T3} {x1 : Int32} {xs1 : Int32}  
    (k : Ev d Z L xs mX7_deliver 21 [some (.ref 136), some (.int x1)] [.int ((up2 I 136 0 xs1) 136 0)] (up2 I 136 0 xs1) J z Φ) : Ev d Z L xs mX7_deliver 14 [some (.ref 136), some (.int x1)] [.int xs1, .ref 136] I J z Φ := by
  refine Ev.blk (ops := [oK (.putfield 79) 3 7 0, o0 (.aload_n 0) 1, oK (.getfield 79) 3 7 0]) (G := (kd 136 = 7) ∧ True ∧ (kd 136 = 7) ∧ True) (by decide +kernel) ?_ ⟨(by decide), trivial, (by decide), trivial⟩ k
  rfl
theorem BX7_deliver_24 {d Z L : Nat} {xs : Nat → Int32} {z : Nat} {Φ : Out → T2 → T3 → Nat → Prop} {I : T2} {J : T3} {x1 : Int32}  
    (k : Ev d Z L xs mX7_deliver 33 [some (.ref 136), some (.int x1)] [.int 0] I J z Φ) : Ev d Z L xs mX7_deliver 24 [some (.ref 136), some (.int x1)] [] I J z Φ := by
  refine Ev.blk (ops := [oI (.iconst 0) 1 0, oK (.goto 8) 3 33 0]) (G := True ∧ True ∧ True) (by decide +kernel) ?_ ⟨trivial, trivial, trivial⟩ k
  rfl
theorem BX7_deliver_28 {d Z L : Nat} {xs : Nat → Int32} {z : Nat} {Φ : Out → T2 → T3 → Nat → Prop} {I : T2} {J : T3} {x1 : Int32}  
    (k : Ev d Z L xs mX7_deliver 30 [some (.ref 136), some (.int x1)] [.int x1, .ref 136] I J z Φ) : Ev d Z L xs mX7_deliver 28 [some (.ref 136), some (.int x1)] [] I J z Φ := by
  refine Ev.blk (ops := [o0 (.aload_n 0) 1, o0 (.iload_n 1) 1]) (G := True ∧ True ∧ True) (by decide +kernel) ?_ ⟨trivial, trivial, trivial⟩ k
  rfl
theorem BX7_isLetter_0 {d Z L : Nat} {xs : Nat → Int32} {z : Nat} {Φ : Out → T2 → T3 → Nat → Prop} {I : T2} {J : T3} {x1 : Int32}  
    (k : Ev d Z L xs mX7_isLetter 1 [some (.ref 136), some (.int x1)] [.int x1] I J z Φ) : Ev d Z L xs mX7_isLetter 0 [some (.ref 136), some (.int x1)] [] I J z Φ := by
  refine Ev.blk (ops := [o0 (.iload_n 1) 1]) (G := True ∧ True) (by decide +kernel) ?_ ⟨trivial, trivial⟩ k
  rfl
theorem BX7_isLetter_4 {d Z L : Nat} {xs : Nat → Int32} {z : Nat} {Φ : Out → T2 → T3 → Nat → Prop} {I : T2} {J : T3} {x1 : Int32}  
    (k : Ev d Z L xs mX7_isLetter 9 [some (.ref 136), some (.int x1)] [.int (I 136 24), .int x1] I J z Φ) : Ev d Z L xs mX7_isLetter 4 [some (.ref 136), some (.int x1)] [] I J z Φ := by
  refine Ev.blk (ops := [o0 (.iload_n 1) 1, o0 (.aload_n 0) 1, oK (.getfield 109) 3 7 24]) (G := True ∧ True ∧ (kd 136 = 7) ∧ True) (by decide +kernel) ?_ ⟨trivial, trivial, (by decide), trivial⟩ k
  rfl
theorem BX7_isLetter_12 {d Z L : Nat} {xs : Nat → Int32} {z : Nat} {Φ : Out → T2 → T3 → Nat → Prop} {I : T2} {J : T3} {x1 : Int32}  
    (k : Ev d Z L xs mX7_isLetter 17 [some (.ref 136), some (.int x1)] [.int 1] I J z Φ) : Ev d Z L xs mX7_isLetter 12 [some (.ref 136), some (.int x1)] [] I J z Φ := by
  refine Ev.blk (ops := [oI (.iconst 1) 1 1, oK (.goto 4) 3 17 0]) (G := True ∧ True ∧ True) (by decide +kernel) ?_ ⟨trivial, trivial, trivial⟩ k
  rfl
theorem BX7_isLetter_16 {d Z L : Nat} {xs : Nat → Int32} {z : Nat} {Φ : Out → T2 → T3 → Nat → Prop} {I : T2} {J : T3} {x1 : Int32}  
    (k : Ev d Z L xs mX7_isLetter 17 [some (.ref 136), some (.int x1)] [.int 0] I J z Φ) : Ev d Z L xs mX7_isLetter 16 [some (.ref 136), some (.int x1)] [] I J z Φ := by
  refine Ev.blk (ops := [oI (.iconst 0) 1 0]) (G := True ∧ True) (by decide +kernel) ?_ ⟨trivial, trivial⟩ k
  rfl
theorem BX7_come_0 {d Z L : Nat} {xs : Nat → Int32} {z : Nat} {Φ : Out → T2 → T3 → Nat → Prop} {I : T2} {J : T3} {x1 : Int32}  (g1 : vp_in (6 * x1) 1200) (g2 : vp_in ((6 * x1) + 1) 1200) (g3 : vp_in ((6 * x1) + 2) 1200) (g4 : vp_in ((6 * x1) + 3) 1200) (g5 : vp_in ((6 * x1) + 4) 1200) (g6 : vp_in ((6 * x1) + 5) 1200)
    (k : Ev d Z L xs mX7_come 64 [some (.ref 136), some (.int x1), some (.int (6 * x1)), some (.int (I 151 (6 * x1).toNatClampNeg)), some (.int (I 151 ((6 * x1) + 1).toNatClampNeg)), some (.int (I 151 ((6 * x1) + 2).toNatClampNeg)), some (.int (I 151 ((6 * x1) + 3).toNatClampNeg)), some (.int (I 151 ((6 * x1) + 4).toNatClampNeg)), some (.int (I 151 ((6 * x1) + 5).toNatClampNeg)), none, none, none, none] [.int x1, .ref 136] I J z Φ) : Ev d Z L xs mX7_come 0 [some (.ref 136), some (.int x1), none, none, none, none, none, none, none, none, none, none, none] [] I J z Φ := by
  refine Ev.blk (ops := [oI (.bipush 6) 2 6, o0 (.iload_n 1) 1, o0 (.imul) 1, o0 (.istore_n 2) 1, o0 (.aload_n 0) 1, oK (.getfield 54) 3 7 23, o0 (.iload_n 2) 1, o0 (.iaload) 1, o0 (.istore_n 3) 1, o0 (.aload_n 0) 1, oK (.getfield 54) 3 7 23, o0 (.iload_n 2) 1, oI (.iconst 1) 1 1, o0 (.iadd) 1, o0 (.iaload) 1, o0 (.istore 4) 2, o0 (.aload_n 0) 1, oK (.getfield 54) 3 7 23, o0 (.iload_n 2) 1, oI (.iconst 2) 1 2, o0 (.iadd) 1, o0 (.iaload) 1, o0 (.istore 5) 2, o0 (.aload_n 0) 1, oK (.getfield 54) 3 7 23, o0 (.iload_n 2) 1, oI (.iconst 3) 1 3, o0 (.iadd) 1, o0 (.iaload) 1, o0 (.istore 6) 2, o0 (.aload_n 0) 1, oK (.getfield 54) 3 7 23, o0 (.iload_n 2) 1, oI (.iconst 4) 1 4, o0 (.iadd) 1, o0 (.iaload) 1, o0 (.istore 7) 2, o0 (.aload_n 0) 1, oK (.getfield 54) 3 7 23, o0 (.iload_n 2) 1, oI (.iconst 5) 1 5, o0 (.iadd) 1, o0 (.iaload) 1, o0 (.istore 8) 2, o0 (.aload_n 0) 1, o0 (.iload_n 1) 1]) (G := True ∧ True ∧ True ∧ True ∧ True ∧ (kd 136 = 7) ∧ True ∧ (kd 151 = 8 ∧ vp_in (6 * x1) (ln 151)) ∧ True ∧ True ∧ (kd 136 = 7) ∧ True ∧ True ∧ True ∧ (kd 151 = 8 ∧ vp_in ((6 * x1) + 1) (ln 151)) ∧ True ∧ True ∧ (kd 136 = 7) ∧ True ∧ True ∧ True ∧ (kd 151 = 8 ∧ vp_in ((6 * x1) + 2) (ln 151)) ∧ True ∧ True ∧ (kd 136 = 7) ∧ True ∧ True ∧ True ∧ (kd 151 = 8 ∧ vp_in ((6 * x1) + 3) (ln 151)) ∧ True ∧ True ∧ (kd 136 = 7) ∧ True ∧ True ∧ True ∧ (kd 151 = 8 ∧ vp_in ((6 * x1) + 4) (ln 151)) ∧ True ∧ True ∧ (kd 136 = 7) ∧ True ∧ True ∧ True ∧ (kd 151 = 8 ∧ vp_in ((6 * x1) + 5) (ln 151)) ∧ True ∧ True ∧ True ∧ True) (by decide +kernel) ?_ ⟨trivial, trivial, trivial, trivial, trivial, (by decide), trivial, ⟨(by decide), g1⟩, trivial, trivial, (by decide), trivial, trivial, trivial, ⟨(by decide), g2⟩, trivial, trivial, (by decide), trivial, trivial, trivial, ⟨(by decide), g3⟩, trivial, trivial, (by decide), trivial, trivial, trivial, ⟨(by decide), g4⟩, trivial, trivial, (by decide), trivial, trivial, trivial, ⟨(by decide), g5⟩, trivial, trivial, (by decide), trivial, trivial, trivial, ⟨(by decide), g6⟩, trivial, trivial, trivial, trivial⟩ k
  rfl
theorem BX7_come_67 {d Z L : Nat} {xs : Nat → Int32} {z : Nat} {Φ : Out → T2 → T3 → Nat → Prop} {I : T2} {J : T3} {x1 : Int32} {x2 : Int32} {x3 : Int32} {x4 : Int32} {x5 : Int32} {x6 : Int32} {x7 : Int32} {x8 : Int32}  
    (k : Ev d Z L xs mX7_come 68 [some (.ref 136), some (.int x1), some (.int x2), some (.int x3), some (.int x4), some (.int x5), some (.int x6), some (.int x7), some (.int x8), none, none, none, none] [.int x3] I J z Φ) : Ev d Z L xs mX7_come 67 [some (.ref 136), some (.int x1), some (.int x2), some (.int x3), some (.int x4), some (.int x5), some (.int x6), some (.int x7), some (.int x8), none, none, none, none] [] I J z Φ := by
  refine Ev.blk (ops := [o0 (.iload_n 3) 1]) (G := True ∧ True) (by decide +kernel) ?_ ⟨trivial, trivial⟩ k
  rfl
theorem BX7_come_71 {d Z L : Nat} {xs : Nat → Int32} {z : Nat} {Φ : Out → T2 → T3 → Nat → Prop} {I : T2} {J : T3} {x1 : Int32} {x2 : Int32} {x3 : Int32} {x4 : Int32} {x5 : Int32} {x6 : Int32} {x7 : Int32} {x8 : Int32}  
    (k : Ev d Z L xs mX7_come 73 [some (.ref 136), some (.int x1), some (.int x2), some (.int x3), some (.int x4), some (.int x5), some (.int x6), some (.int x7), some (.int x8), none, none, none, none] [.int 1, .int x3] I J z Φ) : Ev d Z L xs mX7_come 71 [some (.ref 136), some (.int x1), some (.int x2), some (.int x3), some (.int x4), some (.int x5), some (.int x6), some (.int x7), some (.int x8), none, none, none, none] [] I J z Φ := by
  refine Ev.blk (ops := [o0 (.iload_n 3) 1, oI (.iconst 1) 1 1]) (G := True ∧ True ∧ True) (by decide +kernel) ?_ ⟨trivial, trivial, trivial⟩ k
  rfl
theorem BX7_come_76 {d Z L : Nat} {xs : Nat → Int32} {z : Nat} {Φ : Out → T2 → T3 → Nat → Prop} {I : T2} {J : T3} {x1 : Int32} {x2 : Int32} {x3 : Int32} {x4 : Int32} {x5 : Int32} {x6 : Int32} {x7 : Int32} {x8 : Int32}  
    (k : Ev d Z L xs mX7_come 78 [some (.ref 136), some (.int x1), some (.int x2), some (.int x3), some (.int x4), some (.int x5), some (.int x6), some (.int x7), some (.int x8), none, none, none, none] [.int 4, .int x3] I J z Φ) : Ev d Z L xs mX7_come 76 [some (.ref 136), some (.int x1), some (.int x2), some (.int x3), some (.int x4), some (.int x5), some (.int x6), some (.int x7), some (.int x8), none, none, none, none] [] I J z Φ := by
  refine Ev.blk (ops := [o0 (.iload_n 3) 1, oI (.iconst 4) 1 4]) (G := True ∧ True ∧ True) (by decide +kernel) ?_ ⟨trivial, trivial, trivial⟩ k
  rfl
theorem BX7_come_81 {d Z L : Nat} {xs : Nat → Int32} {z : Nat} {Φ : Out → T2 → T3 → Nat → Prop} {I : T2} {J : T3} {x1 : Int32} {x2 : Int32} {x3 : Int32} {x4 : Int32} {x5 : Int32} {x6 : Int32} {x7 : Int32} {x8 : Int32}  
    (k : Ev d Z L xs mX7_come 86 [some (.ref 136), some (.int x1), some (.int x2), some (.int x3), some (.int x4), some (.int x5), some (.int x6), some (.int x7), some (.int x8), none, none, none, none] [.int 1] I J z Φ) : Ev d Z L xs mX7_come 81 [some (.ref 136), some (.int x1), some (.int x2), some (.int x3), some (.int x4), some (.int x5), some (.int x6), some (.int x7), some (.int x8), none, none, none, none] [] I J z Φ := by
  refine Ev.blk (ops := [oI (.iconst 1) 1 1, oK (.goto 4) 3 86 0]) (G := True ∧ True ∧ True) (by decide +kernel) ?_ ⟨trivial, trivial, trivial⟩ k
  rfl
theorem BX7_come_85 {d Z L : Nat} {xs : Nat → Int32} {z : Nat} {Φ : Out → T2 → T3 → Nat → Prop} {I : T2} {J : T3} {x1 : Int32} {x2 : Int32} {x3 : Int32} {x4 : Int32} {x5 : Int32} {x6 : Int32} {x7 : Int32} {x8 : Int32}  
    (k : Ev d Z L xs mX7_come 86 [some (.ref 136), some (.int x1), some (.int x2), some (.int x3), some (.int x4), some (.int x5), some (.int x6), some (.int x7), some (.int x8), none, none, none, none] [.int 0] I J z Φ) : Ev d Z L xs mX7_come 85 [some (.ref 136), some (.int x1), some (.int x2), some (.int x3), some (.int x4), some (.int x5), some (.int x6), some (.int x7), some (.int x8), none, none, none, none] [] I J z Φ := by
  refine Ev.blk (ops := [oI (.iconst 0) 1 0]) (G := True ∧ True) (by decide +kernel) ?_ ⟨trivial, trivial⟩ k
  rfl
theorem BX7_come_86 {d Z L : Nat} {xs : Nat → Int32} {z : Nat} {Φ : Out → T2 → T3 → Nat → Prop} {I : T2} {J : T3} {x1 : Int32} {x2 : Int32} {x3 : Int32} {x4 : Int32} {x5 : Int32} {x6 : Int32} {x7 : Int32} {x8 : Int32} {xs0 : Int32}  
    (k : Ev d Z L xs mX7_come 90 [some (.ref 136), some (.int x1), some (.int x2), some (.int x3), some (.int x4), some (.int x5), some (.int x6), some (.int x7), some (.int x8), some (.int xs0), none, none, none] [.int xs0] I J z Φ) : Ev d Z L xs mX7_come 86 [some (.ref 136), some (.int x1), some (.int x2), some (.int x3), some (.int x4), some (.int x5), some (.int x6), some (.int x7), some (.int x8), none, none, none, none] [.int xs0] I J z Φ := by
  refine Ev.blk (ops := [o0 (.istore 9) 2, o0 (.iload 9) 2]) (G := True ∧ True ∧ True) (by decide +kernel) ?_ ⟨trivial, trivial, trivial⟩ k
  rfl
theorem BX7_come_93 {d Z L : Nat} {xs : Nat → Int32} {z : Nat} {Φ : Out → T2 → T3 → Nat → Prop} {I : T2} {J : T3} {x1 : Int32} {x2 : Int32} {x3 : Int32} {x4 : Int32} {x5 : Int32} {x6 : Int32} {x7 : Int32} {x8 : Int32} {x9 : Int32}  
    (k : Ev d Z L xs mX7_come 97 [some (.ref 136), some (.int x1), some (.int x2), some (.int x3), some (.int x4), some (.int x5), some (.int x6), some (.int x7), some (.int x8), some (.int x9), none, none, none] [.int (I 136 7)] I J z Φ) : Ev d Z L xs mX7_come 93 [some (.ref 136), some (.int x1), some (.int x2), some (.int x3), some (.int x4), some (.int x5), some (.int x6), some (.int x7), some (.int x8), some (.int x9), none, none, none] [] I J z Φ := by
  refine Ev.blk (ops := [o0 (.aload_n 0) 1, oK (.getfield 102) 3 7 7]) (G := True ∧ (kd 136 = 7) ∧ True) (by decide +kernel) ?_ ⟨trivial, (by decide), trivial⟩ k
  rfl
theorem BX7_come_100 {d Z L : Nat} {xs : Nat → Int32} {z : Nat} {Φ : Out → T2 → T3 → Nat → Prop} {I : T2} {J : T3} {x1 : Int32} {x2 : Int32} {x3 : Int32} {x4 : Int32} {x5 : Int32} {x6 : Int32} {x7 : Int32} {x8 : Int32} {x9 : Int32}  
    (k : Ev d Z L xs mX7_come 113 [some (.ref 136), some (.int x1), some (.int x2), some (.int x3), some (.int x4), some (.int x5), some (.int x6), some (.int x7), some (.int x8), some (.int x9), none, none, none] [] I J z Φ) : Ev d Z L xs mX7_come 100 [some (.ref 136), some (.int x1), some (.int x2), some (.int x3), some (.int x4), some (.int x5), some (.int x6), some (.int x7), some (.int x8), some (.int x9), none, none, none] [] I J z Φ := by
  refine Ev.blk (ops := [oK (.goto 13) 3 113 0]) (G := True ∧ True) (by decide +kernel) ?_ ⟨trivial, trivial⟩ k
  rfl
theorem BX7_come_103 {d Z L : Nat} {xs : Nat → Int32} {z : Nat} {Φ : Out → T2 → T3 → Nat → Prop} {I : T2} {J : T3} {x1 : Int32} {x2 : Int32} {x3 : Int32} {x4 : Int32} {x5 : Int32} {x6 : Int32} {x7 : Int32} {x8 : Int32} {x9 : Int32}  (g1 : vp_in x4 8)
    (k : Ev d Z L xs mX7_come 110 [some (.ref 136), some (.int x1), some (.int x2), some (.int x3), some (.int x4), some (.int x5), some (.int x6), some (.int x7), some (.int x8), some (.int x9), none, none, none] [.int (I 143 x4.toNatClampNeg)] I J z Φ) : Ev d Z L xs mX7_come 103 [some (.ref 136), some (.int x1), some (.int x2), some (.int x3), some (.int x4), some (.int x5), some (.int x6), some (.int x7), some (.int x8), some (.int x9), none, none, none] [] I J z Φ := by
  refine Ev.blk (ops := [o0 (.aload_n 0) 1, oK (.getfield 29) 3 7 15, o0 (.iload 4) 2, o0 (.baload) 1]) (G := True ∧ (kd 136 = 7) ∧ True ∧ (kd 143 = 10 ∧ vp_in x4 (ln 143)) ∧ True) (by decide +kernel) ?_ ⟨trivial, (by decide), trivial, ⟨(by decide), g1⟩, trivial⟩ k
  rfl
theorem BX7_come_113 {d Z L : Nat} {xs : Nat → Int32} {z : Nat} {Φ : Out → T2 → T3 → Nat → Prop} {I : T2} {J : T3} {x1 : Int32} {x2 : Int32} {x3 : Int32} {x4 : Int32} {x5 : Int32} {x6 : Int32} {x7 : Int32} {x8 : Int32} {x9 : Int32}  
    (k : Ev d Z L xs mX7_come 114 [some (.ref 136), some (.int x1), some (.int x2), some (.int x3), some (.int x4), some (.int x5), some (.int x6), some (.int x7), some (.int x8), some (.int x9), none, none, none] [.int 0] I J z Φ) : Ev d Z L xs mX7_come 113 [some (.ref 136), some (.int x1), some (.int x2), some (.int x3), some (.int x4), some (.int x5), some (.int x6), some (.int x7), some (.int x8), some (.int x9), none, none, none] [] I J z Φ := by
  refine Ev.blk (ops := [oI (.iconst 0) 1 0]) (G := True ∧ True) (by decide +kernel) ?_ ⟨trivial, trivial⟩ k
  rfl
theorem BX7_come_115 {d Z L : Nat} {xs : Nat → Int32} {z : Nat} {Φ : Out → T2 → T3 → Nat → Prop} {I : T2} {J : T3} {x1 : Int32} {x2 : Int32} {x3 : Int32} {x4 : Int32} {x5 : Int32} {x6 : Int32} {x7 : Int32} {x8 : Int32} {x9 : Int32}  
    (k : Ev d Z L xs mX7_come 117 [some (.ref 136), some (.int x1), some (.int x2), some (.int x3), some (.int x4), some (.int x5), some (.int x6), some (.int x7), some (.int x8), some (.int x9), none, none, none] [.int 4, .int x3] I J z Φ) : Ev d Z L xs mX7_come 115 [some (.ref 136), some (.int x1), some (.int x2), some (.int x3), some (.int x4), some (.int x5), some (.int x6), some (.int x7), some (.int x8), some (.int x9), none, none, none] [] I J z Φ := by
  refine Ev.blk (ops := [o0 (.iload_n 3) 1, oI (.iconst 4) 1 4]) (G := True ∧ True ∧ True) (by decide +kernel) ?_ ⟨trivial, trivial, trivial⟩ k
  rfl
theorem BX7_come_120 {d Z L : Nat} {xs : Nat → Int32} {z : Nat} {Φ : Out → T2 → T3 → Nat → Prop} {I : T2} {J : T3} {x1 : Int32} {x2 : Int32} {x3 : Int32} {x4 : Int32} {x5 : Int32} {x6 : Int32} {x7 : Int32} {x8 : Int32} {x9 : Int32}  
    (k : Ev d Z L xs mX7_come 128 [some (.ref 136), some (.int x1), some (.int x2), some (.int x3), some (.int x4), some (.int x5), some (.int x6), some (.int x7), some (.int x8), some (.int x9), none, none, none] [.int x5, .int (8 + x4), .ref 136] I J z Φ) : Ev d Z L xs mX7_come 120 [some (.ref 136), some (.int x1), some (.int x2), some (.int x3), some (.int x4), some (.int x5), some (.int x6), some (.int x7), some (.int x8), some (.int x9), none, none, none] [] I J z Φ := by
  refine Ev.blk (ops := [o0 (.aload_n 0) 1, oI (.bipush 8) 2 8, o0 (.iload 4) 2, o0 (.iadd) 1, o0 (.iload 5) 2]) (G := True ∧ True ∧ True ∧ True ∧ True ∧ True) (by decide +kernel) ?_ ⟨trivial, trivial, trivial, trivial, trivial, trivial⟩ k
  rfl
theorem BX7_come_131 {d Z L : Nat} {xs : Nat → Int32} {z : Nat} {Φ : Out → T2 → T3 → Nat → Prop} {I : T2} {J : T3} {x1 : Int32} {x2 : Int32} {x3 : Int32} {x4 : Int32} {x5 : Int32} {x6 : Int32} {x7 : Int32} {x8 : Int32} {x9 : Int32}  
    (k : Ev d Z L xs mX7_come 132 [some (.ref 136), some (.int x1), some (.int x2), some (.int x3), some (.int x4), some (.int x5), some (.int x6), some (.int x7), some (.int x8), some (.int x9), none, none, none] [.int 2] I J z Φ) : Ev d Z L xs mX7_come 131 [some (.ref 136), some (.int x1), some (.int x2), some (.int x3), some (.int x4), some (.int x5), some (.int x6), some (.int x7), some (.int x8), some (.int x9), none, none, none] [] I J z Φ := by
  refine Ev.blk (ops := [oI (.iconst 2) 1 2]) (G := True ∧ True) (by decide +kernel) ?_ ⟨trivial, trivial⟩ k
  rfl
theorem BX7_come_133 {d Z L : Nat} {xs : Nat → Int32} {z : Nat} {Φ : Out → T2 → T3 → Nat → Prop} {I : T2} {J : T3} {x1 : Int32} {x2 : Int32} {x3 : Int32} {x4 : Int32} {x5 : Int32} {x6 : Int32} {x7 : Int32} {x8 : Int32} {x9 : Int32}  
    (k : Ev d Z L xs mX7_come 135 [some (.ref 136), some (.int x1), some (.int x2), some (.int x3), some (.int x4), some (.int x5), some (.int x6), some (.int x7), some (.int x8), some (.int x9), none, none, none] [.int 3, .int x3] I J z Φ) : Ev d Z L xs mX7_come 133 [some (.ref 136), some (.int x1), some (.int x2), some (.int x3), some (.int x4), some (.int x5), some (.int x6), some (.int x7), some (.int x8), some (.int x9), none, none, none] [] I J z Φ := by
  refine Ev.blk (ops := [o0 (.iload_n 3) 1, oI (.iconst 3) 1 3]) (G := True ∧ True ∧ True) (by decide +kernel) ?_ ⟨trivial, trivial, trivial⟩ k
  rfl
theorem BX7_come_138 {d Z L : Nat} {xs : Nat → Int32} {z : Nat} {Φ : Out → T2 → T3 → Nat → Prop} {I : T2} {J : T3} {x1 : Int32} {x2 : Int32} {x3 : Int32} {x4 : Int32} {x5 : Int32} {x6 : Int32} {x7 : Int32} {x8 : Int32} {x9 : Int32}  
    (k : Ev d Z L xs mX7_come 143 [some (.ref 136), some (.int x1), some (.int x2), some (.int x3), some (.int x4), some (.int x5), some (.int x6), some (.int x7), some (.int x8), some (.int x9), none, none, none] [.int x5, .int x4, .ref 136] I J z Φ) : Ev d Z L xs mX7_come 138 [some (.ref 136), some (.int x1), some (.int x2), some (.int x3), some (.int x4), some (.int x5), some (.int x6), some (.int x7), some (.int x8), some (.int x9), none, none, none] [] I J z Φ := by
  refine Ev.blk (ops := [o0 (.aload_n 0) 1, o0 (.iload 4) 2, o0 (.iload 5) 2]) (G := True ∧ True ∧ True ∧ True) (by decide +kernel) ?_ ⟨trivial, trivial, trivial, trivial⟩ k
  rfl
theorem BX7_come_146 {d Z L : Nat} {xs : Nat → Int32} {z : Nat} {Φ : Out → T2 → T3 → Nat → Prop} {I : T2} {J : T3} {x1 : Int32} {x2 : Int32} {x3 : Int32} {x4 : Int32} {x5 : Int32} {x6 : Int32} {x7 : Int32} {x8 : Int32} {x9 : Int32}  
    (k : Ev d Z L xs mX7_come 147 [some (.ref 136), some (.int x1), some (.int x2), some (.int x3), some (.int x4), some (.int x5), some (.int x6), some (.int x7), some (.int x8), some (.int x9), none, none, none] [.int 2] I J z Φ) : Ev d Z L xs mX7_come 146 [some (.ref 136), some (.int x1), some (.int x2), some (.int x3), some (.int x4), some (.int x5), some (.int x6), some (.int x7), some (.int x8), some (.int x9), none, none, none] [] I J z Φ := by
  refine Ev.blk (ops := [oI (.iconst 2) 1 2]) (G := True ∧ True) (by decide +kernel) ?_ ⟨trivial, trivial⟩ k
  rfl
theorem BX7_come_148 {d Z L : Nat} {xs : Nat → Int32} {z : Nat} {Φ : Out → T2 → T3 → Nat → Prop} {I : T2} {J : T3} {x1 : Int32} {x2 : Int32} {x3 : Int32} {x4 : Int32} {x5 : Int32} {x6 : Int32} {x7 : Int32} {x8 : Int32} {x9 : Int32}  
    (k : Ev d Z L xs mX7_come 150 [some (.ref 136), some (.int x1), some (.int x2), some (.int x3), some (.int x4), some (.int x5), some (.int x6), some (.int x7), some (.int x8), some (.int x9), none, none, none] [.int x9] I J z Φ) : Ev d Z L xs mX7_come 148 [some (.ref 136), some (.int x1), some (.int x2), some (.int x3), some (.int x4), some (.int x5), some (.int x6), some (.int x7), some (.int x8), some (.int x9), none, none, none] [] I J z Φ := by
  refine Ev.blk (ops := [o0 (.iload 9) 2]) (G := True ∧ True) (by decide +kernel) ?_ ⟨trivial, trivial⟩ k
  rfl
theorem BX7_come_153 {d Z L : Nat} {xs : Nat → Int32} {z : Nat} {Φ : Out → T2 → T3 → Nat → Prop} {I : T2} {J : T3} {x1 : Int32} {x2 : Int32} {x3 : Int32} {x4 : Int32} {x5 : Int32} {x6 : Int32} {x7 : Int32} {x8 : Int32} {x9 : Int32}  
    (k : Ev d Z L xs mX7_come 163 [some (.ref 136), some (.int x1), some (.int x2), some (.int x3), some (.int x4), some (.int x5), some (.int x6), some (.int x7), some (.int x8), some (.int x9), none, none, none] [.int x4] I J z Φ) : Ev d Z L xs mX7_come 153 [some (.ref 136), some (.int x1), some (.int x2), some (.int x3), some (.int x4), some (.int x5), some (.int x6), some (.int x7), some (.int x8), some (.int x9), none, none, none] [] I J z Φ := by
  refine Ev.blk (ops := [o0 (.iload 4) 2, oK (.goto 8) 3 163 0]) (G := True ∧ True ∧ True) (by decide +kernel) ?_ ⟨trivial, trivial, trivial⟩ k
  rfl
theorem BX7_come_158 {d Z L : Nat} {xs : Nat → Int32} {z : Nat} {Φ : Out → T2 → T3 → Nat → Prop} {I : T2} {J : T3} {x1 : Int32} {x2 : Int32} {x3 : Int32} {x4 : Int32} {x5 : Int32} {x6 : Int32} {x7 : Int32} {x8 : Int32} {x9 : Int32}  
    (k : Ev d Z L xs mX7_come 163 [some (.ref 136), some (.int x1), some (.int x2), some (.int x3), some (.int x4), some (.int x5), some (.int x6), some (.int x7), some (.int x8), some (.int x9), none, none, none] [.int (8 + x4)] I J z Φ) : Ev d Z L xs mX7_come 158 [some (.ref 136), some (.int x1), some (.int x2), some (.int x3), some (.int x4), some (.int x5), some (.int x6), some (.int x7), some (.int x8), some (.int x9), none, none, none] [] I J z Φ := by
  refine Ev.blk (ops := [oI (.bipush 8) 2 8, o0 (.iload 4) 2, o0 (.iadd) 1]) (G := True ∧ True ∧ True ∧ True) (by decide +kernel) ?_ ⟨trivial, trivial, trivial, trivial⟩ k
  rfl
theorem BX7_come_163 {d Z L : Nat} {xs : Nat → Int32} {z : Nat} {Φ : Out → T2 → T3 → Nat → Prop} {I : T2} {J : T3} {x1 : Int32} {x2 : Int32} {x3 : Int32} {x4 : Int32} {x5 : Int32} {x6 : Int32} {x7 : Int32} {x8 : Int32} {x9 : Int32} {xs0 : Int32}  (g1 : vp_in xs0 16)
    (k : Ev d Z L xs mX7_come 176 [some (.ref 136), some (.int x1), some (.int x2), some (.int x3), some (.int x4), some (.int x5), some (.int x6), some (.int x7), some (.int x8), some (.int x9), some (.int xs0), none, none] [.int ((I 150 xs0.toNatClampNeg) + 1), .int x5] I J z Φ) : Ev d Z L xs mX7_come 163 [some (.ref 136), some (.int x1), some (.int x2), some (.int x3), some (.int x4), some (.int x5), some (.int x6), some (.int x7), some (.int x8), some (.int x9), none, none, none] [.int xs0] I J z Φ := by
  refine Ev.blk (ops := [o0 (.istore 10) 2, o0 (.iload 5) 2, o0 (.aload_n 0) 1, oK (.getfield 51) 3 7 22, o0 (.iload 10) 2, o0 (.iaload) 1, oI (.iconst 1) 1 1, o0 (.iadd) 1]) (G := True ∧ True ∧ True ∧ (kd 136 = 7) ∧ True ∧ (kd 150 = 8 ∧ vp_in xs0 (ln 150)) ∧ True ∧ True ∧ True) (by decide +kernel) ?_ ⟨trivial, trivial, trivial, (by decide), trivial, ⟨(by decide), g1⟩, trivial, trivial, trivial⟩ k
  rfl
theorem BX7_come_179 {d Z L : Nat} {xs : Nat → Int32} {z : Nat} {Φ : Out → T2 → T3 → Nat → Prop} {I : T2} {J : T3} {x1 : Int32} {x2 : Int32} {x3 : Int32} {x4 : Int32} {x5 : Int32} {x6 : Int32} {x7 : Int32} {x8 : Int32} {x9 : Int32} {x10 : Int32}  
    (k : Ev d Z L xs mX7_come 184 [some (.ref 136), some (.int x1), some (.int x2), some (.int x3), some (.int x4), some (.int x5), some (.int x6), some (.int x7), some (.int x8), some (.int x9), some (.int x10), none, none] [.int 1] I J z Φ) : Ev d Z L xs mX7_come 179 [some (.ref 136), some (.int x1), some (.int x2), some (.int x3), some (.int x4), some (.int x5), some (.int x6), some (.int x7), some (.int x8), some (.int x9), some (.int x10), none, none] [] I J z Φ := by
  refine Ev.blk (ops := [oI (.iconst 1) 1 1, oK (.goto 4) 3 184 0]) (G := True ∧ True ∧ True) (by decide +kernel) ?_ ⟨trivial, trivial, trivial⟩ k
  rfl
theorem BX7_come_183 {d Z L : Nat} {xs : Nat → Int32} {z : Nat} {Φ : Out → T2 → T3 → Nat → Prop} {I : T2} {J : T3} {x1 : Int32} {x2 : Int32} {x3 : Int32} {x4 : Int32} {x5 : Int32} {x6 : Int32} {x7 : Int32} {x8 : Int32} {x9 : Int32} {x10 : Int32}  
    (k : Ev d Z L xs mX7_come 184 [some (.ref 136), some (.int x1), some (.int x2), some (.int x3), some (.int x4), some (.int x5), some (.int x6), some (.int x7), some (.int x8), some (.int x9), some (.int x10), none, none] [.int 0] I J z Φ) : Ev d Z L xs mX7_come 183 [some (.ref 136), some (.int x1), some (.int x2), some (.int x3), some (.int x4), some (.int x5), some (.int x6), some (.int x7), some (.int x8), some (.int x9), some (.int x10), none, none] [] I J z Φ := by
  refine Ev.blk (ops := [oI (.iconst 0) 1 0]) (G := True ∧ True) (by decide +kernel) ?_ ⟨trivial, trivial⟩ k
  rfl
theorem BX7_come_184 {d Z L : Nat} {xs : Nat → Int32} {z : Nat} {Φ : Out → T2 → T3 → Nat → Prop} {I : T2} {J : T3} {x1 : Int32} {x2 : Int32} {x3 : Int32} {x4 : Int32} {x5 : Int32} {x6 : Int32} {x7 : Int32} {x8 : Int32} {x9 : Int32} {x10 : Int32} {xs0 : Int32}  
    (k : Ev d Z L xs mX7_come 188 [some (.ref 136), some (.int x1), some (.int x2), some (.int x3), some (.int x4), some (.int x5), some (.int x6), some (.int x7), some (.int x8), some (.int x9), some (.int x10), some (.int xs0), none] [.int xs0] I J z Φ) : Ev d Z L xs mX7_come 184 [some (.ref 136), some (.int x1), some (.int x2), some (.int x3), some (.int x4), some (.int x5), some (.int x6), some (.int x7), some (.int x8), some (.int x9), some (.int x10), none, none] [.int xs0] I J z Φ := by
  refine Ev.blk (ops := [o0 (.istore 11) 2, o0 (.iload 11) 2]) (G := True ∧ True ∧ True) (by decide +kernel) ?_ ⟨trivial, trivial, trivial⟩ k
  rfl
theorem BX7_come_191 {d Z L : Nat} {xs : Nat → Int32} {z : Nat} {Φ : Out → T2 → T3 → Nat → Prop} {I : T2} {J : T3} {x1 : Int32} {x2 : Int32} {x3 : Int32} {x4 : Int32} {x5 : Int32} {x6 : Int32} {x7 : Int32} {x8 : Int32} {x9 : Int32} {x10 : Int32} {x11 : Int32}  (g1 : vp_in x10 16)
    (k : Ev d Z L xs mX7_come 203 [some (.ref 136), some (.int x1), some (.int x2), some (.int x3), some (.int x4), some (.int x5), some (.int x6), some (.int x7), some (.int x8), some (.int x9), some (.int x10), some (.int x11), none] [.int x3] (up2 I 150 x10.toNatClampNeg ((I 150 x10.toNatClampNeg) + 1)) J z Φ) : Ev d Z L xs mX7_come 191 [some (.ref 136), some (.int x1), some (.int x2), some (.int x3), some (.int x4), some (.int x5), some (.int x6), some (.int x7), some (.int x8), some (.int x9), some (.int x10), some (.int x11), none] [] I J z Φ := by
  refine Ev.blk (ops := [o0 (.aload_n 0) 1, oK (.getfield 51) 3 7 22, o0 (.iload 10) 2, o0 (.dup2) 1, o0 (.iaload) 1, oI (.iconst 1) 1 1, o0 (.iadd) 1, o0 (.iastore) 1, o0 (.iload_n 3) 1]) (G := True ∧ (kd 136 = 7) ∧ True ∧ True ∧ (kd 150 = 8 ∧ vp_in x10 (ln 150)) ∧ True ∧ True ∧ (kd 150 = 8 ∧ vp_in x10 (ln 150)) ∧ True ∧ True) (by decide +kernel) ?_ ⟨trivial, (by decide), trivial, trivial, ⟨(by decide), g1⟩, trivial, trivial, ⟨(by decide), g1⟩, trivial, trivial⟩ k
  rfl
theorem BX7_come_206 {d Z L : Nat} {xs : Nat → Int32} {z : Nat} {Φ : Out → T2 → T3 → Nat → Prop} {I : T2} {J : T3} {x1 : Int32} {x2 : Int32} {x3 : Int32} {x4 : Int32} {x5 : Int32} {x6 : Int32} {x7 : Int32} {x8 : Int32} {x9 : Int32} {x10 : Int32} {x11 : Int32}  
    (k : Ev d Z L xs mX7_come 215 [some (.ref 136), some (.int x1), some (.int x2), some (.int x3), some (.int x4), some (.int x5), some (.int x6), some (.int x7), some (.int x8), some (.int x9), some (.int x10), some (.int x11), none] [.int x8, .int x7, .int x6, .int x4, .ref 136] I J z Φ) : Ev d Z L xs mX7_come 206 [some (.ref 136), some (.int x1), some (.int x2), some (.int x3), some (.int x4), some (.int x5), some (.int x6), some (.int x7), some (.int x8), some (.int x9), some (.int x10), some (.int x11), none] [] I J z Φ := by
  refine Ev.blk (ops := [o0 (.aload_n 0) 1, o0 (.iload 4) 2, o0 (.iload 6) 2, o0 (.iload 7) 2, o0 (.iload 8) 2]) (G := True ∧ True ∧ True ∧ True ∧ True ∧ True) (by decide +kernel) ?_ ⟨trivial, trivial, trivial, trivial, trivial, trivial⟩ k
  rfl
theorem BX7_come_218 {d Z L : Nat} {xs : Nat → Int32} {z : Nat} {Φ : Out → T2 → T3 → Nat → Prop} {I : T2} {J : T3} {x1 : Int32} {x2 : Int32} {x3 : Int32} {x4 : Int32} {x5 : Int32} {x6 : Int32} {x7 : Int32} {x8 : Int32} {x9 : Int32} {x10 : Int32} {x11 : Int32}  
    (k : Ev d Z L xs mX7_come 293 [some (.ref 136), some (.int x1), some (.int x2), some (.int x3), some (.int x4), some (.int x5), some (.int x6), some (.int x7), some (.int x8), some (.int x9), some (.int x10), some (.int x11), none] [] I J z Φ) : Ev d Z L xs mX7_come 218 [some (.ref 136), some (.int x1), some (.int x2), some (.int x3), some (.int x4), some (.int x5), some (.int x6), some (.int x7), some (.int x8), some (.int x9), some (.int x10), some (.int x11), none] [] I J z Φ := by
  refine Ev.blk (ops := [oK (.goto 75) 3 293 0]) (G := True ∧ True) (by decide +kernel) ?_ ⟨trivial, trivial⟩ k
  rfl
theorem BX7_come_221 {d Z L : Nat} {xs : Nat → Int32} {z : Nat} {Φ : Out → T2 → T3 → Nat → Prop} {I : T2} {J : T3} {x1 : Int32} {x2 : Int32} {x3 : Int32} {x4 : Int32} {x5 : Int32} {x6 : Int32} {x7 : Int32} {x8 : Int32} {x9 : Int32} {x10 : Int32} {x11 : Int32}  
    (k : Ev d Z L xs mX7_come 223 [some (.ref 136), some (.int x1), some (.int x2), some (.int x3), some (.int x4), some (.int x5), some (.int x6), some (.int x7), some (.int x8), some (.int x9), some (.int x10), some (.int x11), none] [.int 1, .int x3] I J z Φ) : Ev d Z L xs mX7_come 221 [some (.ref 136), some (.int x1), some (.int x2), some (.int x3), some (.int x4), some (.int x5), some (.int x6), some (.int x7), some (.int x8), some (.int x9), some (.int x10), some (.int x11), none] [] I J z Φ := by
  refine Ev.blk (ops := [o0 (.iload_n 3) 1, oI (.iconst 1) 1 1]) (G := True ∧ True ∧ True) (by decide +kernel) ?_ ⟨trivial, trivial, trivial⟩ k
  rfl
theorem BX7_come_226 {d Z L : Nat} {xs : Nat → Int32} {z : Nat} {Φ : Out → T2 → T3 → Nat → Prop} {I : T2} {J : T3} {x1 : Int32} {x2 : Int32} {x3 : Int32} {x4 : Int32} {x5 : Int32} {x6 : Int32} {x7 : Int32} {x8 : Int32} {x9 : Int32} {x10 : Int32} {x11 : Int32}  
    (k : Ev d Z L xs mX7_come 232 [some (.ref 136), some (.int x1), some (.int x2), some (.int x3), some (.int x4), some (.int x5), some (.int x6), some (.int x7), some (.int x8), some (.int x9), some (.int x10), some (.int x11), none] [.int (I 136 8), .int x6] I J z Φ) : Ev d Z L xs mX7_come 226 [some (.ref 136), some (.int x1), some (.int x2), some (.int x3), some (.int x4), some (.int x5), some (.int x6), some (.int x7), some (.int x8), some (.int x9), some (.int x10), some (.int x11), none] [] I J z Φ := by
  refine Ev.blk (ops := [o0 (.iload 6) 2, o0 (.aload_n 0) 1, oK (.getfield 106) 3 7 8]) (G := True ∧ True ∧ (kd 136 = 7) ∧ True) (by decide +kernel) ?_ ⟨trivial, trivial, (by decide), trivial⟩ k
  rfl
theorem BX7_come_235 {d Z L : Nat} {xs : Nat → Int32} {z : Nat} {Φ : Out → T2 → T3 → Nat → Prop} {I : T2} {J : T3} {x1 : Int32} {x2 : Int32} {x3 : Int32} {x4 : Int32} {x5 : Int32} {x6 : Int32} {x7 : Int32} {x8 : Int32} {x9 : Int32} {x10 : Int32} {x11 : Int32} {xs0 : Int32}  
    (k : Ev d Z L xs mX7_come 239 [some (.ref 136), some (.int x1), some (.int x2), some (.int x3), some (.int x4), some (.int x5), some (.int x6), some (.int x7), some (.int x8), some (.int x9), some (.int x10), some (.int x11), some (.int xs0)] [.int xs0] I J z Φ) : Ev d Z L xs mX7_come 235 [some (.ref 136), some (.int x1), some (.int x2), some (.int x3), some (.int x4), some (.int x5), some (.int x6), some (.int x7), some (.int x8), some (.int x9), some (.int x10), some (.int x11), none] [.int xs0] I J z Φ := by
  refine Ev.blk (ops := [o0 (.istore 12) 2, o0 (.iload 12) 2]) (G := True ∧ True ∧ True) (by decide +kernel) ?_ ⟨trivial, trivial, trivial⟩ k
  rfl
theorem BX7_come_242 {d Z L : Nat} {xs : Nat → Int32} {z : Nat} {Φ : Out → T2 → T3 → Nat → Prop} {I : T2} {J : T3} {x1 : Int32} {x2 : Int32} {x3 : Int32} {x4 : Int32} {x5 : Int32} {x6 : Int32} {x7 : Int32} {x8 : Int32} {x9 : Int32} {x10 : Int32} {x11 : Int32} {x12 : Int32}  (g1 : vp_in x12 3)
    (k : Ev d Z L xs mX7_come 254 [some (.ref 136), some (.int x1), some (.int x2), some (.int x3), some (.int x4), some (.int x5), some (.int x6), some (.int x7), some (.int x8), some (.int x9), some (.int x10), some (.int x11), some (.int x12)] [] (up2 I 137 x12.toNatClampNeg ((I 137 x12.toNatClampNeg) + x7)) J z Φ) : Ev d Z L xs mX7_come 242 [some (.ref 136), some (.int x1), some (.int x2), some (.int x3), some (.int x4), some (.int x5), some (.int x6), some (.int x7), some (.int x8), some (.int x9), some (.int x10), some (.int x11), some (.int x12)] [] I J z Φ := by
  refine Ev.blk (ops := [o0 (.aload_n 0) 1, oK (.getfield 7) 3 7 9, o0 (.iload 12) 2, o0 (.dup2) 1, o0 (.iaload) 1, o0 (.iload 7) 2, o0 (.iadd) 1, o0 (.iastore) 1]) (G := True ∧ (kd 136 = 7) ∧ True ∧ True ∧ (kd 137 = 8 ∧ vp_in x12 (ln 137)) ∧ True ∧ True ∧ (kd 137 = 8 ∧ vp_in x12 (ln 137)) ∧ True) (by decide +kernel) ?_ ⟨trivial, (by decide), trivial, trivial, ⟨(by decide), g1⟩, trivial, trivial, ⟨(by decide), g1⟩, trivial⟩ k
  rfl
theorem BX7_come_254 {d Z L : Nat} {xs : Nat → Int32} {z : Nat} {Φ : Out → T2 → T3 → Nat → Prop} {I : T2} {J : T3} {x1 : Int32} {x2 : Int32} {x3 : Int32} {x4 : Int32} {x5 : Int32} {x6 : Int32} {x7 : Int32} {x8 : Int32} {x9 : Int32} {x10 : Int32} {x11 : Int32} {x12 : Int32}  
    (k : Ev d Z L xs mX7_come 293 [some (.ref 136), some (.int x1), some (.int x2), some (.int x3), some (.int x4), some (.int x5), some (.int x6), some (.int x7), some (.int x8), some (.int x9), some (.int x10), some (.int x11), some (.int x12)] [] I J z Φ) : Ev d Z L xs mX7_come 254 [some (.ref 136), some (.int x1), some (.int x2), some (.int x3), some (.int x4), some (.int x5), some (.int x6), some (.int x7), some (.int x8), some (.int x9), some (.int x10), some (.int x11), some (.int x12)] [] I J z Φ := by
  refine Ev.blk (ops := [oK (.goto 39) 3 293 0]) (G := True ∧ True) (by decide +kernel) ?_ ⟨trivial, trivial⟩ k
  rfl
theorem BX7_come_257 {d Z L : Nat} {xs : Nat → Int32} {z : Nat} {Φ : Out → T2 → T3 → Nat → Prop} {I : T2} {J : T3} {x1 : Int32} {x2 : Int32} {x3 : Int32} {x4 : Int32} {x5 : Int32} {x6 : Int32} {x7 : Int32} {x8 : Int32} {x9 : Int32} {x10 : Int32} {x11 : Int32}  (g1 : vp_in x4 8)
    (k : Ev d Z L xs mX7_come 266 [some (.ref 136), some (.int x1), some (.int x2), some (.int x3), some (.int x4), some (.int x5), some (.int x6), some (.int x7), some (.int x8), some (.int x9), some (.int x10), some (.int x11), none] [.int (I 142 x4.toNatClampNeg), .int x6] I J z Φ) : Ev d Z L xs mX7_come 257 [some (.ref 136), some (.int x1), some (.int x2), some (.int x3), some (.int x4), some (.int x5), some (.int x6), some (.int x7), some (.int x8), some (.int x9), some (.int x10), some (.int x11), none] [] I J z Φ := by
  refine Ev.blk (ops := [o0 (.iload 6) 2, o0 (.aload_n 0) 1, oK (.getfield 26) 3 7 14, o0 (.iload 4) 2, o0 (.iaload) 1]) (G := True ∧ True ∧ (kd 136 = 7) ∧ True ∧ (kd 142 = 8 ∧ vp_in x4 (ln 142)) ∧ True) (by decide +kernel) ?_ ⟨trivial, trivial, (by decide), trivial, ⟨(by decide), g1⟩, trivial⟩ k
  rfl
theorem BX7_come_269 {d Z L : Nat} {xs : Nat → Int32} {z : Nat} {Φ : Out → T2 → T3 → Nat → Prop} {I : T2} {J : T3} {x1 : Int32} {x2 : Int32} {x3 : Int32} {x4 : Int32} {x5 : Int32} {x6 : Int32} {x7 : Int32} {x8 : Int32} {x9 : Int32} {x10 : Int32} {x11 : Int32} {xs0 : Int32}  
    (k : Ev d Z L xs mX7_come 273 [some (.ref 136), some (.int x1), some (.int x2), some (.int x3), some (.int x4), some (.int x5), some (.int x6), some (.int x7), some (.int x8), some (.int x9), some (.int x10), some (.int x11), some (.int xs0)] [.int xs0] I J z Φ) : Ev d Z L xs mX7_come 269 [some (.ref 136), some (.int x1), some (.int x2), some (.int x3), some (.int x4), some (.int x5), some (.int x6), some (.int x7), some (.int x8), some (.int x9), some (.int x10), some (.int x11), none] [.int xs0] I J z Φ := by
  refine Ev.blk (ops := [o0 (.istore 12) 2, o0 (.iload 12) 2]) (G := True ∧ True ∧ True) (by decide +kernel) ?_ ⟨trivial, trivial, trivial⟩ k
  rfl
theorem BX7_come_276 {d Z L : Nat} {xs : Nat → Int32} {z : Nat} {Φ : Out → T2 → T3 → Nat → Prop} {I : T2} {J : T3} {x1 : Int32} {x2 : Int32} {x3 : Int32} {x4 : Int32} {x5 : Int32} {x6 : Int32} {x7 : Int32} {x8 : Int32} {x9 : Int32} {x10 : Int32} {x11 : Int32} {x12 : Int32}  (g1 : vp_in ((3 * x4) + x12) 24)
    (k : Ev d Z L xs mX7_come 293 [some (.ref 136), some (.int x1), some (.int x2), some (.int x3), some (.int x4), some (.int x5), some (.int x6), some (.int x7), some (.int x8), some (.int x9), some (.int x10), some (.int x11), some (.int x12)] [] (up2 I 144 ((3 * x4) + x12).toNatClampNeg ((I 144 ((3 * x4) + x12).toNatClampNeg) + x7)) J z Φ) : Ev d Z L xs mX7_come 276 [some (.ref 136), some (.int x1), some (.int x2), some (.int x3), some (.int x4), some (.int x5), some (.int x6), some (.int x7), some (.int x8), some (.int x9), some (.int x10), some (.int x11), some (.int x12)] [] I J z Φ := by
  refine Ev.blk (ops := [o0 (.aload_n 0) 1, oK (.getfield 33) 3 7 16, oI (.iconst 3) 1 3, o0 (.iload 4) 2, o0 (.imul) 1, o0 (.iload 12) 2, o0 (.iadd) 1, o0 (.dup2) 1, o0 (.iaload) 1, o0 (.iload 7) 2, o0 (.iadd) 1, o0 (.iastore) 1]) (G := True ∧ (kd 136 = 7) ∧ True ∧ True ∧ True ∧ True ∧ True ∧ True ∧ (kd 144 = 8 ∧ vp_in ((3 * x4) + x12) (ln 144)) ∧ True ∧ True ∧ (kd 144 = 8 ∧ vp_in ((3 * x4) + x12) (ln 144)) ∧ True) (by decide +kernel) ?_ ⟨trivial, (by decide), trivial, trivial, trivial, trivial, trivial, trivial, ⟨(by decide), g1⟩, trivial, trivial, ⟨(by decide), g1⟩, trivial⟩ k
  rfl
theorem BX7_come_293 {d Z L : Nat} {xs : Nat → Int32} {z : Nat} {Φ : Out → T2 → T3 → Nat → Prop} {I : T2} {J : T3} {x1 : Int32} {x2 : Int32} {x3 : Int32} {x4 : Int32} {x5 : Int32} {x6 : Int32} {x7 : Int32} {x8 : Int32} {x9 : Int32} {x10 : Int32} {x11 : Int32}  
    (k : Ev d Z L xs mX7_come 296 [some (.ref 136), some (.int x1), some (.int x2), some (.int x3), some (.int x4), some (.int x5), some (.int x6), some (.int x7), some (.int x8), some (.int x9), some (.int x10), some (.int x11), none] [.int x9, .ref 136] I J z Φ) : Ev d Z L xs mX7_come 293 [some (.ref 136), some (.int x1), some (.int x2), some (.int x3), some (.int x4), some (.int x5), some (.int x6), some (.int x7), some (.int x8), some (.int x9), some (.int x10), some (.int x11), none] [] I J z Φ := by
  refine Ev.blk (ops := [o0 (.aload_n 0) 1, o0 (.iload 9) 2]) (G := True ∧ True ∧ True) (by decide +kernel) ?_ ⟨trivial, trivial, trivial⟩ k
  rfl
theorem BX7_come_299 {d Z L : Nat} {xs : Nat → Int32} {z : Nat} {Φ : Out → T2 → T3 → Nat → Prop} {I : T2} {J : T3} {x1 : Int32} {x2 : Int32} {x3 : Int32} {x4 : Int32} {x5 : Int32} {x6 : Int32} {x7 : Int32} {x8 : Int32} {x9 : Int32} {x10 : Int32} {x11 : Int32}  
    (k : Ev d Z L xs mX7_come 304 [some (.ref 136), some (.int x1), some (.int x2), some (.int x3), some (.int x4), some (.int x5), some (.int x6), some (.int x7), some (.int x8), some (.int x9), some (.int x10), some (.int x11), none] [.int 3, .ref 136] I J z Φ) : Ev d Z L xs mX7_come 299 [some (.ref 136), some (.int x1), some (.int x2), some (.int x3), some (.int x4), some (.int x5), some (.int x6), some (.int x7), some (.int x8), some (.int x9), some (.int x10), some (.int x11), none] [.ref 136] I J z Φ := by
  refine Ev.blk (ops := [oI (.iconst 3) 1 3, oK (.goto 4) 3 304 0]) (G := True ∧ True ∧ True) (by decide +kernel) ?_ ⟨trivial, trivial, trivial⟩ k
  rfl
theorem BX7_come_303 {d Z L : Nat} {xs : Nat → Int32} {z : Nat} {Φ : Out → T2 → T3 → Nat → Prop} {I : T2} {J : T3} {x1 : Int32} {x2 : Int32} {x3 : Int32} {x4 : Int32} {x5 : Int32} {x6 : Int32} {x7 : Int32} {x8 : Int32} {x9 : Int32} {x10 : Int32} {x11 : Int32}  
    (k : Ev d Z L xs mX7_come 304 [some (.ref 136), some (.int x1), some (.int x2), some (.int x3), some (.int x4), some (.int x5), some (.int x6), some (.int x7), some (.int x8), some (.int x9), some (.int x10), some (.int x11), none] [.int 4, .ref 136] I J z Φ) : Ev d Z L xs mX7_come 303 [some (.ref 136), some (.int x1), some (.int x2), some (.int x3), some (.int x4), some (.int x5), some (.int x6), some (.int x7), some (.int x8), some (.int x9), some (.int x10), some (.int x11), none] [.ref 136] I J z Φ := by
  refine Ev.blk (ops := [oI (.iconst 4) 1 4]) (G := True ∧ True) (by decide +kernel) ?_ ⟨trivial, trivial⟩ k
  rfl
theorem BX7_come_304 {d Z L : Nat} {xs : Nat → Int32} {z : Nat} {Φ : Out → T2 → T3 → Nat → Prop} {I : T2} {J : T3} {x1 : Int32} {x2 : Int32} {x3 : Int32} {x4 : Int32} {x5 : Int32} {x6 : Int32} {x7 : Int32} {x8 : Int32} {x9 : Int32} {x10 : Int32} {x11 : Int32} {xs1 : Int32}  (g1 : vp_in x10 16)
    (k : Ev d Z L xs mX7_come 316 [some (.ref 136), some (.int x1), some (.int x2), some (.int x3), some (.int x4), some (.int x5), some (.int x6), some (.int x7), some (.int x8), some (.int x9), some (.int x10), some (.int x11), none] [.int 0, .int 0, .int 0, .int (I 150 x10.toNatClampNeg), .int x4, .int xs1, .ref 136] I J z Φ) : Ev d Z L xs mX7_come 304 [some (.ref 136), some (.int x1), some (.int x2), some (.int x3), some (.int x4), some (.int x5), some (.int x6), some (.int x7), some (.int x8), some (.int x9), some (.int x10), some (.int x11), none] [.int xs1, .ref 136] I J z Φ := by
  refine Ev.blk (ops := [o0 (.iload 4) 2, o0 (.aload_n 0) 1, oK (.getfield 51) 3 7 22, o0 (.iload 10) 2, o0 (.iaload) 1, oI (.iconst 0) 1 0, oI (.iconst 0) 1 0, oI (.iconst 0) 1 0]) (G := True ∧ True ∧ (kd 136 = 7) ∧ True ∧ (kd 150 = 8 ∧ vp_in x10 (ln 150)) ∧ True ∧ True ∧ True ∧ True) (by decide +kernel) ?_ ⟨trivial, trivial, (by decide), trivial, ⟨(by decide), g1⟩, trivial, trivial, trivial, trivial⟩ k
  rfl
theorem BX7_come_319 {d Z L : Nat} {xs : Nat → Int32} {z : Nat} {Φ : Out → T2 → T3 → Nat → Prop} {I : T2} {J : T3} {x1 : Int32} {x2 : Int32} {x3 : Int32} {x4 : Int32} {x5 : Int32} {x6 : Int32} {x7 : Int32} {x8 : Int32} {x9 : Int32} {x10 : Int32} {x11 : Int32}  
    (k : Ev d Z L xs mX7_come 321 [some (.ref 136), some (.int x1), some (.int x2), some (.int x3), some (.int x4), some (.int x5), some (.int x6), some (.int x7), some (.int x8), some (.int x9), some (.int x10), some (.int x11), none] [.int x11] I J z Φ) : Ev d Z L xs mX7_come 319 [some (.ref 136), some (.int x1), some (.int x2), some (.int x3), some (.int x4), some (.int x5), some (.int x6), some (.int x7), some (.int x8), some (.int x9), some (.int x10), some (.int x11), none] [] I J z Φ := by
  refine Ev.blk (ops := [o0 (.iload 11) 2]) (G := True ∧ True) (by decide +kernel) ?_ ⟨trivial, trivial⟩ k
  rfl
theorem BX7_come_324 {d Z L : Nat} {xs : Nat → Int32} {z : Nat} {Φ : Out → T2 → T3 → Nat → Prop} {I : T2} {J : T3} {x1 : Int32} {x2 : Int32} {x3 : Int32} {x4 : Int32} {x5 : Int32} {x6 : Int32} {x7 : Int32} {x8 : Int32} {x9 : Int32} {x10 : Int32} {x11 : Int32}  
    (k : Ev d Z L xs mX7_come 329 [some (.ref 136), some (.int x1), some (.int x2), some (.int x3), some (.int x4), some (.int x5), some (.int x6), some (.int x7), some (.int x8), some (.int x9), some (.int x10), some (.int x11), none] [.int 1] I J z Φ) : Ev d Z L xs mX7_come 324 [some (.ref 136), some (.int x1), some (.int x2), some (.int x3), some (.int x4), some (.int x5), some (.int x6), some (.int x7), some (.int x8), some (.int x9), some (.int x10), some (.int x11), none] [] I J z Φ := by
  refine Ev.blk (ops := [oI (.iconst 1) 1 1, oK (.goto 4) 3 329 0]) (G := True ∧ True ∧ True) (by decide +kernel) ?_ ⟨trivial, trivial, trivial⟩ k
  rfl
theorem BX7_come_328 {d Z L : Nat} {xs : Nat → Int32} {z : Nat} {Φ : Out → T2 → T3 → Nat → Prop} {I : T2} {J : T3} {x1 : Int32} {x2 : Int32} {x3 : Int32} {x4 : Int32} {x5 : Int32} {x6 : Int32} {x7 : Int32} {x8 : Int32} {x9 : Int32} {x10 : Int32} {x11 : Int32}  
    (k : Ev d Z L xs mX7_come 329 [some (.ref 136), some (.int x1), some (.int x2), some (.int x3), some (.int x4), some (.int x5), some (.int x6), some (.int x7), some (.int x8), some (.int x9), some (.int x10), some (.int x11), none] [.int 0] I J z Φ) : Ev d Z L xs mX7_come 328 [some (.ref 136), some (.int x1), some (.int x2), some (.int x3), some (.int x4), some (.int x5), some (.int x6), some (.int x7), some (.int x8), some (.int x9), some (.int x10), some (.int x11), none] [] I J z Φ := by
  refine Ev.blk (ops := [oI (.iconst 0) 1 0]) (G := True ∧ True) (by decide +kernel) ?_ ⟨trivial, trivial⟩ k
  rfl
theorem BX7_remove_0 {d Z L : Nat} {xs : Nat → Int32} {z : Nat} {Φ : Out → T2 → T3 → Nat → Prop} {I : T2} {J : T3} {x1 : Int32}  
    (k : Ev d Z L xs mX7_remove 5 [some (.ref 136), some (.int x1), some (.int (6 * x1))] [] I J z Φ) : Ev d Z L xs mX7_remove 0 [some (.ref 136), some (.int x1), none] [] I J z Φ := by
  refine Ev.blk (ops := [oI (.bipush 6) 2 6, o0 (.iload_n 1) 1, o0 (.imul) 1, o0 (.istore_n 2) 1]) (G := True ∧ True ∧ True ∧ True ∧ True) (by decide +kernel) ?_ ⟨trivial, trivial, trivial, trivial, trivial⟩ k
  rfl
theorem BX7_remove_5 {d Z L : Nat} {xs : Nat → Int32} {z : Nat} {Φ : Out → T2 → T3 → Nat → Prop} {I : T2} {J : T3} {x1 : Int32} {x2 : Int32}  
    (k : Ev d Z L xs mX7_remove 15 [some (.ref 136), some (.int x1), some (.int x2)] [.int (6 * ((I 136 24) - 1)), .int x2] I J z Φ) : Ev d Z L xs mX7_remove 5 [some (.ref 136), some (.int x1), some (.int x2)] [] I J z Φ := by
  refine Ev.blk (ops := [o0 (.iload_n 2) 1, oI (.bipush 6) 2 6, o0 (.aload_n 0) 1, oK (.getfield 109) 3 7 24, oI (.iconst 1) 1 1, o0 (.isub) 1, o0 (.imul) 1]) (G := True ∧ True ∧ True ∧ (kd 136 = 7) ∧ True ∧ True ∧ True ∧ True) (by decide +kernel) ?_ ⟨trivial, trivial, trivial, (by decide), trivial, trivial, trivial, trivial⟩ k
  rfl
theorem BX7_remove_18 {d Z L : Nat} {xs : Nat → Int32} {z : Nat} {Φ : Out → T2 → T3 → Nat → Prop} {I : T2} {J : T3} {x1 : Int32} {x2 : Int32}  (g1 : vp_in (x2 + 6) 1200) (g2 : vp_in x2 1200)
    (k : Ev d Z L xs mX7_remove 5 [some (.ref 136), some (.int x1), some (.int (x2 + 1))] [] (up2 I 151 x2.toNatClampNeg (I 151 (x2 + 6).toNatClampNeg)) J z Φ) : Ev d Z L xs mX7_remove 18 [some (.ref 136), some (.int x1), some (.int x2)] [] I J z Φ := by
  refine Ev.blk (ops := [o0 (.aload_n 0) 1, oK (.getfield 54) 3 7 23, o0 (.iload_n 2) 1, o0 (.aload_n 0) 1, oK (.getfield 54) 3 7 23, o0 (.iload_n 2) 1, oI (.bipush 6) 2 6, o0 (.iadd) 1, o0 (.iaload) 1, o0 (.iastore) 1, oI (.iinc 2 1) 3 1, oK (.goto (-31)) 3 5 0]) (G := True ∧ (kd 136 = 7) ∧ True ∧ True ∧ (kd 136 = 7) ∧ True ∧ True ∧ True ∧ (kd 151 = 8 ∧ vp_in (x2 + 6) (ln 151)) ∧ (kd 151 = 8 ∧ vp_in x2 (ln 151)) ∧ True ∧ True ∧ True) (by decide +kernel) ?_ ⟨trivial, (by decide), trivial, trivial, (by decide), trivial, trivial, trivial, ⟨(by decide), g1⟩, ⟨(by decide), g2⟩, trivial, trivial, trivial⟩ k
  rfl
theorem BX7_remove_39 {d Z L : Nat} {xs : Nat → Int32} {z : Nat} {Φ : Out → T2 → T3 → Nat → Prop} {I : T2} {J : T3} {x1 : Int32} {x2 : Int32}  
    (k : Ev d Z L xs mX7_remove 49 [some (.ref 136), some (.int x1), some (.int x2)] [] (up2 I 136 24 ((I 136 24) - 1)) J z Φ) : Ev d Z L xs mX7_remove 39 [some (.ref 136), some (.int x1), some (.int x2)] [] I J z Φ := by
  refine Ev.blk (ops := [o0 (.aload_n 0) 1, o0 (.dup) 1, oK (.getfield 109) 3 7 24, oI (.iconst 1) 1 1, o0 (.isub) 1, oK (.putfield 109) 3 7 24]) (G := True ∧ True ∧ (kd 136 = 7) ∧ True ∧ True ∧ (kd 136 = 7) ∧ True) (by decide +kernel) ?_ ⟨trivial, trivial, (by decide), trivial, trivial, (by decide), trivial⟩ k
  rfl
theorem BX7_received_0 {d Z L : Nat} {xs : Nat → Int32} {z : Nat} {Φ : Out → T2 → T3 → Nat → Prop} {I : T2} {J : T3} {x1 : Int32} {x2 : Int32}  
    (k : Ev d Z L xs mX7_received 6 [some (.ref 136), some (.int x1), some (.int x2), some (.int (300 * x1)), none] [] I J z Φ) : Ev d Z L xs mX7_received 0 [some (.ref 136), some (.int x1), some (.int x2), none, none] [] I J z Φ := by
  refine Ev.blk (ops := [oI (.sipush 300) 3 300, o0 (.iload_n 1) 1, o0 (.imul) 1, o0 (.istore_n 3) 1]) (G := True ∧ True ∧ True ∧ True ∧ True) (by decide +kernel) ?_ ⟨trivial, trivial, trivial, trivial, trivial⟩ k
  rfl
theorem BX7_received_6 {d Z L : Nat} {xs : Nat → Int32} {z : Nat} {Φ : Out → T2 → T3 → Nat → Prop} {I : T2} {J : T3} {x1 : Int32} {x2 : Int32} {x3 : Int32}  (g1 : vp_in x1 16)
    (k : Ev d Z L xs mX7_received 12 [some (.ref 136), some (.int x1), some (.int x2), some (.int x3), none] [.int (I 148 x1.toNatClampNeg)] I J z Φ) : Ev d Z L xs mX7_received 6 [some (.ref 136), some (.int x1), some (.int x2), some (.int x3), none] [] I J z Φ := by
  refine Ev.blk (ops := [o0 (.aload_n 0) 1, oK (.getfield 45) 3 7 20, o0 (.iload_n 1) 1, o0 (.iaload) 1]) (G := True ∧ (kd 136 = 7) ∧ True ∧ (kd 148 = 8 ∧ vp_in x1 (ln 148)) ∧ True) (by decide +kernel) ?_ ⟨trivial, (by decide), trivial, ⟨(by decide), g1⟩, trivial⟩ k
  rfl
theorem BX7_received_15 {d Z L : Nat} {xs : Nat → Int32} {z : Nat} {Φ : Out → T2 → T3 → Nat → Prop} {I : T2} {J : T3} {x1 : Int32} {x2 : Int32} {x3 : Int32}  (g1 : vp_in (x3 + 2) 4800)
    (k : Ev d Z L xs mX7_received 24 [some (.ref 136), some (.int x1), some (.int x2), some (.int x3), none] [.int x2, .int (I 147 (x3 + 2).toNatClampNeg)] I J z Φ) : Ev d Z L xs mX7_received 15 [some (.ref 136), some (.int x1), some (.int x2), some (.int x3), none] [] I J z Φ := by
  refine Ev.blk (ops := [o0 (.aload_n 0) 1, oK (.getfield 42) 3 7 19, o0 (.iload_n 3) 1, oI (.iconst 2) 1 2, o0 (.iadd) 1, o0 (.iaload) 1, o0 (.iload_n 2) 1]) (G := True ∧ (kd 136 = 7) ∧ True ∧ True ∧ True ∧ (kd 147 = 8 ∧ vp_in (x3 + 2) (ln 147)) ∧ True ∧ True) (by decide +kernel) ?_ ⟨trivial, (by decide), trivial, trivial, trivial, ⟨(by decide), g1⟩, trivial, trivial⟩ k
  rfl
theorem BX7_received_27 {d Z L : Nat} {xs : Nat → Int32} {z : Nat} {Φ : Out → T2 → T3 → Nat → Prop} {I : T2} {J : T3} {x1 : Int32} {x2 : Int32} {x3 : Int32}  
    (k : Ev d Z L xs mX7_received 30 [some (.ref 136), some (.int x1), some (.int x2), some (.int x3), some (.int 0)] [] I J z Φ) : Ev d Z L xs mX7_received 27 [some (.ref 136), some (.int x1), some (.int x2), some (.int x3), none] [] I J z Φ := by
  refine Ev.blk (ops := [oI (.iconst 0) 1 0, o0 (.istore 4) 2]) (G := True ∧ True ∧ True) (by decide +kernel) ?_ ⟨trivial, trivial, trivial⟩ k
  rfl
theorem BX7_received_30 {d Z L : Nat} {xs : Nat → Int32} {z : Nat} {Φ : Out → T2 → T3 → Nat → Prop} {I : T2} {J : T3} {x1 : Int32} {x2 : Int32} {x3 : Int32} {x4 : Int32}  (g1 : vp_in x1 16)
    (k : Ev d Z L xs mX7_received 43 [some (.ref 136), some (.int x1), some (.int x2), some (.int x3), some (.int x4)] [.int (6 * ((I 148 x1.toNatClampNeg) - 1)), .int x4] I J z Φ) : Ev d Z L xs mX7_received 30 [some (.ref 136), some (.int x1), some (.int x2), some (.int x3), some (.int x4)] [] I J z Φ := by
  refine Ev.blk (ops := [o0 (.iload 4) 2, oI (.bipush 6) 2 6, o0 (.aload_n 0) 1, oK (.getfield 45) 3 7 20, o0 (.iload_n 1) 1, o0 (.iaload) 1, oI (.iconst 1) 1 1, o0 (.isub) 1, o0 (.imul) 1]) (G := True ∧ True ∧ True ∧ (kd 136 = 7) ∧ True ∧ (kd 148 = 8 ∧ vp_in x1 (ln 148)) ∧ True ∧ True ∧ True ∧ True) (by decide +kernel) ?_ ⟨trivial, trivial, trivial, (by decide), trivial, ⟨(by decide), g1⟩, trivial, trivial, trivial, trivial⟩ k
  rfl
theorem BX7_received_46 {d Z L : Nat} {xs : Nat → Int32} {z : Nat} {Φ : Out → T2 → T3 → Nat → Prop} {I : T2} {J : T3} {x1 : Int32} {x2 : Int32} {x3 : Int32} {x4 : Int32}  (g1 : vp_in ((x3 + 6) + x4) 4800) (g2 : vp_in (x3 + x4) 4800)
    (k : Ev d Z L xs mX7_received 30 [some (.ref 136), some (.int x1), some (.int x2), some (.int x3), some (.int (x4 + 1))] [] (up2 I 147 (x3 + x4).toNatClampNeg (I 147 ((x3 + 6) + x4).toNatClampNeg)) J z Φ) : Ev d Z L xs mX7_received 46 [some (.ref 136), some (.int x1), some (.int x2), some (.int x3), some (.int x4)] [] I J z Φ := by
  refine Ev.blk (ops := [o0 (.aload_n 0) 1, oK (.getfield 42) 3 7 19, o0 (.iload_n 3) 1, o0 (.iload 4) 2, o0 (.iadd) 1, o0 (.aload_n 0) 1, oK (.getfield 42) 3 7 19, o0 (.iload_n 3) 1, oI (.bipush 6) 2 6, o0 (.iadd) 1, o0 (.iload 4) 2, o0 (.iadd) 1, o0 (.iaload) 1, o0 (.iastore) 1, oI (.iinc 4 1) 3 1, oK (.goto (-40)) 3 30 0]) (G := True ∧ (kd 136 = 7) ∧ True ∧ True ∧ True ∧ True ∧ (kd 136 = 7) ∧ True ∧ True ∧ True ∧ True ∧ True ∧ (kd 147 = 8 ∧ vp_in ((x3 + 6) + x4) (ln 147)) ∧ (kd 147 = 8 ∧ vp_in (x3 + x4) (ln 147)) ∧ True ∧ True ∧ True) (by decide +kernel) ?_ ⟨trivial, (by decide), trivial, trivial, trivial, trivial, (by decide), trivial, trivial, trivial, trivial, trivial, ⟨(by decide), g1⟩, ⟨(by decide), g2⟩, trivial, trivial, trivial⟩ k
  rfl
theorem BX7_received_73 {d Z L : Nat} {xs : Nat → Int32} {z : Nat} {Φ : Out → T2 → T3 → Nat → Prop} {I : T2} {J : T3} {x1 : Int32} {x2 : Int32} {x3 : Int32} {x4 : Int32}  (g1 : vp_in x1 16)
    (k : Ev d Z L xs mX7_received 6 [some (.ref 136), some (.int x1), some (.int x2), some (.int x3), some (.int x4)] [] (up2 I 148 x1.toNatClampNeg ((I 148 x1.toNatClampNeg) - 1)) J z Φ) : Ev d Z L xs mX7_received 73 [some (.ref 136), some (.int x1), some (.int x2), some (.int x3), some (.int x4)] [] I J z Φ := by
  refine Ev.blk (ops := [o0 (.aload_n 0) 1, oK (.getfield 45) 3 7 20, o0 (.iload_n 1) 1, o0 (.dup2) 1, o0 (.iaload) 1, oI (.iconst 1) 1 1, o0 (.isub) 1, o0 (.iastore) 1, oK (.goto (-77)) 3 6 0]) (G := True ∧ (kd 136 = 7) ∧ True ∧ True ∧ (kd 148 = 8 ∧ vp_in x1 (ln 148)) ∧ True ∧ True ∧ (kd 148 = 8 ∧ vp_in x1 (ln 148)) ∧ True ∧ True) (by decide +kernel) ?_ ⟨trivial, (by decide), trivial, trivial, ⟨(by decide), g1⟩, trivial, trivial, ⟨(by decide), g1⟩, trivial, trivial⟩ k
  rfl
theorem BX7_plea_0 {d Z L : Nat} {xs : Nat → Int32} {z : Nat} {Φ : Out → T2 → T3 → Nat → Prop} {I : T2} {J : T3} {x1 : Int32} {x2 : Int32} {x3 : Int32} {x4 : Int32}  
    (k : Ev d Z L xs mX7_plea 5 [some (.ref 136), some (.int x1), some (.int x2), some (.int x3), some (.int x4), none, none] [.int (I 136 8), .int x2] I J z Φ) : Ev d Z L xs mX7_plea 0 [some (.ref 136), some (.int x1), some (.int x2), some (.int x3), some (.int x4), none, none] [] I J z Φ := by
  refine Ev.blk (ops := [o0 (.iload_n 2) 1, o0 (.aload_n 0) 1, oK (.getfield 106) 3 7 8]) (G := True ∧ True ∧ (kd 136 = 7) ∧ True) (by decide +kernel) ?_ ⟨trivial, trivial, (by decide), trivial⟩ k
  rfl
theorem BX7_plea_8 {d Z L : Nat} {xs : Nat → Int32} {z : Nat} {Φ : Out → T2 → T3 → Nat → Prop} {I : T2} {J : T3} {x1 : Int32} {x2 : Int32} {x3 : Int32} {x4 : Int32} {xs0 : Int32}  
    (k : Ev d Z L xs mX7_plea 12 [some (.ref 136), some (.int x1), some (.int x2), some (.int x3), some (.int x4), some (.int xs0), none] [.int xs0] I J z Φ) : Ev d Z L xs mX7_plea 8 [some (.ref 136), some (.int x1), some (.int x2), some (.int x3), some (.int x4), none, none] [.int xs0] I J z Φ := by
  refine Ev.blk (ops := [o0 (.istore 5) 2, o0 (.iload 5) 2]) (G := True ∧ True ∧ True) (by decide +kernel) ?_ ⟨trivial, trivial, trivial⟩ k
  rfl
theorem BX7_plea_16 {d Z L : Nat} {xs : Nat → Int32} {z : Nat} {Φ : Out → T2 → T3 → Nat → Prop} {I : T2} {J : T3} {x1 : Int32} {x2 : Int32} {x3 : Int32} {x4 : Int32} {x5 : Int32}  
    (k : Ev d Z L xs mX7_plea 20 [some (.ref 136), some (.int x1), some (.int x2), some (.int x3), some (.int x4), some (.int x5), none] [.int (I 136 6)] I J z Φ) : Ev d Z L xs mX7_plea 16 [some (.ref 136), some (.int x1), some (.int x2), some (.int x3), some (.int x4), some (.int x5), none] [] I J z Φ := by
  refine Ev.blk (ops := [o0 (.aload_n 0) 1, oK (.getfield 99) 3 7 6]) (G := True ∧ (kd 136 = 7) ∧ True) (by decide +kernel) ?_ ⟨trivial, (by decide), trivial⟩ k
  rfl
theorem BX7_plea_23 {d Z L : Nat} {xs : Nat → Int32} {z : Nat} {Φ : Out → T2 → T3 → Nat → Prop} {I : T2} {J : T3} {x1 : Int32} {x2 : Int32} {x3 : Int32} {x4 : Int32} {x5 : Int32}  (g1 : vp_in ((3 * x1) + x5) 24)
    (k : Ev d Z L xs mX7_plea 51 [some (.ref 136), some (.int x1), some (.int x2), some (.int x3), some (.int x4), some (.int x5), none] [] (up2 (up2 I 138 ((3 * x1) + x5).toNatClampNeg ((I 138 ((3 * x1) + x5).toNatClampNeg) + x3)) 139 ((3 * x1) + x5).toNatClampNeg x4) J z Φ) : Ev d Z L xs mX7_plea 23 [some (.ref 136), some (.int x1), some (.int x2), some (.int x3), some (.int x4), some (.int x5), none] [] I J z Φ := by
  refine Ev.blk (ops := [o0 (.aload_n 0) 1, oK (.getfield 13) 3 7 10, oI (.iconst 3) 1 3, o0 (.iload_n 1) 1, o0 (.imul) 1, o0 (.iload 5) 2, o0 (.iadd) 1, o0 (.dup2) 1, o0 (.iaload) 1, o0 (.iload_n 3) 1, o0 (.iadd) 1, o0 (.iastore) 1, o0 (.aload_n 0) 1, oK (.getfield 16) 3 7 11, oI (.iconst 3) 1 3, o0 (.iload_n 1) 1, o0 (.imul) 1, o0 (.iload 5) 2, o0 (.iadd) 1, o0 (.iload 4) 2, o0 (.iastore) 1]) (G := True ∧ (kd 136 = 7) ∧ True ∧ True ∧ True ∧ True ∧ True ∧ True ∧ (kd 138 = 8 ∧ vp_in ((3 * x1) + x5) (ln 138)) ∧ True ∧ True ∧ (kd 138 = 8 ∧ vp_in ((3 * x1) + x5) (ln 138)) ∧ True ∧ (kd 136 = 7) ∧ True ∧ True ∧ True ∧ True ∧ True ∧ True ∧ (kd 139 = 8 ∧ vp_in ((3 * x1) + x5) (ln 139)) ∧ True) (by decide +kernel) ?_ ⟨trivial, (by decide), trivial, trivial, trivial, trivial, trivial, trivial, ⟨(by decide), g1⟩, trivial, trivial, ⟨(by decide), g1⟩, trivial, (by decide), trivial, trivial, trivial, trivial, trivial, trivial, ⟨(by decide), g1⟩, trivial⟩ k
  rfl
theorem BX7_plea_52 {d Z L : Nat} {xs : Nat → Int32} {z : Nat} {Φ : Out → T2 → T3 → Nat → Prop} {I : T2} {J : T3} {x1 : Int32} {x2 : Int32} {x3 : Int32} {x4 : Int32} {x5 : Int32}  (g1 : vp_in x5 3)
    (k : Ev d Z L xs mX7_plea 60 [some (.ref 136), some (.int x1), some (.int x2), some (.int x3), some (.int x4), some (.int x5), none] [.int (I 137 x5.toNatClampNeg), .int x3] I J z Φ) : Ev d Z L xs mX7_plea 52 [some (.ref 136), some (.int x1), some (.int x2), some (.int x3), some (.int x4), some (.int x5), none] [] I J z Φ := by
  refine Ev.blk (ops := [o0 (.iload_n 3) 1, o0 (.aload_n 0) 1, oK (.getfield 7) 3 7 9, o0 (.iload 5) 2, o0 (.iaload) 1]) (G := True ∧ True ∧ (kd 136 = 7) ∧ True ∧ (kd 137 = 8 ∧ vp_in x5 (ln 137)) ∧ True) (by decide +kernel) ?_ ⟨trivial, trivial, (by decide), trivial, ⟨(by decide), g1⟩, trivial⟩ k
  rfl
theorem BX7_plea_63 {d Z L : Nat} {xs : Nat → Int32} {z : Nat} {Φ : Out → T2 → T3 → Nat → Prop} {I : T2} {J : T3} {x1 : Int32} {x2 : Int32} {x3 : Int32} {x4 : Int32} {x5 : Int32}  
    (k : Ev d Z L xs mX7_plea 74 [some (.ref 136), some (.int x1), some (.int x2), some (.int x3), some (.int x4), some (.int x5), none] [.int x3] I J z Φ) : Ev d Z L xs mX7_plea 63 [some (.ref 136), some (.int x1), some (.int x2), some (.int x3), some (.int x4), some (.int x5), none] [] I J z Φ := by
  refine Ev.blk (ops := [o0 (.iload_n 3) 1, oK (.goto 10) 3 74 0]) (G := True ∧ True ∧ True) (by decide +kernel) ?_ ⟨trivial, trivial, trivial⟩ k
  rfl
theorem BX7_plea_67 {d Z L : Nat} {xs : Nat → Int32} {z : Nat} {Φ : Out → T2 → T3 → Nat → Prop} {I : T2} {J : T3} {x1 : Int32} {x2 : Int32} {x3 : Int32} {x4 : Int32} {x5 : Int32}  (g1 : vp_in x5 3)
    (k : Ev d Z L xs mX7_plea 74 [some (.ref 136), some (.int x1), some (.int x2), some (.int x3), some (.int x4), some (.int x5), none] [.int (I 137 x5.toNatClampNeg)] I J z Φ) : Ev d Z L xs mX7_plea 67 [some (.ref 136), some (.int x1), some (.int x2), some (.int x3), some (.int x4), some (.int x5), none] [] I J z Φ := by
  refine Ev.blk (ops := [o0 (.aload_n 0) 1, oK (.getfield 7) 3 7 9, o0 (.iload 5) 2, o0 (.iaload) 1]) (G := True ∧ (kd 136 = 7) ∧ True ∧ (kd 137 = 8 ∧ vp_in x5 (ln 137)) ∧ True) (by decide +kernel) ?_ ⟨trivial, (by decide), trivial, ⟨(by decide), g1⟩, trivial⟩ k
  rfl
theorem BX7_plea_74 {d Z L : Nat} {xs : Nat → Int32} {z : Nat} {Φ : Out → T2 → T3 → Nat → Prop} {I : T2} {J : T3} {x1 : Int32} {x2 : Int32} {x3 : Int32} {x4 : Int32} {x5 : Int32} {xs0 : Int32}  
    (k : Ev d Z L xs mX7_plea 78 [some (.ref 136), some (.int x1), some (.int x2), some (.int x3), some (.int x4), some (.int x5), some (.int xs0)] [.int xs0] I J z Φ) : Ev d Z L xs mX7_plea 74 [some (.ref 136), some (.int x1), some (.int x2), some (.int x3), some (.int x4), some (.int x5), none] [.int xs0] I J z Φ := by
  refine Ev.blk (ops := [o0 (.istore 6) 2, o0 (.iload 6) 2]) (G := True ∧ True ∧ True) (by decide +kernel) ?_ ⟨trivial, trivial, trivial⟩ k
  rfl
theorem BX7_plea_81 {d Z L : Nat} {xs : Nat → Int32} {z : Nat} {Φ : Out → T2 → T3 → Nat → Prop} {I : T2} {J : T3} {x1 : Int32} {x2 : Int32} {x3 : Int32} {x4 : Int32} {x5 : Int32} {x6 : Int32}  
    (k : Ev d Z L xs mX7_plea 86 [some (.ref 136), some (.int x1), some (.int x2), some (.int x3), some (.int x4), some (.int x5), some (.int x6)] [.int (8 + x1), .ref 136] I J z Φ) : Ev d Z L xs mX7_plea 81 [some (.ref 136), some (.int x1), some (.int x2), some (.int x3), some (.int x4), some (.int x5), some (.int x6)] [] I J z Φ := by
  refine Ev.blk (ops := [o0 (.aload_n 0) 1, oI (.bipush 8) 2 8, o0 (.iload_n 1) 1, o0 (.iadd) 1]) (G := True ∧ True ∧ True ∧ True ∧ True) (by decide +kernel) ?_ ⟨trivial, trivial, trivial, trivial, trivial⟩ k
  rfl
theorem BX7_plea_92 {d Z L : Nat} {xs : Nat → Int32} {z : Nat} {Φ : Out → T2 → T3 → Nat → Prop} {I : T2} {J : T3} {x1 : Int32} {x2 : Int32} {x3 : Int32} {x4 : Int32} {x5 : Int32} {x6 : Int32}  (g1 : vp_in x5 3)
    (k : Ev d Z L xs mX7_plea 115 [some (.ref 136), some (.int x1), some (.int x2), some (.int x3), some (.int x4), some (.int x5), some (.int x6)] [.int 0, .int x6, .int x2, .int x1, .int 2, .int (8 + x1), .ref 136] (up2 I 137 x5.toNatClampNeg ((I 137 x5.toNatClampNeg) - x6)) J z Φ) : Ev d Z L xs mX7_plea 92 [some (.ref 136), some (.int x1), some (.int x2), some (.int x3), some (.int x4), some (.int x5), some (.int x6)] [] I J z Φ := by
  refine Ev.blk (ops := [o0 (.aload_n 0) 1, oK (.getfield 7) 3 7 9, o0 (.iload 5) 2, o0 (.dup2) 1, o0 (.iaload) 1, o0 (.iload 6) 2, o0 (.isub) 1, o0 (.iastore) 1, o0 (.aload_n 0) 1, oI (.bipush 8) 2 8, o0 (.iload_n 1) 1, o0 (.iadd) 1, oI (.iconst 2) 1 2, o0 (.iload_n 1) 1, o0 (.iload_n 2) 1, o0 (.iload 6) 2, oI (.iconst 0) 1 0]) (G := True ∧ (kd 136 = 7) ∧ True ∧ True ∧ (kd 137 = 8 ∧ vp_in x5 (ln 137)) ∧ True ∧ True ∧ (kd 137 = 8 ∧ vp_in x5 (ln 137)) ∧ True ∧ True ∧ True ∧ True ∧ True ∧ True ∧ True ∧ True ∧ True ∧ True) (by decide +kernel) ?_ ⟨trivial, (by decide), trivial, trivial, ⟨(by decide), g1⟩, trivial, trivial, ⟨(by decide), g1⟩, trivial, trivial, trivial, trivial, trivial, trivial, trivial, trivial, trivial, trivial⟩ k
  rfl
theorem BX7_deliverAll_0 {d Z L : Nat} {xs : Nat → Int32} {z : Nat} {Φ : Out → T2 → T3 → Nat → Prop} {I : T2} {J : T3} {x1 : Int32}  
    (k : Ev d Z L xs mX7_deliverAll 2 [some (.ref 136), some (.int x1), none] [.int x1, .ref 136] I J z Φ) : Ev d Z L xs mX7_deliverAll 0 [some (.ref 136), some (.int x1), none] [] I J z Φ := by
  refine Ev.blk (ops := [o0 (.aload_n 0) 1, o0 (.iload_n 1) 1]) (G := True ∧ True ∧ True) (by decide +kernel) ?_ ⟨trivial, trivial, trivial⟩ k
  rfl
theorem BX7_deliverAll_5 {d Z L : Nat} {xs : Nat → Int32} {z : Nat} {Φ : Out → T2 → T3 → Nat → Prop} {I : T2} {J : T3} {x1 : Int32}  
    (k : Ev d Z L xs mX7_deliverAll 9 [some (.ref 136), some (.int x1), none] [.int 1000, .int x1, .ref 136] I J z Φ) : Ev d Z L xs mX7_deliverAll 5 [some (.ref 136), some (.int x1), none] [.ref 136] I J z Φ := by
  refine Ev.blk (ops := [o0 (.iload_n 1) 1, oI (.sipush 1000) 3 1000]) (G := True ∧ True ∧ True) (by decide +kernel) ?_ ⟨trivial, trivial, trivial⟩ k
  rfl
theorem BX7_deliverAll_12 {d Z L : Nat} {xs : Nat → Int32} {z : Nat} {Φ : Out → T2 → T3 → Nat → Prop} {I : T2} {J : T3} {x1 : Int32}  
    (k : Ev d Z L xs mX7_deliverAll 17 [some (.ref 136), some (.int x1), none] [.int 0, .ref 136] I J z Φ) : Ev d Z L xs mX7_deliverAll 12 [some (.ref 136), some (.int x1), none] [.ref 136] I J z Φ := by
  refine Ev.blk (ops := [oI (.iconst 0) 1 0, oK (.goto 4) 3 17 0]) (G := True ∧ True ∧ True) (by decide +kernel) ?_ ⟨trivial, trivial, trivial⟩ k
  rfl
theorem BX7_deliverAll_16 {d Z L : Nat} {xs : Nat → Int32} {z : Nat} {Φ : Out → T2 → T3 → Nat → Prop} {I : T2} {J : T3} {x1 : Int32}  
    (k : Ev d Z L xs mX7_deliverAll 17 [some (.ref 136), some (.int x1), none] [.int 1, .ref 136] I J z Φ) : Ev d Z L xs mX7_deliverAll 16 [some (.ref 136), some (.int x1), none] [.ref 136] I J z Φ := by
  refine Ev.blk (ops := [oI (.iconst 1) 1 1]) (G := True ∧ True) (by decide +kernel) ?_ ⟨trivial, trivial⟩ k
  rfl
theorem BX7_deliverAll_17 {d Z L : Nat} {xs : Nat → Int32} {z : Nat} {Φ : Out → T2 → T3 → Nat → Prop} {I : T2} {J : T3} {x1 : Int32} {xs1 : Int32}  
    (k : Ev d Z L xs mX7_deliverAll 22 [some (.ref 136), some (.int x1), some (.int 0)] [] (up2 I 136 0 xs1) J z Φ) : Ev d Z L xs mX7_deliverAll 17 [some (.ref 136), some (.int x1), none] [.int xs1, .ref 136] I J z Φ := by
  refine Ev.blk (ops := [oK (.putfield 79) 3 7 0, oI (.iconst 0) 1 0, o0 (.istore_n 2) 1]) (G := (kd 136 = 7) ∧ True ∧ True ∧ True) (by decide +kernel) ?_ ⟨(by decide), trivial, trivial, trivial⟩ k
  rfl
theorem BX7_deliverAll_22 {d Z L : Nat} {xs : Nat → Int32} {z : Nat} {Φ : Out → T2 → T3 → Nat → Prop} {I : T2} {J : T3} {x1 : Int32} {x2 : Int32}  
    (k : Ev d Z L xs mX7_deliverAll 26 [some (.ref 136), some (.int x1), some (.int x2)] [.int (I 136 0)] I J z Φ) : Ev d Z L xs mX7_deliverAll 22 [some (.ref 136), some (.int x1), some (.int x2)] [] I J z Φ := by
  refine Ev.blk (ops := [o0 (.aload_n 0) 1, oK (.getfield 79) 3 7 0]) (G := True ∧ (kd 136 = 7) ∧ True) (by decide +kernel) ?_ ⟨trivial, (by decide), trivial⟩ k
  rfl
theorem BX7_deliverAll_29 {d Z L : Nat} {xs : Nat → Int32} {z : Nat} {Φ : Out → T2 → T3 → Nat → Prop} {I : T2} {J : T3} {x1 : Int32} {x2 : Int32}  
    (k : Ev d Z L xs mX7_deliverAll 31 [some (.ref 136), some (.int x1), some (.int x2)] [.int x1, .int x2] I J z Φ) : Ev d Z L xs mX7_deliverAll 29 [some (.ref 136), some (.int x1), some (.int x2)] [] I J z Φ := by
  refine Ev.blk (ops := [o0 (.iload_n 2) 1, o0 (.iload_n 1) 1]) (G := True ∧ True ∧ True) (by decide +kernel) ?_ ⟨trivial, trivial, trivial⟩ k
  rfl
theorem BX7_deliverAll_34 {d Z L : Nat} {xs : Nat → Int32} {z : Nat} {Φ : Out → T2 → T3 → Nat → Prop} {I : T2} {J : T3} {x1 : Int32} {x2 : Int32}  
    (k : Ev d Z L xs mX7_deliverAll 38 [some (.ref 136), some (.int x1), some (.int x2)] [.int (I 136 24)] I J z Φ) : Ev d Z L xs mX7_deliverAll 34 [some (.ref 136), some (.int x1), some (.int x2)] [] I J z Φ := by
  refine Ev.blk (ops := [o0 (.aload_n 0) 1, oK (.getfield 109) 3 7 24]) (G := True ∧ (kd 136 = 7) ∧ True) (by decide +kernel) ?_ ⟨trivial, (by decide), trivial⟩ k
  rfl
theorem BX7_deliverAll_41 {d Z L : Nat} {xs : Nat → Int32} {z : Nat} {Φ : Out → T2 → T3 → Nat → Prop} {I : T2} {J : T3} {x1 : Int32} {x2 : Int32}  
    (k : Ev d Z L xs mX7_deliverAll 43 [some (.ref 136), some (.int x1), some (.int x2)] [.int 0, .ref 136] I J z Φ) : Ev d Z L xs mX7_deliverAll 41 [some (.ref 136), some (.int x1), some (.int x2)] [] I J z Φ := by
  refine Ev.blk (ops := [o0 (.aload_n 0) 1, oI (.iconst 0) 1 0]) (G := True ∧ True ∧ True) (by decide +kernel) ?_ ⟨trivial, trivial, trivial⟩ k
  rfl
theorem BX7_deliverAll_46 {d Z L : Nat} {xs : Nat → Int32} {z : Nat} {Φ : Out → T2 → T3 → Nat → Prop} {I : T2} {J : T3} {x1 : Int32} {x2 : Int32} {xs0 : Int32}  
    (k : Ev d Z L xs mX7_deliverAll 22 [some (.ref 136), some (.int x1), some (.int (x2 + 1))] [] I J z Φ) : Ev d Z L xs mX7_deliverAll 46 [some (.ref 136), some (.int x1), some (.int x2)] [.int xs0] I J z Φ := by
  refine Ev.blk (ops := [o0 (.pop) 1, oI (.iinc 2 1) 3 1, oK (.goto (-28)) 3 22 0]) (G := True ∧ True ∧ True ∧ True) (by decide +kernel) ?_ ⟨trivial, trivial, trivial, trivial⟩ k
  rfl
theorem BX7_deliverAll_53 {d Z L : Nat} {xs : Nat → Int32} {z : Nat} {Φ : Out → T2 → T3 → Nat → Prop} {I : T2} {J : T3} {x1 : Int32} {x2 : Int32}  
    (k : Ev d Z L xs mX7_deliverAll 54 [some (.ref 136), some (.int x1), some (.int x2)] [.int x2] I J z Φ) : Ev d Z L xs mX7_deliverAll 53 [some (.ref 136), some (.int x1), some (.int x2)] [] I J z Φ := by
  refine Ev.blk (ops := [o0 (.iload_n 2) 1]) (G := True ∧ True) (by decide +kernel) ?_ ⟨trivial, trivial⟩ k
  rfl
theorem BX7_lose_0 {d Z L : Nat} {xs : Nat → Int32} {z : Nat} {Φ : Out → T2 → T3 → Nat → Prop} {I : T2} {J : T3} {x1 : Int32}  
    (k : Ev d Z L xs mX7_lose 3 [some (.ref 136), some (.int x1)] [.int x1, .ref 136, .ref 136] I J z Φ) : Ev d Z L xs mX7_lose 0 [some (.ref 136), some (.int x1)] [] I J z Φ := by
  refine Ev.blk (ops := [o0 (.aload_n 0) 1, o0 (.aload_n 0) 1, o0 (.iload_n 1) 1]) (G := True ∧ True ∧ True ∧ True) (by decide +kernel) ?_ ⟨trivial, trivial, trivial, trivial⟩ k
  rfl
theorem BX7_lose_9 {d Z L : Nat} {xs : Nat → Int32} {z : Nat} {Φ : Out → T2 → T3 → Nat → Prop} {I : T2} {J : T3} {x1 : Int32}  
    (k : Ev d Z L xs mX7_lose 14 [some (.ref 136), some (.int x1)] [.int 0, .ref 136] I J z Φ) : Ev d Z L xs mX7_lose 9 [some (.ref 136), some (.int x1)] [.ref 136] I J z Φ := by
  refine Ev.blk (ops := [oI (.iconst 0) 1 0, oK (.goto 4) 3 14 0]) (G := True ∧ True ∧ True) (by decide +kernel) ?_ ⟨trivial, trivial, trivial⟩ k
  rfl
theorem BX7_lose_13 {d Z L : Nat} {xs : Nat → Int32} {z : Nat} {Φ : Out → T2 → T3 → Nat → Prop} {I : T2} {J : T3} {x1 : Int32}  
    (k : Ev d Z L xs mX7_lose 14 [some (.ref 136), some (.int x1)] [.int 1, .ref 136] I J z Φ) : Ev d Z L xs mX7_lose 13 [some (.ref 136), some (.int x1)] [.ref 136] I J z Φ := by
  refine Ev.blk (ops := [oI (.iconst 1) 1 1]) (G := True ∧ True) (by decide +kernel) ?_ ⟨trivial, trivial⟩ k
  rfl
theorem BX7_lose_14 {d Z L : Nat} {xs : Nat → Int32} {z : Nat} {Φ : Out → T2 → T3 → Nat → Prop} {I : T2} {J : T3} {x1 : Int32} {xs1 : Int32}  
    (k : Ev d Z L xs mX7_lose 21 [some (.ref 136), some (.int x1)] [.int ((up2 I 136 0 xs1) 136 0)] (up2 I 136 0 xs1) J z Φ) : Ev d Z L xs mX7_lose 14 [some (.ref 136), some (.int x1)] [.int xs1, .ref 136] I J z Φ := by
  refine Ev.blk (ops := [oK (.putfield 79) 3 7 0, o0 (.aload_n 0) 1, oK (.getfield 79) 3 7 0]) (G := (kd 136 = 7) ∧ True ∧ (kd 136 = 7) ∧ True) (by decide +kernel) ?_ ⟨(by decide), trivial, (by decide), trivial⟩ k
  rfl
theorem BX7_lose_24 {d Z L : Nat} {xs : Nat → Int32} {z : Nat} {Φ : Out → T2 → T3 → Nat → Prop} {I : T2} {J : T3} {x1 : Int32}  
    (k : Ev d Z L xs mX7_lose 26 [some (.ref 136), some (.int x1)] [.int x1, .ref 136] I J z Φ) : Ev d Z L xs mX7_lose 24 [some (.ref 136), some (.int x1)] [] I J z Φ := by
  refine Ev.blk (ops := [o0 (.aload_n 0) 1, o0 (.iload_n 1) 1]) (G := True ∧ True ∧ True) (by decide +kernel) ?_ ⟨trivial, trivial, trivial⟩ k
  rfl
theorem BX7_twice_0 {d Z L : Nat} {xs : Nat → Int32} {z : Nat} {Φ : Out → T2 → T3 → Nat → Prop} {I : T2} {J : T3} {x1 : Int32}  
    (k : Ev d Z L xs mX7_twice 3 [some (.ref 136), some (.int x1), none] [.int x1, .ref 136, .ref 136] I J z Φ) : Ev d Z L xs mX7_twice 0 [some (.ref 136), some (.int x1), none] [] I J z Φ := by
  refine Ev.blk (ops := [o0 (.aload_n 0) 1, o0 (.aload_n 0) 1, o0 (.iload_n 1) 1]) (G := True ∧ True ∧ True ∧ True) (by decide +kernel) ?_ ⟨trivial, trivial, trivial, trivial⟩ k
  rfl
theorem BX7_twice_9 {d Z L : Nat} {xs : Nat → Int32} {z : Nat} {Φ : Out → T2 → T3 → Nat → Prop} {I : T2} {J : T3} {x1 : Int32}  
    (k : Ev d Z L xs mX7_twice 28 [some (.ref 136), some (.int x1), none] [.int 1, .ref 136] I J z Φ) : Ev d Z L xs mX7_twice 9 [some (.ref 136), some (.int x1), none] [.ref 136] I J z Φ := by
  refine Ev.blk (ops := [oI (.iconst 1) 1 1, oK (.goto 18) 3 28 0]) (G := True ∧ True ∧ True) (by decide +kernel) ?_ ⟨trivial, trivial, trivial⟩ k
  rfl
theorem BX7_twice_13 {d Z L : Nat} {xs : Nat → Int32} {z : Nat} {Φ : Out → T2 → T3 → Nat → Prop} {I : T2} {J : T3} {x1 : Int32}  
    (k : Ev d Z L xs mX7_twice 20 [some (.ref 136), some (.int x1), none] [.int 200, .int (I 136 24), .ref 136] I J z Φ) : Ev d Z L xs mX7_twice 13 [some (.ref 136), some (.int x1), none] [.ref 136] I J z Φ := by
  refine Ev.blk (ops := [o0 (.aload_n 0) 1, oK (.getfield 109) 3 7 24, oI (.sipush 200) 3 200]) (G := True ∧ (kd 136 = 7) ∧ True ∧ True) (by decide +kernel) ?_ ⟨trivial, (by decide), trivial, trivial⟩ k
  rfl
theorem BX7_twice_23 {d Z L : Nat} {xs : Nat → Int32} {z : Nat} {Φ : Out → T2 → T3 → Nat → Prop} {I : T2} {J : T3} {x1 : Int32}  
    (k : Ev d Z L xs mX7_twice 28 [some (.ref 136), some (.int x1), none] [.int 2, .ref 136] I J z Φ) : Ev d Z L xs mX7_twice 23 [some (.ref 136), some (.int x1), none] [.ref 136] I J z Φ := by
  refine Ev.blk (ops := [oI (.iconst 2) 1 2, oK (.goto 4) 3 28 0]) (G := True ∧ True ∧ True) (by decide +kernel) ?_ ⟨trivial, trivial, trivial⟩ k
  rfl
theorem BX7_twice_27 {d Z L : Nat} {xs : Nat → Int32} {z : Nat} {Φ : Out → T2 → T3 → Nat → Prop} {I : T2} {J : T3} {x1 : Int32}  
    (k : Ev d Z L xs mX7_twice 28 [some (.ref 136), some (.int x1), none] [.int 0, .ref 136] I J z Φ) : Ev d Z L xs mX7_twice 27 [some (.ref 136), some (.int x1), none] [.ref 136] I J z Φ := by
  refine Ev.blk (ops := [oI (.iconst 0) 1 0]) (G := True ∧ True) (by decide +kernel) ?_ ⟨trivial, trivial⟩ k
  rfl
theorem BX7_twice_28 {d Z L : Nat} {xs : Nat → Int32} {z : Nat} {Φ : Out → T2 → T3 → Nat → Prop} {I : T2} {J : T3} {x1 : Int32} {xs1 : Int32}  
    (k : Ev d Z L xs mX7_twice 35 [some (.ref 136), some (.int x1), none] [.int ((up2 I 136 0 xs1) 136 0)] (up2 I 136 0 xs1) J z Φ) : Ev d Z L xs mX7_twice 28 [some (.ref 136), some (.int x1), none] [.int xs1, .ref 136] I J z Φ := by
  refine Ev.blk (ops := [oK (.putfield 79) 3 7 0, o0 (.aload_n 0) 1, oK (.getfield 79) 3 7 0]) (G := (kd 136 = 7) ∧ True ∧ (kd 136 = 7) ∧ True) (by decide +kernel) ?_ ⟨(by decide), trivial, (by decide), trivial⟩ k
  rfl
theorem BX7_twice_38 {d Z L : Nat} {xs : Nat → Int32} {z : Nat} {Φ : Out → T2 → T3 → Nat → Prop} {I : T2} {J : T3} {x1 : Int32}  (g1 : vp_in (6 * x1) 1200) (g2 : vp_in ((6 * x1) + 1) 1200) (g3 : vp_in ((6 * x1) + 2) 1200) (g4 : vp_in ((6 * x1) + 3) 1200) (g5 : vp_in ((6 * x1) + 4) 1200) (g6 : vp_in ((6 * x1) + 5) 1200)
    (k : Ev d Z L xs mX7_twice 90 [some (.ref 136), some (.int x1), some (.int (6 * x1))] [.int (I 151 ((6 * x1) + 5).toNatClampNeg), .int (I 151 ((6 * x1) + 4).toNatClampNeg), .int (I 151 ((6 * x1) + 3).toNatClampNeg), .int (I 151 ((6 * x1) + 2).toNatClampNeg), .int (I 151 ((6 * x1) + 1).toNatClampNeg), .int (I 151 (6 * x1).toNatClampNeg), .ref 136] I J z Φ) : Ev d Z L xs mX7_twice 38 [some (.ref 136), some (.int x1), none] [] I J z Φ := by
  refine Ev.blk (ops := [oI (.bipush 6) 2 6, o0 (.iload_n 1) 1, o0 (.imul) 1, o0 (.istore_n 2) 1, o0 (.aload_n 0) 1, o0 (.aload_n 0) 1, oK (.getfield 54) 3 7 23, o0 (.iload_n 2) 1, o0 (.iaload) 1, o0 (.aload_n 0) 1, oK (.getfield 54) 3 7 23, o0 (.iload_n 2) 1, oI (.iconst 1) 1 1, o0 (.iadd) 1, o0 (.iaload) 1, o0 (.aload_n 0) 1, oK (.getfield 54) 3 7 23, o0 (.iload_n 2) 1, oI (.iconst 2) 1 2, o0 (.iadd) 1, o0 (.iaload) 1, o0 (.aload_n 0) 1, oK (.getfield 54) 3 7 23, o0 (.iload_n 2) 1, oI (.iconst 3) 1 3, o0 (.iadd) 1, o0 (.iaload) 1, o0 (.aload_n 0) 1, oK (.getfield 54) 3 7 23, o0 (.iload_n 2) 1, oI (.iconst 4) 1 4, o0 (.iadd) 1, o0 (.iaload) 1, o0 (.aload_n 0) 1, oK (.getfield 54) 3 7 23, o0 (.iload_n 2) 1, oI (.iconst 5) 1 5, o0 (.iadd) 1, o0 (.iaload) 1]) (G := True ∧ True ∧ True ∧ True ∧ True ∧ True ∧ (kd 136 = 7) ∧ True ∧ (kd 151 = 8 ∧ vp_in (6 * x1) (ln 151)) ∧ True ∧ (kd 136 = 7) ∧ True ∧ True ∧ True ∧ (kd 151 = 8 ∧ vp_in ((6 * x1) + 1) (ln 151)) ∧ True ∧ (kd 136 = 7) ∧ True ∧ True ∧ True ∧ (kd 151 = 8 ∧ vp_in ((6 * x1) + 2) (ln 151)) ∧ True ∧ (kd 136 = 7) ∧ True ∧ True ∧ True ∧ (kd 151 = 8 ∧ vp_in ((6 * x1) + 3) (ln 151)) ∧ True ∧ (kd 136 = 7) ∧ True ∧ True ∧ True ∧ (kd 151 = 8 ∧ vp_in ((6 * x1) + 4) (ln 151)) ∧ True ∧ (kd 136 = 7) ∧ True ∧ True ∧ True ∧ (kd 151 = 8 ∧ vp_in ((6 * x1) + 5) (ln 151)) ∧ True) (by decide +kernel) ?_ ⟨trivial, trivial, trivial, trivial, trivial, trivial, (by decide), trivial, ⟨(by decide), g1⟩, trivial, (by decide), trivial, trivial, trivial, ⟨(by decide), g2⟩, trivial, (by decide), trivial, trivial, trivial, ⟨(by decide), g3⟩, trivial, (by decide), trivial, trivial, trivial, ⟨(by decide), g4⟩, trivial, (by decide), trivial, trivial, trivial, ⟨(by decide), g5⟩, trivial, (by decide), trivial, trivial, trivial, ⟨(by decide), g6⟩, trivial⟩ k
  rfl
theorem BX7_resend_0 {d Z L : Nat} {xs : Nat → Int32} {z : Nat} {Φ : Out → T2 → T3 → Nat → Prop} {I : T2} {J : T3} {x1 : Int32}  
    (k : Ev d Z L xs mX7_resend 3 [some (.ref 136), some (.int x1), none, none, none, none] [.int x1, .ref 136, .ref 136] I J z Φ) : Ev d Z L xs mX7_resend 0 [some (.ref 136), some (.int x1), none, none, none, none] [] I J z Φ := by
  refine Ev.blk (ops := [o0 (.aload_n 0) 1, o0 (.aload_n 0) 1, o0 (.iload_n 1) 1]) (G := True ∧ True ∧ True ∧ True) (by decide +kernel) ?_ ⟨trivial, trivial, trivial, trivial⟩ k
  rfl
theorem BX7_resend_9 {d Z L : Nat} {xs : Nat → Int32} {z : Nat} {Φ : Out → T2 → T3 → Nat → Prop} {I : T2} {J : T3} {x1 : Int32}  
    (k : Ev d Z L xs mX7_resend 14 [some (.ref 136), some (.int x1), none, none, none, none] [.int 0, .ref 136] I J z Φ) : Ev d Z L xs mX7_resend 9 [some (.ref 136), some (.int x1), none, none, none, none] [.ref 136] I J z Φ := by
  refine Ev.blk (ops := [oI (.iconst 0) 1 0, oK (.goto 4) 3 14 0]) (G := True ∧ True ∧ True) (by decide +kernel) ?_ ⟨trivial, trivial, trivial⟩ k
  rfl
theorem BX7_resend_13 {d Z L : Nat} {xs : Nat → Int32} {z : Nat} {Φ : Out → T2 → T3 → Nat → Prop} {I : T2} {J : T3} {x1 : Int32}  
    (k : Ev d Z L xs mX7_resend 14 [some (.ref 136), some (.int x1), none, none, none, none] [.int 1, .ref 136] I J z Φ) : Ev d Z L xs mX7_resend 13 [some (.ref 136), some (.int x1), none, none, none, none] [.ref 136] I J z Φ := by
  refine Ev.blk (ops := [oI (.iconst 1) 1 1]) (G := True ∧ True) (by decide +kernel) ?_ ⟨trivial, trivial⟩ k
  rfl
theorem BX7_resend_14 {d Z L : Nat} {xs : Nat → Int32} {z : Nat} {Φ : Out → T2 → T3 → Nat → Prop} {I : T2} {J : T3} {x1 : Int32} {xs1 : Int32}  
    (k : Ev d Z L xs mX7_resend 21 [some (.ref 136), some (.int x1), none, none, none, none] [.int ((up2 I 136 0 xs1) 136 0)] (up2 I 136 0 xs1) J z Φ) : Ev d Z L xs mX7_resend 14 [some (.ref 136), some (.int x1), none, none, none, none] [.int xs1, .ref 136] I J z Φ := by
  refine Ev.blk (ops := [oK (.putfield 79) 3 7 0, o0 (.aload_n 0) 1, oK (.getfield 79) 3 7 0]) (G := (kd 136 = 7) ∧ True ∧ (kd 136 = 7) ∧ True) (by decide +kernel) ?_ ⟨(by decide), trivial, (by decide), trivial⟩ k
  rfl
theorem BX7_resend_24 {d Z L : Nat} {xs : Nat → Int32} {z : Nat} {Φ : Out → T2 → T3 → Nat → Prop} {I : T2} {J : T3} {x1 : Int32}  
    (k : Ev d Z L xs mX7_resend 25 [some (.ref 136), some (.int x1), none, none, none, none] [.int 0] I J z Φ) : Ev d Z L xs mX7_resend 24 [some (.ref 136), some (.int x1), none, none, none, none] [] I J z Φ := by
  refine Ev.blk (ops := [oI (.iconst 0) 1 0]) (G := True ∧ True) (by decide +kernel) ?_ ⟨trivial, trivial⟩ k
  rfl
theorem BX7_resend_26 {d Z L : Nat} {xs : Nat → Int32} {z : Nat} {Φ : Out → T2 → T3 → Nat → Prop} {I : T2} {J : T3} {x1 : Int32}  
    (k : Ev d Z L xs mX7_resend 28 [some (.ref 136), some (.int x1), some (.int 0), none, none, none] [] I J z Φ) : Ev d Z L xs mX7_resend 26 [some (.ref 136), some (.int x1), none, none, none, none] [] I J z Φ := by
  refine Ev.blk (ops := [oI (.iconst 0) 1 0, o0 (.istore_n 2) 1]) (G := True ∧ True ∧ True) (by decide +kernel) ?_ ⟨trivial, trivial, trivial⟩ k
  rfl
theorem BX7_resend_28 {d Z L : Nat} {xs : Nat → Int32} {z : Nat} {Φ : Out → T2 → T3 → Nat → Prop} {I : T2} {J : T3} {x1 : Int32} {x2 : Int32}  
    (k : Ev d Z L xs mX7_resend 30 [some (.ref 136), some (.int x1), some (.int x2), none, none, none] [.int 2, .int x2] I J z Φ) : Ev d Z L xs mX7_resend 28 [some (.ref 136), some (.int x1), some (.int x2), none, none, none] [] I J z Φ := by
  refine Ev.blk (ops := [o0 (.iload_n 2) 1, oI (.iconst 2) 1 2]) (G := True ∧ True ∧ True) (by decide +kernel) ?_ ⟨trivial, trivial, trivial⟩ k
  rfl
theorem BX7_resend_33 {d Z L : Nat} {xs : Nat → Int32} {z : Nat} {Φ : Out → T2 → T3 → Nat → Prop} {I : T2} {J : T3} {x1 : Int32} {x2 : Int32}  
    (k : Ev d Z L xs mX7_resend 34 [some (.ref 136), some (.int x1), some (.int x2), none, none, none] [.int x2] I J z Φ) : Ev d Z L xs mX7_resend 33 [some (.ref 136), some (.int x1), some (.int x2), none, none, none] [] I J z Φ := by
  refine Ev.blk (ops := [o0 (.iload_n 2) 1]) (G := True ∧ True) (by decide +kernel) ?_ ⟨trivial, trivial⟩ k
  rfl
theorem BX7_resend_37 {d Z L : Nat} {xs : Nat → Int32} {z : Nat} {Φ : Out → T2 → T3 → Nat → Prop} {I : T2} {J : T3} {x1 : Int32} {x2 : Int32}  
    (k : Ev d Z L xs mX7_resend 45 [some (.ref 136), some (.int x1), some (.int x2), none, none, none] [.int x1] I J z Φ) : Ev d Z L xs mX7_resend 37 [some (.ref 136), some (.int x1), some (.int x2), none, none, none] [] I J z Φ := by
  refine Ev.blk (ops := [o0 (.iload_n 1) 1, oK (.goto 7) 3 45 0]) (G := True ∧ True ∧ True) (by decide +kernel) ?_ ⟨trivial, trivial, trivial⟩ k
  rfl
theorem BX7_resend_41 {d Z L : Nat} {xs : Nat → Int32} {z : Nat} {Φ : Out → T2 → T3 → Nat → Prop} {I : T2} {J : T3} {x1 : Int32} {x2 : Int32}  
    (k : Ev d Z L xs mX7_resend 45 [some (.ref 136), some (.int x1), some (.int x2), none, none, none] [.int (8 + x1)] I J z Φ) : Ev d Z L xs mX7_resend 41 [some (.ref 136), some (.int x1), some (.int x2), none, none, none] [] I J z Φ := by
  refine Ev.blk (ops := [oI (.bipush 8) 2 8, o0 (.iload_n 1) 1, o0 (.iadd) 1]) (G := True ∧ True ∧ True ∧ True) (by decide +kernel) ?_ ⟨trivial, trivial, trivial, trivial⟩ k
  rfl
theorem BX7_resend_45 {d Z L : Nat} {xs : Nat → Int32} {z : Nat} {Φ : Out → T2 → T3 → Nat → Prop} {I : T2} {J : T3} {x1 : Int32} {x2 : Int32} {xs0 : Int32}  
    (k : Ev d Z L xs mX7_resend 49 [some (.ref 136), some (.int x1), some (.int x2), some (.int xs0), some (.int 0), none] [] I J z Φ) : Ev d Z L xs mX7_resend 45 [some (.ref 136), some (.int x1), some (.int x2), none, none, none] [.int xs0] I J z Φ := by
  refine Ev.blk (ops := [o0 (.istore_n 3) 1, oI (.iconst 0) 1 0, o0 (.istore 4) 2]) (G := True ∧ True ∧ True ∧ True) (by decide +kernel) ?_ ⟨trivial, trivial, trivial, trivial⟩ k
  rfl
theorem BX7_resend_49 {d Z L : Nat} {xs : Nat → Int32} {z : Nat} {Φ : Out → T2 → T3 → Nat → Prop} {I : T2} {J : T3} {x1 : Int32} {x2 : Int32} {x3 : Int32} {x4 : Int32}  (g1 : vp_in x3 16)
    (k : Ev d Z L xs mX7_resend 57 [some (.ref 136), some (.int x1), some (.int x2), some (.int x3), some (.int x4), none] [.int (I 148 x3.toNatClampNeg), .int x4] I J z Φ) : Ev d Z L xs mX7_resend 49 [some (.ref 136), some (.int x1), some (.int x2), some (.int x3), some (.int x4), none] [] I J z Φ := by
  refine Ev.blk (ops := [o0 (.iload 4) 2, o0 (.aload_n 0) 1, oK (.getfield 45) 3 7 20, o0 (.iload_n 3) 1, o0 (.iaload) 1]) (G := True ∧ True ∧ (kd 136 = 7) ∧ True ∧ (kd 148 = 8 ∧ vp_in x3 (ln 148)) ∧ True) (by decide +kernel) ?_ ⟨trivial, trivial, (by decide), trivial, ⟨(by decide), g1⟩, trivial⟩ k
  rfl
theorem BX7_resend_60 {d Z L : Nat} {xs : Nat → Int32} {z : Nat} {Φ : Out → T2 → T3 → Nat → Prop} {I : T2} {J : T3} {x1 : Int32} {x2 : Int32} {x3 : Int32} {x4 : Int32}  (g1 : vp_in (6 * ((50 * x3) + x4)) 4800) (g2 : vp_in ((6 * ((50 * x3) + x4)) + 1) 4800) (g3 : vp_in ((6 * ((50 * x3) + x4)) + 2) 4800) (g4 : vp_in ((6 * ((50 * x3) + x4)) + 3) 4800) (g5 : vp_in ((6 * ((50 * x3) + x4)) + 4) 4800) (g6 : vp_in ((6 * ((50 * x3) + x4)) + 5) 4800)
    (k : Ev d Z L xs mX7_resend 125 [some (.ref 136), some (.int x1), some (.int x2), some (.int x3), some (.int x4), some (.int (6 * ((50 * x3) + x4)))] [.int (I 147 ((6 * ((50 * x3) + x4)) + 5).toNatClampNeg), .int (I 147 ((6 * ((50 * x3) + x4)) + 4).toNatClampNeg), .int (I 147 ((6 * ((50 * x3) + x4)) + 3).toNatClampNeg), .int (I 147 ((6 * ((50 * x3) + x4)) + 2).toNatClampNeg), .int (I 147 ((6 * ((50 * x3) + x4)) + 1).toNatClampNeg), .int (I 147 (6 * ((50 * x3) + x4)).toNatClampNeg), .ref 136] I J z Φ) : Ev d Z L xs mX7_resend 60 [some (.ref 136), some (.int x1), some (.int x2), some (.int x3), some (.int x4), none] [] I J z Φ := by
  refine Ev.blk (ops := [oI (.bipush 6) 2 6, oI (.bipush 50) 2 50, o0 (.iload_n 3) 1, o0 (.imul) 1, o0 (.iload 4) 2, o0 (.iadd) 1, o0 (.imul) 1, o0 (.istore 5) 2, o0 (.aload_n 0) 1, o0 (.aload_n 0) 1, oK (.getfield 42) 3 7 19, o0 (.iload 5) 2, o0 (.iaload) 1, o0 (.aload_n 0) 1, oK (.getfield 42) 3 7 19, o0 (.iload 5) 2, oI (.iconst 1) 1 1, o0 (.iadd) 1, o0 (.iaload) 1, o0 (.aload_n 0) 1, oK (.getfield 42) 3 7 19, o0 (.iload 5) 2, oI (.iconst 2) 1 2, o0 (.iadd) 1, o0 (.iaload) 1, o0 (.aload_n 0) 1, oK (.getfield 42) 3 7 19, o0 (.iload 5) 2, oI (.iconst 3) 1 3, o0 (.iadd) 1, o0 (.iaload) 1, o0 (.aload_n 0) 1, oK (.getfield 42) 3 7 19, o0 (.iload 5) 2, oI (.iconst 4) 1 4, o0 (.iadd) 1, o0 (.iaload) 1, o0 (.aload_n 0) 1, oK (.getfield 42) 3 7 19, o0 (.iload 5) 2, oI (.iconst 5) 1 5, o0 (.iadd) 1, o0 (.iaload) 1]) (G := True ∧ True ∧ True ∧ True ∧ True ∧ True ∧ True ∧ True ∧ True ∧ True ∧ (kd 136 = 7) ∧ True ∧ (kd 147 = 8 ∧ vp_in (6 * ((50 * x3) + x4)) (ln 147)) ∧ True ∧ (kd 136 = 7) ∧ True ∧ True ∧ True ∧ (kd 147 = 8 ∧ vp_in ((6 * ((50 * x3) + x4)) + 1) (ln 147)) ∧ True ∧ (kd 136 = 7) ∧ True ∧ True ∧ True ∧ (kd 147 = 8 ∧ vp_in ((6 * ((50 * x3) + x4)) + 2) (ln 147)) ∧ True ∧ (kd 136 = 7) ∧ True ∧ True ∧ True ∧ (kd 147 = 8 ∧ vp_in ((6 * ((50 * x3) + x4)) + 3) (ln 147)) ∧ True ∧ (kd 136 = 7) ∧ True ∧ True ∧ True ∧ (kd 147 = 8 ∧ vp_in ((6 * ((50 * x3) + x4)) + 4) (ln 147)) ∧ True ∧ (kd 136 = 7) ∧ True ∧ True ∧ True ∧ (kd 147 = 8 ∧ vp_in ((6 * ((50 * x3) + x4)) + 5) (ln 147)) ∧ True) (by decide +kernel) ?_ ⟨trivial, trivial, trivial, trivial, trivial, trivial, trivial, trivial, trivial, trivial, (by decide), trivial, ⟨(by decide), g1⟩, trivial, (by decide), trivial, trivial, trivial, ⟨(by decide), g2⟩, trivial, (by decide), trivial, trivial, trivial, ⟨(by decide), g3⟩, trivial, (by decide), trivial, trivial, trivial, ⟨(by decide), g4⟩, trivial, (by decide), trivial, trivial, trivial, ⟨(by decide), g5⟩, trivial, (by decide), trivial, trivial, trivial, ⟨(by decide), g6⟩, trivial⟩ k
  rfl
theorem BX7_resend_128 {d Z L : Nat} {xs : Nat → Int32} {z : Nat} {Φ : Out → T2 → T3 → Nat → Prop} {I : T2} {J : T3} {x1 : Int32} {x2 : Int32} {x3 : Int32} {x4 : Int32} {x5 : Int32}  
    (k : Ev d Z L xs mX7_resend 49 [some (.ref 136), some (.int x1), some (.int x2), some (.int x3), some (.int (x4 + 1)), some (.int x5)] [] I J z Φ) : Ev d Z L xs mX7_resend 128 [some (.ref 136), some (.int x1), some (.int x2), some (.int x3), some (.int x4), some (.int x5)] [] I J z Φ := by
  refine Ev.blk (ops := [oI (.iinc 4 1) 3 1, oK (.goto (-82)) 3 49 0]) (G := True ∧ True ∧ True) (by decide +kernel) ?_ ⟨trivial, trivial, trivial⟩ k
  rfl
theorem BX7_resend_134 {d Z L : Nat} {xs : Nat → Int32} {z : Nat} {Φ : Out → T2 → T3 → Nat → Prop} {I : T2} {J : T3} {x1 : Int32} {x2 : Int32} {x3 : Int32} {x4 : Int32}  
    (k : Ev d Z L xs mX7_resend 28 [some (.ref 136), some (.int x1), some (.int (x2 + 1)), some (.int x3), some (.int x4), none] [] I J z Φ) : Ev d Z L xs mX7_resend 134 [some (.ref 136), some (.int x1), some (.int x2), some (.int x3), some (.int x4), none] [] I J z Φ := by
  refine Ev.blk (ops := [oI (.iinc 2 1) 3 1, oK (.goto (-109)) 3 28 0]) (G := True ∧ True ∧ True) (by decide +kernel) ?_ ⟨trivial, trivial, trivial⟩ k
  rfl
theorem BX7_resend_140 {d Z L : Nat} {xs : Nat → Int32} {z : Nat} {Φ : Out → T2 → T3 → Nat → Prop} {I : T2} {J : T3} {x1 : Int32} {x2 : Int32}  (g1 : vp_in x1 16) (g2 : vp_in (8 + x1) 16)
    (k : Ev d Z L xs mX7_resend 156 [some (.ref 136), some (.int x1), some (.int x2), none, none, none] [.int ((I 148 x1.toNatClampNeg) + (I 148 (8 + x1).toNatClampNeg))] I J z Φ) : Ev d Z L xs mX7_resend 140 [some (.ref 136), some (.int x1), some (.int x2), none, none, none] [] I J z Φ := by
  refine Ev.blk (ops := [o0 (.aload_n 0) 1, oK (.getfield 45) 3 7 20, o0 (.iload_n 1) 1, o0 (.iaload) 1, o0 (.aload_n 0) 1, oK (.getfield 45) 3 7 20, oI (.bipush 8) 2 8, o0 (.iload_n 1) 1, o0 (.iadd) 1, o0 (.iaload) 1, o0 (.iadd) 1]) (G := True ∧ (kd 136 = 7) ∧ True ∧ (kd 148 = 8 ∧ vp_in x1 (ln 148)) ∧ True ∧ (kd 136 = 7) ∧ True ∧ True ∧ True ∧ (kd 148 = 8 ∧ vp_in (8 + x1) (ln 148)) ∧ True ∧ True) (by decide +kernel) ?_ ⟨trivial, (by decide), trivial, ⟨(by decide), g1⟩, trivial, (by decide), trivial, trivial, trivial, ⟨(by decide), g2⟩, trivial, trivial⟩ k
  rfl
theorem BX7_letter_0 {d Z L : Nat} {xs : Nat → Int32} {z : Nat} {Φ : Out → T2 → T3 → Nat → Prop} {I : T2} {J : T3} {x1 : Int32} {x2 : Int32}  
    (k : Ev d Z L xs mX7_letter 3 [some (.ref 136), some (.int x1), some (.int x2)] [.int x1, .ref 136, .ref 136] I J z Φ) : Ev d Z L xs mX7_letter 0 [some (.ref 136), some (.int x1), some (.int x2)] [] I J z Φ := by
  refine Ev.blk (ops := [o0 (.aload_n 0) 1, o0 (.aload_n 0) 1, o0 (.iload_n 1) 1]) (G := True ∧ True ∧ True ∧ True) (by decide +kernel) ?_ ⟨trivial, trivial, trivial, trivial⟩ k
  rfl
theorem BX7_letter_9 {d Z L : Nat} {xs : Nat → Int32} {z : Nat} {Φ : Out → T2 → T3 → Nat → Prop} {I : T2} {J : T3} {x1 : Int32} {x2 : Int32}  
    (k : Ev d Z L xs mX7_letter 27 [some (.ref 136), some (.int x1), some (.int x2)] [.int 1, .ref 136] I J z Φ) : Ev d Z L xs mX7_letter 9 [some (.ref 136), some (.int x1), some (.int x2)] [.ref 136] I J z Φ := by
  refine Ev.blk (ops := [oI (.iconst 1) 1 1, oK (.goto 17) 3 27 0]) (G := True ∧ True ∧ True) (by decide +kernel) ?_ ⟨trivial, trivial, trivial⟩ k
  rfl
theorem BX7_letter_13 {d Z L : Nat} {xs : Nat → Int32} {z : Nat} {Φ : Out → T2 → T3 → Nat → Prop} {I : T2} {J : T3} {x1 : Int32} {x2 : Int32}  
    (k : Ev d Z L xs mX7_letter 14 [some (.ref 136), some (.int x1), some (.int x2)] [.int x2, .ref 136] I J z Φ) : Ev d Z L xs mX7_letter 13 [some (.ref 136), some (.int x1), some (.int x2)] [.ref 136] I J z Φ := by
  refine Ev.blk (ops := [o0 (.iload_n 2) 1]) (G := True ∧ True) (by decide +kernel) ?_ ⟨trivial, trivial⟩ k
  rfl
theorem BX7_letter_17 {d Z L : Nat} {xs : Nat → Int32} {z : Nat} {Φ : Out → T2 → T3 → Nat → Prop} {I : T2} {J : T3} {x1 : Int32} {x2 : Int32}  
    (k : Ev d Z L xs mX7_letter 19 [some (.ref 136), some (.int x1), some (.int x2)] [.int 5, .int x2, .ref 136] I J z Φ) : Ev d Z L xs mX7_letter 17 [some (.ref 136), some (.int x1), some (.int x2)] [.ref 136] I J z Φ := by
  refine Ev.blk (ops := [o0 (.iload_n 2) 1, oI (.iconst 5) 1 5]) (G := True ∧ True ∧ True) (by decide +kernel) ?_ ⟨trivial, trivial, trivial⟩ k
  rfl
theorem BX7_letter_22 {d Z L : Nat} {xs : Nat → Int32} {z : Nat} {Φ : Out → T2 → T3 → Nat → Prop} {I : T2} {J : T3} {x1 : Int32} {x2 : Int32}  
    (k : Ev d Z L xs mX7_letter 27 [some (.ref 136), some (.int x1), some (.int x2)] [.int 2, .ref 136] I J z Φ) : Ev d Z L xs mX7_letter 22 [some (.ref 136), some (.int x1), some (.int x2)] [.ref 136] I J z Φ := by
  refine Ev.blk (ops := [oI (.iconst 2) 1 2, oK (.goto 4) 3 27 0]) (G := True ∧ True ∧ True) (by decide +kernel) ?_ ⟨trivial, trivial, trivial⟩ k
  rfl
theorem BX7_letter_26 {d Z L : Nat} {xs : Nat → Int32} {z : Nat} {Φ : Out → T2 → T3 → Nat → Prop} {I : T2} {J : T3} {x1 : Int32} {x2 : Int32}  
    (k : Ev d Z L xs mX7_letter 27 [some (.ref 136), some (.int x1), some (.int x2)] [.int 0, .ref 136] I J z Φ) : Ev d Z L xs mX7_letter 26 [some (.ref 136), some (.int x1), some (.int x2)] [.ref 136] I J z Φ := by
  refine Ev.blk (ops := [oI (.iconst 0) 1 0]) (G := True ∧ True) (by decide +kernel) ?_ ⟨trivial, trivial⟩ k
  rfl
theorem BX7_letter_27 {d Z L : Nat} {xs : Nat → Int32} {z : Nat} {Φ : Out → T2 → T3 → Nat → Prop} {I : T2} {J : T3} {x1 : Int32} {x2 : Int32} {xs1 : Int32}  
    (k : Ev d Z L xs mX7_letter 34 [some (.ref 136), some (.int x1), some (.int x2)] [.int ((up2 I 136 0 xs1) 136 0)] (up2 I 136 0 xs1) J z Φ) : Ev d Z L xs mX7_letter 27 [some (.ref 136), some (.int x1), some (.int x2)] [.int xs1, .ref 136] I J z Φ := by
  refine Ev.blk (ops := [oK (.putfield 79) 3 7 0, o0 (.aload_n 0) 1, oK (.getfield 79) 3 7 0]) (G := (kd 136 = 7) ∧ True ∧ (kd 136 = 7) ∧ True) (by decide +kernel) ?_ ⟨(by decide), trivial, (by decide), trivial⟩ k
  rfl
theorem BX7_letter_37 {d Z L : Nat} {xs : Nat → Int32} {z : Nat} {Φ : Out → T2 → T3 → Nat → Prop} {I : T2} {J : T3} {x1 : Int32} {x2 : Int32}  
    (k : Ev d Z L xs mX7_letter 52 [some (.ref 136), some (.int x1), some (.int x2)] [.int 0] I J z Φ) : Ev d Z L xs mX7_letter 37 [some (.ref 136), some (.int x1), some (.int x2)] [] I J z Φ := by
  refine Ev.blk (ops := [oI (.iconst 0) 1 0, oK (.goto 14) 3 52 0]) (G := True ∧ True ∧ True) (by decide +kernel) ?_ ⟨trivial, trivial, trivial⟩ k
  rfl
theorem BX7_letter_41 {d Z L : Nat} {xs : Nat → Int32} {z : Nat} {Φ : Out → T2 → T3 → Nat → Prop} {I : T2} {J : T3} {x1 : Int32} {x2 : Int32}  (g1 : vp_in ((6 * x1) + x2) 1200)
    (k : Ev d Z L xs mX7_letter 52 [some (.ref 136), some (.int x1), some (.int x2)] [.int (I 151 ((6 * x1) + x2).toNatClampNeg)] I J z Φ) : Ev d Z L xs mX7_letter 41 [some (.ref 136), some (.int x1), some (.int x2)] [] I J z Φ := by
  refine Ev.blk (ops := [o0 (.aload_n 0) 1, oK (.getfield 54) 3 7 23, oI (.bipush 6) 2 6, o0 (.iload_n 1) 1, o0 (.imul) 1, o0 (.iload_n 2) 1, o0 (.iadd) 1, o0 (.iaload) 1]) (G := True ∧ (kd 136 = 7) ∧ True ∧ True ∧ True ∧ True ∧ True ∧ (kd 151 = 8 ∧ vp_in ((6 * x1) + x2) (ln 151)) ∧ True) (by decide +kernel) ?_ ⟨trivial, (by decide), trivial, trivial, trivial, trivial, trivial, ⟨(by decide), g1⟩, trivial⟩ k
  rfl
theorem BX7_crash_0 {d Z L : Nat} {xs : Nat → Int32} {z : Nat} {Φ : Out → T2 → T3 → Nat → Prop} {I : T2} {J : T3} {x1 : Int32}  
    (k : Ev d Z L xs mX7_crash 3 [some (.ref 136), some (.int x1)] [.int x1, .ref 136, .ref 136] I J z Φ) : Ev d Z L xs mX7_crash 0 [some (.ref 136), some (.int x1)] [] I J z Φ := by
  refine Ev.blk (ops := [o0 (.aload_n 0) 1, o0 (.aload_n 0) 1, o0 (.iload_n 1) 1]) (G := True ∧ True ∧ True ∧ True) (by decide +kernel) ?_ ⟨trivial, trivial, trivial, trivial⟩ k
  rfl
theorem BX7_crash_9 {d Z L : Nat} {xs : Nat → Int32} {z : Nat} {Φ : Out → T2 → T3 → Nat → Prop} {I : T2} {J : T3} {x1 : Int32}  
    (k : Ev d Z L xs mX7_crash 27 [some (.ref 136), some (.int x1)] [.int 1, .ref 136] I J z Φ) : Ev d Z L xs mX7_crash 9 [some (.ref 136), some (.int x1)] [.ref 136] I J z Φ := by
  refine Ev.blk (ops := [oI (.iconst 1) 1 1, oK (.goto 17) 3 27 0]) (G := True ∧ True ∧ True) (by decide +kernel) ?_ ⟨trivial, trivial, trivial⟩ k
  rfl
theorem BX7_crash_13 {d Z L : Nat} {xs : Nat → Int32} {z : Nat} {Φ : Out → T2 → T3 → Nat → Prop} {I : T2} {J : T3} {x1 : Int32}  (g1 : vp_in x1 8)
    (k : Ev d Z L xs mX7_crash 19 [some (.ref 136), some (.int x1)] [.int (I 143 x1.toNatClampNeg), .ref 136] I J z Φ) : Ev d Z L xs mX7_crash 13 [some (.ref 136), some (.int x1)] [.ref 136] I J z Φ := by
  refine Ev.blk (ops := [o0 (.aload_n 0) 1, oK (.getfield 29) 3 7 15, o0 (.iload_n 1) 1, o0 (.baload) 1]) (G := True ∧ (kd 136 = 7) ∧ True ∧ (kd 143 = 10 ∧ vp_in x1 (ln 143)) ∧ True) (by decide +kernel) ?_ ⟨trivial, (by decide), trivial, ⟨(by decide), g1⟩, trivial⟩ k
  rfl
theorem BX7_crash_22 {d Z L : Nat} {xs : Nat → Int32} {z : Nat} {Φ : Out → T2 → T3 → Nat → Prop} {I : T2} {J : T3} {x1 : Int32}  
    (k : Ev d Z L xs mX7_crash 27 [some (.ref 136), some (.int x1)] [.int 2, .ref 136] I J z Φ) : Ev d Z L xs mX7_crash 22 [some (.ref 136), some (.int x1)] [.ref 136] I J z Φ := by
  refine Ev.blk (ops := [oI (.iconst 2) 1 2, oK (.goto 4) 3 27 0]) (G := True ∧ True ∧ True) (by decide +kernel) ?_ ⟨trivial, trivial, trivial⟩ k
  rfl
theorem BX7_crash_26 {d Z L : Nat} {xs : Nat → Int32} {z : Nat} {Φ : Out → T2 → T3 → Nat → Prop} {I : T2} {J : T3} {x1 : Int32}  
    (k : Ev d Z L xs mX7_crash 27 [some (.ref 136), some (.int x1)] [.int 0, .ref 136] I J z Φ) : Ev d Z L xs mX7_crash 26 [some (.ref 136), some (.int x1)] [.ref 136] I J z Φ := by
  refine Ev.blk (ops := [oI (.iconst 0) 1 0]) (G := True ∧ True) (by decide +kernel) ?_ ⟨trivial, trivial⟩ k
  rfl
theorem BX7_crash_27 {d Z L : Nat} {xs : Nat → Int32} {z : Nat} {Φ : Out → T2 → T3 → Nat → Prop} {I : T2} {J : T3} {x1 : Int32} {xs1 : Int32}  
    (k : Ev d Z L xs mX7_crash 34 [some (.ref 136), some (.int x1)] [.int ((up2 I 136 0 xs1) 136 0)] (up2 I 136 0 xs1) J z Φ) : Ev d Z L xs mX7_crash 27 [some (.ref 136), some (.int x1)] [.int xs1, .ref 136] I J z Φ := by
  refine Ev.blk (ops := [oK (.putfield 79) 3 7 0, o0 (.aload_n 0) 1, oK (.getfield 79) 3 7 0]) (G := (kd 136 = 7) ∧ True ∧ (kd 136 = 7) ∧ True) (by decide +kernel) ?_ ⟨(by decide), trivial, (by decide), trivial⟩ k
  rfl
theorem BX7_crash_37 {d Z L : Nat} {xs : Nat → Int32} {z : Nat} {Φ : Out → T2 → T3 → Nat → Prop} {I : T2} {J : T3} {x1 : Int32}  (g1 : vp_in x1 8)
    (k : Ev d Z L xs mX7_crash 44 [some (.ref 136), some (.int x1)] [] (up2 I 143 x1.toNatClampNeg 1) J z Φ) : Ev d Z L xs mX7_crash 37 [some (.ref 136), some (.int x1)] [] I J z Φ := by
  refine Ev.blk (ops := [o0 (.aload_n 0) 1, oK (.getfield 29) 3 7 15, o0 (.iload_n 1) 1, oI (.iconst 1) 1 1, o0 (.bastore) 1]) (G := True ∧ (kd 136 = 7) ∧ True ∧ True ∧ (kd 143 = 10 ∧ vp_in x1 (ln 143) ∧ (1 = (0 : Int32) ∨ 1 = (1 : Int32))) ∧ True) (by decide +kernel) ?_ ⟨trivial, (by decide), trivial, trivial, ⟨(by decide), g1, Or.inr rfl⟩, trivial⟩ k
  rfl
theorem BX7_restart_0 {d Z L : Nat} {xs : Nat → Int32} {z : Nat} {Φ : Out → T2 → T3 → Nat → Prop} {I : T2} {J : T3} {x1 : Int32}  
    (k : Ev d Z L xs mX7_restart 3 [some (.ref 136), some (.int x1), none] [.int x1, .ref 136, .ref 136] I J z Φ) : Ev d Z L xs mX7_restart 0 [some (.ref 136), some (.int x1), none] [] I J z Φ := by
  refine Ev.blk (ops := [o0 (.aload_n 0) 1, o0 (.aload_n 0) 1, o0 (.iload_n 1) 1]) (G := True ∧ True ∧ True ∧ True) (by decide +kernel) ?_ ⟨trivial, trivial, trivial, trivial⟩ k
  rfl
theorem BX7_restart_9 {d Z L : Nat} {xs : Nat → Int32} {z : Nat} {Φ : Out → T2 → T3 → Nat → Prop} {I : T2} {J : T3} {x1 : Int32}  
    (k : Ev d Z L xs mX7_restart 14 [some (.ref 136), some (.int x1), none] [.int 0, .ref 136] I J z Φ) : Ev d Z L xs mX7_restart 9 [some (.ref 136), some (.int x1), none] [.ref 136] I J z Φ := by
  refine Ev.blk (ops := [oI (.iconst 0) 1 0, oK (.goto 4) 3 14 0]) (G := True ∧ True ∧ True) (by decide +kernel) ?_ ⟨trivial, trivial, trivial⟩ k
  rfl
theorem BX7_restart_13 {d Z L : Nat} {xs : Nat → Int32} {z : Nat} {Φ : Out → T2 → T3 → Nat → Prop} {I : T2} {J : T3} {x1 : Int32}  
    (k : Ev d Z L xs mX7_restart 14 [some (.ref 136), some (.int x1), none] [.int 1, .ref 136] I J z Φ) : Ev d Z L xs mX7_restart 13 [some (.ref 136), some (.int x1), none] [.ref 136] I J z Φ := by
  refine Ev.blk (ops := [oI (.iconst 1) 1 1]) (G := True ∧ True) (by decide +kernel) ?_ ⟨trivial, trivial⟩ k
  rfl
theorem BX7_restart_14 {d Z L : Nat} {xs : Nat → Int32} {z : Nat} {Φ : Out → T2 → T3 → Nat → Prop} {I : T2} {J : T3} {x1 : Int32} {xs1 : Int32}  
    (k : Ev d Z L xs mX7_restart 21 [some (.ref 136), some (.int x1), none] [.int ((up2 I 136 0 xs1) 136 0)] (up2 I 136 0 xs1) J z Φ) : Ev d Z L xs mX7_restart 14 [some (.ref 136), some (.int x1), none] [.int xs1, .ref 136] I J z Φ := by
  refine Ev.blk (ops := [oK (.putfield 79) 3 7 0, o0 (.aload_n 0) 1, oK (.getfield 79) 3 7 0]) (G := (kd 136 = 7) ∧ True ∧ (kd 136 = 7) ∧ True) (by decide +kernel) ?_ ⟨(by decide), trivial, (by decide), trivial⟩ k
  rfl
theorem BX7_restart_24 {d Z L : Nat} {xs : Nat → Int32} {z : Nat} {Φ : Out → T2 → T3 → Nat → Prop} {I : T2} {J : T3} {x1 : Int32}  (g1 : vp_in x1 8)
    (k : Ev d Z L xs mX7_restart 30 [some (.ref 136), some (.int x1), none] [.int (I 143 x1.toNatClampNeg)] I J z Φ) : Ev d Z L xs mX7_restart 24 [some (.ref 136), some (.int x1), none] [] I J z Φ := by
  refine Ev.blk (ops := [o0 (.aload_n 0) 1, oK (.getfield 29) 3 7 15, o0 (.iload_n 1) 1, o0 (.baload) 1]) (G := True ∧ (kd 136 = 7) ∧ True ∧ (kd 143 = 10 ∧ vp_in x1 (ln 143)) ∧ True) (by decide +kernel) ?_ ⟨trivial, (by decide), trivial, ⟨(by decide), g1⟩, trivial⟩ k
  rfl
theorem BX7_restart_33 {d Z L : Nat} {xs : Nat → Int32} {z : Nat} {Φ : Out → T2 → T3 → Nat → Prop} {I : T2} {J : T3} {x1 : Int32}  
    (k : Ev d Z L xs mX7_restart 34 [some (.ref 136), some (.int x1), none] [.int 0] I J z Φ) : Ev d Z L xs mX7_restart 33 [some (.ref 136), some (.int x1), none] [] I J z Φ := by
  refine Ev.blk (ops := [oI (.iconst 0) 1 0]) (G := True ∧ True) (by decide +kernel) ?_ ⟨trivial, trivial⟩ k
  rfl
theorem BX7_restart_35 {d Z L : Nat} {xs : Nat → Int32} {z : Nat} {Φ : Out → T2 → T3 → Nat → Prop} {I : T2} {J : T3} {x1 : Int32}  (g1 : vp_in x1 8)
    (k : Ev d Z L xs mX7_restart 46 [some (.ref 136), some (.int x1), some (.int (3 * x1))] [] (up2 I 143 x1.toNatClampNeg 0) J z Φ) : Ev d Z L xs mX7_restart 35 [some (.ref 136), some (.int x1), none] [] I J z Φ := by
  refine Ev.blk (ops := [o0 (.aload_n 0) 1, oK (.getfield 29) 3 7 15, o0 (.iload_n 1) 1, oI (.iconst 0) 1 0, o0 (.bastore) 1, oI (.iconst 3) 1 3, o0 (.iload_n 1) 1, o0 (.imul) 1, o0 (.istore_n 2) 1]) (G := True ∧ (kd 136 = 7) ∧ True ∧ True ∧ (kd 143 = 10 ∧ vp_in x1 (ln 143) ∧ (0 = (0 : Int32) ∨ 0 = (1 : Int32))) ∧ True ∧ True ∧ True ∧ True ∧ True) (by decide +kernel) ?_ ⟨trivial, (by decide), trivial, trivial, ⟨(by decide), g1, Or.inl rfl⟩, trivial, trivial, trivial, trivial, trivial⟩ k
  rfl
theorem BX7_restart_46 {d Z L : Nat} {xs : Nat → Int32} {z : Nat} {Φ : Out → T2 → T3 → Nat → Prop} {I : T2} {J : T3} {x1 : Int32} {x2 : Int32}  
    (k : Ev d Z L xs mX7_restart 52 [some (.ref 136), some (.int x1), some (.int x2)] [.int ((3 * x1) + 3), .int x2] I J z Φ) : Ev d Z L xs mX7_restart 46 [some (.ref 136), some (.int x1), some (.int x2)] [] I J z Φ := by
  refine Ev.blk (ops := [o0 (.iload_n 2) 1, oI (.iconst 3) 1 3, o0 (.iload_n 1) 1, o0 (.imul) 1, oI (.iconst 3) 1 3, o0 (.iadd) 1]) (G := True ∧ True ∧ True ∧ True ∧ True ∧ True ∧ True) (by decide +kernel) ?_ ⟨trivial, trivial, trivial, trivial, trivial, trivial, trivial⟩ k
  rfl
theorem BX7_restart_55 {d Z L : Nat} {xs : Nat → Int32} {z : Nat} {Φ : Out → T2 → T3 → Nat → Prop} {I : T2} {J : T3} {x1 : Int32} {x2 : Int32}  (g1 : vp_in x2 24)
    (k : Ev d Z L xs mX7_restart 46 [some (.ref 136), some (.int x1), some (.int (x2 + 1))] [] (up2 I 145 x2.toNatClampNeg (I 146 x2.toNatClampNeg)) J z Φ) : Ev d Z L xs mX7_restart 55 [some (.ref 136), some (.int x1), some (.int x2)] [] I J z Φ := by
  refine Ev.blk (ops := [o0 (.aload_n 0) 1, oK (.getfield 36) 3 7 17, o0 (.iload_n 2) 1, o0 (.aload_n 0) 1, oK (.getfield 39) 3 7 18, o0 (.iload_n 2) 1, o0 (.iaload) 1, o0 (.iastore) 1, oI (.iinc 2 1) 3 1, oK (.goto (-24)) 3 46 0]) (G := True ∧ (kd 136 = 7) ∧ True ∧ True ∧ (kd 136 = 7) ∧ True ∧ (kd 146 = 8 ∧ vp_in x2 (ln 146)) ∧ (kd 145 = 8 ∧ vp_in x2 (ln 145)) ∧ True ∧ True ∧ True) (by decide +kernel) ?_ ⟨trivial, (by decide), trivial, trivial, (by decide), trivial, ⟨(by decide), g1⟩, ⟨(by decide), g1⟩, trivial, trivial, trivial⟩ k
  rfl
theorem BX7_restart_73 {d Z L : Nat} {xs : Nat → Int32} {z : Nat} {Φ : Out → T2 → T3 → Nat → Prop} {I : T2} {J : T3} {x1 : Int32} {x2 : Int32}  
    (k : Ev d Z L xs mX7_restart 74 [some (.ref 136), some (.int x1), some (.int x2)] [.int 1] I J z Φ) : Ev d Z L xs mX7_restart 73 [some (.ref 136), some (.int x1), some (.int x2)] [] I J z Φ := by
  refine Ev.blk (ops := [oI (.iconst 1) 1 1]) (G := True ∧ True) (by decide +kernel) ?_ ⟨trivial, trivial⟩ k
  rfl
theorem BX7_desk_0 {d Z L : Nat} {xs : Nat → Int32} {z : Nat} {Φ : Out → T2 → T3 → Nat → Prop} {I : T2} {J : T3} {x1 : Int32}  
    (k : Ev d Z L xs mX7_desk 10 [some (.ref 136), some (.int x1), none, none] [.int x1, .int ((up2 I 136 0 0) 136 7)] (up2 I 136 0 0) J z Φ) : Ev d Z L xs mX7_desk 0 [some (.ref 136), some (.int x1), none, none] [] I J z Φ := by
  refine Ev.blk (ops := [o0 (.aload_n 0) 1, oI (.iconst 0) 1 0, oK (.putfield 79) 3 7 0, o0 (.aload_n 0) 1, oK (.getfield 102) 3 7 7, o0 (.iload_n 1) 1]) (G := True ∧ True ∧ (kd 136 = 7) ∧ True ∧ (kd 136 = 7) ∧ True ∧ True) (by decide +kernel) ?_ ⟨trivial, trivial, (by decide), trivial, (by decide), trivial, trivial⟩ k
  rfl
theorem BX7_desk_13 {d Z L : Nat} {xs : Nat → Int32} {z : Nat} {Φ : Out → T2 → T3 → Nat → Prop} {I : T2} {J : T3} {x1 : Int32}  
    (k : Ev d Z L xs mX7_desk 18 [some (.ref 136), some (.int x1), none, none] [.int 1] I J z Φ) : Ev d Z L xs mX7_desk 13 [some (.ref 136), some (.int x1), none, none] [] I J z Φ := by
  refine Ev.blk (ops := [oI (.iconst 1) 1 1, oK (.goto 4) 3 18 0]) (G := True ∧ True ∧ True) (by decide +kernel) ?_ ⟨trivial, trivial, trivial⟩ k
  rfl
theorem BX7_desk_17 {d Z L : Nat} {xs : Nat → Int32} {z : Nat} {Φ : Out → T2 → T3 → Nat → Prop} {I : T2} {J : T3} {x1 : Int32}  
    (k : Ev d Z L xs mX7_desk 18 [some (.ref 136), some (.int x1), none, none] [.int 0] I J z Φ) : Ev d Z L xs mX7_desk 17 [some (.ref 136), some (.int x1), none, none] [] I J z Φ := by
  refine Ev.blk (ops := [oI (.iconst 0) 1 0]) (G := True ∧ True) (by decide +kernel) ?_ ⟨trivial, trivial⟩ k
  rfl
theorem BX7_desk_18 {d Z L : Nat} {xs : Nat → Int32} {z : Nat} {Φ : Out → T2 → T3 → Nat → Prop} {I : T2} {J : T3} {x1 : Int32} {xs0 : Int32}  (g1 : x1 = (0 : Int32) ∨ x1 = (1 : Int32))
    (k : Ev d Z L xs mX7_desk 26 [some (.ref 136), some (.int x1), some (.int xs0), some (.int 0)] [] (up2 I 136 7 x1) J z Φ) : Ev d Z L xs mX7_desk 18 [some (.ref 136), some (.int x1), none, none] [.int xs0] I J z Φ := by
  refine Ev.blk (ops := [o0 (.istore_n 2) 1, o0 (.aload_n 0) 1, o0 (.iload_n 1) 1, oK (.putfield 102) 3 7 7, oI (.iconst 0) 1 0, o0 (.istore_n 3) 1]) (G := True ∧ True ∧ True ∧ (kd 136 = 7 ∧ (x1 = (0 : Int32) ∨ x1 = (1 : Int32))) ∧ True ∧ True ∧ True) (by decide +kernel) ?_ ⟨trivial, trivial, trivial, ⟨(by decide), g1⟩, trivial, trivial, trivial⟩ k
  rfl
theorem BX7_desk_26 {d Z L : Nat} {xs : Nat → Int32} {z : Nat} {Φ : Out → T2 → T3 → Nat → Prop} {I : T2} {J : T3} {x1 : Int32} {x2 : Int32} {x3 : Int32}  
    (k : Ev d Z L xs mX7_desk 27 [some (.ref 136), some (.int x1), some (.int x2), some (.int x3)] [.int x1] I J z Φ) : Ev d Z L xs mX7_desk 26 [some (.ref 136), some (.int x1), some (.int x2), some (.int x3)] [] I J z Φ := by
  refine Ev.blk (ops := [o0 (.iload_n 1) 1]) (G := True ∧ True) (by decide +kernel) ?_ ⟨trivial, trivial⟩ k
  rfl
theorem BX7_desk_30 {d Z L : Nat} {xs : Nat → Int32} {z : Nat} {Φ : Out → T2 → T3 → Nat → Prop} {I : T2} {J : T3} {x1 : Int32} {x2 : Int32} {x3 : Int32}  
    (k : Ev d Z L xs mX7_desk 33 [some (.ref 136), some (.int x1), some (.int x2), some (.int x3)] [.int 24, .int x3] I J z Φ) : Ev d Z L xs mX7_desk 30 [some (.ref 136), some (.int x1), some (.int x2), some (.int x3)] [] I J z Φ := by
  refine Ev.blk (ops := [o0 (.iload_n 3) 1, oI (.bipush 24) 2 24]) (G := True ∧ True ∧ True) (by decide +kernel) ?_ ⟨trivial, trivial, trivial⟩ k
  rfl
theorem BX7_desk_36 {d Z L : Nat} {xs : Nat → Int32} {z : Nat} {Φ : Out → T2 → T3 → Nat → Prop} {I : T2} {J : T3} {x1 : Int32} {x2 : Int32} {x3 : Int32}  (g1 : vp_in x3 24)
    (k : Ev d Z L xs mX7_desk 26 [some (.ref 136), some (.int x1), some (.int x2), some (.int (x3 + 1))] [] (up2 I 138 x3.toNatClampNeg 0) J z Φ) : Ev d Z L xs mX7_desk 36 [some (.ref 136), some (.int x1), some (.int x2), some (.int x3)] [] I J z Φ := by
  refine Ev.blk (ops := [o0 (.aload_n 0) 1, oK (.getfield 13) 3 7 10, o0 (.iload_n 3) 1, oI (.iconst 0) 1 0, o0 (.iastore) 1, oI (.iinc 3 1) 3 1, oK (.goto (-20)) 3 26 0]) (G := True ∧ (kd 136 = 7) ∧ True ∧ True ∧ (kd 138 = 8 ∧ vp_in x3 (ln 138)) ∧ True ∧ True ∧ True) (by decide +kernel) ?_ ⟨trivial, (by decide), trivial, trivial, ⟨(by decide), g1⟩, trivial, trivial, trivial⟩ k
  rfl
theorem BX7_desk_49 {d Z L : Nat} {xs : Nat → Int32} {z : Nat} {Φ : Out → T2 → T3 → Nat → Prop} {I : T2} {J : T3} {x1 : Int32} {x2 : Int32} {x3 : Int32}  
    (k : Ev d Z L xs mX7_desk 50 [some (.ref 136), some (.int x1), some (.int x2), some (.int x3)] [.int x2] I J z Φ) : Ev d Z L xs mX7_desk 49 [some (.ref 136), some (.int x1), some (.int x2), some (.int x3)] [] I J z Φ := by
  refine Ev.blk (ops := [o0 (.iload_n 2) 1]) (G := True ∧ True) (by decide +kernel) ?_ ⟨trivial, trivial⟩ k
  rfl
theorem BX7_about_0 {d Z L : Nat} {xs : Nat → Int32} {z : Nat} {Φ : Out → T2 → T3 → Nat → Prop} {I : T2} {J : T3} {x1 : Int32} {x2 : Int32}  
    (k : Ev d Z L xs mX7_about 3 [some (.ref 136), some (.int x1), some (.int x2)] [.int x1, .ref 136, .ref 136] I J z Φ) : Ev d Z L xs mX7_about 0 [some (.ref 136), some (.int x1), some (.int x2)] [] I J z Φ := by
  refine Ev.blk (ops := [o0 (.aload_n 0) 1, o0 (.aload_n 0) 1, o0 (.iload_n 1) 1]) (G := True ∧ True ∧ True ∧ True) (by decide +kernel) ?_ ⟨trivial, trivial, trivial, trivial⟩ k
  rfl
theorem BX7_about_9 {d Z L : Nat} {xs : Nat → Int32} {z : Nat} {Φ : Out → T2 → T3 → Nat → Prop} {I : T2} {J : T3} {x1 : Int32} {x2 : Int32}  
    (k : Ev d Z L xs mX7_about 27 [some (.ref 136), some (.int x1), some (.int x2)] [.int 1, .ref 136] I J z Φ) : Ev d Z L xs mX7_about 9 [some (.ref 136), some (.int x1), some (.int x2)] [.ref 136] I J z Φ := by
  refine Ev.blk (ops := [oI (.iconst 1) 1 1, oK (.goto 17) 3 27 0]) (G := True ∧ True ∧ True) (by decide +kernel) ?_ ⟨trivial, trivial, trivial⟩ k
  rfl
theorem BX7_about_13 {d Z L : Nat} {xs : Nat → Int32} {z : Nat} {Φ : Out → T2 → T3 → Nat → Prop} {I : T2} {J : T3} {x1 : Int32} {x2 : Int32}  
    (k : Ev d Z L xs mX7_about 14 [some (.ref 136), some (.int x1), some (.int x2)] [.int x2, .ref 136] I J z Φ) : Ev d Z L xs mX7_about 13 [some (.ref 136), some (.int x1), some (.int x2)] [.ref 136] I J z Φ := by
  refine Ev.blk (ops := [o0 (.iload_n 2) 1]) (G := True ∧ True) (by decide +kernel) ?_ ⟨trivial, trivial⟩ k
  rfl
theorem BX7_about_17 {d Z L : Nat} {xs : Nat → Int32} {z : Nat} {Φ : Out → T2 → T3 → Nat → Prop} {I : T2} {J : T3} {x1 : Int32} {x2 : Int32}  
    (k : Ev d Z L xs mX7_about 19 [some (.ref 136), some (.int x1), some (.int x2)] [.int 2, .int x2, .ref 136] I J z Φ) : Ev d Z L xs mX7_about 17 [some (.ref 136), some (.int x1), some (.int x2)] [.ref 136] I J z Φ := by
  refine Ev.blk (ops := [o0 (.iload_n 2) 1, oI (.iconst 2) 1 2]) (G := True ∧ True ∧ True) (by decide +kernel) ?_ ⟨trivial, trivial, trivial⟩ k
  rfl
theorem BX7_about_22 {d Z L : Nat} {xs : Nat → Int32} {z : Nat} {Φ : Out → T2 → T3 → Nat → Prop} {I : T2} {J : T3} {x1 : Int32} {x2 : Int32}  
    (k : Ev d Z L xs mX7_about 27 [some (.ref 136), some (.int x1), some (.int x2)] [.int 2, .ref 136] I J z Φ) : Ev d Z L xs mX7_about 22 [some (.ref 136), some (.int x1), some (.int x2)] [.ref 136] I J z Φ := by
  refine Ev.blk (ops := [oI (.iconst 2) 1 2, oK (.goto 4) 3 27 0]) (G := True ∧ True ∧ True) (by decide +kernel) ?_ ⟨trivial, trivial, trivial⟩ k
  rfl
theorem BX7_about_26 {d Z L : Nat} {xs : Nat → Int32} {z : Nat} {Φ : Out → T2 → T3 → Nat → Prop} {I : T2} {J : T3} {x1 : Int32} {x2 : Int32}  
    (k : Ev d Z L xs mX7_about 27 [some (.ref 136), some (.int x1), some (.int x2)] [.int 0, .ref 136] I J z Φ) : Ev d Z L xs mX7_about 26 [some (.ref 136), some (.int x1), some (.int x2)] [.ref 136] I J z Φ := by
  refine Ev.blk (ops := [oI (.iconst 0) 1 0]) (G := True ∧ True) (by decide +kernel) ?_ ⟨trivial, trivial⟩ k
  rfl
theorem BX7_about_27 {d Z L : Nat} {xs : Nat → Int32} {z : Nat} {Φ : Out → T2 → T3 → Nat → Prop} {I : T2} {J : T3} {x1 : Int32} {x2 : Int32} {xs1 : Int32}  
    (k : Ev d Z L xs mX7_about 34 [some (.ref 136), some (.int x1), some (.int x2)] [.int ((up2 I 136 0 xs1) 136 0)] (up2 I 136 0 xs1) J z Φ) : Ev d Z L xs mX7_about 27 [some (.ref 136), some (.int x1), some (.int x2)] [.int xs1, .ref 136] I J z Φ := by
  refine Ev.blk (ops := [oK (.putfield 79) 3 7 0, o0 (.aload_n 0) 1, oK (.getfield 79) 3 7 0]) (G := (kd 136 = 7) ∧ True ∧ (kd 136 = 7) ∧ True) (by decide +kernel) ?_ ⟨(by decide), trivial, (by decide), trivial⟩ k
  rfl
theorem BX7_about_37 {d Z L : Nat} {xs : Nat → Int32} {z : Nat} {Φ : Out → T2 → T3 → Nat → Prop} {I : T2} {J : T3} {x1 : Int32} {x2 : Int32}  
    (k : Ev d Z L xs mX7_about 38 [some (.ref 136), some (.int x1), some (.int x2)] [.long 0] I J z Φ) : Ev d Z L xs mX7_about 37 [some (.ref 136), some (.int x1), some (.int x2)] [] I J z Φ := by
  refine Ev.blk (ops := [oL (.lconst 0) 1 0]) (G := True ∧ True) (by decide +kernel) ?_ ⟨trivial, trivial⟩ k
  rfl
theorem BX7_about_39 {d Z L : Nat} {xs : Nat → Int32} {z : Nat} {Φ : Out → T2 → T3 → Nat → Prop} {I : T2} {J : T3} {x1 : Int32} {x2 : Int32}  
    (k : Ev d Z L xs mX7_about 40 [some (.ref 136), some (.int x1), some (.int x2)] [.int x2] I J z Φ) : Ev d Z L xs mX7_about 39 [some (.ref 136), some (.int x1), some (.int x2)] [] I J z Φ := by
  refine Ev.blk (ops := [o0 (.iload_n 2) 1]) (G := True ∧ True) (by decide +kernel) ?_ ⟨trivial, trivial⟩ k
  rfl
theorem BX7_about_43 {d Z L : Nat} {xs : Nat → Int32} {z : Nat} {Φ : Out → T2 → T3 → Nat → Prop} {I : T2} {J : T3} {x1 : Int32} {x2 : Int32}  (g1 : vp_in x1 8)
    (k : Ev d Z L xs mX7_about 81 [some (.ref 136), some (.int x1), some (.int x2)] [.long (J 141 x1.toNatClampNeg)] I J z Φ) : Ev d Z L xs mX7_about 43 [some (.ref 136), some (.int x1), some (.int x2)] [] I J z Φ := by
  refine Ev.blk (ops := [o0 (.aload_n 0) 1, oK (.getfield 22) 3 7 13, o0 (.iload_n 1) 1, o0 (.laload) 1, oK (.goto 32) 3 81 0]) (G := True ∧ (kd 136 = 7) ∧ True ∧ (kd 141 = 9 ∧ vp_in x1 (ln 141)) ∧ True ∧ True) (by decide +kernel) ?_ ⟨trivial, (by decide), trivial, ⟨(by decide), g1⟩, trivial, trivial⟩ k
  rfl
theorem BX7_about_52 {d Z L : Nat} {xs : Nat → Int32} {z : Nat} {Φ : Out → T2 → T3 → Nat → Prop} {I : T2} {J : T3} {x1 : Int32} {x2 : Int32}  
    (k : Ev d Z L xs mX7_about 54 [some (.ref 136), some (.int x1), some (.int x2)] [.int 1, .int x2] I J z Φ) : Ev d Z L xs mX7_about 52 [some (.ref 136), some (.int x1), some (.int x2)] [] I J z Φ := by
  refine Ev.blk (ops := [o0 (.iload_n 2) 1, oI (.iconst 1) 1 1]) (G := True ∧ True ∧ True) (by decide +kernel) ?_ ⟨trivial, trivial, trivial⟩ k
  rfl
theorem BX7_about_57 {d Z L : Nat} {xs : Nat → Int32} {z : Nat} {Φ : Out → T2 → T3 → Nat → Prop} {I : T2} {J : T3} {x1 : Int32} {x2 : Int32}  (g1 : vp_in x1 8)
    (k : Ev d Z L xs mX7_about 81 [some (.ref 136), some (.int x1), some (.int x2)] [.long ((I 142 x1.toNatClampNeg).toInt64)] I J z Φ) : Ev d Z L xs mX7_about 57 [some (.ref 136), some (.int x1), some (.int x2)] [] I J z Φ := by
  refine Ev.blk (ops := [o0 (.aload_n 0) 1, oK (.getfield 26) 3 7 14, o0 (.iload_n 1) 1, o0 (.iaload) 1, o0 (.i2l) 1, oK (.goto 17) 3 81 0]) (G := True ∧ (kd 136 = 7) ∧ True ∧ (kd 142 = 8 ∧ vp_in x1 (ln 142)) ∧ True ∧ True ∧ True) (by decide +kernel) ?_ ⟨trivial, (by decide), trivial, ⟨(by decide), g1⟩, trivial, trivial, trivial⟩ k
  rfl
theorem BX7_about_67 {d Z L : Nat} {xs : Nat → Int32} {z : Nat} {Φ : Out → T2 → T3 → Nat → Prop} {I : T2} {J : T3} {x1 : Int32} {x2 : Int32}  (g1 : vp_in x1 8)
    (k : Ev d Z L xs mX7_about 73 [some (.ref 136), some (.int x1), some (.int x2)] [.int (I 143 x1.toNatClampNeg)] I J z Φ) : Ev d Z L xs mX7_about 67 [some (.ref 136), some (.int x1), some (.int x2)] [] I J z Φ := by
  refine Ev.blk (ops := [o0 (.aload_n 0) 1, oK (.getfield 29) 3 7 15, o0 (.iload_n 1) 1, o0 (.baload) 1]) (G := True ∧ (kd 136 = 7) ∧ True ∧ (kd 143 = 10 ∧ vp_in x1 (ln 143)) ∧ True) (by decide +kernel) ?_ ⟨trivial, (by decide), trivial, ⟨(by decide), g1⟩, trivial⟩ k
  rfl
theorem BX7_about_76 {d Z L : Nat} {xs : Nat → Int32} {z : Nat} {Φ : Out → T2 → T3 → Nat → Prop} {I : T2} {J : T3} {x1 : Int32} {x2 : Int32}  
    (k : Ev d Z L xs mX7_about 81 [some (.ref 136), some (.int x1), some (.int x2)] [.long 0] I J z Φ) : Ev d Z L xs mX7_about 76 [some (.ref 136), some (.int x1), some (.int x2)] [] I J z Φ := by
  refine Ev.blk (ops := [oL (.lconst 0) 1 0, oK (.goto 4) 3 81 0]) (G := True ∧ True ∧ True) (by decide +kernel) ?_ ⟨trivial, trivial, trivial⟩ k
  rfl
theorem BX7_about_80 {d Z L : Nat} {xs : Nat → Int32} {z : Nat} {Φ : Out → T2 → T3 → Nat → Prop} {I : T2} {J : T3} {x1 : Int32} {x2 : Int32}  
    (k : Ev d Z L xs mX7_about 81 [some (.ref 136), some (.int x1), some (.int x2)] [.long 1] I J z Φ) : Ev d Z L xs mX7_about 80 [some (.ref 136), some (.int x1), some (.int x2)] [] I J z Φ := by
  refine Ev.blk (ops := [oL (.lconst 1) 1 1]) (G := True ∧ True) (by decide +kernel) ?_ ⟨trivial, trivial⟩ k
  rfl
theorem BX7_has_0 {d Z L : Nat} {xs : Nat → Int32} {z : Nat} {Φ : Out → T2 → T3 → Nat → Prop} {I : T2} {J : T3} {x1 : Int32} {x2 : Int32} {x3 : Int32}  
    (k : Ev d Z L xs mX7_has 3 [some (.ref 136), some (.int x1), some (.int x2), some (.int x3), none] [.int x1, .ref 136, .ref 136] I J z Φ) : Ev d Z L xs mX7_has 0 [some (.ref 136), some (.int x1), some (.int x2), some (.int x3), none] [] I J z Φ := by
  refine Ev.blk (ops := [o0 (.aload_n 0) 1, o0 (.aload_n 0) 1, o0 (.iload_n 1) 1]) (G := True ∧ True ∧ True ∧ True) (by decide +kernel) ?_ ⟨trivial, trivial, trivial, trivial⟩ k
  rfl
theorem BX7_has_9 {d Z L : Nat} {xs : Nat → Int32} {z : Nat} {Φ : Out → T2 → T3 → Nat → Prop} {I : T2} {J : T3} {x1 : Int32} {x2 : Int32} {x3 : Int32}  
    (k : Ev d Z L xs mX7_has 27 [some (.ref 136), some (.int x1), some (.int x2), some (.int x3), none] [.int 1, .ref 136] I J z Φ) : Ev d Z L xs mX7_has 9 [some (.ref 136), some (.int x1), some (.int x2), some (.int x3), none] [.ref 136] I J z Φ := by
  refine Ev.blk (ops := [oI (.iconst 1) 1 1, oK (.goto 17) 3 27 0]) (G := True ∧ True ∧ True) (by decide +kernel) ?_ ⟨trivial, trivial, trivial⟩ k
  rfl
theorem BX7_has_13 {d Z L : Nat} {xs : Nat → Int32} {z : Nat} {Φ : Out → T2 → T3 → Nat → Prop} {I : T2} {J : T3} {x1 : Int32} {x2 : Int32} {x3 : Int32}  
    (k : Ev d Z L xs mX7_has 14 [some (.ref 136), some (.int x1), some (.int x2), some (.int x3), none] [.int x3, .ref 136] I J z Φ) : Ev d Z L xs mX7_has 13 [some (.ref 136), some (.int x1), some (.int x2), some (.int x3), none] [.ref 136] I J z Φ := by
  refine Ev.blk (ops := [o0 (.iload_n 3) 1]) (G := True ∧ True) (by decide +kernel) ?_ ⟨trivial, trivial⟩ k
  rfl
theorem BX7_has_17 {d Z L : Nat} {xs : Nat → Int32} {z : Nat} {Φ : Out → T2 → T3 → Nat → Prop} {I : T2} {J : T3} {x1 : Int32} {x2 : Int32} {x3 : Int32}  
    (k : Ev d Z L xs mX7_has 19 [some (.ref 136), some (.int x1), some (.int x2), some (.int x3), none] [.int 2, .int x3, .ref 136] I J z Φ) : Ev d Z L xs mX7_has 17 [some (.ref 136), some (.int x1), some (.int x2), some (.int x3), none] [.ref 136] I J z Φ := by
  refine Ev.blk (ops := [o0 (.iload_n 3) 1, oI (.iconst 2) 1 2]) (G := True ∧ True ∧ True) (by decide +kernel) ?_ ⟨trivial, trivial, trivial⟩ k
  rfl
theorem BX7_has_22 {d Z L : Nat} {xs : Nat → Int32} {z : Nat} {Φ : Out → T2 → T3 → Nat → Prop} {I : T2} {J : T3} {x1 : Int32} {x2 : Int32} {x3 : Int32}  
    (k : Ev d Z L xs mX7_has 27 [some (.ref 136), some (.int x1), some (.int x2), some (.int x3), none] [.int 2, .ref 136] I J z Φ) : Ev d Z L xs mX7_has 22 [some (.ref 136), some (.int x1), some (.int x2), some (.int x3), none] [.ref 136] I J z Φ := by
  refine Ev.blk (ops := [oI (.iconst 2) 1 2, oK (.goto 4) 3 27 0]) (G := True ∧ True ∧ True) (by decide +kernel) ?_ ⟨trivial, trivial, trivial⟩ k
  rfl
theorem BX7_has_26 {d Z L : Nat} {xs : Nat → Int32} {z : Nat} {Φ : Out → T2 → T3 → Nat → Prop} {I : T2} {J : T3} {x1 : Int32} {x2 : Int32} {x3 : Int32}  
    (k : Ev d Z L xs mX7_has 27 [some (.ref 136), some (.int x1), some (.int x2), some (.int x3), none] [.int 0, .ref 136] I J z Φ) : Ev d Z L xs mX7_has 26 [some (.ref 136), some (.int x1), some (.int x2), some (.int x3), none] [.ref 136] I J z Φ := by
  refine Ev.blk (ops := [oI (.iconst 0) 1 0]) (G := True ∧ True) (by decide +kernel) ?_ ⟨trivial, trivial⟩ k
  rfl
theorem BX7_has_27 {d Z L : Nat} {xs : Nat → Int32} {z : Nat} {Φ : Out → T2 → T3 → Nat → Prop} {I : T2} {J : T3} {x1 : Int32} {x2 : Int32} {x3 : Int32} {xs1 : Int32}  
    (k : Ev d Z L xs mX7_has 34 [some (.ref 136), some (.int x1), some (.int x2), some (.int x3), none] [.int ((up2 I 136 0 xs1) 136 0)] (up2 I 136 0 xs1) J z Φ) : Ev d Z L xs mX7_has 27 [some (.ref 136), some (.int x1), some (.int x2), some (.int x3), none] [.int xs1, .ref 136] I J z Φ := by
  refine Ev.blk (ops := [oK (.putfield 79) 3 7 0, o0 (.aload_n 0) 1, oK (.getfield 79) 3 7 0]) (G := (kd 136 = 7) ∧ True ∧ (kd 136 = 7) ∧ True) (by decide +kernel) ?_ ⟨(by decide), trivial, (by decide), trivial⟩ k
  rfl
theorem BX7_has_37 {d Z L : Nat} {xs : Nat → Int32} {z : Nat} {Φ : Out → T2 → T3 → Nat → Prop} {I : T2} {J : T3} {x1 : Int32} {x2 : Int32} {x3 : Int32}  
    (k : Ev d Z L xs mX7_has 51 [some (.ref 136), some (.int x1), some (.int x2), some (.int x3), none] [.int (-1)] I J z Φ) : Ev d Z L xs mX7_has 37 [some (.ref 136), some (.int x1), some (.int x2), some (.int x3), none] [] I J z Φ := by
  refine Ev.blk (ops := [oI (.iconst (-1)) 1 (-1), oK (.goto 13) 3 51 0]) (G := True ∧ True ∧ True) (by decide +kernel) ?_ ⟨trivial, trivial, trivial⟩ k
  rfl
theorem BX7_has_41 {d Z L : Nat} {xs : Nat → Int32} {z : Nat} {Φ : Out → T2 → T3 → Nat → Prop} {I : T2} {J : T3} {x1 : Int32} {x2 : Int32} {x3 : Int32}  (g1 : vp_in x1 8)
    (k : Ev d Z L xs mX7_has 48 [some (.ref 136), some (.int x1), some (.int x2), some (.int x3), none] [.int (I 142 x1.toNatClampNeg), .int x2] I J z Φ) : Ev d Z L xs mX7_has 41 [some (.ref 136), some (.int x1), some (.int x2), some (.int x3), none] [] I J z Φ := by
  refine Ev.blk (ops := [o0 (.iload_n 2) 1, o0 (.aload_n 0) 1, oK (.getfield 26) 3 7 14, o0 (.iload_n 1) 1, o0 (.iaload) 1]) (G := True ∧ True ∧ (kd 136 = 7) ∧ True ∧ (kd 142 = 8 ∧ vp_in x1 (ln 142)) ∧ True) (by decide +kernel) ?_ ⟨trivial, trivial, (by decide), trivial, ⟨(by decide), g1⟩, trivial⟩ k
  rfl
theorem BX7_has_51 {d Z L : Nat} {xs : Nat → Int32} {z : Nat} {Φ : Out → T2 → T3 → Nat → Prop} {I : T2} {J : T3} {x1 : Int32} {x2 : Int32} {x3 : Int32} {xs0 : Int32}  
    (k : Ev d Z L xs mX7_has 55 [some (.ref 136), some (.int x1), some (.int x2), some (.int x3), some (.int xs0)] [.int xs0] I J z Φ) : Ev d Z L xs mX7_has 51 [some (.ref 136), some (.int x1), some (.int x2), some (.int x3), none] [.int xs0] I J z Φ := by
  refine Ev.blk (ops := [o0 (.istore 4) 2, o0 (.iload 4) 2]) (G := True ∧ True ∧ True) (by decide +kernel) ?_ ⟨trivial, trivial, trivial⟩ k
  rfl
theorem BX7_has_58 {d Z L : Nat} {xs : Nat → Int32} {z : Nat} {Φ : Out → T2 → T3 → Nat → Prop} {I : T2} {J : T3} {x1 : Int32} {x2 : Int32} {x3 : Int32} {x4 : Int32}  
    (k : Ev d Z L xs mX7_has 59 [some (.ref 136), some (.int x1), some (.int x2), some (.int x3), some (.int x4)] [.int 0] I J z Φ) : Ev d Z L xs mX7_has 58 [some (.ref 136), some (.int x1), some (.int x2), some (.int x3), some (.int x4)] [] I J z Φ := by
  refine Ev.blk (ops := [oI (.iconst 0) 1 0]) (G := True ∧ True) (by decide +kernel) ?_ ⟨trivial, trivial⟩ k
  rfl
theorem BX7_has_60 {d Z L : Nat} {xs : Nat → Int32} {z : Nat} {Φ : Out → T2 → T3 → Nat → Prop} {I : T2} {J : T3} {x1 : Int32} {x2 : Int32} {x3 : Int32} {x4 : Int32}  
    (k : Ev d Z L xs mX7_has 61 [some (.ref 136), some (.int x1), some (.int x2), some (.int x3), some (.int x4)] [.int x3] I J z Φ) : Ev d Z L xs mX7_has 60 [some (.ref 136), some (.int x1), some (.int x2), some (.int x3), some (.int x4)] [] I J z Φ := by
  refine Ev.blk (ops := [o0 (.iload_n 3) 1]) (G := True ∧ True) (by decide +kernel) ?_ ⟨trivial, trivial⟩ k
  rfl
theorem BX7_has_64 {d Z L : Nat} {xs : Nat → Int32} {z : Nat} {Φ : Out → T2 → T3 → Nat → Prop} {I : T2} {J : T3} {x1 : Int32} {x2 : Int32} {x3 : Int32} {x4 : Int32}  (g1 : vp_in ((3 * x1) + x4) 24)
    (k : Ev d Z L xs mX7_has 108 [some (.ref 136), some (.int x1), some (.int x2), some (.int x3), some (.int x4)] [.int (I 144 ((3 * x1) + x4).toNatClampNeg)] I J z Φ) : Ev d Z L xs mX7_has 64 [some (.ref 136), some (.int x1), some (.int x2), some (.int x3), some (.int x4)] [] I J z Φ := by
  refine Ev.blk (ops := [o0 (.aload_n 0) 1, oK (.getfield 33) 3 7 16, oI (.iconst 3) 1 3, o0 (.iload_n 1) 1, o0 (.imul) 1, o0 (.iload 4) 2, o0 (.iadd) 1, o0 (.iaload) 1, oK (.goto 33) 3 108 0]) (G := True ∧ (kd 136 = 7) ∧ True ∧ True ∧ True ∧ True ∧ True ∧ (kd 144 = 8 ∧ vp_in ((3 * x1) + x4) (ln 144)) ∧ True ∧ True) (by decide +kernel) ?_ ⟨trivial, (by decide), trivial, trivial, trivial, trivial, trivial, ⟨(by decide), g1⟩, trivial, trivial⟩ k
  rfl
theorem BX7_has_78 {d Z L : Nat} {xs : Nat → Int32} {z : Nat} {Φ : Out → T2 → T3 → Nat → Prop} {I : T2} {J : T3} {x1 : Int32} {x2 : Int32} {x3 : Int32} {x4 : Int32}  
    (k : Ev d Z L xs mX7_has 80 [some (.ref 136), some (.int x1), some (.int x2), some (.int x3), some (.int x4)] [.int 1, .int x3] I J z Φ) : Ev d Z L xs mX7_has 78 [some (.ref 136), some (.int x1), some (.int x2), some (.int x3), some (.int x4)] [] I J z Φ := by
  refine Ev.blk (ops := [o0 (.iload_n 3) 1, oI (.iconst 1) 1 1]) (G := True ∧ True ∧ True) (by decide +kernel) ?_ ⟨trivial, trivial, trivial⟩ k
  rfl
theorem BX7_has_83 {d Z L : Nat} {xs : Nat → Int32} {z : Nat} {Φ : Out → T2 → T3 → Nat → Prop} {I : T2} {J : T3} {x1 : Int32} {x2 : Int32} {x3 : Int32} {x4 : Int32}  (g1 : vp_in ((3 * x1) + x4) 24)
    (k : Ev d Z L xs mX7_has 108 [some (.ref 136), some (.int x1), some (.int x2), some (.int x3), some (.int x4)] [.int (I 145 ((3 * x1) + x4).toNatClampNeg)] I J z Φ) : Ev d Z L xs mX7_has 83 [some (.ref 136), some (.int x1), some (.int x2), some (.int x3), some (.int x4)] [] I J z Φ := by
  refine Ev.blk (ops := [o0 (.aload_n 0) 1, oK (.getfield 36) 3 7 17, oI (.iconst 3) 1 3, o0 (.iload_n 1) 1, o0 (.imul) 1, o0 (.iload 4) 2, o0 (.iadd) 1, o0 (.iaload) 1, oK (.goto 14) 3 108 0]) (G := True ∧ (kd 136 = 7) ∧ True ∧ True ∧ True ∧ True ∧ True ∧ (kd 145 = 8 ∧ vp_in ((3 * x1) + x4) (ln 145)) ∧ True ∧ True) (by decide +kernel) ?_ ⟨trivial, (by decide), trivial, trivial, trivial, trivial, trivial, ⟨(by decide), g1⟩, trivial, trivial⟩ k
  rfl
theorem BX7_has_97 {d Z L : Nat} {xs : Nat → Int32} {z : Nat} {Φ : Out → T2 → T3 → Nat → Prop} {I : T2} {J : T3} {x1 : Int32} {x2 : Int32} {x3 : Int32} {x4 : Int32}  (g1 : vp_in ((3 * x1) + x4) 24)
    (k : Ev d Z L xs mX7_has 108 [some (.ref 136), some (.int x1), some (.int x2), some (.int x3), some (.int x4)] [.int (I 146 ((3 * x1) + x4).toNatClampNeg)] I J z Φ) : Ev d Z L xs mX7_has 97 [some (.ref 136), some (.int x1), some (.int x2), some (.int x3), some (.int x4)] [] I J z Φ := by
  refine Ev.blk (ops := [o0 (.aload_n 0) 1, oK (.getfield 39) 3 7 18, oI (.iconst 3) 1 3, o0 (.iload_n 1) 1, o0 (.imul) 1, o0 (.iload 4) 2, o0 (.iadd) 1, o0 (.iaload) 1]) (G := True ∧ (kd 136 = 7) ∧ True ∧ True ∧ True ∧ True ∧ True ∧ (kd 146 = 8 ∧ vp_in ((3 * x1) + x4) (ln 146)) ∧ True) (by decide +kernel) ?_ ⟨trivial, (by decide), trivial, trivial, trivial, trivial, trivial, ⟨(by decide), g1⟩, trivial⟩ k
  rfl
theorem BX7_there_0 {d Z L : Nat} {xs : Nat → Int32} {z : Nat} {Φ : Out → T2 → T3 → Nat → Prop} {I : T2} {J : T3} {x1 : Int32}  
    (k : Ev d Z L xs mX7_there 10 [some (.ref 136), some (.int x1), none] [.int ((up2 I 136 0 0) 136 8), .int x1] (up2 I 136 0 0) J z Φ) : Ev d Z L xs mX7_there 0 [some (.ref 136), some (.int x1), none] [] I J z Φ := by
  refine Ev.blk (ops := [o0 (.aload_n 0) 1, oI (.iconst 0) 1 0, oK (.putfield 79) 3 7 0, o0 (.iload_n 1) 1, o0 (.aload_n 0) 1, oK (.getfield 106) 3 7 8]) (G := True ∧ True ∧ (kd 136 = 7) ∧ True ∧ True ∧ (kd 136 = 7) ∧ True) (by decide +kernel) ?_ ⟨trivial, trivial, (by decide), trivial, trivial, (by decide), trivial⟩ k
  rfl
theorem BX7_there_13 {d Z L : Nat} {xs : Nat → Int32} {z : Nat} {Φ : Out → T2 → T3 → Nat → Prop} {I : T2} {J : T3} {x1 : Int32} {xs0 : Int32}  
    (k : Ev d Z L xs mX7_there 15 [some (.ref 136), some (.int x1), some (.int xs0)] [.int xs0] I J z Φ) : Ev d Z L xs mX7_there 13 [some (.ref 136), some (.int x1), none] [.int xs0] I J z Φ := by
  refine Ev.blk (ops := [o0 (.istore_n 2) 1, o0 (.iload_n 2) 1]) (G := True ∧ True ∧ True) (by decide +kernel) ?_ ⟨trivial, trivial, trivial⟩ k
  rfl
theorem BX7_there_18 {d Z L : Nat} {xs : Nat → Int32} {z : Nat} {Φ : Out → T2 → T3 → Nat → Prop} {I : T2} {J : T3} {x1 : Int32} {x2 : Int32}  
    (k : Ev d Z L xs mX7_there 28 [some (.ref 136), some (.int x1), some (.int x2)] [.int 0] I J z Φ) : Ev d Z L xs mX7_there 18 [some (.ref 136), some (.int x1), some (.int x2)] [] I J z Φ := by
  refine Ev.blk (ops := [oI (.iconst 0) 1 0, oK (.goto 9) 3 28 0]) (G := True ∧ True ∧ True) (by decide +kernel) ?_ ⟨trivial, trivial, trivial⟩ k
  rfl
theorem BX7_there_22 {d Z L : Nat} {xs : Nat → Int32} {z : Nat} {Φ : Out → T2 → T3 → Nat → Prop} {I : T2} {J : T3} {x1 : Int32} {x2 : Int32}  (g1 : vp_in x2 3)
    (k : Ev d Z L xs mX7_there 28 [some (.ref 136), some (.int x1), some (.int x2)] [.int (I 137 x2.toNatClampNeg)] I J z Φ) : Ev d Z L xs mX7_there 22 [some (.ref 136), some (.int x1), some (.int x2)] [] I J z Φ := by
  refine Ev.blk (ops := [o0 (.aload_n 0) 1, oK (.getfield 7) 3 7 9, o0 (.iload_n 2) 1, o0 (.iaload) 1]) (G := True ∧ (kd 136 = 7) ∧ True ∧ (kd 137 = 8 ∧ vp_in x2 (ln 137)) ∧ True) (by decide +kernel) ?_ ⟨trivial, (by decide), trivial, ⟨(by decide), g1⟩, trivial⟩ k
  rfl
theorem BX7_used_0 {d Z L : Nat} {xs : Nat → Int32} {z : Nat} {Φ : Out → T2 → T3 → Nat → Prop} {I : T2} {J : T3} {x1 : Int32}  
    (k : Ev d Z L xs mX7_used 6 [some (.ref 136), some (.int x1)] [.int x1] (up2 I 136 0 0) J z Φ) : Ev d Z L xs mX7_used 0 [some (.ref 136), some (.int x1)] [] I J z Φ := by
  refine Ev.blk (ops := [o0 (.aload_n 0) 1, oI (.iconst 0) 1 0, oK (.putfield 79) 3 7 0, o0 (.iload_n 1) 1]) (G := True ∧ True ∧ (kd 136 = 7) ∧ True ∧ True) (by decide +kernel) ?_ ⟨trivial, trivial, (by decide), trivial, trivial⟩ k
  rfl
theorem BX7_used_9 {d Z L : Nat} {xs : Nat → Int32} {z : Nat} {Φ : Out → T2 → T3 → Nat → Prop} {I : T2} {J : T3} {x1 : Int32}  
    (k : Ev d Z L xs mX7_used 13 [some (.ref 136), some (.int x1)] [.int 200, .int x1] I J z Φ) : Ev d Z L xs mX7_used 9 [some (.ref 136), some (.int x1)] [] I J z Φ := by
  refine Ev.blk (ops := [o0 (.iload_n 1) 1, oI (.sipush 200) 3 200]) (G := True ∧ True ∧ True) (by decide +kernel) ?_ ⟨trivial, trivial, trivial⟩ k
  rfl
theorem BX7_used_16 {d Z L : Nat} {xs : Nat → Int32} {z : Nat} {Φ : Out → T2 → T3 → Nat → Prop} {I : T2} {J : T3} {x1 : Int32}  (g1 : vp_in x1 200)
    (k : Ev d Z L xs mX7_used 26 [some (.ref 136), some (.int x1)] [.int (I 152 x1.toNatClampNeg)] I J z Φ) : Ev d Z L xs mX7_used 16 [some (.ref 136), some (.int x1)] [] I J z Φ := by
  refine Ev.blk (ops := [o0 (.aload_n 0) 1, oK (.getfield 57) 3 7 25, o0 (.iload_n 1) 1, o0 (.iaload) 1, oK (.goto 4) 3 26 0]) (G := True ∧ (kd 136 = 7) ∧ True ∧ (kd 152 = 8 ∧ vp_in x1 (ln 152)) ∧ True ∧ True) (by decide +kernel) ?_ ⟨trivial, (by decide), trivial, ⟨(by decide), g1⟩, trivial, trivial⟩ k
  rfl
theorem BX7_used_25 {d Z L : Nat} {xs : Nat → Int32} {z : Nat} {Φ : Out → T2 → T3 → Nat → Prop} {I : T2} {J : T3} {x1 : Int32}  
    (k : Ev d Z L xs mX7_used 26 [some (.ref 136), some (.int x1)] [.int 0] I J z Φ) : Ev d Z L xs mX7_used 25 [some (.ref 136), some (.int x1)] [] I J z Φ := by
  refine Ev.blk (ops := [oI (.iconst 0) 1 0]) (G := True ∧ True) (by decide +kernel) ?_ ⟨trivial, trivial⟩ k
  rfl
theorem BX7_count_0 {d Z L : Nat} {xs : Nat → Int32} {z : Nat} {Φ : Out → T2 → T3 → Nat → Prop} {I : T2} {J : T3} {x1 : Int32}  
    (k : Ev d Z L xs mX7_count 2 [some (.ref 136), some (.int x1), none, none] [.int x1, .ref 136] I J z Φ) : Ev d Z L xs mX7_count 0 [some (.ref 136), some (.int x1), none, none] [] I J z Φ := by
  refine Ev.blk (ops := [o0 (.aload_n 0) 1, o0 (.iload_n 1) 1]) (G := True ∧ True ∧ True) (by decide +kernel) ?_ ⟨trivial, trivial, trivial⟩ k
  rfl
theorem BX7_count_5 {d Z L : Nat} {xs : Nat → Int32} {z : Nat} {Φ : Out → T2 → T3 → Nat → Prop} {I : T2} {J : T3} {x1 : Int32}  
    (k : Ev d Z L xs mX7_count 7 [some (.ref 136), some (.int x1), none, none] [.int 3, .int x1, .ref 136] I J z Φ) : Ev d Z L xs mX7_count 5 [some (.ref 136), some (.int x1), none, none] [.ref 136] I J z Φ := by
  refine Ev.blk (ops := [o0 (.iload_n 1) 1, oI (.iconst 3) 1 3]) (G := True ∧ True ∧ True) (by decide +kernel) ?_ ⟨trivial, trivial, trivial⟩ k
  rfl
theorem BX7_count_10 {d Z L : Nat} {xs : Nat → Int32} {z : Nat} {Φ : Out → T2 → T3 → Nat → Prop} {I : T2} {J : T3} {x1 : Int32}  
    (k : Ev d Z L xs mX7_count 15 [some (.ref 136), some (.int x1), none, none] [.int 0, .ref 136] I J z Φ) : Ev d Z L xs mX7_count 10 [some (.ref 136), some (.int x1), none, none] [.ref 136] I J z Φ := by
  refine Ev.blk (ops := [oI (.iconst 0) 1 0, oK (.goto 4) 3 15 0]) (G := True ∧ True ∧ True) (by decide +kernel) ?_ ⟨trivial, trivial, trivial⟩ k
  rfl
theorem BX7_count_14 {d Z L : Nat} {xs : Nat → Int32} {z : Nat} {Φ : Out → T2 → T3 → Nat → Prop} {I : T2} {J : T3} {x1 : Int32}  
    (k : Ev d Z L xs mX7_count 15 [some (.ref 136), some (.int x1), none, none] [.int 1, .ref 136] I J z Φ) : Ev d Z L xs mX7_count 14 [some (.ref 136), some (.int x1), none, none] [.ref 136] I J z Φ := by
  refine Ev.blk (ops := [oI (.iconst 1) 1 1]) (G := True ∧ True) (by decide +kernel) ?_ ⟨trivial, trivial⟩ k
  rfl
theorem BX7_count_15 {d Z L : Nat} {xs : Nat → Int32} {z : Nat} {Φ : Out → T2 → T3 → Nat → Prop} {I : T2} {J : T3} {x1 : Int32} {xs1 : Int32}  
    (k : Ev d Z L xs mX7_count 22 [some (.ref 136), some (.int x1), none, none] [.int ((up2 I 136 0 xs1) 136 0)] (up2 I 136 0 xs1) J z Φ) : Ev d Z L xs mX7_count 15 [some (.ref 136), some (.int x1), none, none] [.int xs1, .ref 136] I J z Φ := by
  refine Ev.blk (ops := [oK (.putfield 79) 3 7 0, o0 (.aload_n 0) 1, oK (.getfield 79) 3 7 0]) (G := (kd 136 = 7) ∧ True ∧ (kd 136 = 7) ∧ True) (by decide +kernel) ?_ ⟨(by decide), trivial, (by decide), trivial⟩ k
  rfl
theorem BX7_count_25 {d Z L : Nat} {xs : Nat → Int32} {z : Nat} {Φ : Out → T2 → T3 → Nat → Prop} {I : T2} {J : T3} {x1 : Int32}  
    (k : Ev d Z L xs mX7_count 26 [some (.ref 136), some (.int x1), none, none] [.int 0] I J z Φ) : Ev d Z L xs mX7_count 25 [some (.ref 136), some (.int x1), none, none] [] I J z Φ := by
  refine Ev.blk (ops := [oI (.iconst 0) 1 0]) (G := True ∧ True) (by decide +kernel) ?_ ⟨trivial, trivial⟩ k
  rfl
theorem BX7_count_27 {d Z L : Nat} {xs : Nat → Int32} {z : Nat} {Φ : Out → T2 → T3 → Nat → Prop} {I : T2} {J : T3} {x1 : Int32}  
    (k : Ev d Z L xs mX7_count 31 [some (.ref 136), some (.int x1), some (.int 0), some (.int 0)] [] I J z Φ) : Ev d Z L xs mX7_count 27 [some (.ref 136), some (.int x1), none, none] [] I J z Φ := by
  refine Ev.blk (ops := [oI (.iconst 0) 1 0, o0 (.istore_n 2) 1, oI (.iconst 0) 1 0, o0 (.istore_n 3) 1]) (G := True ∧ True ∧ True ∧ True ∧ True) (by decide +kernel) ?_ ⟨trivial, trivial, trivial, trivial, trivial⟩ k
  rfl
theorem BX7_count_31 {d Z L : Nat} {xs : Nat → Int32} {z : Nat} {Φ : Out → T2 → T3 → Nat → Prop} {I : T2} {J : T3} {x1 : Int32} {x2 : Int32} {x3 : Int32}  
    (k : Ev d Z L xs mX7_count 34 [some (.ref 136), some (.int x1), some (.int x2), some (.int x3)] [.int 24, .int x3] I J z Φ) : Ev d Z L xs mX7_count 31 [some (.ref 136), some (.int x1), some (.int x2), some (.int x3)] [] I J z Φ := by
  refine Ev.blk (ops := [o0 (.iload_n 3) 1, oI (.bipush 24) 2 24]) (G := True ∧ True ∧ True) (by decide +kernel) ?_ ⟨trivial, trivial, trivial⟩ k
  rfl
theorem BX7_count_37 {d Z L : Nat} {xs : Nat → Int32} {z : Nat} {Φ : Out → T2 → T3 → Nat → Prop} {I : T2} {J : T3} {x1 : Int32} {x2 : Int32} {x3 : Int32}  (g1 : vp_in x3 24)
    (k : Ev d Z L xs mX7_count 43 [some (.ref 136), some (.int x1), some (.int x2), some (.int x3)] [.int (I 138 x3.toNatClampNeg)] I J z Φ) : Ev d Z L xs mX7_count 37 [some (.ref 136), some (.int x1), some (.int x2), some (.int x3)] [] I J z Φ := by
  refine Ev.blk (ops := [o0 (.aload_n 0) 1, oK (.getfield 13) 3 7 10, o0 (.iload_n 3) 1, o0 (.iaload) 1]) (G := True ∧ (kd 136 = 7) ∧ True ∧ (kd 138 = 8 ∧ vp_in x3 (ln 138)) ∧ True) (by decide +kernel) ?_ ⟨trivial, (by decide), trivial, ⟨(by decide), g1⟩, trivial⟩ k
  rfl
theorem BX7_count_46 {d Z L : Nat} {xs : Nat → Int32} {z : Nat} {Φ : Out → T2 → T3 → Nat → Prop} {I : T2} {J : T3} {x1 : Int32} {x2 : Int32} {x3 : Int32}  
    (k : Ev d Z L xs mX7_count 53 [some (.ref 136), some (.int x1), some (.int x2), some (.int x3)] [.int (x2 + 1)] I J z Φ) : Ev d Z L xs mX7_count 46 [some (.ref 136), some (.int x1), some (.int x2), some (.int x3)] [] I J z Φ := by
  refine Ev.blk (ops := [o0 (.iload_n 2) 1, oI (.iconst 1) 1 1, o0 (.iadd) 1, oK (.goto 4) 3 53 0]) (G := True ∧ True ∧ True ∧ True ∧ True) (by decide +kernel) ?_ ⟨trivial, trivial, trivial, trivial, trivial⟩ k
  rfl
theorem BX7_count_52 {d Z L : Nat} {xs : Nat → Int32} {z : Nat} {Φ : Out → T2 → T3 → Nat → Prop} {I : T2} {J : T3} {x1 : Int32} {x2 : Int32} {x3 : Int32}  
    (k : Ev d Z L xs mX7_count 53 [some (.ref 136), some (.int x1), some (.int x2), some (.int x3)] [.int x2] I J z Φ) : Ev d Z L xs mX7_count 52 [some (.ref 136), some (.int x1), some (.int x2), some (.int x3)] [] I J z Φ := by
  refine Ev.blk (ops := [o0 (.iload_n 2) 1]) (G := True ∧ True) (by decide +kernel) ?_ ⟨trivial, trivial⟩ k
  rfl
theorem BX7_count_53 {d Z L : Nat} {xs : Nat → Int32} {z : Nat} {Φ : Out → T2 → T3 → Nat → Prop} {I : T2} {J : T3} {x1 : Int32} {x2 : Int32} {x3 : Int32} {xs0 : Int32}  
    (k : Ev d Z L xs mX7_count 31 [some (.ref 136), some (.int x1), some (.int xs0), some (.int (x3 + 1))] [] I J z Φ) : Ev d Z L xs mX7_count 53 [some (.ref 136), some (.int x1), some (.int x2), some (.int x3)] [.int xs0] I J z Φ := by
  refine Ev.blk (ops := [o0 (.istore_n 2) 1, oI (.iinc 3 1) 3 1, oK (.goto (-26)) 3 31 0]) (G := True ∧ True ∧ True ∧ True) (by decide +kernel) ?_ ⟨trivial, trivial, trivial, trivial⟩ k
  rfl
theorem BX7_count_60 {d Z L : Nat} {xs : Nat → Int32} {z : Nat} {Φ : Out → T2 → T3 → Nat → Prop} {I : T2} {J : T3} {x1 : Int32} {x2 : Int32} {x3 : Int32}  
    (k : Ev d Z L xs mX7_count 61 [some (.ref 136), some (.int x1), some (.int x2), some (.int x3)] [.int x1] I J z Φ) : Ev d Z L xs mX7_count 60 [some (.ref 136), some (.int x1), some (.int x2), some (.int x3)] [] I J z Φ := by
  refine Ev.blk (ops := [o0 (.iload_n 1) 1]) (G := True ∧ True) (by decide +kernel) ?_ ⟨trivial, trivial⟩ k
  rfl
theorem BX7_count_64 {d Z L : Nat} {xs : Nat → Int32} {z : Nat} {Φ : Out → T2 → T3 → Nat → Prop} {I : T2} {J : T3} {x1 : Int32} {x2 : Int32} {x3 : Int32}  
    (k : Ev d Z L xs mX7_count 101 [some (.ref 136), some (.int x1), some (.int x2), some (.int x3)] [.int (I 136 24)] I J z Φ) : Ev d Z L xs mX7_count 64 [some (.ref 136), some (.int x1), some (.int x2), some (.int x3)] [] I J z Φ := by
  refine Ev.blk (ops := [o0 (.aload_n 0) 1, oK (.getfield 109) 3 7 24, oK (.goto 33) 3 101 0]) (G := True ∧ (kd 136 = 7) ∧ True ∧ True) (by decide +kernel) ?_ ⟨trivial, (by decide), trivial, trivial⟩ k
  rfl
theorem BX7_count_71 {d Z L : Nat} {xs : Nat → Int32} {z : Nat} {Φ : Out → T2 → T3 → Nat → Prop} {I : T2} {J : T3} {x1 : Int32} {x2 : Int32} {x3 : Int32}  
    (k : Ev d Z L xs mX7_count 73 [some (.ref 136), some (.int x1), some (.int x2), some (.int x3)] [.int 1, .int x1] I J z Φ) : Ev d Z L xs mX7_count 71 [some (.ref 136), some (.int x1), some (.int x2), some (.int x3)] [] I J z Φ := by
  refine Ev.blk (ops := [o0 (.iload_n 1) 1, oI (.iconst 1) 1 1]) (G := True ∧ True ∧ True) (by decide +kernel) ?_ ⟨trivial, trivial, trivial⟩ k
  rfl
theorem BX7_count_76 {d Z L : Nat} {xs : Nat → Int32} {z : Nat} {Φ : Out → T2 → T3 → Nat → Prop} {I : T2} {J : T3} {x1 : Int32} {x2 : Int32} {x3 : Int32}  
    (k : Ev d Z L xs mX7_count 101 [some (.ref 136), some (.int x1), some (.int x2), some (.int x3)] [.int (((J 136 5) &&& 2147483647).toInt32)] I J z Φ) : Ev d Z L xs mX7_count 76 [some (.ref 136), some (.int x1), some (.int x2), some (.int x3)] [] I J z Φ := by
  refine Ev.blk (ops := [o0 (.aload_n 0) 1, oK (.getfield 95) 3 7 5, oL (.ldc2_w 175) 3 2147483647, o0 (.land) 1, o0 (.l2i) 1, oK (.goto 16) 3 101 0]) (G := True ∧ (kd 136 = 7) ∧ True ∧ True ∧ True ∧ True ∧ True) (by decide +kernel) ?_ ⟨trivial, (by decide), trivial, trivial, trivial, trivial, trivial⟩ k
  rfl
theorem BX7_count_88 {d Z L : Nat} {xs : Nat → Int32} {z : Nat} {Φ : Out → T2 → T3 → Nat → Prop} {I : T2} {J : T3} {x1 : Int32} {x2 : Int32} {x3 : Int32}  
    (k : Ev d Z L xs mX7_count 90 [some (.ref 136), some (.int x1), some (.int x2), some (.int x3)] [.int 2, .int x1] I J z Φ) : Ev d Z L xs mX7_count 88 [some (.ref 136), some (.int x1), some (.int x2), some (.int x3)] [] I J z Φ := by
  refine Ev.blk (ops := [o0 (.iload_n 1) 1, oI (.iconst 2) 1 2]) (G := True ∧ True ∧ True) (by decide +kernel) ?_ ⟨trivial, trivial, trivial⟩ k
  rfl
theorem BX7_count_93 {d Z L : Nat} {xs : Nat → Int32} {z : Nat} {Φ : Out → T2 → T3 → Nat → Prop} {I : T2} {J : T3} {x1 : Int32} {x2 : Int32} {x3 : Int32}  
    (k : Ev d Z L xs mX7_count 101 [some (.ref 136), some (.int x1), some (.int x2), some (.int x3)] [.int (I 136 4)] I J z Φ) : Ev d Z L xs mX7_count 93 [some (.ref 136), some (.int x1), some (.int x2), some (.int x3)] [] I J z Φ := by
  refine Ev.blk (ops := [o0 (.aload_n 0) 1, oK (.getfield 92) 3 7 4, oK (.goto 4) 3 101 0]) (G := True ∧ (kd 136 = 7) ∧ True ∧ True) (by decide +kernel) ?_ ⟨trivial, (by decide), trivial, trivial⟩ k
  rfl
theorem BX7_count_100 {d Z L : Nat} {xs : Nat → Int32} {z : Nat} {Φ : Out → T2 → T3 → Nat → Prop} {I : T2} {J : T3} {x1 : Int32} {x2 : Int32} {x3 : Int32}  
    (k : Ev d Z L xs mX7_count 101 [some (.ref 136), some (.int x1), some (.int x2), some (.int x3)] [.int x2] I J z Φ) : Ev d Z L xs mX7_count 100 [some (.ref 136), some (.int x1), some (.int x2), some (.int x3)] [] I J z Φ := by
  refine Ev.blk (ops := [o0 (.iload_n 2) 1]) (G := True ∧ True) (by decide +kernel) ?_ ⟨trivial, trivial⟩ k
  rfl
