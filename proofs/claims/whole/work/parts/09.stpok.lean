section R2
variable {p : Program} {l : Launch} {e : Env} {R : Room} {s : State} {m : MethodId} {args : Array Value} {below : List Frame} {meth : Method} {c : Code} {H : Heap} {locs : List Loc} {cells slots : Nat} {Q : State → Prop}
variable {D : va_G} {cy : Nat → ClassId} {b bs L : Nat} {xs : Nat → Int32} {M : MD} {I I' : T2} {J J' : T3} {arr : Array Slot} {pc pc' : Nat} {ls ls' : List (Option Value)} {st st' : List Value} {G : Prop}
/-- where the machine goes on -/
abbrev KK (p : Program) (l : Launch) (e : Env) (R : Room) (s : State) (m : MethodId) (args : Array Value) (below : List Frame) (meth : Method) (c : Code) (cells slots : Nat) (Q : State → Prop) (D : va_G) (cy : Nat → ClassId) (b bs : Nat) (nL : Nat) (pc' : Nat) (ls' : List (Option Value)) (st' : List Value) (I' : T2) (J' : T3) : Prop :=
  ∀ (H' : Heap) (locs' : List Loc) (arr' : Array Slot), Rp D cy b I' J' s.heap H' locs' → lvh arr' nL b bs ls' → W p l e R s m args below meth c H' locs' cells slots Q (F0 m pc' arr' (st'.map (tr b bs)))
theorem k_bi {f : Int32 → Int32 → Int32} {g : Int32 → Prop} (h : s_bi f g pc ls st I J = some (G, pc', ls', st', I', J')) : ∃ x y r, st = .int y :: .int x :: r ∧ G = g y ∧ pc' = pc + 1 ∧ ls' = ls ∧ st' = .int (f x y) :: r ∧ I' = I ∧ J' = J := by
  unfold s_bi at h
  split at h
  · cases h; exact ⟨_, _, _, rfl, rfl, rfl, rfl, rfl, rfl, rfl⟩
  · cases h
theorem k_bl {f : Int64 → Int64 → Int64} {g : Int64 → Prop} (h : s_bl f g pc ls st I J = some (G, pc', ls', st', I', J')) : ∃ x y r, st = .long y :: .long x :: r ∧ G = g y ∧ pc' = pc + 1 ∧ ls' = ls ∧ st' = .long (f x y) :: r ∧ I' = I ∧ J' = J := by
  unfold s_bl at h
  split at h
  · cases h; exact ⟨_, _, _, rfl, rfl, rfl, rfl, rfl, rfl, rfl⟩
  · cases h
theorem k_ld {t : Value → Bool} {i n : Nat} (h : s_ld t i n pc ls st I J = some (G, pc', ls', st', I', J')) : ∃ v, ls[i]? = some (some v) ∧ t v = true ∧ pc' = pc + n ∧ ls' = ls ∧ st' = v :: st ∧ I' = I ∧ J' = J := by
  unfold s_ld at h
  split at h
  · rename_i v hv
    split at h
    · rename_i ht
      cases h; exact ⟨v, hv, ht, rfl, rfl, rfl, rfl, rfl⟩
    · cases h
  · cases h
theorem k_is {i n nL : Nat} (h : s_is i n nL pc ls st I J = some (G, pc', ls', st', I', J')) : ∃ x r, st = .int x :: r ∧ okst ls i = true ∧ i < nL ∧ pc' = pc + n ∧ ls' = ls.set i (some (.int x)) ∧ st' = r ∧ I' = I ∧ J' = J := by
  unfold s_is at h
  split at h
  · split at h
    · rename_i hc
      rw [Bool.and_eq_true] at hc
      cases h; exact ⟨_, _, rfl, hc.1, of_decide_eq_true hc.2, rfl, rfl, rfl, rfl, rfl⟩
    · cases h
  · cases h
theorem k_as {i n nL : Nat} (h : s_as i n nL pc ls st I J = some (G, pc', ls', st', I', J')) : ∃ x r, st = .ref x :: r ∧ okst ls i = true ∧ i < nL ∧ pc' = pc + n ∧ ls' = ls.set i (some (.ref x)) ∧ st' = r ∧ I' = I ∧ J' = J := by
  unfold s_as at h
  split at h
  · split at h
    · rename_i hc
      rw [Bool.and_eq_true] at hc
      cases h; exact ⟨_, _, rfl, hc.1, of_decide_eq_true hc.2, rfl, rfl, rfl, rfl, rfl⟩
    · cases h
  · cases h
theorem k_ls {i n nL : Nat} (h : s_ls i n nL pc ls st I J = some (G, pc', ls', st', I', J')) : ∃ x r, st = .long x :: r ∧ okst ls i = true ∧ i + 1 < nL ∧ pc' = pc + n ∧ ls' = (ls.set i (some (.long x))).set (i + 1) none ∧ st' = r ∧ I' = I ∧ J' = J := by
  unfold s_ls at h
  split at h
  · split at h
    · rename_i hc
      rw [Bool.and_eq_true] at hc
      cases h; exact ⟨_, _, rfl, hc.1, of_decide_eq_true hc.2, rfl, rfl, rfl, rfl, rfl⟩
    · cases h
  · cases h
theorem isI_x {v : Value} (h : isI v = true) : ∃ x, v = .int x := by cases v <;> first | exact ⟨_, rfl⟩ | cases h
theorem isJ_x {v : Value} (h : isJ v = true) : ∃ x, v = .long x := by cases v <;> first | exact ⟨_, rfl⟩ | cases h
theorem isA_x {v : Value} (h : isA v = true) (b bs : Nat) : ∃ x, tr b bs v = .ref x := by cases v <;> first | exact ⟨_, rfl⟩ | cases h
theorem r_aald12 {cc : ByteArray} {ws : va_W} {q0 a n : Nat} {f : Nat → Option Nat} {i : Int32} {rest : List Value} (hexec : p.tables.exec = Jvm.exec) (hb : c.code = cc) (hK : va_K D vwCl (tyl cy) s) (hP : va_P D vwCl ws H) (ha : ws[q0]? = some (a, .inl (cy 4, n, .inr (.inr (.inr (.inr f)))))) (hin : vp_in i n) (hdg : decode cc pc = .ok (.aaload, 1))
    (kk : W p l e R s m args below meth c H locs cells slots Q (F0 m (pc + 1) arr (va_rf (f i.toNatClampNeg) :: rest))) : W p l e R s m args below meth c H locs cells slots Q (F0 m pc arr (.int i :: .ref a :: rest)) := by
  have hlt : i.toNatClampNeg < n := Nat.not_le.mp fun q => hin (Or.inr q)
  exact W.aald (v := va_rf (f i.toNatClampNeg)) (ty := .array .int) hexec hb (hP q0 _ ha) ((hK.2 4 (cy 4, .array .int) rfl).1 n (fun j => va_rf (f j))) rfl (fun q => by cases q) (by show ¬ (i < 0 ∨ (arrV _ _ _).slots.size ≤ _); rw [arrV_size]; exact hin) (by show (arrV _ _ _).slots[_]? = _; rw [arrV_read _ _ hlt]) rfl rfl hdg kk
set_option maxHeartbeats 4000000 in
set_option maxRecDepth 100000 in
theorem stp_ok {op : OP} (C : Cx l p s m args meth c D cy b bs L xs M) (hd : decode M.2.2.1 pc = .ok (op.1, op.2.1)) (ho : opOk M.1 op pc = true) (h : stp M.2.2.2.1 L xs op pc ls st I J = some (G, pc', ls', st', I', J')) (hG : G) (hR : Rp D cy b I J s.heap H locs) (hl : lvh arr M.2.2.2.1 b bs ls)
    (kk : KK p l e R s m args below meth c cells slots Q D cy b bs M.2.2.2.1 pc' ls' st' I' J') : W p l e R s m args below meth c H locs cells slots Q (F0 m pc arr (st.map (tr b bs))) := by
  obtain ⟨hx, hb, hml, hown, hr, hlk, hts, hK, hX, -⟩ := id C
  have hD := wl_D b 159 (En b cy I J)
  unfold stp at h
  split at h
  · cases h; exact lv_iconst hx hb hd (of_decide_eq_true ho) (kk H locs arr hR hl)
  · cases h; exact lv_bipush hx hb hd (of_decide_eq_true ho) (kk H locs arr hR hl)
  · cases h; exact lv_sipush hx hb hd (of_decide_eq_true ho) (kk H locs arr hR hl)
  · cases h; exact lv_ldc hx hb hown (hts _ (ldA_ok _ (of_decide_eq_true ho))) hd (kk H locs arr hR hl)
  · cases h; exact lv_lconst hx hb hd (of_decide_eq_true ho) (kk H locs arr hR hl)
  · cases h; exact lv_ldc2 hx hb hown (hts _ (ldB_ok _ (of_decide_eq_true ho))) hd (kk H locs arr hR hl)
  · obtain ⟨v, h1, h2, rfl, rfl, rfl, rfl, rfl⟩ := k_ld h
    obtain ⟨x, rfl⟩ := isI_x h2
    exact lv_iload_n hx hb hd rfl (hl.at h1) (kk H locs arr hR hl)
  · obtain ⟨v, h1, h2, rfl, rfl, rfl, rfl, rfl⟩ := k_ld h
    obtain ⟨x, rfl⟩ := isI_x h2
    exact lv_iload hx hb hd (hl.at h1) (kk H locs arr hR hl)
  · obtain ⟨v, h1, h2, rfl, rfl, rfl, rfl, rfl⟩ := k_ld h
    obtain ⟨x, rfl⟩ := isJ_x h2
    exact lv_lload_n hx hb hd rfl (hl.at h1) (kk H locs arr hR hl)
  · obtain ⟨v, h1, h2, rfl, rfl, rfl, rfl, rfl⟩ := k_ld h
    obtain ⟨x, rfl⟩ := isJ_x h2
    exact lv_lload hx hb hd (hl.at h1) (kk H locs arr hR hl)
  · obtain ⟨v, h1, h2, rfl, rfl, rfl, rfl, rfl⟩ := k_ld h
    obtain ⟨x, e⟩ := isA_x h2 b bs
    have h3 := hl.at h1
    have h4 := kk H locs arr hR hl
    rw [e] at h3
    rw [List.map_cons, e] at h4
    exact lv_aload_n hx hb hd rfl h3 h4
  · obtain ⟨v, h1, h2, rfl, rfl, rfl, rfl, rfl⟩ := k_ld h
    obtain ⟨x, e⟩ := isA_x h2 b bs
    have h3 := hl.at h1
    have h4 := kk H locs arr hR hl
    rw [e] at h3
    rw [List.map_cons, e] at h4
    exact lv_aload hx hb hd h3 h4
  · obtain ⟨x, r, rfl, h1, h2, rfl, rfl, rfl, rfl, rfl⟩ := k_is h
    exact lv_istore_n hx hb hd rfl hl.has h2 rfl (fun ls' h3 => kk H locs ls' hR (lvh.st1 h1 h3))
  · obtain ⟨x, r, rfl, h1, h2, rfl, rfl, rfl, rfl, rfl⟩ := k_is h
    exact lv_istore hx hb hd hl.has h2 rfl (fun ls' h3 => kk H locs ls' hR (lvh.st1 h1 h3))
  · obtain ⟨x, r, rfl, h1, h2, rfl, rfl, rfl, rfl, rfl⟩ := k_as h
    exact lv_astore_n hx hb hd rfl hl.has h2 rfl (fun ls' h3 => kk H locs ls' hR (lvh.st1 h1 h3))
  · obtain ⟨x, r, rfl, h1, h2, rfl, rfl, rfl, rfl, rfl⟩ := k_as h
    exact lv_astore hx hb hd hl.has h2 rfl (fun ls' h3 => kk H locs ls' hR (lvh.st1 h1 h3))
  · obtain ⟨x, r, rfl, h1, h2, rfl, rfl, rfl, rfl, rfl⟩ := k_ls h
    exact lv_lstore_n hx hb hd rfl hl.has h2 rfl (fun ls' h3 => kk H locs ls' hR (lvh.st2 h1 h3))
  · obtain ⟨x, r, rfl, h1, h2, rfl, rfl, rfl, rfl, rfl⟩ := k_ls h
    exact lv_lstore hx hb hd hl.has h2 rfl (fun ls' h3 => kk H locs ls' hR (lvh.st2 h1 h3))
  · split at h
    · rename_i h1
      split at h
      · rename_i hc
        rw [Bool.and_eq_true] at hc
        cases h
        obtain ⟨k, hk⟩ := List.getElem?_of_mem (asc_mem (b := b) (bs := bs) (q := (_, .int _)).mpr ⟨_, h1, rfl⟩)
        exact lv_iinc hx hb hd hl.has hk (by rw [of_decide_eq_true ho]) (of_decide_eq_true hc.2) rfl (fun ls' h3 => kk H locs ls' hR (lvh.st1 (v := .int _) hc.1 h3))
      · cases h
    · cases h
  · obtain ⟨x, y, r, rfl, rfl, rfl, rfl, rfl, rfl, rfl⟩ := k_bi h; exact lv_iadd hx hb hd (kk H locs arr hR hl)
  · obtain ⟨x, y, r, rfl, rfl, rfl, rfl, rfl, rfl, rfl⟩ := k_bi h; exact lv_isub hx hb hd (kk H locs arr hR hl)
  · obtain ⟨x, y, r, rfl, rfl, rfl, rfl, rfl, rfl, rfl⟩ := k_bi h; exact lv_imul hx hb hd (kk H locs arr hR hl)
  · obtain ⟨x, y, r, rfl, rfl, rfl, rfl, rfl, rfl, rfl⟩ := k_bi h; exact lv_iand hx hb hd (kk H locs arr hR hl)
  · obtain ⟨x, y, r, rfl, rfl, rfl, rfl, rfl, rfl, rfl⟩ := k_bi h; exact lv_ixor hx hb hd (kk H locs arr hR hl)
  · obtain ⟨x, y, r, rfl, rfl, rfl, rfl, rfl, rfl, rfl⟩ := k_bi h; exact lv_idiv hx hb hd hG (kk H locs arr hR hl)
  · obtain ⟨x, y, r, rfl, rfl, rfl, rfl, rfl, rfl, rfl⟩ := k_bi h; exact lv_irem hx hb hd hG (kk H locs arr hR hl)
  · obtain ⟨x, y, r, rfl, rfl, rfl, rfl, rfl, rfl, rfl⟩ := k_bl h; exact lv_ladd hx hb hd (kk H locs arr hR hl)
  · obtain ⟨x, y, r, rfl, rfl, rfl, rfl, rfl, rfl, rfl⟩ := k_bl h; exact lv_lsub hx hb hd (kk H locs arr hR hl)
  · obtain ⟨x, y, r, rfl, rfl, rfl, rfl, rfl, rfl, rfl⟩ := k_bl h; exact lv_lmul hx hb hd (kk H locs arr hR hl)
  · obtain ⟨x, y, r, rfl, rfl, rfl, rfl, rfl, rfl, rfl⟩ := k_bl h; exact lv_land hx hb hd (kk H locs arr hR hl)
  · obtain ⟨x, y, r, rfl, rfl, rfl, rfl, rfl, rfl, rfl⟩ := k_bl h; exact lv_ldiv hx hb hd hG (kk H locs arr hR hl)
  · obtain ⟨x, y, r, rfl, rfl, rfl, rfl, rfl, rfl, rfl⟩ := k_bl h; exact lv_lrem hx hb hd hG (kk H locs arr hR hl)
  · split at h
    · cases h; exact lv_ineg hx hb hd (kk H locs arr hR hl)
    · cases h
  · split at h
    · cases h; exact lv_i2l hx hb hd rfl (kk H locs arr hR hl)
    · cases h
  · split at h
    · cases h; exact lv_l2i hx hb hd rfl (kk H locs arr hR hl)
    · cases h
  · split at h
    · cases h; exact W.lcmp hx hb hd (kk H locs arr hR hl)
    · cases h
  · split at h
    · split at h
      · rename_i hc; cases h; exact lv_dup hx hb hd (by rw [tr_cat]; exact hc) (kk H locs arr hR hl)
      · cases h
    · cases h
  · split at h
    · split at h
      · rename_i hc; cases h; exact lv_dup2_11 hx hb hd (by rw [tr_cat]; exact hc.1) (by rw [tr_cat]; exact hc.2) (kk H locs arr hR hl)
      · cases h
    · cases h
  · split at h
    · split at h
      · rename_i hc; cases h; exact lv_pop hx hb hd (by rw [tr_cat]; exact hc) (kk H locs arr hR hl)
      · cases h
    · cases h
  · cases h; exact lv_goto hx hb hd (of_decide_eq_true ho) (kk H locs arr hR hl)
  · unfold s_get at h
    split at h
    · split at h
      · rename_i hv
        cases h
        exact r_get C hR (of_decide_eq_true ho) hG hv hd (kk H locs arr hR hl)
      · cases h
    · cases h
  · rename_i idx k j w
    have ho : ((decide ((M.1, idx, k, j) ∈ lfT) && ((cT k j).2.2.2 == false)) && (decide ((k, j) ∈ ifT) || decide ((k, j) ∈ jfT))) = true := ho
    rw [Bool.and_eq_true, Bool.and_eq_true, Bool.or_eq_true] at ho
    obtain ⟨⟨h1, h2⟩, h3⟩ := ho
    have h1 := of_decide_eq_true h1
    have h2 := eq_of_beq h2
    obtain ⟨hk8, hj, -⟩ := lfT_k _ h1
    unfold s_put at h
    split at h
    · rename_i hty
      cases h
      have h3 : (k, j) ∈ ifT := by
        rcases h3 with h3 | h3
        · exact of_decide_eq_true h3
        · have h4 := jfT_ty _ (of_decide_eq_true h3)
          rw [hty] at h4; cases h4
      exact r_put C hR h1 h2 hG (by rw [hty]; rfl) (by rw [hty]; rfl) hd (fun H1 locs1 q1 q2 => Rp.put2 (set_int hG hk8 h3 _) q1 q2) (fun H1 locs1 q => kk H1 locs1 arr q hl)
    · rename_i hty
      cases h
      have h3 : (k, j) ∈ ifT := by
        rcases h3 with h3 | h3
        · exact of_decide_eq_true h3
        · have h4 := jfT_ty _ (of_decide_eq_true h3)
          rw [hty] at h4; cases h4
      exact r_put C hR h1 h2 hG.1 (by rw [hty]; exact (nb_narrow hG.2).1) (by rw [hty]; exact (nb_narrow hG.2).2.1) hd (fun H1 locs1 q1 q2 => Rp.put2 (set_int hG.1 hk8 h3 _) q1 q2) (fun H1 locs1 q => kk H1 locs1 arr q hl)
    · rename_i hty
      cases h
      have h3 : (k, j) ∈ jfT := by
        rcases h3 with h3 | h3
        · have h4 := ifT_ty _ (of_decide_eq_true h3)
          dsimp only at h4
          rw [hty] at h4
          rcases h4 with h4 | h4 <;> cases h4
        · exact of_decide_eq_true h3
      exact r_put C hR h1 h2 hG (by rw [hty]; rfl) (by rw [hty]; rfl) hd (fun H1 locs1 q1 q2 => Rp.put3 (set_long hG hk8 h3 _) q1 q2) (fun H1 locs1 q => kk H1 locs1 arr q hl)
    · cases h
  · unfold s_iald at h
    split at h
    · cases h
      exact va_iald hx hb hK.1 hR.1 _ 0 (Rp.at hG.1 (by decide) (en_8 hG.1 _ _)) rfl hG.2 hd (kk H locs arr hR hl)
    · cases h
      obtain ⟨h1, h2, h3⟩ := hX (by
        refine Nat.pos_of_ne_zero fun e => ?_
        subst e
        exact hG (Or.inr (Nat.zero_le _)))
      exact va_sld hx hb h1 h2 h3 hR.2 hG hd (kk H locs arr hR hl)
    · cases h
  · split at h
    · cases h
      exact va_iast hx hb hK.1 hR.1 hD hR.2 _ 0 (Rp.at hG.1 (by decide) (en_8 hG.1 _ _)) rfl hG.2 hd (fun H1 locs1 q1 q2 q3 => kk H1 locs1 arr (Rp.put2 (en_8 hG.1 _ _) q1 q3) hl)
    · cases h
  · split at h
    · cases h
      exact va_lald hx hb hK.1 hR.1 _ 1 (Rp.at hG.1 (by decide) (en_9 hG.1 _ _)) rfl hG.2 hd (kk H locs arr hR hl)
    · cases h
  · split at h
    · cases h
      exact va_last hx hb hK.1 hR.1 hD hR.2 _ 1 (Rp.at hG.1 (by decide) (en_9 hG.1 _ _)) rfl hG.2 hd (fun H1 locs1 q1 q2 q3 => kk H1 locs1 arr (Rp.put3 (en_9 hG.1 _ _) q1 q3) hl)
    · cases h
  · split at h
    · cases h
      exact va_zald hx hb hK.1 hR.1 _ 2 (Rp.at hG.1 (by decide) (en_10 hG.1 _ _)) rfl hG.2 hd (kk H locs arr hR hl)
    · cases h
  · split at h
    · cases h
      refine va_zast hx hb hK.1 hR.1 hD hR.2 _ 2 (Rp.at hG.1 (by decide) (en_10 hG.1 _ _)) rfl hG.2.1 hd (fun H1 locs1 q1 q2 q3 => kk H1 locs1 arr (Rp.put2 (en_10 hG.1 _ _) ?_ q3) hl)
      rw [(nb_narrow hG.2.2).2.2] at q1
      exact q1
    · cases h
  · split at h
    · split at h
      · cases h
        exact va_aldq hx hb hK.1 hR.1 _ 3 (Rp.at hG.1 (by decide) (en_11 hG.1 _ _)) rfl hG.2 hd (kk H locs arr hR hl)
      · split at h
        · cases h
          exact r_aald12 hx hb hK.1 hR.1 (Rp.at hG.1 (by decide) (en_12 hG.1 _ _)) hG.2 hd (kk H locs arr hR hl)
        · cases h
    · cases h
  · unfold s_alen at h
    split at h
    · cases h
      exact va_alen hx hb hK.1 hR.1 _ 0 (Rp.at hG (by decide) (en_8 hG _ _)) rfl rfl hd (kk H locs arr hR hl)
    · cases h
      obtain ⟨h1, h2, h3⟩ := hX hG
      exact va_slen hx hb h1 h2 h3 hR.2 hd (kk H locs arr hR hl)
    · cases h
  · cases h
end R2
