section
-- ===== PART A: goes FIRST, ahead of the names: the tables' words, and 'selects' of the private methods out of them =====
/-- a private method of a class that the tables say can be made, by its rows of tables_1 -/
def lw_okq (q : MethodName × Nat) : Prop := (q.1.cls ≠ "java/lang/invoke/MethodHandle" ∧ q.1.cls ≠ "java/lang/invoke/VarHandle") ∧ Cond.instantiable q.1.cls q.2 ∈ tables_1 ∧ Cond.privateMethod q.1 ∈ tables_1 ∧ Cond.instanceMethod q.1 ∈ tables_1
theorem lw_p0 : lw_okq (⟨"QuotaDesk", "begin", "(IIII)V"⟩, 11) := ⟨⟨by decide +kernel, by decide +kernel⟩, List.mem_of_getElem? (i := 20) (by decide +kernel), List.mem_of_getElem? (i := 203) (by decide +kernel), List.mem_of_getElem? (i := 204) (by decide +kernel)⟩
theorem lw_p1 : lw_okq (⟨"java/lang/Throwable", "fillInStackTrace", "(I)Ljava/lang/Throwable;"⟩, 6) := ⟨⟨by decide +kernel, by decide +kernel⟩, List.mem_of_getElem? (i := 337) (by decide +kernel), List.mem_of_getElem? (i := 335) (by decide +kernel), List.mem_of_getElem? (i := 336) (by decide +kernel)⟩
theorem lw_p2 : lw_okq (⟨"QuotaDesk$Office", "renew", "(I)V"⟩, 7) := ⟨⟨by decide +kernel, by decide +kernel⟩, List.mem_of_getElem? (i := 30) (by decide +kernel), List.mem_of_getElem? (i := 380) (by decide +kernel), List.mem_of_getElem? (i := 381) (by decide +kernel)⟩
theorem lw_p3 : lw_okq (⟨"QuotaDesk$Gate", "drop", "(I)V"⟩, 9) := ⟨⟨by decide +kernel, by decide +kernel⟩, List.mem_of_getElem? (i := 129) (by decide +kernel), List.mem_of_getElem? (i := 393) (by decide +kernel), List.mem_of_getElem? (i := 394) (by decide +kernel)⟩
theorem lw_p4 : lw_okq (⟨"QuotaDesk", "gateAt", "(I)LQuotaDesk$Gate;"⟩, 11) := ⟨⟨by decide +kernel, by decide +kernel⟩, List.mem_of_getElem? (i := 20) (by decide +kernel), List.mem_of_getElem? (i := 405) (by decide +kernel), List.mem_of_getElem? (i := 406) (by decide +kernel)⟩
theorem lw_p5 : lw_okq (⟨"QuotaDesk$Admissions", "row", "(I)I"⟩, 5) := ⟨⟨by decide +kernel, by decide +kernel⟩, List.mem_of_getElem? (i := 108) (by decide +kernel), List.mem_of_getElem? (i := 472) (by decide +kernel), List.mem_of_getElem? (i := 473) (by decide +kernel)⟩
theorem lw_p6 : lw_okq (⟨"QuotaDesk$Admissions", "openRow", "(J)V"⟩, 5) := ⟨⟨by decide +kernel, by decide +kernel⟩, List.mem_of_getElem? (i := 108) (by decide +kernel), List.mem_of_getElem? (i := 476) (by decide +kernel), List.mem_of_getElem? (i := 477) (by decide +kernel)⟩
theorem lw_p7 : lw_okq (⟨"QuotaDesk$Admissions", "forgetOldest", "(I)V"⟩, 5) := ⟨⟨by decide +kernel, by decide +kernel⟩, List.mem_of_getElem? (i := 108) (by decide +kernel), List.mem_of_getElem? (i := 480) (by decide +kernel), List.mem_of_getElem? (i := 481) (by decide +kernel)⟩
theorem lw_p8 : lw_okq (⟨"QuotaDesk", "shareOut", "(I)I"⟩, 11) := ⟨⟨by decide +kernel, by decide +kernel⟩, List.mem_of_getElem? (i := 20) (by decide +kernel), List.mem_of_getElem? (i := 550) (by decide +kernel), List.mem_of_getElem? (i := 551) (by decide +kernel)⟩
theorem lw_p9 : lw_okq (⟨"QuotaDesk$Sharing", "wantingGates", "()I"⟩, 5) := ⟨⟨by decide +kernel, by decide +kernel⟩, List.mem_of_getElem? (i := 84) (by decide +kernel), List.mem_of_getElem? (i := 567) (by decide +kernel), List.mem_of_getElem? (i := 568) (by decide +kernel)⟩
theorem lw_p10 : lw_okq (⟨"QuotaDesk$Sharing", "wantsMore", "(I)Z"⟩, 5) := ⟨⟨by decide +kernel, by decide +kernel⟩, List.mem_of_getElem? (i := 84) (by decide +kernel), List.mem_of_getElem? (i := 571) (by decide +kernel), List.mem_of_getElem? (i := 572) (by decide +kernel)⟩
theorem lw_p11 : lw_okq (⟨"QuotaDesk$Sharing", "useOfWanting", "()J"⟩, 5) := ⟨⟨by decide +kernel, by decide +kernel⟩, List.mem_of_getElem? (i := 84) (by decide +kernel), List.mem_of_getElem? (i := 575) (by decide +kernel), List.mem_of_getElem? (i := 576) (by decide +kernel)⟩
theorem lw_p12 : lw_okq (⟨"QuotaDesk$Sharing", "giveLayer", "(I)V"⟩, 5) := ⟨⟨by decide +kernel, by decide +kernel⟩, List.mem_of_getElem? (i := 84) (by decide +kernel), List.mem_of_getElem? (i := 583) (by decide +kernel), List.mem_of_getElem? (i := 584) (by decide +kernel)⟩
theorem lw_p13 : lw_okq (⟨"QuotaDesk$Sharing", "give", "(II)V"⟩, 5) := ⟨⟨by decide +kernel, by decide +kernel⟩, List.mem_of_getElem? (i := 84) (by decide +kernel), List.mem_of_getElem? (i := 587) (by decide +kernel), List.mem_of_getElem? (i := 588) (by decide +kernel)⟩
theorem lw_p14 : lw_okq (⟨"QuotaDesk$Sharing", "leastWish", "()I"⟩, 5) := ⟨⟨by decide +kernel, by decide +kernel⟩, List.mem_of_getElem? (i := 84) (by decide +kernel), List.mem_of_getElem? (i := 591) (by decide +kernel), List.mem_of_getElem? (i := 592) (by decide +kernel)⟩
theorem lw_p15 : lw_okq (⟨"QuotaDesk$Sharing", "giveParts", "(J)V"⟩, 5) := ⟨⟨by decide +kernel, by decide +kernel⟩, List.mem_of_getElem? (i := 84) (by decide +kernel), List.mem_of_getElem? (i := 596) (by decide +kernel), List.mem_of_getElem? (i := 597) (by decide +kernel)⟩
def lw_privs_1 : List (MethodName × Nat) := [(⟨"QuotaDesk", "begin", "(IIII)V"⟩, 11), (⟨"java/lang/Throwable", "fillInStackTrace", "(I)Ljava/lang/Throwable;"⟩, 6), (⟨"QuotaDesk$Office", "renew", "(I)V"⟩, 7), (⟨"QuotaDesk$Gate", "drop", "(I)V"⟩, 9), (⟨"QuotaDesk", "gateAt", "(I)LQuotaDesk$Gate;"⟩, 11), (⟨"QuotaDesk$Admissions", "row", "(I)I"⟩, 5), (⟨"QuotaDesk$Admissions", "openRow", "(J)V"⟩, 5), (⟨"QuotaDesk$Admissions", "forgetOldest", "(I)V"⟩, 5), (⟨"QuotaDesk", "shareOut", "(I)I"⟩, 11), (⟨"QuotaDesk$Sharing", "wantingGates", "()I"⟩, 5), (⟨"QuotaDesk$Sharing", "wantsMore", "(I)Z"⟩, 5), (⟨"QuotaDesk$Sharing", "useOfWanting", "()J"⟩, 5), (⟨"QuotaDesk$Sharing", "giveLayer", "(I)V"⟩, 5), (⟨"QuotaDesk$Sharing", "give", "(II)V"⟩, 5), (⟨"QuotaDesk$Sharing", "leastWish", "()I"⟩, 5), (⟨"QuotaDesk$Sharing", "giveParts", "(J)V"⟩, 5)]
theorem lw_r1 : ∀ q ∈ lw_privs_1, lw_okq q := List.forall_mem_cons.mpr ⟨lw_p0, List.forall_mem_cons.mpr ⟨lw_p1, List.forall_mem_cons.mpr ⟨lw_p2, List.forall_mem_cons.mpr ⟨lw_p3, List.forall_mem_cons.mpr ⟨lw_p4, List.forall_mem_cons.mpr ⟨lw_p5, List.forall_mem_cons.mpr ⟨lw_p6, List.forall_mem_cons.mpr ⟨lw_p7, List.forall_mem_cons.mpr ⟨lw_p8, List.forall_mem_cons.mpr ⟨lw_p9, List.forall_mem_cons.mpr ⟨lw_p10, List.forall_mem_cons.mpr ⟨lw_p11, List.forall_mem_cons.mpr ⟨lw_p12, List.forall_mem_cons.mpr ⟨lw_p13, List.forall_mem_cons.mpr ⟨lw_p14, List.forall_mem_cons.mpr ⟨lw_p15, fun _ h => absurd h List.not_mem_nil⟩⟩⟩⟩⟩⟩⟩⟩⟩⟩⟩⟩⟩⟩⟩⟩
theorem lw_p16 : lw_okq (⟨"QuotaDesk$Sharing", "giveRemainders", "()V"⟩, 5) := ⟨⟨by decide +kernel, by decide +kernel⟩, List.mem_of_getElem? (i := 84) (by decide +kernel), List.mem_of_getElem? (i := 603) (by decide +kernel), List.mem_of_getElem? (i := 604) (by decide +kernel)⟩
theorem lw_p17 : lw_okq (⟨"QuotaDesk$Sharing", "greatestRemainder", "()I"⟩, 5) := ⟨⟨by decide +kernel, by decide +kernel⟩, List.mem_of_getElem? (i := 84) (by decide +kernel), List.mem_of_getElem? (i := 607) (by decide +kernel), List.mem_of_getElem? (i := 608) (by decide +kernel)⟩
theorem lw_p18 : lw_okq (⟨"QuotaDesk", "grant", "(LQuotaDesk$Gate;II)I"⟩, 11) := ⟨⟨by decide +kernel, by decide +kernel⟩, List.mem_of_getElem? (i := 20) (by decide +kernel), List.mem_of_getElem? (i := 613) (by decide +kernel), List.mem_of_getElem? (i := 614) (by decide +kernel)⟩
theorem lw_p19 : lw_okq (⟨"QuotaDesk", "mustHaveLetter", "(I)V"⟩, 11) := ⟨⟨by decide +kernel, by decide +kernel⟩, List.mem_of_getElem? (i := 20) (by decide +kernel), List.mem_of_getElem? (i := 629) (by decide +kernel), List.mem_of_getElem? (i := 630) (by decide +kernel)⟩
theorem lw_p20 : lw_okq (⟨"QuotaDesk", "bring", "(I)I"⟩, 11) := ⟨⟨by decide +kernel, by decide +kernel⟩, List.mem_of_getElem? (i := 20) (by decide +kernel), List.mem_of_getElem? (i := 633) (by decide +kernel), List.mem_of_getElem? (i := 634) (by decide +kernel)⟩
theorem lw_p21 : lw_okq (⟨"QuotaDesk$Pool", "start", "(I)I"⟩, 3) := ⟨⟨by decide +kernel, by decide +kernel⟩, List.mem_of_getElem? (i := 67) (by decide +kernel), List.mem_of_getElem? (i := 641) (by decide +kernel), List.mem_of_getElem? (i := 642) (by decide +kernel)⟩
theorem lw_p22 : lw_okq (⟨"QuotaDesk", "comeToGate", "(LQuotaDesk$Gate;)I"⟩, 11) := ⟨⟨by decide +kernel, by decide +kernel⟩, List.mem_of_getElem? (i := 20) (by decide +kernel), List.mem_of_getElem? (i := 652) (by decide +kernel), List.mem_of_getElem? (i := 653) (by decide +kernel)⟩
theorem lw_p23 : lw_okq (⟨"QuotaDesk", "comeAsReceipt", "(ZLQuotaDesk$Way;)I"⟩, 11) := ⟨⟨by decide +kernel, by decide +kernel⟩, List.mem_of_getElem? (i := 20) (by decide +kernel), List.mem_of_getElem? (i := 664) (by decide +kernel), List.mem_of_getElem? (i := 665) (by decide +kernel)⟩
theorem lw_p24 : lw_okq (⟨"QuotaDesk", "comeToDesk", "(LQuotaDesk$Gate;)I"⟩, 11) := ⟨⟨by decide +kernel, by decide +kernel⟩, List.mem_of_getElem? (i := 20) (by decide +kernel), List.mem_of_getElem? (i := 673) (by decide +kernel), List.mem_of_getElem? (i := 674) (by decide +kernel)⟩
theorem lw_p25 : lw_okq (⟨"QuotaDesk", "hearPlea", "(LQuotaDesk$Gate;)V"⟩, 11) := ⟨⟨by decide +kernel, by decide +kernel⟩, List.mem_of_getElem? (i := 20) (by decide +kernel), List.mem_of_getElem? (i := 677) (by decide +kernel), List.mem_of_getElem? (i := 678) (by decide +kernel)⟩
theorem lw_p26 : lw_okq (⟨"QuotaDeskModel", "begin", "(IIII)V"⟩, 32) := ⟨⟨by decide +kernel, by decide +kernel⟩, List.mem_of_getElem? (i := 787) (by decide +kernel), List.mem_of_getElem? (i := 793) (by decide +kernel), List.mem_of_getElem? (i := 794) (by decide +kernel)⟩
theorem lw_p27 : lw_okq (⟨"QuotaDeskModel", "tick", "(I)V"⟩, 32) := ⟨⟨by decide +kernel, by decide +kernel⟩, List.mem_of_getElem? (i := 787) (by decide +kernel), List.mem_of_getElem? (i := 913) (by decide +kernel), List.mem_of_getElem? (i := 914) (by decide +kernel)⟩
theorem lw_p28 : lw_okq (⟨"QuotaDeskModel", "isGate", "(I)Z"⟩, 32) := ⟨⟨by decide +kernel, by decide +kernel⟩, List.mem_of_getElem? (i := 787) (by decide +kernel), List.mem_of_getElem? (i := 921) (by decide +kernel), List.mem_of_getElem? (i := 922) (by decide +kernel)⟩
theorem lw_p29 : lw_okq (⟨"QuotaDeskModel", "remember", "()V"⟩, 32) := ⟨⟨by decide +kernel, by decide +kernel⟩, List.mem_of_getElem? (i := 787) (by decide +kernel), List.mem_of_getElem? (i := 933) (by decide +kernel), List.mem_of_getElem? (i := 934) (by decide +kernel)⟩
theorem lw_p30 : lw_okq (⟨"QuotaDeskModel", "canSend", "(I)Z"⟩, 32) := ⟨⟨by decide +kernel, by decide +kernel⟩, List.mem_of_getElem? (i := 787) (by decide +kernel), List.mem_of_getElem? (i := 945) (by decide +kernel), List.mem_of_getElem? (i := 946) (by decide +kernel)⟩
theorem lw_p31 : lw_okq (⟨"QuotaDeskModel", "send", "(IIIIII)V"⟩, 32) := ⟨⟨by decide +kernel, by decide +kernel⟩, List.mem_of_getElem? (i := 787) (by decide +kernel), List.mem_of_getElem? (i := 949) (by decide +kernel), List.mem_of_getElem? (i := 950) (by decide +kernel)⟩
def lw_privs_2 : List (MethodName × Nat) := [(⟨"QuotaDesk$Sharing", "giveRemainders", "()V"⟩, 5), (⟨"QuotaDesk$Sharing", "greatestRemainder", "()I"⟩, 5), (⟨"QuotaDesk", "grant", "(LQuotaDesk$Gate;II)I"⟩, 11), (⟨"QuotaDesk", "mustHaveLetter", "(I)V"⟩, 11), (⟨"QuotaDesk", "bring", "(I)I"⟩, 11), (⟨"QuotaDesk$Pool", "start", "(I)I"⟩, 3), (⟨"QuotaDesk", "comeToGate", "(LQuotaDesk$Gate;)I"⟩, 11), (⟨"QuotaDesk", "comeAsReceipt", "(ZLQuotaDesk$Way;)I"⟩, 11), (⟨"QuotaDesk", "comeToDesk", "(LQuotaDesk$Gate;)I"⟩, 11), (⟨"QuotaDesk", "hearPlea", "(LQuotaDesk$Gate;)V"⟩, 11), (⟨"QuotaDeskModel", "begin", "(IIII)V"⟩, 32), (⟨"QuotaDeskModel", "tick", "(I)V"⟩, 32), (⟨"QuotaDeskModel", "isGate", "(I)Z"⟩, 32), (⟨"QuotaDeskModel", "remember", "()V"⟩, 32), (⟨"QuotaDeskModel", "canSend", "(I)Z"⟩, 32), (⟨"QuotaDeskModel", "send", "(IIIIII)V"⟩, 32)]
theorem lw_r2 : ∀ q ∈ lw_privs_2, lw_okq q := List.forall_mem_cons.mpr ⟨lw_p16, List.forall_mem_cons.mpr ⟨lw_p17, List.forall_mem_cons.mpr ⟨lw_p18, List.forall_mem_cons.mpr ⟨lw_p19, List.forall_mem_cons.mpr ⟨lw_p20, List.forall_mem_cons.mpr ⟨lw_p21, List.forall_mem_cons.mpr ⟨lw_p22, List.forall_mem_cons.mpr ⟨lw_p23, List.forall_mem_cons.mpr ⟨lw_p24, List.forall_mem_cons.mpr ⟨lw_p25, List.forall_mem_cons.mpr ⟨lw_p26, List.forall_mem_cons.mpr ⟨lw_p27, List.forall_mem_cons.mpr ⟨lw_p28, List.forall_mem_cons.mpr ⟨lw_p29, List.forall_mem_cons.mpr ⟨lw_p30, List.forall_mem_cons.mpr ⟨lw_p31, fun _ h => absurd h List.not_mem_nil⟩⟩⟩⟩⟩⟩⟩⟩⟩⟩⟩⟩⟩⟩⟩⟩
theorem lw_p32 : lw_okq (⟨"QuotaDeskModel", "put", "(IIIIII)V"⟩, 32) := ⟨⟨by decide +kernel, by decide +kernel⟩, List.mem_of_getElem? (i := 787) (by decide +kernel), List.mem_of_getElem? (i := 953) (by decide +kernel), List.mem_of_getElem? (i := 954) (by decide +kernel)⟩
theorem lw_p33 : lw_okq (⟨"QuotaDeskModel", "byUse", "(II)I"⟩, 32) := ⟨⟨by decide +kernel, by decide +kernel⟩, List.mem_of_getElem? (i := 787) (by decide +kernel), List.mem_of_getElem? (i := 968) (by decide +kernel), List.mem_of_getElem? (i := 969) (by decide +kernel)⟩
theorem lw_p34 : lw_okq (⟨"QuotaDeskModel", "wantsMore", "(I)Z"⟩, 32) := ⟨⟨by decide +kernel, by decide +kernel⟩, List.mem_of_getElem? (i := 787) (by decide +kernel), List.mem_of_getElem? (i := 972) (by decide +kernel), List.mem_of_getElem? (i := 973) (by decide +kernel)⟩
theorem lw_p35 : lw_okq (⟨"QuotaDeskModel", "equal", "(I)I"⟩, 32) := ⟨⟨by decide +kernel, by decide +kernel⟩, List.mem_of_getElem? (i := 787) (by decide +kernel), List.mem_of_getElem? (i := 976) (by decide +kernel), List.mem_of_getElem? (i := 977) (by decide +kernel)⟩
theorem lw_p36 : lw_okq (⟨"QuotaDeskModel", "isLetter", "(I)Z"⟩, 32) := ⟨⟨by decide +kernel, by decide +kernel⟩, List.mem_of_getElem? (i := 787) (by decide +kernel), List.mem_of_getElem? (i := 984) (by decide +kernel), List.mem_of_getElem? (i := 985) (by decide +kernel)⟩
theorem lw_p37 : lw_okq (⟨"QuotaDeskModel", "come", "(I)I"⟩, 32) := ⟨⟨by decide +kernel, by decide +kernel⟩, List.mem_of_getElem? (i := 787) (by decide +kernel), List.mem_of_getElem? (i := 988) (by decide +kernel), List.mem_of_getElem? (i := 989) (by decide +kernel)⟩
theorem lw_p38 : lw_okq (⟨"QuotaDeskModel", "remove", "(I)V"⟩, 32) := ⟨⟨by decide +kernel, by decide +kernel⟩, List.mem_of_getElem? (i := 787) (by decide +kernel), List.mem_of_getElem? (i := 992) (by decide +kernel), List.mem_of_getElem? (i := 993) (by decide +kernel)⟩
theorem lw_p39 : lw_okq (⟨"QuotaDeskModel", "received", "(II)V"⟩, 32) := ⟨⟨by decide +kernel, by decide +kernel⟩, List.mem_of_getElem? (i := 787) (by decide +kernel), List.mem_of_getElem? (i := 996) (by decide +kernel), List.mem_of_getElem? (i := 997) (by decide +kernel)⟩
theorem lw_p40 : lw_okq (⟨"QuotaDeskModel", "plea", "(IIII)V"⟩, 32) := ⟨⟨by decide +kernel, by decide +kernel⟩, List.mem_of_getElem? (i := 787) (by decide +kernel), List.mem_of_getElem? (i := 1000) (by decide +kernel), List.mem_of_getElem? (i := 1001) (by decide +kernel)⟩
def lw_privs_3 : List (MethodName × Nat) := [(⟨"QuotaDeskModel", "put", "(IIIIII)V"⟩, 32), (⟨"QuotaDeskModel", "byUse", "(II)I"⟩, 32), (⟨"QuotaDeskModel", "wantsMore", "(I)Z"⟩, 32), (⟨"QuotaDeskModel", "equal", "(I)I"⟩, 32), (⟨"QuotaDeskModel", "isLetter", "(I)Z"⟩, 32), (⟨"QuotaDeskModel", "come", "(I)I"⟩, 32), (⟨"QuotaDeskModel", "remove", "(I)V"⟩, 32), (⟨"QuotaDeskModel", "received", "(II)V"⟩, 32), (⟨"QuotaDeskModel", "plea", "(IIII)V"⟩, 32)]
theorem lw_r3 : ∀ q ∈ lw_privs_3, lw_okq q := List.forall_mem_cons.mpr ⟨lw_p32, List.forall_mem_cons.mpr ⟨lw_p33, List.forall_mem_cons.mpr ⟨lw_p34, List.forall_mem_cons.mpr ⟨lw_p35, List.forall_mem_cons.mpr ⟨lw_p36, List.forall_mem_cons.mpr ⟨lw_p37, List.forall_mem_cons.mpr ⟨lw_p38, List.forall_mem_cons.mpr ⟨lw_p39, List.forall_mem_cons.mpr ⟨lw_p40, fun _ h => absurd h List.not_mem_nil⟩⟩⟩⟩⟩⟩⟩⟩⟩
def lw_privs : List (MethodName × Nat) := lw_privs_1 ++ (lw_privs_2 ++ (lw_privs_3))
def lw_tbl : List Cond := k2_sels lw_privs ++ tables_1
theorem lw_privs_ok : ∀ q ∈ lw_privs, lw_okq q := by
  show ∀ q ∈ lw_privs_1 ++ (lw_privs_2 ++ (lw_privs_3)), lw_okq q
  exact List.forall_mem_append.mpr ⟨lw_r1, List.forall_mem_append.mpr ⟨lw_r2, lw_r3⟩⟩
end
section
/-! ===== BEGIN words of one list among another's, by their places ===== -/
theorem goodIn_r {big : List Cond} (ws : List Cond) (ps : List Nat) (hp : ws = ps.filterMap (fun i => big[i]?)) (h : ws.all goodWord = true) : GoodIn big ws := by
  intro w hw
  have h1 := List.all_eq_true.mp h w hw
  rw [hp] at hw
  obtain ⟨i, -, hi⟩ := List.mem_filterMap.mp hw
  have hm : w ∈ big := by first | exact List.mem_of_getElem? hi | exact List.getElem?_mem hi
  exact ⟨hm, good_of_word h1⟩
theorem goodIn_app {big a b : List Cond} (ha : GoodIn big a) (hb : GoodIn big b) : GoodIn big (a ++ b) := fun w h => (List.mem_append.mp h).elim (ha w) (hb w)
theorem goodIn_ca {big a b : List Cond} {c : Cond} (ha : GoodIn big (c :: a)) (hb : GoodIn big b) : GoodIn big (c :: (a ++ b)) := fun w h => (List.mem_cons.mp h).elim (fun e => ha w (List.mem_cons.mpr (Or.inl e))) (fun h => (List.mem_append.mp h).elim (fun h => ha w (List.mem_cons.mpr (Or.inr h))) (hb w))
theorem goodIn_sub {big ws : List Cond} (hm : ∀ w ∈ ws, w ∈ big) (h : ws.all goodWord = true) : GoodIn big ws := fun w hw => ⟨hm w hw, good_of_word (List.all_eq_true.mp h w hw)⟩
/-! ===== END ===== -/

/-! ===== BEGIN exceptions that leave a method, and their catching by the caller (launches without stack traces) ===== -/
section VXA
/-! The laws vx_back, vx_callV, vx_callS, vx_callSW, vx_throw0, vx_throwS follow proofs of the library, with one case more: JvmDerived/Free/Laws.lean (Back.of_free), Shelf42/LK1.lean (callV, callS), Shelf/KitTraced.lean (throwNew0V, throwNewS). -/
/-- where a method has thrown q: the class by its name, the cell, what was written, the world -/
def vx_T (XC : String → State → State → Prop) (st : State) (q : Addr) (t : State) (mc ms : Nat) (free : Addr → Prop) : Prop :=
  ∃ (E : String) (ce : Cell) (L : List Loc), XC E st t ∧ t.heap[q]? = some ce ∧ ce.vm = .none ∧ st.vm.findClass E = some ce.cls ∧ st.WarmedH t.vm ∧ st.sameButNew ({ t with vm := st.vm } : State) L mc ms ∧ ∀ z ∈ L, free z.base
def vx_Q (Qc : Array Value → State → Outcome → State → Prop) (XC : String → State → State → Prop) (mc ms : Nat) (free : Addr → Prop) : Array Value → State → Outcome → State → Prop := fun a st o t =>
  (Qc a st o t ∧ ∃ L, FrameEnd st o t L mc ms ∧ ∀ q ∈ L, free q.base) ∨ ∃ q, o = .threw q ∧ vx_T XC st q t mc ms free
/-- a callee that returns or throws -/
def vx_Met (l : Launch) (y : MethodName) (ws : List Cond) (rm : Room) (Pc : Array Value → State → Prop) (Qc : Array Value → State → Outcome → State → Prop) (XC : String → State → State → Prop) (mc ms : Nat) (free : Addr → Prop) : Prop :=
  MetFree l y (headSpec ws rm) Pc (fun _ _ _ _ _ => True) (vx_Q Qc XC mc ms free)
def vx_Post (XC : String → State → State → Prop) (mc ms : Nat) (free : Addr → Prop) : Pt → Array Value → Addr → Pt → Prop := fun A a q B =>
  ∃ (g : JFrame) (mk : MethodId) (t : State) (L : List Loc) (E : String) (ce : Cell), B.U.heap = t.heap ∧ B.U.vm = t.vm ∧ XC E (A.U.calling g mk a) t ∧ t.heap[q]? = some ce ∧ ce.vm = .none ∧ A.U.vm.findClass E = some ce.cls ∧ B.locs = A.locs ++ L ∧ (∀ z ∈ L, free z.base) ∧ B.cells = A.cells + mc ∧ B.slots = A.slots + ms
def vx_Back (l : Launch) (R : Room) (p : Program) (e : Env) (below : List Frame) (s : State) (sargs : Array Value) (y : MethodName) (len W9 : Nat)
    (Pre : Pt → Array Value → Prop) (Post : Pt → Array Value → Option Value → Pt → Prop) (PostX : Pt → Array Value → Addr → Pt → Prop) : Prop :=
  ∀ (m : MethodId) (meth : Method) (c : Code) (A : Pt) (g : JFrame) (ig : Instr) (mk : MethodId) (a : Array Value),
    Stand p l e R s m sargs below meth c A.U A.locs A.cells A.slots → g.method = m → g.locals.size = c.maxLocals → decode c.code g.pc = .ok (ig, len) →
    2 * g.monitorRoom + (g.stack.map fun v => v.category).sum ≤ W9 → A.U.methodNamed? y = some mk → Pre A a →
    (∃ (v : Option Value) (B : Pt), Stand p l e R s m sargs below meth c B.U B.locs B.cells B.slots ∧ Post A a v B ∧
      Steps p.tables e below (doInvoke e (A.U.setTop g) [] mk a).1 (B.U.setTop { g with pc := g.pc + len, stack := v.toList ++ g.stack })) ∨
    (∃ (q : Addr) (B : Pt), Stand p l e R s m sargs below meth c B.U B.locs B.cells B.slots ∧ PostX A a q B ∧
      Steps p.tables e below (doInvoke e (A.U.setTop g) [] mk a).1 ((B.U.setTop g).pushFrame (.throwing q)))
section Payer
variable {l : Launch} {R : Room} {p : Program} {e : Env} {below : List Frame} {s : State} {sargs : Array Value} {y : MethodName} {len W9 : Nat}
theorem vx_back {ws : List Cond} {rm : Room} {Pc : Array Value → State → Prop} {Qc : Array Value → State → Outcome → State → Prop} {XC : String → State → State → Prop} {mc ms : Nat} {free : Addr → Prop} {bytes : ByteArray} {maxL : Nat} {ret : Option FieldType}
    (hM : vx_Met l y ws rm Pc Qc XC mc ms free) (hblind : FrameBlind Pc) (hrc : rm.cells = mc) (hrs : rm.slots = ms)
    (hframes : rm.frames + 1 ≤ R.frames) (hlocals : W9 + (maxL + 11) + rm.locals ≤ R.locals)
    (hws : ∀ w ∈ ws, ∀ a' U, s.WarmedH U.vm → w.before a' U = true) (hcode : Cond.code y bytes maxL ret ∈ ws) (hinit : ∀ a' U, s.WarmedH U.vm → (Cond.initialized y.cls).before a' U = true) :
    vx_Back l R p e below s sargs y len W9 (PreOf R mc ms Pc) (PostOf Qc mc ms free) (vx_Post XC mc ms free) := by
  intro m meth c A g ig mk a X hg hsize hdg hW hn hp
  have h1 : (headSpec ws rm).pre.before a A.U = true := atoms_intro fun w hw => hws w hw _ _ X.warmed
  have h2 : (Cond.code y bytes maxL ret).before a A.U = true := hws _ hcode _ _ X.warmed
  have h3 : (Cond.initialized y.cls).before a A.U = true := hinit _ _ X.warmed
  have h4 : A.cells + (headSpec ws rm).room.cells ≤ R.cells := by rw [show (headSpec ws rm).room.cells = mc from hrc]; exact hp.1
  have h5 : A.slots + (headSpec ws rm).room.slots ≤ R.slots := by rw [show (headSpec ws rm).room.slots = ms from hrs]; exact hp.2.1
  have hPc : Pc a (A.U.calling g mk a) := hblind _ _ _ _ hp.2.2
  obtain ⟨U, Ls, c0, s0⟩ := A
  dsimp only [Pt.U, Pt.locs, Pt.cells, Pt.slots] at h1 h2 h3 h4 h5 X hn hPc ⊢
  obtain ⟨methY, cY, hmY, hcY, -, hlY, -, -, -, -⟩ := Cond.code_spec hn h2
  obtain ⟨kY, hkY, -⟩ := className_of_methodNamed hn
  have hinitY : kY.init = .initialized := Cond.initialized_spec (findClass_of_methodNamed hn) hkY h3
  have h : At U g.method c below := by rw [hg]; exact X.here
  have hlocals9 : W9 + (maxL + 11) + (headSpec ws rm).room.locals ≤ R.locals := hlocals
  have happ : (headSpec ws rm).appliesLoose y e.platform (U.calling g mk a) = true :=
    Spec.appliesLoose_calling (g := g) h hdg hn hkY hinitY
      (X.room_calling (g := g) (R' := (headSpec ws rm).room) hsize hmY hcY hframes (by rw [hlY]; omega) h4 h5) h1
  obtain ⟨mid, hmid⟩ := h.above
  have hfr : (U.setTop g).frames = (.java g :: mid) ++ below := by rw [State.frames_setTop' g h.top, hmid]; rfl
  obtain ⟨o, s₂, hsteps, -, hend, hq⟩ := Steps.callFree hM p X.admits X.cas X.clock (acts := []) hfr happ hPc trivial
  have hq' : vx_Q Qc XC mc ms free a (U.calling g mk a) o s₂ := hq
  rw [State.frames_setTop' g h.top] at hend
  obtain ⟨g₀, hg0⟩ := Option.isSome_iff_exists.mp h.top
  obtain ⟨r, hr⟩ := State.topJava?_eq_some.mp hg0
  have hr' : (({ U with heap := s₂.heap, slotsUsed := s₂.slotsUsed } : State).setVm s₂.vm).frames = .java g₀ :: r := hr
  rcases hq' with ⟨hqc, L, hfe, hL⟩ | ⟨q, rfl, E, ce, L, hx, hce, hcv, hcl, hW₂, hsm, hL⟩
  · obtain ⟨⟨v, rfl⟩, hW₂, e2, q2, q3, q4, q5, q6⟩ := id hfe
    have e3 : s₂ = ({ (U.calling g mk a).setFrames s₂.frames with heap := s₂.heap, slotsUsed := s₂.slotsUsed } : State).setVm s₂.vm := by
      have : s₂ = ({ s₂ with vm := (U.calling g mk a).vm } : State).setVm s₂.vm := rfl
      rw [e2] at this
      exact this
    obtain ⟨c₂, i₂, len₂, hc₂, hd₂, hf₂⟩ := hend
    have hW' : U.WarmedH s₂.vm := hW₂
    have hcc : c₂ = c := by
      have h1 : s₂.code? g.method = U.code? g.method := by
        rw [State.code?_eq, State.code?_eq, hW'.alike.method?]
      exact Option.some.inj (hc₂.symm.trans (h1.trans h.code))
    subst hcc
    have hlen : len₂ = len := by rw [hdg] at hd₂; cases hd₂; rfl
    subst hlen
    have hs₂ : s₂ = (({ U with heap := s₂.heap, slotsUsed := s₂.slotsUsed } : State).setVm s₂.vm).setTop { g with pc := g.pc + len₂, stack := v.toList ++ g.stack } := by
      refine e3.trans ?_
      rw [hf₂, State.calling_eq h.top, State.setFrames_setFrames, State.setTop_of_frames _ hr', hr]
      rfl
    have hsame : U.sameButNew ({ U with heap := s₂.heap, slotsUsed := s₂.slotsUsed } : State) L mc ms := by
      refine ⟨?_, q2, q3, q4, q5, q6⟩
      obtain ⟨t, ht, -⟩ := State.frames_cons hr
      show ({ U with heap := s₂.heap, slotsUsed := s₂.slotsUsed } : State) = { U.setFrames U.frames with heap := s₂.heap, slotsUsed := s₂.slotsUsed }
      rw [State.setFrames_self ht]
    subst hg
    refine Or.inl ⟨v, ⟨(({ U with heap := s₂.heap, slotsUsed := s₂.slotsUsed } : State).setVm s₂.vm), Ls ++ L, c0 + mc, s0 + ms⟩,
      ⟨X.admits, X.cas, X.clock, X.frames, X.room, X.hears, X.method, X.code, (X.here.setHeapUsed s₂.heap s₂.slotsUsed).setVm hW'.alike, X.tail, State.WarmedH.trans X.warmed hW', X.limits, X.bytes, X.same.trans (hsame.setVm s.vm)⟩,
      ⟨g, mk, s₂, L, rfl, rfl, hqc, rfl, hL, rfl, rfl⟩, ?_⟩
    show Steps p.tables e below _ ((({ U with heap := s₂.heap, slotsUsed := s₂.slotsUsed } : State).setVm s₂.vm).setTop { g with pc := g.pc + len₂, stack := v.toList ++ g.stack })
    rw [← hs₂]
    exact hsteps
  · obtain ⟨e2, q2, q3, q4, q5, q6⟩ := id hsm
    have e3 : s₂ = ({ (U.calling g mk a).setFrames s₂.frames with heap := s₂.heap, slotsUsed := s₂.slotsUsed } : State).setVm s₂.vm := by
      have : s₂ = ({ s₂ with vm := (U.calling g mk a).vm } : State).setVm s₂.vm := rfl
      rw [e2] at this
      exact this
    have hf₂ : s₂.frames = .throwing q :: .java g :: U.frames.tail := hend
    have hW' : U.WarmedH s₂.vm := hW₂
    have hs₂ : s₂ = ((({ U with heap := s₂.heap, slotsUsed := s₂.slotsUsed } : State).setVm s₂.vm).setTop g).pushFrame (.throwing q) := by
      refine e3.trans ?_
      rw [hf₂, State.calling_eq h.top, State.setFrames_setFrames, State.pushFrame, State.frames_setTop _ hr', State.setTop_of_frames _ hr', State.setFrames_setFrames, hr]
      rfl
    have hsame : U.sameButNew ({ U with heap := s₂.heap, slotsUsed := s₂.slotsUsed } : State) L mc ms := by
      refine ⟨?_, q2, q3, q4, q5, q6⟩
      obtain ⟨t, ht, -⟩ := State.frames_cons hr
      show ({ U with heap := s₂.heap, slotsUsed := s₂.slotsUsed } : State) = { U.setFrames U.frames with heap := s₂.heap, slotsUsed := s₂.slotsUsed }
      rw [State.setFrames_self ht]
    subst hg
    refine Or.inr ⟨q, ⟨(({ U with heap := s₂.heap, slotsUsed := s₂.slotsUsed } : State).setVm s₂.vm), Ls ++ L, c0 + mc, s0 + ms⟩,
      ⟨X.admits, X.cas, X.clock, X.frames, X.room, X.hears, X.method, X.code, (X.here.setHeapUsed s₂.heap s₂.slotsUsed).setVm hW'.alike, X.tail, State.WarmedH.trans X.warmed hW', X.limits, X.bytes, X.same.trans (hsame.setVm s.vm)⟩,
      ⟨g, mk, s₂, L, E, ce, rfl, rfl, hx, hce, hcv, hcl, rfl, hL, rfl, rfl⟩, ?_⟩
    show Steps p.tables e below _ (((({ U with heap := s₂.heap, slotsUsed := s₂.slotsUsed } : State).setVm s₂.vm).setTop g).pushFrame (.throwing q))
    rw [← hs₂]
    exact hsteps
end Payer
section Calls
variable {p : Program} {l : Launch} {e : Env} {R : Room} {s : State} {m : MethodId} {args : Array Value} {below : List Frame} {meth : Method} {c : Code} {T : State} {locs : List Loc} {cells slots : Nat}
theorem vx_callV (X : Stand p l e R s m args below meth c T locs cells slots) (hexec : p.tables.exec = Jvm.exec) {own C : String} {index : Nat} {y : MethodName} {bytes : ByteArray} {maxL : Nat} {ret : Option FieldType}
    (hown : s.vm.findClass own = some m.cls) (hlink : (Cond.methodLink own index y).before args s = true) (hinst : (Cond.instanceMethod y).before args s = true) (hsel : (Cond.selects C y y).before args s = true)
    (hcode : (Cond.code y bytes maxL ret).before args s = true) (hy : y.cls ≠ "java/lang/invoke/MethodHandle" ∧ y.cls ≠ "java/lang/invoke/VarHandle")
    {W9 : Nat} {Pre : Pt → Array Value → Prop} {Post : Pt → Array Value → Option Value → Pt → Prop} {PostX : Pt → Array Value → Addr → Pt → Prop} (hK : vx_Back l R p e below s args y 3 W9 Pre Post PostX)
    {b : Addr} {cellB : Cell} (hcell : T.heap[b]? = some cellB) (hobj : cellB.vm.isStatics = false) (hcls : s.vm.findClass C = some cellB.cls)
    {g : JFrame} (hg : g.method = m) (hsize : g.locals.size = c.maxLocals) {argsL rest : List Value} (hlen : ∀ sig, parseMethodDescriptor y.desc = some sig → argsL.length = sig.parameters.length)
    (hstack : g.stack = argsL.reverse ++ .ref b :: rest) (hW : 2 * g.monitorRoom + (rest.map fun v => v.category).sum ≤ W9) (hdg : decode c.code g.pc = .ok (.invokevirtual index, 3))
    (hpre : ∀ vm₁, s.WarmedH vm₁ → Pre ⟨T.setVm vm₁, locs, cells, slots⟩ (Value.ref b :: argsL).toArray) :
    (∃ (v : Option Value) (vm₁ : Vm) (B : Pt), s.WarmedH vm₁ ∧ Stand p l e R s m args below meth c B.U B.locs B.cells B.slots ∧ Post ⟨T.setVm vm₁, locs, cells, slots⟩ (Value.ref b :: argsL).toArray v B ∧
      ∀ target, Steps p.tables e below (B.U.setTop { g with pc := g.pc + 3, stack := v.toList ++ rest }) target → Steps p.tables e below (T.setTop g) target) ∨
    (∃ (q : Addr) (vm₁ : Vm) (B : Pt), s.WarmedH vm₁ ∧ Stand p l e R s m args below meth c B.U B.locs B.cells B.slots ∧ PostX ⟨T.setVm vm₁, locs, cells, slots⟩ (Value.ref b :: argsL).toArray q B ∧
      Steps p.tables e below (T.setTop g) ((B.U.setTop { g with stack := rest }).pushFrame (.throwing q))) := by
  obtain ⟨mk, methM, hnamed, hmethM, hstM, habM⟩ := Cond.instanceMethod_spec hinst
  obtain ⟨methM', cM, hmethM', -, -, -, -, -, -, hsigM⟩ := Cond.code_spec hnamed hcode
  cases hmethM.symm.trans hmethM'
  obtain ⟨c2, r2, m2, q1, q2, q3, q4, kP, hkP, hkPi⟩ := Cond.selects_spec hsel
  cases hcls.symm.trans q1
  cases (State.methodFound?_of_named hnamed hy).symm.trans q2
  cases hnamed.symm.trans q3
  have hselP : selectMethod e.platform s.vm cellB.cls mk = .method mk := by rw [Launch.admits_selectMethod X.admits]; exact q4
  obtain ⟨vm₁, X₁, hstep₁⟩ := X.invokevirtual hexec hown hlink hnamed hmethM hstM hkP hkPi hy (a := b) (cell := cellB) hcell
    (fun z h => by rw [h] at hobj; cases hobj) hselP hmethM habM hkP hkPi (g := g) hg (argsL := argsL) (rest := rest) (hlen _ hsigM) hstack hdg
  rcases hK m meth c ⟨T.setVm vm₁, locs, cells, slots⟩ { g with stack := rest } (.invokevirtual index) mk (Value.ref b :: argsL).toArray X₁ hg hsize hdg hW (X₁.named hnamed) (hpre vm₁ X₁.warmed) with ⟨v, B, X', hpost, hsteps⟩ | ⟨q, B, X', hpost, hsteps⟩
  · exact Or.inl ⟨v, vm₁, B, X₁.warmed, X', hpost, fun target h => hstep₁ _ fun acts => by rw [doInvoke_state]; exact hsteps.trans h⟩
  · exact Or.inr ⟨q, vm₁, B, X₁.warmed, X', hpost, hstep₁ _ fun acts => by rw [doInvoke_state]; exact hsteps⟩
theorem vx_callS (X : Stand p l e R s m args below meth c T locs cells slots) (hexec : p.tables.exec = Jvm.exec) {own : String} {index : Nat} {y : MethodName} {bytes : ByteArray} {maxL : Nat} {ret : Option FieldType}
    (hown : s.vm.findClass own = some m.cls) (hlink : (Cond.methodLink own index y).before args s = true) (hstat : (Cond.static y).before args s = true) (hinit : (Cond.initialized y.cls).before args s = true)
    (hcode : (Cond.code y bytes maxL ret).before args s = true) (hy : y.cls ≠ "java/lang/invoke/MethodHandle" ∧ y.cls ≠ "java/lang/invoke/VarHandle")
    {W9 : Nat} {Pre : Pt → Array Value → Prop} {Post : Pt → Array Value → Option Value → Pt → Prop} {PostX : Pt → Array Value → Addr → Pt → Prop} (hK : vx_Back l R p e below s args y 3 W9 Pre Post PostX)
    {g : JFrame} (hg : g.method = m) (hsize : g.locals.size = c.maxLocals) {argsL rest : List Value} (hlen : ∀ sig, parseMethodDescriptor y.desc = some sig → argsL.length = sig.parameters.length)
    (hstack : g.stack = argsL.reverse ++ rest) (hW : 2 * g.monitorRoom + (rest.map fun v => v.category).sum ≤ W9) (hdg : decode c.code g.pc = .ok (.invokestatic index, 3))
    (hpre : ∀ vm₁, s.WarmedH vm₁ → Pre ⟨T.setVm vm₁, locs, cells, slots⟩ argsL.toArray) :
    (∃ (v : Option Value) (vm₁ : Vm) (B : Pt), s.WarmedH vm₁ ∧ Stand p l e R s m args below meth c B.U B.locs B.cells B.slots ∧ Post ⟨T.setVm vm₁, locs, cells, slots⟩ argsL.toArray v B ∧
      ∀ target, Steps p.tables e below (B.U.setTop { g with pc := g.pc + 3, stack := v.toList ++ rest }) target → Steps p.tables e below (T.setTop g) target) ∨
    (∃ (q : Addr) (vm₁ : Vm) (B : Pt), s.WarmedH vm₁ ∧ Stand p l e R s m args below meth c B.U B.locs B.cells B.slots ∧ PostX ⟨T.setVm vm₁, locs, cells, slots⟩ argsL.toArray q B ∧
      Steps p.tables e below (T.setTop g) ((B.U.setTop { g with stack := rest }).pushFrame (.throwing q))) := by
  obtain ⟨mk, hnamed⟩ := Cond.code_named hcode
  obtain ⟨methM, cM, hmethM, -, -, -, -, -, -, hsigM⟩ := Cond.code_spec hnamed hcode
  have hstatic : methM.isStatic = true := Cond.static_spec hnamed hmethM hstat
  obtain ⟨kP, hkP, -⟩ := className_of_methodNamed hnamed
  have hinitP : kP.init = .initialized := Cond.initialized_spec (findClass_of_methodNamed hnamed) hkP hinit
  obtain ⟨vm₁, X₁, hstep₁⟩ := X.invokestatic hexec hown hlink hnamed hmethM hstatic hkP hinitP hy (g := g) hg (argsL := argsL) (rest := rest) (hlen _ hsigM) hstack hdg
  rcases hK m meth c ⟨T.setVm vm₁, locs, cells, slots⟩ { g with stack := rest } (.invokestatic index) mk argsL.toArray X₁ hg hsize hdg hW (X₁.named hnamed) (hpre vm₁ X₁.warmed) with ⟨v, B, X', hpost, hsteps⟩ | ⟨q, B, X', hpost, hsteps⟩
  · exact Or.inl ⟨v, vm₁, B, X₁.warmed, X', hpost, fun target h => hstep₁ _ fun acts => by rw [doInvoke_state]; exact hsteps.trans h⟩
  · exact Or.inr ⟨q, vm₁, B, X₁.warmed, X', hpost, hstep₁ _ fun acts => by rw [doInvoke_state]; exact hsteps⟩
end Calls
theorem vx_cls {s : State} {T : State} {vm₁ : Vm} {E : String} {k : ClassId} (hW : s.WarmedH vm₁) (h : (T.setVm vm₁).vm.findClass E = some k) : s.vm.findClass E = some k := by
  have h1 : vm₁.findClass E = some k := h
  rw [hW.alike.findClass] at h1
  exact h1
/-- the method's frame g, with q thrown over it -/
def vx_W (p : Program) (l : Launch) (e : Env) (R : Room) (s : State) (m : MethodId) (args : Array Value) (below : List Frame) (meth : Method) (c : Code) (H : Heap) (locs : List Loc) (cells slots : Nat) (Q : State → Prop) (g : JFrame) (q : Addr) : Prop :=
  ∀ T : State, T.heap = H → Stand p l e R s m args below meth c T locs cells slots → ∃ t, Steps p.tables e below ((T.setTop g).pushFrame (.throwing q)) t ∧ Q t
def vx_Run (p : Program) (l : Launch) (e : Env) (R : Room) (s : State) (m : MethodId) (args : Array Value) (below : List Frame) (meth : Method) (c : Code) (H : Heap) (locs : List Loc) (cells slots mc ms : Nat) (g : JFrame) (rest : List Value) (Qa : State → Outcome → State → Prop) (XC : String → State → State → Prop) (free : Addr → Prop) : Prop :=
  ∀ T : State, T.heap = H → Stand p l e R s m args below meth c T locs cells slots →
    (∃ (v : Option Value) (st₀ t T' : State) (L : List Loc), st₀.heap = H ∧ Stand p l e R s m args below meth c T' (locs ++ L) (cells + mc) (slots + ms) ∧ (∀ q ∈ L, free q.base) ∧ T'.heap = t.heap ∧ T'.vm = t.vm ∧ Qa st₀ (.returned v) t ∧
      Goes p e below T g T' { g with pc := g.pc + 3, stack := v.toList ++ rest }) ∨
    (∃ (q : Addr) (st₀ t T' : State) (L : List Loc) (E : String) (ce : Cell), st₀.heap = H ∧ Stand p l e R s m args below meth c T' (locs ++ L) (cells + mc) (slots + ms) ∧ (∀ z ∈ L, free z.base) ∧ T'.heap = t.heap ∧ T'.vm = t.vm ∧ XC E st₀ t ∧ t.heap[q]? = some ce ∧ ce.vm = .none ∧ s.vm.findClass E = some ce.cls ∧
      Steps p.tables e below (T.setTop g) ((T'.setTop { g with stack := rest }).pushFrame (.throwing q)))
def vx_X {S : Type} (px : S → Prop) (B : String → S → State → Prop) (A : Nat → Prop) : String → State → State → Prop := fun E st t => ∃ u : S, px u ∧ B E u t ∧ va_F A st t
section Runs
variable {p : Program} {l : Launch} {e : Env} {R : Room} {s : State} {m : MethodId} {args : Array Value} {below : List Frame} {meth : Method} {c : Code} {H : Heap} {locs : List Loc} {cells slots : Nat}
variable {y : MethodName} {bytes cc : ByteArray} {maxL nL mc ms n index : Nat} {ret : Option FieldType} {ws : List Cond} {rm : Room} {Pc : Array Value → State → Prop} {Qc : Array Value → State → Outcome → State → Prop} {XC : String → State → State → Prop} {free : Addr → Prop} {Ts : List Cond} {own C : String} {b : Addr} {As rest : List Value} {g : JFrame}
theorem vx_callBack (cb : CallB R s args own index y bytes maxL ret ws rm mc ms n) (hM : vx_Met l y ws rm Pc Qc XC mc ms free) (hbl : FrameBlind Pc) : vx_Back l R p e below s args y 3 8 (PreOf R mc ms Pc) (PostOf Qc mc ms free) (vx_Post XC mc ms free) := by
  obtain ⟨hrc, hrs, hfr, hlo, hws, hcw, -, hini, -⟩ := cb
  exact vx_back (bytes := bytes) (maxL := maxL) (ret := ret) hM hbl hrc hrs hfr hlo hws hcw (fun a' U hW => word_at hW (Or.inl (by first | rfl | simp [Cond.onTables, Cond.keeps, Cond.steady])) hini)
theorem vx_runV (S : CallFix p m c cc nL s args Ts own) (hM : vx_Met l y ws rm Pc Qc XC mc ms free) (cw : CallW R s args own C index y bytes maxL ret ws rm mc ms n) (hp : PreV s H C b Pc As)
    (hg : g.method = m) (hn : As.length = n) (hsize : g.locals.size = nL) (hstack : g.stack = As.reverse ++ .ref b :: rest) (hW : 2 * g.monitorRoom + (rest.map fun v => v.category).sum ≤ 8) (hdg : decode cc g.pc = .ok (.invokevirtual index, 3)) (hf : cells + mc ≤ R.cells ∧ slots + ms ≤ R.slots) :
    vx_Run p l e R s m args below meth c H locs cells slots mc ms g rest (Qc (Value.ref b :: As).toArray) XC free := by
  have hK : vx_Back l R p e below s args y 3 8 (PreOf R mc ms Pc) (PostOf Qc mc ms free) (vx_Post XC mc ms free) := vx_callBack cw.1 hM hp.1
  obtain ⟨⟨-, -, -, -, -, -, hcode, -, hy, hlen, hl⟩, hin, hse⟩ := cw
  obtain ⟨hx, hb, hml, ho, -⟩ := S
  obtain ⟨-, ⟨cellB, hcB, hoB, hclB⟩, hPc⟩ := hp
  intro T hT X
  rcases vx_callV X hx (C := C) (bytes := bytes) (maxL := maxL) (ret := ret) ho hl hin hse hcode hy hK (by rw [hT]; exact hcB) hoB hclB hg (hsize.trans hml.symm) (argsL := As) (rest := rest) (fun sig h => hn.trans (hlen sig h)) hstack hW (by rw [hb]; exact hdg)
    (fun vm₁ hW₁ => ⟨hf.1, hf.2, hPc (T.setVm vm₁) hT hW₁⟩) with ⟨v, vm₁, ⟨U', l2, c2, s2⟩, hW₁, X', ⟨g', mk, t, L, e1, e2, hq, h1, hL, h2, h3⟩, st⟩ | ⟨q, vm₁, ⟨U', l2, c2, s2⟩, hW₁, X', ⟨g', mk, t, L, E, ce, e1, e2, hq, hce, hcv, hcl, h1, hL, h2, h3⟩, st⟩
  · dsimp only [Pt.U, Pt.locs, Pt.cells, Pt.slots] at X' e1 e2 h1 h2 h3 st
    subst h1; subst h2; subst h3
    exact Or.inl ⟨v, (T.setVm vm₁).calling g' mk (Value.ref b :: As).toArray, t, U', L, hT, X', hL, e1, e2, hq, st⟩
  · dsimp only [Pt.U, Pt.locs, Pt.cells, Pt.slots] at X' e1 e2 h1 h2 h3 st hcl
    subst h1; subst h2; subst h3
    exact Or.inr ⟨q, (T.setVm vm₁).calling g' mk (Value.ref b :: As).toArray, t, U', L, E, ce, hT, X', hL, e1, e2, hq, hce, hcv, vx_cls hW₁ hcl, st⟩
theorem vx_runS (S : CallFix p m c cc nL s args Ts own) (hM : vx_Met l y ws rm Pc Qc XC mc ms free) (cw : CallB R s args own index y bytes maxL ret ws rm mc ms n ∧ (Cond.static y).before args s = true) (hp : PreS s H Pc As)
    (hg : g.method = m) (hn : As.length = n) (hsize : g.locals.size = nL) (hstack : g.stack = As.reverse ++ rest) (hW : 2 * g.monitorRoom + (rest.map fun v => v.category).sum ≤ 8) (hdg : decode cc g.pc = .ok (.invokestatic index, 3)) (hf : cells + mc ≤ R.cells ∧ slots + ms ≤ R.slots) :
    vx_Run p l e R s m args below meth c H locs cells slots mc ms g rest (Qc As.toArray) XC free := by
  have hK : vx_Back l R p e below s args y 3 8 (PreOf R mc ms Pc) (PostOf Qc mc ms free) (vx_Post XC mc ms free) := vx_callBack cw.1 hM hp.1
  obtain ⟨⟨-, -, -, -, -, -, hcode, hini, hy, hlen, hl⟩, hstt⟩ := cw
  obtain ⟨hx, hb, hml, ho, -⟩ := S
  intro T hT X
  rcases vx_callS X hx (bytes := bytes) (maxL := maxL) (ret := ret) ho hl hstt hini hcode hy hK hg (hsize.trans hml.symm) (argsL := As) (rest := rest) (fun sig h => hn.trans (hlen sig h)) hstack hW (by rw [hb]; exact hdg)
    (fun vm₁ hW₁ => ⟨hf.1, hf.2, hp.2 (T.setVm vm₁) hT hW₁⟩) with ⟨v, vm₁, ⟨U', l2, c2, s2⟩, hW₁, X', ⟨g', mk, t, L, e1, e2, hq, h1, hL, h2, h3⟩, st⟩ | ⟨q, vm₁, ⟨U', l2, c2, s2⟩, hW₁, X', ⟨g', mk, t, L, E, ce, e1, e2, hq, hce, hcv, hcl, h1, hL, h2, h3⟩, st⟩
  · dsimp only [Pt.U, Pt.locs, Pt.cells, Pt.slots] at X' e1 e2 h1 h2 h3 st
    subst h1; subst h2; subst h3
    exact Or.inl ⟨v, (T.setVm vm₁).calling g' mk As.toArray, t, U', L, hT, X', hL, e1, e2, hq, st⟩
  · dsimp only [Pt.U, Pt.locs, Pt.cells, Pt.slots] at X' e1 e2 h1 h2 h3 st hcl
    subst h1; subst h2; subst h3
    exact Or.inr ⟨q, (T.setVm vm₁).calling g' mk As.toArray, t, U', L, E, ce, hT, X', hL, e1, e2, hq, hce, hcv, vx_cls hW₁ hcl, st⟩
end Runs
section Rows
variable {p : Program} {l : Launch} {e : Env} {R : Room} {s : State} {m : MethodId} {args : Array Value} {below : List Frame} {meth : Method} {c : Code} {H : Heap} {locs : List Loc} {cells slots : Nat} {Q : State → Prop}
variable {mc ms : Nat} {free : Addr → Prop} {A0 A1 : Nat → Prop} {H0 : Heap} {a : Array Value} {pc : Nat} {ls : Array Slot} {st0 rest : List Value}
theorem vx_keep {st₀ t T' : State} {L : List Loc} (h0 : st₀.heap = H) (e1 : T'.heap = t.heap) (hS : va_S A0 H0 H locs) (hA : ∀ q, q < H.size → A1 q → A0 q) (hf : ∀ q, free q → A0 q) (hL : ∀ q ∈ L, free q.base) (hF : va_F A1 st₀ t) :
    H.size ≤ T'.heap.size ∧ (∀ q : Nat, q < H.size → ¬ A1 q → T'.heap[q]? = H[q]?) ∧ va_S A0 H0 T'.heap (locs ++ L) := by
  obtain ⟨hz, hk⟩ := hF
  rw [h0] at hz hk
  exact ⟨by rw [e1]; exact hz, fun q h1 h2 => by rw [e1]; exact hk q h1 h2,
    ⟨Nat.le_trans hS.1 (by rw [e1]; exact hz), fun q h1 h2 => by rw [e1, hk q (Nat.lt_of_lt_of_le h1 hS.1) (fun z => h2 (hA q (Nat.lt_of_lt_of_le h1 hS.1) z))]; exact hS.2.1 q h1 h2, fun q hq => by
      rcases List.mem_append.mp hq with h | h
      · exact hS.2.2 q h
      · exact hf _ (hL q h)⟩⟩
theorem vx_calli {S SX : Type} {post : Int32 → S → Prop} {px : SX → Prop} {B : S → State → Prop} {BX : String → SX → State → Prop} {AX : Nat → Prop} (hr : vx_Run p l e R s m args below meth c H locs cells slots mc ms (F0 m pc ls st0) rest (va_Qi post B A1 a) (vx_X px BX AX) free) (hS : va_S A0 H0 H locs) (hA : ∀ q, q < H.size → A1 q → A0 q) (hf : ∀ q, free q → A0 q) (hAX : ∀ q, q < H.size → AX q → A0 q)
    (kx : ∀ (E : String) (ce : Cell) (q9 : Addr) (u : SX) (t : State) (H1 : Heap) (locs1 : List Loc), t.heap = H1 → s.vm.Alike t.vm → px u → BX E u t → H.size ≤ H1.size → (∀ q : Nat, q < H.size → ¬ AX q → H1[q]? = H[q]?) → va_S A0 H0 H1 locs1 → H1[q9]? = some ce → ce.vm = .none → s.vm.findClass E = some ce.cls → vx_W p l e R s m args below meth c H1 locs1 (cells + mc) (slots + ms) Q (F0 m pc ls rest) q9)
    (kk : ∀ (r : Int32) (u : S) (t : State) (H1 : Heap) (locs1 : List Loc), t.heap = H1 → s.vm.Alike t.vm → post r u → B u t → H.size ≤ H1.size → (∀ q : Nat, q < H.size → ¬ A1 q → H1[q]? = H[q]?) → va_S A0 H0 H1 locs1 → W p l e R s m args below meth c H1 locs1 (cells + mc) (slots + ms) Q (F0 m (pc + 3) ls (.int r :: rest))) : W p l e R s m args below meth c H locs cells slots Q (F0 m pc ls st0) := by
  intro T hT X
  rcases hr T hT X with ⟨v, st₀, t, T', L, h0, X', hL, e1, e2, ⟨⟨r, u, hv, hp, hb⟩, hF⟩, st⟩ | ⟨q, st₀, t, T', L, E, ce, h0, X', hL, e1, e2, ⟨u, hp, hb, hF⟩, hce, hcv, hcl, st⟩
  · cases hv
    obtain ⟨k1, k2, k3⟩ := vx_keep h0 e1 hS hA hf hL hF
    obtain ⟨t2, a1, b1⟩ := kk r u t T'.heap (locs ++ L) e1.symm (by rw [← e2]; exact X'.warmed.alike) hp hb k1 k2 k3 T' rfl X'
    exact ⟨t2, st t2 a1, b1⟩
  · obtain ⟨k1, k2, k3⟩ := vx_keep h0 e1 hS hAX hf hL hF
    obtain ⟨t2, a1, b1⟩ := kx E ce q u t T'.heap (locs ++ L) e1.symm (by rw [← e2]; exact X'.warmed.alike) hp hb k1 k2 k3 (by rw [e1]; exact hce) hcv hcl T' rfl X'
    exact ⟨t2, st.trans a1, b1⟩
theorem vx_calll {S SX : Type} {post : Int64 → S → Prop} {px : SX → Prop} {B : S → State → Prop} {BX : String → SX → State → Prop} {AX : Nat → Prop} (hr : vx_Run p l e R s m args below meth c H locs cells slots mc ms (F0 m pc ls st0) rest (va_Ql post B A1 a) (vx_X px BX AX) free) (hS : va_S A0 H0 H locs) (hA : ∀ q, q < H.size → A1 q → A0 q) (hf : ∀ q, free q → A0 q) (hAX : ∀ q, q < H.size → AX q → A0 q)
    (kx : ∀ (E : String) (ce : Cell) (q9 : Addr) (u : SX) (t : State) (H1 : Heap) (locs1 : List Loc), t.heap = H1 → s.vm.Alike t.vm → px u → BX E u t → H.size ≤ H1.size → (∀ q : Nat, q < H.size → ¬ AX q → H1[q]? = H[q]?) → va_S A0 H0 H1 locs1 → H1[q9]? = some ce → ce.vm = .none → s.vm.findClass E = some ce.cls → vx_W p l e R s m args below meth c H1 locs1 (cells + mc) (slots + ms) Q (F0 m pc ls rest) q9)
    (kk : ∀ (r : Int64) (u : S) (t : State) (H1 : Heap) (locs1 : List Loc), t.heap = H1 → s.vm.Alike t.vm → post r u → B u t → H.size ≤ H1.size → (∀ q : Nat, q < H.size → ¬ A1 q → H1[q]? = H[q]?) → va_S A0 H0 H1 locs1 → W p l e R s m args below meth c H1 locs1 (cells + mc) (slots + ms) Q (F0 m (pc + 3) ls (.long r :: rest))) : W p l e R s m args below meth c H locs cells slots Q (F0 m pc ls st0) := by
  intro T hT X
  rcases hr T hT X with ⟨v, st₀, t, T', L, h0, X', hL, e1, e2, ⟨⟨r, u, hv, hp, hb⟩, hF⟩, st⟩ | ⟨q, st₀, t, T', L, E, ce, h0, X', hL, e1, e2, ⟨u, hp, hb, hF⟩, hce, hcv, hcl, st⟩
  · cases hv
    obtain ⟨k1, k2, k3⟩ := vx_keep h0 e1 hS hA hf hL hF
    obtain ⟨t2, a1, b1⟩ := kk r u t T'.heap (locs ++ L) e1.symm (by rw [← e2]; exact X'.warmed.alike) hp hb k1 k2 k3 T' rfl X'
    exact ⟨t2, st t2 a1, b1⟩
  · obtain ⟨k1, k2, k3⟩ := vx_keep h0 e1 hS hAX hf hL hF
    obtain ⟨t2, a1, b1⟩ := kx E ce q u t T'.heap (locs ++ L) e1.symm (by rw [← e2]; exact X'.warmed.alike) hp hb k1 k2 k3 (by rw [e1]; exact hce) hcv hcl T' rfl X'
    exact ⟨t2, st.trans a1, b1⟩
theorem vx_callf {S SX : Type} {post : UInt32 → S → Prop} {px : SX → Prop} {B : S → State → Prop} {BX : String → SX → State → Prop} {AX : Nat → Prop} (hr : vx_Run p l e R s m args below meth c H locs cells slots mc ms (F0 m pc ls st0) rest (va_Qf post B A1 a) (vx_X px BX AX) free) (hS : va_S A0 H0 H locs) (hA : ∀ q, q < H.size → A1 q → A0 q) (hf : ∀ q, free q → A0 q) (hAX : ∀ q, q < H.size → AX q → A0 q)
    (kx : ∀ (E : String) (ce : Cell) (q9 : Addr) (u : SX) (t : State) (H1 : Heap) (locs1 : List Loc), t.heap = H1 → s.vm.Alike t.vm → px u → BX E u t → H.size ≤ H1.size → (∀ q : Nat, q < H.size → ¬ AX q → H1[q]? = H[q]?) → va_S A0 H0 H1 locs1 → H1[q9]? = some ce → ce.vm = .none → s.vm.findClass E = some ce.cls → vx_W p l e R s m args below meth c H1 locs1 (cells + mc) (slots + ms) Q (F0 m pc ls rest) q9)
    (kk : ∀ (r : UInt32) (u : S) (t : State) (H1 : Heap) (locs1 : List Loc), t.heap = H1 → s.vm.Alike t.vm → post r u → B u t → H.size ≤ H1.size → (∀ q : Nat, q < H.size → ¬ A1 q → H1[q]? = H[q]?) → va_S A0 H0 H1 locs1 → W p l e R s m args below meth c H1 locs1 (cells + mc) (slots + ms) Q (F0 m (pc + 3) ls (.float r :: rest))) : W p l e R s m args below meth c H locs cells slots Q (F0 m pc ls st0) := by
  intro T hT X
  rcases hr T hT X with ⟨v, st₀, t, T', L, h0, X', hL, e1, e2, ⟨⟨r, u, hv, hp, hb⟩, hF⟩, st⟩ | ⟨q, st₀, t, T', L, E, ce, h0, X', hL, e1, e2, ⟨u, hp, hb, hF⟩, hce, hcv, hcl, st⟩
  · cases hv
    obtain ⟨k1, k2, k3⟩ := vx_keep h0 e1 hS hA hf hL hF
    obtain ⟨t2, a1, b1⟩ := kk r u t T'.heap (locs ++ L) e1.symm (by rw [← e2]; exact X'.warmed.alike) hp hb k1 k2 k3 T' rfl X'
    exact ⟨t2, st t2 a1, b1⟩
  · obtain ⟨k1, k2, k3⟩ := vx_keep h0 e1 hS hAX hf hL hF
    obtain ⟨t2, a1, b1⟩ := kx E ce q u t T'.heap (locs ++ L) e1.symm (by rw [← e2]; exact X'.warmed.alike) hp hb k1 k2 k3 (by rw [e1]; exact hce) hcv hcl T' rfl X'
    exact ⟨t2, st.trans a1, b1⟩
theorem vx_calld {S SX : Type} {post : UInt64 → S → Prop} {px : SX → Prop} {B : S → State → Prop} {BX : String → SX → State → Prop} {AX : Nat → Prop} (hr : vx_Run p l e R s m args below meth c H locs cells slots mc ms (F0 m pc ls st0) rest (va_Qd post B A1 a) (vx_X px BX AX) free) (hS : va_S A0 H0 H locs) (hA : ∀ q, q < H.size → A1 q → A0 q) (hf : ∀ q, free q → A0 q) (hAX : ∀ q, q < H.size → AX q → A0 q)
    (kx : ∀ (E : String) (ce : Cell) (q9 : Addr) (u : SX) (t : State) (H1 : Heap) (locs1 : List Loc), t.heap = H1 → s.vm.Alike t.vm → px u → BX E u t → H.size ≤ H1.size → (∀ q : Nat, q < H.size → ¬ AX q → H1[q]? = H[q]?) → va_S A0 H0 H1 locs1 → H1[q9]? = some ce → ce.vm = .none → s.vm.findClass E = some ce.cls → vx_W p l e R s m args below meth c H1 locs1 (cells + mc) (slots + ms) Q (F0 m pc ls rest) q9)
    (kk : ∀ (r : UInt64) (u : S) (t : State) (H1 : Heap) (locs1 : List Loc), t.heap = H1 → s.vm.Alike t.vm → post r u → B u t → H.size ≤ H1.size → (∀ q : Nat, q < H.size → ¬ A1 q → H1[q]? = H[q]?) → va_S A0 H0 H1 locs1 → W p l e R s m args below meth c H1 locs1 (cells + mc) (slots + ms) Q (F0 m (pc + 3) ls (.double r :: rest))) : W p l e R s m args below meth c H locs cells slots Q (F0 m pc ls st0) := by
  intro T hT X
  rcases hr T hT X with ⟨v, st₀, t, T', L, h0, X', hL, e1, e2, ⟨⟨r, u, hv, hp, hb⟩, hF⟩, st⟩ | ⟨q, st₀, t, T', L, E, ce, h0, X', hL, e1, e2, ⟨u, hp, hb, hF⟩, hce, hcv, hcl, st⟩
  · cases hv
    obtain ⟨k1, k2, k3⟩ := vx_keep h0 e1 hS hA hf hL hF
    obtain ⟨t2, a1, b1⟩ := kk r u t T'.heap (locs ++ L) e1.symm (by rw [← e2]; exact X'.warmed.alike) hp hb k1 k2 k3 T' rfl X'
    exact ⟨t2, st t2 a1, b1⟩
  · obtain ⟨k1, k2, k3⟩ := vx_keep h0 e1 hS hAX hf hL hF
    obtain ⟨t2, a1, b1⟩ := kx E ce q u t T'.heap (locs ++ L) e1.symm (by rw [← e2]; exact X'.warmed.alike) hp hb k1 k2 k3 (by rw [e1]; exact hce) hcv hcl T' rfl X'
    exact ⟨t2, st.trans a1, b1⟩
theorem vx_callv {S SX : Type} {post : S → Prop} {px : SX → Prop} {B : S → State → Prop} {BX : String → SX → State → Prop} {AX : Nat → Prop} (hr : vx_Run p l e R s m args below meth c H locs cells slots mc ms (F0 m pc ls st0) rest (va_Qv post B A1 a) (vx_X px BX AX) free) (hS : va_S A0 H0 H locs) (hA : ∀ q, q < H.size → A1 q → A0 q) (hf : ∀ q, free q → A0 q) (hAX : ∀ q, q < H.size → AX q → A0 q)
    (kx : ∀ (E : String) (ce : Cell) (q9 : Addr) (u : SX) (t : State) (H1 : Heap) (locs1 : List Loc), t.heap = H1 → s.vm.Alike t.vm → px u → BX E u t → H.size ≤ H1.size → (∀ q : Nat, q < H.size → ¬ AX q → H1[q]? = H[q]?) → va_S A0 H0 H1 locs1 → H1[q9]? = some ce → ce.vm = .none → s.vm.findClass E = some ce.cls → vx_W p l e R s m args below meth c H1 locs1 (cells + mc) (slots + ms) Q (F0 m pc ls rest) q9)
    (kk : ∀ (u : S) (t : State) (H1 : Heap) (locs1 : List Loc), t.heap = H1 → s.vm.Alike t.vm → post u → B u t → H.size ≤ H1.size → (∀ q : Nat, q < H.size → ¬ A1 q → H1[q]? = H[q]?) → va_S A0 H0 H1 locs1 → W p l e R s m args below meth c H1 locs1 (cells + mc) (slots + ms) Q (F0 m (pc + 3) ls (rest))) : W p l e R s m args below meth c H locs cells slots Q (F0 m pc ls st0) := by
  intro T hT X
  rcases hr T hT X with ⟨v, st₀, t, T', L, h0, X', hL, e1, e2, ⟨⟨u, hv, hp, hb⟩, hF⟩, st⟩ | ⟨q, st₀, t, T', L, E, ce, h0, X', hL, e1, e2, ⟨u, hp, hb, hF⟩, hce, hcv, hcl, st⟩
  · cases hv
    obtain ⟨k1, k2, k3⟩ := vx_keep h0 e1 hS hA hf hL hF
    obtain ⟨t2, a1, b1⟩ := kk u t T'.heap (locs ++ L) e1.symm (by rw [← e2]; exact X'.warmed.alike) hp hb k1 k2 k3 T' rfl X'
    exact ⟨t2, st t2 a1, b1⟩
  · obtain ⟨k1, k2, k3⟩ := vx_keep h0 e1 hS hAX hf hL hF
    obtain ⟨t2, a1, b1⟩ := kx E ce q u t T'.heap (locs ++ L) e1.symm (by rw [← e2]; exact X'.warmed.alike) hp hb k1 k2 k3 (by rw [e1]; exact hce) hcv hcl T' rfl X'
    exact ⟨t2, st.trans a1, b1⟩
end Rows
section Ends
variable {p : Program} {l : Launch} {e : Env} {R : Room} {s : State} {m : MethodId} {args : Array Value} {below : List Frame} {meth : Method} {c : Code} {H : Heap} {locs : List Loc} {cells slots : Nat} {Q : State → Prop}
variable {mc ms : Nat} {free : Addr → Prop} {A0 A1 : Nat → Prop} {H0 : Heap} {a : Array Value} {ls : Array Slot} {st0 rest : List Value}
variable {Qc : Array Value → State → Outcome → State → Prop} {XC : String → State → State → Prop}
/-- what a body that may throw owes at its end -/
def vx_MQ (below : List Frame) (Qc : Array Value → State → Outcome → State → Prop) (XC : String → State → State → Prop) (a : Array Value) (s : State) (mc ms : Nat) (free : Addr → Prop) : State → Prop := fun t =>
  ∃ o, t.status = .running ∧ Ended t below o ∧ vx_Q Qc XC mc ms free a s o t
theorem vx_ret {g : JFrame} {mc ms : Nat} (k : W p l e R s m args below meth c H locs cells slots (MQ below Qc args s mc ms free) g) : W p l e R s m args below meth c H locs cells slots (vx_MQ below Qc XC args s mc ms free) g := by
  intro T hT X
  obtain ⟨t, a1, o, b1, b2, b3, b4⟩ := k T hT X
  exact ⟨t, a1, o, b1, b2, Or.inl ⟨b3, b4⟩⟩
/-- not caught here: it goes on to the caller -/
theorem vx_widen {g : JFrame} {q : Addr} {k n : Nat} (h1 : cells ≤ k) (h2 : slots ≤ n) (kk : vx_W p l e R s m args below meth c H locs k n Q g q) : vx_W p l e R s m args below meth c H locs cells slots Q g q := fun T hT X => kk T hT (stand_widen X h1 h2)
theorem vx_out {pc : Nat} {E : String} {ce : Cell} {q : Addr} {mc ms : Nat} (hout : ∀ x ∈ c.exceptionTable.toList, covers x pc = false) (hlocks : meth.locks = false) (hcell : H[q]? = some ce) (hv : ce.vm = .none) (hcl : s.vm.findClass E = some ce.cls)
    (hx : ∀ t : State, t.heap = H → s.vm.Alike t.vm → XC E s t) (hf : ∀ z ∈ locs, free z.base) (hc : cells ≤ mc) (hs : slots ≤ ms) :
    vx_W p l e R s m args below meth c H locs cells slots (vx_MQ below Qc XC args s mc ms free) (F0 m pc ls rest) q := by
  intro T hT X
  obtain ⟨st1, hrun, hend, hW, hsm⟩ := X.leaveThrown q (g := F0 m pc ls rest) rfl rfl rfl hout hlocks
  have hcell9 : (T.setFrames (.throwing q :: below)).heap[q]? = some ce := by
    show T.heap[q]? = some ce
    rw [hT]; exact hcell
  exact ⟨_, st1, .threw q, hrun, hend, Or.inr ⟨q, rfl, E, ce, locs, hx _ hT hW.alike, hcell9, hv, hcl, hW, hsm.mono hc hs, hf⟩⟩
theorem vx_frame {U : State} {k n : Nat} (h : s.sameButNew ({ U with vm := s.vm } : State) locs k n) : s.heap.size ≤ U.heap.size ∧ ∀ q : Nat, q < s.heap.size → (∀ z ∈ locs, z.base ≠ q) → U.heap[q]? = s.heap[q]? := by
  obtain ⟨-, h2, -, -, -, h6⟩ := h
  refine ⟨h2, fun q hq hz => ?_⟩
  obtain ⟨c9, e1, e2, e3, e4⟩ := h6 q _ (Array.getElem?_eq_getElem hq)
  have hs : c9.slots = (s.heap[q]).slots := Array.ext_getElem? fun i => e4 i fun hm => hz _ hm rfl
  have h9 : c9 = s.heap[q] := by
    rw [hs] at e2
    exact e2
  have e5 : U.heap[q]? = some c9 := e1
  rw [e5, h9, Array.getElem?_eq_getElem hq]
/-- the words of a throw but the four that speak of the heap -/
def vx_no (w : Cond) : Bool := decide (w ≠ .isRef (.static Bundle.tN "UNASSIGNED_STACK" Bundle.steD)) && decide (w ≠ .isRef (.static Bundle.tN "SUPPRESSED_SENTINEL" Bundle.listD)) && decide (w ≠ .laysStatic Bundle.tN "UNASSIGNED_STACK" Bundle.steD) && decide (w ≠ .laysStatic Bundle.tN "SUPPRESSED_SENTINEL" Bundle.listD)
def vx_at0 (own : String) (ic : Nat) (X : String) (names : List String) : List Cond := (Bundle.ownAtoms0 own ic X names).filter vx_no
def vx_atS (own : String) (ic : Nat) (X : String) (names : List String) : List Cond := (Bundle.ownAtoms own ic X names).filter vx_no
/-- a word that the tables alone decide, or a good one -/
def vx_ot (w : Cond) : Bool := w.onTables || goodWord w
theorem vx_ot_at {args a' : Array Value} {s U : State} {w : Cond} (hW : s.WarmedH U.vm) (hvm : s.vm = U.vm) (hg : vx_ot w = true) (h : w.before args s = true) : w.before a' U = true := by
  simp only [vx_ot, Bool.or_eq_true] at hg
  rcases hg with hg | hg
  · exact va_tabs hg hvm h
  · exact word_at hW (good_of_word hg) h
/-- a list's words: the good ones out of the method's own list, the others by premises of their own -/
theorem vx_hat {args : Array Value} {s : State} {L B : List Cond} (h1 : ∀ w ∈ L.filter goodWord, w.before args s = true) (h2 : ∀ w ∈ L.filter (fun w => !goodWord w), w ∈ B) (h3 : ∀ w ∈ B, w.before args s = true) : ∀ w ∈ L, w.before args s = true := by
  intro w hw
  by_cases g : goodWord w = true
  · exact h1 w (List.mem_filter.mpr ⟨hw, g⟩)
  · refine h3 w (h2 w (List.mem_filter.mpr ⟨hw, ?_⟩))
    show (!goodWord w) = true
    cases hgw : goodWord w
    · rfl
    · exact absurd hgw g
theorem vx_c {args : Array Value} {s : State} {w : Cond} {B : List Cond} (h : w.before args s = true) (t : ∀ w ∈ B, w.before args s = true) : ∀ w' ∈ w :: B, w'.before args s = true := fun w' h' => (List.mem_cons.mp h').elim (fun e => by rw [e]; exact h) (t w')
theorem vx_n {args : Array Value} {s : State} : ∀ w ∈ ([] : List Cond), w.before args s = true := fun _ h => nomatch h
theorem vx_own {args : Array Value} {s : State} {L : List Cond} (h1 : ∀ w ∈ L.filter vx_no, w.before args s = true)
    (hU : (Cond.isRef (.static Bundle.tN "UNASSIGNED_STACK" Bundle.steD)).before args s = true) (hN : (Cond.isRef (.static Bundle.tN "SUPPRESSED_SENTINEL" Bundle.listD)).before args s = true)
    (lU : (Cond.laysStatic Bundle.tN "UNASSIGNED_STACK" Bundle.steD).before args s = true) (lN : (Cond.laysStatic Bundle.tN "SUPPRESSED_SENTINEL" Bundle.listD).before args s = true) : ∀ w ∈ L, w.before args s = true := by
  intro w hw
  by_cases e1 : w = .isRef (.static Bundle.tN "UNASSIGNED_STACK" Bundle.steD)
  · rw [e1]; exact hU
  · by_cases e2 : w = .isRef (.static Bundle.tN "SUPPRESSED_SENTINEL" Bundle.listD)
    · rw [e2]; exact hN
    · by_cases e3 : w = .laysStatic Bundle.tN "UNASSIGNED_STACK" Bundle.steD
      · rw [e3]; exact lU
      · by_cases e4 : w = .laysStatic Bundle.tN "SUPPRESSED_SENTINEL" Bundle.listD
        · rw [e4]; exact lN
        · exact h1 w (List.mem_filter.mpr ⟨hw, by unfold vx_no; rw [decide_eq_true e1, decide_eq_true e2, decide_eq_true e3, decide_eq_true e4]; rfl⟩)
/-- where a static field lies, its class's statics cell in H -/
def vx_L (C n d : String) (A : Nat → Prop) (U : State) (H : Heap) : Prop := ∃ (c : ClassId) (k : Class) (i : Nat) (f : Field) (a : Nat) (cell : Cell), U.vm.findClass C = some c ∧ U.fieldFound? C n d = some (c, k, i, f) ∧ f.isStatic = true ∧ k.statics = some a ∧ H[a]? = some cell ∧ cell.vm.isStatics = true ∧ cell.cls = c ∧ f.slot < cell.slots.size ∧ k.staticTypes[f.slot]? = some f.type ∧ ¬ A a
theorem vx_L.moved {C n d : String} {A : Nat → Prop} {u U : State} {H : Heap} (hvm : u.vm.Alike U.vm) (h : vx_L C n d A u H) : vx_L C n d A U H := by
  obtain ⟨c, k, i, f, a, cell, h1, h2, h3, h4, h5, h6, h7, h8, h9, h10⟩ := h
  obtain ⟨k', hi', he⟩ := State.fieldFound?_setVm hvm h2
  exact ⟨c, k', i, f, a, cell, by rw [hvm.findClass]; exact h1, hi', h3, by rw [he]; exact h4, h5, h6, h7, h8, by rw [he]; exact h9, h10⟩
theorem vx_L.kept {C n d : String} {A : Nat → Prop} {U : State} {H H1 : Heap} (h : vx_L C n d A U H) (hq : ∀ a : Nat, a < H.size → ¬ A a → H1[a]? = H[a]?) : vx_L C n d A U H1 := by
  obtain ⟨c, k, i, f, a, cell, h1, h2, h3, h4, h5, h6, h7, h8, h9, h10⟩ := h
  exact ⟨c, k, i, f, a, cell, h1, h2, h3, h4, by rw [hq a (Array.getElem?_eq_some_iff.mp h5).1 h10]; exact h5, h6, h7, h8, h9, h10⟩
theorem vx_L.narrow {C n d : String} {A B : Nat → Prop} {U : State} {H : Heap} (h : vx_L C n d A U H) (hAB : ∀ q, B q → A q) : vx_L C n d B U H := by
  obtain ⟨c, k, i, f, a, cell, h1, h2, h3, h4, h5, h6, h7, h8, h9, h10⟩ := h
  exact ⟨c, k, i, f, a, cell, h1, h2, h3, h4, h5, h6, h7, h8, h9, fun z => h10 (hAB _ z)⟩
theorem vx_L.word {C n d : String} {A : Nat → Prop} {s : State} {args : Array Value} (h : vx_L C n d A s s.heap) : (Cond.laysStatic C n d).before args s = true := by
  obtain ⟨c, k, i, f, a, cell, h1, h2, h3, h4, h5, h6, h7, h8, h9, -⟩ := h
  show (Cond.laysStatic C n d).holds args s none s [] = true
  exact Cond.laysStatic_of h1 h2 h3 h4 h5 h6 h7 h8 h9
/-- .. and what it holds: null or some reference -/
def vx_Zq (C n d : String) (A : Nat → Prop) (U : State) (H : Heap) : Prop := va_Zq C n d A U H ∧ vx_L C n d A U H
theorem vx_Zq.moved {C n d : String} {A : Nat → Prop} {u U : State} {H : Heap} (hvm : u.vm.Alike U.vm) (h : vx_Zq C n d A u H) : vx_Zq C n d A U H := ⟨va_Zq.moved hvm h.1, vx_L.moved hvm h.2⟩
theorem vx_Zq.kept {C n d : String} {A : Nat → Prop} {U : State} {H H1 : Heap} (h : vx_Zq C n d A U H) (hq : ∀ a : Nat, a < H.size → ¬ A a → H1[a]? = H[a]?) : vx_Zq C n d A U H1 := ⟨va_Zq.kept h.1 hq, vx_L.kept h.2 hq⟩
theorem vx_Zq.narrow {C n d : String} {A B : Nat → Prop} {U : State} {H : Heap} (h : vx_Zq C n d A U H) (hAB : ∀ q, B q → A q) : vx_Zq C n d B U H := ⟨va_Zq.narrow h.1 hAB, vx_L.narrow h.2 hAB⟩
theorem vx_Zqof {args : Array Value} {s : State} {C n d : String} {A : Nat → Prop} (hl : (Cond.laysStatic C n d).before args s = true) (hini : (Cond.initialized C).before args s = true) (h : (Cond.isRef (.static C n d)).before args s = true) (hA : ∀ a : Nat, a < s.heap.size → ¬ A a) : vx_Zq C n d A s s.heap := by
  refine ⟨va_Zqof hl hini h hA, ?_⟩
  obtain ⟨c, k, i, f, a, cell, h1, h2, h3, h4, h5, h6, h7, h8, h9⟩ := Cond.laysStatic_spec hl
  exact ⟨c, k, i, f, a, cell, h1, h2, h3, h4, h5, h6, h7, h8, h9, hA a (Array.getElem?_eq_some_iff.mp h5).1⟩
theorem vx_isRef {C n d : String} {v : Value} {A : Nat → Prop} {s : State} {args : Array Value} (h : va_Z C n d v A s s.heap) (hv : v.isRef = true) : (Cond.isRef (.static C n d)).before args s = true := by
  obtain ⟨cf, kf, fi, f, a, cell, h1, h2, h3, h4, h5, h6, h7, -⟩ := h
  have he : (Term.static C n d).eval args s none [] s = some v := by
    simp [Term.eval, State.fieldNamed?, h1, h2, h4, h5, h6, h7]
  simp only [Cond.before, Cond.holds, Cond.value, he]
  cases v <;> simp_all [Value.isRef]
theorem vx_isRefq {C n d : String} {A : Nat → Prop} {s : State} {args : Array Value} (h : va_Zq C n d A s s.heap) : (Cond.isRef (.static C n d)).before args s = true := by
  rcases h with h | ⟨t, h⟩
  · exact vx_isRef h rfl
  · exact vx_isRef h rfl
/-- the same frame, seen from here: as if the method were called anew in this heap -/
theorem vx_rebase {T : State} (X : Stand p l e R s m args below meth c T locs cells slots) {R' : Room} (hf : R'.frames ≤ R.frames) (hl : R'.locals ≤ R.locals) (hc : cells + R'.cells ≤ R.cells) (hs : slots + R'.slots ≤ R.slots) :
    Stand p l e R' ((T.setVm s.vm).setFrames (.invoking m args :: below)) m args below meth c T [] 0 0 := by
  have htop : (T.setVm s.vm).topJava?.isSome := X.here.top
  have hF : ((T.setVm s.vm).setFrames (.invoking m args :: below)).frames = .invoking m args :: below := State.frames_setFrames _ (State.cur_lt_of_top htop)
  obtain ⟨g₀, hg0⟩ := Option.isSome_iff_exists.mp htop
  obtain ⟨r, hr⟩ := State.topJava?_eq_some.mp hg0
  have hl9 : e.platform.stackLimits (T.setVm s.vm).me = e.platform.stackLimits s.me := X.limits
  have hb9 : (T.setVm s.vm).me.stackBytes = s.me.stackBytes := X.bytes
  refine ⟨X.admits, X.cas, X.clock, hF, ?_, X.hears, X.method, X.code, X.here, X.tail, X.warmed, ?_, ?_, ?_⟩
  · have h := X.room
    have hU : ((T.setVm s.vm).setFrames (.invoking m args :: below)).localsInUse = s.localsInUse := by
      rw [State.localsInUse_invoking hF (meth := meth) (c := c) X.method X.code, State.localsInUse_invoking X.frames X.method X.code]
    simp only [State.hasRoom, Bool.and_eq_true, decide_eq_true_eq] at h ⊢
    obtain ⟨⟨⟨⟨h1, h2, h3, h4, h5, h6⟩, h7⟩, h8⟩, h9⟩ := h
    rw [X.frames, List.length_cons] at h2 h3
    have q1 := X.heapSize
    have q2 := X.used
    simp only [hF, hU, List.length_cons, State.stackLimits_setFrames, State.stackBytes_setFrames, hl9, hb9]
    refine ⟨⟨⟨⟨by omega, by omega, by omega, by omega, by omega, h6⟩, ?_⟩, ?_⟩, X.book⟩
    · show T.heap.size + R'.cells ≤ e.platform.maxCells
      omega
    · show T.slotsUsed + R'.slots ≤ e.platform.maxSlots
      omega
  · rw [State.stackLimits_setFrames]; rfl
  · rw [State.stackBytes_setFrames]; rfl
  · refine ⟨?_, Nat.le_refl _, Nat.le_refl _, ?_, ?_, fun a c9 h9 => ⟨c9, h9, rfl, rfl, fun _ _ => rfl⟩⟩
    · obtain ⟨t, ht, -⟩ := State.frames_cons hr
      show T.setVm s.vm = { ((T.setVm s.vm).setFrames (.invoking m args :: below)).setFrames (T.setVm s.vm).frames with heap := T.heap, slotsUsed := T.slotsUsed }
      rw [State.setFrames_setFrames, State.setFrames_self ht]
      rfl
    · show T.slotsUsed = T.slotsUsed + ((T.heap.toList.drop T.heap.size).map (·.slots.size)).sum
      rw [List.drop_eq_nil_of_le (Nat.le_of_eq Array.length_toList)]
      rfl
    · show ((T.heap.toList.drop T.heap.size).map (·.slots.size)).sum ≤ 0
      rw [List.drop_eq_nil_of_le (Nat.le_of_eq Array.length_toList)]
      exact Nat.le_refl _
/-- 'throw new E()': new; dup; invokespecial; athrow -/
theorem vx_throw0 {cc : ByteArray} {pc : Nat} (hexec : p.tables.exec = Jvm.exec) (hb : c.code = cc) (hl : l.stackTraces = false) {own cls : String} {names : List String} {ik ic mc ms : Nat} {A : Nat → Prop}
    (hown : s.vm.findClass own = some m.cls) (hcls : Bundle.fit cls = true) (hnames : ∀ n ∈ names, Bundle.fit n = true)
    (hk : (Cond.classLink own ik cls).before args s = true) (hini : (Cond.initialized cls).before args s = true) (hat : ∀ w ∈ vx_at0 own ic cls names, w.before args s = true)
    (hgood : ∀ w ∈ Cond.classLink own ik cls :: Cond.initialized cls :: vx_at0 own ic cls names, vx_ot w = true)
    (hU : vx_Zq Bundle.tN "UNASSIGNED_STACK" Bundle.steD A s s.heap) (hN : vx_Zq Bundle.tN "SUPPRESSED_SENTINEL" Bundle.listD A s s.heap) (hS : va_S A s.heap H locs) (hsize : ls.size = c.maxLocals)
    (d0 : decode cc pc = .ok (.new ik, 3)) (d3 : decode cc (pc + 3) = .ok (.dup, 1)) (d4 : decode cc (pc + 4) = .ok (.invokespecial ic, 3)) (d7 : decode cc (pc + 7) = .ok (.athrow, 1))
    (hout : ∀ x ∈ c.exceptionTable.toList, covers x (pc + 7) = false)
    (hRframes : names.length + 3 < R.frames) (hRlocals : (rest.map fun v => v.category).sum + (13 * (names.length + 1) + 42) ≤ R.locals) (hRcells : cells + 1 ≤ R.cells) (hRslots : slots + 6 ≤ R.slots) (hlocks : meth.locks = false)
    (hx : ∀ t : State, s.vm.Alike t.vm → H.size ≤ t.heap.size → (∀ q : Nat, q < H.size → t.heap[q]? = H[q]?) → XC cls s t)
    (hf : ∀ z ∈ locs, free z.base) (hc : cells + 1 ≤ mc) (hs : slots + 6 ≤ ms) :
    W p l e R s m args below meth c H locs cells slots (vx_MQ below Qc XC args s mc ms free) (F0 m pc ls rest) := by
  intro T hT X
  have htr : e.platform.stackTraces = false := (show e.platform.stackTraces = l.stackTraces by rw [X.admits.platform]).trans hl
  have Y := vx_rebase X (R' := { frames := R.frames, locals := R.locals, cells := 1, slots := 6 }) (Nat.le_refl _) (Nat.le_refl _) hRcells hRslots
  obtain ⟨s', hA⟩ : ∃ z, z = (T.setVm s.vm).setFrames (.invoking m args :: below) := ⟨_, rfl⟩
  rw [← hA] at Y
  have hvm : s'.vm = s.vm := by rw [hA]; rfl
  have hhp : s'.heap = H := by rw [hA]; exact hT
  have hW0 : s.WarmedH s'.vm := by rw [hvm]; exact State.WarmedH.refl s
  have hat' : ∀ w ∈ vx_at0 own ic cls names, w.before args s' = true := fun w hw => vx_ot_at hW0 hvm.symm (hgood w (List.mem_cons_of_mem _ (List.mem_cons_of_mem _ hw))) (hat w hw)
  have hk' : (Cond.classLink own ik cls).before args s' = true := vx_ot_at hW0 hvm.symm (hgood _ List.mem_cons_self) hk
  have hini' : (Cond.initialized cls).before args s' = true := vx_ot_at hW0 hvm.symm (hgood _ (List.mem_cons_of_mem _ List.mem_cons_self)) hini
  have hU' : vx_Zq Bundle.tN "UNASSIGNED_STACK" Bundle.steD A s' s'.heap := by rw [hhp]; exact vx_Zq.moved hW0.alike (hU.kept hS.2.1)
  have hN' : vx_Zq Bundle.tN "SUPPRESSED_SENTINEL" Bundle.listD A s' s'.heap := by rw [hhp]; exact vx_Zq.moved hW0.alike (hN.kept hS.2.1)
  have h : ∀ w ∈ Bundle.ownAtoms0 own ic cls names, w.before args s' = true := vx_own hat' (vx_isRefq hU'.1) (vx_isRefq hN'.1) hU'.2.word hN'.2.word
  have hown' : s'.vm.findClass own = some m.cls := by rw [hvm]; exact hown
  have hins : (Cond.instantiable cls 6).before args s' = true := h _ (by simp [Bundle.ownAtoms0])
  obtain ⟨vm₁, cX, kX, hfX, hkX, -, -, X₁, st1⟩ := Y.newCold hexec (own := own) (C := cls) (index := ik) (n := 6) hown' hk' hins hini'
    (g := F0 m pc ls rest) rfl (by rw [hb]; exact d0) (Nat.le_refl _) (Nat.le_refl _)
  generalize hT1 : (T.setVm vm₁).pushCell { cls := cX, slots := kX.instanceTypes.map defaultValue, vm := .none } = T1 at X₁ st1
  have hcat : (Value.ref T.heap.size).category = 1 := rfl
  have hcellA : T1.heap[T.heap.size]? = some (freshCell cX kX) := by rw [← hT1]; exact State.heap_pushCell_size _ _
  have d3' : decode c.code (pc + 3) = .ok (.dup, 1) := by rw [hb]; exact d3
  obtain ⟨U, hsteps, hrun, hend, hW, hsame, ce, hce, hO⟩ := X₁.ctorThrow0 hexec htr (own := own) (cls := cls) (names := names) (ic := ic) hown' hcls hnames h (fun x hx => nomatch hx) hfX hkX hcellA (by rw [hhp, hT]; exact Nat.le_refl _)
    (g := { method := m, pc := pc + 4, locals := ls, stack := .ref T.heap.size :: .ref T.heap.size :: rest, locked := none }) rfl hsize rfl rfl (rest := rest) rfl
    (by rw [hb]; exact d4) (by rw [hb]; exact d7) hout hRframes (by simp only [List.map_cons, List.sum_cons, hcat]; omega) hlocks
  obtain ⟨f1, f2⟩ := vx_frame hsame
  rw [hhp] at f1 f2
  have hWs : s.WarmedH U.vm := State.WarmedH.trans hW0 hW
  have hcl : s.vm.findClass cls = some ce.cls := by
    have h9 := hO.cls
    rw [hvm] at h9
    exact h9
  have hall : s.sameButNew ({ U with vm := s.vm } : State) locs mc ms := by
    subst hA
    obtain ⟨e1, e2⟩ := hsame
    rw [State.setFrames_setFrames] at e1
    have h2 : (T.setVm s.vm).sameButNew ({ U with vm := s.vm } : State) [] (0 + 1) (0 + 6) := ⟨e1, e2⟩
    have h3 := X.same.trans h2
    rw [List.append_nil] at h3
    exact h3.mono hc hs
  refine ⟨U, ?_, .threw T.heap.size, hrun, hend, Or.inr ⟨T.heap.size, rfl, cls, ce, locs, hx U hWs.alike f1 (fun q hq => f2 q hq (fun z hz => nomatch hz)), hce, hO.vm, hcl, hWs, hall, hf⟩⟩
  refine st1 _ ?_
  show Steps p.tables e below (T1.setTop { method := m, pc := pc + 3, locals := ls, stack := .ref T.heap.size :: rest, locked := none }) _
  jvm_step X₁.here [X₁.here.top, hexec, d3', Value.category]
  exact hsteps
/-- 'throw new E("text")': new; dup; ldc; invokespecial; athrow -/
theorem vx_throwS {cc : ByteArray} {pc : Nat} (hexec : p.tables.exec = Jvm.exec) (hb : c.code = cc) (hl : l.stackTraces = false) {own cls text : String} {names : List String} {ik is ic mc ms sa : Nat} {A : Nat → Prop}
    (hown : s.vm.findClass own = some m.cls) (hcls : Bundle.fit cls = true) (hnames : ∀ n ∈ names, Bundle.fit n = true)
    (hk : (Cond.classLink own ik cls).before args s = true) (hini : (Cond.initialized cls).before args s = true) (hstr : vk_R own is text sa s) (hat : ∀ w ∈ vx_atS own ic cls names, w.before args s = true)
    (hgood : ∀ w ∈ Cond.classLink own ik cls :: Cond.initialized cls :: vx_atS own ic cls names, vx_ot w = true)
    (hU : vx_Zq Bundle.tN "UNASSIGNED_STACK" Bundle.steD A s s.heap) (hN : vx_Zq Bundle.tN "SUPPRESSED_SENTINEL" Bundle.listD A s s.heap) (hS : va_S A s.heap H locs) (hsize : ls.size = c.maxLocals)
    (d0 : decode cc pc = .ok (.new ik, 3)) (d3 : decode cc (pc + 3) = .ok (.dup, 1)) (d4 : decode cc (pc + 4) = .ok (.ldc is, 2)) (d6 : decode cc (pc + 6) = .ok (.invokespecial ic, 3)) (d9 : decode cc (pc + 9) = .ok (.athrow, 1))
    (hout : ∀ x ∈ c.exceptionTable.toList, covers x (pc + 9) = false)
    (hRframes : names.length + 3 < R.frames) (hRlocals : (rest.map fun v => v.category).sum + (13 * (names.length + 1) + 43) ≤ R.locals) (hRcells : cells + 1 ≤ R.cells) (hRslots : slots + 6 ≤ R.slots) (hlocks : meth.locks = false)
    (hx : ∀ t : State, s.vm.Alike t.vm → H.size ≤ t.heap.size → (∀ q : Nat, q < H.size → t.heap[q]? = H[q]?) → XC cls s t)
    (hf : ∀ z ∈ locs, free z.base) (hc : cells + 1 ≤ mc) (hs : slots + 6 ≤ ms) :
    W p l e R s m args below meth c H locs cells slots (vx_MQ below Qc XC args s mc ms free) (F0 m pc ls rest) := by
  intro T hT X
  have htr : e.platform.stackTraces = false := (show e.platform.stackTraces = l.stackTraces by rw [X.admits.platform]).trans hl
  have Y := vx_rebase X (R' := { frames := R.frames, locals := R.locals, cells := 1, slots := 6 }) (Nat.le_refl _) (Nat.le_refl _) hRcells hRslots
  obtain ⟨s', hA⟩ : ∃ z, z = (T.setVm s.vm).setFrames (.invoking m args :: below) := ⟨_, rfl⟩
  rw [← hA] at Y
  have hvm : s'.vm = s.vm := by rw [hA]; rfl
  have hhp : s'.heap = H := by rw [hA]; exact hT
  have hW0 : s.WarmedH s'.vm := by rw [hvm]; exact State.WarmedH.refl s
  have hat' : ∀ w ∈ vx_atS own ic cls names, w.before args s' = true := fun w hw => vx_ot_at hW0 hvm.symm (hgood w (List.mem_cons_of_mem _ (List.mem_cons_of_mem _ hw))) (hat w hw)
  have hk' : (Cond.classLink own ik cls).before args s' = true := vx_ot_at hW0 hvm.symm (hgood _ List.mem_cons_self) hk
  have hini' : (Cond.initialized cls).before args s' = true := vx_ot_at hW0 hvm.symm (hgood _ (List.mem_cons_of_mem _ List.mem_cons_self)) hini
  have hU' : vx_Zq Bundle.tN "UNASSIGNED_STACK" Bundle.steD A s' s'.heap := by rw [hhp]; exact vx_Zq.moved hW0.alike (hU.kept hS.2.1)
  have hN' : vx_Zq Bundle.tN "SUPPRESSED_SENTINEL" Bundle.listD A s' s'.heap := by rw [hhp]; exact vx_Zq.moved hW0.alike (hN.kept hS.2.1)
  have h : ∀ w ∈ Bundle.ownAtoms own ic cls names, w.before args s' = true := vx_own hat' (vx_isRefq hU'.1) (vx_isRefq hN'.1) hU'.2.word hN'.2.word
  have hown' : s'.vm.findClass own = some m.cls := by rw [hvm]; exact hown
  have hins : (Cond.instantiable cls 6).before args s' = true := h _ (by simp [Bundle.ownAtoms])
  obtain ⟨vm₁, cX, kX, hfX, hkX, -, -, X₁, st1⟩ := Y.newCold hexec (own := own) (C := cls) (index := ik) (n := 6) hown' hk' hins hini'
    (g := F0 m pc ls rest) rfl (by rw [hb]; exact d0) (Nat.le_refl _) (Nat.le_refl _)
  generalize hT1 : (T.setVm vm₁).pushCell { cls := cX, slots := kX.instanceTypes.map defaultValue, vm := .none } = T1 at X₁ st1
  have hcat : (Value.ref T.heap.size).category = 1 := rfl
  have hcellA : T1.heap[T.heap.size]? = some (freshCell cX kX) := by rw [← hT1]; exact State.heap_pushCell_size _ _
  have d3' : decode c.code (pc + 3) = .ok (.dup, 1) := by rw [hb]; exact d3
  have d4' : decode c.code (pc + 4) = .ok (.ldc is, 2) := by rw [hb]; exact d4
  have hstr' : vk_R own is text sa s' := vk_R.warm hW0 hstr
  obtain ⟨U, hsteps, hrun, hend, hW, hsame, ce, hce, hO⟩ := X₁.ctorThrowS hexec htr (own := own) (cls := cls) (names := names) (ic := ic) hown' hcls hnames h (fun x hx => nomatch hx) hfX hkX hcellA (by rw [hhp, hT]; exact Nat.le_refl _) (msg := .ref sa) rfl
    (g := { method := m, pc := pc + 6, locals := ls, stack := .ref sa :: .ref T.heap.size :: .ref T.heap.size :: rest, locked := none }) rfl hsize rfl rfl (rest := rest) rfl
    (by rw [hb]; exact d6) (by rw [hb]; exact d9) hout hRframes (by simp only [List.map_cons, List.sum_cons, hcat]; omega) hlocks
  obtain ⟨f1, f2⟩ := vx_frame hsame
  rw [hhp] at f1 f2
  have hWs : s.WarmedH U.vm := State.WarmedH.trans hW0 hW
  have hcl : s.vm.findClass cls = some ce.cls := by
    have h9 := hO.cls
    rw [hvm] at h9
    exact h9
  have hall : s.sameButNew ({ U with vm := s.vm } : State) locs mc ms := by
    subst hA
    obtain ⟨e1, e2⟩ := hsame
    rw [State.setFrames_setFrames] at e1
    have h2 : (T.setVm s.vm).sameButNew ({ U with vm := s.vm } : State) [] (0 + 1) (0 + 6) := ⟨e1, e2⟩
    have h3 := X.same.trans h2
    rw [List.append_nil] at h3
    exact h3.mono hc hs
  refine ⟨U, ?_, .threw T.heap.size, hrun, hend, Or.inr ⟨T.heap.size, rfl, cls, ce, locs, hx U hWs.alike f1 (fun q hq => f2 q hq (fun z hz => nomatch hz)), hce, hO.vm, hcl, hWs, hall, hf⟩⟩
  refine st1 _ ?_
  show Steps p.tables e below (T1.setTop { method := m, pc := pc + 3, locals := ls, stack := .ref T.heap.size :: rest, locked := none }) _
  jvm_step X₁.here [X₁.here.top, hexec, d3', Value.category]
  exact X₁.ldcString hexec (own := own) (text := text) (index := is) (a := sa) hown' hstr'.1 hstr'.2
    (g := { method := m, pc := pc + 4, locals := ls, stack := .ref T.heap.size :: .ref T.heap.size :: rest, locked := none }) rfl d4' _ hsteps
/-- 'throw new E("text")', the text by a wide index -/
theorem vx_throwSW {cc : ByteArray} {pc : Nat} (hexec : p.tables.exec = Jvm.exec) (hb : c.code = cc) (hl : l.stackTraces = false) {own cls text : String} {names : List String} {ik is ic mc ms sa : Nat} {A : Nat → Prop}
    (hown : s.vm.findClass own = some m.cls) (hcls : Bundle.fit cls = true) (hnames : ∀ n ∈ names, Bundle.fit n = true)
    (hk : (Cond.classLink own ik cls).before args s = true) (hini : (Cond.initialized cls).before args s = true) (hstr : vk_R own is text sa s) (hat : ∀ w ∈ vx_atS own ic cls names, w.before args s = true)
    (hgood : ∀ w ∈ Cond.classLink own ik cls :: Cond.initialized cls :: vx_atS own ic cls names, vx_ot w = true)
    (hU : vx_Zq Bundle.tN "UNASSIGNED_STACK" Bundle.steD A s s.heap) (hN : vx_Zq Bundle.tN "SUPPRESSED_SENTINEL" Bundle.listD A s s.heap) (hS : va_S A s.heap H locs) (hsize : ls.size = c.maxLocals)
    (d0 : decode cc pc = .ok (.new ik, 3)) (d3 : decode cc (pc + 3) = .ok (.dup, 1)) (d4 : decode cc (pc + 4) = .ok (.ldc_w is, 3)) (d7 : decode cc (pc + 7) = .ok (.invokespecial ic, 3)) (d10 : decode cc (pc + 10) = .ok (.athrow, 1))
    (hout : ∀ x ∈ c.exceptionTable.toList, covers x (pc + 10) = false)
    (hRframes : names.length + 3 < R.frames) (hRlocals : (rest.map fun v => v.category).sum + (13 * (names.length + 1) + 43) ≤ R.locals) (hRcells : cells + 1 ≤ R.cells) (hRslots : slots + 6 ≤ R.slots) (hlocks : meth.locks = false)
    (hx : ∀ t : State, s.vm.Alike t.vm → H.size ≤ t.heap.size → (∀ q : Nat, q < H.size → t.heap[q]? = H[q]?) → XC cls s t)
    (hf : ∀ z ∈ locs, free z.base) (hc : cells + 1 ≤ mc) (hs : slots + 6 ≤ ms) :
    W p l e R s m args below meth c H locs cells slots (vx_MQ below Qc XC args s mc ms free) (F0 m pc ls rest) := by
  intro T hT X
  have htr : e.platform.stackTraces = false := (show e.platform.stackTraces = l.stackTraces by rw [X.admits.platform]).trans hl
  have Y := vx_rebase X (R' := { frames := R.frames, locals := R.locals, cells := 1, slots := 6 }) (Nat.le_refl _) (Nat.le_refl _) hRcells hRslots
  obtain ⟨s', hA⟩ : ∃ z, z = (T.setVm s.vm).setFrames (.invoking m args :: below) := ⟨_, rfl⟩
  rw [← hA] at Y
  have hvm : s'.vm = s.vm := by rw [hA]; rfl
  have hhp : s'.heap = H := by rw [hA]; exact hT
  have hW0 : s.WarmedH s'.vm := by rw [hvm]; exact State.WarmedH.refl s
  have hat' : ∀ w ∈ vx_atS own ic cls names, w.before args s' = true := fun w hw => vx_ot_at hW0 hvm.symm (hgood w (List.mem_cons_of_mem _ (List.mem_cons_of_mem _ hw))) (hat w hw)
  have hk' : (Cond.classLink own ik cls).before args s' = true := vx_ot_at hW0 hvm.symm (hgood _ List.mem_cons_self) hk
  have hini' : (Cond.initialized cls).before args s' = true := vx_ot_at hW0 hvm.symm (hgood _ (List.mem_cons_of_mem _ List.mem_cons_self)) hini
  have hU' : vx_Zq Bundle.tN "UNASSIGNED_STACK" Bundle.steD A s' s'.heap := by rw [hhp]; exact vx_Zq.moved hW0.alike (hU.kept hS.2.1)
  have hN' : vx_Zq Bundle.tN "SUPPRESSED_SENTINEL" Bundle.listD A s' s'.heap := by rw [hhp]; exact vx_Zq.moved hW0.alike (hN.kept hS.2.1)
  have h : ∀ w ∈ Bundle.ownAtoms own ic cls names, w.before args s' = true := vx_own hat' (vx_isRefq hU'.1) (vx_isRefq hN'.1) hU'.2.word hN'.2.word
  have hown' : s'.vm.findClass own = some m.cls := by rw [hvm]; exact hown
  have hins : (Cond.instantiable cls 6).before args s' = true := h _ (by simp [Bundle.ownAtoms])
  obtain ⟨vm₁, cX, kX, hfX, hkX, -, -, X₁, st1⟩ := Y.newCold hexec (own := own) (C := cls) (index := ik) (n := 6) hown' hk' hins hini'
    (g := F0 m pc ls rest) rfl (by rw [hb]; exact d0) (Nat.le_refl _) (Nat.le_refl _)
  generalize hT1 : (T.setVm vm₁).pushCell { cls := cX, slots := kX.instanceTypes.map defaultValue, vm := .none } = T1 at X₁ st1
  have hcat : (Value.ref T.heap.size).category = 1 := rfl
  have hcellA : T1.heap[T.heap.size]? = some (freshCell cX kX) := by rw [← hT1]; exact State.heap_pushCell_size _ _
  have d3' : decode c.code (pc + 3) = .ok (.dup, 1) := by rw [hb]; exact d3
  have d4' : decode c.code (pc + 4) = .ok (.ldc_w is, 3) := by rw [hb]; exact d4
  have hstr' : vk_R own is text sa s' := vk_R.warm hW0 hstr
  obtain ⟨U, hsteps, hrun, hend, hW, hsame, ce, hce, hO⟩ := X₁.ctorThrowS hexec htr (own := own) (cls := cls) (names := names) (ic := ic) hown' hcls hnames h (fun x hx => nomatch hx) hfX hkX hcellA (by rw [hhp, hT]; exact Nat.le_refl _) (msg := .ref sa) rfl
    (g := { method := m, pc := pc + 7, locals := ls, stack := .ref sa :: .ref T.heap.size :: .ref T.heap.size :: rest, locked := none }) rfl hsize rfl rfl (rest := rest) rfl
    (by rw [hb]; exact d7) (by rw [hb]; exact d10) hout hRframes (by simp only [List.map_cons, List.sum_cons, hcat]; omega) hlocks
  obtain ⟨f1, f2⟩ := vx_frame hsame
  rw [hhp] at f1 f2
  have hWs : s.WarmedH U.vm := State.WarmedH.trans hW0 hW
  have hcl : s.vm.findClass cls = some ce.cls := by
    have h9 := hO.cls
    rw [hvm] at h9
    exact h9
  have hall : s.sameButNew ({ U with vm := s.vm } : State) locs mc ms := by
    subst hA
    obtain ⟨e1, e2⟩ := hsame
    rw [State.setFrames_setFrames] at e1
    have h2 : (T.setVm s.vm).sameButNew ({ U with vm := s.vm } : State) [] (0 + 1) (0 + 6) := ⟨e1, e2⟩
    have h3 := X.same.trans h2
    rw [List.append_nil] at h3
    exact h3.mono hc hs
  refine ⟨U, ?_, .threw T.heap.size, hrun, hend, Or.inr ⟨T.heap.size, rfl, cls, ce, locs, hx U hWs.alike f1 (fun q hq => f2 q hq (fun z hz => nomatch hz)), hce, hO.vm, hcl, hWs, hall, hf⟩⟩
  refine st1 _ ?_
  show Steps p.tables e below (T1.setTop { method := m, pc := pc + 3, locals := ls, stack := .ref T.heap.size :: rest, locked := none }) _
  jvm_step X₁.here [X₁.here.top, hexec, d3', Value.category]
  exact X₁.ldcStringW hexec (own := own) (text := text) (index := is) (a := sa) hown' hstr'.1 hstr'.2
    (g := { method := m, pc := pc + 4, locals := ls, stack := .ref T.heap.size :: .ref T.heap.size :: rest, locked := none }) rfl d4' _ hsteps
end Ends
section Bodies
variable {l : Launch}
theorem vx_ofW {y : MethodName} {ws ws' : List Cond} {rm : Room} {Pc : Array Value → State → Prop} {Qc : Array Value → State → Outcome → State → Prop} {XC : String → State → State → Prop} {mc ms : Nat} {free : Addr → Prop} {cc : ByteArray} {maxL : Nat} {ret : Option FieldType}
    (hy : plainName y.cls = true) (hw : ws = Cond.code y cc maxL ret :: ws')
    (body : ∀ p e s m args below meth c s₁, BodyLoose p l y (headSpec ws rm) cc maxL ret e s m args below meth c s₁ → c.maxLocals = maxL → (∀ x ∈ c.exceptionTable.toList, False) → Pc args s →
      W p l e (headSpec ws rm).room s m args below meth c s.heap [] 0 0 (vx_MQ below Qc XC args s mc ms free) (entryFrame m args maxL)) : vx_Met l y ws rm Pc Qc XC mc ms free := by
  refine MetFree.of_bodyS (code := cc) (maxLocals := maxL) (ret := ret) hy ?_ ?_
  · intro args s m h hn
    obtain ⟨meth, c, h1, h2, h3, h4, h5, h6, -, -⟩ := Cond.code_spec hn (atoms_spec (ws := ws) h _ (by rw [hw]; exact List.mem_cons_self))
    exact ⟨meth, c, h1, h2, h3, h4, h5, h6⟩
  · intro p e s m args below meth c s₁ B hml hP _
    have hh0 : s₁.heap = s.heap := by rw [B.state]; rfl
    have ht : ∀ x ∈ c.exceptionTable.toList, False := by
      obtain ⟨meth9, c9, h1, h2, -, -, -, -, h7, -⟩ := Cond.code_spec B.named (atoms_spec (ws := ws) B.pre _ (by rw [hw]; exact List.mem_cons_self))
      cases Option.some.inj (h1.symm.trans B.method)
      cases Option.some.inj (h2.symm.trans (Stand.of_body B).code)
      intro x hx
      rw [Array.isEmpty_iff.mp h7] at hx
      cases hx
    obtain ⟨t, a1, o, b1, b2, b3⟩ := body p e s m args below meth c s₁ B hml ht hP s₁ hh0 (Stand.of_body B)
    exact ⟨t, o, a1, b1, b2, b3⟩
/-- the table of a body with handlers -/
theorem vx_table {p : Program} {x y : MethodName} {S : Spec} {cc bytes : ByteArray} {maxL maxL' : Nat} {ret ret' : Option FieldType} {e : Env} {s s₁ : State} {m : MethodId} {args : Array Value} {below : List Frame} {meth : Method} {c : Code} {hh : List (Nat × Nat × Nat × Nat)}
    (B : BodyLoose p l y S cc maxL ret e s m args below meth c s₁) (h : (Cond.codeWith y bytes maxL' ret' hh).before args s = true) : c.exceptionTable.toList = tableOf hh := by
  obtain ⟨m9, meth9, c9, hn9, h1, h2, -, -, h6, -⟩ := Cond.codeWith_spec h
  cases Option.some.inj (hn9.symm.trans B.named)
  cases Option.some.inj (h1.symm.trans B.method)
  cases Option.some.inj (h2.symm.trans (Stand.of_body B).code)
  rw [← h6, table_eq]
end Bodies
end VXA
/-! ===== END ===== -/
/-! ===== BEGIN a static call of a method with an exception table ===== -/
section VXS
variable {p : Program} {l : Launch} {e : Env} {R : Room} {s : State} {m : MethodId} {args : Array Value} {below : List Frame} {meth : Method} {c : Code} {T : State} {H : Heap} {locs : List Loc} {cells slots : Nat}
abbrev vx_CSW (R : Room) (s : State) (args : Array Value) (own : String) (index : Nat) (y : MethodName) (bytes : ByteArray) (maxL : Nat) (ret : Option FieldType) (hh : List (Nat × Nat × Nat × Nat)) (ws : List Cond) (rm : Room) (mc ms n : Nat) : Prop :=
  (rm.cells = mc ∧ rm.slots = ms ∧ rm.frames + 1 ≤ R.frames ∧ 8 + (maxL + 11) + rm.locals ≤ R.locals ∧ (∀ w ∈ ws, ∀ (a' : Array Value) (U : State), s.WarmedH U.vm → w.before a' U = true) ∧ Cond.codeWith y bytes maxL ret hh ∈ ws) ∧
  (Cond.codeWith y bytes maxL ret hh).before args s = true ∧ (Cond.initialized y.cls).before args s = true ∧ (y.cls ≠ "java/lang/invoke/MethodHandle" ∧ y.cls ≠ "java/lang/invoke/VarHandle") ∧
  (∀ sig, parseMethodDescriptor y.desc = some sig → n = sig.parameters.length) ∧ (Cond.methodLink own index y).before args s = true ∧ (Cond.static y).before args s = true
theorem vx_cwSW {own : String} {index maxL mc ms : Nat} {y : MethodName} {bytes : ByteArray} {ret : Option FieldType} {hh : List (Nat × Nat × Nat × Nat)} {Ts ws ws' : List Cond} {rm : Room} (n : Nat) (ht : ∀ w ∈ Ts, w.before args s = true) (hT : GoodIn Ts (va_wsS own index y ws)) (hw : ws = Cond.codeWith y bytes maxL ret hh :: ws') (hrc : rm.cells = mc) (hrs : rm.slots = ms)
    (hd : y.cls ≠ "java/lang/invoke/MethodHandle" ∧ y.cls ≠ "java/lang/invoke/VarHandle" ∧ (parseMethodDescriptor y.desc).map (fun d => d.parameters.length) = some n) (hR : rm.frames + 1 ≤ R.frames ∧ 8 + (maxL + 11) + rm.locals ≤ R.locals) :
    vx_CSW R s args own index y bytes maxL ret hh ws rm mc ms n := by
  have ok : ∀ w ∈ va_wsS own index y ws, w.before args s = true := fun w h => ht w (hT w h).1
  have hG : GoodIn Ts ws := fun w h => hT w (by unfold va_wsS; exact List.mem_append_right _ h)
  have hc : Cond.codeWith y bytes maxL ret hh ∈ ws := by rw [hw]; exact List.mem_cons_self
  refine ⟨⟨hrc, hrs, hR.1, hR.2, pay_in ht hG, hc⟩, ht _ (hG _ hc).1, ok _ (by simp [va_wsS]), ⟨hd.1, hd.2.1⟩, fun sig h => ?_, ok _ (by simp [va_wsS]), ok _ (by simp [va_wsS])⟩
  have h2 := hd.2.2
  rw [h] at h2
  exact (Option.some.inj h2).symm
theorem vx_callSW (X : Stand p l e R s m args below meth c T locs cells slots) (hexec : p.tables.exec = Jvm.exec) {own : String} {index : Nat} {y : MethodName} {bytes : ByteArray} {maxL : Nat} {ret : Option FieldType} {hh : List (Nat × Nat × Nat × Nat)}
    (hown : s.vm.findClass own = some m.cls) (hlink : (Cond.methodLink own index y).before args s = true) (hstat : (Cond.static y).before args s = true) (hinit : (Cond.initialized y.cls).before args s = true)
    (hcode : (Cond.codeWith y bytes maxL ret hh).before args s = true) (hy : y.cls ≠ "java/lang/invoke/MethodHandle" ∧ y.cls ≠ "java/lang/invoke/VarHandle")
    {W9 : Nat} {Pre : Pt → Array Value → Prop} {Post : Pt → Array Value → Option Value → Pt → Prop} (hK : Back l R p e below s args y 3 W9 Pre Post)
    {g : JFrame} (hg : g.method = m) (hsize : g.locals.size = c.maxLocals) {argsL rest : List Value} (hlen : ∀ sig, parseMethodDescriptor y.desc = some sig → argsL.length = sig.parameters.length)
    (hstack : g.stack = argsL.reverse ++ rest) (hW : 2 * g.monitorRoom + (rest.map fun v => v.category).sum ≤ W9) (hdg : decode c.code g.pc = .ok (.invokestatic index, 3))
    (hpre : ∀ vm₁, s.WarmedH vm₁ → Pre ⟨T.setVm vm₁, locs, cells, slots⟩ argsL.toArray) :
    ∃ (v : Option Value) (vm₁ : Vm) (B : Pt), s.WarmedH vm₁ ∧ Stand p l e R s m args below meth c B.U B.locs B.cells B.slots ∧ Post ⟨T.setVm vm₁, locs, cells, slots⟩ argsL.toArray v B ∧
      ∀ target, Steps p.tables e below (B.U.setTop { g with pc := g.pc + 3, stack := v.toList ++ rest }) target → Steps p.tables e below (T.setTop g) target := by
  obtain ⟨mk, methM, cM, hnamed, hmethM, -, -, -, -, -, -, hsigM⟩ := Cond.codeWith_spec hcode
  have hstatic : methM.isStatic = true := Cond.static_spec hnamed hmethM hstat
  obtain ⟨kP, hkP, -⟩ := className_of_methodNamed hnamed
  have hinitP : kP.init = .initialized := Cond.initialized_spec (findClass_of_methodNamed hnamed) hkP hinit
  obtain ⟨vm₁, X₁, hstep₁⟩ := X.invokestatic hexec hown hlink hnamed hmethM hstatic hkP hinitP hy (g := g) hg (argsL := argsL) (rest := rest) (hlen _ hsigM) hstack hdg
  obtain ⟨v, B, X', hpost, hsteps⟩ := hK m meth c ⟨T.setVm vm₁, locs, cells, slots⟩ { g with stack := rest } (.invokestatic index) mk argsL.toArray X₁ hg hsize hdg hW (X₁.named hnamed) (hpre vm₁ X₁.warmed)
  exact ⟨v, vm₁, B, X₁.warmed, X', hpost, fun target h => hstep₁ _ fun acts => by rw [doInvoke_state]; exact hsteps.trans h⟩
theorem vx_runSW {y : MethodName} {bytes cc : ByteArray} {maxL nL mc ms n index : Nat} {ret : Option FieldType} {hh : List (Nat × Nat × Nat × Nat)} {ws : List Cond} {rm : Room} {Pc : Array Value → State → Prop} {Qc : Array Value → State → Outcome → State → Prop} {free : Addr → Prop} {Ts : List Cond} {own : String} {As rest : List Value} {g : JFrame}
    (S : CallFix p m c cc nL s args Ts own) (hM : Met l y ws rm Pc Qc mc ms free) (cw : vx_CSW R s args own index y bytes maxL ret hh ws rm mc ms n) (hp : PreS s H Pc As)
    (hg : g.method = m) (hn : As.length = n) (hsize : g.locals.size = nL) (hstack : g.stack = As.reverse ++ rest) (hW : 2 * g.monitorRoom + (rest.map fun v => v.category).sum ≤ 8) (hdg : decode cc g.pc = .ok (.invokestatic index, 3)) (hf : cells + mc ≤ R.cells ∧ slots + ms ≤ R.slots) :
    va_Run p l e R s m args below meth c H locs cells slots mc ms g rest (Qc As.toArray) (free) := by
  obtain ⟨⟨hrc, hrs, hfr, hlo, hws, hcw⟩, hcode, hini, hy, hlen, hl, hstt⟩ := cw
  have hK : Back l R p e below s args y 3 8 (PreOf R mc ms Pc) (PostOf Qc mc ms free) := va_backW (hh := hh) (bytes := bytes) (maxL := maxL) (ret := ret) hM hp.1 hrc hrs hfr hlo hws hcw (fun a' U hW => word_at hW (Or.inl (by first | rfl | simp [Cond.onTables, Cond.keeps, Cond.steady])) hini)
  obtain ⟨hx, hb, hml, ho, -⟩ := S
  intro T hT X
  obtain ⟨v, vm₁, ⟨U', l2, c2, s2⟩, hW₁, X', ⟨g', mk, t, L, e1, e2, hq, h1, hL, h2, h3⟩, st⟩ := vx_callSW X hx (hh := hh) (bytes := bytes) (maxL := maxL) (ret := ret) ho hl hstt hini hcode hy hK hg (hsize.trans hml.symm) (argsL := As) (rest := rest) (fun sig h => hn.trans (hlen sig h)) hstack hW (by rw [hb]; exact hdg)
    (fun vm₁ hW₁ => ⟨hf.1, hf.2, hp.2 (T.setVm vm₁) hT hW₁⟩)
  dsimp only [Pt.U, Pt.locs, Pt.cells, Pt.slots] at X' e1 e2 h1 h2 h3 st
  subst h1; subst h2; subst h3
  exact ⟨v, (T.setVm vm₁).calling g' mk As.toArray, t, U', L, hT, X', hL, e1, e2, hq, st⟩
/-- a thing of a world lies in the heap -/
theorem vx_lt {D : va_G} {cl : List vw_C} {ws : va_W} {H1 : Heap} (h : va_P D cl ws H1) {k : Nat} {q : Nat × va_E} (hk : ws[k]? = some q) : q.1 < H1.size := (h k q hk).lt
end VXS
/-! ===== END ===== -/
/-! ===== BEGIN methods with a table of their own: called by a name, returning or throwing ===== -/
section VXH
/-! vx_backW, vx_callVX, vx_callSX, vx_callVW, vx_runVW, vx_runVX, vx_runSX, vx_ofWH follow the same proofs as their sisters above (Free/Laws.lean, Shelf42/LK1.lean); vx_outP calls Shelf42/NT130.lean (outThrough). -/
section
variable {l : Launch} {R : Room} {p : Program} {e : Env} {below : List Frame} {s : State} {sargs : Array Value} {y : MethodName} {len W9 : Nat}
theorem vx_backW {ws : List Cond} {rm : Room} {Pc : Array Value → State → Prop} {Qc : Array Value → State → Outcome → State → Prop} {XC : String → State → State → Prop} {mc ms : Nat} {free : Addr → Prop} {bytes : ByteArray} {maxL : Nat} {ret : Option FieldType} {hh : List (Nat × Nat × Nat × Nat)}
    (hM : vx_Met l y ws rm Pc Qc XC mc ms free) (hblind : FrameBlind Pc) (hrc : rm.cells = mc) (hrs : rm.slots = ms)
    (hframes : rm.frames + 1 ≤ R.frames) (hlocals : W9 + (maxL + 11) + rm.locals ≤ R.locals)
    (hws : ∀ w ∈ ws, ∀ a' U, s.WarmedH U.vm → w.before a' U = true) (hcode : Cond.codeWith y bytes maxL ret hh ∈ ws) (hinit : ∀ a' U, s.WarmedH U.vm → (Cond.initialized y.cls).before a' U = true) :
    vx_Back l R p e below s sargs y len W9 (PreOf R mc ms Pc) (PostOf Qc mc ms free) (vx_Post XC mc ms free) := by
  intro m meth c A g ig mk a X hg hsize hdg hW hn hp
  have h1 : (headSpec ws rm).pre.before a A.U = true := atoms_intro fun w hw => hws w hw _ _ X.warmed
  have h2 : (Cond.codeWith y bytes maxL ret hh).before a A.U = true := hws _ hcode _ _ X.warmed
  have h3 : (Cond.initialized y.cls).before a A.U = true := hinit _ _ X.warmed
  have h4 : A.cells + (headSpec ws rm).room.cells ≤ R.cells := by rw [show (headSpec ws rm).room.cells = mc from hrc]; exact hp.1
  have h5 : A.slots + (headSpec ws rm).room.slots ≤ R.slots := by rw [show (headSpec ws rm).room.slots = ms from hrs]; exact hp.2.1
  have hPc : Pc a (A.U.calling g mk a) := hblind _ _ _ _ hp.2.2
  obtain ⟨U, Ls, c0, s0⟩ := A
  dsimp only [Pt.U, Pt.locs, Pt.cells, Pt.slots] at h1 h2 h3 h4 h5 X hn hPc ⊢
  obtain ⟨m9, methY, cY, hn9, hmY, hcY, -, hlY, -⟩ := Cond.codeWith_spec h2
  cases Option.some.inj (hn9.symm.trans hn)
  obtain ⟨kY, hkY, -⟩ := className_of_methodNamed hn
  have hinitY : kY.init = .initialized := Cond.initialized_spec (findClass_of_methodNamed hn) hkY h3
  have h : At U g.method c below := by rw [hg]; exact X.here
  have hlocals9 : W9 + (maxL + 11) + (headSpec ws rm).room.locals ≤ R.locals := hlocals
  have happ : (headSpec ws rm).appliesLoose y e.platform (U.calling g mk a) = true :=
    Spec.appliesLoose_calling (g := g) h hdg hn hkY hinitY
      (X.room_calling (g := g) (R' := (headSpec ws rm).room) hsize hmY hcY hframes (by rw [hlY]; omega) h4 h5) h1
  obtain ⟨mid, hmid⟩ := h.above
  have hfr : (U.setTop g).frames = (.java g :: mid) ++ below := by rw [State.frames_setTop' g h.top, hmid]; rfl
  obtain ⟨o, s₂, hsteps, -, hend, hq⟩ := Steps.callFree hM p X.admits X.cas X.clock (acts := []) hfr happ hPc trivial
  have hq' : vx_Q Qc XC mc ms free a (U.calling g mk a) o s₂ := hq
  rw [State.frames_setTop' g h.top] at hend
  obtain ⟨g₀, hg0⟩ := Option.isSome_iff_exists.mp h.top
  obtain ⟨r, hr⟩ := State.topJava?_eq_some.mp hg0
  have hr' : (({ U with heap := s₂.heap, slotsUsed := s₂.slotsUsed } : State).setVm s₂.vm).frames = .java g₀ :: r := hr
  rcases hq' with ⟨hqc, L, hfe, hL⟩ | ⟨q, rfl, E, ce, L, hx, hce, hcv, hcl, hW₂, hsm, hL⟩
  · obtain ⟨⟨v, rfl⟩, hW₂, e2, q2, q3, q4, q5, q6⟩ := id hfe
    have e3 : s₂ = ({ (U.calling g mk a).setFrames s₂.frames with heap := s₂.heap, slotsUsed := s₂.slotsUsed } : State).setVm s₂.vm := by
      have : s₂ = ({ s₂ with vm := (U.calling g mk a).vm } : State).setVm s₂.vm := rfl
      rw [e2] at this
      exact this
    obtain ⟨c₂, i₂, len₂, hc₂, hd₂, hf₂⟩ := hend
    have hW' : U.WarmedH s₂.vm := hW₂
    have hcc : c₂ = c := by
      have h1 : s₂.code? g.method = U.code? g.method := by
        rw [State.code?_eq, State.code?_eq, hW'.alike.method?]
      exact Option.some.inj (hc₂.symm.trans (h1.trans h.code))
    subst hcc
    have hlen : len₂ = len := by rw [hdg] at hd₂; cases hd₂; rfl
    subst hlen
    have hs₂ : s₂ = (({ U with heap := s₂.heap, slotsUsed := s₂.slotsUsed } : State).setVm s₂.vm).setTop { g with pc := g.pc + len₂, stack := v.toList ++ g.stack } := by
      refine e3.trans ?_
      rw [hf₂, State.calling_eq h.top, State.setFrames_setFrames, State.setTop_of_frames _ hr', hr]
      rfl
    have hsame : U.sameButNew ({ U with heap := s₂.heap, slotsUsed := s₂.slotsUsed } : State) L mc ms := by
      refine ⟨?_, q2, q3, q4, q5, q6⟩
      obtain ⟨t, ht, -⟩ := State.frames_cons hr
      show ({ U with heap := s₂.heap, slotsUsed := s₂.slotsUsed } : State) = { U.setFrames U.frames with heap := s₂.heap, slotsUsed := s₂.slotsUsed }
      rw [State.setFrames_self ht]
    subst hg
    refine Or.inl ⟨v, ⟨(({ U with heap := s₂.heap, slotsUsed := s₂.slotsUsed } : State).setVm s₂.vm), Ls ++ L, c0 + mc, s0 + ms⟩,
      ⟨X.admits, X.cas, X.clock, X.frames, X.room, X.hears, X.method, X.code, (X.here.setHeapUsed s₂.heap s₂.slotsUsed).setVm hW'.alike, X.tail, State.WarmedH.trans X.warmed hW', X.limits, X.bytes, X.same.trans (hsame.setVm s.vm)⟩,
      ⟨g, mk, s₂, L, rfl, rfl, hqc, rfl, hL, rfl, rfl⟩, ?_⟩
    show Steps p.tables e below _ ((({ U with heap := s₂.heap, slotsUsed := s₂.slotsUsed } : State).setVm s₂.vm).setTop { g with pc := g.pc + len₂, stack := v.toList ++ g.stack })
    rw [← hs₂]
    exact hsteps
  · obtain ⟨e2, q2, q3, q4, q5, q6⟩ := id hsm
    have e3 : s₂ = ({ (U.calling g mk a).setFrames s₂.frames with heap := s₂.heap, slotsUsed := s₂.slotsUsed } : State).setVm s₂.vm := by
      have : s₂ = ({ s₂ with vm := (U.calling g mk a).vm } : State).setVm s₂.vm := rfl
      rw [e2] at this
      exact this
    have hf₂ : s₂.frames = .throwing q :: .java g :: U.frames.tail := hend
    have hW' : U.WarmedH s₂.vm := hW₂
    have hs₂ : s₂ = ((({ U with heap := s₂.heap, slotsUsed := s₂.slotsUsed } : State).setVm s₂.vm).setTop g).pushFrame (.throwing q) := by
      refine e3.trans ?_
      rw [hf₂, State.calling_eq h.top, State.setFrames_setFrames, State.pushFrame, State.frames_setTop _ hr', State.setTop_of_frames _ hr', State.setFrames_setFrames, hr]
      rfl
    have hsame : U.sameButNew ({ U with heap := s₂.heap, slotsUsed := s₂.slotsUsed } : State) L mc ms := by
      refine ⟨?_, q2, q3, q4, q5, q6⟩
      obtain ⟨t, ht, -⟩ := State.frames_cons hr
      show ({ U with heap := s₂.heap, slotsUsed := s₂.slotsUsed } : State) = { U.setFrames U.frames with heap := s₂.heap, slotsUsed := s₂.slotsUsed }
      rw [State.setFrames_self ht]
    subst hg
    refine Or.inr ⟨q, ⟨(({ U with heap := s₂.heap, slotsUsed := s₂.slotsUsed } : State).setVm s₂.vm), Ls ++ L, c0 + mc, s0 + ms⟩,
      ⟨X.admits, X.cas, X.clock, X.frames, X.room, X.hears, X.method, X.code, (X.here.setHeapUsed s₂.heap s₂.slotsUsed).setVm hW'.alike, X.tail, State.WarmedH.trans X.warmed hW', X.limits, X.bytes, X.same.trans (hsame.setVm s.vm)⟩,
      ⟨g, mk, s₂, L, E, ce, rfl, rfl, hx, hce, hcv, hcl, rfl, hL, rfl, rfl⟩, ?_⟩
    show Steps p.tables e below _ (((({ U with heap := s₂.heap, slotsUsed := s₂.slotsUsed } : State).setVm s₂.vm).setTop g).pushFrame (.throwing q))
    rw [← hs₂]
    exact hsteps
end
variable {p : Program} {l : Launch} {e : Env} {R : Room} {s : State} {m : MethodId} {args : Array Value} {below : List Frame} {meth : Method} {c : Code} {T : State} {H : Heap} {locs : List Loc} {cells slots : Nat}
theorem vx_callVX (X : Stand p l e R s m args below meth c T locs cells slots) (hexec : p.tables.exec = Jvm.exec) {own C : String} {index : Nat} {y : MethodName} {bytes : ByteArray} {maxL : Nat} {ret : Option FieldType} {hh : List (Nat × Nat × Nat × Nat)}
    (hown : s.vm.findClass own = some m.cls) (hlink : (Cond.methodLink own index y).before args s = true) (hinst : (Cond.instanceMethod y).before args s = true) (hsel : (Cond.selects C y y).before args s = true)
    (hcode : (Cond.codeWith y bytes maxL ret hh).before args s = true) (hy : y.cls ≠ "java/lang/invoke/MethodHandle" ∧ y.cls ≠ "java/lang/invoke/VarHandle")
    {W9 : Nat} {Pre : Pt → Array Value → Prop} {Post : Pt → Array Value → Option Value → Pt → Prop} {PostX : Pt → Array Value → Addr → Pt → Prop} (hK : vx_Back l R p e below s args y 3 W9 Pre Post PostX)
    {b : Addr} {cellB : Cell} (hcell : T.heap[b]? = some cellB) (hobj : cellB.vm.isStatics = false) (hcls : s.vm.findClass C = some cellB.cls)
    {g : JFrame} (hg : g.method = m) (hsize : g.locals.size = c.maxLocals) {argsL rest : List Value} (hlen : ∀ sig, parseMethodDescriptor y.desc = some sig → argsL.length = sig.parameters.length)
    (hstack : g.stack = argsL.reverse ++ .ref b :: rest) (hW : 2 * g.monitorRoom + (rest.map fun v => v.category).sum ≤ W9) (hdg : decode c.code g.pc = .ok (.invokevirtual index, 3))
    (hpre : ∀ vm₁, s.WarmedH vm₁ → Pre ⟨T.setVm vm₁, locs, cells, slots⟩ (Value.ref b :: argsL).toArray) :
    (∃ (v : Option Value) (vm₁ : Vm) (B : Pt), s.WarmedH vm₁ ∧ Stand p l e R s m args below meth c B.U B.locs B.cells B.slots ∧ Post ⟨T.setVm vm₁, locs, cells, slots⟩ (Value.ref b :: argsL).toArray v B ∧
      ∀ target, Steps p.tables e below (B.U.setTop { g with pc := g.pc + 3, stack := v.toList ++ rest }) target → Steps p.tables e below (T.setTop g) target) ∨
    (∃ (q : Addr) (vm₁ : Vm) (B : Pt), s.WarmedH vm₁ ∧ Stand p l e R s m args below meth c B.U B.locs B.cells B.slots ∧ PostX ⟨T.setVm vm₁, locs, cells, slots⟩ (Value.ref b :: argsL).toArray q B ∧
      Steps p.tables e below (T.setTop g) ((B.U.setTop { g with stack := rest }).pushFrame (.throwing q))) := by
  obtain ⟨mk, methM, hnamed, hmethM, hstM, habM⟩ := Cond.instanceMethod_spec hinst
  obtain ⟨m8, methM', cM, hn8, hmethM', -, -, -, -, -, -, hsigM⟩ := Cond.codeWith_spec hcode
  cases Option.some.inj (hn8.symm.trans hnamed)
  cases hmethM.symm.trans hmethM'
  obtain ⟨c2, r2, m2, q1, q2, q3, q4, kP, hkP, hkPi⟩ := Cond.selects_spec hsel
  cases hcls.symm.trans q1
  cases (State.methodFound?_of_named hnamed hy).symm.trans q2
  cases hnamed.symm.trans q3
  have hselP : selectMethod e.platform s.vm cellB.cls mk = .method mk := by rw [Launch.admits_selectMethod X.admits]; exact q4
  obtain ⟨vm₁, X₁, hstep₁⟩ := X.invokevirtual hexec hown hlink hnamed hmethM hstM hkP hkPi hy (a := b) (cell := cellB) hcell
    (fun z h => by rw [h] at hobj; cases hobj) hselP hmethM habM hkP hkPi (g := g) hg (argsL := argsL) (rest := rest) (hlen _ hsigM) hstack hdg
  rcases hK m meth c ⟨T.setVm vm₁, locs, cells, slots⟩ { g with stack := rest } (.invokevirtual index) mk (Value.ref b :: argsL).toArray X₁ hg hsize hdg hW (X₁.named hnamed) (hpre vm₁ X₁.warmed) with ⟨v, B, X', hpost, hsteps⟩ | ⟨q, B, X', hpost, hsteps⟩
  · exact Or.inl ⟨v, vm₁, B, X₁.warmed, X', hpost, fun target h => hstep₁ _ fun acts => by rw [doInvoke_state]; exact hsteps.trans h⟩
  · exact Or.inr ⟨q, vm₁, B, X₁.warmed, X', hpost, hstep₁ _ fun acts => by rw [doInvoke_state]; exact hsteps⟩
theorem vx_callSX (X : Stand p l e R s m args below meth c T locs cells slots) (hexec : p.tables.exec = Jvm.exec) {own : String} {index : Nat} {y : MethodName} {bytes : ByteArray} {maxL : Nat} {ret : Option FieldType} {hh : List (Nat × Nat × Nat × Nat)}
    (hown : s.vm.findClass own = some m.cls) (hlink : (Cond.methodLink own index y).before args s = true) (hstat : (Cond.static y).before args s = true) (hinit : (Cond.initialized y.cls).before args s = true)
    (hcode : (Cond.codeWith y bytes maxL ret hh).before args s = true) (hy : y.cls ≠ "java/lang/invoke/MethodHandle" ∧ y.cls ≠ "java/lang/invoke/VarHandle")
    {W9 : Nat} {Pre : Pt → Array Value → Prop} {Post : Pt → Array Value → Option Value → Pt → Prop} {PostX : Pt → Array Value → Addr → Pt → Prop} (hK : vx_Back l R p e below s args y 3 W9 Pre Post PostX)
    {g : JFrame} (hg : g.method = m) (hsize : g.locals.size = c.maxLocals) {argsL rest : List Value} (hlen : ∀ sig, parseMethodDescriptor y.desc = some sig → argsL.length = sig.parameters.length)
    (hstack : g.stack = argsL.reverse ++ rest) (hW : 2 * g.monitorRoom + (rest.map fun v => v.category).sum ≤ W9) (hdg : decode c.code g.pc = .ok (.invokestatic index, 3))
    (hpre : ∀ vm₁, s.WarmedH vm₁ → Pre ⟨T.setVm vm₁, locs, cells, slots⟩ argsL.toArray) :
    (∃ (v : Option Value) (vm₁ : Vm) (B : Pt), s.WarmedH vm₁ ∧ Stand p l e R s m args below meth c B.U B.locs B.cells B.slots ∧ Post ⟨T.setVm vm₁, locs, cells, slots⟩ argsL.toArray v B ∧
      ∀ target, Steps p.tables e below (B.U.setTop { g with pc := g.pc + 3, stack := v.toList ++ rest }) target → Steps p.tables e below (T.setTop g) target) ∨
    (∃ (q : Addr) (vm₁ : Vm) (B : Pt), s.WarmedH vm₁ ∧ Stand p l e R s m args below meth c B.U B.locs B.cells B.slots ∧ PostX ⟨T.setVm vm₁, locs, cells, slots⟩ argsL.toArray q B ∧
      Steps p.tables e below (T.setTop g) ((B.U.setTop { g with stack := rest }).pushFrame (.throwing q))) := by
  obtain ⟨mk, methM, cM, hnamed, hmethM, -, -, -, -, -, -, hsigM⟩ := Cond.codeWith_spec hcode
  have hstatic : methM.isStatic = true := Cond.static_spec hnamed hmethM hstat
  obtain ⟨kP, hkP, -⟩ := className_of_methodNamed hnamed
  have hinitP : kP.init = .initialized := Cond.initialized_spec (findClass_of_methodNamed hnamed) hkP hinit
  obtain ⟨vm₁, X₁, hstep₁⟩ := X.invokestatic hexec hown hlink hnamed hmethM hstatic hkP hinitP hy (g := g) hg (argsL := argsL) (rest := rest) (hlen _ hsigM) hstack hdg
  rcases hK m meth c ⟨T.setVm vm₁, locs, cells, slots⟩ { g with stack := rest } (.invokestatic index) mk argsL.toArray X₁ hg hsize hdg hW (X₁.named hnamed) (hpre vm₁ X₁.warmed) with ⟨v, B, X', hpost, hsteps⟩ | ⟨q, B, X', hpost, hsteps⟩
  · exact Or.inl ⟨v, vm₁, B, X₁.warmed, X', hpost, fun target h => hstep₁ _ fun acts => by rw [doInvoke_state]; exact hsteps.trans h⟩
  · exact Or.inr ⟨q, vm₁, B, X₁.warmed, X', hpost, hstep₁ _ fun acts => by rw [doInvoke_state]; exact hsteps⟩
theorem vx_callVW (X : Stand p l e R s m args below meth c T locs cells slots) (hexec : p.tables.exec = Jvm.exec) {own C : String} {index : Nat} {y : MethodName} {bytes : ByteArray} {maxL : Nat} {ret : Option FieldType} {hh : List (Nat × Nat × Nat × Nat)}
    (hown : s.vm.findClass own = some m.cls) (hlink : (Cond.methodLink own index y).before args s = true) (hinst : (Cond.instanceMethod y).before args s = true) (hsel : (Cond.selects C y y).before args s = true)
    (hcode : (Cond.codeWith y bytes maxL ret hh).before args s = true) (hy : y.cls ≠ "java/lang/invoke/MethodHandle" ∧ y.cls ≠ "java/lang/invoke/VarHandle")
    {W9 : Nat} {Pre : Pt → Array Value → Prop} {Post : Pt → Array Value → Option Value → Pt → Prop} (hK : Back l R p e below s args y 3 W9 Pre Post)
    {b : Addr} {cellB : Cell} (hcell : T.heap[b]? = some cellB) (hobj : cellB.vm.isStatics = false) (hcls : s.vm.findClass C = some cellB.cls)
    {g : JFrame} (hg : g.method = m) (hsize : g.locals.size = c.maxLocals) {argsL rest : List Value} (hlen : ∀ sig, parseMethodDescriptor y.desc = some sig → argsL.length = sig.parameters.length)
    (hstack : g.stack = argsL.reverse ++ .ref b :: rest) (hW : 2 * g.monitorRoom + (rest.map fun v => v.category).sum ≤ W9) (hdg : decode c.code g.pc = .ok (.invokevirtual index, 3))
    (hpre : ∀ vm₁, s.WarmedH vm₁ → Pre ⟨T.setVm vm₁, locs, cells, slots⟩ (Value.ref b :: argsL).toArray) :
    ∃ (v : Option Value) (vm₁ : Vm) (B : Pt), s.WarmedH vm₁ ∧ Stand p l e R s m args below meth c B.U B.locs B.cells B.slots ∧ Post ⟨T.setVm vm₁, locs, cells, slots⟩ (Value.ref b :: argsL).toArray v B ∧
      ∀ target, Steps p.tables e below (B.U.setTop { g with pc := g.pc + 3, stack := v.toList ++ rest }) target → Steps p.tables e below (T.setTop g) target := by
  obtain ⟨mk, methM, hnamed, hmethM, hstM, habM⟩ := Cond.instanceMethod_spec hinst
  obtain ⟨m8, methM', cM, hn8, hmethM', -, -, -, -, -, -, hsigM⟩ := Cond.codeWith_spec hcode
  cases Option.some.inj (hn8.symm.trans hnamed)
  cases hmethM.symm.trans hmethM'
  obtain ⟨c2, r2, m2, q1, q2, q3, q4, kP, hkP, hkPi⟩ := Cond.selects_spec hsel
  cases hcls.symm.trans q1
  cases (State.methodFound?_of_named hnamed hy).symm.trans q2
  cases hnamed.symm.trans q3
  have hselP : selectMethod e.platform s.vm cellB.cls mk = .method mk := by rw [Launch.admits_selectMethod X.admits]; exact q4
  obtain ⟨vm₁, X₁, hstep₁⟩ := X.invokevirtual hexec hown hlink hnamed hmethM hstM hkP hkPi hy (a := b) (cell := cellB) hcell
    (fun z h => by rw [h] at hobj; cases hobj) hselP hmethM habM hkP hkPi (g := g) hg (argsL := argsL) (rest := rest) (hlen _ hsigM) hstack hdg
  obtain ⟨v, B, X', hpost, hsteps⟩ := hK m meth c ⟨T.setVm vm₁, locs, cells, slots⟩ { g with stack := rest } (.invokevirtual index) mk (Value.ref b :: argsL).toArray X₁ hg hsize hdg hW (X₁.named hnamed) (hpre vm₁ X₁.warmed)
  exact ⟨v, vm₁, B, X₁.warmed, X', hpost, fun target h => hstep₁ _ fun acts => by rw [doInvoke_state]; exact hsteps.trans h⟩
abbrev vx_CVW (R : Room) (s : State) (args : Array Value) (own C : String) (index : Nat) (y : MethodName) (bytes : ByteArray) (maxL : Nat) (ret : Option FieldType) (hh : List (Nat × Nat × Nat × Nat)) (ws : List Cond) (rm : Room) (mc ms n : Nat) : Prop :=
  (rm.cells = mc ∧ rm.slots = ms ∧ rm.frames + 1 ≤ R.frames ∧ 8 + (maxL + 11) + rm.locals ≤ R.locals ∧ (∀ w ∈ ws, ∀ (a' : Array Value) (U : State), s.WarmedH U.vm → w.before a' U = true) ∧ Cond.codeWith y bytes maxL ret hh ∈ ws) ∧
  (Cond.codeWith y bytes maxL ret hh).before args s = true ∧ (Cond.initialized y.cls).before args s = true ∧ (y.cls ≠ "java/lang/invoke/MethodHandle" ∧ y.cls ≠ "java/lang/invoke/VarHandle") ∧
  (∀ sig, parseMethodDescriptor y.desc = some sig → n = sig.parameters.length) ∧ (Cond.methodLink own index y).before args s = true ∧ (Cond.instanceMethod y).before args s = true ∧ (Cond.selects C y y).before args s = true
theorem vx_cwVW {own C : String} {index maxL mc ms : Nat} {y : MethodName} {bytes : ByteArray} {ret : Option FieldType} {hh : List (Nat × Nat × Nat × Nat)} {Ts ws ws' : List Cond} {rm : Room} (n : Nat) (ht : ∀ w ∈ Ts, w.before args s = true) (hT : GoodIn Ts (wsV own index C y ws)) (hw : ws = Cond.codeWith y bytes maxL ret hh :: ws') (hrc : rm.cells = mc) (hrs : rm.slots = ms)
    (hd : y.cls = C ∧ y.cls ≠ "java/lang/invoke/MethodHandle" ∧ y.cls ≠ "java/lang/invoke/VarHandle" ∧ (parseMethodDescriptor y.desc).map (fun d => d.parameters.length) = some n) (hR : rm.frames + 1 ≤ R.frames ∧ 8 + (maxL + 11) + rm.locals ≤ R.locals) :
    vx_CVW R s args own C index y bytes maxL ret hh ws rm mc ms n := by
  obtain ⟨hC, hd⟩ := hd
  subst hC
  have ok : ∀ w ∈ wsV own index y.cls y ws, w.before args s = true := fun w h => ht w (hT w h).1
  have hG : GoodIn Ts ws := fun w h => hT w (by unfold wsV; exact List.mem_append_right _ h)
  have hc : Cond.codeWith y bytes maxL ret hh ∈ ws := by rw [hw]; exact List.mem_cons_self
  refine ⟨⟨hrc, hrs, hR.1, hR.2, pay_in ht hG, hc⟩, ht _ (hG _ hc).1, ok _ (by simp [wsV]), ⟨hd.1, hd.2.1⟩, fun sig h => ?_, ok _ (by simp [wsV]), ok _ (by simp [wsV]), ok _ (by simp [wsV])⟩
  have h2 := hd.2.2
  rw [h] at h2
  exact (Option.some.inj h2).symm
theorem vx_runVW {y : MethodName} {bytes cc : ByteArray} {maxL nL mc ms n index : Nat} {ret : Option FieldType} {hh : List (Nat × Nat × Nat × Nat)} {ws : List Cond} {rm : Room} {Pc : Array Value → State → Prop} {Qc : Array Value → State → Outcome → State → Prop} {free : Addr → Prop} {Ts : List Cond} {own C : String} {b : Addr} {As rest : List Value} {g : JFrame}
    (S : CallFix p m c cc nL s args Ts own) (hM : Met l y ws rm Pc Qc mc ms free) (cw : vx_CVW R s args own C index y bytes maxL ret hh ws rm mc ms n) (hp : PreV s H C b Pc As)
    (hg : g.method = m) (hn : As.length = n) (hsize : g.locals.size = nL) (hstack : g.stack = As.reverse ++ .ref b :: rest) (hW : 2 * g.monitorRoom + (rest.map fun v => v.category).sum ≤ 8) (hdg : decode cc g.pc = .ok (.invokevirtual index, 3)) (hf : cells + mc ≤ R.cells ∧ slots + ms ≤ R.slots) :
    va_Run p l e R s m args below meth c H locs cells slots mc ms g rest (Qc (Value.ref b :: As).toArray) free := by
  obtain ⟨⟨hrc, hrs, hfr, hlo, hws, hcw⟩, hcode, hini, hy, hlen, hl, hin, hse⟩ := cw
  have hK : Back l R p e below s args y 3 8 (PreOf R mc ms Pc) (PostOf Qc mc ms free) := va_backW (hh := hh) (bytes := bytes) (maxL := maxL) (ret := ret) hM hp.1 hrc hrs hfr hlo hws hcw (fun a' U hW => word_at hW (Or.inl (by first | rfl | simp [Cond.onTables, Cond.keeps, Cond.steady])) hini)
  obtain ⟨hx, hb, hml, ho, -⟩ := S
  obtain ⟨-, ⟨cellB, hcB, hoB, hclB⟩, hPc⟩ := hp
  intro T hT X
  obtain ⟨v, vm₁, ⟨U', l2, c2, s2⟩, hW₁, X', ⟨g', mk, t, L, e1, e2, hq, h1, hL, h2, h3⟩, st⟩ := vx_callVW X hx (C := C) (hh := hh) (bytes := bytes) (maxL := maxL) (ret := ret) ho hl hin hse hcode hy hK (by rw [hT]; exact hcB) hoB hclB hg (hsize.trans hml.symm) (argsL := As) (rest := rest) (fun sig h => hn.trans (hlen sig h)) hstack hW (by rw [hb]; exact hdg)
    (fun vm₁ hW₁ => ⟨hf.1, hf.2, hPc (T.setVm vm₁) hT hW₁⟩)
  dsimp only [Pt.U, Pt.locs, Pt.cells, Pt.slots] at X' e1 e2 h1 h2 h3 st
  subst h1; subst h2; subst h3
  exact ⟨v, (T.setVm vm₁).calling g' mk (Value.ref b :: As).toArray, t, U', L, hT, X', hL, e1, e2, hq, st⟩
section
variable {y : MethodName} {bytes cc : ByteArray} {maxL nL mc ms n index : Nat} {ret : Option FieldType} {ws : List Cond} {rm : Room} {Pc : Array Value → State → Prop} {Qc : Array Value → State → Outcome → State → Prop} {XC : String → State → State → Prop} {free : Addr → Prop} {Ts : List Cond} {own C : String} {b : Addr} {As rest : List Value} {g : JFrame}
theorem vx_runVX {hh : List (Nat × Nat × Nat × Nat)} (S : CallFix p m c cc nL s args Ts own) (hM : vx_Met l y ws rm Pc Qc XC mc ms free) (cw : vx_CVW R s args own C index y bytes maxL ret hh ws rm mc ms n) (hp : PreV s H C b Pc As)
    (hg : g.method = m) (hn : As.length = n) (hsize : g.locals.size = nL) (hstack : g.stack = As.reverse ++ .ref b :: rest) (hW : 2 * g.monitorRoom + (rest.map fun v => v.category).sum ≤ 8) (hdg : decode cc g.pc = .ok (.invokevirtual index, 3)) (hf : cells + mc ≤ R.cells ∧ slots + ms ≤ R.slots) :
    vx_Run p l e R s m args below meth c H locs cells slots mc ms g rest (Qc (Value.ref b :: As).toArray) XC free := by
  obtain ⟨⟨hrc, hrs, hfr, hlo, hws, hcw⟩, hcode, hini, hy, hlen, hl, hin, hse⟩ := cw
  have hK : vx_Back l R p e below s args y 3 8 (PreOf R mc ms Pc) (PostOf Qc mc ms free) (vx_Post XC mc ms free) := vx_backW (hh := hh) (bytes := bytes) (maxL := maxL) (ret := ret) hM hp.1 hrc hrs hfr hlo hws hcw (fun a' U hW => word_at hW (Or.inl (by first | rfl | simp [Cond.onTables, Cond.keeps, Cond.steady])) hini)
  obtain ⟨hx, hb, hml, ho, -⟩ := S
  obtain ⟨-, ⟨cellB, hcB, hoB, hclB⟩, hPc⟩ := hp
  intro T hT X
  rcases vx_callVX X hx (C := C) (hh := hh) (bytes := bytes) (maxL := maxL) (ret := ret) ho hl hin hse hcode hy hK (by rw [hT]; exact hcB) hoB hclB hg (hsize.trans hml.symm) (argsL := As) (rest := rest) (fun sig h => hn.trans (hlen sig h)) hstack hW (by rw [hb]; exact hdg)
    (fun vm₁ hW₁ => ⟨hf.1, hf.2, hPc (T.setVm vm₁) hT hW₁⟩) with ⟨v, vm₁, ⟨U', l2, c2, s2⟩, hW₁, X', ⟨g', mk, t, L, e1, e2, hq, h1, hL, h2, h3⟩, st⟩ | ⟨q, vm₁, ⟨U', l2, c2, s2⟩, hW₁, X', ⟨g', mk, t, L, E, ce, e1, e2, hq, hce, hcv, hcl, h1, hL, h2, h3⟩, st⟩
  · dsimp only [Pt.U, Pt.locs, Pt.cells, Pt.slots] at X' e1 e2 h1 h2 h3 st
    subst h1; subst h2; subst h3
    exact Or.inl ⟨v, (T.setVm vm₁).calling g' mk (Value.ref b :: As).toArray, t, U', L, hT, X', hL, e1, e2, hq, st⟩
  · dsimp only [Pt.U, Pt.locs, Pt.cells, Pt.slots] at X' e1 e2 h1 h2 h3 st hcl
    subst h1; subst h2; subst h3
    exact Or.inr ⟨q, (T.setVm vm₁).calling g' mk (Value.ref b :: As).toArray, t, U', L, E, ce, hT, X', hL, e1, e2, hq, hce, hcv, vx_cls hW₁ hcl, st⟩
theorem vx_runSX {hh : List (Nat × Nat × Nat × Nat)} (S : CallFix p m c cc nL s args Ts own) (hM : vx_Met l y ws rm Pc Qc XC mc ms free) (cw : vx_CSW R s args own index y bytes maxL ret hh ws rm mc ms n) (hp : PreS s H Pc As)
    (hg : g.method = m) (hn : As.length = n) (hsize : g.locals.size = nL) (hstack : g.stack = As.reverse ++ rest) (hW : 2 * g.monitorRoom + (rest.map fun v => v.category).sum ≤ 8) (hdg : decode cc g.pc = .ok (.invokestatic index, 3)) (hf : cells + mc ≤ R.cells ∧ slots + ms ≤ R.slots) :
    vx_Run p l e R s m args below meth c H locs cells slots mc ms g rest (Qc As.toArray) XC free := by
  obtain ⟨⟨hrc, hrs, hfr, hlo, hws, hcw⟩, hcode, hini, hy, hlen, hl, hstt⟩ := cw
  have hK : vx_Back l R p e below s args y 3 8 (PreOf R mc ms Pc) (PostOf Qc mc ms free) (vx_Post XC mc ms free) := vx_backW (hh := hh) (bytes := bytes) (maxL := maxL) (ret := ret) hM hp.1 hrc hrs hfr hlo hws hcw (fun a' U hW => word_at hW (Or.inl (by first | rfl | simp [Cond.onTables, Cond.keeps, Cond.steady])) hini)
  obtain ⟨hx, hb, hml, ho, -⟩ := S
  intro T hT X
  rcases vx_callSX X hx (hh := hh) (bytes := bytes) (maxL := maxL) (ret := ret) ho hl hstt hini hcode hy hK hg (hsize.trans hml.symm) (argsL := As) (rest := rest) (fun sig h => hn.trans (hlen sig h)) hstack hW (by rw [hb]; exact hdg)
    (fun vm₁ hW₁ => ⟨hf.1, hf.2, hp.2 (T.setVm vm₁) hT hW₁⟩) with ⟨v, vm₁, ⟨U', l2, c2, s2⟩, hW₁, X', ⟨g', mk, t, L, e1, e2, hq, h1, hL, h2, h3⟩, st⟩ | ⟨q, vm₁, ⟨U', l2, c2, s2⟩, hW₁, X', ⟨g', mk, t, L, E, ce, e1, e2, hq, hce, hcv, hcl, h1, hL, h2, h3⟩, st⟩
  · dsimp only [Pt.U, Pt.locs, Pt.cells, Pt.slots] at X' e1 e2 h1 h2 h3 st
    subst h1; subst h2; subst h3
    exact Or.inl ⟨v, (T.setVm vm₁).calling g' mk As.toArray, t, U', L, hT, X', hL, e1, e2, hq, st⟩
  · dsimp only [Pt.U, Pt.locs, Pt.cells, Pt.slots] at X' e1 e2 h1 h2 h3 st hcl
    subst h1; subst h2; subst h3
    exact Or.inr ⟨q, (T.setVm vm₁).calling g' mk As.toArray, t, U', L, E, ce, hT, X', hL, e1, e2, hq, hce, hcv, vx_cls hW₁ hcl, st⟩
end
end VXH
theorem vx_ofWH {l : Launch} {y : MethodName} {ws ws' : List Cond} {rm : Room} {Pc : Array Value → State → Prop} {Qc : Array Value → State → Outcome → State → Prop} {XC : String → State → State → Prop} {mc ms : Nat} {free : Addr → Prop} {cc : ByteArray} {maxL : Nat} {ret : Option FieldType} {hh : List (Nat × Nat × Nat × Nat)}
    (hy : plainName y.cls = true) (hw : ws = Cond.codeWith y cc maxL ret hh :: ws')
    (body : ∀ p e s m args below meth c s₁, BodyLoose p l y (headSpec ws rm) cc maxL ret e s m args below meth c s₁ → c.maxLocals = maxL → Pc args s →
      W p l e (headSpec ws rm).room s m args below meth c s.heap [] 0 0 (vx_MQ below Qc XC args s mc ms free) (entryFrame m args maxL)) : vx_Met l y ws rm Pc Qc XC mc ms free := by
  refine MetFree.of_bodyS (code := cc) (maxLocals := maxL) (ret := ret) hy ?_ ?_
  · intro args s m h hn
    obtain ⟨m9, meth, c, hn9, h1, h2, h3, h4, -, h5, h6, -⟩ := Cond.codeWith_spec (atoms_spec (ws := ws) h _ (by rw [hw]; exact List.mem_cons_self))
    cases hn.symm.trans hn9
    exact ⟨meth, c, h1, h2, h3, h4, h5, h6⟩
  · intro p e s m args below meth c s₁ B hml hP _
    have hh0 : s₁.heap = s.heap := by rw [B.state]; rfl
    obtain ⟨t, a1, o, b1, b2, b3⟩ := body p e s m args below meth c s₁ B hml hP s₁ hh0 (Stand.of_body B)
    exact ⟨t, o, a1, b1, b2, b3⟩
/-! ===== END ===== -/
end
section
def RX0 : String := "QuotaDesk$Admissions"
def TX0 : u_T := fun k => match k with
  | 0 => ("QuotaDesk$Admissions", "times", "[J", true)
  | 1 => ("QuotaDesk$Admissions", "counts", "[I", true)
  | 2 => ("QuotaDesk$Admissions", "first", "I", false)
  | 3 => ("QuotaDesk$Admissions", "size", "I", false)
  | _ => ("QuotaDesk$Admissions", "total", "I", false)
def tyX0 : Nat → FieldType := fun k => match k with
  | 0 => .array .long
  | 1 => .array .int
  | 2 => .int
  | 3 => .int
  | _ => .int
abbrev wsX00 : List Cond := u_ws RX0 TX0 5
theorem nmX0 : ∀ a, a < 5 → ∀ b, b < 5 → a ≠ b → (TX0 a).2.1 ≠ (TX0 b).2.1 := by decide +kernel
theorem tyX0_ok : ∀ k, k < 5 → parseFieldDescriptor (TX0 k).2.2.1 = some (tyX0 k) := by decide +kernel
abbrev cX0_init : ByteArray := prog_2_method_1_code
def yX0_init : MethodName := ⟨RX0, "<init>", "()V"⟩
abbrev cX0_begin : ByteArray := prog_2_method_2_code
def yX0_begin : MethodName := ⟨RX0, "begin", "()V"⟩
abbrev cX0_row : ByteArray := prog_2_method_3_code
def yX0_row : MethodName := ⟨RX0, "row", "(I)I"⟩
abbrev cX0_add : ByteArray := prog_2_method_4_code
def yX0_add : MethodName := ⟨RX0, "add", "(JI)V"⟩
abbrev cX0_openRow : ByteArray := prog_2_method_5_code
def yX0_openRow : MethodName := ⟨RX0, "openRow", "(J)V"⟩
abbrev cX0_forgetOldest : ByteArray := prog_2_method_6_code
def yX0_forgetOldest : MethodName := ⟨RX0, "forgetOldest", "(I)V"⟩
abbrev cX0_mostWithin : ByteArray := prog_2_method_7_code
def yX0_mostWithin : MethodName := ⟨RX0, "mostWithin", "(I)I"⟩
def RX1 : String := "QuotaDesk$Gate"
def TX1 : u_T := fun k => match k with
  | 0 => ("QuotaDesk$Gate", "toDesk", "LQuotaDesk$Way;", true)
  | 1 => ("QuotaDesk$Gate", "toGate", "LQuotaDesk$Way;", true)
  | 2 => ("QuotaDesk$Gate", "share", "[I", true)
  | 3 => ("QuotaDesk$Gate", "spent", "[I", true)
  | 4 => ("QuotaDesk$Gate", "stored", "[I", true)
  | 5 => ("QuotaDesk$Gate", "error", "I", false)
  | 6 => ("QuotaDesk$Gate", "clock", "J", false)
  | 7 => ("QuotaDesk$Gate", "window", "I", false)
  | _ => ("QuotaDesk$Gate", "up", "Z", false)
def tyX1 : Nat → FieldType := fun k => match k with
  | 0 => .object "QuotaDesk$Way"
  | 1 => .object "QuotaDesk$Way"
  | 2 => .array .int
  | 3 => .array .int
  | 4 => .array .int
  | 5 => .int
  | 6 => .long
  | 7 => .int
  | _ => .boolean
abbrev wsX10 : List Cond := u_ws RX1 TX1 9
theorem nmX1 : ∀ a, a < 9 → ∀ b, b < 9 → a ≠ b → (TX1 a).2.1 ≠ (TX1 b).2.1 := by decide +kernel
theorem tyX1_ok : ∀ k, k < 9 → parseFieldDescriptor (TX1 k).2.2.1 = some (tyX1 k) := by decide +kernel
abbrev cX1_init : ByteArray := prog_3_method_1_code
def yX1_init : MethodName := ⟨RX1, "<init>", "(I)V"⟩
abbrev cX1_begin : ByteArray := prog_3_method_2_code
def yX1_begin : MethodName := ⟨RX1, "begin", "(J)V"⟩
abbrev cX1_look : ByteArray := prog_3_method_3_code
def yX1_look : MethodName := ⟨RX1, "look", "(JI)V"⟩
abbrev cX1_drop : ByteArray := prog_3_method_4_code
def yX1_drop : MethodName := ⟨RX1, "drop", "(I)V"⟩
abbrev cX1_spend : ByteArray := prog_3_method_5_code
def yX1_spend : MethodName := ⟨RX1, "spend", "(I)I"⟩
abbrev cX1_spentIn : ByteArray := prog_3_method_6_code
def yX1_spentIn : MethodName := ⟨RX1, "spentIn", "(I)I"⟩
abbrev cX1_freeIn : ByteArray := prog_3_method_7_code
def yX1_freeIn : MethodName := ⟨RX1, "freeIn", "(I)I"⟩
abbrev cX1_addShare : ByteArray := prog_3_method_8_code
def yX1_addShare : MethodName := ⟨RX1, "addShare", "(II)V"⟩
abbrev cX1_comeUp : ByteArray := prog_3_method_9_code
def yX1_comeUp : MethodName := ⟨RX1, "comeUp", "()V"⟩
def RX2 : String := "QuotaDesk$Office"
def TX2 : u_T := fun k => match k with
  | 0 => ("QuotaDesk$Office", "units", "[I", true)
  | 1 => ("QuotaDesk$Office", "wanted", "[[I", true)
  | 2 => ("QuotaDesk$Office", "told", "[[I", true)
  | 3 => ("QuotaDesk$Office", "budget", "I", false)
  | 4 => ("QuotaDesk$Office", "window", "I", false)
  | 5 => ("QuotaDesk$Office", "rule", "I", false)
  | _ => ("QuotaDesk$Office", "up", "Z", false)
def tyX2 : Nat → FieldType := fun k => match k with
  | 0 => .array .int
  | 1 => .array (.array .int)
  | 2 => .array (.array .int)
  | 3 => .int
  | 4 => .int
  | 5 => .int
  | _ => .boolean
abbrev wsX20 : List Cond := u_ws RX2 TX2 7
theorem nmX2 : ∀ a, a < 7 → ∀ b, b < 7 → a ≠ b → (TX2 a).2.1 ≠ (TX2 b).2.1 := by decide +kernel
theorem tyX2_ok : ∀ k, k < 7 → parseFieldDescriptor (TX2 k).2.2.1 = some (tyX2 k) := by decide +kernel
abbrev cX2_init : ByteArray := prog_4_method_1_code
def yX2_init : MethodName := ⟨RX2, "<init>", "()V"⟩
abbrev cX2_begin : ByteArray := prog_4_method_2_code
def yX2_begin : MethodName := ⟨RX2, "begin", "(I)V"⟩
abbrev cX2_turnTo : ByteArray := prog_4_method_3_code
def yX2_turnTo : MethodName := ⟨RX2, "turnTo", "(I)V"⟩
abbrev cX2_renew : ByteArray := prog_4_method_4_code
def yX2_renew : MethodName := ⟨RX2, "renew", "(I)V"⟩
abbrev cX2_addUnits : ByteArray := prog_4_method_5_code
def yX2_addUnits : MethodName := ⟨RX2, "addUnits", "(II)V"⟩
abbrev cX2_forgetPleas : ByteArray := prog_4_method_6_code
def yX2_forgetPleas : MethodName := ⟨RX2, "forgetPleas", "()V"⟩
abbrev cX2_waitingPleas : ByteArray := prog_4_method_7_code
def yX2_waitingPleas : MethodName := ⟨RX2, "waitingPleas", "()I"⟩
def RX3 : String := "QuotaDesk$Pool"
def TX3 : u_T := fun k => match k with
  | 0 => ("QuotaDesk$Pool", "cells", "[I", true)
  | 1 => ("QuotaDesk$Pool", "first", "I", false)
  | _ => ("QuotaDesk$Pool", "size", "I", false)
def tyX3 : Nat → FieldType := fun k => match k with
  | 0 => .array .int
  | 1 => .int
  | _ => .int
abbrev wsX30 : List Cond := u_ws RX3 TX3 3
theorem nmX3 : ∀ a, a < 3 → ∀ b, b < 3 → a ≠ b → (TX3 a).2.1 ≠ (TX3 b).2.1 := by decide +kernel
theorem tyX3_ok : ∀ k, k < 3 → parseFieldDescriptor (TX3 k).2.2.1 = some (tyX3 k) := by decide +kernel
abbrev cX3_init : ByteArray := prog_5_method_1_code
def yX3_init : MethodName := ⟨RX3, "<init>", "()V"⟩
abbrev cX3_begin : ByteArray := prog_5_method_2_code
def yX3_begin : MethodName := ⟨RX3, "begin", "()V"⟩
abbrev cX3_isFull : ByteArray := prog_5_method_3_code
def yX3_isFull : MethodName := ⟨RX3, "isFull", "()Z"⟩
abbrev cX3_start : ByteArray := prog_5_method_4_code
def yX3_start : MethodName := ⟨RX3, "start", "(I)I"⟩
abbrev cX3_cell : ByteArray := prog_5_method_5_code
def yX3_cell : MethodName := ⟨RX3, "cell", "(II)I"⟩
abbrev cX3_copyTo : ByteArray := prog_5_method_6_code
def yX3_copyTo : MethodName := ⟨RX3, "copyTo", "(I[I)V"⟩
abbrev cX3_put : ByteArray := prog_5_method_7_code
def yX3_put : MethodName := ⟨RX3, "put", "(IIIIII)V"⟩
abbrev cX3_remove : ByteArray := prog_5_method_8_code
def yX3_remove : MethodName := ⟨RX3, "remove", "(I)V"⟩
def RX4 : String := "QuotaDesk$Sharing"
def TX4 : u_T := fun k => match k with
  | 0 => ("QuotaDesk$Sharing", "wants", "[I", true)
  | 1 => ("QuotaDesk$Sharing", "uses", "[I", true)
  | 2 => ("QuotaDesk$Sharing", "gets", "[I", true)
  | 3 => ("QuotaDesk$Sharing", "remainders", "[J", true)
  | _ => ("QuotaDesk$Sharing", "left", "I", false)
def tyX4 : Nat → FieldType := fun k => match k with
  | 0 => .array .int
  | 1 => .array .int
  | 2 => .array .int
  | 3 => .array .long
  | _ => .int
abbrev wsX40 : List Cond := u_ws RX4 TX4 5
theorem nmX4 : ∀ a, a < 5 → ∀ b, b < 5 → a ≠ b → (TX4 a).2.1 ≠ (TX4 b).2.1 := by decide +kernel
theorem tyX4_ok : ∀ k, k < 5 → parseFieldDescriptor (TX4 k).2.2.1 = some (tyX4 k) := by decide +kernel
abbrev cX4_init : ByteArray := prog_6_method_1_code
def yX4_init : MethodName := ⟨RX4, "<init>", "()V"⟩
abbrev cX4_begin : ByteArray := prog_6_method_2_code
def yX4_begin : MethodName := ⟨RX4, "begin", "(I)V"⟩
abbrev cX4_enter : ByteArray := prog_6_method_3_code
def yX4_enter : MethodName := ⟨RX4, "enter", "(III)V"⟩
abbrev cX4_wantsMore : ByteArray := prog_6_method_4_code
def yX4_wantsMore : MethodName := ⟨RX4, "wantsMore", "(I)Z"⟩
abbrev cX4_wantingGates : ByteArray := prog_6_method_5_code
def yX4_wantingGates : MethodName := ⟨RX4, "wantingGates", "()I"⟩
abbrev cX4_give : ByteArray := prog_6_method_6_code
def yX4_give : MethodName := ⟨RX4, "give", "(II)V"⟩
abbrev cX4_giveEqually : ByteArray := prog_6_method_7_code
def yX4_giveEqually : MethodName := ⟨RX4, "giveEqually", "()V"⟩
abbrev cX4_leastWish : ByteArray := prog_6_method_8_code
def yX4_leastWish : MethodName := ⟨RX4, "leastWish", "()I"⟩
abbrev cX4_giveLayer : ByteArray := prog_6_method_9_code
def yX4_giveLayer : MethodName := ⟨RX4, "giveLayer", "(I)V"⟩
abbrev cX4_giveByUse : ByteArray := prog_6_method_10_code
def yX4_giveByUse : MethodName := ⟨RX4, "giveByUse", "()V"⟩
abbrev cX4_useOfWanting : ByteArray := prog_6_method_11_code
def yX4_useOfWanting : MethodName := ⟨RX4, "useOfWanting", "()J"⟩
abbrev cX4_giveParts : ByteArray := prog_6_method_12_code
def yX4_giveParts : MethodName := ⟨RX4, "giveParts", "(J)V"⟩
abbrev cX4_giveRemainders : ByteArray := prog_6_method_13_code
def yX4_giveRemainders : MethodName := ⟨RX4, "giveRemainders", "()V"⟩
abbrev cX4_greatestRemainder : ByteArray := prog_6_method_14_code
def yX4_greatestRemainder : MethodName := ⟨RX4, "greatestRemainder", "()I"⟩
def RX5 : String := "QuotaDesk$Way"
def TX5 : u_T := fun k => match k with
  | 0 => ("QuotaDesk$Way", "gate", "I", true)
  | 1 => ("QuotaDesk$Way", "sorts", "[I", true)
  | 2 => ("QuotaDesk$Way", "windows", "[I", true)
  | 3 => ("QuotaDesk$Way", "units", "[I", true)
  | 4 => ("QuotaDesk$Way", "told", "[I", true)
  | 5 => ("QuotaDesk$Way", "sent", "I", false)
  | 6 => ("QuotaDesk$Way", "received", "I", false)
  | _ => ("QuotaDesk$Way", "taken", "I", false)
def tyX5 : Nat → FieldType := fun k => match k with
  | 0 => .int
  | 1 => .array .int
  | 2 => .array .int
  | 3 => .array .int
  | 4 => .array .int
  | 5 => .int
  | 6 => .int
  | _ => .int
abbrev wsX50 : List Cond := u_ws RX5 TX5 8
theorem nmX5 : ∀ a, a < 8 → ∀ b, b < 8 → a ≠ b → (TX5 a).2.1 ≠ (TX5 b).2.1 := by decide +kernel
theorem tyX5_ok : ∀ k, k < 8 → parseFieldDescriptor (TX5 k).2.2.1 = some (tyX5 k) := by decide +kernel
abbrev cX5_init : ByteArray := prog_7_method_1_code
def yX5_init : MethodName := ⟨RX5, "<init>", "(I)V"⟩
abbrev cX5_begin : ByteArray := prog_7_method_2_code
def yX5_begin : MethodName := ⟨RX5, "begin", "()V"⟩
abbrev cX5_isShut : ByteArray := prog_7_method_3_code
def yX5_isShut : MethodName := ⟨RX5, "isShut", "()Z"⟩
abbrev cX5_send : ByteArray := prog_7_method_4_code
def yX5_send : MethodName := ⟨RX5, "send", "(LQuotaDesk$Pool;IIII)V"⟩
abbrev cX5_sendAnew : ByteArray := prog_7_method_5_code
def yX5_sendAnew : MethodName := ⟨RX5, "sendAnew", "(LQuotaDesk$Pool;)I"⟩
abbrev cX5_take : ByteArray := prog_7_method_6_code
def yX5_take : MethodName := ⟨RX5, "take", "(I)Z"⟩
abbrev cX5_sendReceipt : ByteArray := prog_7_method_7_code
def yX5_sendReceipt : MethodName := ⟨RX5, "sendReceipt", "(LQuotaDesk$Pool;I)V"⟩
abbrev cX5_markReceived : ByteArray := prog_7_method_8_code
def yX5_markReceived : MethodName := ⟨RX5, "markReceived", "(I)V"⟩
def RX6 : String := "QuotaDesk"
def TX6 : u_T := fun k => match k with
  | 0 => ("QuotaDesk", "gates", "[LQuotaDesk$Gate;", true)
  | 1 => ("QuotaDesk", "office", "LQuotaDesk$Office;", true)
  | 2 => ("QuotaDesk", "pool", "LQuotaDesk$Pool;", true)
  | 3 => ("QuotaDesk", "sharing", "LQuotaDesk$Sharing;", true)
  | 4 => ("QuotaDesk", "admissions", "LQuotaDesk$Admissions;", true)
  | 5 => ("QuotaDesk", "usedUnits", "[I", true)
  | 6 => ("QuotaDesk", "opened", "[I", true)
  | 7 => ("QuotaDesk", "gateCount", "I", false)
  | 8 => ("QuotaDesk", "width", "I", false)
  | 9 => ("QuotaDesk", "mostError", "I", false)
  | _ => ("QuotaDesk", "time", "J", false)
def tyX6 : Nat → FieldType := fun k => match k with
  | 0 => .array (.object "QuotaDesk$Gate")
  | 1 => .object "QuotaDesk$Office"
  | 2 => .object "QuotaDesk$Pool"
  | 3 => .object "QuotaDesk$Sharing"
  | 4 => .object "QuotaDesk$Admissions"
  | 5 => .array .int
  | 6 => .array .int
  | 7 => .int
  | 8 => .int
  | 9 => .int
  | _ => .long
abbrev wsX60 : List Cond := u_ws RX6 TX6 11
theorem nmX6 : ∀ a, a < 11 → ∀ b, b < 11 → a ≠ b → (TX6 a).2.1 ≠ (TX6 b).2.1 := by decide +kernel
theorem tyX6_ok : ∀ k, k < 11 → parseFieldDescriptor (TX6 k).2.2.1 = some (tyX6 k) := by decide +kernel
abbrev cX6_init : ByteArray := prog_1_method_1_code
def yX6_init : MethodName := ⟨RX6, "<init>", "()V"⟩
abbrev cX6_setup : ByteArray := prog_1_method_2_code
def yX6_setup : MethodName := ⟨RX6, "setup", "(IIII)V"⟩
abbrev cX6_begin : ByteArray := prog_1_method_3_code
def yX6_begin : MethodName := ⟨RX6, "begin", "(IIII)V"⟩
abbrev cX6_pass : ByteArray := prog_1_method_4_code
def yX6_pass : MethodName := ⟨RX6, "pass", "(I)V"⟩
abbrev cX6_error : ByteArray := prog_1_method_5_code
def yX6_error : MethodName := ⟨RX6, "error", "(II)V"⟩
abbrev cX6_rule : ByteArray := prog_1_method_6_code
def yX6_rule : MethodName := ⟨RX6, "rule", "(I)V"⟩
abbrev cX6_admit : ByteArray := prog_1_method_7_code
def yX6_admit : MethodName := ⟨RX6, "admit", "(II)I"⟩
abbrev cX6_plead : ByteArray := prog_1_method_8_code
def yX6_plead : MethodName := ⟨RX6, "plead", "(II)V"⟩
abbrev cX6_back : ByteArray := prog_1_method_9_code
def yX6_back : MethodName := ⟨RX6, "back", "(III)V"⟩
abbrev cX6_split : ByteArray := prog_1_method_10_code
def yX6_split : MethodName := ⟨RX6, "split", "()I"⟩
abbrev cX6_shareOut : ByteArray := prog_1_method_11_code
def yX6_shareOut : MethodName := ⟨RX6, "shareOut", "(I)I"⟩
abbrev cX6_grant : ByteArray := prog_1_method_12_code
def yX6_grant : MethodName := ⟨RX6, "grant", "(LQuotaDesk$Gate;II)I"⟩
abbrev cX6_deliver : ByteArray := prog_1_method_13_code
def yX6_deliver : MethodName := ⟨RX6, "deliver", "(I)I"⟩
abbrev cX6_deliverAll : ByteArray := prog_1_method_14_code
def yX6_deliverAll : MethodName := ⟨RX6, "deliverAll", "(I)I"⟩
abbrev cX6_bring : ByteArray := prog_1_method_15_code
def yX6_bring : MethodName := ⟨RX6, "bring", "(I)I"⟩
abbrev cX6_comeAsReceipt : ByteArray := prog_1_method_16_code
def yX6_comeAsReceipt : MethodName := ⟨RX6, "comeAsReceipt", "(ZLQuotaDesk$Way;)I"⟩
abbrev cX6_comeToGate : ByteArray := prog_1_method_17_code
def yX6_comeToGate : MethodName := ⟨RX6, "comeToGate", "(LQuotaDesk$Gate;)I"⟩
abbrev cX6_comeToDesk : ByteArray := prog_1_method_18_code
def yX6_comeToDesk : MethodName := ⟨RX6, "comeToDesk", "(LQuotaDesk$Gate;)I"⟩
abbrev cX6_hearPlea : ByteArray := prog_1_method_19_code
def yX6_hearPlea : MethodName := ⟨RX6, "hearPlea", "(LQuotaDesk$Gate;)V"⟩
abbrev cX6_lose : ByteArray := prog_1_method_20_code
def yX6_lose : MethodName := ⟨RX6, "lose", "(I)V"⟩
abbrev cX6_twice : ByteArray := prog_1_method_21_code
def yX6_twice : MethodName := ⟨RX6, "twice", "(I)V"⟩
abbrev cX6_resend : ByteArray := prog_1_method_22_code
def yX6_resend : MethodName := ⟨RX6, "resend", "(I)I"⟩
abbrev cX6_letter : ByteArray := prog_1_method_23_code
def yX6_letter : MethodName := ⟨RX6, "letter", "(II)I"⟩
abbrev cX6_crash : ByteArray := prog_1_method_24_code
def yX6_crash : MethodName := ⟨RX6, "crash", "(I)V"⟩
abbrev cX6_restart : ByteArray := prog_1_method_25_code
def yX6_restart : MethodName := ⟨RX6, "restart", "(I)Z"⟩
abbrev cX6_desk : ByteArray := prog_1_method_26_code
def yX6_desk : MethodName := ⟨RX6, "desk", "(Z)Z"⟩
abbrev cX6_about : ByteArray := prog_1_method_27_code
def yX6_about : MethodName := ⟨RX6, "about", "(II)J"⟩
abbrev cX6_has : ByteArray := prog_1_method_28_code
def yX6_has : MethodName := ⟨RX6, "has", "(III)I"⟩
abbrev cX6_there : ByteArray := prog_1_method_29_code
def yX6_there : MethodName := ⟨RX6, "there", "(I)I"⟩
abbrev cX6_used : ByteArray := prog_1_method_30_code
def yX6_used : MethodName := ⟨RX6, "used", "(I)I"⟩
abbrev cX6_busiest : ByteArray := prog_1_method_31_code
def yX6_busiest : MethodName := ⟨RX6, "busiest", "(I)I"⟩
abbrev cX6_count : ByteArray := prog_1_method_32_code
def yX6_count : MethodName := ⟨RX6, "count", "(I)I"⟩
abbrev cX6_gateAt : ByteArray := prog_1_method_33_code
def yX6_gateAt : MethodName := ⟨RX6, "gateAt", "(I)LQuotaDesk$Gate;"⟩
abbrev cX6_mustHaveLetter : ByteArray := prog_1_method_34_code
def yX6_mustHaveLetter : MethodName := ⟨RX6, "mustHaveLetter", "(I)V"⟩
abbrev cX6_mustBeUp : ByteArray := prog_1_method_35_code
def yX6_mustBeUp : MethodName := ⟨RX6, "mustBeUp", "(Z)V"⟩
abbrev cX6_mustBeOpen : ByteArray := prog_1_method_36_code
def yX6_mustBeOpen : MethodName := ⟨RX6, "mustBeOpen", "(LQuotaDesk$Way;)V"⟩
abbrev cX6_isCounted : ByteArray := prog_1_method_37_code
def yX6_isCounted : MethodName := ⟨RX6, "isCounted", "(I)Z"⟩
abbrev cX6_windowAt : ByteArray := prog_1_method_38_code
def yX6_windowAt : MethodName := ⟨RX6, "windowAt", "(JI)I"⟩
abbrev cX6_slotOf : ByteArray := prog_1_method_39_code
def yX6_slotOf : MethodName := ⟨RX6, "slotOf", "(II)I"⟩
def RX7 : String := "QuotaDeskModel"
def TX7 : u_T := fun k => match k with
  | 0 => ("QuotaDeskModel", "thrown", "I", false)
  | 1 => ("QuotaDeskModel", "budget", "I", false)
  | 2 => ("QuotaDeskModel", "length", "I", false)
  | 3 => ("QuotaDeskModel", "most", "I", false)
  | 4 => ("QuotaDeskModel", "gates", "I", false)
  | 5 => ("QuotaDeskModel", "time", "J", false)
  | 6 => ("QuotaDeskModel", "rule", "I", false)
  | 7 => ("QuotaDeskModel", "deskDown", "Z", false)
  | 8 => ("QuotaDeskModel", "deskWindow", "I", false)
  | 9 => ("QuotaDeskModel", "units", "[I", true)
  | 10 => ("QuotaDeskModel", "wants", "[I", true)
  | 11 => ("QuotaDeskModel", "told", "[I", true)
  | 12 => ("QuotaDeskModel", "errors", "[I", true)
  | 13 => ("QuotaDeskModel", "clocks", "[J", true)
  | 14 => ("QuotaDeskModel", "windows", "[I", true)
  | 15 => ("QuotaDeskModel", "down", "[Z", true)
  | 16 => ("QuotaDeskModel", "shares", "[I", true)
  | 17 => ("QuotaDeskModel", "spent", "[I", true)
  | 18 => ("QuotaDeskModel", "stored", "[I", true)
  | 19 => ("QuotaDeskModel", "kept", "[I", true)
  | 20 => ("QuotaDeskModel", "keptCount", "[I", true)
  | 21 => ("QuotaDeskModel", "numbers", "[I", true)
  | 22 => ("QuotaDeskModel", "taken", "[I", true)
  | 23 => ("QuotaDeskModel", "pool", "[I", true)
  | 24 => ("QuotaDeskModel", "poolSize", "I", false)
  | 25 => ("QuotaDeskModel", "used", "[I", true)
  | 26 => ("QuotaDeskModel", "times", "[J", true)
  | 27 => ("QuotaDeskModel", "timeCount", "I", false)
  | 28 => ("QuotaDeskModel", "due", "[I", true)
  | 29 => ("QuotaDeskModel", "gets", "[I", true)
  | 30 => ("QuotaDeskModel", "rests", "[J", true)
  | _ => ("QuotaDeskModel", "served", "[Z", true)
def tyX7 : Nat → FieldType := fun k => match k with
  | 0 => .int
  | 1 => .int
  | 2 => .int
  | 3 => .int
  | 4 => .int
  | 5 => .long
  | 6 => .int
  | 7 => .boolean
  | 8 => .int
  | 9 => .array .int
  | 10 => .array .int
  | 11 => .array .int
  | 12 => .array .int
  | 13 => .array .long
  | 14 => .array .int
  | 15 => .array .boolean
  | 16 => .array .int
  | 17 => .array .int
  | 18 => .array .int
  | 19 => .array .int
  | 20 => .array .int
  | 21 => .array .int
  | 22 => .array .int
  | 23 => .array .int
  | 24 => .int
  | 25 => .array .int
  | 26 => .array .long
  | 27 => .int
  | 28 => .array .int
  | 29 => .array .int
  | 30 => .array .long
  | _ => .array .boolean
abbrev wsX70 : List Cond := u_ws RX7 TX7 32
theorem nmX7 : ∀ a, a < 32 → ∀ b, b < 32 → a ≠ b → (TX7 a).2.1 ≠ (TX7 b).2.1 := by decide +kernel
theorem tyX7_ok : ∀ k, k < 32 → parseFieldDescriptor (TX7 k).2.2.1 = some (tyX7 k) := by decide +kernel
abbrev cX7_init : ByteArray := prog_9_method_1_code
def yX7_init : MethodName := ⟨RX7, "<init>", "()V"⟩
abbrev cX7_thrown : ByteArray := prog_9_method_2_code
def yX7_thrown : MethodName := ⟨RX7, "thrown", "()I"⟩
abbrev cX7_begin : ByteArray := prog_9_method_3_code
def yX7_begin : MethodName := ⟨RX7, "begin", "(IIII)V"⟩
abbrev cX7_setup : ByteArray := prog_9_method_4_code
def yX7_setup : MethodName := ⟨RX7, "setup", "(IIII)V"⟩
abbrev cX7_move : ByteArray := prog_9_method_5_code
def yX7_move : MethodName := ⟨RX7, "move", "([IIJI)V"⟩
abbrev cX7_tick : ByteArray := prog_9_method_6_code
def yX7_tick : MethodName := ⟨RX7, "tick", "(I)V"⟩
abbrev cX7_pass : ByteArray := prog_9_method_7_code
def yX7_pass : MethodName := ⟨RX7, "pass", "(I)V"⟩
abbrev cX7_isGate : ByteArray := prog_9_method_8_code
def yX7_isGate : MethodName := ⟨RX7, "isGate", "(I)Z"⟩
abbrev cX7_error : ByteArray := prog_9_method_9_code
def yX7_error : MethodName := ⟨RX7, "error", "(II)V"⟩
abbrev cX7_rule : ByteArray := prog_9_method_10_code
def yX7_rule : MethodName := ⟨RX7, "rule", "(I)V"⟩
abbrev cX7_which : ByteArray := prog_9_method_11_code
def yX7_which : MethodName := ⟨RX7, "which", "(II)I"⟩
abbrev cX7_admit : ByteArray := prog_9_method_12_code
def yX7_admit : MethodName := ⟨RX7, "admit", "(II)I"⟩
abbrev cX7_remember : ByteArray := prog_9_method_13_code
def yX7_remember : MethodName := ⟨RX7, "remember", "()V"⟩
abbrev cX7_busiest : ByteArray := prog_9_method_14_code
def yX7_busiest : MethodName := ⟨RX7, "busiest", "(I)I"⟩
abbrev cX7_put : ByteArray := prog_9_method_15_code
def yX7_put : MethodName := ⟨RX7, "put", "(IIIIII)V"⟩
abbrev cX7_canSend : ByteArray := prog_9_method_16_code
def yX7_canSend : MethodName := ⟨RX7, "canSend", "(I)Z"⟩
abbrev cX7_send : ByteArray := prog_9_method_17_code
def yX7_send : MethodName := ⟨RX7, "send", "(IIIIII)V"⟩
abbrev cX7_received : ByteArray := prog_9_method_18_code
def yX7_received : MethodName := ⟨RX7, "received", "(II)V"⟩
abbrev cX7_plead : ByteArray := prog_9_method_19_code
def yX7_plead : MethodName := ⟨RX7, "plead", "(II)V"⟩
abbrev cX7_back : ByteArray := prog_9_method_20_code
def yX7_back : MethodName := ⟨RX7, "back", "(III)V"⟩
abbrev cX7_isLetter : ByteArray := prog_9_method_21_code
def yX7_isLetter : MethodName := ⟨RX7, "isLetter", "(I)Z"⟩
abbrev cX7_remove : ByteArray := prog_9_method_22_code
def yX7_remove : MethodName := ⟨RX7, "remove", "(I)V"⟩
abbrev cX7_come : ByteArray := prog_9_method_23_code
def yX7_come : MethodName := ⟨RX7, "come", "(I)I"⟩
abbrev cX7_plea : ByteArray := prog_9_method_24_code
def yX7_plea : MethodName := ⟨RX7, "plea", "(IIII)V"⟩
abbrev cX7_wantsMore : ByteArray := prog_9_method_25_code
def yX7_wantsMore : MethodName := ⟨RX7, "wantsMore", "(I)Z"⟩
abbrev cX7_equal : ByteArray := prog_9_method_26_code
def yX7_equal : MethodName := ⟨RX7, "equal", "(I)I"⟩
abbrev cX7_byUse : ByteArray := prog_9_method_27_code
def yX7_byUse : MethodName := ⟨RX7, "byUse", "(II)I"⟩
abbrev cX7_split : ByteArray := prog_9_method_28_code
def yX7_split : MethodName := ⟨RX7, "split", "()I"⟩
abbrev cX7_deliver : ByteArray := prog_9_method_29_code
def yX7_deliver : MethodName := ⟨RX7, "deliver", "(I)I"⟩
abbrev cX7_deliverAll : ByteArray := prog_9_method_30_code
def yX7_deliverAll : MethodName := ⟨RX7, "deliverAll", "(I)I"⟩
abbrev cX7_lose : ByteArray := prog_9_method_31_code
def yX7_lose : MethodName := ⟨RX7, "lose", "(I)V"⟩
abbrev cX7_twice : ByteArray := prog_9_method_32_code
def yX7_twice : MethodName := ⟨RX7, "twice", "(I)V"⟩
abbrev cX7_resend : ByteArray := prog_9_method_33_code
def yX7_resend : MethodName := ⟨RX7, "resend", "(I)I"⟩
abbrev cX7_letter : ByteArray := prog_9_method_34_code
def yX7_letter : MethodName := ⟨RX7, "letter", "(II)I"⟩
abbrev cX7_crash : ByteArray := prog_9_method_35_code
def yX7_crash : MethodName := ⟨RX7, "crash", "(I)V"⟩
abbrev cX7_restart : ByteArray := prog_9_method_36_code
def yX7_restart : MethodName := ⟨RX7, "restart", "(I)Z"⟩
abbrev cX7_desk : ByteArray := prog_9_method_37_code
def yX7_desk : MethodName := ⟨RX7, "desk", "(Z)Z"⟩
abbrev cX7_about : ByteArray := prog_9_method_38_code
def yX7_about : MethodName := ⟨RX7, "about", "(II)J"⟩
abbrev cX7_has : ByteArray := prog_9_method_39_code
def yX7_has : MethodName := ⟨RX7, "has", "(III)I"⟩
abbrev cX7_there : ByteArray := prog_9_method_40_code
def yX7_there : MethodName := ⟨RX7, "there", "(I)I"⟩
abbrev cX7_used : ByteArray := prog_9_method_41_code
def yX7_used : MethodName := ⟨RX7, "used", "(I)I"⟩
abbrev cX7_count : ByteArray := prog_9_method_42_code
def yX7_count : MethodName := ⟨RX7, "count", "(I)I"⟩
def RJ9 : String := "java/lang/Math"
def TJ9 : u_T := fun k => match k with
  | _ => ("", "", "", false)
def tyJ9 : Nat → FieldType := fun k => match k with
  | _ => .int
abbrev wsJ90 : List Cond := u_ws RJ9 TJ9 0
theorem nmJ9 : ∀ a, a < 0 → ∀ b, b < 0 → a ≠ b → (TJ9 a).2.1 ≠ (TJ9 b).2.1 := by decide +kernel
theorem tyJ9_ok : ∀ k, k < 0 → parseFieldDescriptor (TJ9 k).2.2.1 = some (tyJ9 k) := by decide +kernel
abbrev cJ9_floorMod_7cf53 : ByteArray := prog_14_method_50_code
def yJ9_floorMod_7cf53 : MethodName := ⟨RJ9, "floorMod", "(II)I"⟩
abbrev cJ9_max_7cf53 : ByteArray := prog_14_method_65_code
def yJ9_max_7cf53 : MethodName := ⟨RJ9, "max", "(II)I"⟩
abbrev cJ9_max_f86c9 : ByteArray := prog_14_method_66_code
def yJ9_max_f86c9 : MethodName := ⟨RJ9, "max", "(JJ)J"⟩
abbrev cJ9_min_7cf53 : ByteArray := prog_14_method_69_code
def yJ9_min_7cf53 : MethodName := ⟨RJ9, "min", "(II)I"⟩
abbrev cJ9_min_f86c9 : ByteArray := prog_14_method_70_code
def yJ9_min_f86c9 : MethodName := ⟨RJ9, "min", "(JJ)J"⟩
def RJ10 : String := "java/lang/System"
def TJ10 : u_T := fun k => match k with
  | _ => ("", "", "", false)
def tyJ10 : Nat → FieldType := fun k => match k with
  | _ => .int
abbrev wsJ100 : List Cond := u_ws RJ10 TJ10 0
theorem nmJ10 : ∀ a, a < 0 → ∀ b, b < 0 → a ≠ b → (TJ10 a).2.1 ≠ (TJ10 b).2.1 := by decide +kernel
theorem tyJ10_ok : ∀ k, k < 0 → parseFieldDescriptor (TJ10 k).2.2.1 = some (tyJ10 k) := by decide +kernel
def RJ7 : String := "java/util/Arrays"
def TJ7 : u_T := fun k => match k with
  | _ => ("", "", "", false)
def tyJ7 : Nat → FieldType := fun k => match k with
  | _ => .int
abbrev wsJ70 : List Cond := u_ws RJ7 TJ7 0
theorem nmJ7 : ∀ a, a < 0 → ∀ b, b < 0 → a ≠ b → (TJ7 a).2.1 ≠ (TJ7 b).2.1 := by decide +kernel
theorem tyJ7_ok : ∀ k, k < 0 → parseFieldDescriptor (TJ7 k).2.2.1 = some (tyJ7 k) := by decide +kernel
abbrev cJ7_fill_53178 : ByteArray := prog_19_method_103_code
def yJ7_fill_53178 : MethodName := ⟨RJ7, "fill", "([II)V"⟩
def RL : String := "QuotaDeskLaw"
abbrev cL_setup : ByteArray := method_3_code
def yL_setup : MethodName := ⟨RL, "setup", "(LQuotaDesk;IIII)I"⟩
abbrev cL_pass : ByteArray := method_4_code
def yL_pass : MethodName := ⟨RL, "pass", "(LQuotaDesk;I)I"⟩
abbrev cL_error : ByteArray := method_5_code
def yL_error : MethodName := ⟨RL, "error", "(LQuotaDesk;II)I"⟩
abbrev cL_rule : ByteArray := method_6_code
def yL_rule : MethodName := ⟨RL, "rule", "(LQuotaDesk;I)I"⟩
abbrev cL_admit : ByteArray := method_7_code
def yL_admit : MethodName := ⟨RL, "admit", "(LQuotaDesk;II[J)I"⟩
abbrev cL_plead : ByteArray := method_8_code
def yL_plead : MethodName := ⟨RL, "plead", "(LQuotaDesk;II)I"⟩
abbrev cL_back : ByteArray := method_9_code
def yL_back : MethodName := ⟨RL, "back", "(LQuotaDesk;III)I"⟩
abbrev cL_split : ByteArray := method_10_code
def yL_split : MethodName := ⟨RL, "split", "(LQuotaDesk;[J)I"⟩
abbrev cL_deliver : ByteArray := method_11_code
def yL_deliver : MethodName := ⟨RL, "deliver", "(LQuotaDesk;I[J)I"⟩
abbrev cL_deliverAll : ByteArray := method_12_code
def yL_deliverAll : MethodName := ⟨RL, "deliverAll", "(LQuotaDesk;I[J)I"⟩
abbrev cL_lose : ByteArray := method_13_code
def yL_lose : MethodName := ⟨RL, "lose", "(LQuotaDesk;I)I"⟩
abbrev cL_twice : ByteArray := method_14_code
def yL_twice : MethodName := ⟨RL, "twice", "(LQuotaDesk;I)I"⟩
abbrev cL_resend : ByteArray := method_15_code
def yL_resend : MethodName := ⟨RL, "resend", "(LQuotaDesk;I[J)I"⟩
abbrev cL_letter : ByteArray := method_16_code
def yL_letter : MethodName := ⟨RL, "letter", "(LQuotaDesk;II[J)I"⟩
abbrev cL_crash : ByteArray := method_17_code
def yL_crash : MethodName := ⟨RL, "crash", "(LQuotaDesk;I)I"⟩
abbrev cL_restart : ByteArray := method_18_code
def yL_restart : MethodName := ⟨RL, "restart", "(LQuotaDesk;I[J)I"⟩
abbrev cL_about : ByteArray := method_19_code
def yL_about : MethodName := ⟨RL, "about", "(LQuotaDesk;II[J)I"⟩
abbrev cL_has : ByteArray := method_20_code
def yL_has : MethodName := ⟨RL, "has", "(LQuotaDesk;III[J)I"⟩
abbrev cL_busiest : ByteArray := method_21_code
def yL_busiest : MethodName := ⟨RL, "busiest", "(LQuotaDesk;I[J)I"⟩
abbrev cL_count : ByteArray := method_22_code
def yL_count : MethodName := ⟨RL, "count", "(LQuotaDesk;I[J)I"⟩
abbrev cL_law : ByteArray := code
def yL_law : MethodName := ⟨RL, "law", "([I)Z"⟩
abbrev vwCl : List vw_C := [(RX0, TX0, 5), (RX1, TX1, 9), (RX2, TX2, 7), (RX3, TX3, 3), (RX4, TX4, 5), (RX5, TX5, 8), (RX6, TX6, 11), (RX7, TX7, 32)]
end
section
/-! my own layer: the objects that the law makes lie side by side from b on, in the order in which they are made; the state is (I, J): what the int and long places of each hold -/
abbrev T2 : Type := Nat → Nat → Int32
abbrev T3 : Type := Nat → Nat → Int64
def up2 (f : T2) (o k : Nat) (v : Int32) : T2 := fun a => if a = o then upd (f a) k v else f a
def up3 (f : T3) (o k : Nat) (v : Int64) : T3 := fun a => if a = o then vp_updL (f a) k v else f a
theorem up2_at (f : T2) (o k : Nat) (v : Int32) : up2 f o k v o = upd (f o) k v := if_pos rfl
theorem up3_at (f : T3) (o k : Nat) (v : Int64) : up3 f o k v o = vp_updL (f o) k v := if_pos rfl
theorem up2_ne (f : T2) {o a : Nat} (k : Nat) (v : Int32) (h : a ≠ o) : up2 f o k v a = f a := if_neg h
theorem up3_ne (f : T3) {o a : Nat} (k : Nat) (v : Int64) (h : a ≠ o) : up3 f o k v a = f a := if_neg h
/-- a whole row anew -/
def upr (f : T2) (o : Nat) (r : Nat → Int32) : T2 := fun a => if a = o then r else f a
theorem upr_at (f : T2) (o : Nat) (r : Nat → Int32) : upr f o r o = r := if_pos rfl
theorem upr_ne (f : T2) {o a : Nat} (r : Nat → Int32) (h : a ≠ o) : upr f o r a = f a := if_neg h
def kdG : List Nat := [1, 8, 8, 8, 5, 8, 8, 8, 8, 5, 8, 8, 8, 8]
def lnG : List Nat := [0, 3, 3, 3, 0, 50, 50, 50, 50, 0, 50, 50, 50, 50]
def kdL : List Nat := [6, 11, 2, 8, 12, 8, 8, 8, 12, 8, 8, 8, 3, 8, 4, 8, 8, 8, 9, 0, 9, 8, 8, 8] ++ (kdG ++ kdG ++ kdG ++ kdG ++ kdG ++ kdG ++ kdG ++ kdG) ++ [7, 8, 8, 8, 8, 9, 8, 10, 8, 8, 8, 8, 8, 8, 8, 8, 8, 9, 8, 8, 9, 10, 9]
def lnL : List Nat := [0, 8, 0, 3, 3, 8, 8, 8, 3, 8, 8, 8, 0, 1200, 0, 8, 8, 8, 8, 0, 512, 512, 200, 6] ++ (lnG ++ lnG ++ lnG ++ lnG ++ lnG ++ lnG ++ lnG ++ lnG) ++ [0, 3, 24, 24, 8, 8, 8, 8, 24, 24, 24, 4800, 16, 16, 16, 1200, 200, 2000, 8, 8, 8, 8, 1]
/-- the kind of the thing at place o: a class's number, or 8 int[], 9 long[], 10 boolean[], 11 Gate[], 12 int[][] -/
def kd (o : Nat) : Nat := kdL.getD o 99
def ln (o : Nat) : Nat := lnL.getD o 0
theorem kd_lt {o k : Nat} (h : kd o = k) (hk : k < 99) : o < 159 := by
  refine Nat.lt_of_not_le fun hn => ?_
  have h1 : kdL.length = 159 := by decide +kernel
  have h2 : kdL[o]? = none := List.getElem?_eq_none (by omega)
  unfold kd at h
  rw [List.getD_eq_getElem?_getD, h2] at h
  simp at h
  omega
/-- an object's fields; a reference is the place of the thing that it names -/
def fls (k o : Nat) (r : Nat → Int32) (y : Nat → Int64) : List Value := match k with
  | 0 => [.ref (o + 1), .ref (o + 2), .int (r 2), .int (r 3), .int (r 4)]
  | 1 => [.ref (o + 4), .ref (o + 9), .ref (o + 1), .ref (o + 2), .ref (o + 3), .int (r 5), .long (y 6), .int (r 7), .int (r 8)]
  | 2 => [.ref (o + 1), .ref (o + 2), .ref (o + 6), .int (r 3), .int (r 4), .int (r 5), .int (r 6)]
  | 3 => [.ref (o + 1), .int (r 1), .int (r 2)]
  | 4 => [.ref (o + 1), .ref (o + 2), .ref (o + 3), .ref (o + 4), .int (r 4)]
  | 5 => [.int (r 0), .ref (o + 1), .ref (o + 2), .ref (o + 3), .ref (o + 4), .int (r 5), .int (r 6), .int (r 7)]
  | 6 => [.ref (o + 1), .ref (o + 2), .ref (o + 12), .ref (o + 14), .ref (o + 19), .ref (o + 22), .ref (o + 23), .int (r 7), .int (r 8), .int (r 9), .long (y 10)]
  | 7 => [.int (r 0), .int (r 1), .int (r 2), .int (r 3), .int (r 4), .long (y 5), .int (r 6), .int (r 7), .int (r 8), .ref (o + 1), .ref (o + 2), .ref (o + 3), .ref (o + 4), .ref (o + 5), .ref (o + 6), .ref (o + 7), .ref (o + 8), .ref (o + 9), .ref (o + 10), .ref (o + 11), .ref (o + 12), .ref (o + 13), .ref (o + 14), .ref (o + 15), .int (r 24), .ref (o + 16), .ref (o + 17), .int (r 27), .ref (o + 18), .ref (o + 19), .ref (o + 20), .ref (o + 21)]
  | _ => []
/-- a value as the machine has it: places count from b on; a mark stands for the script's array at bs -/
def tr (b bs : Nat) (v : Value) : Value := match v with
  | .ref o => .ref (b + o)
  | .retAddr _ => .ref bs
  | .int x => .int x
  | .long x => .long x
  | .float x => .float x
  | .double x => .double x
  | .null => .null
theorem tr_cat (b bs : Nat) (v : Value) : (tr b bs v).category = v.category := by cases v <;> rfl
def en (b : Nat) (cy : Nat → ClassId) (o : Nat) (r : Nat → Int32) (y : Nat → Int64) : va_E := match kd o with
  | 8 => .inl (cy 0, ln o, .inl r)
  | 9 => .inl (cy 1, ln o, .inr (.inl y))
  | 10 => .inl (cy 2, ln o, .inl r)
  | 11 => .inl (cy 3, ln o, .inr (.inr (.inr (.inr (fun k => some (b + (24 + 14 * k)))))))
  | 12 => .inl (cy 4, ln o, .inr (.inr (.inr (.inr (fun k => some (b + (o + 1 + k)))))))
  | k => .inr (k, (fls k o r y).map (tr b 0))
def En (b : Nat) (cy : Nat → ClassId) (I : T2) (J : T3) (o : Nat) : va_E := en b cy o (I o) (J o)
/-- n things side by side from b on -/
def wl (b n : Nat) (E : Nat → va_E) : va_W := (List.range n).map (fun o => (b + o, E o))
theorem wl_get {b n o : Nat} {E : Nat → va_E} (h : o < n) : (wl b n E)[o]? = some (b + o, E o) := by simp [wl, h]
theorem wl_len (b n : Nat) (E : Nat → va_E) : (wl b n E).length = n := by simp [wl]
theorem wl_set {b n o : Nat} {E : Nat → va_E} {e : va_E} : (wl b n E).set o (b + o, e) = wl b n (va_up E o e) := by
  apply List.ext_getElem?
  intro i
  by_cases hi : i < n
  · by_cases ho : o = i
    · subst ho
      rw [List.getElem?_set_self (by rw [wl_len]; exact hi), wl_get hi, va_up_self]
    · rw [List.getElem?_set_ne ho, wl_get hi, wl_get hi, va_up_ne _ _ (fun q => ho q.symm)]
  · rw [List.getElem?_eq_none (by rw [List.length_set, wl_len]; omega), List.getElem?_eq_none (by rw [wl_len]; omega)]
theorem wl_D (b n : Nat) (E : Nat → va_E) : va_D (fun q => b ≤ q) (wl b n E) := by
  have key : ∀ (k : Nat) (q : Nat × va_E), (wl b n E)[k]? = some q → q.1 = b + k := by
    intro k q h
    have hk : k < n := by have := (List.getElem?_eq_some_iff.mp h).1; rw [wl_len] at this; exact this
    rw [wl_get hk] at h
    cases h; rfl
  refine ⟨fun i j p q h1 h2 h3 => ?_, fun k q h => ?_⟩
  · have e1 := key i p h1
    have e2 := key j q h2
    omega
  · have e1 := key k q h
    show b ≤ q.1
    omega
theorem wl_congr {b n : Nat} {E E' : Nat → va_E} (h : ∀ o, o < n → E o = E' o) : wl b n E = wl b n E' := by
  unfold wl
  exact List.map_congr_left fun o ho => by rw [h o (List.mem_range.mp ho)]
theorem En_up2 {b : Nat} {cy : Nat → ClassId} {I : T2} {J : T3} {o j : Nat} {v : Int32} (a : Nat) : va_up (En b cy I J) o (en b cy o (upd (I o) j v) (J o)) a = En b cy (up2 I o j v) J a := by
  by_cases h : a = o
  · subst h
    rw [va_up_self]; unfold En; rw [up2_at]
  · rw [va_up_ne _ _ h]; unfold En; rw [up2_ne _ _ _ h]
theorem En_upr {b : Nat} {cy : Nat → ClassId} {I : T2} {J : T3} {o : Nat} {r : Nat → Int32} (a : Nat) : va_up (En b cy I J) o (en b cy o r (J o)) a = En b cy (upr I o r) J a := by
  by_cases h : a = o
  · subst h
    rw [va_up_self]; unfold En; rw [upr_at]
  · rw [va_up_ne _ _ h]; unfold En; rw [upr_ne _ _ h]
theorem En_up3 {b : Nat} {cy : Nat → ClassId} {I : T2} {J : T3} {o j : Nat} {v : Int64} (a : Nat) : va_up (En b cy I J) o (en b cy o (I o) (vp_updL (J o) j v)) a = En b cy I (up3 J o j v) a := by
  by_cases h : a = o
  · subst h
    rw [va_up_self]; unfold En; rw [up3_at]
  · rw [va_up_ne _ _ h]; unfold En; rw [up3_ne _ _ _ h]
/-- the array classes' numbers -/
def tyl (cy : Nat → ClassId) : List (ClassId × FieldType) := [(cy 0, .int), (cy 1, .long), (cy 2, .boolean), (cy 3, .object "QuotaDesk$Gate"), (cy 4, .array .int)]
/-- the words that every method needs: all good ones of the tables; and those of nest mates -/
def wAll : List Cond := lw_tbl.filter goodWord
def isNest (w : Cond) : Bool := match w with
  | .fieldLinkNest _ _ _ _ _ _ => true
  | .methodLinkNest _ _ _ _ => true
  | .declares _ => true
  | .castable _ _ => true
  | _ => false
def nwL : List Cond := lw_tbl.filter isNest
theorem wAll_good {w : Cond} (h : w ∈ wAll) : goodWord w = true := (List.mem_filter.mp h).2
/-- the exceptions, none of which is another -/
def exL : List String := ["java/lang/IndexOutOfBoundsException", "java/lang/IllegalArgumentException", "java/lang/IllegalStateException", "java/lang/UnsupportedOperationException"]
/-- what stands through a whole method: classes, array classes, nest mates' links, Throwable's two statics -/
def KS (D : va_G) (cy : Nat → ClassId) (b : Nat) (s : State) (H : Heap) : Prop :=
  va_K D vwCl (tyl cy) s ∧ (∀ w ∈ nwL, va_Nw w s) ∧ vx_Zq Bundle.tN "UNASSIGNED_STACK" Bundle.steD (fun q => b ≤ q) s H ∧ vx_Zq Bundle.tN "SUPPRESSED_SENTINEL" Bundle.listD (fun q => b ≤ q) s H ∧ ∀ x ∈ exL, ∀ y ∈ exL, x ≠ y → va_Nc x y s
/-- the heap holds the state (I, J); nothing below b has changed since H0 -/
def Rp (D : va_G) (cy : Nat → ClassId) (b : Nat) (I : T2) (J : T3) (H0 H : Heap) (locs : List Loc) : Prop :=
  va_P D vwCl (wl b 159 (En b cy I J)) H ∧ va_S (fun q => b ≤ q) H0 H locs
/-- the locals -/
def lvh (arr : Array Slot) (nL b bs : Nat) (ls : List (Option Value)) : Prop := arr.size = nL ∧ lv_wf arr ∧ ∀ (i : Nat) (v : Value), ls[i]? = some (some v) → arr[i]? = some (.val (tr b bs v))
end
section
def cC (k : Nat) : String := match k with
  | 0 => RX0
  | 1 => RX1
  | 2 => RX2
  | 3 => RX3
  | 4 => RX4
  | 5 => RX5
  | 6 => RX6
  | 7 => RX7
  | 8 => RL
  | 9 => RJ7
  | 10 => RJ9
  | _ => ""
def cT (k : Nat) : u_T := match k with
  | 0 => TX0
  | 1 => TX1
  | 2 => TX2
  | 3 => TX3
  | 4 => TX4
  | 5 => TX5
  | 6 => TX6
  | 7 => TX7
  | _ => TX0
def cTy (k : Nat) : Nat → FieldType := match k with
  | 0 => tyX0
  | 1 => tyX1
  | 2 => tyX2
  | 3 => tyX3
  | 4 => tyX4
  | 5 => tyX5
  | 6 => tyX6
  | 7 => tyX7
  | _ => tyX0
def cN (k : Nat) : Nat := match k with
  | 0 => 5
  | 1 => 9
  | 2 => 7
  | 3 => 3
  | 4 => 5
  | 5 => 8
  | 6 => 11
  | 7 => 32
  | _ => 0
theorem cl_at {k : Nat} (h : k < 8) : vwCl[k]? = some (cC k, cT k, cN k) := by
  rcases (show k = 0 ∨ k = 1 ∨ k = 2 ∨ k = 3 ∨ k = 4 ∨ k = 5 ∨ k = 6 ∨ k = 7 by omega) with rfl | rfl | rfl | rfl | rfl | rfl | rfl | rfl <;> rfl
theorem cTy_ok {k : Nat} (h : k < 8) : ∀ j, j < cN k → parseFieldDescriptor (cT k j).2.2.1 = some (cTy k j) := by
  rcases (show k = 0 ∨ k = 1 ∨ k = 2 ∨ k = 3 ∨ k = 4 ∨ k = 5 ∨ k = 6 ∨ k = 7 by omega) with rfl | rfl | rfl | rfl | rfl | rfl | rfl | rfl
  · exact tyX0_ok
  · exact tyX1_ok
  · exact tyX2_ok
  · exact tyX3_ok
  · exact tyX4_ok
  · exact tyX5_ok
  · exact tyX6_ok
  · exact tyX7_ok
theorem cT_nm {k : Nat} (h : k < 8) : ∀ a, a < cN k → ∀ b, b < cN k → a ≠ b → (cT k a).2.1 ≠ (cT k b).2.1 := by
  rcases (show k = 0 ∨ k = 1 ∨ k = 2 ∨ k = 3 ∨ k = 4 ∨ k = 5 ∨ k = 6 ∨ k = 7 by omega) with rfl | rfl | rfl | rfl | rfl | rfl | rfl | rfl
  · exact nmX0
  · exact nmX1
  · exact nmX2
  · exact nmX3
  · exact nmX4
  · exact nmX5
  · exact nmX6
  · exact nmX7
theorem inX0 : ∀ w ∈ u_ws RX0 TX0 5, w ∈ wAll := by decide +kernel
theorem inX1 : ∀ w ∈ u_ws RX1 TX1 9, w ∈ wAll := by decide +kernel
theorem inX2 : ∀ w ∈ u_ws RX2 TX2 7, w ∈ wAll := by decide +kernel
theorem inX3 : ∀ w ∈ u_ws RX3 TX3 3, w ∈ wAll := by decide +kernel
theorem inX4 : ∀ w ∈ u_ws RX4 TX4 5, w ∈ wAll := by decide +kernel
theorem inX5 : ∀ w ∈ u_ws RX5 TX5 8, w ∈ wAll := by decide +kernel
theorem inX6 : ∀ w ∈ u_ws RX6 TX6 11, w ∈ wAll := by decide +kernel
theorem inX7 : ∀ w ∈ u_ws RX7 TX7 32, w ∈ wAll := by decide +kernel
theorem cT_in {k : Nat} (h : k < 8) : ∀ w ∈ u_ws (cC k) (cT k) (cN k), w ∈ wAll := by
  rcases (show k = 0 ∨ k = 1 ∨ k = 2 ∨ k = 3 ∨ k = 4 ∨ k = 5 ∨ k = 6 ∨ k = 7 by omega) with rfl | rfl | rfl | rfl | rfl | rfl | rfl | rfl
  · exact inX0
  · exact inX1
  · exact inX2
  · exact inX3
  · exact inX4
  · exact inX5
  · exact inX6
  · exact inX7
/-- the links of fields: (the class whose constant pool it is, the entry, the class, the field) -/
def lfA : List (Nat × Nat × Nat × Nat) := [(2, 9, 2, 0), (2, 17, 2, 1), (2, 20, 2, 2), (2, 23, 2, 3), (2, 27, 2, 4), (2, 30, 2, 5), (2, 33, 2, 6), (3, 11, 3, 0), (3, 15, 3, 1), (3, 19, 3, 2), (4, 9, 4, 0), (4, 15, 4, 1), (4, 18, 4, 2), (4, 21, 4, 3), (4, 25, 4, 4), (0, 9, 0, 0), (0, 13, 0, 1), (0, 17, 0, 2), (0, 21, 0, 3), (0, 24, 0, 4), (5, 22, 5, 0), (5, 9, 5, 1), (5, 13, 5, 2), (5, 16, 5, 3), (5, 19, 5, 4), (5, 26, 5, 5), (5, 29, 5, 6), (5, 32, 5, 7), (1, 26, 1, 0), (1, 30, 1, 1), (1, 9, 1, 2), (1, 15, 1, 3), (1, 18, 1, 4), (1, 42, 1, 5), (1, 46, 1, 6), (1, 50, 1, 7), (1, 53, 1, 8), (6, 11, 6, 0), (6, 18, 6, 1), (6, 25, 6, 2), (6, 32, 6, 3), (6, 39, 6, 4), (6, 43, 6, 5), (6, 47, 6, 6), (6, 63, 6, 7), (6, 67, 6, 8), (6, 70, 6, 9), (6, 73, 6, 10), (7, 79, 7, 0), (7, 83, 7, 1), (7, 86, 7, 2), (7, 89, 7, 3), (7, 92, 7, 4), (7, 95, 7, 5), (7, 99, 7, 6), (7, 102, 7, 7), (7, 106, 7, 8), (7, 7, 7, 9), (7, 13, 7, 10), (7, 16, 7, 11), (7, 19, 7, 12), (7, 22, 7, 13), (7, 26, 7, 14), (7, 29, 7, 15), (7, 33, 7, 16), (7, 36, 7, 17), (7, 39, 7, 18), (7, 42, 7, 19), (7, 45, 7, 20), (7, 48, 7, 21), (7, 51, 7, 22), (7, 54, 7, 23), (7, 109, 7, 24), (7, 57, 7, 25), (7, 60, 7, 26), (7, 112, 7, 27), (7, 63, 7, 28), (7, 66, 7, 29), (7, 69, 7, 30), (7, 72, 7, 31)]
def lfB : List (Nat × Nat × Nat × Nat) := [(6, 170, 2, 0), (6, 181, 2, 1), (6, 185, 2, 2), (6, 159, 2, 4), (6, 109, 2, 5), (6, 158, 2, 6), (6, 214, 3, 2), (6, 198, 4, 2), (6, 134, 1, 0), (6, 174, 1, 1), (6, 274, 1, 2), (6, 277, 1, 3), (6, 280, 1, 4), (6, 106, 1, 5), (6, 271, 1, 6), (6, 127, 1, 7), (6, 112, 1, 8)]
def lfT : List (Nat × Nat × Nat × Nat) := lfA ++ lfB
theorem lfA_ok : ∀ q ∈ lfA, Cond.fieldLink (cC q.1) q.2.1 (cC q.2.2.1) (cT q.2.2.1 q.2.2.2).2.1 (cT q.2.2.1 q.2.2.2).2.2.1 ∈ wAll := by decide +kernel
theorem lfB_ok : ∀ q ∈ lfB, Cond.fieldLinkNest (cC q.1) q.2.1 (cC q.2.2.1) (cT q.2.2.1 q.2.2.2).2.1 (cT q.2.2.1 q.2.2.2).2.2.1 "QuotaDesk" ∈ nwL := by decide +kernel
theorem lfT_k : ∀ q ∈ lfT, q.2.2.1 < 8 ∧ q.2.2.2 < cN q.2.2.1 ∧ (cT q.2.2.1 q.2.2.2).1 = cC q.2.2.1 := by decide +kernel
def ldA : List (Nat × Nat × Int32) := [(6, 57, 1000000), (7, 115, 1000000)]
def ldB : List (Nat × Nat × Int64) := [(6, 61, 2), (4, 80, -1), (6, 286, 2147483647), (7, 116, 2), (7, 118, 3), (7, 175, 2147483647)]
theorem ldA_ok : ∀ q ∈ ldA, Cond.constant (cC q.1) q.2.1 q.2.2 ∈ wAll := by decide +kernel
theorem ldB_ok : ∀ q ∈ ldB, Cond.constantLong (cC q.1) q.2.1 q.2.2 ∈ wAll := by decide +kernel
def ifT : List (Nat × Nat) := [(0, 2), (0, 3), (0, 4), (1, 5), (1, 7), (1, 8), (2, 3), (2, 4), (2, 5), (2, 6), (3, 1), (3, 2), (4, 4), (5, 0), (5, 5), (5, 6), (5, 7), (6, 7), (6, 8), (6, 9), (7, 0), (7, 1), (7, 2), (7, 3), (7, 4), (7, 6), (7, 7), (7, 8), (7, 24), (7, 27)]
def jfT : List (Nat × Nat) := [(1, 6), (6, 10), (7, 5)]
theorem fls_int {k j : Nat} (h : (k, j) ∈ ifT) (o : Nat) (r : Nat → Int32) (y : Nat → Int64) (x : Int32) : fls k o (upd r j x) y = (fls k o r y).set j (.int x) ∧ (fls k o r y)[j]? = some (.int (r j)) := by
  simp only [ifT, List.mem_cons, Prod.mk.injEq, List.not_mem_nil, or_false] at h
  rcases h with ⟨rfl, rfl⟩ | ⟨rfl, rfl⟩ | ⟨rfl, rfl⟩ | ⟨rfl, rfl⟩ | ⟨rfl, rfl⟩ | ⟨rfl, rfl⟩ | ⟨rfl, rfl⟩ | ⟨rfl, rfl⟩ | ⟨rfl, rfl⟩ | ⟨rfl, rfl⟩ | ⟨rfl, rfl⟩ | ⟨rfl, rfl⟩ | ⟨rfl, rfl⟩ | ⟨rfl, rfl⟩ | ⟨rfl, rfl⟩ | ⟨rfl, rfl⟩ | ⟨rfl, rfl⟩ | ⟨rfl, rfl⟩ | ⟨rfl, rfl⟩ | ⟨rfl, rfl⟩ | ⟨rfl, rfl⟩ | ⟨rfl, rfl⟩ | ⟨rfl, rfl⟩ | ⟨rfl, rfl⟩ | ⟨rfl, rfl⟩ | ⟨rfl, rfl⟩ | ⟨rfl, rfl⟩ | ⟨rfl, rfl⟩ | ⟨rfl, rfl⟩ | ⟨rfl, rfl⟩ <;> exact ⟨rfl, rfl⟩
theorem fls_long {k j : Nat} (h : (k, j) ∈ jfT) (o : Nat) (r : Nat → Int32) (y : Nat → Int64) (x : Int64) : fls k o r (vp_updL y j x) = (fls k o r y).set j (.long x) ∧ (fls k o r y)[j]? = some (.long (y j)) := by
  simp only [jfT, List.mem_cons, Prod.mk.injEq, List.not_mem_nil, or_false] at h
  rcases h with ⟨rfl, rfl⟩ | ⟨rfl, rfl⟩ | ⟨rfl, rfl⟩ <;> exact ⟨rfl, rfl⟩
theorem fls_len {k : Nat} (h : k < 8) (o : Nat) (r : Nat → Int32) (y : Nat → Int64) : (fls k o r y).length = cN k := by
  rcases (show k = 0 ∨ k = 1 ∨ k = 2 ∨ k = 3 ∨ k = 4 ∨ k = 5 ∨ k = 6 ∨ k = 7 by omega) with rfl | rfl | rfl | rfl | rfl | rfl | rfl | rfl <;> rfl
theorem fls_tr0 : True := trivial
def notRA (v : Value) : Bool := match v with
  | .retAddr _ => false
  | _ => true
theorem tr_notRA {v : Value} (h : notRA v = true) (b x y : Nat) : tr b x v = tr b y v := by
  cases v <;> first | rfl | cases h
theorem fls_notRA (k o : Nat) (r : Nat → Int32) (y : Nat → Int64) : (fls k o r y).all notRA = true := by
  unfold fls
  split <;> rfl
theorem fls_tr {k o j : Nat} {r : Nat → Int32} {y : Nat → Int64} {v : Value} (h : (fls k o r y)[j]? = some v) (b x z : Nat) : tr b x v = tr b z v :=
  tr_notRA (List.all_eq_true.mp (fls_notRA k o r y) v (List.mem_of_getElem? h)) b x z
theorem ifT_ty : ∀ q ∈ ifT, cTy q.1 q.2 = .int ∨ cTy q.1 q.2 = .boolean := by decide +kernel
theorem jfT_ty : ∀ q ∈ jfT, cTy q.1 q.2 = .long := by decide +kernel
end
section
/-! one instruction on my states: what it asks (a Prop), and the state behind it -/
/-- an instruction with what a program found out of it: (instruction, length, class or target, field, constants) -/
abbrev OP : Type := Instr × Nat × Nat × Nat × Int32 × Int64
abbrev AS : Type := Nat × List (Option Value) × List Value × T2 × T3
abbrev o0 (i : Instr) (n : Nat) : OP := (i, n, 0, 0, 0, 0)
abbrev oK (i : Instr) (n k j : Nat) : OP := (i, n, k, j, 0, 0)
abbrev oI (i : Instr) (n : Nat) (v : Int32) : OP := (i, n, 0, 0, v, 0)
abbrev oL (i : Instr) (n : Nat) (v : Int64) : OP := (i, n, 0, 0, 0, v)
def okst (ls : List (Option Value)) (i : Nat) : Bool := match i with
  | 0 => true
  | i + 1 => match ls[i]? with
    | some (some (.long _)) => false
    | some (some (.double _)) => false
    | _ => true
def s_bi (f : Int32 → Int32 → Int32) (g : Int32 → Prop) (pc : Nat) (ls : List (Option Value)) (st : List Value) (I : T2) (J : T3) : Option (Prop × AS) := match st with
  | .int y :: .int x :: r => some (g y, pc + 1, ls, .int (f x y) :: r, I, J)
  | _ => none
def s_bl (f : Int64 → Int64 → Int64) (g : Int64 → Prop) (pc : Nat) (ls : List (Option Value)) (st : List Value) (I : T2) (J : T3) : Option (Prop × AS) := match st with
  | .long y :: .long x :: r => some (g y, pc + 1, ls, .long (f x y) :: r, I, J)
  | _ => none
def s_ld (t : Value → Bool) (i n : Nat) (pc : Nat) (ls : List (Option Value)) (st : List Value) (I : T2) (J : T3) : Option (Prop × AS) := match ls[i]? with
  | some (some v) => if t v then some (True, pc + n, ls, v :: st, I, J) else none
  | _ => none
def isI (v : Value) : Bool := match v with | .int _ => true | _ => false
def isJ (v : Value) : Bool := match v with | .long _ => true | _ => false
def isA (v : Value) : Bool := match v with | .ref _ => true | .retAddr _ => true | _ => false
def s_is (i n nL : Nat) (pc : Nat) (ls : List (Option Value)) (st : List Value) (I : T2) (J : T3) : Option (Prop × AS) := match st with
  | .int x :: r => if okst ls i && decide (i < nL) then some (True, pc + n, ls.set i (some (.int x)), r, I, J) else none
  | _ => none
def s_as (i n nL : Nat) (pc : Nat) (ls : List (Option Value)) (st : List Value) (I : T2) (J : T3) : Option (Prop × AS) := match st with
  | .ref x :: r => if okst ls i && decide (i < nL) then some (True, pc + n, ls.set i (some (.ref x)), r, I, J) else none
  | _ => none
def s_ls (i n nL : Nat) (pc : Nat) (ls : List (Option Value)) (st : List Value) (I : T2) (J : T3) : Option (Prop × AS) := match st with
  | .long x :: r => if okst ls i && decide (i + 1 < nL) then some (True, pc + n, (ls.set i (some (.long x))).set (i + 1) none, r, I, J) else none
  | _ => none
def s_put (k j : Nat) (pc : Nat) (ls : List (Option Value)) (st : List Value) (I : T2) (J : T3) : Option (Prop × AS) := match cTy k j, st with
  | .int, .int x :: .ref o :: r => some (kd o = k, pc + 3, ls, r, up2 I o j x, J)
  | .boolean, .int x :: .ref o :: r => some (kd o = k ∧ (x = 0 ∨ x = 1), pc + 3, ls, r, up2 I o j x, J)
  | .long, .long x :: .ref o :: r => some (kd o = k, pc + 3, ls, r, I, up3 J o j x)
  | _, _ => none
def s_get (k j : Nat) (pc : Nat) (ls : List (Option Value)) (st : List Value) (I : T2) (J : T3) : Option (Prop × AS) := match st with
  | .ref o :: r => match (fls k o (I o) (J o))[j]? with
    | some v => some (kd o = k, pc + 3, ls, v :: r, I, J)
    | none => none
  | _ => none
def s_iald (L : Nat) (xs : Nat → Int32) (pc : Nat) (ls : List (Option Value)) (st : List Value) (I : T2) (J : T3) : Option (Prop × AS) := match st with
  | .int i :: .ref o :: r => some (kd o = 8 ∧ vp_in i (ln o), pc + 1, ls, .int (I o i.toNatClampNeg) :: r, I, J)
  | .int i :: .retAddr _ :: r => some (vp_in i L, pc + 1, ls, .int (xs i.toNatClampNeg) :: r, I, J)
  | _ => none
def s_alen (L : Nat) (pc : Nat) (ls : List (Option Value)) (st : List Value) (I : T2) (J : T3) : Option (Prop × AS) := match st with
  | .ref o :: r => some (kd o = 8, pc + 1, ls, .int (nI (ln o)) :: r, I, J)
  | .retAddr _ :: r => some (0 < L, pc + 1, ls, .int (nI L) :: r, I, J)
  | _ => none
def stp (nL L : Nat) (xs : Nat → Int32) (op : OP) (pc : Nat) (ls : List (Option Value)) (st : List Value) (I : T2) (J : T3) : Option (Prop × AS) := match op with
  | (.iconst _, 1, _, _, v, _) => some (True, pc + 1, ls, .int v :: st, I, J)
  | (.bipush _, 2, _, _, v, _) => some (True, pc + 2, ls, .int v :: st, I, J)
  | (.sipush _, 3, _, _, v, _) => some (True, pc + 3, ls, .int v :: st, I, J)
  | (.ldc _, 2, _, _, v, _) => some (True, pc + 2, ls, .int v :: st, I, J)
  | (.lconst _, 1, _, _, _, w) => some (True, pc + 1, ls, .long w :: st, I, J)
  | (.ldc2_w _, 3, _, _, _, w) => some (True, pc + 3, ls, .long w :: st, I, J)
  | (.iload_n k, 1, _) => s_ld isI k 1 pc ls st I J
  | (.iload i, 2, _) => s_ld isI i 2 pc ls st I J
  | (.lload_n k, 1, _) => s_ld isJ k 1 pc ls st I J
  | (.lload i, 2, _) => s_ld isJ i 2 pc ls st I J
  | (.aload_n k, 1, _) => s_ld isA k 1 pc ls st I J
  | (.aload i, 2, _) => s_ld isA i 2 pc ls st I J
  | (.istore_n k, 1, _) => s_is k 1 nL pc ls st I J
  | (.istore i, 2, _) => s_is i 2 nL pc ls st I J
  | (.astore_n k, 1, _) => s_as k 1 nL pc ls st I J
  | (.astore i, 2, _) => s_as i 2 nL pc ls st I J
  | (.lstore_n k, 1, _) => s_ls k 1 nL pc ls st I J
  | (.lstore i, 2, _) => s_ls i 2 nL pc ls st I J
  | (.iinc i _, 3, _, _, v, _) => match ls[i]? with
    | some (some (.int x)) => if okst ls i && decide (i < nL) then some (True, pc + 3, ls.set i (some (.int (x + v))), st, I, J) else none
    | _ => none
  | (.iadd, 1, _) => s_bi (· + ·) (fun _ => True) pc ls st I J
  | (.isub, 1, _) => s_bi (· - ·) (fun _ => True) pc ls st I J
  | (.imul, 1, _) => s_bi (· * ·) (fun _ => True) pc ls st I J
  | (.iand, 1, _) => s_bi (· &&& ·) (fun _ => True) pc ls st I J
  | (.ixor, 1, _) => s_bi (· ^^^ ·) (fun _ => True) pc ls st I J
  | (.idiv, 1, _) => s_bi (· / ·) (fun y => ¬ y = 0) pc ls st I J
  | (.irem, 1, _) => s_bi (fun x y => x - x / y * y) (fun y => ¬ y = 0) pc ls st I J
  | (.ladd, 1, _) => s_bl (· + ·) (fun _ => True) pc ls st I J
  | (.lsub, 1, _) => s_bl (· - ·) (fun _ => True) pc ls st I J
  | (.lmul, 1, _) => s_bl (· * ·) (fun _ => True) pc ls st I J
  | (.land, 1, _) => s_bl (· &&& ·) (fun _ => True) pc ls st I J
  | (.ldiv, 1, _) => s_bl (· / ·) (fun y => ¬ y = 0) pc ls st I J
  | (.lrem, 1, _) => s_bl (fun x y => x - x / y * y) (fun y => ¬ y = 0) pc ls st I J
  | (.ineg, 1, _) => match st with
    | .int x :: r => some (True, pc + 1, ls, .int (-x) :: r, I, J)
    | _ => none
  | (.i2l, 1, _) => match st with
    | .int x :: r => some (True, pc + 1, ls, .long x.toInt64 :: r, I, J)
    | _ => none
  | (.l2i, 1, _) => match st with
    | .long x :: r => some (True, pc + 1, ls, .int x.toInt32 :: r, I, J)
    | _ => none
  | (.lcmp, 1, _) => match st with
    | .long y :: .long x :: r => some (True, pc + 1, ls, .int (lg_cmp x y) :: r, I, J)
    | _ => none
  | (.dup, 1, _) => match st with
    | v :: r => if v.category = 1 then some (True, pc + 1, ls, v :: v :: r, I, J) else none
    | _ => none
  | (.dup2, 1, _) => match st with
    | v :: w :: r => if v.category = 1 ∧ w.category = 1 then some (True, pc + 1, ls, v :: w :: v :: w :: r, I, J) else none
    | _ => none
  | (.pop, 1, _) => match st with
    | v :: r => if v.category = 1 then some (True, pc + 1, ls, r, I, J) else none
    | _ => none
  | (.goto _, 3, k, _) => some (True, k, ls, st, I, J)
  | (.getfield _, 3, k, j, _) => s_get k j pc ls st I J
  | (.putfield _, 3, k, j, _) => s_put k j pc ls st I J
  | (.iaload, 1, _) => s_iald L xs pc ls st I J
  | (.iastore, 1, _) => match st with
    | .int x :: .int i :: .ref o :: r => some (kd o = 8 ∧ vp_in i (ln o), pc + 1, ls, r, up2 I o i.toNatClampNeg x, J)
    | _ => none
  | (.laload, 1, _) => match st with
    | .int i :: .ref o :: r => some (kd o = 9 ∧ vp_in i (ln o), pc + 1, ls, .long (J o i.toNatClampNeg) :: r, I, J)
    | _ => none
  | (.lastore, 1, _) => match st with
    | .long x :: .int i :: .ref o :: r => some (kd o = 9 ∧ vp_in i (ln o), pc + 1, ls, r, I, up3 J o i.toNatClampNeg x)
    | _ => none
  | (.baload, 1, _) => match st with
    | .int i :: .ref o :: r => some (kd o = 10 ∧ vp_in i (ln o), pc + 1, ls, .int (I o i.toNatClampNeg) :: r, I, J)
    | _ => none
  | (.bastore, 1, _) => match st with
    | .int x :: .int i :: .ref o :: r => some (kd o = 10 ∧ vp_in i (ln o) ∧ (x = 0 ∨ x = 1), pc + 1, ls, r, up2 I o i.toNatClampNeg x, J)
    | _ => none
  | (.aaload, 1, k, _) => match st with
    | .int i :: .ref o :: r => if k = 11 then some (kd o = 11 ∧ vp_in i (ln o), pc + 1, ls, .ref (24 + 14 * i.toNatClampNeg) :: r, I, J)
      else if k = 12 then some (kd o = 12 ∧ vp_in i (ln o), pc + 1, ls, .ref (o + 1 + i.toNatClampNeg) :: r, I, J) else none
    | _ => none
  | (.arraylength, 1, _) => s_alen L pc ls st I J
  | _ => none
/-- what a program says of an instruction is right -/
def opOk (own : Nat) (op : OP) (pc : Nat) : Bool := match op with
  | (.iconst n, _, _, _, v, _) => decide (Int32.ofInt n = v)
  | (.bipush n, _, _, _, v, _) => decide ((Int8.ofInt n).toInt32 = v)
  | (.sipush n, _, _, _, v, _) => decide ((Int16.ofInt n).toInt32 = v)
  | (.lconst n, _, _, _, _, w) => decide (Int64.ofNat (n : Nat) = w)
  | (.ldc i, _, _, _, v, _) => decide ((own, i, v) ∈ ldA)
  | (.ldc2_w i, _, _, _, _, w) => decide ((own, i, w) ∈ ldB)
  | (.iinc _ n, _, _, _, v, _) => decide (Int32.ofInt n = v)
  | (.goto off, _, k, _) => decide ((pc : Int) + off = (k : Int))
  | (.getfield i, _, k, j, _) => decide ((own, i, k, j) ∈ lfT)
  | (.putfield i, _, k, j, _) => decide ((own, i, k, j) ∈ lfT) && ((cT k j).2.2.2 == false) && (decide ((k, j) ∈ ifT) || decide ((k, j) ∈ jfT))
  | _ => true
end
section
/-! the step function is right: each of its instructions by a row of the kit -/
/-- a method: its class's number, its name, its code, its locals, what it returns, its handlers -/
abbrev MD : Type := Nat × MethodName × ByteArray × Nat × Option FieldType × List (Nat × Nat × Nat × Nat)
def asc (b bs : Nat) (ls : List (Option Value)) : List (Nat × Value) := (List.range ls.length).filterMap (fun i => match ls[i]? with
  | some (some v) => some (i, tr b bs v)
  | _ => none)
theorem asc_mem {b bs : Nat} {ls : List (Option Value)} {q : Nat × Value} : q ∈ asc b bs ls ↔ ∃ v, ls[q.1]? = some (some v) ∧ q.2 = tr b bs v := by
  obtain ⟨i, w⟩ := q
  unfold asc
  rw [List.mem_filterMap]
  constructor
  · rintro ⟨j, -, h⟩
    split at h
    · rename_i v hv
      cases h
      exact ⟨v, hv, rfl⟩
    · cases h
  · rintro ⟨v, h1, h2⟩
    dsimp only at h1 h2
    subst h2
    refine ⟨i, List.mem_range.mpr (List.getElem?_eq_some_iff.mp h1).1, ?_⟩
    rw [h1]
theorem lvh.has {arr : Array Slot} {nL b bs : Nat} {ls : List (Option Value)} (h : lvh arr nL b bs ls) : lv_has arr nL (asc b bs ls) :=
  ⟨h.1, h.2.1, fun q hq => by
    obtain ⟨v, h1, h2⟩ := asc_mem.mp hq
    rw [h2]
    exact h.2.2 _ _ h1⟩
theorem lvh.at {arr : Array Slot} {nL b bs : Nat} {ls : List (Option Value)} (h : lvh arr nL b bs ls) {i : Nat} {v : Value} (hv : ls[i]? = some (some v)) : arr[i]? = some (.val (tr b bs v)) := h.2.2 i v hv
theorem okst_no {ls : List (Option Value)} {i j : Nat} {v : Value} (h : okst ls i = true) (hj : j + 1 = i) (hv : ls[j]? = some (some v)) : (v.category == 2) = false := by
  subst hj
  have h : (match ls[j]? with
    | some (some (.long _)) => false
    | some (some (.double _)) => false
    | _ => true) = true := h
  rw [hv] at h
  cases v <;> first | rfl | cases h
theorem lvh.st1 {arr' : Array Slot} {nL b bs i : Nat} {ls : List (Option Value)} {v : Value} (hok : okst ls i = true) (h : lv_has arr' nL ((i, tr b bs v) :: (asc b bs ls).filter (fun q => !(q.1 == i) && !(q.1 + 1 == i && q.2.category == 2)))) : lvh arr' nL b bs (ls.set i (some v)) := by
  refine ⟨h.1, h.2.1, fun j w hw => ?_⟩
  by_cases hj : i = j
  · subst hj
    have hlt : i < ls.length := by
      have := (List.getElem?_eq_some_iff.mp hw).1
      rwa [List.length_set] at this
    rw [List.getElem?_set_self hlt] at hw
    cases hw
    exact h.2.2 _ List.mem_cons_self
  · rw [List.getElem?_set_ne hj] at hw
    refine h.2.2 (j, tr b bs w) (List.mem_cons_of_mem _ (List.mem_filter.mpr ⟨asc_mem.mpr ⟨w, hw, rfl⟩, ?_⟩))
    have h1 : (j == i) = false := by simpa using fun q => hj q.symm
    simp only [h1, Bool.not_false, Bool.true_and, Bool.not_eq_true']
    by_cases h2 : j + 1 = i
    · rw [tr_cat, okst_no hok h2 hw, Bool.and_false]
    · have h3 : (j + 1 == i) = false := by simpa using h2
      rw [h3, Bool.false_and]
theorem lvh.st2 {arr' : Array Slot} {nL b bs i : Nat} {ls : List (Option Value)} {v : Value} (hok : okst ls i = true) (h : lv_has arr' nL ((i, tr b bs v) :: (asc b bs ls).filter (fun q => !(q.1 == i) && (!(q.1 == i + 1) && !(q.1 + 1 == i && q.2.category == 2))))) : lvh arr' nL b bs ((ls.set i (some v)).set (i + 1) none) := by
  refine ⟨h.1, h.2.1, fun j w hw => ?_⟩
  have hne : i + 1 ≠ j := by
    intro e
    subst e
    have hlt : i + 1 < (ls.set i (some v)).length := by
      have := (List.getElem?_eq_some_iff.mp hw).1
      rwa [List.length_set] at this
    rw [List.getElem?_set_self hlt] at hw
    cases hw
  rw [List.getElem?_set_ne hne] at hw
  by_cases hj : i = j
  · subst hj
    have hlt : i < ls.length := by
      have := (List.getElem?_eq_some_iff.mp hw).1
      rwa [List.length_set] at this
    rw [List.getElem?_set_self hlt] at hw
    cases hw
    exact h.2.2 _ List.mem_cons_self
  · rw [List.getElem?_set_ne hj] at hw
    refine h.2.2 (j, tr b bs w) (List.mem_cons_of_mem _ (List.mem_filter.mpr ⟨asc_mem.mpr ⟨w, hw, rfl⟩, ?_⟩))
    have h1 : (j == i) = false := by simpa using fun q => hj q.symm
    have h4 : (j == i + 1) = false := by simpa using fun q => hne q.symm
    simp only [h1, h4, Bool.not_false, Bool.true_and, Bool.not_eq_true']
    by_cases h2 : j + 1 = i
    · rw [tr_cat, okst_no hok h2 hw, Bool.and_false]
    · have h3 : (j + 1 == i) = false := by simpa using h2
      rw [h3, Bool.false_and]
theorem en_obj {b : Nat} {cy : Nat → ClassId} {o k : Nat} (h : kd o = k) (hk : k < 8) (r : Nat → Int32) (y : Nat → Int64) : en b cy o r y = .inr (k, (fls k o r y).map (tr b 0)) := by
  unfold en
  rw [h]
  rcases (show k = 0 ∨ k = 1 ∨ k = 2 ∨ k = 3 ∨ k = 4 ∨ k = 5 ∨ k = 6 ∨ k = 7 by omega) with rfl | rfl | rfl | rfl | rfl | rfl | rfl | rfl <;> rfl
theorem en_8 {b : Nat} {cy : Nat → ClassId} {o : Nat} (h : kd o = 8) (r : Nat → Int32) (y : Nat → Int64) : en b cy o r y = .inl (cy 0, ln o, .inl r) := by
  unfold en
  rw [h]
  rfl
theorem en_9 {b : Nat} {cy : Nat → ClassId} {o : Nat} (h : kd o = 9) (r : Nat → Int32) (y : Nat → Int64) : en b cy o r y = .inl (cy 1, ln o, .inr (.inl y)) := by
  unfold en
  rw [h]
  rfl
theorem en_10 {b : Nat} {cy : Nat → ClassId} {o : Nat} (h : kd o = 10) (r : Nat → Int32) (y : Nat → Int64) : en b cy o r y = .inl (cy 2, ln o, .inl r) := by
  unfold en
  rw [h]
  rfl
theorem en_11 {b : Nat} {cy : Nat → ClassId} {o : Nat} (h : kd o = 11) (r : Nat → Int32) (y : Nat → Int64) : en b cy o r y = .inl (cy 3, ln o, .inr (.inr (.inr (.inr (fun k => some (b + (24 + 14 * k))))))) := by
  unfold en
  rw [h]
  rfl
theorem en_12 {b : Nat} {cy : Nat → ClassId} {o : Nat} (h : kd o = 12) (r : Nat → Int32) (y : Nat → Int64) : en b cy o r y = .inl (cy 4, ln o, .inr (.inr (.inr (.inr (fun k => some (b + (o + 1 + k))))))) := by
  unfold en
  rw [h]
  rfl
/-- what stands through the whole body of a method -/
def Cx (l : Launch) (p : Program) (s : State) (m : MethodId) (args : Array Value) (meth : Method) (c : Code) (D : va_G) (cy : Nat → ClassId) (b bs L : Nat) (xs : Nat → Int32) (M : MD) : Prop :=
  p.tables.exec = Jvm.exec ∧ c.code = M.2.2.1 ∧ c.maxLocals = M.2.2.2.1 ∧ s.vm.findClass (cC M.1) = some m.cls ∧ meth.sig.returnType = M.2.2.2.2.1 ∧ meth.locks = false ∧ (∀ w ∈ wAll, w.before args s = true) ∧ KS D cy b s s.heap ∧ (0 < L → va_X bs L xs s s.heap ∧ bs < s.heap.size ∧ ¬ b ≤ bs) ∧ l.stackTraces = false ∧ c.exceptionTable.toList = tableOf M.2.2.2.2.2
section R1
variable {p : Program} {l : Launch} {e : Env} {R : Room} {s : State} {m : MethodId} {args : Array Value} {below : List Frame} {meth : Method} {c : Code} {H : Heap} {locs : List Loc} {cells slots : Nat} {Q : State → Prop}
variable {D : va_G} {cy : Nat → ClassId} {b bs L : Nat} {xs : Nat → Int32} {M : MD} {I : T2} {J : T3} {arr : Array Slot} {pc : Nat}
theorem Rp.put2 {o j : Nat} {x : Int32} {e0 : va_E} {H1 : Heap} {locs1 : List Loc} (he : en b cy o (upd (I o) j x) (J o) = e0) (h1 : va_P D vwCl ((wl b 159 (En b cy I J)).set o (b + o, e0)) H1) (h2 : va_S (fun q => b ≤ q) s.heap H1 locs1) : Rp D cy b (up2 I o j x) J s.heap H1 locs1 := by
  refine ⟨?_, h2⟩
  rw [wl_set, ← he, wl_congr (fun a _ => En_up2 a)] at h1
  exact h1
theorem Rp.putr {o : Nat} {r : Nat → Int32} {e0 : va_E} {H1 : Heap} {locs1 : List Loc} (he : en b cy o r (J o) = e0) (h1 : va_P D vwCl ((wl b 159 (En b cy I J)).set o (b + o, e0)) H1) (h2 : va_S (fun q => b ≤ q) s.heap H1 locs1) : Rp D cy b (upr I o r) J s.heap H1 locs1 := by
  refine ⟨?_, h2⟩
  rw [wl_set, ← he, wl_congr (fun a _ => En_upr a)] at h1
  exact h1
theorem Rp.put3 {o j : Nat} {x : Int64} {e0 : va_E} {H1 : Heap} {locs1 : List Loc} (he : en b cy o (I o) (vp_updL (J o) j x) = e0) (h1 : va_P D vwCl ((wl b 159 (En b cy I J)).set o (b + o, e0)) H1) (h2 : va_S (fun q => b ≤ q) s.heap H1 locs1) : Rp D cy b I (up3 J o j x) s.heap H1 locs1 := by
  refine ⟨?_, h2⟩
  rw [wl_set, ← he, wl_congr (fun a _ => En_up3 a)] at h1
  exact h1
theorem Rp.at {o k : Nat} {e0 : va_E} (hk : kd o = k) (hk9 : k < 99) (he : en b cy o (I o) (J o) = e0) : (wl b 159 (En b cy I J))[o]? = some (b + o, e0) := by
  rw [wl_get (kd_lt hk hk9)]
  show some (b + o, en b cy o (I o) (J o)) = _
  rw [he]
theorem r_get {i k j : Nat} {o : Nat} {v : Value} {rest : List Value} (C : Cx l p s m args meth c D cy b bs L xs M) (hR : Rp D cy b I J s.heap H locs) (hL : (M.1, i, k, j) ∈ lfT) (hk : kd o = k) (hv : (fls k o (I o) (J o))[j]? = some v) (hd : decode M.2.2.1 pc = .ok (.getfield i, 3))
    (kk : W p l e R s m args below meth c H locs cells slots Q (F0 m (pc + 3) arr (tr b bs v :: rest))) : W p l e R s m args below meth c H locs cells slots Q (F0 m pc arr (.ref (b + o) :: rest)) := by
  obtain ⟨hx, hb, hml, hown, hr, hlk, hts, hK, -⟩ := C
  obtain ⟨hk8, hj, hdec⟩ := lfT_k _ hL
  dsimp only at hk8 hj hdec
  have hat := Rp.at (b := b) (cy := cy) (I := I) (J := J) hk (by omega) (en_obj hk hk8 (I o) (J o))
  have hv' : ((fls k o (I o) (J o)).map (tr b 0))[j]? = some (tr b bs v) := by
    rw [List.getElem?_map, hv]
    show some (tr b 0 v) = _
    rw [fls_tr hv b 0 bs]
  rcases List.mem_append.mp hL with h | h
  · refine va_get (C := cC k) (T := cT k) (N := cN k) (ci := k) (own := cC M.1) (ref := cC k) hx hb hts (cT_in hk8) hown hK.1 hR.1 o hat (cl_at hk8) j hj (hts _ (lfA_ok _ h)) (fun x hx => ?_) hv' hd kk
    rw [← hdec]; exact hx
  · refine va_getN (C := cC k) (T := cT k) (N := cN k) (ci := k) (own := cC M.1) (ref := cC k) (host := "QuotaDesk") hx hb hts (cT_in hk8) hown hK.1 hR.1 o hat (cl_at hk8) j hj (va_Nw.use rfl (hK.2.1 _ (lfB_ok _ h))) (fun x hx => ?_) hv' hd kk
    rw [← hdec]; exact hx
theorem r_put {i k j : Nat} {o : Nat} {v : Value} {rest : List Value} {I' : T2} {J' : T3} (C : Cx l p s m args meth c D cy b bs L xs M) (hR : Rp D cy b I J s.heap H locs) (hL : (M.1, i, k, j) ∈ lfT) (hf : (cT k j).2.2.2 = false) (hk : kd o = k) (hn : narrow (cTy k j) v = v) (hfit : fits (cTy k j) v = true) (hd : decode M.2.2.1 pc = .ok (.putfield i, 3))
    (hst : ∀ (H1 : Heap) (locs1 : List Loc), va_P D vwCl ((wl b 159 (En b cy I J)).set o (b + o, .inr (k, ((fls k o (I o) (J o)).map (tr b 0)).set j v))) H1 → va_S (fun q => b ≤ q) s.heap H1 locs1 → Rp D cy b I' J' s.heap H1 locs1)
    (kk : ∀ (H1 : Heap) (locs1 : List Loc), Rp D cy b I' J' s.heap H1 locs1 → W p l e R s m args below meth c H1 locs1 cells slots Q (F0 m (pc + 3) arr rest)) : W p l e R s m args below meth c H locs cells slots Q (F0 m pc arr (v :: .ref (b + o) :: rest)) := by
  obtain ⟨hx, hb, hml, hown, hr, hlk, hts, hK, -⟩ := C
  obtain ⟨hk8, hj, hdec⟩ := lfT_k _ hL
  dsimp only at hk8 hj hdec
  have hat := Rp.at (b := b) (cy := cy) (I := I) (J := J) hk (by omega) (en_obj hk hk8 (I o) (J o))
  have hlen : j < ((fls k o (I o) (J o)).map (tr b 0)).length := by rw [List.length_map, fls_len hk8]; exact hj
  rcases List.mem_append.mp hL with h | h
  · refine va_put (C := cC k) (T := cT k) (N := cN k) (ci := k) (own := cC M.1) (ref := cC k) hx hb hts (cT_in hk8) (cTy k) (cTy_ok hk8) (cT_nm hk8) hown hK.1 hR.1 (wl_D b 159 _) hR.2 o hat (cl_at hk8) j hj (hts _ (lfA_ok _ h)) (fun x hx => ?_) hf (cTy_ok hk8 j hj) hn hfit hlen hd (fun H1 locs1 h1 h2 h3 => kk H1 locs1 (hst H1 locs1 h1 h3))
    rw [← hdec]; exact hx
  · refine va_putN (C := cC k) (T := cT k) (N := cN k) (ci := k) (own := cC M.1) (ref := cC k) (host := "QuotaDesk") hx hb hts (cT_in hk8) (cTy k) (cTy_ok hk8) (cT_nm hk8) hown hK.1 hR.1 (wl_D b 159 _) hR.2 o hat (cl_at hk8) j hj (va_Nw.use rfl (hK.2.1 _ (lfB_ok _ h))) (fun x hx => ?_) hf (cTy_ok hk8 j hj) hn hfit hlen hd (fun H1 locs1 h1 h2 h3 => kk H1 locs1 (hst H1 locs1 h1 h3))
    rw [← hdec]; exact hx
theorem nb_narrow {x : Int32} (h : x = 0 ∨ x = 1) : narrow .boolean (.int x) = .int x ∧ fits .boolean (.int x) = true ∧ vp_nar .boolean x = x := by
  rcases h with rfl | rfl <;> exact ⟨by decide, by decide, by decide⟩
theorem set_int {k j o : Nat} (hk : kd o = k) (hk8 : k < 8) (h : (k, j) ∈ ifT) (x : Int32) : en b cy o (upd (I o) j x) (J o) = .inr (k, ((fls k o (I o) (J o)).map (tr b 0)).set j (.int x)) := by
  rw [en_obj hk hk8, (fls_int h o (I o) (J o) x).1, List.map_set]
  rfl
theorem set_long {k j o : Nat} (hk : kd o = k) (hk8 : k < 8) (h : (k, j) ∈ jfT) (x : Int64) : en b cy o (I o) (vp_updL (J o) j x) = .inr (k, ((fls k o (I o) (J o)).map (tr b 0)).set j (.long x)) := by
  rw [en_obj hk hk8, (fls_long h o (I o) (J o) x).1, List.map_set]
  rfl
end R1
end
section
section R2
variable {p : Program} {l : Launch} {e : Env} {R : Room} {s : State} {m : MethodId} {args : Array Value} {below : List Frame} {meth : Method} {c : Code} {H : Heap} {locs : List Loc} {cells slots : Nat} {Q : State → Prop}
variable {D : va_G} {cy : Nat → ClassId} {b bs L : Nat} {xs : Nat → Int32} {M : MD} {I I' : T2} {J J' : T3} {arr : Array Slot} {pc pc' : Nat} {ls ls' : List (Option Value)} {st st' : List Value} {G : Prop}
/-- where the machine goes on -/
abbrev KK (p : Program) (l : Launch) (e : Env) (R : Room) (s : State) (m : MethodId) (args : Array Value) (below : List Frame) (meth : Method) (c : Code) (cells slots : Nat) (Q : State → Prop) (D : va_G) (cy : Nat → ClassId) (b bs : Nat) (nL : Nat) (pc' : Nat) (ls' : List (Option Value)) (st' : List Value) (I' : T2) (J' : T3) : Prop :=
  ∀ (H' : Heap) (locs' : List Loc) (arr' : Array Slot), Rp D cy b I' J' s.heap H' locs' → lvh arr' nL b bs ls' → W p l e R s m args below meth c H' locs' cells slots Q (F0 m pc' arr' (st'.map (tr b bs)))
theorem k_bi {f : Int32 → Int32 → Int32} {g : Int32 → Prop} (h : s_bi f g pc ls st I J = some (G, pc', ls', st', I', J')) : ∃ x y r, st = .int y :: .int x :: r ∧ G = g y ∧ pc' = pc + 1 ∧ ls' = ls ∧ st' = .int (f x y) :: r ∧ I' = I ∧ J' = J := by
  unfold s_bi at h
  split at h
  · cases h; exact ⟨_, _, _, rfl, rfl, rfl, rfl, rfl, rfl, rfl⟩
  · cases h
theorem k_bl {f : Int64 → Int64 → Int64} {g : Int64 → Prop} (h : s_bl f g pc ls st I J = some (G, pc', ls', st', I', J')) : ∃ x y r, st = .long y :: .long x :: r ∧ G = g y ∧ pc' = pc + 1 ∧ ls' = ls ∧ st' = .long (f x y) :: r ∧ I' = I ∧ J' = J := by
  unfold s_bl at h
  split at h
  · cases h; exact ⟨_, _, _, rfl, rfl, rfl, rfl, rfl, rfl, rfl⟩
  · cases h
theorem k_ld {t : Value → Bool} {i n : Nat} (h : s_ld t i n pc ls st I J = some (G, pc', ls', st', I', J')) : ∃ v, ls[i]? = some (some v) ∧ t v = true ∧ pc' = pc + n ∧ ls' = ls ∧ st' = v :: st ∧ I' = I ∧ J' = J := by
  unfold s_ld at h
  split at h
  · rename_i v hv
    split at h
    · rename_i ht
      cases h; exact ⟨v, hv, ht, rfl, rfl, rfl, rfl, rfl⟩
    · cases h
  · cases h
theorem k_is {i n nL : Nat} (h : s_is i n nL pc ls st I J = some (G, pc', ls', st', I', J')) : ∃ x r, st = .int x :: r ∧ okst ls i = true ∧ i < nL ∧ pc' = pc + n ∧ ls' = ls.set i (some (.int x)) ∧ st' = r ∧ I' = I ∧ J' = J := by
  unfold s_is at h
  split at h
  · split at h
    · rename_i hc
      rw [Bool.and_eq_true] at hc
      cases h; exact ⟨_, _, rfl, hc.1, of_decide_eq_true hc.2, rfl, rfl, rfl, rfl, rfl⟩
    · cases h
  · cases h
theorem k_as {i n nL : Nat} (h : s_as i n nL pc ls st I J = some (G, pc', ls', st', I', J')) : ∃ x r, st = .ref x :: r ∧ okst ls i = true ∧ i < nL ∧ pc' = pc + n ∧ ls' = ls.set i (some (.ref x)) ∧ st' = r ∧ I' = I ∧ J' = J := by
  unfold s_as at h
  split at h
  · split at h
    · rename_i hc
      rw [Bool.and_eq_true] at hc
      cases h; exact ⟨_, _, rfl, hc.1, of_decide_eq_true hc.2, rfl, rfl, rfl, rfl, rfl⟩
    · cases h
  · cases h
theorem k_ls {i n nL : Nat} (h : s_ls i n nL pc ls st I J = some (G, pc', ls', st', I', J')) : ∃ x r, st = .long x :: r ∧ okst ls i = true ∧ i + 1 < nL ∧ pc' = pc + n ∧ ls' = (ls.set i (some (.long x))).set (i + 1) none ∧ st' = r ∧ I' = I ∧ J' = J := by
  unfold s_ls at h
  split at h
  · split at h
    · rename_i hc
      rw [Bool.and_eq_true] at hc
      cases h; exact ⟨_, _, rfl, hc.1, of_decide_eq_true hc.2, rfl, rfl, rfl, rfl, rfl⟩
    · cases h
  · cases h
theorem isI_x {v : Value} (h : isI v = true) : ∃ x, v = .int x := by cases v <;> first | exact ⟨_, rfl⟩ | cases h
theorem isJ_x {v : Value} (h : isJ v = true) : ∃ x, v = .long x := by cases v <;> first | exact ⟨_, rfl⟩ | cases h
theorem isA_x {v : Value} (h : isA v = true) (b bs : Nat) : ∃ x, tr b bs v = .ref x := by cases v <;> first | exact ⟨_, rfl⟩ | cases h
theorem r_aald12 {cc : ByteArray} {ws : va_W} {q0 a n : Nat} {f : Nat → Option Nat} {i : Int32} {rest : List Value} (hexec : p.tables.exec = Jvm.exec) (hb : c.code = cc) (hK : va_K D vwCl (tyl cy) s) (hP : va_P D vwCl ws H) (ha : ws[q0]? = some (a, .inl (cy 4, n, .inr (.inr (.inr (.inr f)))))) (hin : vp_in i n) (hdg : decode cc pc = .ok (.aaload, 1))
    (kk : W p l e R s m args below meth c H locs cells slots Q (F0 m (pc + 1) arr (va_rf (f i.toNatClampNeg) :: rest))) : W p l e R s m args below meth c H locs cells slots Q (F0 m pc arr (.int i :: .ref a :: rest)) := by
  have hlt : i.toNatClampNeg < n := Nat.not_le.mp fun q => hin (Or.inr q)
  exact W.aald (v := va_rf (f i.toNatClampNeg)) (ty := .array .int) hexec hb (hP q0 _ ha) ((hK.2 4 (cy 4, .array .int) rfl).1 n (fun j => va_rf (f j))) rfl (fun q => by cases q) (by show ¬ (i < 0 ∨ (arrV _ _ _).slots.size ≤ _); rw [arrV_size]; exact hin) (by show (arrV _ _ _).slots[_]? = _; rw [arrV_read _ _ hlt]) rfl rfl hdg kk
set_option maxHeartbeats 4000000 in
set_option maxRecDepth 100000 in
theorem stp_ok {op : OP} (C : Cx l p s m args meth c D cy b bs L xs M) (hd : decode M.2.2.1 pc = .ok (op.1, op.2.1)) (ho : opOk M.1 op pc = true) (h : stp M.2.2.2.1 L xs op pc ls st I J = some (G, pc', ls', st', I', J')) (hG : G) (hR : Rp D cy b I J s.heap H locs) (hl : lvh arr M.2.2.2.1 b bs ls)
    (kk : KK p l e R s m args below meth c cells slots Q D cy b bs M.2.2.2.1 pc' ls' st' I' J') : W p l e R s m args below meth c H locs cells slots Q (F0 m pc arr (st.map (tr b bs))) := by
  obtain ⟨hx, hb, hml, hown, hr, hlk, hts, hK, hX, -⟩ := id C
  have hD := wl_D b 159 (En b cy I J)
  unfold stp at h
  split at h
  · cases h; exact lv_iconst hx hb hd (of_decide_eq_true ho) (kk H locs arr hR hl)
  · cases h; exact lv_bipush hx hb hd (of_decide_eq_true ho) (kk H locs arr hR hl)
  · cases h; exact lv_sipush hx hb hd (of_decide_eq_true ho) (kk H locs arr hR hl)
  · cases h; exact lv_ldc hx hb hown (hts _ (ldA_ok _ (of_decide_eq_true ho))) hd (kk H locs arr hR hl)
  · cases h; exact lv_lconst hx hb hd (of_decide_eq_true ho) (kk H locs arr hR hl)
  · cases h; exact lv_ldc2 hx hb hown (hts _ (ldB_ok _ (of_decide_eq_true ho))) hd (kk H locs arr hR hl)
  · obtain ⟨v, h1, h2, rfl, rfl, rfl, rfl, rfl⟩ := k_ld h
    obtain ⟨x, rfl⟩ := isI_x h2
    exact lv_iload_n hx hb hd rfl (hl.at h1) (kk H locs arr hR hl)
  · obtain ⟨v, h1, h2, rfl, rfl, rfl, rfl, rfl⟩ := k_ld h
    obtain ⟨x, rfl⟩ := isI_x h2
    exact lv_iload hx hb hd (hl.at h1) (kk H locs arr hR hl)
  · obtain ⟨v, h1, h2, rfl, rfl, rfl, rfl, rfl⟩ := k_ld h
    obtain ⟨x, rfl⟩ := isJ_x h2
    exact lv_lload_n hx hb hd rfl (hl.at h1) (kk H locs arr hR hl)
  · obtain ⟨v, h1, h2, rfl, rfl, rfl, rfl, rfl⟩ := k_ld h
    obtain ⟨x, rfl⟩ := isJ_x h2
    exact lv_lload hx hb hd (hl.at h1) (kk H locs arr hR hl)
  · obtain ⟨v, h1, h2, rfl, rfl, rfl, rfl, rfl⟩ := k_ld h
    obtain ⟨x, e⟩ := isA_x h2 b bs
    have h3 := hl.at h1
    have h4 := kk H locs arr hR hl
    rw [e] at h3
    rw [List.map_cons, e] at h4
    exact lv_aload_n hx hb hd rfl h3 h4
  · obtain ⟨v, h1, h2, rfl, rfl, rfl, rfl, rfl⟩ := k_ld h
    obtain ⟨x, e⟩ := isA_x h2 b bs
    have h3 := hl.at h1
    have h4 := kk H locs arr hR hl
    rw [e] at h3
    rw [List.map_cons, e] at h4
    exact lv_aload hx hb hd h3 h4
  · obtain ⟨x, r, rfl, h1, h2, rfl, rfl, rfl, rfl, rfl⟩ := k_is h
    exact lv_istore_n hx hb hd rfl hl.has h2 rfl (fun ls' h3 => kk H locs ls' hR (lvh.st1 h1 h3))
  · obtain ⟨x, r, rfl, h1, h2, rfl, rfl, rfl, rfl, rfl⟩ := k_is h
    exact lv_istore hx hb hd hl.has h2 rfl (fun ls' h3 => kk H locs ls' hR (lvh.st1 h1 h3))
  · obtain ⟨x, r, rfl, h1, h2, rfl, rfl, rfl, rfl, rfl⟩ := k_as h
    exact lv_astore_n hx hb hd rfl hl.has h2 rfl (fun ls' h3 => kk H locs ls' hR (lvh.st1 h1 h3))
  · obtain ⟨x, r, rfl, h1, h2, rfl, rfl, rfl, rfl, rfl⟩ := k_as h
    exact lv_astore hx hb hd hl.has h2 rfl (fun ls' h3 => kk H locs ls' hR (lvh.st1 h1 h3))
  · obtain ⟨x, r, rfl, h1, h2, rfl, rfl, rfl, rfl, rfl⟩ := k_ls h
    exact lv_lstore_n hx hb hd rfl hl.has h2 rfl (fun ls' h3 => kk H locs ls' hR (lvh.st2 h1 h3))
  · obtain ⟨x, r, rfl, h1, h2, rfl, rfl, rfl, rfl, rfl⟩ := k_ls h
    exact lv_lstore hx hb hd hl.has h2 rfl (fun ls' h3 => kk H locs ls' hR (lvh.st2 h1 h3))
  · split at h
    · rename_i h1
      split at h
      · rename_i hc
        rw [Bool.and_eq_true] at hc
        cases h
        obtain ⟨k, hk⟩ := List.getElem?_of_mem (asc_mem (b := b) (bs := bs) (q := (_, .int _)).mpr ⟨_, h1, rfl⟩)
        exact lv_iinc hx hb hd hl.has hk (by rw [of_decide_eq_true ho]) (of_decide_eq_true hc.2) rfl (fun ls' h3 => kk H locs ls' hR (lvh.st1 (v := .int _) hc.1 h3))
      · cases h
    · cases h
  · obtain ⟨x, y, r, rfl, rfl, rfl, rfl, rfl, rfl, rfl⟩ := k_bi h; exact lv_iadd hx hb hd (kk H locs arr hR hl)
  · obtain ⟨x, y, r, rfl, rfl, rfl, rfl, rfl, rfl, rfl⟩ := k_bi h; exact lv_isub hx hb hd (kk H locs arr hR hl)
  · obtain ⟨x, y, r, rfl, rfl, rfl, rfl, rfl, rfl, rfl⟩ := k_bi h; exact lv_imul hx hb hd (kk H locs arr hR hl)
  · obtain ⟨x, y, r, rfl, rfl, rfl, rfl, rfl, rfl, rfl⟩ := k_bi h; exact lv_iand hx hb hd (kk H locs arr hR hl)
  · obtain ⟨x, y, r, rfl, rfl, rfl, rfl, rfl, rfl, rfl⟩ := k_bi h; exact lv_ixor hx hb hd (kk H locs arr hR hl)
  · obtain ⟨x, y, r, rfl, rfl, rfl, rfl, rfl, rfl, rfl⟩ := k_bi h; exact lv_idiv hx hb hd hG (kk H locs arr hR hl)
  · obtain ⟨x, y, r, rfl, rfl, rfl, rfl, rfl, rfl, rfl⟩ := k_bi h; exact lv_irem hx hb hd hG (kk H locs arr hR hl)
  · obtain ⟨x, y, r, rfl, rfl, rfl, rfl, rfl, rfl, rfl⟩ := k_bl h; exact lv_ladd hx hb hd (kk H locs arr hR hl)
  · obtain ⟨x, y, r, rfl, rfl, rfl, rfl, rfl, rfl, rfl⟩ := k_bl h; exact lv_lsub hx hb hd (kk H locs arr hR hl)
  · obtain ⟨x, y, r, rfl, rfl, rfl, rfl, rfl, rfl, rfl⟩ := k_bl h; exact lv_lmul hx hb hd (kk H locs arr hR hl)
  · obtain ⟨x, y, r, rfl, rfl, rfl, rfl, rfl, rfl, rfl⟩ := k_bl h; exact lv_land hx hb hd (kk H locs arr hR hl)
  · obtain ⟨x, y, r, rfl, rfl, rfl, rfl, rfl, rfl, rfl⟩ := k_bl h; exact lv_ldiv hx hb hd hG (kk H locs arr hR hl)
  · obtain ⟨x, y, r, rfl, rfl, rfl, rfl, rfl, rfl, rfl⟩ := k_bl h; exact lv_lrem hx hb hd hG (kk H locs arr hR hl)
  · split at h
    · cases h; exact lv_ineg hx hb hd (kk H locs arr hR hl)
    · cases h
  · split at h
    · cases h; exact lv_i2l hx hb hd rfl (kk H locs arr hR hl)
    · cases h
  · split at h
    · cases h; exact lv_l2i hx hb hd rfl (kk H locs arr hR hl)
    · cases h
  · split at h
    · cases h; exact W.lcmp hx hb hd (kk H locs arr hR hl)
    · cases h
  · split at h
    · split at h
      · rename_i hc; cases h; exact lv_dup hx hb hd (by rw [tr_cat]; exact hc) (kk H locs arr hR hl)
      · cases h
    · cases h
  · split at h
    · split at h
      · rename_i hc; cases h; exact lv_dup2_11 hx hb hd (by rw [tr_cat]; exact hc.1) (by rw [tr_cat]; exact hc.2) (kk H locs arr hR hl)
      · cases h
    · cases h
  · split at h
    · split at h
      · rename_i hc; cases h; exact lv_pop hx hb hd (by rw [tr_cat]; exact hc) (kk H locs arr hR hl)
      · cases h
    · cases h
  · cases h; exact lv_goto hx hb hd (of_decide_eq_true ho) (kk H locs arr hR hl)
  · unfold s_get at h
    split at h
    · split at h
      · rename_i hv
        cases h
        exact r_get C hR (of_decide_eq_true ho) hG hv hd (kk H locs arr hR hl)
      · cases h
    · cases h
  · rename_i idx k j w
    have ho : ((decide ((M.1, idx, k, j) ∈ lfT) && ((cT k j).2.2.2 == false)) && (decide ((k, j) ∈ ifT) || decide ((k, j) ∈ jfT))) = true := ho
    rw [Bool.and_eq_true, Bool.and_eq_true, Bool.or_eq_true] at ho
    obtain ⟨⟨h1, h2⟩, h3⟩ := ho
    have h1 := of_decide_eq_true h1
    have h2 := eq_of_beq h2
    obtain ⟨hk8, hj, -⟩ := lfT_k _ h1
    unfold s_put at h
    split at h
    · rename_i hty
      cases h
      have h3 : (k, j) ∈ ifT := by
        rcases h3 with h3 | h3
        · exact of_decide_eq_true h3
        · have h4 := jfT_ty _ (of_decide_eq_true h3)
          rw [hty] at h4; cases h4
      exact r_put C hR h1 h2 hG (by rw [hty]; rfl) (by rw [hty]; rfl) hd (fun H1 locs1 q1 q2 => Rp.put2 (set_int hG hk8 h3 _) q1 q2) (fun H1 locs1 q => kk H1 locs1 arr q hl)
    · rename_i hty
      cases h
      have h3 : (k, j) ∈ ifT := by
        rcases h3 with h3 | h3
        · exact of_decide_eq_true h3
        · have h4 := jfT_ty _ (of_decide_eq_true h3)
          rw [hty] at h4; cases h4
      exact r_put C hR h1 h2 hG.1 (by rw [hty]; exact (nb_narrow hG.2).1) (by rw [hty]; exact (nb_narrow hG.2).2.1) hd (fun H1 locs1 q1 q2 => Rp.put2 (set_int hG.1 hk8 h3 _) q1 q2) (fun H1 locs1 q => kk H1 locs1 arr q hl)
    · rename_i hty
      cases h
      have h3 : (k, j) ∈ jfT := by
        rcases h3 with h3 | h3
        · have h4 := ifT_ty _ (of_decide_eq_true h3)
          dsimp only at h4
          rw [hty] at h4
          rcases h4 with h4 | h4 <;> cases h4
        · exact of_decide_eq_true h3
      exact r_put C hR h1 h2 hG (by rw [hty]; rfl) (by rw [hty]; rfl) hd (fun H1 locs1 q1 q2 => Rp.put3 (set_long hG hk8 h3 _) q1 q2) (fun H1 locs1 q => kk H1 locs1 arr q hl)
    · cases h
  · unfold s_iald at h
    split at h
    · cases h
      exact va_iald hx hb hK.1 hR.1 _ 0 (Rp.at hG.1 (by decide) (en_8 hG.1 _ _)) rfl hG.2 hd (kk H locs arr hR hl)
    · cases h
      obtain ⟨h1, h2, h3⟩ := hX (by
        refine Nat.pos_of_ne_zero fun e => ?_
        subst e
        exact hG (Or.inr (Nat.zero_le _)))
      exact va_sld hx hb h1 h2 h3 hR.2 hG hd (kk H locs arr hR hl)
    · cases h
  · split at h
    · cases h
      exact va_iast hx hb hK.1 hR.1 hD hR.2 _ 0 (Rp.at hG.1 (by decide) (en_8 hG.1 _ _)) rfl hG.2 hd (fun H1 locs1 q1 q2 q3 => kk H1 locs1 arr (Rp.put2 (en_8 hG.1 _ _) q1 q3) hl)
    · cases h
  · split at h
    · cases h
      exact va_lald hx hb hK.1 hR.1 _ 1 (Rp.at hG.1 (by decide) (en_9 hG.1 _ _)) rfl hG.2 hd (kk H locs arr hR hl)
    · cases h
  · split at h
    · cases h
      exact va_last hx hb hK.1 hR.1 hD hR.2 _ 1 (Rp.at hG.1 (by decide) (en_9 hG.1 _ _)) rfl hG.2 hd (fun H1 locs1 q1 q2 q3 => kk H1 locs1 arr (Rp.put3 (en_9 hG.1 _ _) q1 q3) hl)
    · cases h
  · split at h
    · cases h
      exact va_zald hx hb hK.1 hR.1 _ 2 (Rp.at hG.1 (by decide) (en_10 hG.1 _ _)) rfl hG.2 hd (kk H locs arr hR hl)
    · cases h
  · split at h
    · cases h
      refine va_zast hx hb hK.1 hR.1 hD hR.2 _ 2 (Rp.at hG.1 (by decide) (en_10 hG.1 _ _)) rfl hG.2.1 hd (fun H1 locs1 q1 q2 q3 => kk H1 locs1 arr (Rp.put2 (en_10 hG.1 _ _) ?_ q3) hl)
      rw [(nb_narrow hG.2.2).2.2] at q1
      exact q1
    · cases h
  · split at h
    · split at h
      · cases h
        exact va_aldq hx hb hK.1 hR.1 _ 3 (Rp.at hG.1 (by decide) (en_11 hG.1 _ _)) rfl hG.2 hd (kk H locs arr hR hl)
      · split at h
        · cases h
          exact r_aald12 hx hb hK.1 hR.1 (Rp.at hG.1 (by decide) (en_12 hG.1 _ _)) hG.2 hd (kk H locs arr hR hl)
        · cases h
    · cases h
  · unfold s_alen at h
    split at h
    · cases h
      exact va_alen hx hb hK.1 hR.1 _ 0 (Rp.at hG (by decide) (en_8 hG _ _)) rfl rfl hd (kk H locs arr hR hl)
    · cases h
      obtain ⟨h1, h2, h3⟩ := hX hG
      exact va_slen hx hb h1 h2 h3 hR.2 hd (kk H locs arr hR hl)
    · cases h
  · cases h
end R2
end
section
/-! blocks, branches, ends -/
def rb (nL L : Nat) (xs : Nat → Int32) (ops : List OP) (a : AS) : Option (Prop × AS) := match ops with
  | [] => some (True, a)
  | op :: r => match stp nL L xs op a.1 a.2.1 a.2.2.1 a.2.2.2.1 a.2.2.2.2 with
    | some (G, a1) => match rb nL L xs r a1 with
      | some (G1, a2) => some (G ∧ G1, a2)
      | none => none
    | none => none
def nxt (op : OP) (pc : Nat) : Nat := match op.1 with
  | .goto _ => op.2.2.1
  | _ => pc + op.2.1
def chk (M : MD) (ops : List OP) (pc : Nat) : Bool := match ops with
  | [] => true
  | op :: r => decide (decode M.2.2.1 pc = .ok (op.1, op.2.1)) && (opOk M.1 op pc && chk M r (nxt op pc))
theorem stp_pc {nL L : Nat} {xs : Nat → Int32} {op : OP} {pc pc' : Nat} {ls ls' : List (Option Value)} {st st' : List Value} {I I' : T2} {J J' : T3} {G : Prop} (h : stp nL L xs op pc ls st I J = some (G, pc', ls', st', I', J')) : pc' = nxt op pc := by
  unfold stp at h
  split at h
  all_goals first
    | (cases h; done)
    | (cases h; rfl)
    | (obtain ⟨_, _, _, rfl, _⟩ := k_ld h; rfl)
    | (obtain ⟨_, _, _, _, _, rfl, _⟩ := k_is h; rfl)
    | (obtain ⟨_, _, _, _, _, rfl, _⟩ := k_as h; rfl)
    | (obtain ⟨_, _, _, _, _, rfl, _⟩ := k_ls h; rfl)
    | (obtain ⟨_, _, _, _, _, rfl, _⟩ := k_bi h; rfl)
    | (obtain ⟨_, _, _, _, _, rfl, _⟩ := k_bl h; rfl)
    | (unfold s_get at h; split at h <;> first | (cases h; done) | (split at h <;> first | (cases h; done) | (cases h; rfl)))
    | (unfold s_put at h; split at h <;> first | (cases h; done) | (cases h; rfl))
    | (unfold s_iald at h; split at h <;> first | (cases h; done) | (cases h; rfl))
    | (unfold s_alen at h; split at h <;> first | (cases h; done) | (cases h; rfl))
    | (split at h <;> first | (cases h; done) | (cases h; rfl) | (split at h <;> first | (cases h; done) | (cases h; rfl) | (split at h <;> first | (cases h; done) | (cases h; rfl))))
/-- how a method ends: it returns, or throws something of a class -/
abbrev Out : Type := Option Value ⊕ String
/-- the room for d calls more, Z things more -/
def Rm (R : Room) (d k0 w0 Z : Nat) : Prop := d + 3 ≤ R.frames ∧ 32 * d + 100 ≤ R.locals ∧ k0 + Z ≤ R.cells ∧ w0 + 6 * Z ≤ R.slots
def rtOk (ins : Instr) (v : Option Value) (ret : Option FieldType) : Prop := match ins, v with
  | .ireturn, some (.int x) => ret = some .int ∨ (ret = some .boolean ∧ (x = 0 ∨ x = 1))
  | .lreturn, some (.long _) => ret = some .long
  | .areturn, some (.ref _) => ∃ n, ret = some (.object n)
  | .return_, none => ret = none
  | _, _ => False
def RT (p : Program) (l : Launch) (e : Env) (R : Room) (s : State) (m : MethodId) (args : Array Value) (below : List Frame) (meth : Method) (c : Code) (Q : State → Prop) (D : va_G) (cy : Nat → ClassId) (b bs k0 w0 Z : Nat) (M : MD) (Φ : Out → T2 → T3 → Nat → Prop) : Prop :=
  ∀ (ins : Instr) (v : Option Value) (I' : T2) (J' : T3) (z' : Nat) (H' : Heap) (locs' : List Loc) (arr' : Array Slot) (pcr : Nat), Φ (.inl v) I' J' z' → z' ≤ Z → Rp D cy b I' J' s.heap H' locs' → decode M.2.2.1 pcr = .ok (ins, 1) → rtOk ins v M.2.2.2.2.1 → W p l e R s m args below meth c H' locs' (k0 + z') (w0 + 6 * z') Q (F0 m pcr arr' (v.toList.map (tr b bs)))
def TH (s : State) (args : Array Value) (below : List Frame) (Q : State → Prop) (D : va_G) (cy : Nat → ClassId) (b k0 w0 Z : Nat) (Φ : Out → T2 → T3 → Nat → Prop) : Prop :=
  (∀ E I' J' z', ¬ Φ (.inr E) I' J' z') ∨ ∃ (Qc : Array Value → State → Outcome → State → Prop) (XC : String → State → State → Prop), Q = vx_MQ below Qc XC args s Z (6 * Z) (fun q => b ≤ q) ∧ k0 = 0 ∧ w0 = 0 ∧ ∀ E I' J' z' t, Φ (.inr E) I' J' z' → va_P D vwCl (wl b 159 (En b cy I' J')) t.heap → va_F (fun q => b ≤ q) s t → XC E s t
/-- from this place of the method M on, in any machine, all goes well, and what comes out of it meets Φ -/
def Ev (d Z L : Nat) (xs : Nat → Int32) (M : MD) (pc : Nat) (ls : List (Option Value)) (st : List Value) (I : T2) (J : T3) (z : Nat) (Φ : Out → T2 → T3 → Nat → Prop) : Prop :=
  ∀ (l : Launch) (p : Program) (e : Env) (R : Room) (s : State) (m : MethodId) (args : Array Value) (below : List Frame) (meth : Method) (c : Code) (D : va_G) (cy : Nat → ClassId) (b bs k0 w0 : Nat) (Q : State → Prop), Cx l p s m args meth c D cy b bs L xs M → Rm R d k0 w0 Z → RT p l e R s m args below meth c Q D cy b bs k0 w0 Z M Φ → TH s args below Q D cy b k0 w0 Z Φ → KK p l e R s m args below meth c (k0 + z) (w0 + 6 * z) Q D cy b bs M.2.2.2.1 pc ls st I J
section E1
variable {d Z L : Nat} {xs : Nat → Int32} {M : MD} {pc pc' : Nat} {ls ls' : List (Option Value)} {st st' : List Value} {I I' : T2} {J J' : T3} {z : Nat} {Φ : Out → T2 → T3 → Nat → Prop} {G : Prop}
theorem Ev.blk {ops : List OP} (hc : chk M ops pc = true) (h : rb M.2.2.2.1 L xs ops (pc, ls, st, I, J) = some (G, pc', ls', st', I', J')) (hG : G) (k : Ev d Z L xs M pc' ls' st' I' J' z Φ) : Ev d Z L xs M pc ls st I J z Φ := by
  induction ops generalizing pc ls st I J G with
  | nil => cases h; exact k
  | cons op r ih =>
    unfold chk at hc
    rw [Bool.and_eq_true, Bool.and_eq_true] at hc
    obtain ⟨h1, h2, h3⟩ := hc
    unfold rb at h
    split at h
    · rename_i G0 a1 hs
      obtain ⟨pc1, ls1, st1, I1, J1⟩ := a1
      split at h
      · rename_i G1 a2 hr
        cases h
        have hp := stp_pc hs
        subst hp
        intro l p e R s m args below meth c D cy b bs k0 w0 Q C hRm hRT hTH H locs arr hR hl
        exact stp_ok C (of_decide_eq_true h1) h2 hs hG.1 hR hl (ih h3 hr hG.2 l p e R s m args below meth c D cy b bs k0 w0 Q C hRm hRT hTH)
      · cases h
    · cases h
def cmpI (o : ClassFile.Cond) (x y : Int32) : Prop := match o with
  | .eq => x = y
  | .ne => ¬ x = y
  | .lt => x < y
  | .ge => y ≤ x
  | .gt => y < x
  | .le => x ≤ y
def cmp0 (o : ClassFile.Cond) (x : Int32) : Prop := match o with
  | .eq => x = 0
  | .ne => ¬ x = 0
  | .lt => x < 0
  | .ge => 0 ≤ x
  | .gt => 0 < x
  | .le => x ≤ 0
theorem Ev.ic {o : ClassFile.Cond} {x y : Int32} {off : Int} (tgt : Nat) (hd : decode M.2.2.1 pc = .ok (.if_icmp o off, 3)) (ht : (pc : Int) + off = (tgt : Int)) (kt : cmpI o x y → Ev d Z L xs M tgt ls st I J z Φ) (kf : ¬ cmpI o x y → Ev d Z L xs M (pc + 3) ls st I J z Φ) : Ev d Z L xs M pc ls (.int y :: .int x :: st) I J z Φ := by
  intro l p e R s m args below meth c D cy b bs k0 w0 Q C hRm hRT hTH H locs arr hR hl
  have a := fun h => kt h l p e R s m args below meth c D cy b bs k0 w0 Q C hRm hRT hTH H locs arr hR hl
  have b' := fun h => kf h l p e R s m args below meth c D cy b bs k0 w0 Q C hRm hRT hTH H locs arr hR hl
  obtain ⟨hx, hb, -⟩ := C
  cases o
  · exact lv_icmp_eq hx hb hd ht a b'
  · exact lv_icmp_ne hx hb hd ht a (fun h => b' (fun q => q h))
  · exact lv_icmp_lt hx hb hd ht a b'
  · exact lv_icmp_ge hx hb hd ht a b'
  · exact lv_icmp_gt hx hb hd ht a b'
  · exact lv_icmp_le hx hb hd ht a b'
theorem Ev.i0 {o : ClassFile.Cond} {x : Int32} {off : Int} (tgt : Nat) (hd : decode M.2.2.1 pc = .ok (.ifCond o off, 3)) (ht : (pc : Int) + off = (tgt : Int)) (kt : cmp0 o x → Ev d Z L xs M tgt ls st I J z Φ) (kf : ¬ cmp0 o x → Ev d Z L xs M (pc + 3) ls st I J z Φ) : Ev d Z L xs M pc ls (.int x :: st) I J z Φ := by
  intro l p e R s m args below meth c D cy b bs k0 w0 Q C hRm hRT hTH H locs arr hR hl
  have a := fun h => kt h l p e R s m args below meth c D cy b bs k0 w0 Q C hRm hRT hTH H locs arr hR hl
  have b' := fun h => kf h l p e R s m args below meth c D cy b bs k0 w0 Q C hRm hRT hTH H locs arr hR hl
  obtain ⟨hx, hb, -⟩ := C
  cases o
  · exact lv_if_eq hx hb hd ht a b'
  · exact lv_if_ne hx hb hd ht a (fun h => b' (fun q => q h))
  · exact lv_if_lt hx hb hd ht a b'
  · exact lv_if_ge hx hb hd ht a b'
  · exact lv_if_gt hx hb hd ht a b'
  · exact lv_if_le hx hb hd ht a b'
theorem Ev.ret {ins : Instr} (v : Option Value) (hd : decode M.2.2.1 pc = .ok (ins, 1)) (ho : rtOk ins v M.2.2.2.2.1) (hz : z ≤ Z) (h : Φ (.inl v) I J z) (hst : st = v.toList) : Ev d Z L xs M pc ls st I J z Φ := by
  intro l p e R s m args below meth c D cy b bs k0 w0 Q C hRm hRT hTH H locs arr hR hl
  subst hst
  exact hRT ins v I J z H locs arr pc h hz hR hd ho
theorem Ev.mono {Φ' : Out → T2 → T3 → Nat → Prop} (h : Ev d Z L xs M pc ls st I J z Φ) (hΦ : ∀ o I' J' z', Φ o I' J' z' → Φ' o I' J' z') : Ev d Z L xs M pc ls st I J z Φ' := by
  intro l p e R s m args below meth c D cy b bs k0 w0 Q C hRm hRT hTH
  refine h l p e R s m args below meth c D cy b bs k0 w0 Q C hRm (fun ins v I' J' z' H' locs' arr' pcr q => hRT ins v I' J' z' H' locs' arr' pcr (hΦ _ _ _ _ q)) ?_
  rcases hTH with h1 | ⟨Qc, XC, h1, h2, h3, h4⟩
  · exact Or.inl fun E I' J' z' q => h1 E I' J' z' (hΦ _ _ _ _ q)
  · exact Or.inr ⟨Qc, XC, h1, h2, h3, fun E I' J' z' t q => h4 E I' J' z' t (hΦ _ _ _ _ q)⟩
end E1
/-! contracts -/
def rmD (d Z : Nat) : Room := { frames := d + 3, cells := Z, slots := 6 * Z, locals := 32 * d + 100 }
def Pcm (D : va_G) (cy : Nat → ClassId) (b : Nat) (As : List Value) (I : T2) (J : T3) : Array Value → State → Prop := fun a U => a = (As.map (tr b 0)).toArray ∧ KS D cy b U U.heap ∧ va_P D vwCl (wl b 159 (En b cy I J)) U.heap
def Qcm (D : va_G) (cy : Nat → ClassId) (b : Nat) (Ψ : Option Value → T2 → T3 → Prop) : Array Value → State → Outcome → State → Prop := fun _ st o t => (∃ (v : Option Value) (I' : T2) (J' : T3), o = .returned (v.map (tr b 0)) ∧ (∀ w, v = some w → notRA w = true) ∧ Ψ v I' J' ∧ va_P D vwCl (wl b 159 (En b cy I' J')) t.heap) ∧ va_F (fun q => b ≤ q) st t
def wsM (M : MD) : List Cond := .code M.2.1 M.2.2.1 M.2.2.2.1 M.2.2.2.2.1 :: wAll
/-- a method that returns: from the state (I, J) with the arguments As it comes back, and its answer and the state behind it meet Ψ -/
def Mt (d : Nat) (M : MD) (As : List Value) (I : T2) (J : T3) (Ψ : Option Value → T2 → T3 → Prop) : Prop :=
  ∀ (l : Launch) (D : va_G) (cy : Nat → ClassId) (b : Nat), l.stackTraces = false → Met l M.2.1 (wsM M) (rmD d 0) (Pcm D cy b As I J) (Qcm D cy b Ψ) 0 0 (fun q => b ≤ q)
theorem KS.moved {D : va_G} {cy : Nat → ClassId} {b : Nat} {s U : State} {H H1 : Heap} (hW : s.WarmedH U.vm) (h : KS D cy b s H) (hq : ∀ a : Nat, a < H.size → ¬ b ≤ a → H1[a]? = H[a]?) : KS D cy b U H1 := by
  obtain ⟨h1, h2, h3, h4, h5⟩ := h
  refine ⟨va_K.moved hW.alike h1, fun w hw => ?_, vx_Zq.kept (vx_Zq.moved hW.alike h3) hq, vx_Zq.kept (vx_Zq.moved hW.alike h4) hq, fun x hx y hy hne => (h5 x hx y hy hne).moved hW.alike⟩
  have hn := (List.mem_filter.mp hw).2
  have h2 := h2 w hw
  unfold isNest at hn
  split at hn
  · exact va_Nw.warmF hW h2
  · exact va_Nw.warmM hW h2
  · exact va_Nw.warmD hW h2
  · exact va_Nw.warmC hW h2
  · cases hn
theorem KS.same {D : va_G} {cy : Nat → ClassId} {b : Nat} {s U : State} {H : Heap} (hv : s.vm = U.vm) (h : KS D cy b s H) : KS D cy b U H := by
  obtain ⟨h1, h2, h3, h4, h5⟩ := h
  have ha : s.vm.Alike U.vm := by rw [hv]; exact Vm.Alike.refl _
  refine ⟨va_K.moved ha h1, fun w hw => ?_, vx_Zq.moved ha h3, vx_Zq.moved ha h4, fun x hx y hy hne => (h5 x hx y hy hne).moved ha⟩
  have hn := (List.mem_filter.mp hw).2
  have h2 := h2 w hw
  unfold isNest at hn
  split at hn
  · exact va_Nw.same rfl hv h2
  · exact va_Nw.same rfl hv h2
  · exact va_Nw.same rfl hv h2
  · exact va_Nw.same rfl hv h2
  · cases hn
theorem Pcm.blind {D : va_G} {cy : Nat → ClassId} {b : Nat} {As : List Value} {I : T2} {J : T3} : FrameBlind (Pcm D cy b As I J) := by
  intro a U g mk h
  obtain ⟨h1, h2, h3⟩ := h
  exact ⟨h1, KS.same (s := U) rfl h2, h3⟩
/-- the locals at the entry -/
def lsA (As : List Value) : List (Option Value) := As.flatMap fun v => if v.category = 2 then [some v, none] else [some v]
def lsE (nL : Nat) (As : List Value) : List (Option Value) := lsA As ++ List.replicate (nL - (lsA As).length) none
end
section
/-! from Ev to a contract; calls -/
theorem lsA_at {b : Nat} : ∀ (As : List Value) (i : Nat) (v : Value), (lsA As)[i]? = some (some v) → (lg_sl (As.map (tr b 0)))[i]? = some (.val (tr b 0 v)) := by
  intro As
  induction As with
  | nil => intro i v h; simp [lsA] at h
  | cons a r ih =>
    intro i v h
    have e1 : lsA (a :: r) = (if a.category = 2 then [some a, none] else [some a]) ++ lsA r := by simp [lsA]
    have e2 : lg_sl ((a :: r).map (tr b 0)) = (if a.category = 2 then [.val (tr b 0 a), .second] else [.val (tr b 0 a)]) ++ lg_sl (r.map (tr b 0)) := by simp [lg_sl, tr_cat]
    rw [e1] at h
    rw [e2]
    by_cases hc : a.category = 2
    · rw [if_pos hc] at h ⊢
      match i, h with
      | 0, h => simp at h; subst h; rfl
      | 1, h => simp at h
      | i + 2, h => simp at h ⊢; exact ih i v h
    · rw [if_neg hc] at h ⊢
      match i, h with
      | 0, h => simp at h; subst h; rfl
      | i + 1, h => simp at h ⊢; exact ih i v h
theorem lsA_len (b : Nat) (As : List Value) : (lg_sl (As.map (tr b 0))).length = (lsA As).length := by
  induction As with
  | nil => rfl
  | cons a r ih =>
    have e1 : lsA (a :: r) = (if a.category = 2 then [some a, none] else [some a]) ++ lsA r := by simp [lsA]
    have e2 : lg_sl ((a :: r).map (tr b 0)) = (if a.category = 2 then [.val (tr b 0 a), .second] else [.val (tr b 0 a)]) ++ lg_sl (r.map (tr b 0)) := by simp [lg_sl, tr_cat]
    rw [e1, e2, List.length_append, List.length_append, ih]
    by_cases hc : a.category = 2 <;> simp [hc]
theorem lvh_entry {b nL : Nat} {As : List Value} (h : (lsA As).length ≤ nL) : lvh ((lg_sl (As.map (tr b 0)) ++ List.replicate (nL - (lg_sl (As.map (tr b 0))).length) Slot.unset).toArray) nL b 0 (lsE nL As) := by
  have hh := lv_entry (As.map (tr b 0)) (n := nL) (by rw [lsA_len]; exact h)
  refine ⟨hh.1, hh.2.1, fun i v hv => ?_⟩
  unfold lsE at hv
  by_cases hi : i < (lsA As).length
  · rw [List.getElem?_append_left hi] at hv
    have h2 := lsA_at (b := b) As i v hv
    rw [List.getElem?_toArray, List.getElem?_append_left (by rw [lsA_len]; exact hi)]
    exact h2
  · rw [List.getElem?_append_right (by omega)] at hv
    have := List.mem_of_getElem? hv
    have h3 := (List.mem_replicate.mp this).2
    cases h3
theorem rt_notRA {ins : Instr} {v : Option Value} {ret : Option FieldType} (h : rtOk ins v ret) : ∀ w, v = some w → notRA w = true := by
  intro w hw
  unfold rtOk at h
  split at h
  · cases hw; rfl
  · cases hw; rfl
  · cases hw; rfl
  · cases hw
  · exact h.elim
set_option maxHeartbeats 2000000 in
theorem rt_W {p : Program} {l : Launch} {e : Env} {R : Room} {s : State} {m : MethodId} {args : Array Value} {below : List Frame} {meth : Method} {c : Code} {H : Heap} {locs : List Loc} {cells slots : Nat} {arr : Array Slot} {pc b bs : Nat} {ins : Instr} {v : Option Value} {ret : Option FieldType} {cc : ByteArray} {Qc : Array Value → State → Outcome → State → Prop} {free : Addr → Prop}
    (hx : p.tables.exec = Jvm.exec) (hb : c.code = cc) (hr : meth.sig.returnType = ret) (hlk : meth.locks = false) (ho : rtOk ins v ret) (hd : decode cc pc = .ok (ins, 1)) (hq : ∀ t : State, t.heap = H → s.WarmedH t.vm → Qc args s (.returned (v.map (tr b bs))) t) (hf : ∀ q ∈ locs, free q.base) : W p l e R s m args below meth c H locs cells slots (MQ below Qc args s cells slots free) (F0 m pc arr (v.toList.map (tr b bs))) := by
  unfold rtOk at ho
  split at ho
  · rcases ho with ho | ⟨ho, h1⟩
    · exact W.iret hx hb (hr.trans ho) hq hf hd hlk
    · exact W.zret (ty := .boolean) hx hb (hr.trans ho) (nb_narrow h1).1 hq hf hd hlk
  · exact W.lret hx hb (hr.trans ho) hq hf hd hlk
  · obtain ⟨n, ho⟩ := ho
    exact W.aret hx hb (hr.trans ho) (Or.inl ⟨n, rfl⟩) (Or.inr ⟨_, rfl⟩) hq hf hd hlk
  · exact W.vret hx hb (hr.trans ho) hq hf hd hlk
  · exact ho.elim
theorem wAll_hts {M : MD} {args : Array Value} {s : State} (h : ∀ w ∈ wsM M, w.before args s = true) : ∀ w ∈ wAll, w.before args s = true := fun w hw => h w (List.mem_cons_of_mem _ hw)
/-- what is fixed of a method that has no handlers -/
def mOk (M : MD) : Bool := plainName M.2.1.cls && decide (M.2.1.cls = cC M.1) && M.2.2.2.2.2.isEmpty
set_option maxHeartbeats 2000000 in
theorem Mt.of {d : Nat} {M : MD} {As : List Value} {I : T2} {J : T3} {Ψ : Option Value → T2 → T3 → Prop} (hM : mOk M = true) (hlen : (lsA As).length ≤ M.2.2.2.1) (h : Ev d 0 0 (fun _ => 0) M 0 (lsE M.2.2.2.1 As) [] I J 0 (fun o I' J' _ => ∃ v, o = .inl v ∧ Ψ v I' J')) : Mt d M As I J Ψ := by
  intro l D cy b htr
  unfold mOk at hM
  rw [Bool.and_eq_true, Bool.and_eq_true] at hM
  obtain ⟨⟨hM1, hM2⟩, hM3⟩ := hM
  have hM2 := of_decide_eq_true hM2
  have hM3 := List.isEmpty_iff.mp hM3
  refine Met.ofW (cc := M.2.2.1) (maxL := M.2.2.2.1) (ret := M.2.2.2.2.1) hM1 rfl ?_
  intro p e s m args below meth c s₁ B hml hv
  obtain ⟨rfl, hK, hP⟩ := hv
  have hts0 := atoms_spec (ws := wsM M) B.pre
  have hown : s.vm.findClass (cC M.1) = some m.cls := by rw [← hM2]; exact findClass_of_methodNamed B.named
  have hex : c.exceptionTable.toList = tableOf M.2.2.2.2.2 := by
    rw [hM3, Array.isEmpty_iff.mp (B.noHandlers (hts0 _ List.mem_cons_self))]
    rfl
  have C : Cx l p s m ((As.map (tr b 0)).toArray) meth c D cy b 0 0 (fun _ => 0) M := ⟨B.exec, B.bytes, hml, hown, B.returns, B.notSynchronized, wAll_hts hts0, hK, fun q => absurd q (Nat.lt_irrefl 0), htr, hex⟩
  rw [lg_entry_eq]
  refine h l p e _ s m _ below meth c D cy b 0 0 0 _ C ⟨Nat.le_refl _, Nat.le_refl _, Nat.le_refl _, Nat.le_refl _⟩ ?_ (Or.inl fun E I' J' z' q => by obtain ⟨v, q, -⟩ := q; cases q) s.heap [] _ ⟨hP, va_S.rf⟩ (lvh_entry hlen)
  intro ins v I' J' z' H' locs' arr' pcr hΦ hz hR hd ho
  obtain ⟨v', e1, hΨ⟩ := hΦ
  cases e1
  obtain rfl : z' = 0 := by omega
  exact rt_W B.exec B.bytes B.returns B.notSynchronized ho hd (fun t ht hW => ⟨⟨v, I', J', rfl, rt_notRA ho, hΨ, by rw [ht]; exact hR.1⟩, hR.2.F ht⟩) hR.2.2.2
/-! links of calls -/
def lkB (N : MD) (n : Nat) : Bool := decide (Cond.code N.2.1 N.2.2.1 N.2.2.2.1 N.2.2.2.2.1 ∈ wAll) && decide (Cond.initialized N.2.1.cls ∈ wAll) && decide (N.2.1.cls ≠ "java/lang/invoke/MethodHandle") && decide (N.2.1.cls ≠ "java/lang/invoke/VarHandle") && decide ((parseMethodDescriptor N.2.1.desc).map (fun d => d.parameters.length) = some n) && decide (N.2.2.2.1 ≤ 13)
def lkS (own i : Nat) (N : MD) : Bool := decide (Cond.methodLink (cC own) i N.2.1 ∈ wAll) && decide (Cond.static N.2.1 ∈ wAll)
def lkN (own i : Nat) (N : MD) : Bool := decide (Cond.methodLinkNest (cC own) i N.2.1 "QuotaDesk" ∈ nwL) && decide (Cond.static N.2.1 ∈ wAll)
def lkV (own i : Nat) (N : MD) : Bool := decide (Cond.methodLink (cC own) i N.2.1 ∈ wAll) && decide (Cond.instanceMethod N.2.1 ∈ wAll) && decide (Cond.selects N.2.1.cls N.2.1 N.2.1 ∈ wAll) && decide (N.2.1.cls = cC N.1) && decide (N.1 < 8)
theorem lkB_spec {N : MD} {n : Nat} (h : lkB N n = true) : Cond.code N.2.1 N.2.2.1 N.2.2.2.1 N.2.2.2.2.1 ∈ wAll ∧ Cond.initialized N.2.1.cls ∈ wAll ∧ (N.2.1.cls ≠ "java/lang/invoke/MethodHandle" ∧ N.2.1.cls ≠ "java/lang/invoke/VarHandle") ∧ (∀ sig, parseMethodDescriptor N.2.1.desc = some sig → n = sig.parameters.length) ∧ N.2.2.2.1 ≤ 13 := by
  unfold lkB at h
  simp only [Bool.and_eq_true, decide_eq_true_eq] at h
  obtain ⟨⟨⟨⟨⟨h1, h2⟩, h3⟩, h4⟩, h5⟩, h6⟩ := h
  refine ⟨h1, h2, ⟨h3, h4⟩, fun sig hs => ?_, h6⟩
  rw [hs] at h5
  exact (Option.some.inj h5).symm
theorem wAll_pay {args : Array Value} {s : State} {N : MD} (hts : ∀ w ∈ wAll, w.before args s = true) (hc : Cond.code N.2.1 N.2.2.1 N.2.2.2.1 N.2.2.2.2.1 ∈ wAll) : ∀ w ∈ wsM N, ∀ (a' : Array Value) (U : State), s.WarmedH U.vm → w.before a' U = true := by
  intro w hw a' U hW
  have hw' : w ∈ wAll := by
    rcases List.mem_cons.mp hw with e | h
    · rw [e]; exact hc
    · exact h
  exact word_at hW (good_of_word (wAll_good hw')) (hts w hw')
theorem callB_my {R : Room} {s : State} {args : Array Value} {own i d n k0 w0 Z : Nat} {N : MD} (hts : ∀ w ∈ wAll, w.before args s = true) (hB : lkB N n = true) (hR : Rm R (d + 1) k0 w0 Z) (hl : (Cond.methodLink (cC own) i N.2.1).before args s = true) :
    CallB R s args (cC own) i N.2.1 N.2.2.1 N.2.2.2.1 N.2.2.2.2.1 (wsM N) (rmD d 0) 0 0 n := by
  obtain ⟨h1, h2, h3, h4, h5⟩ := lkB_spec hB
  obtain ⟨r1, r2, r3, r4⟩ := hR
  refine ⟨rfl, rfl, ?_, ?_, wAll_pay hts h1, List.mem_cons_self, hts _ h1, hts _ h2, h3, h4, hl⟩
  · show d + 3 + 1 ≤ R.frames
    omega
  · show 8 + (N.2.2.2.1 + 11) + (32 * d + 100) ≤ R.locals
    omega
theorem pre_my {D : va_G} {cy : Nat → ClassId} {b bs : Nat} {s : State} {H : Heap} {locs : List Loc} {As : List Value} {I : T2} {J : T3} (hK : KS D cy b s s.heap) (hR : Rp D cy b I J s.heap H locs) (hA : As.all notRA = true) : PreS s H (Pcm D cy b As I J) (As.map (tr b bs)) := by
  refine ⟨Pcm.blind, fun U hU hW => ⟨?_, ?_, ?_⟩⟩
  · congr 1
    exact List.map_congr_left fun v hv => tr_notRA (List.all_eq_true.mp hA v hv) b bs 0
  · rw [hU]
    exact hK.moved hW (fun a h1 h2 => hR.2.2.1 a h1 h2)
  · rw [hU]; exact hR.1
section E2
variable {p : Program} {l : Launch} {e : Env} {R : Room} {s : State} {m : MethodId} {args : Array Value} {below : List Frame} {meth : Method} {c : Code} {H : Heap} {locs : List Loc} {cells slots : Nat} {Q : State → Prop}
variable {D : va_G} {cy : Nat → ClassId} {b bs : Nat} {I : T2} {J : T3} {arr : Array Slot} {pc : Nat} {rest : List Value} {st0 : List Value} {a : Array Value} {Ψ : Option Value → T2 → T3 → Prop} {nL : Nat} {ls : List (Option Value)}
/-- behind a call that returns -/
theorem call_go (hr : va_Run p l e R s m args below meth c H locs cells slots 0 0 (F0 m pc arr st0) (rest.map (tr b bs)) (Qcm D cy b Ψ a) (fun q => b ≤ q)) (hR : Rp D cy b I J s.heap H locs) (hl : lvh arr nL b bs ls)
    (kk : ∀ v I' J', Ψ v I' J' → KK p l e R s m args below meth c cells slots Q D cy b bs nL (pc + 3) ls (v.toList ++ rest) I' J') : W p l e R s m args below meth c H locs cells slots Q (F0 m pc arr st0) := by
  intro T hT X
  obtain ⟨v, st₀, t, T', Ls, h0, X', hL, e1, e2, ⟨⟨v', I', J', hv, hn, hΨ, hP⟩, hF⟩, st⟩ := hr T hT X
  have hv' : v = v'.map (tr b 0) := Outcome.returned.inj hv
  subst hv'
  have hz : H.size ≤ T'.heap.size := by rw [e1, ← h0]; exact hF.1
  have hS : va_S (fun q => b ≤ q) s.heap T'.heap (locs ++ Ls) := by
    refine ⟨Nat.le_trans hR.2.1 hz, fun q h1 h2 => ?_, fun q hq => ?_⟩
    · rw [e1, hF.2 q (by rw [h0]; exact Nat.lt_of_lt_of_le h1 hR.2.1) h2, h0]
      exact hR.2.2.1 q h1 h2
    · rcases List.mem_append.mp hq with h | h
      · exact hR.2.2.2 q h
      · exact hL q h
  obtain ⟨t2, a1, b1⟩ := kk v' I' J' hΨ T'.heap (locs ++ Ls) arr ⟨by rw [e1]; exact hP, hS⟩ hl T' rfl X'
  refine ⟨t2, st t2 ?_, b1⟩
  have e3 : (v'.map (tr b 0)).toList ++ rest.map (tr b bs) = (v'.toList ++ rest).map (tr b bs) := by
    cases v' with
    | none => rfl
    | some w => show tr b 0 w :: _ = tr b bs w :: _; rw [tr_notRA (hn w rfl) b 0 bs]; rfl
  show Steps p.tables e below (T'.setTop (F0 m (pc + 3) arr ((v'.map (tr b 0)).toList ++ rest.map (tr b bs)))) t2
  rw [e3]
  exact a1
end E2
theorem sum_tr (b bs : Nat) (r : List Value) : ((r.map (tr b bs)).map fun v => v.category).sum = (r.map fun v => v.category).sum := by
  rw [List.map_map]
  congr 1
  exact List.map_congr_left fun v _ => tr_cat b bs v
section E3
variable {d Z L : Nat} {xs : Nat → Int32} {M N : MD} {pc i n : Nat} {ls : List (Option Value)} {rest As : List Value} {I : T2} {J : T3} {z : Nat} {Φ : Out → T2 → T3 → Nat → Prop} {Ψ : Option Value → T2 → T3 → Prop}
/-- a static method is called -/
theorem Ev.callS (hM : Mt d N As I J Ψ) (hd : decode M.2.2.1 pc = .ok (.invokestatic i, 3)) (hB : lkB N n = true) (hl : lkS M.1 i N = true ∨ lkN M.1 i N = true) (hn : As.length = n) (hA : As.all notRA = true) (hw : (rest.map fun v => v.category).sum ≤ 8) {st : List Value} (hst : st = As.reverse ++ rest) (hz : z ≤ Z)
    (k : ∀ v I' J', Ψ v I' J' → Ev (d + 1) Z L xs M (pc + 3) ls (v.toList ++ rest) I' J' z Φ) : Ev (d + 1) Z L xs M pc ls st I J z Φ := by
  subst hst
  intro l p e R s m args below meth c D cy b bs k0 w0 Q C hRm hRT hTH H locs arr hR hlv
  obtain ⟨hx, hb, hml, hown, hr, hlk, hts, hK, hX, htr, hex⟩ := id C
  have hroom : k0 + z + 0 ≤ R.cells ∧ w0 + 6 * z + 0 ≤ R.slots := by obtain ⟨-, -, h3, h4⟩ := hRm; omega
  have hstk : (As.reverse ++ rest).map (tr b bs) = (As.map (tr b bs)).reverse ++ rest.map (tr b bs) := by rw [List.map_append, List.map_reverse]
  have hgo : va_Run p l e R s m args below meth c H locs (k0 + z) (w0 + 6 * z) 0 0 (F0 m pc arr ((As.reverse ++ rest).map (tr b bs))) (rest.map (tr b bs)) (Qcm D cy b Ψ (As.map (tr b bs)).toArray) (fun q => b ≤ q) := by
    rcases hl with hl | hl
    · unfold lkS at hl
      simp only [Bool.and_eq_true, decide_eq_true_eq] at hl
      exact va_runS (n := n) ⟨hx, hb, hml, hown, hts⟩ (hM l D cy b htr) ⟨callB_my hts hB hRm (hts _ hl.1), hts _ hl.2⟩ (pre_my hK hR hA) rfl (by rw [List.length_map]; exact hn) hlv.1 hstk (lv_room (by rw [sum_tr]; exact hw)) hd hroom
    · unfold lkN at hl
      simp only [Bool.and_eq_true, decide_eq_true_eq] at hl
      obtain ⟨h1, h2, h3, h4, h5⟩ := lkB_spec hB
      have hRm' := hRm
      obtain ⟨r1, r2, r3, r4⟩ := hRm'
      refine va_runSN (n := n) (host := "QuotaDesk") ⟨hx, hb, hml, hown, hts⟩ (hM l D cy b htr) ⟨⟨⟨rfl, rfl, ?_, ?_, wAll_pay hts h1, List.mem_cons_self⟩, hts _ h1, hts _ h2, h3, h4, va_Nw.use rfl (hK.2.1 _ hl.1)⟩, hts _ hl.2, trivial⟩ (pre_my hK hR hA) rfl (by rw [List.length_map]; exact hn) hlv.1 hstk (lv_room (by rw [sum_tr]; exact hw)) hd hroom
      · show d + 3 + 1 ≤ R.frames
        omega
      · show 8 + (N.2.2.2.1 + 11) + (32 * d + 100) ≤ R.locals
        omega
  exact call_go hgo hR hlv (fun v I' J' q => k v I' J' q l p e R s m args below meth c D cy b bs k0 w0 Q C hRm hRT hTH)
/-- a method of an object of ours is called -/
theorem Ev.callV {o : Nat} (hM : Mt d N (.ref o :: As) I J Ψ) (hd : decode M.2.2.1 pc = .ok (.invokevirtual i, 3)) (hB : lkB N n = true) (hl : lkV M.1 i N = true) (hk : kd o = N.1) (hn : As.length = n) (hA : As.all notRA = true) (hw : (rest.map fun v => v.category).sum ≤ 8) {st : List Value} (hst : st = As.reverse ++ .ref o :: rest) (hz : z ≤ Z)
    (k : ∀ v I' J', Ψ v I' J' → Ev (d + 1) Z L xs M (pc + 3) ls (v.toList ++ rest) I' J' z Φ) : Ev (d + 1) Z L xs M pc ls st I J z Φ := by
  subst hst
  intro l p e R s m args below meth c D cy b bs k0 w0 Q C hRm hRT hTH H locs arr hR hlv
  obtain ⟨hx, hb, hml, hown, hr, hlk, hts, hK, hX, htr, hex⟩ := id C
  have hroom : k0 + z + 0 ≤ R.cells ∧ w0 + 6 * z + 0 ≤ R.slots := by obtain ⟨-, -, h3, h4⟩ := hRm; omega
  have hstk : (As.reverse ++ .ref o :: rest).map (tr b bs) = (As.map (tr b bs)).reverse ++ .ref (b + o) :: rest.map (tr b bs) := by rw [List.map_append, List.map_reverse]; rfl
  unfold lkV at hl
  simp only [Bool.and_eq_true, decide_eq_true_eq] at hl
  obtain ⟨⟨⟨⟨l1, l2⟩, l3⟩, l4⟩, l5⟩ := hl
  have hpre := pre_my (bs := bs) (As := .ref o :: As) hK hR (by simpa [notRA] using hA)
  have hcell := va_recv hK.1 hR.1 (cl_at l5) (Rp.at (I := I) (J := J) (b := b) (cy := cy) hk (by omega) (en_obj hk l5 (I o) (J o)))
  have hgo : va_Run p l e R s m args below meth c H locs (k0 + z) (w0 + 6 * z) 0 0 (F0 m pc arr ((As.reverse ++ .ref o :: rest).map (tr b bs))) (rest.map (tr b bs)) (Qcm D cy b Ψ (.ref (b + o) :: As.map (tr b bs)).toArray) (fun q => b ≤ q) :=
    va_runV (n := n) (C := cC N.1) ⟨hx, hb, hml, hown, hts⟩ (hM l D cy b htr) ⟨callB_my hts hB hRm (hts _ l1), hts _ l2, by rw [← l4]; exact hts _ l3⟩ ⟨hpre.1, hcell, hpre.2⟩ rfl (by rw [List.length_map]; exact hn) hlv.1 hstk (lv_room (by rw [sum_tr]; exact hw)) hd hroom
  exact call_go hgo hR hlv (fun v I' J' q => k v I' J' q l p e R s m args below meth c D cy b bs k0 w0 Q C hRm hRT hTH)
end E3
end
section
/-! throws -/
abbrev exUp : List String := ["java/lang/RuntimeException", "java/lang/Exception"]
def thrOk (own ik ic : Nat) (cls : String) : Bool := decide (Cond.classLink (cC own) ik cls ∈ wAll) && decide (Cond.initialized cls ∈ wAll) && Bundle.fit cls && exUp.all Bundle.fit && ((vx_at0 (cC own) ic cls exUp).all fun w => if goodWord w then decide (w ∈ wAll) else decide (w ∈ nwL)) && ((Cond.classLink (cC own) ik cls :: Cond.initialized cls :: vx_at0 (cC own) ic cls exUp).all vx_ot)
theorem nwL_ot {w : Cond} (h : w ∈ nwL) : w.onTables = true := by
  have hn := (List.mem_filter.mp h).2
  unfold isNest at hn
  split at hn <;> first | rfl | cases hn
section E4
variable {d Z L : Nat} {xs : Nat → Int32} {M N : MD} {pc i n : Nat} {ls : List (Option Value)} {rest As st : List Value} {I : T2} {J : T3} {z : Nat} {Φ : Out → T2 → T3 → Nat → Prop}
set_option maxHeartbeats 2000000 in
theorem Ev.thr {ik ic : Nat} {cls : String} (hd0 : decode M.2.2.1 pc = .ok (.new ik, 3)) (hd3 : decode M.2.2.1 (pc + 3) = .ok (.dup, 1)) (hd4 : decode M.2.2.1 (pc + 4) = .ok (.invokespecial ic, 3)) (hd7 : decode M.2.2.1 (pc + 7) = .ok (.athrow, 1)) (ho : thrOk M.1 ik ic cls = true) (hh : M.2.2.2.2.2 = []) (h3 : 3 ≤ d) (hz : z + 1 ≤ Z) (hw : (st.map fun v => v.category).sum ≤ 8) (hΦ : Φ (.inr cls) I J (z + 1)) : Ev d Z L xs M pc ls st I J z Φ := by
  intro l p e R s m args below meth c D cy b bs k0 w0 Q C hRm hRT hTH H locs arr hR hl
  obtain ⟨hx, hb, hml, hown, hr, hlk, hts, hK, hX, htr, hex⟩ := id C
  rcases hTH with hTH | ⟨Qc, XC, rfl, rfl, rfl, hXC⟩
  · exact absurd hΦ (hTH _ _ _ _)
  obtain ⟨r1, r2, r3, r4⟩ := hRm
  unfold thrOk at ho
  simp only [Bool.and_eq_true, decide_eq_true_eq] at ho
  obtain ⟨⟨⟨⟨⟨o1, o2⟩, o3⟩, o4⟩, o5⟩, o6⟩ := ho
  have hlist : c.exceptionTable.toList = [] := by rw [hex, hh]; rfl
  refine vx_throw0 (A := fun q => b ≤ q) (own := cC M.1) (cls := cls) (names := exUp) (ik := ik) (ic := ic) hx hb htr hown o3 (fun n hn => List.all_eq_true.mp o4 n hn) (hts _ o1) (hts _ o2) (fun w hw9 => ?_) (fun w hw9 => List.all_eq_true.mp o6 w hw9) hK.2.2.1 hK.2.2.2.1 hR.2 (hl.1.trans hml.symm) hd0 hd3 hd4 hd7 (fun x hx9 => by rw [hlist] at hx9; cases hx9) ?_ ?_ ?_ ?_ hlk ?_ hR.2.2.2 ?_ ?_
  · have h9 := List.all_eq_true.mp o5 w hw9
    by_cases hg : goodWord w = true
    · rw [if_pos hg] at h9
      exact hts _ (of_decide_eq_true h9)
    · rw [if_neg hg] at h9
      exact va_Nw.use (nwL_ot (of_decide_eq_true h9)) (hK.2.1 _ (of_decide_eq_true h9))
  · show 2 + 3 < R.frames
    omega
  · rw [sum_tr]
    show _ + (13 * (2 + 1) + 42) ≤ R.locals
    omega
  · omega
  · omega
  · intro t h1 h2 h4
    refine hXC _ _ _ _ t hΦ (hR.1.kept fun k x hk => ?_) ⟨Nat.le_trans hR.2.1 h2, fun q q1 q2 => ?_⟩
    · exact h4 x.1 ((hR.1 k x hk).lt)
    · rw [h4 q (Nat.lt_of_lt_of_le q1 hR.2.1)]
      exact hR.2.2.1 q q1 q2
  · omega
  · omega
end E4
/-- a method that throws a thing of the class E, and changes nothing -/
def XCm (D : va_G) (cy : Nat → ClassId) (b : Nat) (E : String) (I : T2) (J : T3) : String → State → State → Prop := fun E' st t => (E' = E ∧ va_P D vwCl (wl b 159 (En b cy I J)) t.heap) ∧ va_F (fun q => b ≤ q) st t
def Mth (d : Nat) (M : MD) (As : List Value) (I : T2) (J : T3) (E : String) : Prop :=
  ∀ (l : Launch) (D : va_G) (cy : Nat → ClassId) (b : Nat), l.stackTraces = false → vx_Met l M.2.1 (wsM M) (rmD d 1) (Pcm D cy b As I J) (Qcm D cy b (fun _ _ _ => False)) (XCm D cy b E I J) 1 6 (fun q => b ≤ q)
set_option maxHeartbeats 2000000 in
theorem Mth.of {d : Nat} {M : MD} {As : List Value} {I : T2} {J : T3} {E : String} (hM : mOk M = true) (hlen : (lsA As).length ≤ M.2.2.2.1) (h : Ev d 1 0 (fun _ => 0) M 0 (lsE M.2.2.2.1 As) [] I J 0 (fun o I' J' _ => o = .inr E ∧ I' = I ∧ J' = J)) : Mth d M As I J E := by
  intro l D cy b htr
  unfold mOk at hM
  rw [Bool.and_eq_true, Bool.and_eq_true] at hM
  obtain ⟨⟨hM1, hM2⟩, hM3⟩ := hM
  have hM2 := of_decide_eq_true hM2
  have hM3 := List.isEmpty_iff.mp hM3
  refine vx_ofW (cc := M.2.2.1) (maxL := M.2.2.2.1) (ret := M.2.2.2.2.1) hM1 rfl ?_
  intro p e s m args below meth c s₁ B hml hno hv
  obtain ⟨rfl, hK, hP⟩ := hv
  have hts0 := atoms_spec (ws := wsM M) B.pre
  have hown : s.vm.findClass (cC M.1) = some m.cls := by rw [← hM2]; exact findClass_of_methodNamed B.named
  have hex : c.exceptionTable.toList = tableOf M.2.2.2.2.2 := by
    rw [hM3, Array.isEmpty_iff.mp (B.noHandlers (hts0 _ List.mem_cons_self))]
    rfl
  have C : Cx l p s m ((As.map (tr b 0)).toArray) meth c D cy b 0 0 (fun _ => 0) M := ⟨B.exec, B.bytes, hml, hown, B.returns, B.notSynchronized, wAll_hts hts0, hK, fun q => absurd q (Nat.lt_irrefl 0), htr, hex⟩
  rw [lg_entry_eq]
  refine h l p e _ s m _ below meth c D cy b 0 0 0 _ C ⟨Nat.le_refl _, Nat.le_refl _, Nat.le_refl _, Nat.le_refl _⟩ ?_ (Or.inr ⟨_, _, rfl, rfl, rfl, fun E' I' J' z' t q h1 h2 => ?_⟩) s.heap [] _ ⟨hP, va_S.rf⟩ (lvh_entry hlen)
  · intro ins v I' J' z' H' locs' arr' pcr hΦ hz hR hd ho
    cases hΦ.1
  · obtain ⟨q1, rfl, rfl⟩ := q
    cases q1
    exact ⟨⟨rfl, h1⟩, h2⟩
theorem callB_my1 {R : Room} {s : State} {args : Array Value} {own i d n k0 w0 Z : Nat} {N : MD} (hts : ∀ w ∈ wAll, w.before args s = true) (hB : lkB N n = true) (hR : Rm R (d + 1) k0 w0 Z) (hl : (Cond.methodLink (cC own) i N.2.1).before args s = true) :
    CallB R s args (cC own) i N.2.1 N.2.2.1 N.2.2.2.1 N.2.2.2.2.1 (wsM N) (rmD d 1) 1 6 n := by
  obtain ⟨h1, h2, h3, h4, h5⟩ := lkB_spec hB
  obtain ⟨r1, r2, r3, r4⟩ := hR
  refine ⟨rfl, rfl, ?_, ?_, wAll_pay hts h1, List.mem_cons_self, hts _ h1, hts _ h2, h3, h4, hl⟩
  · show d + 3 + 1 ≤ R.frames
    omega
  · show 8 + (N.2.2.2.1 + 11) + (32 * d + 100) ≤ R.locals
    omega
section E5
variable {p : Program} {l : Launch} {e : Env} {R : Room} {s : State} {m : MethodId} {args : Array Value} {below : List Frame} {meth : Method} {c : Code} {H : Heap} {locs : List Loc} {cells slots : Nat} {Q : State → Prop}
variable {D : va_G} {cy : Nat → ClassId} {b bs : Nat} {I : T2} {J : T3} {arr : Array Slot} {pc : Nat} {rest : List Value} {st0 : List Value} {a : Array Value} {E : String}
/-- behind a call that throws -/
theorem call_thr (hr : vx_Run p l e R s m args below meth c H locs cells slots 1 6 (F0 m pc arr st0) (rest.map (tr b bs)) (Qcm D cy b (fun _ _ _ => False) a) (XCm D cy b E I J) (fun q => b ≤ q)) (hR : Rp D cy b I J s.heap H locs)
    (kk : ∀ (q : Addr) (ce : Cell) (H' : Heap) (locs' : List Loc), Rp D cy b I J s.heap H' locs' → H'[q]? = some ce → ce.vm = .none → s.vm.findClass E = some ce.cls → vx_W p l e R s m args below meth c H' locs' (cells + 1) (slots + 6) Q (F0 m pc arr (rest.map (tr b bs))) q) : W p l e R s m args below meth c H locs cells slots Q (F0 m pc arr st0) := by
  intro T hT X
  rcases hr T hT X with ⟨v, st₀, t, T', Ls, h0, X', hL, e1, e2, ⟨⟨v', I', J', hv, hn, hΨ, hP⟩, hF⟩, st⟩ | ⟨q, st₀, t, T', Ls, E', ce, h0, X', hL, e1, e2, ⟨⟨rfl, hP⟩, hF⟩, hce, hcv, hcl, st⟩
  · exact hΨ.elim
  have hz : H.size ≤ T'.heap.size := by rw [e1, ← h0]; exact hF.1
  have hS : va_S (fun q => b ≤ q) s.heap T'.heap (locs ++ Ls) := by
    refine ⟨Nat.le_trans hR.2.1 hz, fun q h1 h2 => ?_, fun q hq => ?_⟩
    · rw [e1, hF.2 q (by rw [h0]; exact Nat.lt_of_lt_of_le h1 hR.2.1) h2, h0]
      exact hR.2.2.1 q h1 h2
    · rcases List.mem_append.mp hq with h | h
      · exact hR.2.2.2 q h
      · exact hL q h
  obtain ⟨t2, a1, b1⟩ := kk q ce T'.heap (locs ++ Ls) ⟨by rw [e1]; exact hP, hS⟩ (by rw [e1]; exact hce) hcv hcl T' rfl X'
  exact ⟨t2, st.trans a1, b1⟩
end E5
section E6
variable {d Z L : Nat} {xs : Nat → Int32} {M N : MD} {pc i n : Nat} {ls : List (Option Value)} {rest As : List Value} {I : T2} {J : T3} {z : Nat} {Φ : Out → T2 → T3 → Nat → Prop} {E : String}
theorem thr_out {p : Program} {l : Launch} {e : Env} {R : Room} {s : State} {m : MethodId} {args : Array Value} {below : List Frame} {meth : Method} {c : Code} {Q : State → Prop} {D : va_G} {cy : Nat → ClassId} {b bs k0 w0 : Nat} {arr : Array Slot} {st : List Value} (C : Cx l p s m args meth c D cy b bs L xs M) (hTH : TH s args below Q D cy b k0 w0 Z Φ) (hh : M.2.2.2.2.2 = []) (hz : z + 1 ≤ Z) (hΦ : Φ (.inr E) I J (z + 1)) :
    ∀ (q : Addr) (ce : Cell) (H' : Heap) (locs' : List Loc), Rp D cy b I J s.heap H' locs' → H'[q]? = some ce → ce.vm = .none → s.vm.findClass E = some ce.cls → vx_W p l e R s m args below meth c H' locs' (k0 + z + 1) (w0 + 6 * z + 6) Q (F0 m pc arr st) q := by
  intro q ce H' locs' hR hce hv hcl
  obtain ⟨hx, hb, hml, hown, hr, hlk, hts, hK, hX, htr, hex⟩ := C
  rcases hTH with hTH | ⟨Qc, XC, rfl, rfl, rfl, hXC⟩
  · exact absurd hΦ (hTH _ _ _ _)
  have hlist : c.exceptionTable.toList = [] := by rw [hex, hh]; rfl
  refine vx_out (E := E) (ce := ce) (fun x hx9 => by rw [hlist] at hx9; cases hx9) hlk hce hv hcl (fun t ht _ => hXC _ _ _ _ t hΦ (by rw [ht]; exact hR.1) (hR.2.F ht)) hR.2.2.2 ?_ ?_
  · omega
  · omega
/-- a called method of an object throws: so does this one -/
theorem Ev.callVT {o : Nat} (hM : Mth d N (.ref o :: As) I J E) (hd : decode M.2.2.1 pc = .ok (.invokevirtual i, 3)) (hB : lkB N n = true) (hl : lkV M.1 i N = true) (hk : kd o = N.1) (hn : As.length = n) (hA : As.all notRA = true) (hw : (rest.map fun v => v.category).sum ≤ 8) {st : List Value} (hst : st = As.reverse ++ .ref o :: rest) (hh : M.2.2.2.2.2 = []) (hz : z + 1 ≤ Z) (hΦ : Φ (.inr E) I J (z + 1)) : Ev (d + 1) Z L xs M pc ls st I J z Φ := by
  subst hst
  intro l p e R s m args below meth c D cy b bs k0 w0 Q C hRm hRT hTH H locs arr hR hlv
  obtain ⟨hx, hb, hml, hown, hr, hlk, hts, hK, hX, htr, hex⟩ := id C
  have hroom : k0 + z + 1 ≤ R.cells ∧ w0 + 6 * z + 6 ≤ R.slots := by obtain ⟨-, -, h3, h4⟩ := hRm; omega
  have hstk : (As.reverse ++ .ref o :: rest).map (tr b bs) = (As.map (tr b bs)).reverse ++ .ref (b + o) :: rest.map (tr b bs) := by rw [List.map_append, List.map_reverse]; rfl
  unfold lkV at hl
  simp only [Bool.and_eq_true, decide_eq_true_eq] at hl
  obtain ⟨⟨⟨⟨l1, l2⟩, l3⟩, l4⟩, l5⟩ := hl
  have hpre := pre_my (bs := bs) (As := .ref o :: As) hK hR (by simpa [notRA] using hA)
  have hcell := va_recv hK.1 hR.1 (cl_at l5) (Rp.at (I := I) (J := J) (b := b) (cy := cy) hk (by omega) (en_obj hk l5 (I o) (J o)))
  have hgo : vx_Run p l e R s m args below meth c H locs (k0 + z) (w0 + 6 * z) 1 6 (F0 m pc arr ((As.reverse ++ .ref o :: rest).map (tr b bs))) (rest.map (tr b bs)) (Qcm D cy b (fun _ _ _ => False) (.ref (b + o) :: As.map (tr b bs)).toArray) (XCm D cy b E I J) (fun q => b ≤ q) :=
    vx_runV (n := n) (C := cC N.1) ⟨hx, hb, hml, hown, hts⟩ (hM l D cy b htr) ⟨callB_my1 hts hB hRm (hts _ l1), hts _ l2, by rw [← l4]; exact hts _ l3⟩ ⟨hpre.1, hcell, hpre.2⟩ rfl (by rw [List.length_map]; exact hn) hlv.1 hstk (lv_room (by rw [sum_tr]; exact hw)) hd hroom
  exact call_thr hgo hR (thr_out C hTH hh hz hΦ)
/-- a called static method throws: so does this one -/
theorem Ev.callST (hM : Mth d N As I J E) (hd : decode M.2.2.1 pc = .ok (.invokestatic i, 3)) (hB : lkB N n = true) (hl : lkS M.1 i N = true) (hn : As.length = n) (hA : As.all notRA = true) (hw : (rest.map fun v => v.category).sum ≤ 8) {st : List Value} (hst : st = As.reverse ++ rest) (hh : M.2.2.2.2.2 = []) (hz : z + 1 ≤ Z) (hΦ : Φ (.inr E) I J (z + 1)) : Ev (d + 1) Z L xs M pc ls st I J z Φ := by
  subst hst
  intro l p e R s m args below meth c D cy b bs k0 w0 Q C hRm hRT hTH H locs arr hR hlv
  obtain ⟨hx, hb, hml, hown, hr, hlk, hts, hK, hX, htr, hex⟩ := id C
  have hroom : k0 + z + 1 ≤ R.cells ∧ w0 + 6 * z + 6 ≤ R.slots := by obtain ⟨-, -, h3, h4⟩ := hRm; omega
  have hstk : (As.reverse ++ rest).map (tr b bs) = (As.map (tr b bs)).reverse ++ rest.map (tr b bs) := by rw [List.map_append, List.map_reverse]
  unfold lkS at hl
  simp only [Bool.and_eq_true, decide_eq_true_eq] at hl
  have hgo : vx_Run p l e R s m args below meth c H locs (k0 + z) (w0 + 6 * z) 1 6 (F0 m pc arr ((As.reverse ++ rest).map (tr b bs))) (rest.map (tr b bs)) (Qcm D cy b (fun _ _ _ => False) (As.map (tr b bs)).toArray) (XCm D cy b E I J) (fun q => b ≤ q) :=
    vx_runS (n := n) ⟨hx, hb, hml, hown, hts⟩ (hM l D cy b htr) ⟨callB_my1 hts hB hRm (hts _ hl.1), hts _ hl.2⟩ (pre_my hK hR hA) rfl (by rw [List.length_map]; exact hn) hlv.1 hstk (lv_room (by rw [sum_tr]; exact hw)) hd hroom
  exact call_thr hgo hR (thr_out C hTH hh hz hΦ)
end E6
end
section
/-! switches, System.arraycopy, fewer locals -/
def wk (ls' ls : List (Option Value)) : Prop := match ls', ls with
  | [], _ => True
  | a :: r, b :: s => (a = none ∨ a = b) ∧ wk r s
  | a :: r, [] => a = none ∧ wk r []
theorem wk_at : ∀ (ls' ls : List (Option Value)), wk ls' ls → ∀ (i : Nat) (v : Value), ls'[i]? = some (some v) → ls[i]? = some (some v) := by
  intro ls'
  induction ls' with
  | nil => intro ls _ i v h; simp at h
  | cons a r ih =>
    intro ls hw i v h
    cases ls with
    | nil =>
      obtain ⟨h1, h2⟩ := hw
      cases i with
      | zero => simp [h1] at h
      | succ i => simp at h; have := ih [] h2 i v h; simp at this
    | cons b s =>
      obtain ⟨h1, h2⟩ := hw
      cases i with
      | zero =>
        rcases h1 with h1 | h1
        · simp [h1] at h
        · rw [← h1]; exact h
      | succ i => simp at h ⊢; exact ih s h2 i v h
section E7
variable {d Z L : Nat} {xs : Nat → Int32} {M : MD} {pc : Nat} {ls ls' : List (Option Value)} {st rest : List Value} {I : T2} {J : T3} {z : Nat} {Φ : Out → T2 → T3 → Nat → Prop}
theorem Ev.weak (hw : wk ls' ls) (k : Ev d Z L xs M pc ls' st I J z Φ) : Ev d Z L xs M pc ls st I J z Φ := by
  intro l p e R s m args below meth c D cy b bs k0 w0 Q C hRm hRT hTH H locs arr hR hl
  exact k l p e R s m args below meth c D cy b bs k0 w0 Q C hRm hRT hTH H locs arr hR ⟨hl.1, hl.2.1, fun i v h => hl.2.2 i v (wk_at ls' ls hw i v h)⟩
theorem Ev.swIn {dflt lo hi off : Int} {offs : Array Int} {len : Nat} {x : Int32} (tgt : Nat) (hd : decode M.2.2.1 pc = .ok (.tableswitch dflt lo hi offs, len)) (h1 : ¬ x.toInt < lo) (h2 : ¬ hi < x.toInt) (ho : offs[(x.toInt - lo).toNat]? = some off) (ht : (pc : Int) + off = (tgt : Int)) (k : Ev d Z L xs M tgt ls st I J z Φ) : Ev d Z L xs M pc ls (.int x :: st) I J z Φ := by
  intro l p e R s m args below meth c D cy b bs k0 w0 Q C hRm hRT hTH H locs arr hR hl
  have a := k l p e R s m args below meth c D cy b bs k0 w0 Q C hRm hRT hTH H locs arr hR hl
  exact lv_tableIn C.1 C.2.1 hd h1 h2 ho ht a
theorem Ev.swOut {dflt lo hi : Int} {offs : Array Int} {len : Nat} {x : Int32} (tgt : Nat) (hd : decode M.2.2.1 pc = .ok (.tableswitch dflt lo hi offs, len)) (h : x.toInt < lo ∨ hi < x.toInt) (ht : (pc : Int) + dflt = (tgt : Int)) (k : Ev d Z L xs M tgt ls st I J z Φ) : Ev d Z L xs M pc ls (.int x :: st) I J z Φ := by
  intro l p e R s m args below meth c D cy b bs k0 w0 Q C hRm hRT hTH H locs arr hR hl
  have a := k l p e R s m args below meth c D cy b bs k0 w0 Q C hRm hRT hTH H locs arr hR hl
  exact lv_tableOut C.1 C.2.1 hd h ht a
def lkC (own i : Nat) : Bool := decide (Cond.methodLink (cC own) i arraycopyName ∈ wAll) && decide (Cond.native arraycopyName ∈ wAll) && decide (Cond.static arraycopyName ∈ wAll) && decide (Cond.initialized "java/lang/System" ∈ wAll)
theorem Ev.cpy {i o0 o1 : Nat} {sp dp n : Int32} (hd : decode M.2.2.1 pc = .ok (.invokestatic i, 3)) (hl : lkC M.1 i = true) (k0 : kd o0 = 8) (k1 : kd o1 = 8) (h1 : ¬ sp < 0) (h2 : ¬ dp < 0) (h3 : ¬ n < 0) (h4 : sp.toNatClampNeg + n.toNatClampNeg ≤ ln o0) (h5 : dp.toNatClampNeg + n.toNatClampNeg ≤ ln o1) (hw : (rest.map fun v => v.category).sum ≤ 8)
    (k : Ev d Z L xs M (pc + 3) ls rest (upr I o1 (va_cpy (I o0) (I o1) sp.toNatClampNeg dp.toNatClampNeg n.toNatClampNeg)) J z Φ) : Ev d Z L xs M pc ls (.int n :: .int dp :: .ref o1 :: .int sp :: .ref o0 :: rest) I J z Φ := by
  intro l p e R s m args below meth c D cy b bs k00 w0 Q C hRm hRT hTH H locs arr hR hlv
  have kk := k l p e R s m args below meth c D cy b bs k00 w0 Q C hRm hRT hTH
  obtain ⟨hx, hb, hml, hown, hr, hlk, hts, hK, hX, htr, hex⟩ := id C
  unfold lkC at hl
  simp only [Bool.and_eq_true, decide_eq_true_eq] at hl
  obtain ⟨⟨⟨l1, l2⟩, l3⟩, l4⟩ := hl
  obtain ⟨r1, r2, r3, r4⟩ := hRm
  refine va_copyi hx hb (hml.trans hlv.1.symm) hown (hts _ l1) (hts _ l2) (hts _ l3) (hts _ l4) hK.1 hR.1 (wl_D b 159 _) hR.2 o0 o1 0 0 (Rp.at k0 (by decide) (en_8 k0 _ _)) (Rp.at k1 (by decide) (en_8 k1 _ _)) rfl rfl rfl h1 h2 h3 h4 h5 (fun _ _ => rfl) (by omega) ?_ hd (fun H1 locs1 q1 q2 q3 => kk H1 locs1 arr (Rp.putr (en_8 k1 _ _) q1 q3) hlv)
  rw [sum_tr]
  have : nativeFrameWords "java/lang/System" "arraycopy" 5 ≤ 80 := by decide +kernel
  omega
end E7
end
section
theorem kg_all : ∀ o : Nat, o < 159 → kd o = 1 → (kd (o + 1) = 8 ∧ ln (o + 1) = 3) ∧ (kd (o + 2) = 8 ∧ ln (o + 2) = 3) ∧ (kd (o + 3) = 8 ∧ ln (o + 3) = 3) ∧ kd (o + 4) = 5 ∧ kd (o + 9) = 5 := by decide +kernel
theorem kw_all : ∀ o : Nat, o < 159 → kd o = 5 → (kd (o + 1) = 8 ∧ ln (o + 1) = 50) ∧ (kd (o + 2) = 8 ∧ ln (o + 2) = 50) ∧ (kd (o + 3) = 8 ∧ ln (o + 3) = 50) ∧ kd (o + 4) = 8 ∧ ln (o + 4) = 50 := by decide +kernel
section KG
variable {o : Nat}
theorem kg_1 (h : kd o = 1) : kd (o + 1) = 8 := (kg_all o (kd_lt h (by decide)) h).1.1
theorem lg_1 (h : kd o = 1) : ln (o + 1) = 3 := (kg_all o (kd_lt h (by decide)) h).1.2
theorem kg_2 (h : kd o = 1) : kd (o + 2) = 8 := (kg_all o (kd_lt h (by decide)) h).2.1.1
theorem lg_2 (h : kd o = 1) : ln (o + 2) = 3 := (kg_all o (kd_lt h (by decide)) h).2.1.2
theorem kg_3 (h : kd o = 1) : kd (o + 3) = 8 := (kg_all o (kd_lt h (by decide)) h).2.2.1.1
theorem lg_3 (h : kd o = 1) : ln (o + 3) = 3 := (kg_all o (kd_lt h (by decide)) h).2.2.1.2
theorem kg_4 (h : kd o = 1) : kd (o + 4) = 5 := (kg_all o (kd_lt h (by decide)) h).2.2.2.1
theorem kg_9 (h : kd o = 1) : kd (o + 9) = 5 := (kg_all o (kd_lt h (by decide)) h).2.2.2.2
theorem kw_1 (h : kd o = 5) : kd (o + 1) = 8 := (kw_all o (kd_lt h (by decide)) h).1.1
theorem lw_1 (h : kd o = 5) : ln (o + 1) = 50 := (kw_all o (kd_lt h (by decide)) h).1.2
theorem kw_2 (h : kd o = 5) : kd (o + 2) = 8 := (kw_all o (kd_lt h (by decide)) h).2.1.1
theorem lw_2 (h : kd o = 5) : ln (o + 2) = 50 := (kw_all o (kd_lt h (by decide)) h).2.1.2
theorem kw_3 (h : kd o = 5) : kd (o + 3) = 8 := (kw_all o (kd_lt h (by decide)) h).2.2.1.1
theorem lw_3 (h : kd o = 5) : ln (o + 3) = 50 := (kw_all o (kd_lt h (by decide)) h).2.2.1.2
theorem kw_4 (h : kd o = 5) : kd (o + 4) = 8 := (kw_all o (kd_lt h (by decide)) h).2.2.2.1
theorem lw_4 (h : kd o = 5) : ln (o + 4) = 50 := (kw_all o (kd_lt h (by decide)) h).2.2.2.2
end KG
theorem kgt {i : Nat} (h : i < 8) : kd (24 + 14 * i) = 1 := (show ∀ i : Nat, i < 8 → kd (24 + 14 * i) = 1 by decide +kernel) i h
theorem kr4 {i : Nat} (h : i < 3) : kd (4 + 1 + i) = 8 := (show ∀ i : Nat, i < 3 → kd (4 + 1 + i) = 8 by decide +kernel) i h
theorem lr4 {i : Nat} (h : i < 3) : ln (4 + 1 + i) = 8 := (show ∀ i : Nat, i < 3 → ln (4 + 1 + i) = 8 by decide +kernel) i h
theorem kr8 {i : Nat} (h : i < 3) : kd (8 + 1 + i) = 8 := (show ∀ i : Nat, i < 3 → kd (8 + 1 + i) = 8 by decide +kernel) i h
theorem lr8 {i : Nat} (h : i < 3) : ln (8 + 1 + i) = 8 := (show ∀ i : Nat, i < 3 → ln (8 + 1 + i) = 8 by decide +kernel) i h
theorem vp_lt {x : Int32} {n : Nat} (h : vp_in x n) : x.toNatClampNeg < n := Nat.not_le.mp fun q => h (Or.inr q)
theorem ln_to {e n : Nat} {x : Int32} (h : ln e = n) (hx : vp_in x n) : vp_in x (ln e) := by rw [h]; exact hx
end
section
theorem zz_end : True := trivial
end
