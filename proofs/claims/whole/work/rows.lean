section
-- ===== PART A: goes FIRST, ahead of the names: the tables' words, and 'selects' of the private methods out of them =====
/-- a private method of a class that the tables say can be made, by its rows of tables_1 -/
def lw_okq (q : MethodName × Nat) : Prop := (q.1.cls ≠ "java/lang/invoke/MethodHandle" ∧ q.1.cls ≠ "java/lang/invoke/VarHandle") ∧ Cond.instantiable q.1.cls q.2 ∈ tables_1 ∧ Cond.privateMethod q.1 ∈ tables_1 ∧ Cond.instanceMethod q.1 ∈ tables_1
theorem lw_p0 : lw_okq (⟨"CrabMint$Teller", "takeToken", "()Z"⟩, 10) := ⟨⟨by decide +kernel, by decide +kernel⟩, List.mem_of_getElem? (i := 196) (by decide +kernel), List.mem_of_getElem? (i := 355) (by decide +kernel), List.mem_of_getElem? (i := 356) (by decide +kernel)⟩
theorem lw_p1 : lw_okq (⟨"CrabMint$Teller", "refuse", "(II)Z"⟩, 10) := ⟨⟨by decide +kernel, by decide +kernel⟩, List.mem_of_getElem? (i := 196) (by decide +kernel), List.mem_of_getElem? (i := 362) (by decide +kernel), List.mem_of_getElem? (i := 363) (by decide +kernel)⟩
theorem lw_p2 : lw_okq (⟨"CrabMint$Teller", "takeLine", "()Z"⟩, 10) := ⟨⟨by decide +kernel, by decide +kernel⟩, List.mem_of_getElem? (i := 196) (by decide +kernel), List.mem_of_getElem? (i := 366) (by decide +kernel), List.mem_of_getElem? (i := 367) (by decide +kernel)⟩
theorem lw_p3 : lw_okq (⟨"CrabMint$Teller", "isName", "(Ljava/lang/String;)Z"⟩, 10) := ⟨⟨by decide +kernel, by decide +kernel⟩, List.mem_of_getElem? (i := 196) (by decide +kernel), List.mem_of_getElem? (i := 371) (by decide +kernel), List.mem_of_getElem? (i := 372) (by decide +kernel)⟩
theorem lw_p4 : lw_okq (⟨"CrabMint$Teller", "takePlaces", "()Z"⟩, 10) := ⟨⟨by decide +kernel, by decide +kernel⟩, List.mem_of_getElem? (i := 196) (by decide +kernel), List.mem_of_getElem? (i := 423) (by decide +kernel), List.mem_of_getElem? (i := 424) (by decide +kernel)⟩
theorem lw_p5 : lw_okq (⟨"CrabMint$Teller", "takeNumber", "(II)Z"⟩, 10) := ⟨⟨by decide +kernel, by decide +kernel⟩, List.mem_of_getElem? (i := 196) (by decide +kernel), List.mem_of_getElem? (i := 427) (by decide +kernel), List.mem_of_getElem? (i := 428) (by decide +kernel)⟩
theorem lw_p6 : lw_okq (⟨"CrabMint$Teller", "endsLine", "()Z"⟩, 10) := ⟨⟨by decide +kernel, by decide +kernel⟩, List.mem_of_getElem? (i := 196) (by decide +kernel), List.mem_of_getElem? (i := 432) (by decide +kernel), List.mem_of_getElem? (i := 433) (by decide +kernel)⟩
theorem lw_p7 : lw_okq (⟨"CrabMint$Teller", "takeHole", "()Z"⟩, 10) := ⟨⟨by decide +kernel, by decide +kernel⟩, List.mem_of_getElem? (i := 196) (by decide +kernel), List.mem_of_getElem? (i := 437) (by decide +kernel), List.mem_of_getElem? (i := 438) (by decide +kernel)⟩
theorem lw_p8 : lw_okq (⟨"CrabMint$Teller", "takeCoin", "()Z"⟩, 10) := ⟨⟨by decide +kernel, by decide +kernel⟩, List.mem_of_getElem? (i := 196) (by decide +kernel), List.mem_of_getElem? (i := 442) (by decide +kernel), List.mem_of_getElem? (i := 443) (by decide +kernel)⟩
theorem lw_p9 : lw_okq (⟨"CrabMint$Teller", "takeCrab", "()Z"⟩, 10) := ⟨⟨by decide +kernel, by decide +kernel⟩, List.mem_of_getElem? (i := 196) (by decide +kernel), List.mem_of_getElem? (i := 452) (by decide +kernel), List.mem_of_getElem? (i := 453) (by decide +kernel)⟩
theorem lw_p10 : lw_okq (⟨"CrabMint$Teller", "takeTide", "()Z"⟩, 10) := ⟨⟨by decide +kernel, by decide +kernel⟩, List.mem_of_getElem? (i := 196) (by decide +kernel), List.mem_of_getElem? (i := 466) (by decide +kernel), List.mem_of_getElem? (i := 467) (by decide +kernel)⟩
theorem lw_p11 : lw_okq (⟨"CrabMint", "isPlace", "(I)Z"⟩, 9) := ⟨⟨by decide +kernel, by decide +kernel⟩, List.mem_of_getElem? (i := 19) (by decide +kernel), List.mem_of_getElem? (i := 498) (by decide +kernel), List.mem_of_getElem? (i := 499) (by decide +kernel)⟩
theorem lw_p12 : lw_okq (⟨"CrabMint", "isCoin", "(I)Z"⟩, 9) := ⟨⟨by decide +kernel, by decide +kernel⟩, List.mem_of_getElem? (i := 19) (by decide +kernel), List.mem_of_getElem? (i := 506) (by decide +kernel), List.mem_of_getElem? (i := 507) (by decide +kernel)⟩
theorem lw_p13 : lw_okq (⟨"CrabMint", "isCrab", "(I)Z"⟩, 9) := ⟨⟨by decide +kernel, by decide +kernel⟩, List.mem_of_getElem? (i := 19) (by decide +kernel), List.mem_of_getElem? (i := 523) (by decide +kernel), List.mem_of_getElem? (i := 524) (by decide +kernel)⟩
theorem lw_p14 : lw_okq (⟨"CrabMint$Beach", "act", "(I)V"⟩, 11) := ⟨⟨by decide +kernel, by decide +kernel⟩, List.mem_of_getElem? (i := 27) (by decide +kernel), List.mem_of_getElem? (i := 581) (by decide +kernel), List.mem_of_getElem? (i := 582) (by decide +kernel)⟩
theorem lw_p15 : lw_okq (⟨"CrabMint$Beach", "firstFitting", "(LCrabMint$Crab;)I"⟩, 11) := ⟨⟨by decide +kernel, by decide +kernel⟩, List.mem_of_getElem? (i := 27) (by decide +kernel), List.mem_of_getElem? (i := 590) (by decide +kernel), List.mem_of_getElem? (i := 591) (by decide +kernel)⟩
def lw_privs_1 : List (MethodName × Nat) := [(⟨"CrabMint$Teller", "takeToken", "()Z"⟩, 10), (⟨"CrabMint$Teller", "refuse", "(II)Z"⟩, 10), (⟨"CrabMint$Teller", "takeLine", "()Z"⟩, 10), (⟨"CrabMint$Teller", "isName", "(Ljava/lang/String;)Z"⟩, 10), (⟨"CrabMint$Teller", "takePlaces", "()Z"⟩, 10), (⟨"CrabMint$Teller", "takeNumber", "(II)Z"⟩, 10), (⟨"CrabMint$Teller", "endsLine", "()Z"⟩, 10), (⟨"CrabMint$Teller", "takeHole", "()Z"⟩, 10), (⟨"CrabMint$Teller", "takeCoin", "()Z"⟩, 10), (⟨"CrabMint$Teller", "takeCrab", "()Z"⟩, 10), (⟨"CrabMint$Teller", "takeTide", "()Z"⟩, 10), (⟨"CrabMint", "isPlace", "(I)Z"⟩, 9), (⟨"CrabMint", "isCoin", "(I)Z"⟩, 9), (⟨"CrabMint", "isCrab", "(I)Z"⟩, 9), (⟨"CrabMint$Beach", "act", "(I)V"⟩, 11), (⟨"CrabMint$Beach", "firstFitting", "(LCrabMint$Crab;)I"⟩, 11)]
theorem lw_r1 : ∀ q ∈ lw_privs_1, lw_okq q := List.forall_mem_cons.mpr ⟨lw_p0, List.forall_mem_cons.mpr ⟨lw_p1, List.forall_mem_cons.mpr ⟨lw_p2, List.forall_mem_cons.mpr ⟨lw_p3, List.forall_mem_cons.mpr ⟨lw_p4, List.forall_mem_cons.mpr ⟨lw_p5, List.forall_mem_cons.mpr ⟨lw_p6, List.forall_mem_cons.mpr ⟨lw_p7, List.forall_mem_cons.mpr ⟨lw_p8, List.forall_mem_cons.mpr ⟨lw_p9, List.forall_mem_cons.mpr ⟨lw_p10, List.forall_mem_cons.mpr ⟨lw_p11, List.forall_mem_cons.mpr ⟨lw_p12, List.forall_mem_cons.mpr ⟨lw_p13, List.forall_mem_cons.mpr ⟨lw_p14, List.forall_mem_cons.mpr ⟨lw_p15, fun _ h => absurd h List.not_mem_nil⟩⟩⟩⟩⟩⟩⟩⟩⟩⟩⟩⟩⟩⟩⟩⟩
theorem lw_p16 : lw_okq (⟨"CrabMint$Beach", "settleFights", "()V"⟩, 11) := ⟨⟨by decide +kernel, by decide +kernel⟩, List.mem_of_getElem? (i := 27) (by decide +kernel), List.mem_of_getElem? (i := 598) (by decide +kernel), List.mem_of_getElem? (i := 599) (by decide +kernel)⟩
theorem lw_p17 : lw_okq (⟨"CrabMint$Beach", "losesFight", "(I)Z"⟩, 11) := ⟨⟨by decide +kernel, by decide +kernel⟩, List.mem_of_getElem? (i := 27) (by decide +kernel), List.mem_of_getElem? (i := 602) (by decide +kernel), List.mem_of_getElem? (i := 603) (by decide +kernel)⟩
theorem lw_p18 : lw_okq (⟨"CrabMint$Beach", "openCoins", "()I"⟩, 11) := ⟨⟨by decide +kernel, by decide +kernel⟩, List.mem_of_getElem? (i := 27) (by decide +kernel), List.mem_of_getElem? (i := 645) (by decide +kernel), List.mem_of_getElem? (i := 646) (by decide +kernel)⟩
theorem lw_p19 : lw_okq (⟨"CrabMint$Orders", "note", "(I)V"⟩, 4) := ⟨⟨by decide +kernel, by decide +kernel⟩, List.mem_of_getElem? (i := 174) (by decide +kernel), List.mem_of_getElem? (i := 662) (by decide +kernel), List.mem_of_getElem? (i := 663) (by decide +kernel)⟩
theorem lw_p20 : lw_okq (⟨"CrabMint$Orders", "turnToNext", "(I)Z"⟩, 4) := ⟨⟨by decide +kernel, by decide +kernel⟩, List.mem_of_getElem? (i := 174) (by decide +kernel), List.mem_of_getElem? (i := 666) (by decide +kernel), List.mem_of_getElem? (i := 667) (by decide +kernel)⟩
theorem lw_p21 : lw_okq (⟨"CrabMint$Orders", "swap", "(II)V"⟩, 4) := ⟨⟨by decide +kernel, by decide +kernel⟩, List.mem_of_getElem? (i := 174) (by decide +kernel), List.mem_of_getElem? (i := 670) (by decide +kernel), List.mem_of_getElem? (i := 671) (by decide +kernel)⟩
theorem lw_p22 : lw_okq (⟨"CrabMint", "isSortedBy", "(I)Z"⟩, 9) := ⟨⟨by decide +kernel, by decide +kernel⟩, List.mem_of_getElem? (i := 19) (by decide +kernel), List.mem_of_getElem? (i := 684) (by decide +kernel), List.mem_of_getElem? (i := 685) (by decide +kernel)⟩
theorem lw_p23 : lw_okq (⟨"CrabMint", "stepsWithHole", "(III)I"⟩, 9) := ⟨⟨by decide +kernel, by decide +kernel⟩, List.mem_of_getElem? (i := 19) (by decide +kernel), List.mem_of_getElem? (i := 696) (by decide +kernel), List.mem_of_getElem? (i := 697) (by decide +kernel)⟩
theorem lw_p24 : lw_okq (⟨"CrabMint", "isSeenWithFalse", "(I)Z"⟩, 9) := ⟨⟨by decide +kernel, by decide +kernel⟩, List.mem_of_getElem? (i := 19) (by decide +kernel), List.mem_of_getElem? (i := 723) (by decide +kernel), List.mem_of_getElem? (i := 724) (by decide +kernel)⟩
theorem lw_p25 : lw_okq (⟨"CrabMint$Sights", "lastStep", "()I"⟩, 5) := ⟨⟨by decide +kernel, by decide +kernel⟩, List.mem_of_getElem? (i := 150) (by decide +kernel), List.mem_of_getElem? (i := 731) (by decide +kernel), List.mem_of_getElem? (i := 732) (by decide +kernel)⟩
theorem lw_p26 : lw_okq (⟨"CrabMint$Sights", "holdAt", "(ILCrabMint$Beach;)Z"⟩, 5) := ⟨⟨by decide +kernel, by decide +kernel⟩, List.mem_of_getElem? (i := 150) (by decide +kernel), List.mem_of_getElem? (i := 736) (by decide +kernel), List.mem_of_getElem? (i := 737) (by decide +kernel)⟩
theorem lw_p27 : lw_okq (⟨"CrabMintModel", "firstDraft", "()V"⟩, 34) := ⟨⟨by decide +kernel, by decide +kernel⟩, List.mem_of_getElem? (i := 821) (by decide +kernel), List.mem_of_getElem? (i := 827) (by decide +kernel), List.mem_of_getElem? (i := 828) (by decide +kernel)⟩
theorem lw_p28 : lw_okq (⟨"CrabMintModel", "keepDraft", "()V"⟩, 34) := ⟨⟨by decide +kernel, by decide +kernel⟩, List.mem_of_getElem? (i := 821) (by decide +kernel), List.mem_of_getElem? (i := 831) (by decide +kernel), List.mem_of_getElem? (i := 832) (by decide +kernel)⟩
theorem lw_p29 : lw_okq (⟨"CrabMintModel", "next", "()V"⟩, 34) := ⟨⟨by decide +kernel, by decide +kernel⟩, List.mem_of_getElem? (i := 821) (by decide +kernel), List.mem_of_getElem? (i := 954) (by decide +kernel), List.mem_of_getElem? (i := 955) (by decide +kernel)⟩
theorem lw_p30 : lw_okq (⟨"CrabMintModel", "look", "(I)I"⟩, 34) := ⟨⟨by decide +kernel, by decide +kernel⟩, List.mem_of_getElem? (i := 821) (by decide +kernel), List.mem_of_getElem? (i := 958) (by decide +kernel), List.mem_of_getElem? (i := 959) (by decide +kernel)⟩
theorem lw_p31 : lw_okq (⟨"CrabMintModel", "needs", "(ZI)V"⟩, 34) := ⟨⟨by decide +kernel, by decide +kernel⟩, List.mem_of_getElem? (i := 821) (by decide +kernel), List.mem_of_getElem? (i := 966) (by decide +kernel), List.mem_of_getElem? (i := 967) (by decide +kernel)⟩
def lw_privs_2 : List (MethodName × Nat) := [(⟨"CrabMint$Beach", "settleFights", "()V"⟩, 11), (⟨"CrabMint$Beach", "losesFight", "(I)Z"⟩, 11), (⟨"CrabMint$Beach", "openCoins", "()I"⟩, 11), (⟨"CrabMint$Orders", "note", "(I)V"⟩, 4), (⟨"CrabMint$Orders", "turnToNext", "(I)Z"⟩, 4), (⟨"CrabMint$Orders", "swap", "(II)V"⟩, 4), (⟨"CrabMint", "isSortedBy", "(I)Z"⟩, 9), (⟨"CrabMint", "stepsWithHole", "(III)I"⟩, 9), (⟨"CrabMint", "isSeenWithFalse", "(I)Z"⟩, 9), (⟨"CrabMint$Sights", "lastStep", "()I"⟩, 5), (⟨"CrabMint$Sights", "holdAt", "(ILCrabMint$Beach;)Z"⟩, 5), (⟨"CrabMintModel", "firstDraft", "()V"⟩, 34), (⟨"CrabMintModel", "keepDraft", "()V"⟩, 34), (⟨"CrabMintModel", "next", "()V"⟩, 34), (⟨"CrabMintModel", "look", "(I)I"⟩, 34), (⟨"CrabMintModel", "needs", "(ZI)V"⟩, 34)]
theorem lw_r2 : ∀ q ∈ lw_privs_2, lw_okq q := List.forall_mem_cons.mpr ⟨lw_p16, List.forall_mem_cons.mpr ⟨lw_p17, List.forall_mem_cons.mpr ⟨lw_p18, List.forall_mem_cons.mpr ⟨lw_p19, List.forall_mem_cons.mpr ⟨lw_p20, List.forall_mem_cons.mpr ⟨lw_p21, List.forall_mem_cons.mpr ⟨lw_p22, List.forall_mem_cons.mpr ⟨lw_p23, List.forall_mem_cons.mpr ⟨lw_p24, List.forall_mem_cons.mpr ⟨lw_p25, List.forall_mem_cons.mpr ⟨lw_p26, List.forall_mem_cons.mpr ⟨lw_p27, List.forall_mem_cons.mpr ⟨lw_p28, List.forall_mem_cons.mpr ⟨lw_p29, List.forall_mem_cons.mpr ⟨lw_p30, List.forall_mem_cons.mpr ⟨lw_p31, fun _ h => absurd h List.not_mem_nil⟩⟩⟩⟩⟩⟩⟩⟩⟩⟩⟩⟩⟩⟩⟩⟩
theorem lw_p32 : lw_okq (⟨"CrabMintModel", "readLine", "()V"⟩, 34) := ⟨⟨by decide +kernel, by decide +kernel⟩, List.mem_of_getElem? (i := 821) (by decide +kernel), List.mem_of_getElem? (i := 970) (by decide +kernel), List.mem_of_getElem? (i := 971) (by decide +kernel)⟩
theorem lw_p33 : lw_okq (⟨"CrabMintModel", "lineNow", "()I"⟩, 34) := ⟨⟨by decide +kernel, by decide +kernel⟩, List.mem_of_getElem? (i := 821) (by decide +kernel), List.mem_of_getElem? (i := 974) (by decide +kernel), List.mem_of_getElem? (i := 975) (by decide +kernel)⟩
theorem lw_p34 : lw_okq (⟨"CrabMintModel", "is", "(IIII)Z"⟩, 34) := ⟨⟨by decide +kernel, by decide +kernel⟩, List.mem_of_getElem? (i := 821) (by decide +kernel), List.mem_of_getElem? (i := 978) (by decide +kernel), List.mem_of_getElem? (i := 979) (by decide +kernel)⟩
theorem lw_p35 : lw_okq (⟨"CrabMintModel", "ends", "(III)Z"⟩, 34) := ⟨⟨by decide +kernel, by decide +kernel⟩, List.mem_of_getElem? (i := 821) (by decide +kernel), List.mem_of_getElem? (i := 982) (by decide +kernel), List.mem_of_getElem? (i := 983) (by decide +kernel)⟩
theorem lw_p36 : lw_okq (⟨"CrabMintModel", "readLineOf", "(I)V"⟩, 34) := ⟨⟨by decide +kernel, by decide +kernel⟩, List.mem_of_getElem? (i := 821) (by decide +kernel), List.mem_of_getElem? (i := 986) (by decide +kernel), List.mem_of_getElem? (i := 987) (by decide +kernel)⟩
theorem lw_p37 : lw_okq (⟨"CrabMintModel", "readNumber", "(II)I"⟩, 34) := ⟨⟨by decide +kernel, by decide +kernel⟩, List.mem_of_getElem? (i := 821) (by decide +kernel), List.mem_of_getElem? (i := 990) (by decide +kernel), List.mem_of_getElem? (i := 991) (by decide +kernel)⟩
theorem lw_p38 : lw_okq (⟨"CrabMintModel", "looked", "(II)I"⟩, 34) := ⟨⟨by decide +kernel, by decide +kernel⟩, List.mem_of_getElem? (i := 821) (by decide +kernel), List.mem_of_getElem? (i := 994) (by decide +kernel), List.mem_of_getElem? (i := 995) (by decide +kernel)⟩
theorem lw_p39 : lw_okq (⟨"CrabMintModel", "readHole", "()V"⟩, 34) := ⟨⟨by decide +kernel, by decide +kernel⟩, List.mem_of_getElem? (i := 821) (by decide +kernel), List.mem_of_getElem? (i := 998) (by decide +kernel), List.mem_of_getElem? (i := 999) (by decide +kernel)⟩
theorem lw_p40 : lw_okq (⟨"CrabMintModel", "lookedPlace", "()I"⟩, 34) := ⟨⟨by decide +kernel, by decide +kernel⟩, List.mem_of_getElem? (i := 821) (by decide +kernel), List.mem_of_getElem? (i := 1002) (by decide +kernel), List.mem_of_getElem? (i := 1003) (by decide +kernel)⟩
theorem lw_p41 : lw_okq (⟨"CrabMintModel", "readCoin", "()V"⟩, 34) := ⟨⟨by decide +kernel, by decide +kernel⟩, List.mem_of_getElem? (i := 821) (by decide +kernel), List.mem_of_getElem? (i := 1006) (by decide +kernel), List.mem_of_getElem? (i := 1007) (by decide +kernel)⟩
theorem lw_p42 : lw_okq (⟨"CrabMintModel", "readPlace", "()I"⟩, 34) := ⟨⟨by decide +kernel, by decide +kernel⟩, List.mem_of_getElem? (i := 821) (by decide +kernel), List.mem_of_getElem? (i := 1010) (by decide +kernel), List.mem_of_getElem? (i := 1011) (by decide +kernel)⟩
theorem lw_p43 : lw_okq (⟨"CrabMintModel", "readCrab", "()V"⟩, 34) := ⟨⟨by decide +kernel, by decide +kernel⟩, List.mem_of_getElem? (i := 821) (by decide +kernel), List.mem_of_getElem? (i := 1014) (by decide +kernel), List.mem_of_getElem? (i := 1015) (by decide +kernel)⟩
theorem lw_p44 : lw_okq (⟨"CrabMintModel", "isPlace", "(I)Z"⟩, 34) := ⟨⟨by decide +kernel, by decide +kernel⟩, List.mem_of_getElem? (i := 821) (by decide +kernel), List.mem_of_getElem? (i := 1033) (by decide +kernel), List.mem_of_getElem? (i := 1034) (by decide +kernel)⟩
theorem lw_p45 : lw_okq (⟨"CrabMintModel", "isCoin", "(I)Z"⟩, 34) := ⟨⟨by decide +kernel, by decide +kernel⟩, List.mem_of_getElem? (i := 821) (by decide +kernel), List.mem_of_getElem? (i := 1041) (by decide +kernel), List.mem_of_getElem? (i := 1042) (by decide +kernel)⟩
theorem lw_p46 : lw_okq (⟨"CrabMintModel", "starts", "()V"⟩, 34) := ⟨⟨by decide +kernel, by decide +kernel⟩, List.mem_of_getElem? (i := 821) (by decide +kernel), List.mem_of_getElem? (i := 1045) (by decide +kernel), List.mem_of_getElem? (i := 1046) (by decide +kernel)⟩
theorem lw_p47 : lw_okq (⟨"CrabMintModel", "isRight", "(I)Z"⟩, 34) := ⟨⟨by decide +kernel, by decide +kernel⟩, List.mem_of_getElem? (i := 821) (by decide +kernel), List.mem_of_getElem? (i := 1049) (by decide +kernel), List.mem_of_getElem? (i := 1050) (by decide +kernel)⟩
def lw_privs_3 : List (MethodName × Nat) := [(⟨"CrabMintModel", "readLine", "()V"⟩, 34), (⟨"CrabMintModel", "lineNow", "()I"⟩, 34), (⟨"CrabMintModel", "is", "(IIII)Z"⟩, 34), (⟨"CrabMintModel", "ends", "(III)Z"⟩, 34), (⟨"CrabMintModel", "readLineOf", "(I)V"⟩, 34), (⟨"CrabMintModel", "readNumber", "(II)I"⟩, 34), (⟨"CrabMintModel", "looked", "(II)I"⟩, 34), (⟨"CrabMintModel", "readHole", "()V"⟩, 34), (⟨"CrabMintModel", "lookedPlace", "()I"⟩, 34), (⟨"CrabMintModel", "readCoin", "()V"⟩, 34), (⟨"CrabMintModel", "readPlace", "()I"⟩, 34), (⟨"CrabMintModel", "readCrab", "()V"⟩, 34), (⟨"CrabMintModel", "isPlace", "(I)Z"⟩, 34), (⟨"CrabMintModel", "isCoin", "(I)Z"⟩, 34), (⟨"CrabMintModel", "starts", "()V"⟩, 34), (⟨"CrabMintModel", "isRight", "(I)Z"⟩, 34)]
theorem lw_r3 : ∀ q ∈ lw_privs_3, lw_okq q := List.forall_mem_cons.mpr ⟨lw_p32, List.forall_mem_cons.mpr ⟨lw_p33, List.forall_mem_cons.mpr ⟨lw_p34, List.forall_mem_cons.mpr ⟨lw_p35, List.forall_mem_cons.mpr ⟨lw_p36, List.forall_mem_cons.mpr ⟨lw_p37, List.forall_mem_cons.mpr ⟨lw_p38, List.forall_mem_cons.mpr ⟨lw_p39, List.forall_mem_cons.mpr ⟨lw_p40, List.forall_mem_cons.mpr ⟨lw_p41, List.forall_mem_cons.mpr ⟨lw_p42, List.forall_mem_cons.mpr ⟨lw_p43, List.forall_mem_cons.mpr ⟨lw_p44, List.forall_mem_cons.mpr ⟨lw_p45, List.forall_mem_cons.mpr ⟨lw_p46, List.forall_mem_cons.mpr ⟨lw_p47, fun _ h => absurd h List.not_mem_nil⟩⟩⟩⟩⟩⟩⟩⟩⟩⟩⟩⟩⟩⟩⟩⟩
theorem lw_p48 : lw_okq (⟨"CrabMintModel", "rightPlace", "(I)I"⟩, 34) := ⟨⟨by decide +kernel, by decide +kernel⟩, List.mem_of_getElem? (i := 821) (by decide +kernel), List.mem_of_getElem? (i := 1053) (by decide +kernel), List.mem_of_getElem? (i := 1054) (by decide +kernel)⟩
theorem lw_p49 : lw_okq (⟨"CrabMintModel", "isCrab", "(I)Z"⟩, 34) := ⟨⟨by decide +kernel, by decide +kernel⟩, List.mem_of_getElem? (i := 821) (by decide +kernel), List.mem_of_getElem? (i := 1061) (by decide +kernel), List.mem_of_getElem? (i := 1062) (by decide +kernel)⟩
theorem lw_p50 : lw_okq (⟨"CrabMintModel", "heldBy", "(I)I"⟩, 34) := ⟨⟨by decide +kernel, by decide +kernel⟩, List.mem_of_getElem? (i := 821) (by decide +kernel), List.mem_of_getElem? (i := 1065) (by decide +kernel), List.mem_of_getElem? (i := 1066) (by decide +kernel)⟩
theorem lw_p51 : lw_okq (⟨"CrabMintModel", "manyAt", "(I)I"⟩, 34) := ⟨⟨by decide +kernel, by decide +kernel⟩, List.mem_of_getElem? (i := 821) (by decide +kernel), List.mem_of_getElem? (i := 1074) (by decide +kernel), List.mem_of_getElem? (i := 1075) (by decide +kernel)⟩
theorem lw_p52 : lw_okq (⟨"CrabMintModel", "becomes", "(II)I"⟩, 34) := ⟨⟨by decide +kernel, by decide +kernel⟩, List.mem_of_getElem? (i := 821) (by decide +kernel), List.mem_of_getElem? (i := 1078) (by decide +kernel), List.mem_of_getElem? (i := 1079) (by decide +kernel)⟩
theorem lw_p53 : lw_okq (⟨"CrabMintModel", "steps", "()V"⟩, 34) := ⟨⟨by decide +kernel, by decide +kernel⟩, List.mem_of_getElem? (i := 821) (by decide +kernel), List.mem_of_getElem? (i := 1112) (by decide +kernel), List.mem_of_getElem? (i := 1113) (by decide +kernel)⟩
theorem lw_p54 : lw_okq (⟨"CrabMintModel", "does", "(I)V"⟩, 34) := ⟨⟨by decide +kernel, by decide +kernel⟩, List.mem_of_getElem? (i := 821) (by decide +kernel), List.mem_of_getElem? (i := 1116) (by decide +kernel), List.mem_of_getElem? (i := 1117) (by decide +kernel)⟩
theorem lw_p55 : lw_okq (⟨"CrabMintModel", "lyingFor", "(I)I"⟩, 34) := ⟨⟨by decide +kernel, by decide +kernel⟩, List.mem_of_getElem? (i := 821) (by decide +kernel), List.mem_of_getElem? (i := 1120) (by decide +kernel), List.mem_of_getElem? (i := 1121) (by decide +kernel)⟩
theorem lw_p56 : lw_okq (⟨"CrabMintModel", "doesFit", "(II)Z"⟩, 34) := ⟨⟨by decide +kernel, by decide +kernel⟩, List.mem_of_getElem? (i := 821) (by decide +kernel), List.mem_of_getElem? (i := 1124) (by decide +kernel), List.mem_of_getElem? (i := 1125) (by decide +kernel)⟩
theorem lw_p57 : lw_okq (⟨"CrabMintModel", "fights", "()V"⟩, 34) := ⟨⟨by decide +kernel, by decide +kernel⟩, List.mem_of_getElem? (i := 821) (by decide +kernel), List.mem_of_getElem? (i := 1128) (by decide +kernel), List.mem_of_getElem? (i := 1129) (by decide +kernel)⟩
theorem lw_p58 : lw_okq (⟨"CrabMintModel", "rightMany", "()I"⟩, 34) := ⟨⟨by decide +kernel, by decide +kernel⟩, List.mem_of_getElem? (i := 821) (by decide +kernel), List.mem_of_getElem? (i := 1132) (by decide +kernel), List.mem_of_getElem? (i := 1133) (by decide +kernel)⟩
theorem lw_p59 : lw_okq (⟨"CrabMintModel", "sortedBehind", "()I"⟩, 34) := ⟨⟨by decide +kernel, by decide +kernel⟩, List.mem_of_getElem? (i := 821) (by decide +kernel), List.mem_of_getElem? (i := 1148) (by decide +kernel), List.mem_of_getElem? (i := 1149) (by decide +kernel)⟩
theorem lw_p60 : lw_okq (⟨"CrabMintModel", "nextOrder", "()Z"⟩, 34) := ⟨⟨by decide +kernel, by decide +kernel⟩, List.mem_of_getElem? (i := 821) (by decide +kernel), List.mem_of_getElem? (i := 1158) (by decide +kernel), List.mem_of_getElem? (i := 1159) (by decide +kernel)⟩
theorem lw_p61 : lw_okq (⟨"CrabMintModel", "isSo", "()Z"⟩, 34) := ⟨⟨by decide +kernel, by decide +kernel⟩, List.mem_of_getElem? (i := 821) (by decide +kernel), List.mem_of_getElem? (i := 1193) (by decide +kernel), List.mem_of_getElem? (i := 1194) (by decide +kernel)⟩
theorem lw_p62 : lw_okq (⟨"CrabMintModel", "copies", "(II)V"⟩, 34) := ⟨⟨by decide +kernel, by decide +kernel⟩, List.mem_of_getElem? (i := 821) (by decide +kernel), List.mem_of_getElem? (i := 1210) (by decide +kernel), List.mem_of_getElem? (i := 1211) (by decide +kernel)⟩
def lw_privs_4 : List (MethodName × Nat) := [(⟨"CrabMintModel", "rightPlace", "(I)I"⟩, 34), (⟨"CrabMintModel", "isCrab", "(I)Z"⟩, 34), (⟨"CrabMintModel", "heldBy", "(I)I"⟩, 34), (⟨"CrabMintModel", "manyAt", "(I)I"⟩, 34), (⟨"CrabMintModel", "becomes", "(II)I"⟩, 34), (⟨"CrabMintModel", "steps", "()V"⟩, 34), (⟨"CrabMintModel", "does", "(I)V"⟩, 34), (⟨"CrabMintModel", "lyingFor", "(I)I"⟩, 34), (⟨"CrabMintModel", "doesFit", "(II)Z"⟩, 34), (⟨"CrabMintModel", "fights", "()V"⟩, 34), (⟨"CrabMintModel", "rightMany", "()I"⟩, 34), (⟨"CrabMintModel", "sortedBehind", "()I"⟩, 34), (⟨"CrabMintModel", "nextOrder", "()Z"⟩, 34), (⟨"CrabMintModel", "isSo", "()Z"⟩, 34), (⟨"CrabMintModel", "copies", "(II)V"⟩, 34)]
theorem lw_r4 : ∀ q ∈ lw_privs_4, lw_okq q := List.forall_mem_cons.mpr ⟨lw_p48, List.forall_mem_cons.mpr ⟨lw_p49, List.forall_mem_cons.mpr ⟨lw_p50, List.forall_mem_cons.mpr ⟨lw_p51, List.forall_mem_cons.mpr ⟨lw_p52, List.forall_mem_cons.mpr ⟨lw_p53, List.forall_mem_cons.mpr ⟨lw_p54, List.forall_mem_cons.mpr ⟨lw_p55, List.forall_mem_cons.mpr ⟨lw_p56, List.forall_mem_cons.mpr ⟨lw_p57, List.forall_mem_cons.mpr ⟨lw_p58, List.forall_mem_cons.mpr ⟨lw_p59, List.forall_mem_cons.mpr ⟨lw_p60, List.forall_mem_cons.mpr ⟨lw_p61, List.forall_mem_cons.mpr ⟨lw_p62, fun _ h => absurd h List.not_mem_nil⟩⟩⟩⟩⟩⟩⟩⟩⟩⟩⟩⟩⟩⟩⟩
def lw_privs : List (MethodName × Nat) := lw_privs_1 ++ (lw_privs_2 ++ (lw_privs_3 ++ (lw_privs_4)))
def lw_tbl : List Cond := k2_sels lw_privs ++ tables_1
theorem lw_privs_ok : ∀ q ∈ lw_privs, lw_okq q := by
  show ∀ q ∈ lw_privs_1 ++ (lw_privs_2 ++ (lw_privs_3 ++ (lw_privs_4))), lw_okq q
  exact List.forall_mem_append.mpr ⟨lw_r1, List.forall_mem_append.mpr ⟨lw_r2, List.forall_mem_append.mpr ⟨lw_r3, lw_r4⟩⟩⟩
end
section
def RX0 : String := "CrabMint$Beach"
def TX0 : u_T := fun k => match k with
  | 0 => ("CrabMint$Beach", "places", "I", false)
  | 1 => ("CrabMint$Beach", "holes", "[I", true)
  | 2 => ("CrabMint$Beach", "coinCount", "I", false)
  | 3 => ("CrabMint$Beach", "coins", "[LCrabMint$Coin;", true)
  | 4 => ("CrabMint$Beach", "crabCount", "I", false)
  | 5 => ("CrabMint$Beach", "crabs", "[LCrabMint$Crab;", true)
  | 6 => ("CrabMint$Beach", "tide", "I", false)
  | 7 => ("CrabMint$Beach", "wet", "I", false)
  | 8 => ("CrabMint$Beach", "step", "I", false)
  | 9 => ("CrabMint$Beach", "order", "[I", true)
  | _ => ("CrabMint$Beach", "acting", "I", false)
def tyX0 : Nat → FieldType := fun k => match k with
  | 0 => .int
  | 1 => .array .int
  | 2 => .int
  | 3 => .array (.object "CrabMint$Coin")
  | 4 => .int
  | 5 => .array (.object "CrabMint$Crab")
  | 6 => .int
  | 7 => .int
  | 8 => .int
  | 9 => .array .int
  | _ => .int
abbrev wsX00 : List Cond := u_ws RX0 TX0 11
theorem nmX0 : ∀ a, a < 11 → ∀ b, b < 11 → a ≠ b → (TX0 a).2.1 ≠ (TX0 b).2.1 := by decide +kernel
theorem tyX0_ok : ∀ k, k < 11 → parseFieldDescriptor (TX0 k).2.2.1 = some (tyX0 k) := by decide +kernel
abbrev cX0_init : ByteArray := prog_2_method_1_code
def yX0_init : MethodName := ⟨RX0, "<init>", "()V"⟩
abbrev cX0_clear : ByteArray := prog_2_method_2_code
def yX0_clear : MethodName := ⟨RX0, "clear", "()V"⟩
abbrev cX0_copyFrom : ByteArray := prog_2_method_3_code
def yX0_copyFrom : MethodName := ⟨RX0, "copyFrom", "(LCrabMint$Beach;)V"⟩
abbrev cX0_addCoin : ByteArray := prog_2_method_4_code
def yX0_addCoin : MethodName := ⟨RX0, "addCoin", "(II)V"⟩
abbrev cX0_addCrab : ByteArray := prog_2_method_5_code
def yX0_addCrab : MethodName := ⟨RX0, "addCrab", "(IIII)V"⟩
abbrev cX0_sendAwayAllBut : ByteArray := prog_2_method_6_code
def yX0_sendAwayAllBut : MethodName := ⟨RX0, "sendAwayAllBut", "(I)V"⟩
abbrev cX0_hasItsPlaces : ByteArray := prog_2_method_7_code
def yX0_hasItsPlaces : MethodName := ⟨RX0, "hasItsPlaces", "()Z"⟩
abbrev cX0_layDown : ByteArray := prog_2_method_8_code
def yX0_layDown : MethodName := ⟨RX0, "layDown", "(II)V"⟩
abbrev cX0_countBetween : ByteArray := prog_2_method_9_code
def yX0_countBetween : MethodName := ⟨RX0, "countBetween", "(II)I"⟩
abbrev cX0_rightPlace : ByteArray := prog_2_method_10_code
def yX0_rightPlace : MethodName := ⟨RX0, "rightPlace", "(LCrabMint$Coin;)I"⟩
abbrev cX0_isRight : ByteArray := prog_2_method_11_code
def yX0_isRight : MethodName := ⟨RX0, "isRight", "(LCrabMint$Coin;)Z"⟩
abbrev cX0_countRight : ByteArray := prog_2_method_12_code
def yX0_countRight : MethodName := ⟨RX0, "countRight", "()I"⟩
abbrev cX0_growWeeks : ByteArray := prog_2_method_13_code
def yX0_growWeeks : MethodName := ⟨RX0, "growWeeks", "(I)V"⟩
abbrev cX0_greatestClaw : ByteArray := prog_2_method_14_code
def yX0_greatestClaw : MethodName := ⟨RX0, "greatestClaw", "()I"⟩
abbrev cX0_goSteps : ByteArray := prog_2_method_15_code
def yX0_goSteps : MethodName := ⟨RX0, "goSteps", "(I)V"⟩
abbrev cX0_goStep : ByteArray := prog_2_method_16_code
def yX0_goStep : MethodName := ⟨RX0, "goStep", "()V"⟩
abbrev cX0_act : ByteArray := prog_2_method_17_code
def yX0_act : MethodName := ⟨RX0, "act", "(I)V"⟩
abbrev cX0_firstFitting : ByteArray := prog_2_method_18_code
def yX0_firstFitting : MethodName := ⟨RX0, "firstFitting", "(LCrabMint$Crab;)I"⟩
abbrev cX0_settleFights : ByteArray := prog_2_method_19_code
def yX0_settleFights : MethodName := ⟨RX0, "settleFights", "()V"⟩
abbrev cX0_losesFight : ByteArray := prog_2_method_20_code
def yX0_losesFight : MethodName := ⟨RX0, "losesFight", "(I)Z"⟩
abbrev cX0_washAway : ByteArray := prog_2_method_21_code
def yX0_washAway : MethodName := ⟨RX0, "washAway", "(II)V"⟩
abbrev cX0_comeGulls : ByteArray := prog_2_method_22_code
def yX0_comeGulls : MethodName := ⟨RX0, "comeGulls", "(I)V"⟩
abbrev cX0_stepsUntilSorted : ByteArray := prog_2_method_23_code
def yX0_stepsUntilSorted : MethodName := ⟨RX0, "stepsUntilSorted", "(I)I"⟩
abbrev cX0_openCoins : ByteArray := prog_2_method_24_code
def yX0_openCoins : MethodName := ⟨RX0, "openCoins", "()I"⟩
def RX1 : String := "CrabMint$Coin"
def TX1 : u_T := fun k => match k with
  | 0 => ("CrabMint$Coin", "size", "I", false)
  | 1 => ("CrabMint$Coin", "isFalse", "Z", false)
  | 2 => ("CrabMint$Coin", "where", "I", false)
  | _ => ("CrabMint$Coin", "goal", "I", false)
def tyX1 : Nat → FieldType := fun k => match k with
  | 0 => .int
  | 1 => .boolean
  | 2 => .int
  | _ => .int
abbrev wsX10 : List Cond := u_ws RX1 TX1 4
theorem nmX1 : ∀ a, a < 4 → ∀ b, b < 4 → a ≠ b → (TX1 a).2.1 ≠ (TX1 b).2.1 := by decide +kernel
theorem tyX1_ok : ∀ k, k < 4 → parseFieldDescriptor (TX1 k).2.2.1 = some (tyX1 k) := by decide +kernel
abbrev cX1_init : ByteArray := prog_3_method_1_code
def yX1_init : MethodName := ⟨RX1, "<init>", "()V"⟩
abbrev cX1_copyFrom : ByteArray := prog_3_method_2_code
def yX1_copyFrom : MethodName := ⟨RX1, "copyFrom", "(LCrabMint$Coin;)V"⟩
def RX2 : String := "CrabMint$Crab"
def TX2 : u_T := fun k => match k with
  | 0 => ("CrabMint$Crab", "claw", "I", false)
  | 1 => ("CrabMint$Crab", "shell", "I", false)
  | 2 => ("CrabMint$Crab", "hand", "I", false)
  | 3 => ("CrabMint$Crab", "place", "I", false)
  | _ => ("CrabMint$Crab", "held", "I", false)
def tyX2 : Nat → FieldType := fun k => match k with
  | 0 => .int
  | 1 => .int
  | 2 => .int
  | 3 => .int
  | _ => .int
abbrev wsX20 : List Cond := u_ws RX2 TX2 5
theorem nmX2 : ∀ a, a < 5 → ∀ b, b < 5 → a ≠ b → (TX2 a).2.1 ≠ (TX2 b).2.1 := by decide +kernel
theorem tyX2_ok : ∀ k, k < 5 → parseFieldDescriptor (TX2 k).2.2.1 = some (tyX2 k) := by decide +kernel
abbrev cX2_init : ByteArray := prog_4_method_1_code
def yX2_init : MethodName := ⟨RX2, "<init>", "()V"⟩
abbrev cX2_copyFrom : ByteArray := prog_4_method_2_code
def yX2_copyFrom : MethodName := ⟨RX2, "copyFrom", "(LCrabMint$Crab;)V"⟩
abbrev cX2_holds : ByteArray := prog_4_method_3_code
def yX2_holds : MethodName := ⟨RX2, "holds", "()Z"⟩
abbrev cX2_isFitBy : ByteArray := prog_4_method_4_code
def yX2_isFitBy : MethodName := ⟨RX2, "isFitBy", "(LCrabMint$Coin;)Z"⟩
abbrev cX2_walk : ByteArray := prog_4_method_5_code
def yX2_walk : MethodName := ⟨RX2, "walk", "(I)V"⟩
def RX3 : String := "CrabMint$Image"
def TX3 : u_T := fun k => match k with
  | 0 => ("CrabMint$Image", "kept", "Z", false)
  | 1 => ("CrabMint$Image", "beach", "LCrabMint$Beach;", true)
  | _ => ("CrabMint$Image", "sights", "LCrabMint$Sights;", true)
def tyX3 : Nat → FieldType := fun k => match k with
  | 0 => .boolean
  | 1 => .object "CrabMint$Beach"
  | _ => .object "CrabMint$Sights"
abbrev wsX30 : List Cond := u_ws RX3 TX3 3
theorem nmX3 : ∀ a, a < 3 → ∀ b, b < 3 → a ≠ b → (TX3 a).2.1 ≠ (TX3 b).2.1 := by decide +kernel
theorem tyX3_ok : ∀ k, k < 3 → parseFieldDescriptor (TX3 k).2.2.1 = some (tyX3 k) := by decide +kernel
abbrev cX3_init : ByteArray := prog_5_method_1_code
def yX3_init : MethodName := ⟨RX3, "<init>", "()V"⟩
abbrev cX3_take : ByteArray := prog_5_method_2_code
def yX3_take : MethodName := ⟨RX3, "take", "(LCrabMint$Beach;LCrabMint$Sights;)V"⟩
def RX4 : String := "CrabMint$Orders"
def TX4 : u_T := fun k => match k with
  | 0 => ("CrabMint$Orders", "count", "I", false)
  | 1 => ("CrabMint$Orders", "fewestSteps", "I", false)
  | 2 => ("CrabMint$Orders", "first", "[I", true)
  | _ => ("CrabMint$Orders", "order", "[I", true)
def tyX4 : Nat → FieldType := fun k => match k with
  | 0 => .int
  | 1 => .int
  | 2 => .array .int
  | _ => .array .int
abbrev wsX40 : List Cond := u_ws RX4 TX4 4
theorem nmX4 : ∀ a, a < 4 → ∀ b, b < 4 → a ≠ b → (TX4 a).2.1 ≠ (TX4 b).2.1 := by decide +kernel
theorem tyX4_ok : ∀ k, k < 4 → parseFieldDescriptor (TX4 k).2.2.1 = some (tyX4 k) := by decide +kernel
abbrev cX4_init : ByteArray := prog_6_method_1_code
def yX4_init : MethodName := ⟨RX4, "<init>", "()V"⟩
abbrev cX4_tryAll : ByteArray := prog_6_method_2_code
def yX4_tryAll : MethodName := ⟨RX4, "tryAll", "(LCrabMint$Beach;LCrabMint$Beach;)V"⟩
abbrev cX4_note : ByteArray := prog_6_method_3_code
def yX4_note : MethodName := ⟨RX4, "note", "(I)V"⟩
abbrev cX4_copyOrder : ByteArray := prog_6_method_4_code
def yX4_copyOrder : MethodName := ⟨RX4, "copyOrder", "([I[I)V"⟩
abbrev cX4_turnToNext : ByteArray := prog_6_method_5_code
def yX4_turnToNext : MethodName := ⟨RX4, "turnToNext", "(I)Z"⟩
abbrev cX4_swap : ByteArray := prog_6_method_6_code
def yX4_swap : MethodName := ⟨RX4, "swap", "(II)V"⟩
def RX5 : String := "CrabMint$Sheet"
def TX5 : u_T := fun k => match k with
  | 0 => ("CrabMint$Sheet", "cells", "[I", true)
  | 1 => ("CrabMint$Sheet", "lane", "I", false)
  | _ => ("CrabMint$Sheet", "length", "I", false)
def tyX5 : Nat → FieldType := fun k => match k with
  | 0 => .array .int
  | 1 => .int
  | _ => .int
abbrev wsX50 : List Cond := u_ws RX5 TX5 3
theorem nmX5 : ∀ a, a < 3 → ∀ b, b < 3 → a ≠ b → (TX5 a).2.1 ≠ (TX5 b).2.1 := by decide +kernel
theorem tyX5_ok : ∀ k, k < 3 → parseFieldDescriptor (TX5 k).2.2.1 = some (tyX5 k) := by decide +kernel
abbrev cX5_init : ByteArray := prog_7_method_1_code
def yX5_init : MethodName := ⟨RX5, "<init>", "()V"⟩
abbrev cX5_renew : ByteArray := prog_7_method_2_code
def yX5_renew : MethodName := ⟨RX5, "renew", "(II)V"⟩
abbrev cX5_faultAt : ByteArray := prog_7_method_3_code
def yX5_faultAt : MethodName := ⟨RX5, "faultAt", "(I)I"⟩
abbrev cX5_faultAtPair : ByteArray := prog_7_method_4_code
def yX5_faultAtPair : MethodName := ⟨RX5, "faultAtPair", "(II)I"⟩
abbrev cX5_put : ByteArray := prog_7_method_5_code
def yX5_put : MethodName := ⟨RX5, "put", "(II)V"⟩
def RX6 : String := "CrabMint$Sights"
def TX6 : u_T := fun k => match k with
  | 0 => ("CrabMint$Sights", "count", "I", false)
  | 1 => ("CrabMint$Sights", "steps", "[I", true)
  | 2 => ("CrabMint$Sights", "coins", "[I", true)
  | 3 => ("CrabMint$Sights", "wheres", "[I", true)
  | _ => ("CrabMint$Sights", "are", "[Z", true)
def tyX6 : Nat → FieldType := fun k => match k with
  | 0 => .int
  | 1 => .array .int
  | 2 => .array .int
  | 3 => .array .int
  | _ => .array .boolean
abbrev wsX60 : List Cond := u_ws RX6 TX6 5
theorem nmX6 : ∀ a, a < 5 → ∀ b, b < 5 → a ≠ b → (TX6 a).2.1 ≠ (TX6 b).2.1 := by decide +kernel
theorem tyX6_ok : ∀ k, k < 5 → parseFieldDescriptor (TX6 k).2.2.1 = some (tyX6 k) := by decide +kernel
abbrev cX6_init : ByteArray := prog_8_method_1_code
def yX6_init : MethodName := ⟨RX6, "<init>", "()V"⟩
abbrev cX6_add : ByteArray := prog_8_method_2_code
def yX6_add : MethodName := ⟨RX6, "add", "(IIIZ)V"⟩
abbrev cX6_copyFrom : ByteArray := prog_8_method_3_code
def yX6_copyFrom : MethodName := ⟨RX6, "copyFrom", "(LCrabMint$Sights;)V"⟩
abbrev cX6_holdFor : ByteArray := prog_8_method_4_code
def yX6_holdFor : MethodName := ⟨RX6, "holdFor", "(LCrabMint$Beach;)Z"⟩
abbrev cX6_lastStep : ByteArray := prog_8_method_5_code
def yX6_lastStep : MethodName := ⟨RX6, "lastStep", "()I"⟩
abbrev cX6_holdAt : ByteArray := prog_8_method_6_code
def yX6_holdAt : MethodName := ⟨RX6, "holdAt", "(ILCrabMint$Beach;)Z"⟩
def RX7 : String := "CrabMint$Tape"
def TX7 : u_T := fun k => match k with
  | 0 => ("CrabMint$Tape", "bytes", "[B", true)
  | _ => ("CrabMint$Tape", "length", "I", false)
def tyX7 : Nat → FieldType := fun k => match k with
  | 0 => .array .byte
  | _ => .int
abbrev wsX70 : List Cond := u_ws RX7 TX7 2
theorem nmX7 : ∀ a, a < 2 → ∀ b, b < 2 → a ≠ b → (TX7 a).2.1 ≠ (TX7 b).2.1 := by decide +kernel
theorem tyX7_ok : ∀ k, k < 2 → parseFieldDescriptor (TX7 k).2.2.1 = some (tyX7 k) := by decide +kernel
abbrev cX7_init : ByteArray := prog_9_method_1_code
def yX7_init : MethodName := ⟨RX7, "<init>", "()V"⟩
abbrev cX7_append : ByteArray := prog_9_method_2_code
def yX7_append : MethodName := ⟨RX7, "append", "(J)V"⟩
def RX8 : String := "CrabMint$Teller"
def TX8 : u_T := fun k => match k with
  | 0 => ("CrabMint$Teller", "tape", "LCrabMint$Tape;", true)
  | 1 => ("CrabMint$Teller", "told", "LCrabMint$Beach;", true)
  | 2 => ("CrabMint$Teller", "fault", "I", false)
  | 3 => ("CrabMint$Teller", "faultPlace", "I", false)
  | 4 => ("CrabMint$Teller", "placesTold", "Z", false)
  | 5 => ("CrabMint$Teller", "tideTold", "Z", false)
  | 6 => ("CrabMint$Teller", "kind", "I", false)
  | 7 => ("CrabMint$Teller", "from", "I", false)
  | 8 => ("CrabMint$Teller", "to", "I", false)
  | _ => ("CrabMint$Teller", "value", "I", false)
def tyX8 : Nat → FieldType := fun k => match k with
  | 0 => .object "CrabMint$Tape"
  | 1 => .object "CrabMint$Beach"
  | 2 => .int
  | 3 => .int
  | 4 => .boolean
  | 5 => .boolean
  | 6 => .int
  | 7 => .int
  | 8 => .int
  | _ => .int
abbrev wsX80 : List Cond := u_ws RX8 TX8 10
theorem nmX8 : ∀ a, a < 10 → ∀ b, b < 10 → a ≠ b → (TX8 a).2.1 ≠ (TX8 b).2.1 := by decide +kernel
theorem tyX8_ok : ∀ k, k < 10 → parseFieldDescriptor (TX8 k).2.2.1 = some (tyX8 k) := by decide +kernel
abbrev cX8_init : ByteArray := prog_10_method_1_code
def yX8_init : MethodName := ⟨RX8, "<init>", "()V"⟩
abbrev cX8_tellAll : ByteArray := prog_10_method_2_code
def yX8_tellAll : MethodName := ⟨RX8, "tellAll", "()I"⟩
abbrev cX8_refuse : ByteArray := prog_10_method_3_code
def yX8_refuse : MethodName := ⟨RX8, "refuse", "(II)Z"⟩
abbrev cX8_takeLine : ByteArray := prog_10_method_4_code
def yX8_takeLine : MethodName := ⟨RX8, "takeLine", "()Z"⟩
abbrev cX8_takePlaces : ByteArray := prog_10_method_5_code
def yX8_takePlaces : MethodName := ⟨RX8, "takePlaces", "()Z"⟩
abbrev cX8_takeHole : ByteArray := prog_10_method_6_code
def yX8_takeHole : MethodName := ⟨RX8, "takeHole", "()Z"⟩
abbrev cX8_takeCoin : ByteArray := prog_10_method_7_code
def yX8_takeCoin : MethodName := ⟨RX8, "takeCoin", "()Z"⟩
abbrev cX8_takeCrab : ByteArray := prog_10_method_8_code
def yX8_takeCrab : MethodName := ⟨RX8, "takeCrab", "()Z"⟩
abbrev cX8_takeTide : ByteArray := prog_10_method_9_code
def yX8_takeTide : MethodName := ⟨RX8, "takeTide", "()Z"⟩
abbrev cX8_endsLine : ByteArray := prog_10_method_10_code
def yX8_endsLine : MethodName := ⟨RX8, "endsLine", "()Z"⟩
abbrev cX8_takeNumber : ByteArray := prog_10_method_11_code
def yX8_takeNumber : MethodName := ⟨RX8, "takeNumber", "(II)Z"⟩
abbrev cX8_isName : ByteArray := prog_10_method_12_code
def yX8_isName : MethodName := ⟨RX8, "isName", "(Ljava/lang/String;)Z"⟩
abbrev cX8_takeToken : ByteArray := prog_10_method_13_code
def yX8_takeToken : MethodName := ⟨RX8, "takeToken", "()Z"⟩
abbrev cX8_kindOf : ByteArray := prog_10_method_14_code
def yX8_kindOf : MethodName := ⟨RX8, "kindOf", "(I)I"⟩
def RX9 : String := "CrabMint"
def TX9 : u_T := fun k => match k with
  | 0 => ("CrabMint", "now", "LCrabMint$Beach;", true)
  | 1 => ("CrabMint", "trial", "LCrabMint$Beach;", true)
  | 2 => ("CrabMint", "sights", "LCrabMint$Sights;", true)
  | 3 => ("CrabMint", "tried", "LCrabMint$Orders;", true)
  | 4 => ("CrabMint", "teller", "LCrabMint$Teller;", true)
  | 5 => ("CrabMint", "tape", "LCrabMint$Tape;", true)
  | 6 => ("CrabMint", "images", "[LCrabMint$Image;", true)
  | 7 => ("CrabMint", "sheets", "[LCrabMint$Sheet;", true)
  | _ => ("CrabMint", "tornBy", "I", false)
def tyX9 : Nat → FieldType := fun k => match k with
  | 0 => .object "CrabMint$Beach"
  | 1 => .object "CrabMint$Beach"
  | 2 => .object "CrabMint$Sights"
  | 3 => .object "CrabMint$Orders"
  | 4 => .object "CrabMint$Teller"
  | 5 => .object "CrabMint$Tape"
  | 6 => .array (.object "CrabMint$Image")
  | 7 => .array (.object "CrabMint$Sheet")
  | _ => .int
abbrev wsX90 : List Cond := u_ws RX9 TX9 9
theorem nmX9 : ∀ a, a < 9 → ∀ b, b < 9 → a ≠ b → (TX9 a).2.1 ≠ (TX9 b).2.1 := by decide +kernel
theorem tyX9_ok : ∀ k, k < 9 → parseFieldDescriptor (TX9 k).2.2.1 = some (tyX9 k) := by decide +kernel
abbrev cX9_init : ByteArray := prog_1_method_1_code
def yX9_init : MethodName := ⟨RX9, "<init>", "()V"⟩
abbrev cX9_feed : ByteArray := prog_1_method_2_code
def yX9_feed : MethodName := ⟨RX9, "feed", "(J)I"⟩
abbrev cX9_end : ByteArray := prog_1_method_3_code
def yX9_end : MethodName := ⟨RX9, "end", "(I)I"⟩
abbrev cX9_text : ByteArray := prog_1_method_4_code
def yX9_text : MethodName := ⟨RX9, "text", "()I"⟩
abbrev cX9_fault : ByteArray := prog_1_method_5_code
def yX9_fault : MethodName := ⟨RX9, "fault", "()I"⟩
abbrev cX9_rule : ByteArray := prog_1_method_6_code
def yX9_rule : MethodName := ⟨RX9, "rule", "(I)I"⟩
abbrev cX9_hole : ByteArray := prog_1_method_7_code
def yX9_hole : MethodName := ⟨RX9, "hole", "(I)I"⟩
abbrev cX9_coin : ByteArray := prog_1_method_8_code
def yX9_coin : MethodName := ⟨RX9, "coin", "(II)I"⟩
abbrev cX9_crab : ByteArray := prog_1_method_9_code
def yX9_crab : MethodName := ⟨RX9, "crab", "(II)I"⟩
abbrev cX9_dig : ByteArray := prog_1_method_10_code
def yX9_dig : MethodName := ⟨RX9, "dig", "(II)I"⟩
abbrev cX9_mint : ByteArray := prog_1_method_11_code
def yX9_mint : MethodName := ⟨RX9, "mint", "(II)I"⟩
abbrev cX9_lie : ByteArray := prog_1_method_12_code
def yX9_lie : MethodName := ⟨RX9, "lie", "(II)I"⟩
abbrev cX9_fake : ByteArray := prog_1_method_13_code
def yX9_fake : MethodName := ⟨RX9, "fake", "(IZ)I"⟩
abbrev cX9_set : ByteArray := prog_1_method_14_code
def yX9_set : MethodName := ⟨RX9, "set", "(II)I"⟩
abbrev cX9_hand : ByteArray := prog_1_method_15_code
def yX9_hand : MethodName := ⟨RX9, "hand", "(II)I"⟩
abbrev cX9_tide : ByteArray := prog_1_method_16_code
def yX9_tide : MethodName := ⟨RX9, "tide", "(II)I"⟩
abbrev cX9_go : ByteArray := prog_1_method_17_code
def yX9_go : MethodName := ⟨RX9, "go", "(I)I"⟩
abbrev cX9_ahead : ByteArray := prog_1_method_18_code
def yX9_ahead : MethodName := ⟨RX9, "ahead", "(II)I"⟩
abbrev cX9_grow : ByteArray := prog_1_method_19_code
def yX9_grow : MethodName := ⟨RX9, "grow", "()I"⟩
abbrev cX9_sorted : ByteArray := prog_1_method_20_code
def yX9_sorted : MethodName := ⟨RX9, "sorted", "()I"⟩
abbrev cX9_orders : ByteArray := prog_1_method_21_code
def yX9_orders : MethodName := ⟨RX9, "orders", "(I)I"⟩
abbrev cX9_fewest : ByteArray := prog_1_method_22_code
def yX9_fewest : MethodName := ⟨RX9, "fewest", "(I)I"⟩
abbrev cX9_better : ByteArray := prog_1_method_23_code
def yX9_better : MethodName := ⟨RX9, "better", "(I)I"⟩
abbrev cX9_weeks : ByteArray := prog_1_method_24_code
def yX9_weeks : MethodName := ⟨RX9, "weeks", "()I"⟩
abbrev cX9_see : ByteArray := prog_1_method_25_code
def yX9_see : MethodName := ⟨RX9, "see", "(IIIZ)I"⟩
abbrev cX9_forget : ByteArray := prog_1_method_26_code
def yX9_forget : MethodName := ⟨RX9, "forget", "(I)I"⟩
abbrev cX9_fakes : ByteArray := prog_1_method_27_code
def yX9_fakes : MethodName := ⟨RX9, "fakes", "(I)I"⟩
abbrev cX9_wrong : ByteArray := prog_1_method_28_code
def yX9_wrong : MethodName := ⟨RX9, "wrong", "()I"⟩
abbrev cX9_gulls : ByteArray := prog_1_method_29_code
def yX9_gulls : MethodName := ⟨RX9, "gulls", "(III)I"⟩
abbrev cX9_keep : ByteArray := prog_1_method_30_code
def yX9_keep : MethodName := ⟨RX9, "keep", "(I)I"⟩
abbrev cX9_back : ByteArray := prog_1_method_31_code
def yX9_back : MethodName := ⟨RX9, "back", "(I)I"⟩
abbrev cX9_sheet : ByteArray := prog_1_method_32_code
def yX9_sheet : MethodName := ⟨RX9, "sheet", "(III)I"⟩
abbrev cX9_lay : ByteArray := prog_1_method_33_code
def yX9_lay : MethodName := ⟨RX9, "lay", "(III)I"⟩
abbrev cX9_read : ByteArray := prog_1_method_34_code
def yX9_read : MethodName := ⟨RX9, "read", "(IIII)I"⟩
abbrev cX9_torn : ByteArray := prog_1_method_35_code
def yX9_torn : MethodName := ⟨RX9, "torn", "()I"⟩
abbrev cX9_count : ByteArray := prog_1_method_36_code
def yX9_count : MethodName := ⟨RX9, "count", "(I)I"⟩
abbrev cX9_within : ByteArray := prog_1_method_37_code
def yX9_within : MethodName := ⟨RX9, "within", "(III)Z"⟩
abbrev cX9_asNumber : ByteArray := prog_1_method_38_code
def yX9_asNumber : MethodName := ⟨RX9, "asNumber", "(Z)I"⟩
abbrev cX9_isPlace : ByteArray := prog_1_method_39_code
def yX9_isPlace : MethodName := ⟨RX9, "isPlace", "(I)Z"⟩
abbrev cX9_isCoin : ByteArray := prog_1_method_40_code
def yX9_isCoin : MethodName := ⟨RX9, "isCoin", "(I)Z"⟩
abbrev cX9_isCrab : ByteArray := prog_1_method_41_code
def yX9_isCrab : MethodName := ⟨RX9, "isCrab", "(I)Z"⟩
abbrev cX9_isImage : ByteArray := prog_1_method_42_code
def yX9_isImage : MethodName := ⟨RX9, "isImage", "(I)Z"⟩
abbrev cX9_isSheet : ByteArray := prog_1_method_43_code
def yX9_isSheet : MethodName := ⟨RX9, "isSheet", "(I)Z"⟩
abbrev cX9_isLane : ByteArray := prog_1_method_44_code
def yX9_isLane : MethodName := ⟨RX9, "isLane", "(I)Z"⟩
abbrev cX9_isWhere : ByteArray := prog_1_method_45_code
def yX9_isWhere : MethodName := ⟨RX9, "isWhere", "(I)Z"⟩
abbrev cX9_isSortedBy : ByteArray := prog_1_method_46_code
def yX9_isSortedBy : MethodName := ⟨RX9, "isSortedBy", "(I)Z"⟩
abbrev cX9_stepsWithHole : ByteArray := prog_1_method_47_code
def yX9_stepsWithHole : MethodName := ⟨RX9, "stepsWithHole", "(III)I"⟩
abbrev cX9_isSeenWithFalse : ByteArray := prog_1_method_48_code
def yX9_isSeenWithFalse : MethodName := ⟨RX9, "isSeenWithFalse", "(I)Z"⟩
def RX10 : String := "CrabMintModel"
def TX10 : u_T := fun k => match k with
  | 0 => ("CrabMintModel", "st", "[I", true)
  | 1 => ("CrabMintModel", "isKept", "[Z", true)
  | 2 => ("CrabMintModel", "places", "I", false)
  | 3 => ("CrabMintModel", "crabs", "I", false)
  | 4 => ("CrabMintModel", "draft", "[I", true)
  | 5 => ("CrabMintModel", "dPlaces", "I", false)
  | 6 => ("CrabMintModel", "dCrabs", "I", false)
  | 7 => ("CrabMintModel", "toldLines", "I", false)
  | 8 => ("CrabMintModel", "highest", "I", false)
  | 9 => ("CrabMintModel", "tape", "[I", true)
  | 10 => ("CrabMintModel", "taped", "I", false)
  | 11 => ("CrabMintModel", "pos", "I", false)
  | 12 => ("CrabMintModel", "from", "I", false)
  | 13 => ("CrabMintModel", "sort", "I", false)
  | 14 => ("CrabMintModel", "value", "I", false)
  | 15 => ("CrabMintModel", "fault", "I", false)
  | 16 => ("CrabMintModel", "wrongAt", "I", false)
  | 17 => ("CrabMintModel", "holes", "[I", true)
  | 18 => ("CrabMintModel", "fakeNow", "[I", true)
  | 19 => ("CrabMintModel", "at", "[I", true)
  | 20 => ("CrabMintModel", "claw", "[I", true)
  | 21 => ("CrabMintModel", "shell", "[I", true)
  | 22 => ("CrabMintModel", "hands", "[I", true)
  | 23 => ("CrabMintModel", "place", "[I", true)
  | 24 => ("CrabMintModel", "order", "[I", true)
  | 25 => ("CrabMintModel", "drops", "[Z", true)
  | 26 => ("CrabMintModel", "ordered", "I", false)
  | 27 => ("CrabMintModel", "clock", "I", false)
  | 28 => ("CrabMintModel", "nowOrder", "[I", true)
  | 29 => ("CrabMintModel", "bestOrder", "[I", true)
  | 30 => ("CrabMintModel", "lanes", "[I", true)
  | 31 => ("CrabMintModel", "sizes", "[I", true)
  | 32 => ("CrabMintModel", "cells", "[I", true)
  | _ => ("CrabMintModel", "torn", "I", false)
def tyX10 : Nat → FieldType := fun k => match k with
  | 0 => .array .int
  | 1 => .array .boolean
  | 2 => .int
  | 3 => .int
  | 4 => .array .int
  | 5 => .int
  | 6 => .int
  | 7 => .int
  | 8 => .int
  | 9 => .array .int
  | 10 => .int
  | 11 => .int
  | 12 => .int
  | 13 => .int
  | 14 => .int
  | 15 => .int
  | 16 => .int
  | 17 => .array .int
  | 18 => .array .int
  | 19 => .array .int
  | 20 => .array .int
  | 21 => .array .int
  | 22 => .array .int
  | 23 => .array .int
  | 24 => .array .int
  | 25 => .array .boolean
  | 26 => .int
  | 27 => .int
  | 28 => .array .int
  | 29 => .array .int
  | 30 => .array .int
  | 31 => .array .int
  | 32 => .array .int
  | _ => .int
abbrev wsX100 : List Cond := u_ws RX10 TX10 34
theorem nmX10 : ∀ a, a < 34 → ∀ b, b < 34 → a ≠ b → (TX10 a).2.1 ≠ (TX10 b).2.1 := by decide +kernel
theorem tyX10_ok : ∀ k, k < 34 → parseFieldDescriptor (TX10 k).2.2.1 = some (tyX10 k) := by decide +kernel
abbrev cX10_init : ByteArray := prog_12_method_1_code
def yX10_init : MethodName := ⟨RX10, "<init>", "()V"⟩
abbrev cX10_in : ByteArray := prog_12_method_3_code
def yX10_in : MethodName := ⟨RX10, "in", "(JJJ)Z"⟩
abbrev cX10_flag : ByteArray := prog_12_method_4_code
def yX10_flag : MethodName := ⟨RX10, "flag", "(Z)I"⟩
abbrev cX10_firstDraft : ByteArray := prog_12_method_5_code
def yX10_firstDraft : MethodName := ⟨RX10, "firstDraft", "()V"⟩
abbrev cX10_keepDraft : ByteArray := prog_12_method_6_code
def yX10_keepDraft : MethodName := ⟨RX10, "keepDraft", "()V"⟩
abbrev cX10_feed : ByteArray := prog_12_method_7_code
def yX10_feed : MethodName := ⟨RX10, "feed", "(J)I"⟩
abbrev cX10_end : ByteArray := prog_12_method_8_code
def yX10_end : MethodName := ⟨RX10, "end", "(I)I"⟩
abbrev cX10_needs : ByteArray := prog_12_method_9_code
def yX10_needs : MethodName := ⟨RX10, "needs", "(ZI)V"⟩
abbrev cX10_look : ByteArray := prog_12_method_10_code
def yX10_look : MethodName := ⟨RX10, "look", "(I)I"⟩
abbrev cX10_is : ByteArray := prog_12_method_11_code
def yX10_is : MethodName := ⟨RX10, "is", "(IIII)Z"⟩
abbrev cX10_ends : ByteArray := prog_12_method_12_code
def yX10_ends : MethodName := ⟨RX10, "ends", "(III)Z"⟩
abbrev cX10_lineNow : ByteArray := prog_12_method_13_code
def yX10_lineNow : MethodName := ⟨RX10, "lineNow", "()I"⟩
abbrev cX10_next : ByteArray := prog_12_method_14_code
def yX10_next : MethodName := ⟨RX10, "next", "()V"⟩
abbrev cX10_looked : ByteArray := prog_12_method_15_code
def yX10_looked : MethodName := ⟨RX10, "looked", "(II)I"⟩
abbrev cX10_readNumber : ByteArray := prog_12_method_16_code
def yX10_readNumber : MethodName := ⟨RX10, "readNumber", "(II)I"⟩
abbrev cX10_lookedPlace : ByteArray := prog_12_method_17_code
def yX10_lookedPlace : MethodName := ⟨RX10, "lookedPlace", "()I"⟩
abbrev cX10_readPlace : ByteArray := prog_12_method_18_code
def yX10_readPlace : MethodName := ⟨RX10, "readPlace", "()I"⟩
abbrev cX10_readHole : ByteArray := prog_12_method_19_code
def yX10_readHole : MethodName := ⟨RX10, "readHole", "()V"⟩
abbrev cX10_readCoin : ByteArray := prog_12_method_20_code
def yX10_readCoin : MethodName := ⟨RX10, "readCoin", "()V"⟩
abbrev cX10_readCrab : ByteArray := prog_12_method_21_code
def yX10_readCrab : MethodName := ⟨RX10, "readCrab", "()V"⟩
abbrev cX10_readLineOf : ByteArray := prog_12_method_22_code
def yX10_readLineOf : MethodName := ⟨RX10, "readLineOf", "(I)V"⟩
abbrev cX10_readLine : ByteArray := prog_12_method_23_code
def yX10_readLine : MethodName := ⟨RX10, "readLine", "()V"⟩
abbrev cX10_text : ByteArray := prog_12_method_24_code
def yX10_text : MethodName := ⟨RX10, "text", "()I"⟩
abbrev cX10_fault : ByteArray := prog_12_method_25_code
def yX10_fault : MethodName := ⟨RX10, "fault", "()I"⟩
abbrev cX10_isPlace : ByteArray := prog_12_method_26_code
def yX10_isPlace : MethodName := ⟨RX10, "isPlace", "(I)Z"⟩
abbrev cX10_isCoin : ByteArray := prog_12_method_27_code
def yX10_isCoin : MethodName := ⟨RX10, "isCoin", "(I)Z"⟩
abbrev cX10_isCrab : ByteArray := prog_12_method_28_code
def yX10_isCrab : MethodName := ⟨RX10, "isCrab", "(I)Z"⟩
abbrev cX10_starts : ByteArray := prog_12_method_29_code
def yX10_starts : MethodName := ⟨RX10, "starts", "()V"⟩
abbrev cX10_heldBy : ByteArray := prog_12_method_30_code
def yX10_heldBy : MethodName := ⟨RX10, "heldBy", "(I)I"⟩
abbrev cX10_doesFit : ByteArray := prog_12_method_31_code
def yX10_doesFit : MethodName := ⟨RX10, "doesFit", "(II)Z"⟩
abbrev cX10_lyingFor : ByteArray := prog_12_method_32_code
def yX10_lyingFor : MethodName := ⟨RX10, "lyingFor", "(I)I"⟩
abbrev cX10_does : ByteArray := prog_12_method_33_code
def yX10_does : MethodName := ⟨RX10, "does", "(I)V"⟩
abbrev cX10_fights : ByteArray := prog_12_method_34_code
def yX10_fights : MethodName := ⟨RX10, "fights", "()V"⟩
abbrev cX10_steps : ByteArray := prog_12_method_35_code
def yX10_steps : MethodName := ⟨RX10, "steps", "()V"⟩
abbrev cX10_rightPlace : ByteArray := prog_12_method_36_code
def yX10_rightPlace : MethodName := ⟨RX10, "rightPlace", "(I)I"⟩
abbrev cX10_isRight : ByteArray := prog_12_method_37_code
def yX10_isRight : MethodName := ⟨RX10, "isRight", "(I)Z"⟩
abbrev cX10_rightMany : ByteArray := prog_12_method_38_code
def yX10_rightMany : MethodName := ⟨RX10, "rightMany", "()I"⟩
abbrev cX10_sortedBehind : ByteArray := prog_12_method_39_code
def yX10_sortedBehind : MethodName := ⟨RX10, "sortedBehind", "()I"⟩
abbrev cX10_rule : ByteArray := prog_12_method_40_code
def yX10_rule : MethodName := ⟨RX10, "rule", "(I)I"⟩
abbrev cX10_hole : ByteArray := prog_12_method_41_code
def yX10_hole : MethodName := ⟨RX10, "hole", "(I)I"⟩
abbrev cX10_coin : ByteArray := prog_12_method_42_code
def yX10_coin : MethodName := ⟨RX10, "coin", "(II)I"⟩
abbrev cX10_crab : ByteArray := prog_12_method_43_code
def yX10_crab : MethodName := ⟨RX10, "crab", "(II)I"⟩
abbrev cX10_becomes : ByteArray := prog_12_method_44_code
def yX10_becomes : MethodName := ⟨RX10, "becomes", "(II)I"⟩
abbrev cX10_manyAt : ByteArray := prog_12_method_45_code
def yX10_manyAt : MethodName := ⟨RX10, "manyAt", "(I)I"⟩
abbrev cX10_dig : ByteArray := prog_12_method_46_code
def yX10_dig : MethodName := ⟨RX10, "dig", "(II)I"⟩
abbrev cX10_mint : ByteArray := prog_12_method_47_code
def yX10_mint : MethodName := ⟨RX10, "mint", "(II)I"⟩
abbrev cX10_lie : ByteArray := prog_12_method_48_code
def yX10_lie : MethodName := ⟨RX10, "lie", "(II)I"⟩
abbrev cX10_fake : ByteArray := prog_12_method_49_code
def yX10_fake : MethodName := ⟨RX10, "fake", "(IZ)I"⟩
abbrev cX10_set : ByteArray := prog_12_method_50_code
def yX10_set : MethodName := ⟨RX10, "set", "(II)I"⟩
abbrev cX10_hand : ByteArray := prog_12_method_51_code
def yX10_hand : MethodName := ⟨RX10, "hand", "(II)I"⟩
abbrev cX10_tide : ByteArray := prog_12_method_52_code
def yX10_tide : MethodName := ⟨RX10, "tide", "(II)I"⟩
abbrev cX10_go : ByteArray := prog_12_method_53_code
def yX10_go : MethodName := ⟨RX10, "go", "(I)I"⟩
abbrev cX10_ahead : ByteArray := prog_12_method_54_code
def yX10_ahead : MethodName := ⟨RX10, "ahead", "(II)I"⟩
abbrev cX10_grow : ByteArray := prog_12_method_55_code
def yX10_grow : MethodName := ⟨RX10, "grow", "()I"⟩
abbrev cX10_sorted : ByteArray := prog_12_method_56_code
def yX10_sorted : MethodName := ⟨RX10, "sorted", "()I"⟩
abbrev cX10_nextOrder : ByteArray := prog_12_method_57_code
def yX10_nextOrder : MethodName := ⟨RX10, "nextOrder", "()Z"⟩
abbrev cX10_orders : ByteArray := prog_12_method_58_code
def yX10_orders : MethodName := ⟨RX10, "orders", "(I)I"⟩
abbrev cX10_fewest : ByteArray := prog_12_method_59_code
def yX10_fewest : MethodName := ⟨RX10, "fewest", "(I)I"⟩
abbrev cX10_better : ByteArray := prog_12_method_60_code
def yX10_better : MethodName := ⟨RX10, "better", "(I)I"⟩
abbrev cX10_weeks : ByteArray := prog_12_method_61_code
def yX10_weeks : MethodName := ⟨RX10, "weeks", "()I"⟩
abbrev cX10_isWhere : ByteArray := prog_12_method_62_code
def yX10_isWhere : MethodName := ⟨RX10, "isWhere", "(I)Z"⟩
abbrev cX10_see : ByteArray := prog_12_method_63_code
def yX10_see : MethodName := ⟨RX10, "see", "(IIIZ)I"⟩
abbrev cX10_forget : ByteArray := prog_12_method_64_code
def yX10_forget : MethodName := ⟨RX10, "forget", "(I)I"⟩
abbrev cX10_isSo : ByteArray := prog_12_method_65_code
def yX10_isSo : MethodName := ⟨RX10, "isSo", "()Z"⟩
abbrev cX10_fakes : ByteArray := prog_12_method_66_code
def yX10_fakes : MethodName := ⟨RX10, "fakes", "(I)I"⟩
abbrev cX10_wrong : ByteArray := prog_12_method_67_code
def yX10_wrong : MethodName := ⟨RX10, "wrong", "()I"⟩
abbrev cX10_gulls : ByteArray := prog_12_method_68_code
def yX10_gulls : MethodName := ⟨RX10, "gulls", "(III)I"⟩
abbrev cX10_copies : ByteArray := prog_12_method_69_code
def yX10_copies : MethodName := ⟨RX10, "copies", "(II)V"⟩
abbrev cX10_keep : ByteArray := prog_12_method_70_code
def yX10_keep : MethodName := ⟨RX10, "keep", "(I)I"⟩
abbrev cX10_back : ByteArray := prog_12_method_71_code
def yX10_back : MethodName := ⟨RX10, "back", "(I)I"⟩
abbrev cX10_isSheet : ByteArray := prog_12_method_72_code
def yX10_isSheet : MethodName := ⟨RX10, "isSheet", "(II)Z"⟩
abbrev cX10_sheet : ByteArray := prog_12_method_73_code
def yX10_sheet : MethodName := ⟨RX10, "sheet", "(III)I"⟩
abbrev cX10_lay : ByteArray := prog_12_method_74_code
def yX10_lay : MethodName := ⟨RX10, "lay", "(III)I"⟩
abbrev cX10_read : ByteArray := prog_12_method_75_code
def yX10_read : MethodName := ⟨RX10, "read", "(IIII)I"⟩
abbrev cX10_torn : ByteArray := prog_12_method_76_code
def yX10_torn : MethodName := ⟨RX10, "torn", "()I"⟩
abbrev cX10_count : ByteArray := prog_12_method_77_code
def yX10_count : MethodName := ⟨RX10, "count", "(I)I"⟩
def RJ6 : String := "java/lang/Integer"
def TJ6 : u_T := fun k => match k with
  | _ => ("", "", "", false)
def tyJ6 : Nat → FieldType := fun k => match k with
  | _ => .int
abbrev wsJ60 : List Cond := u_ws RJ6 TJ6 0
theorem nmJ6 : ∀ a, a < 0 → ∀ b, b < 0 → a ≠ b → (TJ6 a).2.1 ≠ (TJ6 b).2.1 := by decide +kernel
theorem tyJ6_ok : ∀ k, k < 0 → parseFieldDescriptor (TJ6 k).2.2.1 = some (tyJ6 k) := by decide +kernel
abbrev cJ6_bitCount_0f7a4 : ByteArray := prog_13_method_49_code
def yJ6_bitCount_0f7a4 : MethodName := ⟨RJ6, "bitCount", "(I)I"⟩
def RJ9 : String := "java/lang/Math"
def TJ9 : u_T := fun k => match k with
  | _ => ("", "", "", false)
def tyJ9 : Nat → FieldType := fun k => match k with
  | _ => .int
abbrev wsJ90 : List Cond := u_ws RJ9 TJ9 0
theorem nmJ9 : ∀ a, a < 0 → ∀ b, b < 0 → a ≠ b → (TJ9 a).2.1 ≠ (TJ9 b).2.1 := by decide +kernel
theorem tyJ9_ok : ∀ k, k < 0 → parseFieldDescriptor (TJ9 k).2.2.1 = some (tyJ9 k) := by decide +kernel
abbrev cJ9_max_7cf53 : ByteArray := prog_14_method_65_code
def yJ9_max_7cf53 : MethodName := ⟨RJ9, "max", "(II)I"⟩
abbrev cJ9_min_7cf53 : ByteArray := prog_14_method_69_code
def yJ9_min_7cf53 : MethodName := ⟨RJ9, "min", "(II)I"⟩
def RJ0 : String := "java/lang/String"
def TJ0 : u_T := fun k => match k with
  | _ => ("", "", "", false)
def tyJ0 : Nat → FieldType := fun k => match k with
  | _ => .int
abbrev wsJ00 : List Cond := u_ws RJ0 TJ0 0
theorem nmJ0 : ∀ a, a < 0 → ∀ b, b < 0 → a ≠ b → (TJ0 a).2.1 ≠ (TJ0 b).2.1 := by decide +kernel
theorem tyJ0_ok : ∀ k, k < 0 → parseFieldDescriptor (TJ0 k).2.2.1 = some (tyJ0 k) := by decide +kernel
abbrev cJ0_length_8abf5 : ByteArray := prog_15_method_54_code
def yJ0_length_8abf5 : MethodName := ⟨RJ0, "length", "()I"⟩
abbrev cJ0_charAt_5068e : ByteArray := prog_15_method_56_code
def yJ0_charAt_5068e : MethodName := ⟨RJ0, "charAt", "(I)C"⟩
abbrev cJ0_coder_7d493 : ByteArray := prog_15_method_152_code
def yJ0_coder_7d493 : MethodName := ⟨RJ0, "coder", "()B"⟩
abbrev cJ0_isLatin1_aae02 : ByteArray := prog_15_method_154_code
def yJ0_isLatin1_aae02 : MethodName := ⟨RJ0, "isLatin1", "()Z"⟩
abbrev cJ0_checkIndex_df160 : ByteArray := prog_15_method_155_code
def yJ0_checkIndex_df160 : MethodName := ⟨RJ0, "checkIndex", "(II)V"⟩
def RJ1 : String := "java/lang/StringLatin1"
def TJ1 : u_T := fun k => match k with
  | _ => ("", "", "", false)
def tyJ1 : Nat → FieldType := fun k => match k with
  | _ => .int
abbrev wsJ10 : List Cond := u_ws RJ1 TJ1 0
theorem nmJ1 : ∀ a, a < 0 → ∀ b, b < 0 → a ≠ b → (TJ1 a).2.1 ≠ (TJ1 b).2.1 := by decide +kernel
theorem tyJ1_ok : ∀ k, k < 0 → parseFieldDescriptor (TJ1 k).2.2.1 = some (tyJ1 k) := by decide +kernel
abbrev cJ1_charAt_3b067 : ByteArray := prog_16_method_2_code
def yJ1_charAt_3b067 : MethodName := ⟨RJ1, "charAt", "([BI)C"⟩
def RJ2 : String := "java/lang/StringUTF16"
def TJ2 : u_T := fun k => match k with
  | _ => ("", "", "", false)
def tyJ2 : Nat → FieldType := fun k => match k with
  | _ => .int
abbrev wsJ20 : List Cond := u_ws RJ2 TJ2 0
theorem nmJ2 : ∀ a, a < 0 → ∀ b, b < 0 → a ≠ b → (TJ2 a).2.1 ≠ (TJ2 b).2.1 := by decide +kernel
theorem tyJ2_ok : ∀ k, k < 0 → parseFieldDescriptor (TJ2 k).2.2.1 = some (tyJ2 k) := by decide +kernel
abbrev cJ2_getChar_3b067 : ByteArray := prog_17_method_5_code
def yJ2_getChar_3b067 : MethodName := ⟨RJ2, "getChar", "([BI)C"⟩
abbrev cJ2_length_9d52b : ByteArray := prog_17_method_6_code
def yJ2_length_9d52b : MethodName := ⟨RJ2, "length", "([B)I"⟩
abbrev cJ2_charAt_3b067 : ByteArray := prog_17_method_83_code
def yJ2_charAt_3b067 : MethodName := ⟨RJ2, "charAt", "([BI)C"⟩
abbrev cJ2_checkIndex_2214a : ByteArray := prog_17_method_91_code
def yJ2_checkIndex_2214a : MethodName := ⟨RJ2, "checkIndex", "(I[B)V"⟩
def RJ3 : String := "jdk/internal/util/Preconditions"
def TJ3 : u_T := fun k => match k with
  | _ => ("", "", "", false)
def tyJ3 : Nat → FieldType := fun k => match k with
  | _ => .int
abbrev wsJ30 : List Cond := u_ws RJ3 TJ3 0
theorem nmJ3 : ∀ a, a < 0 → ∀ b, b < 0 → a ≠ b → (TJ3 a).2.1 ≠ (TJ3 b).2.1 := by decide +kernel
theorem tyJ3_ok : ∀ k, k < 0 → parseFieldDescriptor (TJ3 k).2.2.1 = some (tyJ3 k) := by decide +kernel
abbrev cJ3_checkIndex_8e157 : ByteArray := prog_18_method_11_code
def yJ3_checkIndex_8e157 : MethodName := ⟨RJ3, "checkIndex", "(IILjava/util/function/BiFunction;)I"⟩
def RL : String := "CrabMintLaw"
abbrev cL_law : ByteArray := code
def yL_law : MethodName := ⟨RL, "law", "([I)Z"⟩
abbrev vwCl : List vw_C := [(RX0, TX0, 11), (RX1, TX1, 4), (RX2, TX2, 5), (RX3, TX3, 3), (RX4, TX4, 4), (RX5, TX5, 3), (RX6, TX6, 5), (RX7, TX7, 2), (RX8, TX8, 10), (RX9, TX9, 9), (RX10, TX10, 34)]
end
section
theorem dX0_init_0 : decode cX0_init 0 = .ok (.aload_n 0, 1) := by decide +kernel
theorem dX0_init_1 : decode cX0_init 1 = .ok (.invokespecial 3, 3) := by decide +kernel
theorem dX0_init_4 : decode cX0_init 4 = .ok (.aload_n 0, 1) := by decide +kernel
theorem dX0_init_5 : decode cX0_init 5 = .ok (.iconst 4, 1) := by decide +kernel
theorem dX0_init_6 : decode cX0_init 6 = .ok (.putfield 9, 3) := by decide +kernel
theorem dX0_init_9 : decode cX0_init 9 = .ok (.aload_n 0, 1) := by decide +kernel
theorem dX0_init_10 : decode cX0_init 10 = .ok (.bipush 8, 2) := by decide +kernel
theorem dX0_init_12 : decode cX0_init 12 = .ok (.newarray .int, 2) := by decide +kernel
theorem dX0_init_14 : decode cX0_init 14 = .ok (.putfield 15, 3) := by decide +kernel
theorem dX0_init_17 : decode cX0_init 17 = .ok (.aload_n 0, 1) := by decide +kernel
theorem dX0_init_18 : decode cX0_init 18 = .ok (.bipush 6, 2) := by decide +kernel
theorem dX0_init_20 : decode cX0_init 20 = .ok (.anewarray 19, 3) := by decide +kernel
theorem dX0_init_23 : decode cX0_init 23 = .ok (.putfield 21, 3) := by decide +kernel
theorem dX0_init_26 : decode cX0_init 26 = .ok (.aload_n 0, 1) := by decide +kernel
theorem dX0_init_27 : decode cX0_init 27 = .ok (.iconst 4, 1) := by decide +kernel
theorem dX0_init_28 : decode cX0_init 28 = .ok (.anewarray 25, 3) := by decide +kernel
theorem dX0_init_31 : decode cX0_init 31 = .ok (.putfield 27, 3) := by decide +kernel
theorem dX0_init_34 : decode cX0_init 34 = .ok (.aload_n 0, 1) := by decide +kernel
theorem dX0_init_35 : decode cX0_init 35 = .ok (.iconst 4, 1) := by decide +kernel
theorem dX0_init_36 : decode cX0_init 36 = .ok (.newarray .int, 2) := by decide +kernel
theorem dX0_init_38 : decode cX0_init 38 = .ok (.putfield 31, 3) := by decide +kernel
theorem dX0_init_41 : decode cX0_init 41 = .ok (.iconst 0, 1) := by decide +kernel
theorem dX0_init_42 : decode cX0_init 42 = .ok (.istore_n 1, 1) := by decide +kernel
theorem dX0_init_43 : decode cX0_init 43 = .ok (.iload_n 1, 1) := by decide +kernel
theorem dX0_init_44 : decode cX0_init 44 = .ok (.bipush 6, 2) := by decide +kernel
theorem dX0_init_46 : decode cX0_init 46 = .ok (.if_icmp .ge 22, 3) := by decide +kernel
theorem dX0_init_49 : decode cX0_init 49 = .ok (.aload_n 0, 1) := by decide +kernel
theorem dX0_init_50 : decode cX0_init 50 = .ok (.getfield 21, 3) := by decide +kernel
theorem dX0_init_53 : decode cX0_init 53 = .ok (.iload_n 1, 1) := by decide +kernel
theorem dX0_init_54 : decode cX0_init 54 = .ok (.new 19, 3) := by decide +kernel
theorem dX0_init_57 : decode cX0_init 57 = .ok (.dup, 1) := by decide +kernel
theorem dX0_init_58 : decode cX0_init 58 = .ok (.invokespecial 34, 3) := by decide +kernel
theorem dX0_init_61 : decode cX0_init 61 = .ok (.aastore, 1) := by decide +kernel
theorem dX0_init_62 : decode cX0_init 62 = .ok (.iinc 1 1, 3) := by decide +kernel
theorem dX0_init_65 : decode cX0_init 65 = .ok (.goto (-22), 3) := by decide +kernel
theorem dX0_init_68 : decode cX0_init 68 = .ok (.iconst 0, 1) := by decide +kernel
theorem dX0_init_69 : decode cX0_init 69 = .ok (.istore_n 1, 1) := by decide +kernel
theorem dX0_init_70 : decode cX0_init 70 = .ok (.iload_n 1, 1) := by decide +kernel
theorem dX0_init_71 : decode cX0_init 71 = .ok (.iconst 4, 1) := by decide +kernel
theorem dX0_init_72 : decode cX0_init 72 = .ok (.if_icmp .ge 22, 3) := by decide +kernel
theorem dX0_init_75 : decode cX0_init 75 = .ok (.aload_n 0, 1) := by decide +kernel
theorem dX0_init_76 : decode cX0_init 76 = .ok (.getfield 27, 3) := by decide +kernel
theorem dX0_init_79 : decode cX0_init 79 = .ok (.iload_n 1, 1) := by decide +kernel
theorem dX0_init_80 : decode cX0_init 80 = .ok (.new 25, 3) := by decide +kernel
theorem dX0_init_83 : decode cX0_init 83 = .ok (.dup, 1) := by decide +kernel
theorem dX0_init_84 : decode cX0_init 84 = .ok (.invokespecial 35, 3) := by decide +kernel
theorem dX0_init_87 : decode cX0_init 87 = .ok (.aastore, 1) := by decide +kernel
theorem dX0_init_88 : decode cX0_init 88 = .ok (.iinc 1 1, 3) := by decide +kernel
theorem dX0_init_91 : decode cX0_init 91 = .ok (.goto (-21), 3) := by decide +kernel
theorem dX0_init_94 : decode cX0_init 94 = .ok (.return_, 1) := by decide +kernel
theorem dX0_clear_0 : decode cX0_clear 0 = .ok (.aload_n 0, 1) := by decide +kernel
theorem dX0_clear_1 : decode cX0_clear 1 = .ok (.iconst 4, 1) := by decide +kernel
theorem dX0_clear_2 : decode cX0_clear 2 = .ok (.putfield 9, 3) := by decide +kernel
theorem dX0_clear_5 : decode cX0_clear 5 = .ok (.aload_n 0, 1) := by decide +kernel
theorem dX0_clear_6 : decode cX0_clear 6 = .ok (.iconst 0, 1) := by decide +kernel
theorem dX0_clear_7 : decode cX0_clear 7 = .ok (.putfield 36, 3) := by decide +kernel
theorem dX0_clear_10 : decode cX0_clear 10 = .ok (.aload_n 0, 1) := by decide +kernel
theorem dX0_clear_11 : decode cX0_clear 11 = .ok (.iconst 0, 1) := by decide +kernel
theorem dX0_clear_12 : decode cX0_clear 12 = .ok (.putfield 39, 3) := by decide +kernel
theorem dX0_clear_15 : decode cX0_clear 15 = .ok (.aload_n 0, 1) := by decide +kernel
theorem dX0_clear_16 : decode cX0_clear 16 = .ok (.iconst 0, 1) := by decide +kernel
theorem dX0_clear_17 : decode cX0_clear 17 = .ok (.putfield 42, 3) := by decide +kernel
theorem dX0_clear_20 : decode cX0_clear 20 = .ok (.aload_n 0, 1) := by decide +kernel
theorem dX0_clear_21 : decode cX0_clear 21 = .ok (.iconst 0, 1) := by decide +kernel
theorem dX0_clear_22 : decode cX0_clear 22 = .ok (.putfield 45, 3) := by decide +kernel
theorem dX0_clear_25 : decode cX0_clear 25 = .ok (.aload_n 0, 1) := by decide +kernel
theorem dX0_clear_26 : decode cX0_clear 26 = .ok (.iconst 0, 1) := by decide +kernel
theorem dX0_clear_27 : decode cX0_clear 27 = .ok (.putfield 48, 3) := by decide +kernel
theorem dX0_clear_30 : decode cX0_clear 30 = .ok (.aload_n 0, 1) := by decide +kernel
theorem dX0_clear_31 : decode cX0_clear 31 = .ok (.iconst 0, 1) := by decide +kernel
theorem dX0_clear_32 : decode cX0_clear 32 = .ok (.putfield 51, 3) := by decide +kernel
theorem dX0_clear_35 : decode cX0_clear 35 = .ok (.iconst 0, 1) := by decide +kernel
theorem dX0_clear_36 : decode cX0_clear 36 = .ok (.istore_n 1, 1) := by decide +kernel
theorem dX0_clear_37 : decode cX0_clear 37 = .ok (.iload_n 1, 1) := by decide +kernel
theorem dX0_clear_38 : decode cX0_clear 38 = .ok (.bipush 8, 2) := by decide +kernel
theorem dX0_clear_40 : decode cX0_clear 40 = .ok (.if_icmp .ge 16, 3) := by decide +kernel
theorem dX0_clear_43 : decode cX0_clear 43 = .ok (.aload_n 0, 1) := by decide +kernel
theorem dX0_clear_44 : decode cX0_clear 44 = .ok (.getfield 15, 3) := by decide +kernel
theorem dX0_clear_47 : decode cX0_clear 47 = .ok (.iload_n 1, 1) := by decide +kernel
theorem dX0_clear_48 : decode cX0_clear 48 = .ok (.iconst 0, 1) := by decide +kernel
theorem dX0_clear_49 : decode cX0_clear 49 = .ok (.iastore, 1) := by decide +kernel
theorem dX0_clear_50 : decode cX0_clear 50 = .ok (.iinc 1 1, 3) := by decide +kernel
theorem dX0_clear_53 : decode cX0_clear 53 = .ok (.goto (-16), 3) := by decide +kernel
theorem dX0_clear_56 : decode cX0_clear 56 = .ok (.return_, 1) := by decide +kernel
theorem dX0_copyFrom_0 : decode cX0_copyFrom 0 = .ok (.aload_n 0, 1) := by decide +kernel
theorem dX0_copyFrom_1 : decode cX0_copyFrom 1 = .ok (.aload_n 1, 1) := by decide +kernel
theorem dX0_copyFrom_2 : decode cX0_copyFrom 2 = .ok (.getfield 9, 3) := by decide +kernel
theorem dX0_copyFrom_5 : decode cX0_copyFrom 5 = .ok (.putfield 9, 3) := by decide +kernel
theorem dX0_copyFrom_8 : decode cX0_copyFrom 8 = .ok (.aload_n 0, 1) := by decide +kernel
theorem dX0_copyFrom_9 : decode cX0_copyFrom 9 = .ok (.aload_n 1, 1) := by decide +kernel
theorem dX0_copyFrom_10 : decode cX0_copyFrom 10 = .ok (.getfield 36, 3) := by decide +kernel
theorem dX0_copyFrom_13 : decode cX0_copyFrom 13 = .ok (.putfield 36, 3) := by decide +kernel
theorem dX0_copyFrom_16 : decode cX0_copyFrom 16 = .ok (.aload_n 0, 1) := by decide +kernel
theorem dX0_copyFrom_17 : decode cX0_copyFrom 17 = .ok (.aload_n 1, 1) := by decide +kernel
theorem dX0_copyFrom_18 : decode cX0_copyFrom 18 = .ok (.getfield 39, 3) := by decide +kernel
theorem dX0_copyFrom_21 : decode cX0_copyFrom 21 = .ok (.putfield 39, 3) := by decide +kernel
theorem dX0_copyFrom_24 : decode cX0_copyFrom 24 = .ok (.aload_n 0, 1) := by decide +kernel
theorem dX0_copyFrom_25 : decode cX0_copyFrom 25 = .ok (.aload_n 1, 1) := by decide +kernel
theorem dX0_copyFrom_26 : decode cX0_copyFrom 26 = .ok (.getfield 42, 3) := by decide +kernel
theorem dX0_copyFrom_29 : decode cX0_copyFrom 29 = .ok (.putfield 42, 3) := by decide +kernel
theorem dX0_copyFrom_32 : decode cX0_copyFrom 32 = .ok (.aload_n 0, 1) := by decide +kernel
theorem dX0_copyFrom_33 : decode cX0_copyFrom 33 = .ok (.aload_n 1, 1) := by decide +kernel
theorem dX0_copyFrom_34 : decode cX0_copyFrom 34 = .ok (.getfield 45, 3) := by decide +kernel
theorem dX0_copyFrom_37 : decode cX0_copyFrom 37 = .ok (.putfield 45, 3) := by decide +kernel
theorem dX0_copyFrom_40 : decode cX0_copyFrom 40 = .ok (.aload_n 0, 1) := by decide +kernel
theorem dX0_copyFrom_41 : decode cX0_copyFrom 41 = .ok (.aload_n 1, 1) := by decide +kernel
theorem dX0_copyFrom_42 : decode cX0_copyFrom 42 = .ok (.getfield 48, 3) := by decide +kernel
theorem dX0_copyFrom_45 : decode cX0_copyFrom 45 = .ok (.putfield 48, 3) := by decide +kernel
theorem dX0_copyFrom_48 : decode cX0_copyFrom 48 = .ok (.aload_n 0, 1) := by decide +kernel
theorem dX0_copyFrom_49 : decode cX0_copyFrom 49 = .ok (.aload_n 1, 1) := by decide +kernel
theorem dX0_copyFrom_50 : decode cX0_copyFrom 50 = .ok (.getfield 51, 3) := by decide +kernel
theorem dX0_copyFrom_53 : decode cX0_copyFrom 53 = .ok (.putfield 51, 3) := by decide +kernel
theorem dX0_copyFrom_56 : decode cX0_copyFrom 56 = .ok (.iconst 0, 1) := by decide +kernel
theorem dX0_copyFrom_57 : decode cX0_copyFrom 57 = .ok (.istore_n 2, 1) := by decide +kernel
theorem dX0_copyFrom_58 : decode cX0_copyFrom 58 = .ok (.iload_n 2, 1) := by decide +kernel
theorem dX0_copyFrom_59 : decode cX0_copyFrom 59 = .ok (.bipush 8, 2) := by decide +kernel
theorem dX0_copyFrom_61 : decode cX0_copyFrom 61 = .ok (.if_icmp .ge 21, 3) := by decide +kernel
theorem dX0_copyFrom_64 : decode cX0_copyFrom 64 = .ok (.aload_n 0, 1) := by decide +kernel
theorem dX0_copyFrom_65 : decode cX0_copyFrom 65 = .ok (.getfield 15, 3) := by decide +kernel
theorem dX0_copyFrom_68 : decode cX0_copyFrom 68 = .ok (.iload_n 2, 1) := by decide +kernel
theorem dX0_copyFrom_69 : decode cX0_copyFrom 69 = .ok (.aload_n 1, 1) := by decide +kernel
theorem dX0_copyFrom_70 : decode cX0_copyFrom 70 = .ok (.getfield 15, 3) := by decide +kernel
theorem dX0_copyFrom_73 : decode cX0_copyFrom 73 = .ok (.iload_n 2, 1) := by decide +kernel
theorem dX0_copyFrom_74 : decode cX0_copyFrom 74 = .ok (.iaload, 1) := by decide +kernel
theorem dX0_copyFrom_75 : decode cX0_copyFrom 75 = .ok (.iastore, 1) := by decide +kernel
theorem dX0_copyFrom_76 : decode cX0_copyFrom 76 = .ok (.iinc 2 1, 3) := by decide +kernel
theorem dX0_copyFrom_79 : decode cX0_copyFrom 79 = .ok (.goto (-21), 3) := by decide +kernel
theorem dX0_copyFrom_82 : decode cX0_copyFrom 82 = .ok (.iconst 0, 1) := by decide +kernel
theorem dX0_copyFrom_83 : decode cX0_copyFrom 83 = .ok (.istore_n 2, 1) := by decide +kernel
theorem dX0_copyFrom_84 : decode cX0_copyFrom 84 = .ok (.iload_n 2, 1) := by decide +kernel
theorem dX0_copyFrom_85 : decode cX0_copyFrom 85 = .ok (.aload_n 0, 1) := by decide +kernel
theorem dX0_copyFrom_86 : decode cX0_copyFrom 86 = .ok (.getfield 36, 3) := by decide +kernel
theorem dX0_copyFrom_89 : decode cX0_copyFrom 89 = .ok (.if_icmp .ge 24, 3) := by decide +kernel
theorem dX0_copyFrom_92 : decode cX0_copyFrom 92 = .ok (.aload_n 0, 1) := by decide +kernel
theorem dX0_copyFrom_93 : decode cX0_copyFrom 93 = .ok (.getfield 21, 3) := by decide +kernel
theorem dX0_copyFrom_96 : decode cX0_copyFrom 96 = .ok (.iload_n 2, 1) := by decide +kernel
theorem dX0_copyFrom_97 : decode cX0_copyFrom 97 = .ok (.aaload, 1) := by decide +kernel
theorem dX0_copyFrom_98 : decode cX0_copyFrom 98 = .ok (.aload_n 1, 1) := by decide +kernel
theorem dX0_copyFrom_99 : decode cX0_copyFrom 99 = .ok (.getfield 21, 3) := by decide +kernel
theorem dX0_copyFrom_102 : decode cX0_copyFrom 102 = .ok (.iload_n 2, 1) := by decide +kernel
theorem dX0_copyFrom_103 : decode cX0_copyFrom 103 = .ok (.aaload, 1) := by decide +kernel
theorem dX0_copyFrom_104 : decode cX0_copyFrom 104 = .ok (.invokevirtual 54, 3) := by decide +kernel
theorem dX0_copyFrom_107 : decode cX0_copyFrom 107 = .ok (.iinc 2 1, 3) := by decide +kernel
theorem dX0_copyFrom_110 : decode cX0_copyFrom 110 = .ok (.goto (-26), 3) := by decide +kernel
theorem dX0_copyFrom_113 : decode cX0_copyFrom 113 = .ok (.iconst 0, 1) := by decide +kernel
theorem dX0_copyFrom_114 : decode cX0_copyFrom 114 = .ok (.istore_n 2, 1) := by decide +kernel
theorem dX0_copyFrom_115 : decode cX0_copyFrom 115 = .ok (.iload_n 2, 1) := by decide +kernel
theorem dX0_copyFrom_116 : decode cX0_copyFrom 116 = .ok (.aload_n 0, 1) := by decide +kernel
theorem dX0_copyFrom_117 : decode cX0_copyFrom 117 = .ok (.getfield 39, 3) := by decide +kernel
theorem dX0_copyFrom_120 : decode cX0_copyFrom 120 = .ok (.if_icmp .ge 36, 3) := by decide +kernel
theorem dX0_copyFrom_123 : decode cX0_copyFrom 123 = .ok (.aload_n 0, 1) := by decide +kernel
theorem dX0_copyFrom_124 : decode cX0_copyFrom 124 = .ok (.getfield 27, 3) := by decide +kernel
theorem dX0_copyFrom_127 : decode cX0_copyFrom 127 = .ok (.iload_n 2, 1) := by decide +kernel
theorem dX0_copyFrom_128 : decode cX0_copyFrom 128 = .ok (.aaload, 1) := by decide +kernel
theorem dX0_copyFrom_129 : decode cX0_copyFrom 129 = .ok (.aload_n 1, 1) := by decide +kernel
theorem dX0_copyFrom_130 : decode cX0_copyFrom 130 = .ok (.getfield 27, 3) := by decide +kernel
theorem dX0_copyFrom_133 : decode cX0_copyFrom 133 = .ok (.iload_n 2, 1) := by decide +kernel
theorem dX0_copyFrom_134 : decode cX0_copyFrom 134 = .ok (.aaload, 1) := by decide +kernel
theorem dX0_copyFrom_135 : decode cX0_copyFrom 135 = .ok (.invokevirtual 58, 3) := by decide +kernel
theorem dX0_copyFrom_138 : decode cX0_copyFrom 138 = .ok (.aload_n 0, 1) := by decide +kernel
theorem dX0_copyFrom_139 : decode cX0_copyFrom 139 = .ok (.getfield 31, 3) := by decide +kernel
theorem dX0_copyFrom_142 : decode cX0_copyFrom 142 = .ok (.iload_n 2, 1) := by decide +kernel
theorem dX0_copyFrom_143 : decode cX0_copyFrom 143 = .ok (.aload_n 1, 1) := by decide +kernel
theorem dX0_copyFrom_144 : decode cX0_copyFrom 144 = .ok (.getfield 31, 3) := by decide +kernel
theorem dX0_copyFrom_147 : decode cX0_copyFrom 147 = .ok (.iload_n 2, 1) := by decide +kernel
theorem dX0_copyFrom_148 : decode cX0_copyFrom 148 = .ok (.iaload, 1) := by decide +kernel
theorem dX0_copyFrom_149 : decode cX0_copyFrom 149 = .ok (.iastore, 1) := by decide +kernel
theorem dX0_copyFrom_150 : decode cX0_copyFrom 150 = .ok (.iinc 2 1, 3) := by decide +kernel
theorem dX0_copyFrom_153 : decode cX0_copyFrom 153 = .ok (.goto (-38), 3) := by decide +kernel
theorem dX0_copyFrom_156 : decode cX0_copyFrom 156 = .ok (.return_, 1) := by decide +kernel
theorem dX0_addCoin_0 : decode cX0_addCoin 0 = .ok (.aload_n 0, 1) := by decide +kernel
theorem dX0_addCoin_1 : decode cX0_addCoin 1 = .ok (.getfield 36, 3) := by decide +kernel
theorem dX0_addCoin_4 : decode cX0_addCoin 4 = .ok (.bipush 6, 2) := by decide +kernel
theorem dX0_addCoin_6 : decode cX0_addCoin 6 = .ok (.if_icmp .ge 38, 3) := by decide +kernel
theorem dX0_addCoin_9 : decode cX0_addCoin 9 = .ok (.aload_n 0, 1) := by decide +kernel
theorem dX0_addCoin_10 : decode cX0_addCoin 10 = .ok (.getfield 21, 3) := by decide +kernel
theorem dX0_addCoin_13 : decode cX0_addCoin 13 = .ok (.aload_n 0, 1) := by decide +kernel
theorem dX0_addCoin_14 : decode cX0_addCoin 14 = .ok (.getfield 36, 3) := by decide +kernel
theorem dX0_addCoin_17 : decode cX0_addCoin 17 = .ok (.aaload, 1) := by decide +kernel
theorem dX0_addCoin_18 : decode cX0_addCoin 18 = .ok (.astore_n 3, 1) := by decide +kernel
theorem dX0_addCoin_19 : decode cX0_addCoin 19 = .ok (.aload_n 3, 1) := by decide +kernel
theorem dX0_addCoin_20 : decode cX0_addCoin 20 = .ok (.iload_n 1, 1) := by decide +kernel
theorem dX0_addCoin_21 : decode cX0_addCoin 21 = .ok (.putfield 61, 3) := by decide +kernel
theorem dX0_addCoin_24 : decode cX0_addCoin 24 = .ok (.aload_n 3, 1) := by decide +kernel
theorem dX0_addCoin_25 : decode cX0_addCoin 25 = .ok (.iconst 0, 1) := by decide +kernel
theorem dX0_addCoin_26 : decode cX0_addCoin 26 = .ok (.putfield 64, 3) := by decide +kernel
theorem dX0_addCoin_29 : decode cX0_addCoin 29 = .ok (.aload_n 3, 1) := by decide +kernel
theorem dX0_addCoin_30 : decode cX0_addCoin 30 = .ok (.iload_n 2, 1) := by decide +kernel
theorem dX0_addCoin_31 : decode cX0_addCoin 31 = .ok (.putfield 68, 3) := by decide +kernel
theorem dX0_addCoin_34 : decode cX0_addCoin 34 = .ok (.aload_n 0, 1) := by decide +kernel
theorem dX0_addCoin_35 : decode cX0_addCoin 35 = .ok (.dup, 1) := by decide +kernel
theorem dX0_addCoin_36 : decode cX0_addCoin 36 = .ok (.getfield 36, 3) := by decide +kernel
theorem dX0_addCoin_39 : decode cX0_addCoin 39 = .ok (.iconst 1, 1) := by decide +kernel
theorem dX0_addCoin_40 : decode cX0_addCoin 40 = .ok (.iadd, 1) := by decide +kernel
theorem dX0_addCoin_41 : decode cX0_addCoin 41 = .ok (.putfield 36, 3) := by decide +kernel
theorem dX0_addCoin_44 : decode cX0_addCoin 44 = .ok (.return_, 1) := by decide +kernel
theorem dX0_addCrab_0 : decode cX0_addCrab 0 = .ok (.aload_n 0, 1) := by decide +kernel
theorem dX0_addCrab_1 : decode cX0_addCrab 1 = .ok (.getfield 39, 3) := by decide +kernel
theorem dX0_addCrab_4 : decode cX0_addCrab 4 = .ok (.iconst 4, 1) := by decide +kernel
theorem dX0_addCrab_5 : decode cX0_addCrab 5 = .ok (.if_icmp .ge 76, 3) := by decide +kernel
theorem dX0_addCrab_8 : decode cX0_addCrab 8 = .ok (.aload_n 0, 1) := by decide +kernel
theorem dX0_addCrab_9 : decode cX0_addCrab 9 = .ok (.getfield 27, 3) := by decide +kernel
theorem dX0_addCrab_12 : decode cX0_addCrab 12 = .ok (.aload_n 0, 1) := by decide +kernel
theorem dX0_addCrab_13 : decode cX0_addCrab 13 = .ok (.getfield 39, 3) := by decide +kernel
theorem dX0_addCrab_16 : decode cX0_addCrab 16 = .ok (.aaload, 1) := by decide +kernel
theorem dX0_addCrab_17 : decode cX0_addCrab 17 = .ok (.astore 5, 2) := by decide +kernel
theorem dX0_addCrab_19 : decode cX0_addCrab 19 = .ok (.aload 5, 2) := by decide +kernel
theorem dX0_addCrab_21 : decode cX0_addCrab 21 = .ok (.iload_n 1, 1) := by decide +kernel
theorem dX0_addCrab_22 : decode cX0_addCrab 22 = .ok (.putfield 71, 3) := by decide +kernel
theorem dX0_addCrab_25 : decode cX0_addCrab 25 = .ok (.aload 5, 2) := by decide +kernel
theorem dX0_addCrab_27 : decode cX0_addCrab 27 = .ok (.iload_n 2, 1) := by decide +kernel
theorem dX0_addCrab_28 : decode cX0_addCrab 28 = .ok (.putfield 74, 3) := by decide +kernel
theorem dX0_addCrab_31 : decode cX0_addCrab 31 = .ok (.aload 5, 2) := by decide +kernel
theorem dX0_addCrab_33 : decode cX0_addCrab 33 = .ok (.iload_n 3, 1) := by decide +kernel
theorem dX0_addCrab_34 : decode cX0_addCrab 34 = .ok (.putfield 77, 3) := by decide +kernel
theorem dX0_addCrab_37 : decode cX0_addCrab 37 = .ok (.aload 5, 2) := by decide +kernel
theorem dX0_addCrab_39 : decode cX0_addCrab 39 = .ok (.iload 4, 2) := by decide +kernel
theorem dX0_addCrab_41 : decode cX0_addCrab 41 = .ok (.putfield 80, 3) := by decide +kernel
theorem dX0_addCrab_44 : decode cX0_addCrab 44 = .ok (.aload 5, 2) := by decide +kernel
theorem dX0_addCrab_46 : decode cX0_addCrab 46 = .ok (.iconst (-1), 1) := by decide +kernel
theorem dX0_addCrab_47 : decode cX0_addCrab 47 = .ok (.putfield 83, 3) := by decide +kernel
theorem dX0_addCrab_50 : decode cX0_addCrab 50 = .ok (.aload_n 0, 1) := by decide +kernel
theorem dX0_addCrab_51 : decode cX0_addCrab 51 = .ok (.getfield 31, 3) := by decide +kernel
theorem dX0_addCrab_54 : decode cX0_addCrab 54 = .ok (.aload_n 0, 1) := by decide +kernel
theorem dX0_addCrab_55 : decode cX0_addCrab 55 = .ok (.getfield 39, 3) := by decide +kernel
theorem dX0_addCrab_58 : decode cX0_addCrab 58 = .ok (.aload_n 0, 1) := by decide +kernel
theorem dX0_addCrab_59 : decode cX0_addCrab 59 = .ok (.getfield 39, 3) := by decide +kernel
theorem dX0_addCrab_62 : decode cX0_addCrab 62 = .ok (.iastore, 1) := by decide +kernel
theorem dX0_addCrab_63 : decode cX0_addCrab 63 = .ok (.aload_n 0, 1) := by decide +kernel
theorem dX0_addCrab_64 : decode cX0_addCrab 64 = .ok (.dup, 1) := by decide +kernel
theorem dX0_addCrab_65 : decode cX0_addCrab 65 = .ok (.getfield 39, 3) := by decide +kernel
theorem dX0_addCrab_68 : decode cX0_addCrab 68 = .ok (.iconst 1, 1) := by decide +kernel
theorem dX0_addCrab_69 : decode cX0_addCrab 69 = .ok (.iadd, 1) := by decide +kernel
theorem dX0_addCrab_70 : decode cX0_addCrab 70 = .ok (.putfield 39, 3) := by decide +kernel
theorem dX0_addCrab_73 : decode cX0_addCrab 73 = .ok (.aload_n 0, 1) := by decide +kernel
theorem dX0_addCrab_74 : decode cX0_addCrab 74 = .ok (.aload_n 0, 1) := by decide +kernel
theorem dX0_addCrab_75 : decode cX0_addCrab 75 = .ok (.getfield 39, 3) := by decide +kernel
theorem dX0_addCrab_78 : decode cX0_addCrab 78 = .ok (.putfield 42, 3) := by decide +kernel
theorem dX0_addCrab_81 : decode cX0_addCrab 81 = .ok (.return_, 1) := by decide +kernel
theorem dX0_sendAwayAllBut_0 : decode cX0_sendAwayAllBut 0 = .ok (.aload_n 0, 1) := by decide +kernel
theorem dX0_sendAwayAllBut_1 : decode cX0_sendAwayAllBut 1 = .ok (.iconst 0, 1) := by decide +kernel
theorem dX0_sendAwayAllBut_2 : decode cX0_sendAwayAllBut 2 = .ok (.putfield 42, 3) := by decide +kernel
theorem dX0_sendAwayAllBut_5 : decode cX0_sendAwayAllBut 5 = .ok (.iconst 0, 1) := by decide +kernel
theorem dX0_sendAwayAllBut_6 : decode cX0_sendAwayAllBut 6 = .ok (.istore_n 2, 1) := by decide +kernel
theorem dX0_sendAwayAllBut_7 : decode cX0_sendAwayAllBut 7 = .ok (.iload_n 2, 1) := by decide +kernel
theorem dX0_sendAwayAllBut_8 : decode cX0_sendAwayAllBut 8 = .ok (.aload_n 0, 1) := by decide +kernel
theorem dX0_sendAwayAllBut_9 : decode cX0_sendAwayAllBut 9 = .ok (.getfield 39, 3) := by decide +kernel
theorem dX0_sendAwayAllBut_12 : decode cX0_sendAwayAllBut 12 = .ok (.if_icmp .ge 38, 3) := by decide +kernel
theorem dX0_sendAwayAllBut_15 : decode cX0_sendAwayAllBut 15 = .ok (.iload_n 1, 1) := by decide +kernel
theorem dX0_sendAwayAllBut_16 : decode cX0_sendAwayAllBut 16 = .ok (.iload_n 2, 1) := by decide +kernel
theorem dX0_sendAwayAllBut_17 : decode cX0_sendAwayAllBut 17 = .ok (.ishr, 1) := by decide +kernel
theorem dX0_sendAwayAllBut_18 : decode cX0_sendAwayAllBut 18 = .ok (.iconst 1, 1) := by decide +kernel
theorem dX0_sendAwayAllBut_19 : decode cX0_sendAwayAllBut 19 = .ok (.iand, 1) := by decide +kernel
theorem dX0_sendAwayAllBut_20 : decode cX0_sendAwayAllBut 20 = .ok (.iconst 1, 1) := by decide +kernel
theorem dX0_sendAwayAllBut_21 : decode cX0_sendAwayAllBut 21 = .ok (.if_icmp .ne 23, 3) := by decide +kernel
theorem dX0_sendAwayAllBut_24 : decode cX0_sendAwayAllBut 24 = .ok (.aload_n 0, 1) := by decide +kernel
theorem dX0_sendAwayAllBut_25 : decode cX0_sendAwayAllBut 25 = .ok (.getfield 31, 3) := by decide +kernel
theorem dX0_sendAwayAllBut_28 : decode cX0_sendAwayAllBut 28 = .ok (.aload_n 0, 1) := by decide +kernel
theorem dX0_sendAwayAllBut_29 : decode cX0_sendAwayAllBut 29 = .ok (.getfield 42, 3) := by decide +kernel
theorem dX0_sendAwayAllBut_32 : decode cX0_sendAwayAllBut 32 = .ok (.iload_n 2, 1) := by decide +kernel
theorem dX0_sendAwayAllBut_33 : decode cX0_sendAwayAllBut 33 = .ok (.iastore, 1) := by decide +kernel
theorem dX0_sendAwayAllBut_34 : decode cX0_sendAwayAllBut 34 = .ok (.aload_n 0, 1) := by decide +kernel
theorem dX0_sendAwayAllBut_35 : decode cX0_sendAwayAllBut 35 = .ok (.dup, 1) := by decide +kernel
theorem dX0_sendAwayAllBut_36 : decode cX0_sendAwayAllBut 36 = .ok (.getfield 42, 3) := by decide +kernel
theorem dX0_sendAwayAllBut_39 : decode cX0_sendAwayAllBut 39 = .ok (.iconst 1, 1) := by decide +kernel
theorem dX0_sendAwayAllBut_40 : decode cX0_sendAwayAllBut 40 = .ok (.iadd, 1) := by decide +kernel
theorem dX0_sendAwayAllBut_41 : decode cX0_sendAwayAllBut 41 = .ok (.putfield 42, 3) := by decide +kernel
theorem dX0_sendAwayAllBut_44 : decode cX0_sendAwayAllBut 44 = .ok (.iinc 2 1, 3) := by decide +kernel
theorem dX0_sendAwayAllBut_47 : decode cX0_sendAwayAllBut 47 = .ok (.goto (-40), 3) := by decide +kernel
theorem dX0_sendAwayAllBut_50 : decode cX0_sendAwayAllBut 50 = .ok (.return_, 1) := by decide +kernel
theorem dX0_hasItsPlaces_0 : decode cX0_hasItsPlaces 0 = .ok (.aload_n 0, 1) := by decide +kernel
theorem dX0_hasItsPlaces_1 : decode cX0_hasItsPlaces 1 = .ok (.getfield 9, 3) := by decide +kernel
theorem dX0_hasItsPlaces_4 : decode cX0_hasItsPlaces 4 = .ok (.istore_n 1, 1) := by decide +kernel
theorem dX0_hasItsPlaces_5 : decode cX0_hasItsPlaces 5 = .ok (.iload_n 1, 1) := by decide +kernel
theorem dX0_hasItsPlaces_6 : decode cX0_hasItsPlaces 6 = .ok (.bipush 8, 2) := by decide +kernel
theorem dX0_hasItsPlaces_8 : decode cX0_hasItsPlaces 8 = .ok (.if_icmp .ge 20, 3) := by decide +kernel
theorem dX0_hasItsPlaces_11 : decode cX0_hasItsPlaces 11 = .ok (.aload_n 0, 1) := by decide +kernel
theorem dX0_hasItsPlaces_12 : decode cX0_hasItsPlaces 12 = .ok (.getfield 15, 3) := by decide +kernel
theorem dX0_hasItsPlaces_15 : decode cX0_hasItsPlaces 15 = .ok (.iload_n 1, 1) := by decide +kernel
theorem dX0_hasItsPlaces_16 : decode cX0_hasItsPlaces 16 = .ok (.iaload, 1) := by decide +kernel
theorem dX0_hasItsPlaces_17 : decode cX0_hasItsPlaces 17 = .ok (.ifCond .eq 5, 3) := by decide +kernel
theorem dX0_hasItsPlaces_20 : decode cX0_hasItsPlaces 20 = .ok (.iconst 0, 1) := by decide +kernel
theorem dX0_hasItsPlaces_21 : decode cX0_hasItsPlaces 21 = .ok (.ireturn, 1) := by decide +kernel
theorem dX0_hasItsPlaces_22 : decode cX0_hasItsPlaces 22 = .ok (.iinc 1 1, 3) := by decide +kernel
theorem dX0_hasItsPlaces_25 : decode cX0_hasItsPlaces 25 = .ok (.goto (-20), 3) := by decide +kernel
theorem dX0_hasItsPlaces_28 : decode cX0_hasItsPlaces 28 = .ok (.iconst 0, 1) := by decide +kernel
theorem dX0_hasItsPlaces_29 : decode cX0_hasItsPlaces 29 = .ok (.istore_n 1, 1) := by decide +kernel
theorem dX0_hasItsPlaces_30 : decode cX0_hasItsPlaces 30 = .ok (.iload_n 1, 1) := by decide +kernel
theorem dX0_hasItsPlaces_31 : decode cX0_hasItsPlaces 31 = .ok (.aload_n 0, 1) := by decide +kernel
theorem dX0_hasItsPlaces_32 : decode cX0_hasItsPlaces 32 = .ok (.getfield 36, 3) := by decide +kernel
theorem dX0_hasItsPlaces_35 : decode cX0_hasItsPlaces 35 = .ok (.if_icmp .ge 27, 3) := by decide +kernel
theorem dX0_hasItsPlaces_38 : decode cX0_hasItsPlaces 38 = .ok (.aload_n 0, 1) := by decide +kernel
theorem dX0_hasItsPlaces_39 : decode cX0_hasItsPlaces 39 = .ok (.getfield 21, 3) := by decide +kernel
theorem dX0_hasItsPlaces_42 : decode cX0_hasItsPlaces 42 = .ok (.iload_n 1, 1) := by decide +kernel
theorem dX0_hasItsPlaces_43 : decode cX0_hasItsPlaces 43 = .ok (.aaload, 1) := by decide +kernel
theorem dX0_hasItsPlaces_44 : decode cX0_hasItsPlaces 44 = .ok (.getfield 68, 3) := by decide +kernel
theorem dX0_hasItsPlaces_47 : decode cX0_hasItsPlaces 47 = .ok (.aload_n 0, 1) := by decide +kernel
theorem dX0_hasItsPlaces_48 : decode cX0_hasItsPlaces 48 = .ok (.getfield 9, 3) := by decide +kernel
theorem dX0_hasItsPlaces_51 : decode cX0_hasItsPlaces 51 = .ok (.if_icmp .lt 5, 3) := by decide +kernel
theorem dX0_hasItsPlaces_54 : decode cX0_hasItsPlaces 54 = .ok (.iconst 0, 1) := by decide +kernel
theorem dX0_hasItsPlaces_55 : decode cX0_hasItsPlaces 55 = .ok (.ireturn, 1) := by decide +kernel
theorem dX0_hasItsPlaces_56 : decode cX0_hasItsPlaces 56 = .ok (.iinc 1 1, 3) := by decide +kernel
theorem dX0_hasItsPlaces_59 : decode cX0_hasItsPlaces 59 = .ok (.goto (-29), 3) := by decide +kernel
theorem dX0_hasItsPlaces_62 : decode cX0_hasItsPlaces 62 = .ok (.iconst 0, 1) := by decide +kernel
theorem dX0_hasItsPlaces_63 : decode cX0_hasItsPlaces 63 = .ok (.istore_n 1, 1) := by decide +kernel
theorem dX0_hasItsPlaces_64 : decode cX0_hasItsPlaces 64 = .ok (.iload_n 1, 1) := by decide +kernel
theorem dX0_hasItsPlaces_65 : decode cX0_hasItsPlaces 65 = .ok (.aload_n 0, 1) := by decide +kernel
theorem dX0_hasItsPlaces_66 : decode cX0_hasItsPlaces 66 = .ok (.getfield 39, 3) := by decide +kernel
theorem dX0_hasItsPlaces_69 : decode cX0_hasItsPlaces 69 = .ok (.if_icmp .ge 27, 3) := by decide +kernel
theorem dX0_hasItsPlaces_72 : decode cX0_hasItsPlaces 72 = .ok (.aload_n 0, 1) := by decide +kernel
theorem dX0_hasItsPlaces_73 : decode cX0_hasItsPlaces 73 = .ok (.getfield 27, 3) := by decide +kernel
theorem dX0_hasItsPlaces_76 : decode cX0_hasItsPlaces 76 = .ok (.iload_n 1, 1) := by decide +kernel
theorem dX0_hasItsPlaces_77 : decode cX0_hasItsPlaces 77 = .ok (.aaload, 1) := by decide +kernel
theorem dX0_hasItsPlaces_78 : decode cX0_hasItsPlaces 78 = .ok (.getfield 80, 3) := by decide +kernel
theorem dX0_hasItsPlaces_81 : decode cX0_hasItsPlaces 81 = .ok (.aload_n 0, 1) := by decide +kernel
theorem dX0_hasItsPlaces_82 : decode cX0_hasItsPlaces 82 = .ok (.getfield 9, 3) := by decide +kernel
theorem dX0_hasItsPlaces_85 : decode cX0_hasItsPlaces 85 = .ok (.if_icmp .lt 5, 3) := by decide +kernel
theorem dX0_hasItsPlaces_88 : decode cX0_hasItsPlaces 88 = .ok (.iconst 0, 1) := by decide +kernel
theorem dX0_hasItsPlaces_89 : decode cX0_hasItsPlaces 89 = .ok (.ireturn, 1) := by decide +kernel
theorem dX0_hasItsPlaces_90 : decode cX0_hasItsPlaces 90 = .ok (.iinc 1 1, 3) := by decide +kernel
theorem dX0_hasItsPlaces_93 : decode cX0_hasItsPlaces 93 = .ok (.goto (-29), 3) := by decide +kernel
theorem dX0_hasItsPlaces_96 : decode cX0_hasItsPlaces 96 = .ok (.iconst 1, 1) := by decide +kernel
theorem dX0_hasItsPlaces_97 : decode cX0_hasItsPlaces 97 = .ok (.ireturn, 1) := by decide +kernel
theorem dX0_layDown_0 : decode cX0_layDown 0 = .ok (.aload_n 0, 1) := by decide +kernel
theorem dX0_layDown_1 : decode cX0_layDown 1 = .ok (.getfield 21, 3) := by decide +kernel
theorem dX0_layDown_4 : decode cX0_layDown 4 = .ok (.iload_n 1, 1) := by decide +kernel
theorem dX0_layDown_5 : decode cX0_layDown 5 = .ok (.aaload, 1) := by decide +kernel
theorem dX0_layDown_6 : decode cX0_layDown 6 = .ok (.getfield 68, 3) := by decide +kernel
theorem dX0_layDown_9 : decode cX0_layDown 9 = .ok (.bipush 10, 2) := by decide +kernel
theorem dX0_layDown_11 : decode cX0_layDown 11 = .ok (.isub, 1) := by decide +kernel
theorem dX0_layDown_12 : decode cX0_layDown 12 = .ok (.istore_n 3, 1) := by decide +kernel
theorem dX0_layDown_13 : decode cX0_layDown 13 = .ok (.iload_n 3, 1) := by decide +kernel
theorem dX0_layDown_14 : decode cX0_layDown 14 = .ok (.iconst 0, 1) := by decide +kernel
theorem dX0_layDown_15 : decode cX0_layDown 15 = .ok (.aload_n 0, 1) := by decide +kernel
theorem dX0_layDown_16 : decode cX0_layDown 16 = .ok (.getfield 39, 3) := by decide +kernel
theorem dX0_layDown_19 : decode cX0_layDown 19 = .ok (.iconst 1, 1) := by decide +kernel
theorem dX0_layDown_20 : decode cX0_layDown 20 = .ok (.isub, 1) := by decide +kernel
theorem dX0_layDown_21 : decode cX0_layDown 21 = .ok (.invokestatic 86, 3) := by decide +kernel
theorem dX0_layDown_24 : decode cX0_layDown 24 = .ok (.ifCond .eq 13, 3) := by decide +kernel
theorem dX0_layDown_27 : decode cX0_layDown 27 = .ok (.aload_n 0, 1) := by decide +kernel
theorem dX0_layDown_28 : decode cX0_layDown 28 = .ok (.getfield 27, 3) := by decide +kernel
theorem dX0_layDown_31 : decode cX0_layDown 31 = .ok (.iload_n 3, 1) := by decide +kernel
theorem dX0_layDown_32 : decode cX0_layDown 32 = .ok (.aaload, 1) := by decide +kernel
theorem dX0_layDown_33 : decode cX0_layDown 33 = .ok (.iconst (-1), 1) := by decide +kernel
theorem dX0_layDown_34 : decode cX0_layDown 34 = .ok (.putfield 83, 3) := by decide +kernel
theorem dX0_layDown_37 : decode cX0_layDown 37 = .ok (.aload_n 0, 1) := by decide +kernel
theorem dX0_layDown_38 : decode cX0_layDown 38 = .ok (.getfield 21, 3) := by decide +kernel
theorem dX0_layDown_41 : decode cX0_layDown 41 = .ok (.iload_n 1, 1) := by decide +kernel
theorem dX0_layDown_42 : decode cX0_layDown 42 = .ok (.aaload, 1) := by decide +kernel
theorem dX0_layDown_43 : decode cX0_layDown 43 = .ok (.iload_n 2, 1) := by decide +kernel
theorem dX0_layDown_44 : decode cX0_layDown 44 = .ok (.putfield 68, 3) := by decide +kernel
theorem dX0_layDown_47 : decode cX0_layDown 47 = .ok (.return_, 1) := by decide +kernel
theorem dX0_countBetween_0 : decode cX0_countBetween 0 = .ok (.iconst 0, 1) := by decide +kernel
theorem dX0_countBetween_1 : decode cX0_countBetween 1 = .ok (.istore_n 3, 1) := by decide +kernel
theorem dX0_countBetween_2 : decode cX0_countBetween 2 = .ok (.iconst 0, 1) := by decide +kernel
theorem dX0_countBetween_3 : decode cX0_countBetween 3 = .ok (.istore 4, 2) := by decide +kernel
theorem dX0_countBetween_5 : decode cX0_countBetween 5 = .ok (.iload 4, 2) := by decide +kernel
theorem dX0_countBetween_7 : decode cX0_countBetween 7 = .ok (.aload_n 0, 1) := by decide +kernel
theorem dX0_countBetween_8 : decode cX0_countBetween 8 = .ok (.getfield 36, 3) := by decide +kernel
theorem dX0_countBetween_11 : decode cX0_countBetween 11 = .ok (.if_icmp .ge 30, 3) := by decide +kernel
theorem dX0_countBetween_14 : decode cX0_countBetween 14 = .ok (.aload_n 0, 1) := by decide +kernel
theorem dX0_countBetween_15 : decode cX0_countBetween 15 = .ok (.getfield 21, 3) := by decide +kernel
theorem dX0_countBetween_18 : decode cX0_countBetween 18 = .ok (.iload 4, 2) := by decide +kernel
theorem dX0_countBetween_20 : decode cX0_countBetween 20 = .ok (.aaload, 1) := by decide +kernel
theorem dX0_countBetween_21 : decode cX0_countBetween 21 = .ok (.getfield 68, 3) := by decide +kernel
theorem dX0_countBetween_24 : decode cX0_countBetween 24 = .ok (.iload_n 1, 1) := by decide +kernel
theorem dX0_countBetween_25 : decode cX0_countBetween 25 = .ok (.iload_n 2, 1) := by decide +kernel
theorem dX0_countBetween_26 : decode cX0_countBetween 26 = .ok (.invokestatic 86, 3) := by decide +kernel
theorem dX0_countBetween_29 : decode cX0_countBetween 29 = .ok (.ifCond .eq 6, 3) := by decide +kernel
theorem dX0_countBetween_32 : decode cX0_countBetween 32 = .ok (.iinc 3 1, 3) := by decide +kernel
theorem dX0_countBetween_35 : decode cX0_countBetween 35 = .ok (.iinc 4 1, 3) := by decide +kernel
theorem dX0_countBetween_38 : decode cX0_countBetween 38 = .ok (.goto (-33), 3) := by decide +kernel
theorem dX0_countBetween_41 : decode cX0_countBetween 41 = .ok (.iload_n 3, 1) := by decide +kernel
theorem dX0_countBetween_42 : decode cX0_countBetween 42 = .ok (.ireturn, 1) := by decide +kernel
theorem dX0_rightPlace_0 : decode cX0_rightPlace 0 = .ok (.iconst (-1), 1) := by decide +kernel
theorem dX0_rightPlace_1 : decode cX0_rightPlace 1 = .ok (.istore_n 2, 1) := by decide +kernel
theorem dX0_rightPlace_2 : decode cX0_rightPlace 2 = .ok (.iconst 0, 1) := by decide +kernel
theorem dX0_rightPlace_3 : decode cX0_rightPlace 3 = .ok (.istore_n 3, 1) := by decide +kernel
theorem dX0_rightPlace_4 : decode cX0_rightPlace 4 = .ok (.iload_n 3, 1) := by decide +kernel
theorem dX0_rightPlace_5 : decode cX0_rightPlace 5 = .ok (.aload_n 0, 1) := by decide +kernel
theorem dX0_rightPlace_6 : decode cX0_rightPlace 6 = .ok (.getfield 9, 3) := by decide +kernel
theorem dX0_rightPlace_9 : decode cX0_rightPlace 9 = .ok (.if_icmp .ge 51, 3) := by decide +kernel
theorem dX0_rightPlace_12 : decode cX0_rightPlace 12 = .ok (.aload_n 1, 1) := by decide +kernel
theorem dX0_rightPlace_13 : decode cX0_rightPlace 13 = .ok (.getfield 64, 3) := by decide +kernel
theorem dX0_rightPlace_16 : decode cX0_rightPlace 16 = .ok (.ifCond .ne 44, 3) := by decide +kernel
theorem dX0_rightPlace_19 : decode cX0_rightPlace 19 = .ok (.aload_n 0, 1) := by decide +kernel
theorem dX0_rightPlace_20 : decode cX0_rightPlace 20 = .ok (.getfield 15, 3) := by decide +kernel
theorem dX0_rightPlace_23 : decode cX0_rightPlace 23 = .ok (.iload_n 3, 1) := by decide +kernel
theorem dX0_rightPlace_24 : decode cX0_rightPlace 24 = .ok (.iaload, 1) := by decide +kernel
theorem dX0_rightPlace_25 : decode cX0_rightPlace 25 = .ok (.aload_n 1, 1) := by decide +kernel
theorem dX0_rightPlace_26 : decode cX0_rightPlace 26 = .ok (.getfield 61, 3) := by decide +kernel
theorem dX0_rightPlace_29 : decode cX0_rightPlace 29 = .ok (.if_icmp .lt 25, 3) := by decide +kernel
theorem dX0_rightPlace_32 : decode cX0_rightPlace 32 = .ok (.iload_n 2, 1) := by decide +kernel
theorem dX0_rightPlace_33 : decode cX0_rightPlace 33 = .ok (.iconst (-1), 1) := by decide +kernel
theorem dX0_rightPlace_34 : decode cX0_rightPlace 34 = .ok (.if_icmp .eq 18, 3) := by decide +kernel
theorem dX0_rightPlace_37 : decode cX0_rightPlace 37 = .ok (.aload_n 0, 1) := by decide +kernel
theorem dX0_rightPlace_38 : decode cX0_rightPlace 38 = .ok (.getfield 15, 3) := by decide +kernel
theorem dX0_rightPlace_41 : decode cX0_rightPlace 41 = .ok (.iload_n 3, 1) := by decide +kernel
theorem dX0_rightPlace_42 : decode cX0_rightPlace 42 = .ok (.iaload, 1) := by decide +kernel
theorem dX0_rightPlace_43 : decode cX0_rightPlace 43 = .ok (.aload_n 0, 1) := by decide +kernel
theorem dX0_rightPlace_44 : decode cX0_rightPlace 44 = .ok (.getfield 15, 3) := by decide +kernel
theorem dX0_rightPlace_47 : decode cX0_rightPlace 47 = .ok (.iload_n 2, 1) := by decide +kernel
theorem dX0_rightPlace_48 : decode cX0_rightPlace 48 = .ok (.iaload, 1) := by decide +kernel
theorem dX0_rightPlace_49 : decode cX0_rightPlace 49 = .ok (.if_icmp .ge 5, 3) := by decide +kernel
theorem dX0_rightPlace_52 : decode cX0_rightPlace 52 = .ok (.iload_n 3, 1) := by decide +kernel
theorem dX0_rightPlace_53 : decode cX0_rightPlace 53 = .ok (.istore_n 2, 1) := by decide +kernel
theorem dX0_rightPlace_54 : decode cX0_rightPlace 54 = .ok (.iinc 3 1, 3) := by decide +kernel
theorem dX0_rightPlace_57 : decode cX0_rightPlace 57 = .ok (.goto (-53), 3) := by decide +kernel
theorem dX0_rightPlace_60 : decode cX0_rightPlace 60 = .ok (.iload_n 2, 1) := by decide +kernel
theorem dX0_rightPlace_61 : decode cX0_rightPlace 61 = .ok (.ireturn, 1) := by decide +kernel
theorem dX0_isRight_0 : decode cX0_isRight 0 = .ok (.aload_n 0, 1) := by decide +kernel
theorem dX0_isRight_1 : decode cX0_isRight 1 = .ok (.aload_n 1, 1) := by decide +kernel
theorem dX0_isRight_2 : decode cX0_isRight 2 = .ok (.invokevirtual 90, 3) := by decide +kernel
theorem dX0_isRight_5 : decode cX0_isRight 5 = .ok (.istore_n 2, 1) := by decide +kernel
theorem dX0_isRight_6 : decode cX0_isRight 6 = .ok (.iload_n 2, 1) := by decide +kernel
theorem dX0_isRight_7 : decode cX0_isRight 7 = .ok (.iconst (-1), 1) := by decide +kernel
theorem dX0_isRight_8 : decode cX0_isRight 8 = .ok (.if_icmp .eq 14, 3) := by decide +kernel
theorem dX0_isRight_11 : decode cX0_isRight 11 = .ok (.aload_n 1, 1) := by decide +kernel
theorem dX0_isRight_12 : decode cX0_isRight 12 = .ok (.getfield 68, 3) := by decide +kernel
theorem dX0_isRight_15 : decode cX0_isRight 15 = .ok (.bipush 20, 2) := by decide +kernel
theorem dX0_isRight_17 : decode cX0_isRight 17 = .ok (.iload_n 2, 1) := by decide +kernel
theorem dX0_isRight_18 : decode cX0_isRight 18 = .ok (.iadd, 1) := by decide +kernel
theorem dX0_isRight_19 : decode cX0_isRight 19 = .ok (.if_icmp .ne 7, 3) := by decide +kernel
theorem dX0_isRight_22 : decode cX0_isRight 22 = .ok (.iconst 1, 1) := by decide +kernel
theorem dX0_isRight_23 : decode cX0_isRight 23 = .ok (.goto 4, 3) := by decide +kernel
theorem dX0_isRight_26 : decode cX0_isRight 26 = .ok (.iconst 0, 1) := by decide +kernel
theorem dX0_isRight_27 : decode cX0_isRight 27 = .ok (.ireturn, 1) := by decide +kernel
theorem dX0_countRight_0 : decode cX0_countRight 0 = .ok (.iconst 0, 1) := by decide +kernel
theorem dX0_countRight_1 : decode cX0_countRight 1 = .ok (.istore_n 1, 1) := by decide +kernel
theorem dX0_countRight_2 : decode cX0_countRight 2 = .ok (.iconst 0, 1) := by decide +kernel
theorem dX0_countRight_3 : decode cX0_countRight 3 = .ok (.istore_n 2, 1) := by decide +kernel
theorem dX0_countRight_4 : decode cX0_countRight 4 = .ok (.iload_n 2, 1) := by decide +kernel
theorem dX0_countRight_5 : decode cX0_countRight 5 = .ok (.aload_n 0, 1) := by decide +kernel
theorem dX0_countRight_6 : decode cX0_countRight 6 = .ok (.getfield 36, 3) := by decide +kernel
theorem dX0_countRight_9 : decode cX0_countRight 9 = .ok (.if_icmp .ge 25, 3) := by decide +kernel
theorem dX0_countRight_12 : decode cX0_countRight 12 = .ok (.aload_n 0, 1) := by decide +kernel
theorem dX0_countRight_13 : decode cX0_countRight 13 = .ok (.aload_n 0, 1) := by decide +kernel
theorem dX0_countRight_14 : decode cX0_countRight 14 = .ok (.getfield 21, 3) := by decide +kernel
theorem dX0_countRight_17 : decode cX0_countRight 17 = .ok (.iload_n 2, 1) := by decide +kernel
theorem dX0_countRight_18 : decode cX0_countRight 18 = .ok (.aaload, 1) := by decide +kernel
theorem dX0_countRight_19 : decode cX0_countRight 19 = .ok (.invokevirtual 94, 3) := by decide +kernel
theorem dX0_countRight_22 : decode cX0_countRight 22 = .ok (.ifCond .eq 6, 3) := by decide +kernel
theorem dX0_countRight_25 : decode cX0_countRight 25 = .ok (.iinc 1 1, 3) := by decide +kernel
theorem dX0_countRight_28 : decode cX0_countRight 28 = .ok (.iinc 2 1, 3) := by decide +kernel
theorem dX0_countRight_31 : decode cX0_countRight 31 = .ok (.goto (-27), 3) := by decide +kernel
theorem dX0_countRight_34 : decode cX0_countRight 34 = .ok (.iload_n 1, 1) := by decide +kernel
theorem dX0_countRight_35 : decode cX0_countRight 35 = .ok (.ireturn, 1) := by decide +kernel
theorem dX0_growWeeks_0 : decode cX0_growWeeks 0 = .ok (.iconst 0, 1) := by decide +kernel
theorem dX0_growWeeks_1 : decode cX0_growWeeks 1 = .ok (.istore_n 2, 1) := by decide +kernel
theorem dX0_growWeeks_2 : decode cX0_growWeeks 2 = .ok (.iload_n 2, 1) := by decide +kernel
theorem dX0_growWeeks_3 : decode cX0_growWeeks 3 = .ok (.aload_n 0, 1) := by decide +kernel
theorem dX0_growWeeks_4 : decode cX0_growWeeks 4 = .ok (.getfield 39, 3) := by decide +kernel
theorem dX0_growWeeks_7 : decode cX0_growWeeks 7 = .ok (.if_icmp .ge 59, 3) := by decide +kernel
theorem dX0_growWeeks_10 : decode cX0_growWeeks 10 = .ok (.aload_n 0, 1) := by decide +kernel
theorem dX0_growWeeks_11 : decode cX0_growWeeks 11 = .ok (.getfield 27, 3) := by decide +kernel
theorem dX0_growWeeks_14 : decode cX0_growWeeks 14 = .ok (.iload_n 2, 1) := by decide +kernel
theorem dX0_growWeeks_15 : decode cX0_growWeeks 15 = .ok (.aaload, 1) := by decide +kernel
theorem dX0_growWeeks_16 : decode cX0_growWeeks 16 = .ok (.bipush 9, 2) := by decide +kernel
theorem dX0_growWeeks_18 : decode cX0_growWeeks 18 = .ok (.aload_n 0, 1) := by decide +kernel
theorem dX0_growWeeks_19 : decode cX0_growWeeks 19 = .ok (.getfield 27, 3) := by decide +kernel
theorem dX0_growWeeks_22 : decode cX0_growWeeks 22 = .ok (.iload_n 2, 1) := by decide +kernel
theorem dX0_growWeeks_23 : decode cX0_growWeeks 23 = .ok (.aaload, 1) := by decide +kernel
theorem dX0_growWeeks_24 : decode cX0_growWeeks 24 = .ok (.getfield 74, 3) := by decide +kernel
theorem dX0_growWeeks_27 : decode cX0_growWeeks 27 = .ok (.iload_n 1, 1) := by decide +kernel
theorem dX0_growWeeks_28 : decode cX0_growWeeks 28 = .ok (.iadd, 1) := by decide +kernel
theorem dX0_growWeeks_29 : decode cX0_growWeeks 29 = .ok (.invokestatic 98, 3) := by decide +kernel
theorem dX0_growWeeks_32 : decode cX0_growWeeks 32 = .ok (.putfield 74, 3) := by decide +kernel
theorem dX0_growWeeks_35 : decode cX0_growWeeks 35 = .ok (.aload_n 0, 1) := by decide +kernel
theorem dX0_growWeeks_36 : decode cX0_growWeeks 36 = .ok (.getfield 27, 3) := by decide +kernel
theorem dX0_growWeeks_39 : decode cX0_growWeeks 39 = .ok (.iload_n 2, 1) := by decide +kernel
theorem dX0_growWeeks_40 : decode cX0_growWeeks 40 = .ok (.aaload, 1) := by decide +kernel
theorem dX0_growWeeks_41 : decode cX0_growWeeks 41 = .ok (.bipush 9, 2) := by decide +kernel
theorem dX0_growWeeks_43 : decode cX0_growWeeks 43 = .ok (.aload_n 0, 1) := by decide +kernel
theorem dX0_growWeeks_44 : decode cX0_growWeeks 44 = .ok (.getfield 27, 3) := by decide +kernel
theorem dX0_growWeeks_47 : decode cX0_growWeeks 47 = .ok (.iload_n 2, 1) := by decide +kernel
theorem dX0_growWeeks_48 : decode cX0_growWeeks 48 = .ok (.aaload, 1) := by decide +kernel
theorem dX0_growWeeks_49 : decode cX0_growWeeks 49 = .ok (.getfield 77, 3) := by decide +kernel
theorem dX0_growWeeks_52 : decode cX0_growWeeks 52 = .ok (.iload_n 1, 1) := by decide +kernel
theorem dX0_growWeeks_53 : decode cX0_growWeeks 53 = .ok (.iadd, 1) := by decide +kernel
theorem dX0_growWeeks_54 : decode cX0_growWeeks 54 = .ok (.invokestatic 98, 3) := by decide +kernel
theorem dX0_growWeeks_57 : decode cX0_growWeeks 57 = .ok (.putfield 77, 3) := by decide +kernel
theorem dX0_growWeeks_60 : decode cX0_growWeeks 60 = .ok (.iinc 2 1, 3) := by decide +kernel
theorem dX0_growWeeks_63 : decode cX0_growWeeks 63 = .ok (.goto (-61), 3) := by decide +kernel
theorem dX0_growWeeks_66 : decode cX0_growWeeks 66 = .ok (.return_, 1) := by decide +kernel
theorem dX0_greatestClaw_0 : decode cX0_greatestClaw 0 = .ok (.iconst 0, 1) := by decide +kernel
theorem dX0_greatestClaw_1 : decode cX0_greatestClaw 1 = .ok (.istore_n 1, 1) := by decide +kernel
theorem dX0_greatestClaw_2 : decode cX0_greatestClaw 2 = .ok (.iconst 0, 1) := by decide +kernel
theorem dX0_greatestClaw_3 : decode cX0_greatestClaw 3 = .ok (.istore_n 2, 1) := by decide +kernel
theorem dX0_greatestClaw_4 : decode cX0_greatestClaw 4 = .ok (.iload_n 2, 1) := by decide +kernel
theorem dX0_greatestClaw_5 : decode cX0_greatestClaw 5 = .ok (.aload_n 0, 1) := by decide +kernel
theorem dX0_greatestClaw_6 : decode cX0_greatestClaw 6 = .ok (.getfield 39, 3) := by decide +kernel
theorem dX0_greatestClaw_9 : decode cX0_greatestClaw 9 = .ok (.if_icmp .ge 23, 3) := by decide +kernel
theorem dX0_greatestClaw_12 : decode cX0_greatestClaw 12 = .ok (.iload_n 1, 1) := by decide +kernel
theorem dX0_greatestClaw_13 : decode cX0_greatestClaw 13 = .ok (.aload_n 0, 1) := by decide +kernel
theorem dX0_greatestClaw_14 : decode cX0_greatestClaw 14 = .ok (.getfield 27, 3) := by decide +kernel
theorem dX0_greatestClaw_17 : decode cX0_greatestClaw 17 = .ok (.iload_n 2, 1) := by decide +kernel
theorem dX0_greatestClaw_18 : decode cX0_greatestClaw 18 = .ok (.aaload, 1) := by decide +kernel
theorem dX0_greatestClaw_19 : decode cX0_greatestClaw 19 = .ok (.getfield 74, 3) := by decide +kernel
theorem dX0_greatestClaw_22 : decode cX0_greatestClaw 22 = .ok (.invokestatic 104, 3) := by decide +kernel
theorem dX0_greatestClaw_25 : decode cX0_greatestClaw 25 = .ok (.istore_n 1, 1) := by decide +kernel
theorem dX0_greatestClaw_26 : decode cX0_greatestClaw 26 = .ok (.iinc 2 1, 3) := by decide +kernel
theorem dX0_greatestClaw_29 : decode cX0_greatestClaw 29 = .ok (.goto (-25), 3) := by decide +kernel
theorem dX0_greatestClaw_32 : decode cX0_greatestClaw 32 = .ok (.iload_n 1, 1) := by decide +kernel
theorem dX0_greatestClaw_33 : decode cX0_greatestClaw 33 = .ok (.ireturn, 1) := by decide +kernel
theorem dX0_goSteps_0 : decode cX0_goSteps 0 = .ok (.iconst 0, 1) := by decide +kernel
theorem dX0_goSteps_1 : decode cX0_goSteps 1 = .ok (.istore_n 2, 1) := by decide +kernel
theorem dX0_goSteps_2 : decode cX0_goSteps 2 = .ok (.iload_n 2, 1) := by decide +kernel
theorem dX0_goSteps_3 : decode cX0_goSteps 3 = .ok (.iload_n 1, 1) := by decide +kernel
theorem dX0_goSteps_4 : decode cX0_goSteps 4 = .ok (.if_icmp .ge 13, 3) := by decide +kernel
theorem dX0_goSteps_7 : decode cX0_goSteps 7 = .ok (.aload_n 0, 1) := by decide +kernel
theorem dX0_goSteps_8 : decode cX0_goSteps 8 = .ok (.invokevirtual 107, 3) := by decide +kernel
theorem dX0_goSteps_11 : decode cX0_goSteps 11 = .ok (.iinc 2 1, 3) := by decide +kernel
theorem dX0_goSteps_14 : decode cX0_goSteps 14 = .ok (.goto (-12), 3) := by decide +kernel
theorem dX0_goSteps_17 : decode cX0_goSteps 17 = .ok (.return_, 1) := by decide +kernel
theorem dX0_goStep_0 : decode cX0_goStep 0 = .ok (.iconst 0, 1) := by decide +kernel
theorem dX0_goStep_1 : decode cX0_goStep 1 = .ok (.istore_n 1, 1) := by decide +kernel
theorem dX0_goStep_2 : decode cX0_goStep 2 = .ok (.iload_n 1, 1) := by decide +kernel
theorem dX0_goStep_3 : decode cX0_goStep 3 = .ok (.aload_n 0, 1) := by decide +kernel
theorem dX0_goStep_4 : decode cX0_goStep 4 = .ok (.getfield 42, 3) := by decide +kernel
theorem dX0_goStep_7 : decode cX0_goStep 7 = .ok (.if_icmp .ge 19, 3) := by decide +kernel
theorem dX0_goStep_10 : decode cX0_goStep 10 = .ok (.aload_n 0, 1) := by decide +kernel
theorem dX0_goStep_11 : decode cX0_goStep 11 = .ok (.aload_n 0, 1) := by decide +kernel
theorem dX0_goStep_12 : decode cX0_goStep 12 = .ok (.getfield 31, 3) := by decide +kernel
theorem dX0_goStep_15 : decode cX0_goStep 15 = .ok (.iload_n 1, 1) := by decide +kernel
theorem dX0_goStep_16 : decode cX0_goStep 16 = .ok (.iaload, 1) := by decide +kernel
theorem dX0_goStep_17 : decode cX0_goStep 17 = .ok (.invokevirtual 110, 3) := by decide +kernel
theorem dX0_goStep_20 : decode cX0_goStep 20 = .ok (.iinc 1 1, 3) := by decide +kernel
theorem dX0_goStep_23 : decode cX0_goStep 23 = .ok (.goto (-21), 3) := by decide +kernel
theorem dX0_goStep_26 : decode cX0_goStep 26 = .ok (.aload_n 0, 1) := by decide +kernel
theorem dX0_goStep_27 : decode cX0_goStep 27 = .ok (.invokevirtual 114, 3) := by decide +kernel
theorem dX0_goStep_30 : decode cX0_goStep 30 = .ok (.aload_n 0, 1) := by decide +kernel
theorem dX0_goStep_31 : decode cX0_goStep 31 = .ok (.dup, 1) := by decide +kernel
theorem dX0_goStep_32 : decode cX0_goStep 32 = .ok (.getfield 51, 3) := by decide +kernel
theorem dX0_goStep_35 : decode cX0_goStep 35 = .ok (.iconst 1, 1) := by decide +kernel
theorem dX0_goStep_36 : decode cX0_goStep 36 = .ok (.iadd, 1) := by decide +kernel
theorem dX0_goStep_37 : decode cX0_goStep 37 = .ok (.putfield 51, 3) := by decide +kernel
theorem dX0_goStep_40 : decode cX0_goStep 40 = .ok (.aload_n 0, 1) := by decide +kernel
theorem dX0_goStep_41 : decode cX0_goStep 41 = .ok (.getfield 45, 3) := by decide +kernel
theorem dX0_goStep_44 : decode cX0_goStep 44 = .ok (.ifCond .le 26, 3) := by decide +kernel
theorem dX0_goStep_47 : decode cX0_goStep 47 = .ok (.aload_n 0, 1) := by decide +kernel
theorem dX0_goStep_48 : decode cX0_goStep 48 = .ok (.getfield 51, 3) := by decide +kernel
theorem dX0_goStep_51 : decode cX0_goStep 51 = .ok (.aload_n 0, 1) := by decide +kernel
theorem dX0_goStep_52 : decode cX0_goStep 52 = .ok (.getfield 45, 3) := by decide +kernel
theorem dX0_goStep_55 : decode cX0_goStep 55 = .ok (.irem, 1) := by decide +kernel
theorem dX0_goStep_56 : decode cX0_goStep 56 = .ok (.ifCond .ne 14, 3) := by decide +kernel
theorem dX0_goStep_59 : decode cX0_goStep 59 = .ok (.aload_n 0, 1) := by decide +kernel
theorem dX0_goStep_60 : decode cX0_goStep 60 = .ok (.iconst 0, 1) := by decide +kernel
theorem dX0_goStep_61 : decode cX0_goStep 61 = .ok (.aload_n 0, 1) := by decide +kernel
theorem dX0_goStep_62 : decode cX0_goStep 62 = .ok (.getfield 48, 3) := by decide +kernel
theorem dX0_goStep_65 : decode cX0_goStep 65 = .ok (.iconst 1, 1) := by decide +kernel
theorem dX0_goStep_66 : decode cX0_goStep 66 = .ok (.isub, 1) := by decide +kernel
theorem dX0_goStep_67 : decode cX0_goStep 67 = .ok (.invokevirtual 117, 3) := by decide +kernel
theorem dX0_goStep_70 : decode cX0_goStep 70 = .ok (.return_, 1) := by decide +kernel
theorem dX0_act_0 : decode cX0_act 0 = .ok (.aload_n 0, 1) := by decide +kernel
theorem dX0_act_1 : decode cX0_act 1 = .ok (.getfield 27, 3) := by decide +kernel
theorem dX0_act_4 : decode cX0_act 4 = .ok (.iload_n 1, 1) := by decide +kernel
theorem dX0_act_5 : decode cX0_act 5 = .ok (.aaload, 1) := by decide +kernel
theorem dX0_act_6 : decode cX0_act 6 = .ok (.astore_n 2, 1) := by decide +kernel
theorem dX0_act_7 : decode cX0_act 7 = .ok (.aload_n 2, 1) := by decide +kernel
theorem dX0_act_8 : decode cX0_act 8 = .ok (.invokevirtual 121, 3) := by decide +kernel
theorem dX0_act_11 : decode cX0_act 11 = .ok (.ifCond .eq 55, 3) := by decide +kernel
theorem dX0_act_14 : decode cX0_act 14 = .ok (.aload_n 0, 1) := by decide +kernel
theorem dX0_act_15 : decode cX0_act 15 = .ok (.getfield 15, 3) := by decide +kernel
theorem dX0_act_18 : decode cX0_act 18 = .ok (.aload_n 2, 1) := by decide +kernel
theorem dX0_act_19 : decode cX0_act 19 = .ok (.getfield 80, 3) := by decide +kernel
theorem dX0_act_22 : decode cX0_act 22 = .ok (.iaload, 1) := by decide +kernel
theorem dX0_act_23 : decode cX0_act 23 = .ok (.aload_n 2, 1) := by decide +kernel
theorem dX0_act_24 : decode cX0_act 24 = .ok (.getfield 77, 3) := by decide +kernel
theorem dX0_act_27 : decode cX0_act 27 = .ok (.if_icmp .lt 30, 3) := by decide +kernel
theorem dX0_act_30 : decode cX0_act 30 = .ok (.aload_n 0, 1) := by decide +kernel
theorem dX0_act_31 : decode cX0_act 31 = .ok (.getfield 21, 3) := by decide +kernel
theorem dX0_act_34 : decode cX0_act 34 = .ok (.aload_n 2, 1) := by decide +kernel
theorem dX0_act_35 : decode cX0_act 35 = .ok (.getfield 83, 3) := by decide +kernel
theorem dX0_act_38 : decode cX0_act 38 = .ok (.aaload, 1) := by decide +kernel
theorem dX0_act_39 : decode cX0_act 39 = .ok (.bipush 20, 2) := by decide +kernel
theorem dX0_act_41 : decode cX0_act 41 = .ok (.aload_n 2, 1) := by decide +kernel
theorem dX0_act_42 : decode cX0_act 42 = .ok (.getfield 80, 3) := by decide +kernel
theorem dX0_act_45 : decode cX0_act 45 = .ok (.iadd, 1) := by decide +kernel
theorem dX0_act_46 : decode cX0_act 46 = .ok (.putfield 68, 3) := by decide +kernel
theorem dX0_act_49 : decode cX0_act 49 = .ok (.aload_n 2, 1) := by decide +kernel
theorem dX0_act_50 : decode cX0_act 50 = .ok (.iconst (-1), 1) := by decide +kernel
theorem dX0_act_51 : decode cX0_act 51 = .ok (.putfield 83, 3) := by decide +kernel
theorem dX0_act_54 : decode cX0_act 54 = .ok (.goto 11, 3) := by decide +kernel
theorem dX0_act_57 : decode cX0_act 57 = .ok (.aload_n 2, 1) := by decide +kernel
theorem dX0_act_58 : decode cX0_act 58 = .ok (.aload_n 0, 1) := by decide +kernel
theorem dX0_act_59 : decode cX0_act 59 = .ok (.getfield 9, 3) := by decide +kernel
theorem dX0_act_62 : decode cX0_act 62 = .ok (.invokevirtual 125, 3) := by decide +kernel
theorem dX0_act_65 : decode cX0_act 65 = .ok (.return_, 1) := by decide +kernel
theorem dX0_act_66 : decode cX0_act 66 = .ok (.aload_n 0, 1) := by decide +kernel
theorem dX0_act_67 : decode cX0_act 67 = .ok (.aload_n 2, 1) := by decide +kernel
theorem dX0_act_68 : decode cX0_act 68 = .ok (.invokevirtual 128, 3) := by decide +kernel
theorem dX0_act_71 : decode cX0_act 71 = .ok (.istore_n 3, 1) := by decide +kernel
theorem dX0_act_72 : decode cX0_act 72 = .ok (.iload_n 3, 1) := by decide +kernel
theorem dX0_act_73 : decode cX0_act 73 = .ok (.iconst (-1), 1) := by decide +kernel
theorem dX0_act_74 : decode cX0_act 74 = .ok (.if_icmp .ne 14, 3) := by decide +kernel
theorem dX0_act_77 : decode cX0_act 77 = .ok (.aload_n 2, 1) := by decide +kernel
theorem dX0_act_78 : decode cX0_act 78 = .ok (.aload_n 0, 1) := by decide +kernel
theorem dX0_act_79 : decode cX0_act 79 = .ok (.getfield 9, 3) := by decide +kernel
theorem dX0_act_82 : decode cX0_act 82 = .ok (.invokevirtual 125, 3) := by decide +kernel
theorem dX0_act_85 : decode cX0_act 85 = .ok (.goto 21, 3) := by decide +kernel
theorem dX0_act_88 : decode cX0_act 88 = .ok (.aload_n 0, 1) := by decide +kernel
theorem dX0_act_89 : decode cX0_act 89 = .ok (.getfield 21, 3) := by decide +kernel
theorem dX0_act_92 : decode cX0_act 92 = .ok (.iload_n 3, 1) := by decide +kernel
theorem dX0_act_93 : decode cX0_act 93 = .ok (.aaload, 1) := by decide +kernel
theorem dX0_act_94 : decode cX0_act 94 = .ok (.bipush 10, 2) := by decide +kernel
theorem dX0_act_96 : decode cX0_act 96 = .ok (.iload_n 1, 1) := by decide +kernel
theorem dX0_act_97 : decode cX0_act 97 = .ok (.iadd, 1) := by decide +kernel
theorem dX0_act_98 : decode cX0_act 98 = .ok (.putfield 68, 3) := by decide +kernel
theorem dX0_act_101 : decode cX0_act 101 = .ok (.aload_n 2, 1) := by decide +kernel
theorem dX0_act_102 : decode cX0_act 102 = .ok (.iload_n 3, 1) := by decide +kernel
theorem dX0_act_103 : decode cX0_act 103 = .ok (.putfield 83, 3) := by decide +kernel
theorem dX0_act_106 : decode cX0_act 106 = .ok (.return_, 1) := by decide +kernel
theorem dX0_firstFitting_0 : decode cX0_firstFitting 0 = .ok (.iconst 0, 1) := by decide +kernel
theorem dX0_firstFitting_1 : decode cX0_firstFitting 1 = .ok (.istore_n 2, 1) := by decide +kernel
theorem dX0_firstFitting_2 : decode cX0_firstFitting 2 = .ok (.iload_n 2, 1) := by decide +kernel
theorem dX0_firstFitting_3 : decode cX0_firstFitting 3 = .ok (.aload_n 0, 1) := by decide +kernel
theorem dX0_firstFitting_4 : decode cX0_firstFitting 4 = .ok (.getfield 36, 3) := by decide +kernel
theorem dX0_firstFitting_7 : decode cX0_firstFitting 7 = .ok (.if_icmp .ge 40, 3) := by decide +kernel
theorem dX0_firstFitting_10 : decode cX0_firstFitting 10 = .ok (.aload_n 0, 1) := by decide +kernel
theorem dX0_firstFitting_11 : decode cX0_firstFitting 11 = .ok (.getfield 21, 3) := by decide +kernel
theorem dX0_firstFitting_14 : decode cX0_firstFitting 14 = .ok (.iload_n 2, 1) := by decide +kernel
theorem dX0_firstFitting_15 : decode cX0_firstFitting 15 = .ok (.aaload, 1) := by decide +kernel
theorem dX0_firstFitting_16 : decode cX0_firstFitting 16 = .ok (.getfield 68, 3) := by decide +kernel
theorem dX0_firstFitting_19 : decode cX0_firstFitting 19 = .ok (.aload_n 1, 1) := by decide +kernel
theorem dX0_firstFitting_20 : decode cX0_firstFitting 20 = .ok (.getfield 80, 3) := by decide +kernel
theorem dX0_firstFitting_23 : decode cX0_firstFitting 23 = .ok (.if_icmp .ne 18, 3) := by decide +kernel
theorem dX0_firstFitting_26 : decode cX0_firstFitting 26 = .ok (.aload_n 1, 1) := by decide +kernel
theorem dX0_firstFitting_27 : decode cX0_firstFitting 27 = .ok (.aload_n 0, 1) := by decide +kernel
theorem dX0_firstFitting_28 : decode cX0_firstFitting 28 = .ok (.getfield 21, 3) := by decide +kernel
theorem dX0_firstFitting_31 : decode cX0_firstFitting 31 = .ok (.iload_n 2, 1) := by decide +kernel
theorem dX0_firstFitting_32 : decode cX0_firstFitting 32 = .ok (.aaload, 1) := by decide +kernel
theorem dX0_firstFitting_33 : decode cX0_firstFitting 33 = .ok (.invokevirtual 132, 3) := by decide +kernel
theorem dX0_firstFitting_36 : decode cX0_firstFitting 36 = .ok (.ifCond .eq 5, 3) := by decide +kernel
theorem dX0_firstFitting_39 : decode cX0_firstFitting 39 = .ok (.iload_n 2, 1) := by decide +kernel
theorem dX0_firstFitting_40 : decode cX0_firstFitting 40 = .ok (.ireturn, 1) := by decide +kernel
theorem dX0_firstFitting_41 : decode cX0_firstFitting 41 = .ok (.iinc 2 1, 3) := by decide +kernel
theorem dX0_firstFitting_44 : decode cX0_firstFitting 44 = .ok (.goto (-42), 3) := by decide +kernel
theorem dX0_firstFitting_47 : decode cX0_firstFitting 47 = .ok (.iconst (-1), 1) := by decide +kernel
theorem dX0_firstFitting_48 : decode cX0_firstFitting 48 = .ok (.ireturn, 1) := by decide +kernel
theorem dX0_settleFights_0 : decode cX0_settleFights 0 = .ok (.iconst 0, 1) := by decide +kernel
theorem dX0_settleFights_1 : decode cX0_settleFights 1 = .ok (.istore_n 1, 1) := by decide +kernel
theorem dX0_settleFights_2 : decode cX0_settleFights 2 = .ok (.iconst 0, 1) := by decide +kernel
theorem dX0_settleFights_3 : decode cX0_settleFights 3 = .ok (.istore_n 2, 1) := by decide +kernel
theorem dX0_settleFights_4 : decode cX0_settleFights 4 = .ok (.iload_n 2, 1) := by decide +kernel
theorem dX0_settleFights_5 : decode cX0_settleFights 5 = .ok (.aload_n 0, 1) := by decide +kernel
theorem dX0_settleFights_6 : decode cX0_settleFights 6 = .ok (.getfield 42, 3) := by decide +kernel
theorem dX0_settleFights_9 : decode cX0_settleFights 9 = .ok (.if_icmp .ge 33, 3) := by decide +kernel
theorem dX0_settleFights_12 : decode cX0_settleFights 12 = .ok (.aload_n 0, 1) := by decide +kernel
theorem dX0_settleFights_13 : decode cX0_settleFights 13 = .ok (.aload_n 0, 1) := by decide +kernel
theorem dX0_settleFights_14 : decode cX0_settleFights 14 = .ok (.getfield 31, 3) := by decide +kernel
theorem dX0_settleFights_17 : decode cX0_settleFights 17 = .ok (.iload_n 2, 1) := by decide +kernel
theorem dX0_settleFights_18 : decode cX0_settleFights 18 = .ok (.iaload, 1) := by decide +kernel
theorem dX0_settleFights_19 : decode cX0_settleFights 19 = .ok (.invokevirtual 135, 3) := by decide +kernel
theorem dX0_settleFights_22 : decode cX0_settleFights 22 = .ok (.ifCond .eq 14, 3) := by decide +kernel
theorem dX0_settleFights_25 : decode cX0_settleFights 25 = .ok (.iload_n 1, 1) := by decide +kernel
theorem dX0_settleFights_26 : decode cX0_settleFights 26 = .ok (.iconst 1, 1) := by decide +kernel
theorem dX0_settleFights_27 : decode cX0_settleFights 27 = .ok (.aload_n 0, 1) := by decide +kernel
theorem dX0_settleFights_28 : decode cX0_settleFights 28 = .ok (.getfield 31, 3) := by decide +kernel
theorem dX0_settleFights_31 : decode cX0_settleFights 31 = .ok (.iload_n 2, 1) := by decide +kernel
theorem dX0_settleFights_32 : decode cX0_settleFights 32 = .ok (.iaload, 1) := by decide +kernel
theorem dX0_settleFights_33 : decode cX0_settleFights 33 = .ok (.ishl, 1) := by decide +kernel
theorem dX0_settleFights_34 : decode cX0_settleFights 34 = .ok (.ior, 1) := by decide +kernel
theorem dX0_settleFights_35 : decode cX0_settleFights 35 = .ok (.istore_n 1, 1) := by decide +kernel
theorem dX0_settleFights_36 : decode cX0_settleFights 36 = .ok (.iinc 2 1, 3) := by decide +kernel
theorem dX0_settleFights_39 : decode cX0_settleFights 39 = .ok (.goto (-35), 3) := by decide +kernel
theorem dX0_settleFights_42 : decode cX0_settleFights 42 = .ok (.iconst 0, 1) := by decide +kernel
theorem dX0_settleFights_43 : decode cX0_settleFights 43 = .ok (.istore_n 2, 1) := by decide +kernel
theorem dX0_settleFights_44 : decode cX0_settleFights 44 = .ok (.iload_n 2, 1) := by decide +kernel
theorem dX0_settleFights_45 : decode cX0_settleFights 45 = .ok (.aload_n 0, 1) := by decide +kernel
theorem dX0_settleFights_46 : decode cX0_settleFights 46 = .ok (.getfield 39, 3) := by decide +kernel
theorem dX0_settleFights_49 : decode cX0_settleFights 49 = .ok (.if_icmp .ge 58, 3) := by decide +kernel
theorem dX0_settleFights_52 : decode cX0_settleFights 52 = .ok (.iload_n 1, 1) := by decide +kernel
theorem dX0_settleFights_53 : decode cX0_settleFights 53 = .ok (.ifCond .eq 54, 3) := by decide +kernel
theorem dX0_settleFights_56 : decode cX0_settleFights 56 = .ok (.iload_n 1, 1) := by decide +kernel
theorem dX0_settleFights_57 : decode cX0_settleFights 57 = .ok (.iload_n 2, 1) := by decide +kernel
theorem dX0_settleFights_58 : decode cX0_settleFights 58 = .ok (.ishr, 1) := by decide +kernel
theorem dX0_settleFights_59 : decode cX0_settleFights 59 = .ok (.iconst 1, 1) := by decide +kernel
theorem dX0_settleFights_60 : decode cX0_settleFights 60 = .ok (.iand, 1) := by decide +kernel
theorem dX0_settleFights_61 : decode cX0_settleFights 61 = .ok (.iconst 1, 1) := by decide +kernel
theorem dX0_settleFights_62 : decode cX0_settleFights 62 = .ok (.if_icmp .ne 39, 3) := by decide +kernel
theorem dX0_settleFights_65 : decode cX0_settleFights 65 = .ok (.aload_n 0, 1) := by decide +kernel
theorem dX0_settleFights_66 : decode cX0_settleFights 66 = .ok (.getfield 21, 3) := by decide +kernel
theorem dX0_settleFights_69 : decode cX0_settleFights 69 = .ok (.aload_n 0, 1) := by decide +kernel
theorem dX0_settleFights_70 : decode cX0_settleFights 70 = .ok (.getfield 27, 3) := by decide +kernel
theorem dX0_settleFights_73 : decode cX0_settleFights 73 = .ok (.iload_n 2, 1) := by decide +kernel
theorem dX0_settleFights_74 : decode cX0_settleFights 74 = .ok (.aaload, 1) := by decide +kernel
theorem dX0_settleFights_75 : decode cX0_settleFights 75 = .ok (.getfield 83, 3) := by decide +kernel
theorem dX0_settleFights_78 : decode cX0_settleFights 78 = .ok (.aaload, 1) := by decide +kernel
theorem dX0_settleFights_79 : decode cX0_settleFights 79 = .ok (.aload_n 0, 1) := by decide +kernel
theorem dX0_settleFights_80 : decode cX0_settleFights 80 = .ok (.getfield 27, 3) := by decide +kernel
theorem dX0_settleFights_83 : decode cX0_settleFights 83 = .ok (.iload_n 2, 1) := by decide +kernel
theorem dX0_settleFights_84 : decode cX0_settleFights 84 = .ok (.aaload, 1) := by decide +kernel
theorem dX0_settleFights_85 : decode cX0_settleFights 85 = .ok (.getfield 80, 3) := by decide +kernel
theorem dX0_settleFights_88 : decode cX0_settleFights 88 = .ok (.putfield 68, 3) := by decide +kernel
theorem dX0_settleFights_91 : decode cX0_settleFights 91 = .ok (.aload_n 0, 1) := by decide +kernel
theorem dX0_settleFights_92 : decode cX0_settleFights 92 = .ok (.getfield 27, 3) := by decide +kernel
theorem dX0_settleFights_95 : decode cX0_settleFights 95 = .ok (.iload_n 2, 1) := by decide +kernel
theorem dX0_settleFights_96 : decode cX0_settleFights 96 = .ok (.aaload, 1) := by decide +kernel
theorem dX0_settleFights_97 : decode cX0_settleFights 97 = .ok (.iconst (-1), 1) := by decide +kernel
theorem dX0_settleFights_98 : decode cX0_settleFights 98 = .ok (.putfield 83, 3) := by decide +kernel
theorem dX0_settleFights_101 : decode cX0_settleFights 101 = .ok (.iinc 2 1, 3) := by decide +kernel
theorem dX0_settleFights_104 : decode cX0_settleFights 104 = .ok (.goto (-60), 3) := by decide +kernel
theorem dX0_settleFights_107 : decode cX0_settleFights 107 = .ok (.return_, 1) := by decide +kernel
theorem dX0_losesFight_0 : decode cX0_losesFight 0 = .ok (.aload_n 0, 1) := by decide +kernel
theorem dX0_losesFight_1 : decode cX0_losesFight 1 = .ok (.getfield 27, 3) := by decide +kernel
theorem dX0_losesFight_4 : decode cX0_losesFight 4 = .ok (.iload_n 1, 1) := by decide +kernel
theorem dX0_losesFight_5 : decode cX0_losesFight 5 = .ok (.aaload, 1) := by decide +kernel
theorem dX0_losesFight_6 : decode cX0_losesFight 6 = .ok (.astore_n 2, 1) := by decide +kernel
theorem dX0_losesFight_7 : decode cX0_losesFight 7 = .ok (.iconst 0, 1) := by decide +kernel
theorem dX0_losesFight_8 : decode cX0_losesFight 8 = .ok (.istore_n 3, 1) := by decide +kernel
theorem dX0_losesFight_9 : decode cX0_losesFight 9 = .ok (.iload_n 3, 1) := by decide +kernel
theorem dX0_losesFight_10 : decode cX0_losesFight 10 = .ok (.aload_n 0, 1) := by decide +kernel
theorem dX0_losesFight_11 : decode cX0_losesFight 11 = .ok (.getfield 42, 3) := by decide +kernel
theorem dX0_losesFight_14 : decode cX0_losesFight 14 = .ok (.if_icmp .ge 73, 3) := by decide +kernel
theorem dX0_losesFight_17 : decode cX0_losesFight 17 = .ok (.aload_n 2, 1) := by decide +kernel
theorem dX0_losesFight_18 : decode cX0_losesFight 18 = .ok (.invokevirtual 121, 3) := by decide +kernel
theorem dX0_losesFight_21 : decode cX0_losesFight 21 = .ok (.ifCond .eq 66, 3) := by decide +kernel
theorem dX0_losesFight_24 : decode cX0_losesFight 24 = .ok (.aload_n 0, 1) := by decide +kernel
theorem dX0_losesFight_25 : decode cX0_losesFight 25 = .ok (.getfield 27, 3) := by decide +kernel
theorem dX0_losesFight_28 : decode cX0_losesFight 28 = .ok (.aload_n 0, 1) := by decide +kernel
theorem dX0_losesFight_29 : decode cX0_losesFight 29 = .ok (.getfield 31, 3) := by decide +kernel
theorem dX0_losesFight_32 : decode cX0_losesFight 32 = .ok (.iload_n 3, 1) := by decide +kernel
theorem dX0_losesFight_33 : decode cX0_losesFight 33 = .ok (.iaload, 1) := by decide +kernel
theorem dX0_losesFight_34 : decode cX0_losesFight 34 = .ok (.aaload, 1) := by decide +kernel
theorem dX0_losesFight_35 : decode cX0_losesFight 35 = .ok (.astore 4, 2) := by decide +kernel
theorem dX0_losesFight_37 : decode cX0_losesFight 37 = .ok (.aload_n 0, 1) := by decide +kernel
theorem dX0_losesFight_38 : decode cX0_losesFight 38 = .ok (.getfield 31, 3) := by decide +kernel
theorem dX0_losesFight_41 : decode cX0_losesFight 41 = .ok (.iload_n 3, 1) := by decide +kernel
theorem dX0_losesFight_42 : decode cX0_losesFight 42 = .ok (.iaload, 1) := by decide +kernel
theorem dX0_losesFight_43 : decode cX0_losesFight 43 = .ok (.iload_n 1, 1) := by decide +kernel
theorem dX0_losesFight_44 : decode cX0_losesFight 44 = .ok (.if_icmp .eq 37, 3) := by decide +kernel
theorem dX0_losesFight_47 : decode cX0_losesFight 47 = .ok (.aload 4, 2) := by decide +kernel
theorem dX0_losesFight_49 : decode cX0_losesFight 49 = .ok (.invokevirtual 121, 3) := by decide +kernel
theorem dX0_losesFight_52 : decode cX0_losesFight 52 = .ok (.ifCond .eq 29, 3) := by decide +kernel
theorem dX0_losesFight_55 : decode cX0_losesFight 55 = .ok (.aload 4, 2) := by decide +kernel
theorem dX0_losesFight_57 : decode cX0_losesFight 57 = .ok (.getfield 80, 3) := by decide +kernel
theorem dX0_losesFight_60 : decode cX0_losesFight 60 = .ok (.aload_n 2, 1) := by decide +kernel
theorem dX0_losesFight_61 : decode cX0_losesFight 61 = .ok (.getfield 80, 3) := by decide +kernel
theorem dX0_losesFight_64 : decode cX0_losesFight 64 = .ok (.if_icmp .ne 17, 3) := by decide +kernel
theorem dX0_losesFight_67 : decode cX0_losesFight 67 = .ok (.aload 4, 2) := by decide +kernel
theorem dX0_losesFight_69 : decode cX0_losesFight 69 = .ok (.getfield 74, 3) := by decide +kernel
theorem dX0_losesFight_72 : decode cX0_losesFight 72 = .ok (.aload_n 2, 1) := by decide +kernel
theorem dX0_losesFight_73 : decode cX0_losesFight 73 = .ok (.getfield 74, 3) := by decide +kernel
theorem dX0_losesFight_76 : decode cX0_losesFight 76 = .ok (.if_icmp .lt 5, 3) := by decide +kernel
theorem dX0_losesFight_79 : decode cX0_losesFight 79 = .ok (.iconst 1, 1) := by decide +kernel
theorem dX0_losesFight_80 : decode cX0_losesFight 80 = .ok (.ireturn, 1) := by decide +kernel
theorem dX0_losesFight_81 : decode cX0_losesFight 81 = .ok (.iinc 3 1, 3) := by decide +kernel
theorem dX0_losesFight_84 : decode cX0_losesFight 84 = .ok (.goto (-75), 3) := by decide +kernel
theorem dX0_losesFight_87 : decode cX0_losesFight 87 = .ok (.iconst 0, 1) := by decide +kernel
theorem dX0_losesFight_88 : decode cX0_losesFight 88 = .ok (.ireturn, 1) := by decide +kernel
theorem dX0_washAway_0 : decode cX0_washAway 0 = .ok (.iconst 0, 1) := by decide +kernel
theorem dX0_washAway_1 : decode cX0_washAway 1 = .ok (.istore_n 3, 1) := by decide +kernel
theorem dX0_washAway_2 : decode cX0_washAway 2 = .ok (.iload_n 3, 1) := by decide +kernel
theorem dX0_washAway_3 : decode cX0_washAway 3 = .ok (.aload_n 0, 1) := by decide +kernel
theorem dX0_washAway_4 : decode cX0_washAway 4 = .ok (.getfield 36, 3) := by decide +kernel
theorem dX0_washAway_7 : decode cX0_washAway 7 = .ok (.if_icmp .ge 37, 3) := by decide +kernel
theorem dX0_washAway_10 : decode cX0_washAway 10 = .ok (.aload_n 0, 1) := by decide +kernel
theorem dX0_washAway_11 : decode cX0_washAway 11 = .ok (.getfield 21, 3) := by decide +kernel
theorem dX0_washAway_14 : decode cX0_washAway 14 = .ok (.iload_n 3, 1) := by decide +kernel
theorem dX0_washAway_15 : decode cX0_washAway 15 = .ok (.aaload, 1) := by decide +kernel
theorem dX0_washAway_16 : decode cX0_washAway 16 = .ok (.getfield 68, 3) := by decide +kernel
theorem dX0_washAway_19 : decode cX0_washAway 19 = .ok (.iload_n 1, 1) := by decide +kernel
theorem dX0_washAway_20 : decode cX0_washAway 20 = .ok (.iload_n 2, 1) := by decide +kernel
theorem dX0_washAway_21 : decode cX0_washAway 21 = .ok (.invokestatic 86, 3) := by decide +kernel
theorem dX0_washAway_24 : decode cX0_washAway 24 = .ok (.ifCond .eq 14, 3) := by decide +kernel
theorem dX0_washAway_27 : decode cX0_washAway 27 = .ok (.aload_n 0, 1) := by decide +kernel
theorem dX0_washAway_28 : decode cX0_washAway 28 = .ok (.getfield 21, 3) := by decide +kernel
theorem dX0_washAway_31 : decode cX0_washAway 31 = .ok (.iload_n 3, 1) := by decide +kernel
theorem dX0_washAway_32 : decode cX0_washAway 32 = .ok (.aaload, 1) := by decide +kernel
theorem dX0_washAway_33 : decode cX0_washAway 33 = .ok (.bipush 30, 2) := by decide +kernel
theorem dX0_washAway_35 : decode cX0_washAway 35 = .ok (.putfield 68, 3) := by decide +kernel
theorem dX0_washAway_38 : decode cX0_washAway 38 = .ok (.iinc 3 1, 3) := by decide +kernel
theorem dX0_washAway_41 : decode cX0_washAway 41 = .ok (.goto (-39), 3) := by decide +kernel
theorem dX0_washAway_44 : decode cX0_washAway 44 = .ok (.return_, 1) := by decide +kernel
theorem dX0_comeGulls_0 : decode cX0_comeGulls 0 = .ok (.aload_n 0, 1) := by decide +kernel
theorem dX0_comeGulls_1 : decode cX0_comeGulls 1 = .ok (.getfield 9, 3) := by decide +kernel
theorem dX0_comeGulls_4 : decode cX0_comeGulls 4 = .ok (.ifCond .le 12, 3) := by decide +kernel
theorem dX0_comeGulls_7 : decode cX0_comeGulls 7 = .ok (.iload_n 1, 1) := by decide +kernel
theorem dX0_comeGulls_8 : decode cX0_comeGulls 8 = .ok (.aload_n 0, 1) := by decide +kernel
theorem dX0_comeGulls_9 : decode cX0_comeGulls 9 = .ok (.getfield 9, 3) := by decide +kernel
theorem dX0_comeGulls_12 : decode cX0_comeGulls 12 = .ok (.irem, 1) := by decide +kernel
theorem dX0_comeGulls_13 : decode cX0_comeGulls 13 = .ok (.goto 4, 3) := by decide +kernel
theorem dX0_comeGulls_16 : decode cX0_comeGulls 16 = .ok (.iconst 0, 1) := by decide +kernel
theorem dX0_comeGulls_17 : decode cX0_comeGulls 17 = .ok (.istore_n 2, 1) := by decide +kernel
theorem dX0_comeGulls_18 : decode cX0_comeGulls 18 = .ok (.aload_n 0, 1) := by decide +kernel
theorem dX0_comeGulls_19 : decode cX0_comeGulls 19 = .ok (.iload_n 2, 1) := by decide +kernel
theorem dX0_comeGulls_20 : decode cX0_comeGulls 20 = .ok (.iload_n 2, 1) := by decide +kernel
theorem dX0_comeGulls_21 : decode cX0_comeGulls 21 = .ok (.invokevirtual 117, 3) := by decide +kernel
theorem dX0_comeGulls_24 : decode cX0_comeGulls 24 = .ok (.return_, 1) := by decide +kernel
theorem dX0_stepsUntilSorted_0 : decode cX0_stepsUntilSorted 0 = .ok (.iconst 0, 1) := by decide +kernel
theorem dX0_stepsUntilSorted_1 : decode cX0_stepsUntilSorted 1 = .ok (.istore_n 2, 1) := by decide +kernel
theorem dX0_stepsUntilSorted_2 : decode cX0_stepsUntilSorted 2 = .ok (.iload_n 2, 1) := by decide +kernel
theorem dX0_stepsUntilSorted_3 : decode cX0_stepsUntilSorted 3 = .ok (.aload_n 0, 1) := by decide +kernel
theorem dX0_stepsUntilSorted_4 : decode cX0_stepsUntilSorted 4 = .ok (.getfield 36, 3) := by decide +kernel
theorem dX0_stepsUntilSorted_7 : decode cX0_stepsUntilSorted 7 = .ok (.if_icmp .ge 28, 3) := by decide +kernel
theorem dX0_stepsUntilSorted_10 : decode cX0_stepsUntilSorted 10 = .ok (.aload_n 0, 1) := by decide +kernel
theorem dX0_stepsUntilSorted_11 : decode cX0_stepsUntilSorted 11 = .ok (.getfield 21, 3) := by decide +kernel
theorem dX0_stepsUntilSorted_14 : decode cX0_stepsUntilSorted 14 = .ok (.iload_n 2, 1) := by decide +kernel
theorem dX0_stepsUntilSorted_15 : decode cX0_stepsUntilSorted 15 = .ok (.aaload, 1) := by decide +kernel
theorem dX0_stepsUntilSorted_16 : decode cX0_stepsUntilSorted 16 = .ok (.aload_n 0, 1) := by decide +kernel
theorem dX0_stepsUntilSorted_17 : decode cX0_stepsUntilSorted 17 = .ok (.aload_n 0, 1) := by decide +kernel
theorem dX0_stepsUntilSorted_18 : decode cX0_stepsUntilSorted 18 = .ok (.getfield 21, 3) := by decide +kernel
theorem dX0_stepsUntilSorted_21 : decode cX0_stepsUntilSorted 21 = .ok (.iload_n 2, 1) := by decide +kernel
theorem dX0_stepsUntilSorted_22 : decode cX0_stepsUntilSorted 22 = .ok (.aaload, 1) := by decide +kernel
theorem dX0_stepsUntilSorted_23 : decode cX0_stepsUntilSorted 23 = .ok (.invokevirtual 90, 3) := by decide +kernel
theorem dX0_stepsUntilSorted_26 : decode cX0_stepsUntilSorted 26 = .ok (.putfield 139, 3) := by decide +kernel
theorem dX0_stepsUntilSorted_29 : decode cX0_stepsUntilSorted 29 = .ok (.iinc 2 1, 3) := by decide +kernel
theorem dX0_stepsUntilSorted_32 : decode cX0_stepsUntilSorted 32 = .ok (.goto (-30), 3) := by decide +kernel
theorem dX0_stepsUntilSorted_35 : decode cX0_stepsUntilSorted 35 = .ok (.iconst 0, 1) := by decide +kernel
theorem dX0_stepsUntilSorted_36 : decode cX0_stepsUntilSorted 36 = .ok (.istore_n 2, 1) := by decide +kernel
theorem dX0_stepsUntilSorted_37 : decode cX0_stepsUntilSorted 37 = .ok (.iload_n 2, 1) := by decide +kernel
theorem dX0_stepsUntilSorted_38 : decode cX0_stepsUntilSorted 38 = .ok (.iload_n 1, 1) := by decide +kernel
theorem dX0_stepsUntilSorted_39 : decode cX0_stepsUntilSorted 39 = .ok (.if_icmp .gt 36, 3) := by decide +kernel
theorem dX0_stepsUntilSorted_42 : decode cX0_stepsUntilSorted 42 = .ok (.aload_n 0, 1) := by decide +kernel
theorem dX0_stepsUntilSorted_43 : decode cX0_stepsUntilSorted 43 = .ok (.invokevirtual 142, 3) := by decide +kernel
theorem dX0_stepsUntilSorted_46 : decode cX0_stepsUntilSorted 46 = .ok (.istore_n 3, 1) := by decide +kernel
theorem dX0_stepsUntilSorted_47 : decode cX0_stepsUntilSorted 47 = .ok (.iload_n 3, 1) := by decide +kernel
theorem dX0_stepsUntilSorted_48 : decode cX0_stepsUntilSorted 48 = .ok (.ifCond .ne 5, 3) := by decide +kernel
theorem dX0_stepsUntilSorted_51 : decode cX0_stepsUntilSorted 51 = .ok (.iload_n 2, 1) := by decide +kernel
theorem dX0_stepsUntilSorted_52 : decode cX0_stepsUntilSorted 52 = .ok (.ireturn, 1) := by decide +kernel
theorem dX0_stepsUntilSorted_53 : decode cX0_stepsUntilSorted 53 = .ok (.iload_n 3, 1) := by decide +kernel
theorem dX0_stepsUntilSorted_54 : decode cX0_stepsUntilSorted 54 = .ok (.ifCond .ge 6, 3) := by decide +kernel
theorem dX0_stepsUntilSorted_57 : decode cX0_stepsUntilSorted 57 = .ok (.bipush (-4), 2) := by decide +kernel
theorem dX0_stepsUntilSorted_59 : decode cX0_stepsUntilSorted 59 = .ok (.ireturn, 1) := by decide +kernel
theorem dX0_stepsUntilSorted_60 : decode cX0_stepsUntilSorted 60 = .ok (.iload_n 2, 1) := by decide +kernel
theorem dX0_stepsUntilSorted_61 : decode cX0_stepsUntilSorted 61 = .ok (.iload_n 1, 1) := by decide +kernel
theorem dX0_stepsUntilSorted_62 : decode cX0_stepsUntilSorted 62 = .ok (.if_icmp .ge 7, 3) := by decide +kernel
theorem dX0_stepsUntilSorted_65 : decode cX0_stepsUntilSorted 65 = .ok (.aload_n 0, 1) := by decide +kernel
theorem dX0_stepsUntilSorted_66 : decode cX0_stepsUntilSorted 66 = .ok (.invokevirtual 107, 3) := by decide +kernel
theorem dX0_stepsUntilSorted_69 : decode cX0_stepsUntilSorted 69 = .ok (.iinc 2 1, 3) := by decide +kernel
theorem dX0_stepsUntilSorted_72 : decode cX0_stepsUntilSorted 72 = .ok (.goto (-35), 3) := by decide +kernel
theorem dX0_stepsUntilSorted_75 : decode cX0_stepsUntilSorted 75 = .ok (.bipush (-4), 2) := by decide +kernel
theorem dX0_stepsUntilSorted_77 : decode cX0_stepsUntilSorted 77 = .ok (.ireturn, 1) := by decide +kernel
theorem dX0_openCoins_0 : decode cX0_openCoins 0 = .ok (.iconst 0, 1) := by decide +kernel
theorem dX0_openCoins_1 : decode cX0_openCoins 1 = .ok (.istore_n 1, 1) := by decide +kernel
theorem dX0_openCoins_2 : decode cX0_openCoins 2 = .ok (.iconst 0, 1) := by decide +kernel
theorem dX0_openCoins_3 : decode cX0_openCoins 3 = .ok (.istore_n 2, 1) := by decide +kernel
theorem dX0_openCoins_4 : decode cX0_openCoins 4 = .ok (.iload_n 2, 1) := by decide +kernel
theorem dX0_openCoins_5 : decode cX0_openCoins 5 = .ok (.aload_n 0, 1) := by decide +kernel
theorem dX0_openCoins_6 : decode cX0_openCoins 6 = .ok (.getfield 36, 3) := by decide +kernel
theorem dX0_openCoins_9 : decode cX0_openCoins 9 = .ok (.if_icmp .ge 52, 3) := by decide +kernel
theorem dX0_openCoins_12 : decode cX0_openCoins 12 = .ok (.aload_n 0, 1) := by decide +kernel
theorem dX0_openCoins_13 : decode cX0_openCoins 13 = .ok (.getfield 21, 3) := by decide +kernel
theorem dX0_openCoins_16 : decode cX0_openCoins 16 = .ok (.iload_n 2, 1) := by decide +kernel
theorem dX0_openCoins_17 : decode cX0_openCoins 17 = .ok (.aaload, 1) := by decide +kernel
theorem dX0_openCoins_18 : decode cX0_openCoins 18 = .ok (.astore_n 3, 1) := by decide +kernel
theorem dX0_openCoins_19 : decode cX0_openCoins 19 = .ok (.aload_n 3, 1) := by decide +kernel
theorem dX0_openCoins_20 : decode cX0_openCoins 20 = .ok (.getfield 139, 3) := by decide +kernel
theorem dX0_openCoins_23 : decode cX0_openCoins 23 = .ok (.iconst (-1), 1) := by decide +kernel
theorem dX0_openCoins_24 : decode cX0_openCoins 24 = .ok (.if_icmp .eq 31, 3) := by decide +kernel
theorem dX0_openCoins_27 : decode cX0_openCoins 27 = .ok (.aload_n 3, 1) := by decide +kernel
theorem dX0_openCoins_28 : decode cX0_openCoins 28 = .ok (.getfield 68, 3) := by decide +kernel
theorem dX0_openCoins_31 : decode cX0_openCoins 31 = .ok (.bipush 20, 2) := by decide +kernel
theorem dX0_openCoins_33 : decode cX0_openCoins 33 = .ok (.aload_n 3, 1) := by decide +kernel
theorem dX0_openCoins_34 : decode cX0_openCoins 34 = .ok (.getfield 139, 3) := by decide +kernel
theorem dX0_openCoins_37 : decode cX0_openCoins 37 = .ok (.iadd, 1) := by decide +kernel
theorem dX0_openCoins_38 : decode cX0_openCoins 38 = .ok (.if_icmp .eq 17, 3) := by decide +kernel
theorem dX0_openCoins_41 : decode cX0_openCoins 41 = .ok (.aload_n 3, 1) := by decide +kernel
theorem dX0_openCoins_42 : decode cX0_openCoins 42 = .ok (.getfield 68, 3) := by decide +kernel
theorem dX0_openCoins_45 : decode cX0_openCoins 45 = .ok (.bipush 20, 2) := by decide +kernel
theorem dX0_openCoins_47 : decode cX0_openCoins 47 = .ok (.if_icmp .lt 5, 3) := by decide +kernel
theorem dX0_openCoins_50 : decode cX0_openCoins 50 = .ok (.iconst (-1), 1) := by decide +kernel
theorem dX0_openCoins_51 : decode cX0_openCoins 51 = .ok (.ireturn, 1) := by decide +kernel
theorem dX0_openCoins_52 : decode cX0_openCoins 52 = .ok (.iinc 1 1, 3) := by decide +kernel
theorem dX0_openCoins_55 : decode cX0_openCoins 55 = .ok (.iinc 2 1, 3) := by decide +kernel
theorem dX0_openCoins_58 : decode cX0_openCoins 58 = .ok (.goto (-54), 3) := by decide +kernel
theorem dX0_openCoins_61 : decode cX0_openCoins 61 = .ok (.iload_n 1, 1) := by decide +kernel
theorem dX0_openCoins_62 : decode cX0_openCoins 62 = .ok (.ireturn, 1) := by decide +kernel
theorem dX1_init_0 : decode cX1_init 0 = .ok (.aload_n 0, 1) := by decide +kernel
theorem dX1_init_1 : decode cX1_init 1 = .ok (.invokespecial 1, 3) := by decide +kernel
theorem dX1_init_4 : decode cX1_init 4 = .ok (.return_, 1) := by decide +kernel
theorem dX1_copyFrom_0 : decode cX1_copyFrom 0 = .ok (.aload_n 0, 1) := by decide +kernel
theorem dX1_copyFrom_1 : decode cX1_copyFrom 1 = .ok (.aload_n 1, 1) := by decide +kernel
theorem dX1_copyFrom_2 : decode cX1_copyFrom 2 = .ok (.getfield 7, 3) := by decide +kernel
theorem dX1_copyFrom_5 : decode cX1_copyFrom 5 = .ok (.putfield 7, 3) := by decide +kernel
theorem dX1_copyFrom_8 : decode cX1_copyFrom 8 = .ok (.aload_n 0, 1) := by decide +kernel
theorem dX1_copyFrom_9 : decode cX1_copyFrom 9 = .ok (.aload_n 1, 1) := by decide +kernel
theorem dX1_copyFrom_10 : decode cX1_copyFrom 10 = .ok (.getfield 13, 3) := by decide +kernel
theorem dX1_copyFrom_13 : decode cX1_copyFrom 13 = .ok (.putfield 13, 3) := by decide +kernel
theorem dX1_copyFrom_16 : decode cX1_copyFrom 16 = .ok (.aload_n 0, 1) := by decide +kernel
theorem dX1_copyFrom_17 : decode cX1_copyFrom 17 = .ok (.aload_n 1, 1) := by decide +kernel
theorem dX1_copyFrom_18 : decode cX1_copyFrom 18 = .ok (.getfield 17, 3) := by decide +kernel
theorem dX1_copyFrom_21 : decode cX1_copyFrom 21 = .ok (.putfield 17, 3) := by decide +kernel
theorem dX1_copyFrom_24 : decode cX1_copyFrom 24 = .ok (.return_, 1) := by decide +kernel
theorem dX2_init_0 : decode cX2_init 0 = .ok (.aload_n 0, 1) := by decide +kernel
theorem dX2_init_1 : decode cX2_init 1 = .ok (.invokespecial 3, 3) := by decide +kernel
theorem dX2_init_4 : decode cX2_init 4 = .ok (.aload_n 0, 1) := by decide +kernel
theorem dX2_init_5 : decode cX2_init 5 = .ok (.iconst (-1), 1) := by decide +kernel
theorem dX2_init_6 : decode cX2_init 6 = .ok (.putfield 9, 3) := by decide +kernel
theorem dX2_init_9 : decode cX2_init 9 = .ok (.return_, 1) := by decide +kernel
theorem dX2_copyFrom_0 : decode cX2_copyFrom 0 = .ok (.aload_n 0, 1) := by decide +kernel
theorem dX2_copyFrom_1 : decode cX2_copyFrom 1 = .ok (.aload_n 1, 1) := by decide +kernel
theorem dX2_copyFrom_2 : decode cX2_copyFrom 2 = .ok (.getfield 15, 3) := by decide +kernel
theorem dX2_copyFrom_5 : decode cX2_copyFrom 5 = .ok (.putfield 15, 3) := by decide +kernel
theorem dX2_copyFrom_8 : decode cX2_copyFrom 8 = .ok (.aload_n 0, 1) := by decide +kernel
theorem dX2_copyFrom_9 : decode cX2_copyFrom 9 = .ok (.aload_n 1, 1) := by decide +kernel
theorem dX2_copyFrom_10 : decode cX2_copyFrom 10 = .ok (.getfield 18, 3) := by decide +kernel
theorem dX2_copyFrom_13 : decode cX2_copyFrom 13 = .ok (.putfield 18, 3) := by decide +kernel
theorem dX2_copyFrom_16 : decode cX2_copyFrom 16 = .ok (.aload_n 0, 1) := by decide +kernel
theorem dX2_copyFrom_17 : decode cX2_copyFrom 17 = .ok (.aload_n 1, 1) := by decide +kernel
theorem dX2_copyFrom_18 : decode cX2_copyFrom 18 = .ok (.getfield 21, 3) := by decide +kernel
theorem dX2_copyFrom_21 : decode cX2_copyFrom 21 = .ok (.putfield 21, 3) := by decide +kernel
theorem dX2_copyFrom_24 : decode cX2_copyFrom 24 = .ok (.aload_n 0, 1) := by decide +kernel
theorem dX2_copyFrom_25 : decode cX2_copyFrom 25 = .ok (.aload_n 1, 1) := by decide +kernel
theorem dX2_copyFrom_26 : decode cX2_copyFrom 26 = .ok (.getfield 24, 3) := by decide +kernel
theorem dX2_copyFrom_29 : decode cX2_copyFrom 29 = .ok (.putfield 24, 3) := by decide +kernel
theorem dX2_copyFrom_32 : decode cX2_copyFrom 32 = .ok (.aload_n 0, 1) := by decide +kernel
theorem dX2_copyFrom_33 : decode cX2_copyFrom 33 = .ok (.aload_n 1, 1) := by decide +kernel
theorem dX2_copyFrom_34 : decode cX2_copyFrom 34 = .ok (.getfield 9, 3) := by decide +kernel
theorem dX2_copyFrom_37 : decode cX2_copyFrom 37 = .ok (.putfield 9, 3) := by decide +kernel
theorem dX2_copyFrom_40 : decode cX2_copyFrom 40 = .ok (.return_, 1) := by decide +kernel
theorem dX2_holds_0 : decode cX2_holds 0 = .ok (.aload_n 0, 1) := by decide +kernel
theorem dX2_holds_1 : decode cX2_holds 1 = .ok (.getfield 9, 3) := by decide +kernel
theorem dX2_holds_4 : decode cX2_holds 4 = .ok (.iconst (-1), 1) := by decide +kernel
theorem dX2_holds_5 : decode cX2_holds 5 = .ok (.if_icmp .eq 7, 3) := by decide +kernel
theorem dX2_holds_8 : decode cX2_holds 8 = .ok (.iconst 1, 1) := by decide +kernel
theorem dX2_holds_9 : decode cX2_holds 9 = .ok (.goto 4, 3) := by decide +kernel
theorem dX2_holds_12 : decode cX2_holds 12 = .ok (.iconst 0, 1) := by decide +kernel
theorem dX2_holds_13 : decode cX2_holds 13 = .ok (.ireturn, 1) := by decide +kernel
theorem dX2_isFitBy_0 : decode cX2_isFitBy 0 = .ok (.aload_n 1, 1) := by decide +kernel
theorem dX2_isFitBy_1 : decode cX2_isFitBy 1 = .ok (.getfield 27, 3) := by decide +kernel
theorem dX2_isFitBy_4 : decode cX2_isFitBy 4 = .ok (.ifCond .ne 31, 3) := by decide +kernel
theorem dX2_isFitBy_7 : decode cX2_isFitBy 7 = .ok (.aload_n 1, 1) := by decide +kernel
theorem dX2_isFitBy_8 : decode cX2_isFitBy 8 = .ok (.getfield 33, 3) := by decide +kernel
theorem dX2_isFitBy_11 : decode cX2_isFitBy 11 = .ok (.aload_n 0, 1) := by decide +kernel
theorem dX2_isFitBy_12 : decode cX2_isFitBy 12 = .ok (.getfield 15, 3) := by decide +kernel
theorem dX2_isFitBy_15 : decode cX2_isFitBy 15 = .ok (.if_icmp .eq 16, 3) := by decide +kernel
theorem dX2_isFitBy_18 : decode cX2_isFitBy 18 = .ok (.aload_n 1, 1) := by decide +kernel
theorem dX2_isFitBy_19 : decode cX2_isFitBy 19 = .ok (.getfield 33, 3) := by decide +kernel
theorem dX2_isFitBy_22 : decode cX2_isFitBy 22 = .ok (.aload_n 0, 1) := by decide +kernel
theorem dX2_isFitBy_23 : decode cX2_isFitBy 23 = .ok (.getfield 15, 3) := by decide +kernel
theorem dX2_isFitBy_26 : decode cX2_isFitBy 26 = .ok (.iconst 1, 1) := by decide +kernel
theorem dX2_isFitBy_27 : decode cX2_isFitBy 27 = .ok (.isub, 1) := by decide +kernel
theorem dX2_isFitBy_28 : decode cX2_isFitBy 28 = .ok (.if_icmp .ne 7, 3) := by decide +kernel
theorem dX2_isFitBy_31 : decode cX2_isFitBy 31 = .ok (.iconst 1, 1) := by decide +kernel
theorem dX2_isFitBy_32 : decode cX2_isFitBy 32 = .ok (.goto 4, 3) := by decide +kernel
theorem dX2_isFitBy_35 : decode cX2_isFitBy 35 = .ok (.iconst 0, 1) := by decide +kernel
theorem dX2_isFitBy_36 : decode cX2_isFitBy 36 = .ok (.ireturn, 1) := by decide +kernel
theorem dX2_walk_0 : decode cX2_walk 0 = .ok (.aload_n 0, 1) := by decide +kernel
theorem dX2_walk_1 : decode cX2_walk 1 = .ok (.getfield 21, 3) := by decide +kernel
theorem dX2_walk_4 : decode cX2_walk 4 = .ok (.ifCond .ne 29, 3) := by decide +kernel
theorem dX2_walk_7 : decode cX2_walk 7 = .ok (.aload_n 0, 1) := by decide +kernel
theorem dX2_walk_8 : decode cX2_walk 8 = .ok (.aload_n 0, 1) := by decide +kernel
theorem dX2_walk_9 : decode cX2_walk 9 = .ok (.getfield 24, 3) := by decide +kernel
theorem dX2_walk_12 : decode cX2_walk 12 = .ok (.ifCond .ne 9, 3) := by decide +kernel
theorem dX2_walk_15 : decode cX2_walk 15 = .ok (.iload_n 1, 1) := by decide +kernel
theorem dX2_walk_16 : decode cX2_walk 16 = .ok (.iconst 1, 1) := by decide +kernel
theorem dX2_walk_17 : decode cX2_walk 17 = .ok (.isub, 1) := by decide +kernel
theorem dX2_walk_18 : decode cX2_walk 18 = .ok (.goto 9, 3) := by decide +kernel
theorem dX2_walk_21 : decode cX2_walk 21 = .ok (.aload_n 0, 1) := by decide +kernel
theorem dX2_walk_22 : decode cX2_walk 22 = .ok (.getfield 24, 3) := by decide +kernel
theorem dX2_walk_25 : decode cX2_walk 25 = .ok (.iconst 1, 1) := by decide +kernel
theorem dX2_walk_26 : decode cX2_walk 26 = .ok (.isub, 1) := by decide +kernel
theorem dX2_walk_27 : decode cX2_walk 27 = .ok (.putfield 24, 3) := by decide +kernel
theorem dX2_walk_30 : decode cX2_walk 30 = .ok (.goto 27, 3) := by decide +kernel
theorem dX2_walk_33 : decode cX2_walk 33 = .ok (.aload_n 0, 1) := by decide +kernel
theorem dX2_walk_34 : decode cX2_walk 34 = .ok (.aload_n 0, 1) := by decide +kernel
theorem dX2_walk_35 : decode cX2_walk 35 = .ok (.getfield 24, 3) := by decide +kernel
theorem dX2_walk_38 : decode cX2_walk 38 = .ok (.iconst 1, 1) := by decide +kernel
theorem dX2_walk_39 : decode cX2_walk 39 = .ok (.iadd, 1) := by decide +kernel
theorem dX2_walk_40 : decode cX2_walk 40 = .ok (.iload_n 1, 1) := by decide +kernel
theorem dX2_walk_41 : decode cX2_walk 41 = .ok (.if_icmp .ne 7, 3) := by decide +kernel
theorem dX2_walk_44 : decode cX2_walk 44 = .ok (.iconst 0, 1) := by decide +kernel
theorem dX2_walk_45 : decode cX2_walk 45 = .ok (.goto 9, 3) := by decide +kernel
theorem dX2_walk_48 : decode cX2_walk 48 = .ok (.aload_n 0, 1) := by decide +kernel
theorem dX2_walk_49 : decode cX2_walk 49 = .ok (.getfield 24, 3) := by decide +kernel
theorem dX2_walk_52 : decode cX2_walk 52 = .ok (.iconst 1, 1) := by decide +kernel
theorem dX2_walk_53 : decode cX2_walk 53 = .ok (.iadd, 1) := by decide +kernel
theorem dX2_walk_54 : decode cX2_walk 54 = .ok (.putfield 24, 3) := by decide +kernel
theorem dX2_walk_57 : decode cX2_walk 57 = .ok (.return_, 1) := by decide +kernel
theorem dX3_init_0 : decode cX3_init 0 = .ok (.aload_n 0, 1) := by decide +kernel
theorem dX3_init_1 : decode cX3_init 1 = .ok (.invokespecial 1, 3) := by decide +kernel
theorem dX3_init_4 : decode cX3_init 4 = .ok (.aload_n 0, 1) := by decide +kernel
theorem dX3_init_5 : decode cX3_init 5 = .ok (.new 7, 3) := by decide +kernel
theorem dX3_init_8 : decode cX3_init 8 = .ok (.dup, 1) := by decide +kernel
theorem dX3_init_9 : decode cX3_init 9 = .ok (.invokespecial 9, 3) := by decide +kernel
theorem dX3_init_12 : decode cX3_init 12 = .ok (.putfield 10, 3) := by decide +kernel
theorem dX3_init_15 : decode cX3_init 15 = .ok (.aload_n 0, 1) := by decide +kernel
theorem dX3_init_16 : decode cX3_init 16 = .ok (.new 16, 3) := by decide +kernel
theorem dX3_init_19 : decode cX3_init 19 = .ok (.dup, 1) := by decide +kernel
theorem dX3_init_20 : decode cX3_init 20 = .ok (.invokespecial 18, 3) := by decide +kernel
theorem dX3_init_23 : decode cX3_init 23 = .ok (.putfield 19, 3) := by decide +kernel
theorem dX3_init_26 : decode cX3_init 26 = .ok (.return_, 1) := by decide +kernel
theorem dX3_take_0 : decode cX3_take 0 = .ok (.aload_n 0, 1) := by decide +kernel
theorem dX3_take_1 : decode cX3_take 1 = .ok (.iconst 1, 1) := by decide +kernel
theorem dX3_take_2 : decode cX3_take 2 = .ok (.putfield 23, 3) := by decide +kernel
theorem dX3_take_5 : decode cX3_take 5 = .ok (.aload_n 0, 1) := by decide +kernel
theorem dX3_take_6 : decode cX3_take 6 = .ok (.getfield 10, 3) := by decide +kernel
theorem dX3_take_9 : decode cX3_take 9 = .ok (.aload_n 1, 1) := by decide +kernel
theorem dX3_take_10 : decode cX3_take 10 = .ok (.invokevirtual 27, 3) := by decide +kernel
theorem dX3_take_13 : decode cX3_take 13 = .ok (.aload_n 0, 1) := by decide +kernel
theorem dX3_take_14 : decode cX3_take 14 = .ok (.getfield 19, 3) := by decide +kernel
theorem dX3_take_17 : decode cX3_take 17 = .ok (.aload_n 2, 1) := by decide +kernel
theorem dX3_take_18 : decode cX3_take 18 = .ok (.invokevirtual 31, 3) := by decide +kernel
theorem dX3_take_21 : decode cX3_take 21 = .ok (.return_, 1) := by decide +kernel
theorem dX4_init_0 : decode cX4_init 0 = .ok (.aload_n 0, 1) := by decide +kernel
theorem dX4_init_1 : decode cX4_init 1 = .ok (.invokespecial 3, 3) := by decide +kernel
theorem dX4_init_4 : decode cX4_init 4 = .ok (.aload_n 0, 1) := by decide +kernel
theorem dX4_init_5 : decode cX4_init 5 = .ok (.iconst 4, 1) := by decide +kernel
theorem dX4_init_6 : decode cX4_init 6 = .ok (.newarray .int, 2) := by decide +kernel
theorem dX4_init_8 : decode cX4_init 8 = .ok (.putfield 9, 3) := by decide +kernel
theorem dX4_init_11 : decode cX4_init 11 = .ok (.aload_n 0, 1) := by decide +kernel
theorem dX4_init_12 : decode cX4_init 12 = .ok (.iconst 4, 1) := by decide +kernel
theorem dX4_init_13 : decode cX4_init 13 = .ok (.newarray .int, 2) := by decide +kernel
theorem dX4_init_15 : decode cX4_init 15 = .ok (.putfield 15, 3) := by decide +kernel
theorem dX4_init_18 : decode cX4_init 18 = .ok (.return_, 1) := by decide +kernel
end
section
theorem dX4_tryAll_0 : decode cX4_tryAll 0 = .ok (.aload_n 0, 1) := by decide +kernel
theorem dX4_tryAll_1 : decode cX4_tryAll 1 = .ok (.iconst 0, 1) := by decide +kernel
theorem dX4_tryAll_2 : decode cX4_tryAll 2 = .ok (.putfield 18, 3) := by decide +kernel
theorem dX4_tryAll_5 : decode cX4_tryAll 5 = .ok (.aload_n 0, 1) := by decide +kernel
theorem dX4_tryAll_6 : decode cX4_tryAll 6 = .ok (.bipush 41, 2) := by decide +kernel
theorem dX4_tryAll_8 : decode cX4_tryAll 8 = .ok (.putfield 22, 3) := by decide +kernel
theorem dX4_tryAll_11 : decode cX4_tryAll 11 = .ok (.iconst 0, 1) := by decide +kernel
theorem dX4_tryAll_12 : decode cX4_tryAll 12 = .ok (.istore_n 3, 1) := by decide +kernel
theorem dX4_tryAll_13 : decode cX4_tryAll 13 = .ok (.iload_n 3, 1) := by decide +kernel
theorem dX4_tryAll_14 : decode cX4_tryAll 14 = .ok (.iconst 4, 1) := by decide +kernel
theorem dX4_tryAll_15 : decode cX4_tryAll 15 = .ok (.if_icmp .ge 16, 3) := by decide +kernel
theorem dX4_tryAll_18 : decode cX4_tryAll 18 = .ok (.aload_n 0, 1) := by decide +kernel
theorem dX4_tryAll_19 : decode cX4_tryAll 19 = .ok (.getfield 15, 3) := by decide +kernel
theorem dX4_tryAll_22 : decode cX4_tryAll 22 = .ok (.iload_n 3, 1) := by decide +kernel
theorem dX4_tryAll_23 : decode cX4_tryAll 23 = .ok (.iload_n 3, 1) := by decide +kernel
theorem dX4_tryAll_24 : decode cX4_tryAll 24 = .ok (.iastore, 1) := by decide +kernel
theorem dX4_tryAll_25 : decode cX4_tryAll 25 = .ok (.iinc 3 1, 3) := by decide +kernel
theorem dX4_tryAll_28 : decode cX4_tryAll 28 = .ok (.goto (-15), 3) := by decide +kernel
theorem dX4_tryAll_31 : decode cX4_tryAll 31 = .ok (.iconst 1, 1) := by decide +kernel
theorem dX4_tryAll_32 : decode cX4_tryAll 32 = .ok (.istore_n 3, 1) := by decide +kernel
theorem dX4_tryAll_33 : decode cX4_tryAll 33 = .ok (.iconst 0, 1) := by decide +kernel
theorem dX4_tryAll_34 : decode cX4_tryAll 34 = .ok (.istore 4, 2) := by decide +kernel
theorem dX4_tryAll_36 : decode cX4_tryAll 36 = .ok (.iload 4, 2) := by decide +kernel
theorem dX4_tryAll_38 : decode cX4_tryAll 38 = .ok (.bipush 24, 2) := by decide +kernel
theorem dX4_tryAll_40 : decode cX4_tryAll 40 = .ok (.if_icmp .ge 48, 3) := by decide +kernel
theorem dX4_tryAll_43 : decode cX4_tryAll 43 = .ok (.iload_n 3, 1) := by decide +kernel
theorem dX4_tryAll_44 : decode cX4_tryAll 44 = .ok (.ifCond .eq 44, 3) := by decide +kernel
theorem dX4_tryAll_47 : decode cX4_tryAll 47 = .ok (.aload_n 2, 1) := by decide +kernel
theorem dX4_tryAll_48 : decode cX4_tryAll 48 = .ok (.aload_n 1, 1) := by decide +kernel
theorem dX4_tryAll_49 : decode cX4_tryAll 49 = .ok (.invokevirtual 25, 3) := by decide +kernel
theorem dX4_tryAll_52 : decode cX4_tryAll 52 = .ok (.aload_n 0, 1) := by decide +kernel
theorem dX4_tryAll_53 : decode cX4_tryAll 53 = .ok (.getfield 15, 3) := by decide +kernel
theorem dX4_tryAll_56 : decode cX4_tryAll 56 = .ok (.aload_n 2, 1) := by decide +kernel
theorem dX4_tryAll_57 : decode cX4_tryAll 57 = .ok (.getfield 31, 3) := by decide +kernel
theorem dX4_tryAll_60 : decode cX4_tryAll 60 = .ok (.invokestatic 32, 3) := by decide +kernel
theorem dX4_tryAll_63 : decode cX4_tryAll 63 = .ok (.aload_n 0, 1) := by decide +kernel
theorem dX4_tryAll_64 : decode cX4_tryAll 64 = .ok (.aload_n 2, 1) := by decide +kernel
theorem dX4_tryAll_65 : decode cX4_tryAll 65 = .ok (.bipush 40, 2) := by decide +kernel
theorem dX4_tryAll_67 : decode cX4_tryAll 67 = .ok (.invokevirtual 36, 3) := by decide +kernel
theorem dX4_tryAll_70 : decode cX4_tryAll 70 = .ok (.invokevirtual 40, 3) := by decide +kernel
theorem dX4_tryAll_73 : decode cX4_tryAll 73 = .ok (.aload_n 0, 1) := by decide +kernel
theorem dX4_tryAll_74 : decode cX4_tryAll 74 = .ok (.aload_n 1, 1) := by decide +kernel
theorem dX4_tryAll_75 : decode cX4_tryAll 75 = .ok (.getfield 44, 3) := by decide +kernel
theorem dX4_tryAll_78 : decode cX4_tryAll 78 = .ok (.invokevirtual 47, 3) := by decide +kernel
theorem dX4_tryAll_81 : decode cX4_tryAll 81 = .ok (.istore_n 3, 1) := by decide +kernel
theorem dX4_tryAll_82 : decode cX4_tryAll 82 = .ok (.iinc 4 1, 3) := by decide +kernel
theorem dX4_tryAll_85 : decode cX4_tryAll 85 = .ok (.goto (-49), 3) := by decide +kernel
theorem dX4_tryAll_88 : decode cX4_tryAll 88 = .ok (.return_, 1) := by decide +kernel
theorem dX4_note_0 : decode cX4_note 0 = .ok (.iload_n 1, 1) := by decide +kernel
theorem dX4_note_1 : decode cX4_note 1 = .ok (.bipush (-4), 2) := by decide +kernel
theorem dX4_note_3 : decode cX4_note 3 = .ok (.if_icmp .ne 4, 3) := by decide +kernel
theorem dX4_note_6 : decode cX4_note 6 = .ok (.return_, 1) := by decide +kernel
theorem dX4_note_7 : decode cX4_note 7 = .ok (.aload_n 0, 1) := by decide +kernel
theorem dX4_note_8 : decode cX4_note 8 = .ok (.dup, 1) := by decide +kernel
theorem dX4_note_9 : decode cX4_note 9 = .ok (.getfield 18, 3) := by decide +kernel
theorem dX4_note_12 : decode cX4_note 12 = .ok (.iconst 1, 1) := by decide +kernel
theorem dX4_note_13 : decode cX4_note 13 = .ok (.iadd, 1) := by decide +kernel
theorem dX4_note_14 : decode cX4_note 14 = .ok (.putfield 18, 3) := by decide +kernel
theorem dX4_note_17 : decode cX4_note 17 = .ok (.iload_n 1, 1) := by decide +kernel
theorem dX4_note_18 : decode cX4_note 18 = .ok (.aload_n 0, 1) := by decide +kernel
theorem dX4_note_19 : decode cX4_note 19 = .ok (.getfield 22, 3) := by decide +kernel
theorem dX4_note_22 : decode cX4_note 22 = .ok (.if_icmp .ge 19, 3) := by decide +kernel
theorem dX4_note_25 : decode cX4_note 25 = .ok (.aload_n 0, 1) := by decide +kernel
theorem dX4_note_26 : decode cX4_note 26 = .ok (.iload_n 1, 1) := by decide +kernel
theorem dX4_note_27 : decode cX4_note 27 = .ok (.putfield 22, 3) := by decide +kernel
theorem dX4_note_30 : decode cX4_note 30 = .ok (.aload_n 0, 1) := by decide +kernel
theorem dX4_note_31 : decode cX4_note 31 = .ok (.getfield 15, 3) := by decide +kernel
theorem dX4_note_34 : decode cX4_note 34 = .ok (.aload_n 0, 1) := by decide +kernel
theorem dX4_note_35 : decode cX4_note 35 = .ok (.getfield 9, 3) := by decide +kernel
theorem dX4_note_38 : decode cX4_note 38 = .ok (.invokestatic 32, 3) := by decide +kernel
theorem dX4_note_41 : decode cX4_note 41 = .ok (.return_, 1) := by decide +kernel
theorem dX4_copyOrder_0 : decode cX4_copyOrder 0 = .ok (.iconst 0, 1) := by decide +kernel
theorem dX4_copyOrder_1 : decode cX4_copyOrder 1 = .ok (.istore_n 2, 1) := by decide +kernel
theorem dX4_copyOrder_2 : decode cX4_copyOrder 2 = .ok (.iload_n 2, 1) := by decide +kernel
theorem dX4_copyOrder_3 : decode cX4_copyOrder 3 = .ok (.iconst 4, 1) := by decide +kernel
theorem dX4_copyOrder_4 : decode cX4_copyOrder 4 = .ok (.if_icmp .ge 15, 3) := by decide +kernel
theorem dX4_copyOrder_7 : decode cX4_copyOrder 7 = .ok (.aload_n 1, 1) := by decide +kernel
theorem dX4_copyOrder_8 : decode cX4_copyOrder 8 = .ok (.iload_n 2, 1) := by decide +kernel
theorem dX4_copyOrder_9 : decode cX4_copyOrder 9 = .ok (.aload_n 0, 1) := by decide +kernel
theorem dX4_copyOrder_10 : decode cX4_copyOrder 10 = .ok (.iload_n 2, 1) := by decide +kernel
theorem dX4_copyOrder_11 : decode cX4_copyOrder 11 = .ok (.iaload, 1) := by decide +kernel
theorem dX4_copyOrder_12 : decode cX4_copyOrder 12 = .ok (.iastore, 1) := by decide +kernel
theorem dX4_copyOrder_13 : decode cX4_copyOrder 13 = .ok (.iinc 2 1, 3) := by decide +kernel
theorem dX4_copyOrder_16 : decode cX4_copyOrder 16 = .ok (.goto (-14), 3) := by decide +kernel
theorem dX4_copyOrder_19 : decode cX4_copyOrder 19 = .ok (.return_, 1) := by decide +kernel
theorem dX4_turnToNext_0 : decode cX4_turnToNext 0 = .ok (.iload_n 1, 1) := by decide +kernel
theorem dX4_turnToNext_1 : decode cX4_turnToNext 1 = .ok (.iconst 2, 1) := by decide +kernel
theorem dX4_turnToNext_2 : decode cX4_turnToNext 2 = .ok (.isub, 1) := by decide +kernel
theorem dX4_turnToNext_3 : decode cX4_turnToNext 3 = .ok (.istore_n 2, 1) := by decide +kernel
theorem dX4_turnToNext_4 : decode cX4_turnToNext 4 = .ok (.iload_n 2, 1) := by decide +kernel
theorem dX4_turnToNext_5 : decode cX4_turnToNext 5 = .ok (.ifCond .lt 26, 3) := by decide +kernel
theorem dX4_turnToNext_8 : decode cX4_turnToNext 8 = .ok (.aload_n 0, 1) := by decide +kernel
theorem dX4_turnToNext_9 : decode cX4_turnToNext 9 = .ok (.getfield 15, 3) := by decide +kernel
theorem dX4_turnToNext_12 : decode cX4_turnToNext 12 = .ok (.iload_n 2, 1) := by decide +kernel
theorem dX4_turnToNext_13 : decode cX4_turnToNext 13 = .ok (.iaload, 1) := by decide +kernel
theorem dX4_turnToNext_14 : decode cX4_turnToNext 14 = .ok (.aload_n 0, 1) := by decide +kernel
theorem dX4_turnToNext_15 : decode cX4_turnToNext 15 = .ok (.getfield 15, 3) := by decide +kernel
theorem dX4_turnToNext_18 : decode cX4_turnToNext 18 = .ok (.iload_n 2, 1) := by decide +kernel
theorem dX4_turnToNext_19 : decode cX4_turnToNext 19 = .ok (.iconst 1, 1) := by decide +kernel
theorem dX4_turnToNext_20 : decode cX4_turnToNext 20 = .ok (.iadd, 1) := by decide +kernel
theorem dX4_turnToNext_21 : decode cX4_turnToNext 21 = .ok (.iaload, 1) := by decide +kernel
theorem dX4_turnToNext_22 : decode cX4_turnToNext 22 = .ok (.if_icmp .le 9, 3) := by decide +kernel
theorem dX4_turnToNext_25 : decode cX4_turnToNext 25 = .ok (.iinc 2 (-1), 3) := by decide +kernel
theorem dX4_turnToNext_28 : decode cX4_turnToNext 28 = .ok (.goto (-24), 3) := by decide +kernel
theorem dX4_turnToNext_31 : decode cX4_turnToNext 31 = .ok (.iload_n 2, 1) := by decide +kernel
theorem dX4_turnToNext_32 : decode cX4_turnToNext 32 = .ok (.ifCond .ge 5, 3) := by decide +kernel
theorem dX4_turnToNext_35 : decode cX4_turnToNext 35 = .ok (.iconst 0, 1) := by decide +kernel
theorem dX4_turnToNext_36 : decode cX4_turnToNext 36 = .ok (.ireturn, 1) := by decide +kernel
theorem dX4_turnToNext_37 : decode cX4_turnToNext 37 = .ok (.iload_n 1, 1) := by decide +kernel
theorem dX4_turnToNext_38 : decode cX4_turnToNext 38 = .ok (.iconst 1, 1) := by decide +kernel
theorem dX4_turnToNext_39 : decode cX4_turnToNext 39 = .ok (.isub, 1) := by decide +kernel
theorem dX4_turnToNext_40 : decode cX4_turnToNext 40 = .ok (.istore_n 3, 1) := by decide +kernel
theorem dX4_turnToNext_41 : decode cX4_turnToNext 41 = .ok (.iload_n 3, 1) := by decide +kernel
theorem dX4_turnToNext_42 : decode cX4_turnToNext 42 = .ok (.iload_n 2, 1) := by decide +kernel
theorem dX4_turnToNext_43 : decode cX4_turnToNext 43 = .ok (.if_icmp .le 24, 3) := by decide +kernel
theorem dX4_turnToNext_46 : decode cX4_turnToNext 46 = .ok (.aload_n 0, 1) := by decide +kernel
theorem dX4_turnToNext_47 : decode cX4_turnToNext 47 = .ok (.getfield 15, 3) := by decide +kernel
theorem dX4_turnToNext_50 : decode cX4_turnToNext 50 = .ok (.iload_n 3, 1) := by decide +kernel
theorem dX4_turnToNext_51 : decode cX4_turnToNext 51 = .ok (.iaload, 1) := by decide +kernel
theorem dX4_turnToNext_52 : decode cX4_turnToNext 52 = .ok (.aload_n 0, 1) := by decide +kernel
theorem dX4_turnToNext_53 : decode cX4_turnToNext 53 = .ok (.getfield 15, 3) := by decide +kernel
theorem dX4_turnToNext_56 : decode cX4_turnToNext 56 = .ok (.iload_n 2, 1) := by decide +kernel
theorem dX4_turnToNext_57 : decode cX4_turnToNext 57 = .ok (.iaload, 1) := by decide +kernel
theorem dX4_turnToNext_58 : decode cX4_turnToNext 58 = .ok (.if_icmp .ge 9, 3) := by decide +kernel
theorem dX4_turnToNext_61 : decode cX4_turnToNext 61 = .ok (.iinc 3 (-1), 3) := by decide +kernel
theorem dX4_turnToNext_64 : decode cX4_turnToNext 64 = .ok (.goto (-23), 3) := by decide +kernel
theorem dX4_turnToNext_67 : decode cX4_turnToNext 67 = .ok (.aload_n 0, 1) := by decide +kernel
theorem dX4_turnToNext_68 : decode cX4_turnToNext 68 = .ok (.iload_n 2, 1) := by decide +kernel
theorem dX4_turnToNext_69 : decode cX4_turnToNext 69 = .ok (.iload_n 3, 1) := by decide +kernel
theorem dX4_turnToNext_70 : decode cX4_turnToNext 70 = .ok (.invokevirtual 51, 3) := by decide +kernel
theorem dX4_turnToNext_73 : decode cX4_turnToNext 73 = .ok (.iload_n 2, 1) := by decide +kernel
theorem dX4_turnToNext_74 : decode cX4_turnToNext 74 = .ok (.iconst 1, 1) := by decide +kernel
theorem dX4_turnToNext_75 : decode cX4_turnToNext 75 = .ok (.iadd, 1) := by decide +kernel
theorem dX4_turnToNext_76 : decode cX4_turnToNext 76 = .ok (.istore 4, 2) := by decide +kernel
theorem dX4_turnToNext_78 : decode cX4_turnToNext 78 = .ok (.iload_n 1, 1) := by decide +kernel
theorem dX4_turnToNext_79 : decode cX4_turnToNext 79 = .ok (.iconst 1, 1) := by decide +kernel
theorem dX4_turnToNext_80 : decode cX4_turnToNext 80 = .ok (.isub, 1) := by decide +kernel
theorem dX4_turnToNext_81 : decode cX4_turnToNext 81 = .ok (.istore 5, 2) := by decide +kernel
theorem dX4_turnToNext_83 : decode cX4_turnToNext 83 = .ok (.iload 4, 2) := by decide +kernel
theorem dX4_turnToNext_85 : decode cX4_turnToNext 85 = .ok (.iload 5, 2) := by decide +kernel
theorem dX4_turnToNext_87 : decode cX4_turnToNext 87 = .ok (.if_icmp .ge 20, 3) := by decide +kernel
theorem dX4_turnToNext_90 : decode cX4_turnToNext 90 = .ok (.aload_n 0, 1) := by decide +kernel
theorem dX4_turnToNext_91 : decode cX4_turnToNext 91 = .ok (.iload 4, 2) := by decide +kernel
theorem dX4_turnToNext_93 : decode cX4_turnToNext 93 = .ok (.iload 5, 2) := by decide +kernel
theorem dX4_turnToNext_95 : decode cX4_turnToNext 95 = .ok (.invokevirtual 51, 3) := by decide +kernel
theorem dX4_turnToNext_98 : decode cX4_turnToNext 98 = .ok (.iinc 4 1, 3) := by decide +kernel
theorem dX4_turnToNext_101 : decode cX4_turnToNext 101 = .ok (.iinc 5 (-1), 3) := by decide +kernel
theorem dX4_turnToNext_104 : decode cX4_turnToNext 104 = .ok (.goto (-21), 3) := by decide +kernel
theorem dX4_turnToNext_107 : decode cX4_turnToNext 107 = .ok (.iconst 1, 1) := by decide +kernel
theorem dX4_turnToNext_108 : decode cX4_turnToNext 108 = .ok (.ireturn, 1) := by decide +kernel
theorem dX4_swap_0 : decode cX4_swap 0 = .ok (.aload_n 0, 1) := by decide +kernel
theorem dX4_swap_1 : decode cX4_swap 1 = .ok (.getfield 15, 3) := by decide +kernel
theorem dX4_swap_4 : decode cX4_swap 4 = .ok (.iload_n 1, 1) := by decide +kernel
theorem dX4_swap_5 : decode cX4_swap 5 = .ok (.iaload, 1) := by decide +kernel
theorem dX4_swap_6 : decode cX4_swap 6 = .ok (.istore_n 3, 1) := by decide +kernel
theorem dX4_swap_7 : decode cX4_swap 7 = .ok (.aload_n 0, 1) := by decide +kernel
theorem dX4_swap_8 : decode cX4_swap 8 = .ok (.getfield 15, 3) := by decide +kernel
theorem dX4_swap_11 : decode cX4_swap 11 = .ok (.iload_n 1, 1) := by decide +kernel
theorem dX4_swap_12 : decode cX4_swap 12 = .ok (.aload_n 0, 1) := by decide +kernel
theorem dX4_swap_13 : decode cX4_swap 13 = .ok (.getfield 15, 3) := by decide +kernel
theorem dX4_swap_16 : decode cX4_swap 16 = .ok (.iload_n 2, 1) := by decide +kernel
theorem dX4_swap_17 : decode cX4_swap 17 = .ok (.iaload, 1) := by decide +kernel
theorem dX4_swap_18 : decode cX4_swap 18 = .ok (.iastore, 1) := by decide +kernel
theorem dX4_swap_19 : decode cX4_swap 19 = .ok (.aload_n 0, 1) := by decide +kernel
theorem dX4_swap_20 : decode cX4_swap 20 = .ok (.getfield 15, 3) := by decide +kernel
theorem dX4_swap_23 : decode cX4_swap 23 = .ok (.iload_n 2, 1) := by decide +kernel
theorem dX4_swap_24 : decode cX4_swap 24 = .ok (.iload_n 3, 1) := by decide +kernel
theorem dX4_swap_25 : decode cX4_swap 25 = .ok (.iastore, 1) := by decide +kernel
theorem dX4_swap_26 : decode cX4_swap 26 = .ok (.return_, 1) := by decide +kernel
theorem dX5_init_0 : decode cX5_init 0 = .ok (.aload_n 0, 1) := by decide +kernel
theorem dX5_init_1 : decode cX5_init 1 = .ok (.invokespecial 3, 3) := by decide +kernel
theorem dX5_init_4 : decode cX5_init 4 = .ok (.aload_n 0, 1) := by decide +kernel
theorem dX5_init_5 : decode cX5_init 5 = .ok (.bipush 40, 2) := by decide +kernel
theorem dX5_init_7 : decode cX5_init 7 = .ok (.newarray .int, 2) := by decide +kernel
theorem dX5_init_9 : decode cX5_init 9 = .ok (.putfield 9, 3) := by decide +kernel
theorem dX5_init_12 : decode cX5_init 12 = .ok (.aload_n 0, 1) := by decide +kernel
theorem dX5_init_13 : decode cX5_init 13 = .ok (.iconst (-1), 1) := by decide +kernel
theorem dX5_init_14 : decode cX5_init 14 = .ok (.putfield 15, 3) := by decide +kernel
theorem dX5_init_17 : decode cX5_init 17 = .ok (.return_, 1) := by decide +kernel
theorem dX5_renew_0 : decode cX5_renew 0 = .ok (.aload_n 0, 1) := by decide +kernel
theorem dX5_renew_1 : decode cX5_renew 1 = .ok (.iload_n 1, 1) := by decide +kernel
theorem dX5_renew_2 : decode cX5_renew 2 = .ok (.putfield 15, 3) := by decide +kernel
theorem dX5_renew_5 : decode cX5_renew 5 = .ok (.aload_n 0, 1) := by decide +kernel
theorem dX5_renew_6 : decode cX5_renew 6 = .ok (.iload_n 2, 1) := by decide +kernel
theorem dX5_renew_7 : decode cX5_renew 7 = .ok (.putfield 19, 3) := by decide +kernel
theorem dX5_renew_10 : decode cX5_renew 10 = .ok (.iconst 0, 1) := by decide +kernel
theorem dX5_renew_11 : decode cX5_renew 11 = .ok (.istore_n 3, 1) := by decide +kernel
theorem dX5_renew_12 : decode cX5_renew 12 = .ok (.iload_n 3, 1) := by decide +kernel
theorem dX5_renew_13 : decode cX5_renew 13 = .ok (.bipush 40, 2) := by decide +kernel
theorem dX5_renew_15 : decode cX5_renew 15 = .ok (.if_icmp .ge 16, 3) := by decide +kernel
theorem dX5_renew_18 : decode cX5_renew 18 = .ok (.aload_n 0, 1) := by decide +kernel
theorem dX5_renew_19 : decode cX5_renew 19 = .ok (.getfield 9, 3) := by decide +kernel
theorem dX5_renew_22 : decode cX5_renew 22 = .ok (.iload_n 3, 1) := by decide +kernel
theorem dX5_renew_23 : decode cX5_renew 23 = .ok (.iconst 0, 1) := by decide +kernel
theorem dX5_renew_24 : decode cX5_renew 24 = .ok (.iastore, 1) := by decide +kernel
theorem dX5_renew_25 : decode cX5_renew 25 = .ok (.iinc 3 1, 3) := by decide +kernel
theorem dX5_renew_28 : decode cX5_renew 28 = .ok (.goto (-16), 3) := by decide +kernel
theorem dX5_renew_31 : decode cX5_renew 31 = .ok (.return_, 1) := by decide +kernel
theorem dX5_faultAt_0 : decode cX5_faultAt 0 = .ok (.aload_n 0, 1) := by decide +kernel
theorem dX5_faultAt_1 : decode cX5_faultAt 1 = .ok (.getfield 15, 3) := by decide +kernel
theorem dX5_faultAt_4 : decode cX5_faultAt 4 = .ok (.iconst (-1), 1) := by decide +kernel
theorem dX5_faultAt_5 : decode cX5_faultAt 5 = .ok (.if_icmp .ne 5, 3) := by decide +kernel
theorem dX5_faultAt_8 : decode cX5_faultAt 8 = .ok (.iconst 1, 1) := by decide +kernel
theorem dX5_faultAt_9 : decode cX5_faultAt 9 = .ok (.ireturn, 1) := by decide +kernel
theorem dX5_faultAt_10 : decode cX5_faultAt 10 = .ok (.iload_n 1, 1) := by decide +kernel
theorem dX5_faultAt_11 : decode cX5_faultAt 11 = .ok (.iconst 0, 1) := by decide +kernel
theorem dX5_faultAt_12 : decode cX5_faultAt 12 = .ok (.aload_n 0, 1) := by decide +kernel
theorem dX5_faultAt_13 : decode cX5_faultAt 13 = .ok (.getfield 19, 3) := by decide +kernel
theorem dX5_faultAt_16 : decode cX5_faultAt 16 = .ok (.iconst 1, 1) := by decide +kernel
theorem dX5_faultAt_17 : decode cX5_faultAt 17 = .ok (.isub, 1) := by decide +kernel
theorem dX5_faultAt_18 : decode cX5_faultAt 18 = .ok (.invokestatic 22, 3) := by decide +kernel
theorem dX5_faultAt_21 : decode cX5_faultAt 21 = .ok (.ifCond .eq 7, 3) := by decide +kernel
theorem dX5_faultAt_24 : decode cX5_faultAt 24 = .ok (.iconst 0, 1) := by decide +kernel
theorem dX5_faultAt_25 : decode cX5_faultAt 25 = .ok (.goto 4, 3) := by decide +kernel
theorem dX5_faultAt_28 : decode cX5_faultAt 28 = .ok (.iconst 2, 1) := by decide +kernel
theorem dX5_faultAt_29 : decode cX5_faultAt 29 = .ok (.ireturn, 1) := by decide +kernel
theorem dX5_faultAtPair_0 : decode cX5_faultAtPair 0 = .ok (.aload_n 0, 1) := by decide +kernel
theorem dX5_faultAtPair_1 : decode cX5_faultAtPair 1 = .ok (.getfield 15, 3) := by decide +kernel
theorem dX5_faultAtPair_4 : decode cX5_faultAtPair 4 = .ok (.iconst (-1), 1) := by decide +kernel
theorem dX5_faultAtPair_5 : decode cX5_faultAtPair 5 = .ok (.if_icmp .eq 13, 3) := by decide +kernel
theorem dX5_faultAtPair_8 : decode cX5_faultAtPair 8 = .ok (.aload_n 0, 1) := by decide +kernel
theorem dX5_faultAtPair_9 : decode cX5_faultAtPair 9 = .ok (.getfield 15, 3) := by decide +kernel
theorem dX5_faultAtPair_12 : decode cX5_faultAtPair 12 = .ok (.iload_n 1, 1) := by decide +kernel
theorem dX5_faultAtPair_13 : decode cX5_faultAtPair 13 = .ok (.if_icmp .eq 5, 3) := by decide +kernel
theorem dX5_faultAtPair_16 : decode cX5_faultAtPair 16 = .ok (.iconst 3, 1) := by decide +kernel
theorem dX5_faultAtPair_17 : decode cX5_faultAtPair 17 = .ok (.ireturn, 1) := by decide +kernel
theorem dX5_faultAtPair_18 : decode cX5_faultAtPair 18 = .ok (.aload_n 0, 1) := by decide +kernel
theorem dX5_faultAtPair_19 : decode cX5_faultAtPair 19 = .ok (.iload_n 2, 1) := by decide +kernel
theorem dX5_faultAtPair_20 : decode cX5_faultAtPair 20 = .ok (.invokevirtual 26, 3) := by decide +kernel
theorem dX5_faultAtPair_23 : decode cX5_faultAtPair 23 = .ok (.istore_n 3, 1) := by decide +kernel
theorem dX5_faultAtPair_24 : decode cX5_faultAtPair 24 = .ok (.iload_n 3, 1) := by decide +kernel
theorem dX5_faultAtPair_25 : decode cX5_faultAtPair 25 = .ok (.ifCond .ne 13, 3) := by decide +kernel
theorem dX5_faultAtPair_28 : decode cX5_faultAtPair 28 = .ok (.aload_n 0, 1) := by decide +kernel
theorem dX5_faultAtPair_29 : decode cX5_faultAtPair 29 = .ok (.iload_n 2, 1) := by decide +kernel
theorem dX5_faultAtPair_30 : decode cX5_faultAtPair 30 = .ok (.iconst 1, 1) := by decide +kernel
theorem dX5_faultAtPair_31 : decode cX5_faultAtPair 31 = .ok (.iadd, 1) := by decide +kernel
theorem dX5_faultAtPair_32 : decode cX5_faultAtPair 32 = .ok (.invokevirtual 26, 3) := by decide +kernel
theorem dX5_faultAtPair_35 : decode cX5_faultAtPair 35 = .ok (.goto 4, 3) := by decide +kernel
theorem dX5_faultAtPair_38 : decode cX5_faultAtPair 38 = .ok (.iload_n 3, 1) := by decide +kernel
theorem dX5_faultAtPair_39 : decode cX5_faultAtPair 39 = .ok (.ireturn, 1) := by decide +kernel
theorem dX5_put_0 : decode cX5_put 0 = .ok (.aload_n 0, 1) := by decide +kernel
theorem dX5_put_1 : decode cX5_put 1 = .ok (.iload_n 1, 1) := by decide +kernel
theorem dX5_put_2 : decode cX5_put 2 = .ok (.invokevirtual 26, 3) := by decide +kernel
theorem dX5_put_5 : decode cX5_put 5 = .ok (.ifCond .ne 35, 3) := by decide +kernel
theorem dX5_put_8 : decode cX5_put 8 = .ok (.aload_n 0, 1) := by decide +kernel
theorem dX5_put_9 : decode cX5_put 9 = .ok (.getfield 9, 3) := by decide +kernel
theorem dX5_put_12 : decode cX5_put 12 = .ok (.iload_n 1, 1) := by decide +kernel
theorem dX5_put_13 : decode cX5_put 13 = .ok (.aload_n 0, 1) := by decide +kernel
theorem dX5_put_14 : decode cX5_put 14 = .ok (.getfield 15, 3) := by decide +kernel
theorem dX5_put_17 : decode cX5_put 17 = .ok (.ifCond .ne 8, 3) := by decide +kernel
theorem dX5_put_20 : decode cX5_put 20 = .ok (.iload_n 2, 1) := by decide +kernel
theorem dX5_put_21 : decode cX5_put 21 = .ok (.i2b, 1) := by decide +kernel
theorem dX5_put_22 : decode cX5_put 22 = .ok (.goto 17, 3) := by decide +kernel
theorem dX5_put_25 : decode cX5_put 25 = .ok (.aload_n 0, 1) := by decide +kernel
theorem dX5_put_26 : decode cX5_put 26 = .ok (.getfield 15, 3) := by decide +kernel
theorem dX5_put_29 : decode cX5_put 29 = .ok (.iconst 1, 1) := by decide +kernel
theorem dX5_put_30 : decode cX5_put 30 = .ok (.if_icmp .ne 8, 3) := by decide +kernel
theorem dX5_put_33 : decode cX5_put 33 = .ok (.iload_n 2, 1) := by decide +kernel
theorem dX5_put_34 : decode cX5_put 34 = .ok (.i2s, 1) := by decide +kernel
theorem dX5_put_35 : decode cX5_put 35 = .ok (.goto 4, 3) := by decide +kernel
theorem dX5_put_38 : decode cX5_put 38 = .ok (.iload_n 2, 1) := by decide +kernel
theorem dX5_put_39 : decode cX5_put 39 = .ok (.iastore, 1) := by decide +kernel
theorem dX5_put_40 : decode cX5_put 40 = .ok (.return_, 1) := by decide +kernel
theorem dX6_init_0 : decode cX6_init 0 = .ok (.aload_n 0, 1) := by decide +kernel
theorem dX6_init_1 : decode cX6_init 1 = .ok (.invokespecial 3, 3) := by decide +kernel
theorem dX6_init_4 : decode cX6_init 4 = .ok (.aload_n 0, 1) := by decide +kernel
theorem dX6_init_5 : decode cX6_init 5 = .ok (.bipush 8, 2) := by decide +kernel
theorem dX6_init_7 : decode cX6_init 7 = .ok (.newarray .int, 2) := by decide +kernel
theorem dX6_init_9 : decode cX6_init 9 = .ok (.putfield 9, 3) := by decide +kernel
theorem dX6_init_12 : decode cX6_init 12 = .ok (.aload_n 0, 1) := by decide +kernel
theorem dX6_init_13 : decode cX6_init 13 = .ok (.bipush 8, 2) := by decide +kernel
theorem dX6_init_15 : decode cX6_init 15 = .ok (.newarray .int, 2) := by decide +kernel
theorem dX6_init_17 : decode cX6_init 17 = .ok (.putfield 15, 3) := by decide +kernel
theorem dX6_init_20 : decode cX6_init 20 = .ok (.aload_n 0, 1) := by decide +kernel
theorem dX6_init_21 : decode cX6_init 21 = .ok (.bipush 8, 2) := by decide +kernel
theorem dX6_init_23 : decode cX6_init 23 = .ok (.newarray .int, 2) := by decide +kernel
theorem dX6_init_25 : decode cX6_init 25 = .ok (.putfield 18, 3) := by decide +kernel
theorem dX6_init_28 : decode cX6_init 28 = .ok (.aload_n 0, 1) := by decide +kernel
theorem dX6_init_29 : decode cX6_init 29 = .ok (.bipush 8, 2) := by decide +kernel
theorem dX6_init_31 : decode cX6_init 31 = .ok (.newarray .boolean, 2) := by decide +kernel
theorem dX6_init_33 : decode cX6_init 33 = .ok (.putfield 21, 3) := by decide +kernel
theorem dX6_init_36 : decode cX6_init 36 = .ok (.return_, 1) := by decide +kernel
theorem dX6_add_0 : decode cX6_add 0 = .ok (.aload_n 0, 1) := by decide +kernel
theorem dX6_add_1 : decode cX6_add 1 = .ok (.getfield 25, 3) := by decide +kernel
theorem dX6_add_4 : decode cX6_add 4 = .ok (.bipush 8, 2) := by decide +kernel
theorem dX6_add_6 : decode cX6_add 6 = .ok (.if_icmp .ge 54, 3) := by decide +kernel
theorem dX6_add_9 : decode cX6_add 9 = .ok (.aload_n 0, 1) := by decide +kernel
theorem dX6_add_10 : decode cX6_add 10 = .ok (.getfield 9, 3) := by decide +kernel
theorem dX6_add_13 : decode cX6_add 13 = .ok (.aload_n 0, 1) := by decide +kernel
theorem dX6_add_14 : decode cX6_add 14 = .ok (.getfield 25, 3) := by decide +kernel
theorem dX6_add_17 : decode cX6_add 17 = .ok (.iload_n 1, 1) := by decide +kernel
theorem dX6_add_18 : decode cX6_add 18 = .ok (.iastore, 1) := by decide +kernel
theorem dX6_add_19 : decode cX6_add 19 = .ok (.aload_n 0, 1) := by decide +kernel
theorem dX6_add_20 : decode cX6_add 20 = .ok (.getfield 15, 3) := by decide +kernel
theorem dX6_add_23 : decode cX6_add 23 = .ok (.aload_n 0, 1) := by decide +kernel
theorem dX6_add_24 : decode cX6_add 24 = .ok (.getfield 25, 3) := by decide +kernel
theorem dX6_add_27 : decode cX6_add 27 = .ok (.iload_n 2, 1) := by decide +kernel
theorem dX6_add_28 : decode cX6_add 28 = .ok (.iastore, 1) := by decide +kernel
theorem dX6_add_29 : decode cX6_add 29 = .ok (.aload_n 0, 1) := by decide +kernel
theorem dX6_add_30 : decode cX6_add 30 = .ok (.getfield 18, 3) := by decide +kernel
theorem dX6_add_33 : decode cX6_add 33 = .ok (.aload_n 0, 1) := by decide +kernel
theorem dX6_add_34 : decode cX6_add 34 = .ok (.getfield 25, 3) := by decide +kernel
theorem dX6_add_37 : decode cX6_add 37 = .ok (.iload_n 3, 1) := by decide +kernel
theorem dX6_add_38 : decode cX6_add 38 = .ok (.iastore, 1) := by decide +kernel
theorem dX6_add_39 : decode cX6_add 39 = .ok (.aload_n 0, 1) := by decide +kernel
theorem dX6_add_40 : decode cX6_add 40 = .ok (.getfield 21, 3) := by decide +kernel
theorem dX6_add_43 : decode cX6_add 43 = .ok (.aload_n 0, 1) := by decide +kernel
theorem dX6_add_44 : decode cX6_add 44 = .ok (.getfield 25, 3) := by decide +kernel
theorem dX6_add_47 : decode cX6_add 47 = .ok (.iload 4, 2) := by decide +kernel
theorem dX6_add_49 : decode cX6_add 49 = .ok (.bastore, 1) := by decide +kernel
theorem dX6_add_50 : decode cX6_add 50 = .ok (.aload_n 0, 1) := by decide +kernel
theorem dX6_add_51 : decode cX6_add 51 = .ok (.dup, 1) := by decide +kernel
theorem dX6_add_52 : decode cX6_add 52 = .ok (.getfield 25, 3) := by decide +kernel
theorem dX6_add_55 : decode cX6_add 55 = .ok (.iconst 1, 1) := by decide +kernel
theorem dX6_add_56 : decode cX6_add 56 = .ok (.iadd, 1) := by decide +kernel
theorem dX6_add_57 : decode cX6_add 57 = .ok (.putfield 25, 3) := by decide +kernel
theorem dX6_add_60 : decode cX6_add 60 = .ok (.return_, 1) := by decide +kernel
theorem dX6_copyFrom_0 : decode cX6_copyFrom 0 = .ok (.aload_n 0, 1) := by decide +kernel
theorem dX6_copyFrom_1 : decode cX6_copyFrom 1 = .ok (.aload_n 1, 1) := by decide +kernel
theorem dX6_copyFrom_2 : decode cX6_copyFrom 2 = .ok (.getfield 25, 3) := by decide +kernel
theorem dX6_copyFrom_5 : decode cX6_copyFrom 5 = .ok (.putfield 25, 3) := by decide +kernel
theorem dX6_copyFrom_8 : decode cX6_copyFrom 8 = .ok (.iconst 0, 1) := by decide +kernel
theorem dX6_copyFrom_9 : decode cX6_copyFrom 9 = .ok (.istore_n 2, 1) := by decide +kernel
theorem dX6_copyFrom_10 : decode cX6_copyFrom 10 = .ok (.iload_n 2, 1) := by decide +kernel
theorem dX6_copyFrom_11 : decode cX6_copyFrom 11 = .ok (.aload_n 0, 1) := by decide +kernel
theorem dX6_copyFrom_12 : decode cX6_copyFrom 12 = .ok (.getfield 25, 3) := by decide +kernel
theorem dX6_copyFrom_15 : decode cX6_copyFrom 15 = .ok (.if_icmp .ge 57, 3) := by decide +kernel
theorem dX6_copyFrom_18 : decode cX6_copyFrom 18 = .ok (.aload_n 0, 1) := by decide +kernel
theorem dX6_copyFrom_19 : decode cX6_copyFrom 19 = .ok (.getfield 9, 3) := by decide +kernel
theorem dX6_copyFrom_22 : decode cX6_copyFrom 22 = .ok (.iload_n 2, 1) := by decide +kernel
theorem dX6_copyFrom_23 : decode cX6_copyFrom 23 = .ok (.aload_n 1, 1) := by decide +kernel
theorem dX6_copyFrom_24 : decode cX6_copyFrom 24 = .ok (.getfield 9, 3) := by decide +kernel
theorem dX6_copyFrom_27 : decode cX6_copyFrom 27 = .ok (.iload_n 2, 1) := by decide +kernel
theorem dX6_copyFrom_28 : decode cX6_copyFrom 28 = .ok (.iaload, 1) := by decide +kernel
theorem dX6_copyFrom_29 : decode cX6_copyFrom 29 = .ok (.iastore, 1) := by decide +kernel
theorem dX6_copyFrom_30 : decode cX6_copyFrom 30 = .ok (.aload_n 0, 1) := by decide +kernel
theorem dX6_copyFrom_31 : decode cX6_copyFrom 31 = .ok (.getfield 15, 3) := by decide +kernel
theorem dX6_copyFrom_34 : decode cX6_copyFrom 34 = .ok (.iload_n 2, 1) := by decide +kernel
theorem dX6_copyFrom_35 : decode cX6_copyFrom 35 = .ok (.aload_n 1, 1) := by decide +kernel
theorem dX6_copyFrom_36 : decode cX6_copyFrom 36 = .ok (.getfield 15, 3) := by decide +kernel
theorem dX6_copyFrom_39 : decode cX6_copyFrom 39 = .ok (.iload_n 2, 1) := by decide +kernel
theorem dX6_copyFrom_40 : decode cX6_copyFrom 40 = .ok (.iaload, 1) := by decide +kernel
theorem dX6_copyFrom_41 : decode cX6_copyFrom 41 = .ok (.iastore, 1) := by decide +kernel
theorem dX6_copyFrom_42 : decode cX6_copyFrom 42 = .ok (.aload_n 0, 1) := by decide +kernel
theorem dX6_copyFrom_43 : decode cX6_copyFrom 43 = .ok (.getfield 18, 3) := by decide +kernel
theorem dX6_copyFrom_46 : decode cX6_copyFrom 46 = .ok (.iload_n 2, 1) := by decide +kernel
theorem dX6_copyFrom_47 : decode cX6_copyFrom 47 = .ok (.aload_n 1, 1) := by decide +kernel
theorem dX6_copyFrom_48 : decode cX6_copyFrom 48 = .ok (.getfield 18, 3) := by decide +kernel
theorem dX6_copyFrom_51 : decode cX6_copyFrom 51 = .ok (.iload_n 2, 1) := by decide +kernel
theorem dX6_copyFrom_52 : decode cX6_copyFrom 52 = .ok (.iaload, 1) := by decide +kernel
theorem dX6_copyFrom_53 : decode cX6_copyFrom 53 = .ok (.iastore, 1) := by decide +kernel
theorem dX6_copyFrom_54 : decode cX6_copyFrom 54 = .ok (.aload_n 0, 1) := by decide +kernel
theorem dX6_copyFrom_55 : decode cX6_copyFrom 55 = .ok (.getfield 21, 3) := by decide +kernel
theorem dX6_copyFrom_58 : decode cX6_copyFrom 58 = .ok (.iload_n 2, 1) := by decide +kernel
theorem dX6_copyFrom_59 : decode cX6_copyFrom 59 = .ok (.aload_n 1, 1) := by decide +kernel
theorem dX6_copyFrom_60 : decode cX6_copyFrom 60 = .ok (.getfield 21, 3) := by decide +kernel
theorem dX6_copyFrom_63 : decode cX6_copyFrom 63 = .ok (.iload_n 2, 1) := by decide +kernel
theorem dX6_copyFrom_64 : decode cX6_copyFrom 64 = .ok (.baload, 1) := by decide +kernel
theorem dX6_copyFrom_65 : decode cX6_copyFrom 65 = .ok (.bastore, 1) := by decide +kernel
theorem dX6_copyFrom_66 : decode cX6_copyFrom 66 = .ok (.iinc 2 1, 3) := by decide +kernel
theorem dX6_copyFrom_69 : decode cX6_copyFrom 69 = .ok (.goto (-59), 3) := by decide +kernel
theorem dX6_copyFrom_72 : decode cX6_copyFrom 72 = .ok (.return_, 1) := by decide +kernel
theorem dX6_holdFor_0 : decode cX6_holdFor 0 = .ok (.aload_n 0, 1) := by decide +kernel
theorem dX6_holdFor_1 : decode cX6_holdFor 1 = .ok (.invokevirtual 29, 3) := by decide +kernel
theorem dX6_holdFor_4 : decode cX6_holdFor 4 = .ok (.istore_n 2, 1) := by decide +kernel
theorem dX6_holdFor_5 : decode cX6_holdFor 5 = .ok (.iconst 0, 1) := by decide +kernel
theorem dX6_holdFor_6 : decode cX6_holdFor 6 = .ok (.istore_n 3, 1) := by decide +kernel
theorem dX6_holdFor_7 : decode cX6_holdFor 7 = .ok (.iload_n 3, 1) := by decide +kernel
theorem dX6_holdFor_8 : decode cX6_holdFor 8 = .ok (.iload_n 2, 1) := by decide +kernel
theorem dX6_holdFor_9 : decode cX6_holdFor 9 = .ok (.if_icmp .gt 29, 3) := by decide +kernel
theorem dX6_holdFor_12 : decode cX6_holdFor 12 = .ok (.aload_n 0, 1) := by decide +kernel
theorem dX6_holdFor_13 : decode cX6_holdFor 13 = .ok (.iload_n 3, 1) := by decide +kernel
theorem dX6_holdFor_14 : decode cX6_holdFor 14 = .ok (.aload_n 1, 1) := by decide +kernel
theorem dX6_holdFor_15 : decode cX6_holdFor 15 = .ok (.invokevirtual 33, 3) := by decide +kernel
theorem dX6_holdFor_18 : decode cX6_holdFor 18 = .ok (.ifCond .ne 5, 3) := by decide +kernel
theorem dX6_holdFor_21 : decode cX6_holdFor 21 = .ok (.iconst 0, 1) := by decide +kernel
theorem dX6_holdFor_22 : decode cX6_holdFor 22 = .ok (.ireturn, 1) := by decide +kernel
theorem dX6_holdFor_23 : decode cX6_holdFor 23 = .ok (.iload_n 3, 1) := by decide +kernel
theorem dX6_holdFor_24 : decode cX6_holdFor 24 = .ok (.iload_n 2, 1) := by decide +kernel
theorem dX6_holdFor_25 : decode cX6_holdFor 25 = .ok (.if_icmp .ge 7, 3) := by decide +kernel
theorem dX6_holdFor_28 : decode cX6_holdFor 28 = .ok (.aload_n 1, 1) := by decide +kernel
theorem dX6_holdFor_29 : decode cX6_holdFor 29 = .ok (.invokevirtual 37, 3) := by decide +kernel
theorem dX6_holdFor_32 : decode cX6_holdFor 32 = .ok (.iinc 3 1, 3) := by decide +kernel
theorem dX6_holdFor_35 : decode cX6_holdFor 35 = .ok (.goto (-28), 3) := by decide +kernel
theorem dX6_holdFor_38 : decode cX6_holdFor 38 = .ok (.iconst 1, 1) := by decide +kernel
theorem dX6_holdFor_39 : decode cX6_holdFor 39 = .ok (.ireturn, 1) := by decide +kernel
theorem dX6_lastStep_0 : decode cX6_lastStep 0 = .ok (.iconst (-1), 1) := by decide +kernel
theorem dX6_lastStep_1 : decode cX6_lastStep 1 = .ok (.istore_n 1, 1) := by decide +kernel
theorem dX6_lastStep_2 : decode cX6_lastStep 2 = .ok (.iconst 0, 1) := by decide +kernel
theorem dX6_lastStep_3 : decode cX6_lastStep 3 = .ok (.istore_n 2, 1) := by decide +kernel
theorem dX6_lastStep_4 : decode cX6_lastStep 4 = .ok (.iload_n 2, 1) := by decide +kernel
theorem dX6_lastStep_5 : decode cX6_lastStep 5 = .ok (.aload_n 0, 1) := by decide +kernel
theorem dX6_lastStep_6 : decode cX6_lastStep 6 = .ok (.getfield 25, 3) := by decide +kernel
theorem dX6_lastStep_9 : decode cX6_lastStep 9 = .ok (.if_icmp .ge 20, 3) := by decide +kernel
theorem dX6_lastStep_12 : decode cX6_lastStep 12 = .ok (.iload_n 1, 1) := by decide +kernel
theorem dX6_lastStep_13 : decode cX6_lastStep 13 = .ok (.aload_n 0, 1) := by decide +kernel
theorem dX6_lastStep_14 : decode cX6_lastStep 14 = .ok (.getfield 9, 3) := by decide +kernel
theorem dX6_lastStep_17 : decode cX6_lastStep 17 = .ok (.iload_n 2, 1) := by decide +kernel
theorem dX6_lastStep_18 : decode cX6_lastStep 18 = .ok (.iaload, 1) := by decide +kernel
theorem dX6_lastStep_19 : decode cX6_lastStep 19 = .ok (.invokestatic 42, 3) := by decide +kernel
theorem dX6_lastStep_22 : decode cX6_lastStep 22 = .ok (.istore_n 1, 1) := by decide +kernel
theorem dX6_lastStep_23 : decode cX6_lastStep 23 = .ok (.iinc 2 1, 3) := by decide +kernel
theorem dX6_lastStep_26 : decode cX6_lastStep 26 = .ok (.goto (-22), 3) := by decide +kernel
theorem dX6_lastStep_29 : decode cX6_lastStep 29 = .ok (.iload_n 1, 1) := by decide +kernel
theorem dX6_lastStep_30 : decode cX6_lastStep 30 = .ok (.ireturn, 1) := by decide +kernel
theorem dX6_holdAt_0 : decode cX6_holdAt 0 = .ok (.iconst 0, 1) := by decide +kernel
theorem dX6_holdAt_1 : decode cX6_holdAt 1 = .ok (.istore_n 3, 1) := by decide +kernel
theorem dX6_holdAt_2 : decode cX6_holdAt 2 = .ok (.iload_n 3, 1) := by decide +kernel
theorem dX6_holdAt_3 : decode cX6_holdAt 3 = .ok (.aload_n 0, 1) := by decide +kernel
theorem dX6_holdAt_4 : decode cX6_holdAt 4 = .ok (.getfield 25, 3) := by decide +kernel
theorem dX6_holdAt_7 : decode cX6_holdAt 7 = .ok (.if_icmp .ge 58, 3) := by decide +kernel
theorem dX6_holdAt_10 : decode cX6_holdAt 10 = .ok (.aload_n 0, 1) := by decide +kernel
theorem dX6_holdAt_11 : decode cX6_holdAt 11 = .ok (.getfield 9, 3) := by decide +kernel
theorem dX6_holdAt_14 : decode cX6_holdAt 14 = .ok (.iload_n 3, 1) := by decide +kernel
theorem dX6_holdAt_15 : decode cX6_holdAt 15 = .ok (.iaload, 1) := by decide +kernel
theorem dX6_holdAt_16 : decode cX6_holdAt 16 = .ok (.iload_n 1, 1) := by decide +kernel
theorem dX6_holdAt_17 : decode cX6_holdAt 17 = .ok (.if_icmp .ne 42, 3) := by decide +kernel
theorem dX6_holdAt_20 : decode cX6_holdAt 20 = .ok (.aload_n 2, 1) := by decide +kernel
theorem dX6_holdAt_21 : decode cX6_holdAt 21 = .ok (.getfield 48, 3) := by decide +kernel
theorem dX6_holdAt_24 : decode cX6_holdAt 24 = .ok (.aload_n 0, 1) := by decide +kernel
theorem dX6_holdAt_25 : decode cX6_holdAt 25 = .ok (.getfield 15, 3) := by decide +kernel
theorem dX6_holdAt_28 : decode cX6_holdAt 28 = .ok (.iload_n 3, 1) := by decide +kernel
theorem dX6_holdAt_29 : decode cX6_holdAt 29 = .ok (.iaload, 1) := by decide +kernel
theorem dX6_holdAt_30 : decode cX6_holdAt 30 = .ok (.aaload, 1) := by decide +kernel
theorem dX6_holdAt_31 : decode cX6_holdAt 31 = .ok (.getfield 51, 3) := by decide +kernel
theorem dX6_holdAt_34 : decode cX6_holdAt 34 = .ok (.aload_n 0, 1) := by decide +kernel
theorem dX6_holdAt_35 : decode cX6_holdAt 35 = .ok (.getfield 18, 3) := by decide +kernel
theorem dX6_holdAt_38 : decode cX6_holdAt 38 = .ok (.iload_n 3, 1) := by decide +kernel
theorem dX6_holdAt_39 : decode cX6_holdAt 39 = .ok (.iaload, 1) := by decide +kernel
theorem dX6_holdAt_40 : decode cX6_holdAt 40 = .ok (.if_icmp .ne 7, 3) := by decide +kernel
theorem dX6_holdAt_43 : decode cX6_holdAt 43 = .ok (.iconst 1, 1) := by decide +kernel
theorem dX6_holdAt_44 : decode cX6_holdAt 44 = .ok (.goto 4, 3) := by decide +kernel
theorem dX6_holdAt_47 : decode cX6_holdAt 47 = .ok (.iconst 0, 1) := by decide +kernel
theorem dX6_holdAt_48 : decode cX6_holdAt 48 = .ok (.aload_n 0, 1) := by decide +kernel
theorem dX6_holdAt_49 : decode cX6_holdAt 49 = .ok (.getfield 21, 3) := by decide +kernel
theorem dX6_holdAt_52 : decode cX6_holdAt 52 = .ok (.iload_n 3, 1) := by decide +kernel
theorem dX6_holdAt_53 : decode cX6_holdAt 53 = .ok (.baload, 1) := by decide +kernel
theorem dX6_holdAt_54 : decode cX6_holdAt 54 = .ok (.if_icmp .eq 5, 3) := by decide +kernel
theorem dX6_holdAt_57 : decode cX6_holdAt 57 = .ok (.iconst 0, 1) := by decide +kernel
theorem dX6_holdAt_58 : decode cX6_holdAt 58 = .ok (.ireturn, 1) := by decide +kernel
theorem dX6_holdAt_59 : decode cX6_holdAt 59 = .ok (.iinc 3 1, 3) := by decide +kernel
theorem dX6_holdAt_62 : decode cX6_holdAt 62 = .ok (.goto (-60), 3) := by decide +kernel
theorem dX6_holdAt_65 : decode cX6_holdAt 65 = .ok (.iconst 1, 1) := by decide +kernel
theorem dX6_holdAt_66 : decode cX6_holdAt 66 = .ok (.ireturn, 1) := by decide +kernel
theorem dX7_init_0 : decode cX7_init 0 = .ok (.aload_n 0, 1) := by decide +kernel
theorem dX7_init_1 : decode cX7_init 1 = .ok (.invokespecial 3, 3) := by decide +kernel
theorem dX7_init_4 : decode cX7_init 4 = .ok (.aload_n 0, 1) := by decide +kernel
theorem dX7_init_5 : decode cX7_init 5 = .ok (.sipush 320, 3) := by decide +kernel
theorem dX7_init_8 : decode cX7_init 8 = .ok (.newarray .byte, 2) := by decide +kernel
theorem dX7_init_10 : decode cX7_init 10 = .ok (.putfield 9, 3) := by decide +kernel
theorem dX7_init_13 : decode cX7_init 13 = .ok (.return_, 1) := by decide +kernel
theorem dX7_append_0 : decode cX7_append 0 = .ok (.bipush 56, 2) := by decide +kernel
theorem dX7_append_2 : decode cX7_append 2 = .ok (.istore_n 3, 1) := by decide +kernel
theorem dX7_append_3 : decode cX7_append 3 = .ok (.iload_n 3, 1) := by decide +kernel
theorem dX7_append_4 : decode cX7_append 4 = .ok (.ifCond .lt 43, 3) := by decide +kernel
theorem dX7_append_7 : decode cX7_append 7 = .ok (.aload_n 0, 1) := by decide +kernel
theorem dX7_append_8 : decode cX7_append 8 = .ok (.getfield 15, 3) := by decide +kernel
theorem dX7_append_11 : decode cX7_append 11 = .ok (.sipush 320, 3) := by decide +kernel
theorem dX7_append_14 : decode cX7_append 14 = .ok (.if_icmp .ge 33, 3) := by decide +kernel
theorem dX7_append_17 : decode cX7_append 17 = .ok (.aload_n 0, 1) := by decide +kernel
theorem dX7_append_18 : decode cX7_append 18 = .ok (.getfield 9, 3) := by decide +kernel
theorem dX7_append_21 : decode cX7_append 21 = .ok (.aload_n 0, 1) := by decide +kernel
theorem dX7_append_22 : decode cX7_append 22 = .ok (.getfield 15, 3) := by decide +kernel
theorem dX7_append_25 : decode cX7_append 25 = .ok (.lload_n 1, 1) := by decide +kernel
theorem dX7_append_26 : decode cX7_append 26 = .ok (.iload_n 3, 1) := by decide +kernel
theorem dX7_append_27 : decode cX7_append 27 = .ok (.lushr, 1) := by decide +kernel
theorem dX7_append_28 : decode cX7_append 28 = .ok (.l2i, 1) := by decide +kernel
theorem dX7_append_29 : decode cX7_append 29 = .ok (.i2b, 1) := by decide +kernel
theorem dX7_append_30 : decode cX7_append 30 = .ok (.bastore, 1) := by decide +kernel
theorem dX7_append_31 : decode cX7_append 31 = .ok (.aload_n 0, 1) := by decide +kernel
theorem dX7_append_32 : decode cX7_append 32 = .ok (.dup, 1) := by decide +kernel
theorem dX7_append_33 : decode cX7_append 33 = .ok (.getfield 15, 3) := by decide +kernel
theorem dX7_append_36 : decode cX7_append 36 = .ok (.iconst 1, 1) := by decide +kernel
theorem dX7_append_37 : decode cX7_append 37 = .ok (.iadd, 1) := by decide +kernel
theorem dX7_append_38 : decode cX7_append 38 = .ok (.putfield 15, 3) := by decide +kernel
theorem dX7_append_41 : decode cX7_append 41 = .ok (.iinc 3 (-8), 3) := by decide +kernel
theorem dX7_append_44 : decode cX7_append 44 = .ok (.goto (-41), 3) := by decide +kernel
theorem dX7_append_47 : decode cX7_append 47 = .ok (.return_, 1) := by decide +kernel
theorem dX8_init_0 : decode cX8_init 0 = .ok (.aload_n 0, 1) := by decide +kernel
theorem dX8_init_1 : decode cX8_init 1 = .ok (.invokespecial 3, 3) := by decide +kernel
theorem dX8_init_4 : decode cX8_init 4 = .ok (.aload_n 0, 1) := by decide +kernel
theorem dX8_init_5 : decode cX8_init 5 = .ok (.new 9, 3) := by decide +kernel
theorem dX8_init_8 : decode cX8_init 8 = .ok (.dup, 1) := by decide +kernel
theorem dX8_init_9 : decode cX8_init 9 = .ok (.invokespecial 11, 3) := by decide +kernel
theorem dX8_init_12 : decode cX8_init 12 = .ok (.putfield 12, 3) := by decide +kernel
theorem dX8_init_15 : decode cX8_init 15 = .ok (.aload_n 0, 1) := by decide +kernel
theorem dX8_init_16 : decode cX8_init 16 = .ok (.new 18, 3) := by decide +kernel
theorem dX8_init_19 : decode cX8_init 19 = .ok (.dup, 1) := by decide +kernel
theorem dX8_init_20 : decode cX8_init 20 = .ok (.invokespecial 20, 3) := by decide +kernel
theorem dX8_init_23 : decode cX8_init 23 = .ok (.putfield 21, 3) := by decide +kernel
theorem dX8_init_26 : decode cX8_init 26 = .ok (.return_, 1) := by decide +kernel
theorem dX8_tellAll_0 : decode cX8_tellAll 0 = .ok (.aload_n 0, 1) := by decide +kernel
theorem dX8_tellAll_1 : decode cX8_tellAll 1 = .ok (.getfield 21, 3) := by decide +kernel
theorem dX8_tellAll_4 : decode cX8_tellAll 4 = .ok (.invokevirtual 25, 3) := by decide +kernel
theorem dX8_tellAll_7 : decode cX8_tellAll 7 = .ok (.aload_n 0, 1) := by decide +kernel
theorem dX8_tellAll_8 : decode cX8_tellAll 8 = .ok (.iconst 0, 1) := by decide +kernel
theorem dX8_tellAll_9 : decode cX8_tellAll 9 = .ok (.putfield 28, 3) := by decide +kernel
theorem dX8_tellAll_12 : decode cX8_tellAll 12 = .ok (.aload_n 0, 1) := by decide +kernel
theorem dX8_tellAll_13 : decode cX8_tellAll 13 = .ok (.iconst 0, 1) := by decide +kernel
theorem dX8_tellAll_14 : decode cX8_tellAll 14 = .ok (.putfield 32, 3) := by decide +kernel
theorem dX8_tellAll_17 : decode cX8_tellAll 17 = .ok (.aload_n 0, 1) := by decide +kernel
theorem dX8_tellAll_18 : decode cX8_tellAll 18 = .ok (.iconst 0, 1) := by decide +kernel
theorem dX8_tellAll_19 : decode cX8_tellAll 19 = .ok (.putfield 35, 3) := by decide +kernel
theorem dX8_tellAll_22 : decode cX8_tellAll 22 = .ok (.aload_n 0, 1) := by decide +kernel
theorem dX8_tellAll_23 : decode cX8_tellAll 23 = .ok (.iconst 0, 1) := by decide +kernel
theorem dX8_tellAll_24 : decode cX8_tellAll 24 = .ok (.putfield 39, 3) := by decide +kernel
theorem dX8_tellAll_27 : decode cX8_tellAll 27 = .ok (.aload_n 0, 1) := by decide +kernel
theorem dX8_tellAll_28 : decode cX8_tellAll 28 = .ok (.iconst 0, 1) := by decide +kernel
theorem dX8_tellAll_29 : decode cX8_tellAll 29 = .ok (.putfield 42, 3) := by decide +kernel
theorem dX8_tellAll_32 : decode cX8_tellAll 32 = .ok (.iconst 0, 1) := by decide +kernel
theorem dX8_tellAll_33 : decode cX8_tellAll 33 = .ok (.istore_n 1, 1) := by decide +kernel
theorem dX8_tellAll_34 : decode cX8_tellAll 34 = .ok (.iload_n 1, 1) := by decide +kernel
theorem dX8_tellAll_35 : decode cX8_tellAll 35 = .ok (.sipush 320, 3) := by decide +kernel
theorem dX8_tellAll_38 : decode cX8_tellAll 38 = .ok (.if_icmp .ge 30, 3) := by decide +kernel
theorem dX8_tellAll_41 : decode cX8_tellAll 41 = .ok (.aload_n 0, 1) := by decide +kernel
theorem dX8_tellAll_42 : decode cX8_tellAll 42 = .ok (.invokevirtual 45, 3) := by decide +kernel
theorem dX8_tellAll_45 : decode cX8_tellAll 45 = .ok (.ifCond .eq 23, 3) := by decide +kernel
theorem dX8_tellAll_48 : decode cX8_tellAll 48 = .ok (.aload_n 0, 1) := by decide +kernel
theorem dX8_tellAll_49 : decode cX8_tellAll 49 = .ok (.getfield 49, 3) := by decide +kernel
theorem dX8_tellAll_52 : decode cX8_tellAll 52 = .ok (.ifCond .eq 16, 3) := by decide +kernel
theorem dX8_tellAll_55 : decode cX8_tellAll 55 = .ok (.aload_n 0, 1) := by decide +kernel
theorem dX8_tellAll_56 : decode cX8_tellAll 56 = .ok (.invokevirtual 52, 3) := by decide +kernel
theorem dX8_tellAll_59 : decode cX8_tellAll 59 = .ok (.ifCond .eq 9, 3) := by decide +kernel
theorem dX8_tellAll_62 : decode cX8_tellAll 62 = .ok (.iinc 1 1, 3) := by decide +kernel
theorem dX8_tellAll_65 : decode cX8_tellAll 65 = .ok (.goto (-31), 3) := by decide +kernel
theorem dX8_tellAll_68 : decode cX8_tellAll 68 = .ok (.aload_n 0, 1) := by decide +kernel
theorem dX8_tellAll_69 : decode cX8_tellAll 69 = .ok (.getfield 28, 3) := by decide +kernel
theorem dX8_tellAll_72 : decode cX8_tellAll 72 = .ok (.ifCond .ne 27, 3) := by decide +kernel
theorem dX8_tellAll_75 : decode cX8_tellAll 75 = .ok (.aload_n 0, 1) := by decide +kernel
theorem dX8_tellAll_76 : decode cX8_tellAll 76 = .ok (.getfield 21, 3) := by decide +kernel
theorem dX8_tellAll_79 : decode cX8_tellAll 79 = .ok (.invokevirtual 55, 3) := by decide +kernel
theorem dX8_tellAll_82 : decode cX8_tellAll 82 = .ok (.ifCond .ne 17, 3) := by decide +kernel
theorem dX8_tellAll_85 : decode cX8_tellAll 85 = .ok (.aload_n 0, 1) := by decide +kernel
theorem dX8_tellAll_86 : decode cX8_tellAll 86 = .ok (.bipush 6, 2) := by decide +kernel
theorem dX8_tellAll_88 : decode cX8_tellAll 88 = .ok (.aload_n 0, 1) := by decide +kernel
theorem dX8_tellAll_89 : decode cX8_tellAll 89 = .ok (.getfield 12, 3) := by decide +kernel
theorem dX8_tellAll_92 : decode cX8_tellAll 92 = .ok (.getfield 58, 3) := by decide +kernel
theorem dX8_tellAll_95 : decode cX8_tellAll 95 = .ok (.invokevirtual 61, 3) := by decide +kernel
theorem dX8_tellAll_98 : decode cX8_tellAll 98 = .ok (.pop, 1) := by decide +kernel
theorem dX8_tellAll_99 : decode cX8_tellAll 99 = .ok (.iload_n 1, 1) := by decide +kernel
theorem dX8_tellAll_100 : decode cX8_tellAll 100 = .ok (.ireturn, 1) := by decide +kernel
theorem dX8_refuse_0 : decode cX8_refuse 0 = .ok (.aload_n 0, 1) := by decide +kernel
theorem dX8_refuse_1 : decode cX8_refuse 1 = .ok (.iload_n 1, 1) := by decide +kernel
theorem dX8_refuse_2 : decode cX8_refuse 2 = .ok (.putfield 28, 3) := by decide +kernel
theorem dX8_refuse_5 : decode cX8_refuse 5 = .ok (.aload_n 0, 1) := by decide +kernel
theorem dX8_refuse_6 : decode cX8_refuse 6 = .ok (.iload_n 2, 1) := by decide +kernel
theorem dX8_refuse_7 : decode cX8_refuse 7 = .ok (.putfield 32, 3) := by decide +kernel
theorem dX8_refuse_10 : decode cX8_refuse 10 = .ok (.iconst 0, 1) := by decide +kernel
theorem dX8_refuse_11 : decode cX8_refuse 11 = .ok (.ireturn, 1) := by decide +kernel
theorem dX8_takeLine_0 : decode cX8_takeLine 0 = .ok (.aload_n 0, 1) := by decide +kernel
theorem dX8_takeLine_1 : decode cX8_takeLine 1 = .ok (.ldc 65, 2) := by decide +kernel
theorem dX8_takeLine_3 : decode cX8_takeLine 3 = .ok (.invokevirtual 67, 3) := by decide +kernel
theorem dX8_takeLine_6 : decode cX8_takeLine 6 = .ok (.ifCond .eq 8, 3) := by decide +kernel
theorem dX8_takeLine_9 : decode cX8_takeLine 9 = .ok (.aload_n 0, 1) := by decide +kernel
theorem dX8_takeLine_10 : decode cX8_takeLine 10 = .ok (.invokevirtual 71, 3) := by decide +kernel
theorem dX8_takeLine_13 : decode cX8_takeLine 13 = .ok (.ireturn, 1) := by decide +kernel
theorem dX8_takeLine_14 : decode cX8_takeLine 14 = .ok (.aload_n 0, 1) := by decide +kernel
theorem dX8_takeLine_15 : decode cX8_takeLine 15 = .ok (.ldc 74, 2) := by decide +kernel
theorem dX8_takeLine_17 : decode cX8_takeLine 17 = .ok (.invokevirtual 67, 3) := by decide +kernel
theorem dX8_takeLine_20 : decode cX8_takeLine 20 = .ok (.ifCond .eq 8, 3) := by decide +kernel
theorem dX8_takeLine_23 : decode cX8_takeLine 23 = .ok (.aload_n 0, 1) := by decide +kernel
theorem dX8_takeLine_24 : decode cX8_takeLine 24 = .ok (.invokevirtual 76, 3) := by decide +kernel
theorem dX8_takeLine_27 : decode cX8_takeLine 27 = .ok (.ireturn, 1) := by decide +kernel
theorem dX8_takeLine_28 : decode cX8_takeLine 28 = .ok (.aload_n 0, 1) := by decide +kernel
theorem dX8_takeLine_29 : decode cX8_takeLine 29 = .ok (.ldc 79, 2) := by decide +kernel
theorem dX8_takeLine_31 : decode cX8_takeLine 31 = .ok (.invokevirtual 67, 3) := by decide +kernel
theorem dX8_takeLine_34 : decode cX8_takeLine 34 = .ok (.ifCond .eq 8, 3) := by decide +kernel
theorem dX8_takeLine_37 : decode cX8_takeLine 37 = .ok (.aload_n 0, 1) := by decide +kernel
theorem dX8_takeLine_38 : decode cX8_takeLine 38 = .ok (.invokevirtual 81, 3) := by decide +kernel
theorem dX8_takeLine_41 : decode cX8_takeLine 41 = .ok (.ireturn, 1) := by decide +kernel
theorem dX8_takeLine_42 : decode cX8_takeLine 42 = .ok (.aload_n 0, 1) := by decide +kernel
theorem dX8_takeLine_43 : decode cX8_takeLine 43 = .ok (.ldc 84, 2) := by decide +kernel
theorem dX8_takeLine_45 : decode cX8_takeLine 45 = .ok (.invokevirtual 67, 3) := by decide +kernel
theorem dX8_takeLine_48 : decode cX8_takeLine 48 = .ok (.ifCond .eq 8, 3) := by decide +kernel
theorem dX8_takeLine_51 : decode cX8_takeLine 51 = .ok (.aload_n 0, 1) := by decide +kernel
theorem dX8_takeLine_52 : decode cX8_takeLine 52 = .ok (.invokevirtual 86, 3) := by decide +kernel
theorem dX8_takeLine_55 : decode cX8_takeLine 55 = .ok (.ireturn, 1) := by decide +kernel
theorem dX8_takeLine_56 : decode cX8_takeLine 56 = .ok (.aload_n 0, 1) := by decide +kernel
theorem dX8_takeLine_57 : decode cX8_takeLine 57 = .ok (.ldc 89, 2) := by decide +kernel
theorem dX8_takeLine_59 : decode cX8_takeLine 59 = .ok (.invokevirtual 67, 3) := by decide +kernel
theorem dX8_takeLine_62 : decode cX8_takeLine 62 = .ok (.ifCond .eq 8, 3) := by decide +kernel
theorem dX8_takeLine_65 : decode cX8_takeLine 65 = .ok (.aload_n 0, 1) := by decide +kernel
theorem dX8_takeLine_66 : decode cX8_takeLine 66 = .ok (.invokevirtual 91, 3) := by decide +kernel
theorem dX8_takeLine_69 : decode cX8_takeLine 69 = .ok (.ireturn, 1) := by decide +kernel
theorem dX8_takeLine_70 : decode cX8_takeLine 70 = .ok (.aload_n 0, 1) := by decide +kernel
theorem dX8_takeLine_71 : decode cX8_takeLine 71 = .ok (.iconst 2, 1) := by decide +kernel
theorem dX8_takeLine_72 : decode cX8_takeLine 72 = .ok (.aload_n 0, 1) := by decide +kernel
theorem dX8_takeLine_73 : decode cX8_takeLine 73 = .ok (.getfield 94, 3) := by decide +kernel
theorem dX8_takeLine_76 : decode cX8_takeLine 76 = .ok (.invokevirtual 61, 3) := by decide +kernel
theorem dX8_takeLine_79 : decode cX8_takeLine 79 = .ok (.ireturn, 1) := by decide +kernel
theorem dX8_takePlaces_0 : decode cX8_takePlaces 0 = .ok (.aload_n 0, 1) := by decide +kernel
theorem dX8_takePlaces_1 : decode cX8_takePlaces 1 = .ok (.getfield 35, 3) := by decide +kernel
theorem dX8_takePlaces_4 : decode cX8_takePlaces 4 = .ok (.ifCond .eq 13, 3) := by decide +kernel
theorem dX8_takePlaces_7 : decode cX8_takePlaces 7 = .ok (.aload_n 0, 1) := by decide +kernel
theorem dX8_takePlaces_8 : decode cX8_takePlaces 8 = .ok (.iconst 4, 1) := by decide +kernel
theorem dX8_takePlaces_9 : decode cX8_takePlaces 9 = .ok (.aload_n 0, 1) := by decide +kernel
theorem dX8_takePlaces_10 : decode cX8_takePlaces 10 = .ok (.getfield 94, 3) := by decide +kernel
theorem dX8_takePlaces_13 : decode cX8_takePlaces 13 = .ok (.invokevirtual 61, 3) := by decide +kernel
theorem dX8_takePlaces_16 : decode cX8_takePlaces 16 = .ok (.ireturn, 1) := by decide +kernel
theorem dX8_takePlaces_17 : decode cX8_takePlaces 17 = .ok (.aload_n 0, 1) := by decide +kernel
theorem dX8_takePlaces_18 : decode cX8_takePlaces 18 = .ok (.iconst 1, 1) := by decide +kernel
theorem dX8_takePlaces_19 : decode cX8_takePlaces 19 = .ok (.putfield 35, 3) := by decide +kernel
theorem dX8_takePlaces_22 : decode cX8_takePlaces 22 = .ok (.aload_n 0, 1) := by decide +kernel
theorem dX8_takePlaces_23 : decode cX8_takePlaces 23 = .ok (.iconst 2, 1) := by decide +kernel
theorem dX8_takePlaces_24 : decode cX8_takePlaces 24 = .ok (.bipush 8, 2) := by decide +kernel
theorem dX8_takePlaces_26 : decode cX8_takePlaces 26 = .ok (.invokevirtual 97, 3) := by decide +kernel
theorem dX8_takePlaces_29 : decode cX8_takePlaces 29 = .ok (.ifCond .ne 5, 3) := by decide +kernel
theorem dX8_takePlaces_32 : decode cX8_takePlaces 32 = .ok (.iconst 0, 1) := by decide +kernel
theorem dX8_takePlaces_33 : decode cX8_takePlaces 33 = .ok (.ireturn, 1) := by decide +kernel
theorem dX8_takePlaces_34 : decode cX8_takePlaces 34 = .ok (.aload_n 0, 1) := by decide +kernel
theorem dX8_takePlaces_35 : decode cX8_takePlaces 35 = .ok (.getfield 21, 3) := by decide +kernel
theorem dX8_takePlaces_38 : decode cX8_takePlaces 38 = .ok (.aload_n 0, 1) := by decide +kernel
theorem dX8_takePlaces_39 : decode cX8_takePlaces 39 = .ok (.getfield 100, 3) := by decide +kernel
theorem dX8_takePlaces_42 : decode cX8_takePlaces 42 = .ok (.putfield 103, 3) := by decide +kernel
theorem dX8_takePlaces_45 : decode cX8_takePlaces 45 = .ok (.aload_n 0, 1) := by decide +kernel
theorem dX8_takePlaces_46 : decode cX8_takePlaces 46 = .ok (.invokevirtual 45, 3) := by decide +kernel
theorem dX8_takePlaces_49 : decode cX8_takePlaces 49 = .ok (.ifCond .eq 14, 3) := by decide +kernel
theorem dX8_takePlaces_52 : decode cX8_takePlaces 52 = .ok (.aload_n 0, 1) := by decide +kernel
theorem dX8_takePlaces_53 : decode cX8_takePlaces 53 = .ok (.invokevirtual 105, 3) := by decide +kernel
theorem dX8_takePlaces_56 : decode cX8_takePlaces 56 = .ok (.ifCond .eq 7, 3) := by decide +kernel
theorem dX8_takePlaces_59 : decode cX8_takePlaces 59 = .ok (.iconst 1, 1) := by decide +kernel
theorem dX8_takePlaces_60 : decode cX8_takePlaces 60 = .ok (.goto 4, 3) := by decide +kernel
theorem dX8_takePlaces_63 : decode cX8_takePlaces 63 = .ok (.iconst 0, 1) := by decide +kernel
theorem dX8_takePlaces_64 : decode cX8_takePlaces 64 = .ok (.ireturn, 1) := by decide +kernel
theorem dX8_takeHole_0 : decode cX8_takeHole 0 = .ok (.aload_n 0, 1) := by decide +kernel
theorem dX8_takeHole_1 : decode cX8_takeHole 1 = .ok (.iconst 0, 1) := by decide +kernel
theorem dX8_takeHole_2 : decode cX8_takeHole 2 = .ok (.bipush 7, 2) := by decide +kernel
theorem dX8_takeHole_4 : decode cX8_takeHole 4 = .ok (.invokevirtual 97, 3) := by decide +kernel
theorem dX8_takeHole_7 : decode cX8_takeHole 7 = .ok (.ifCond .ne 5, 3) := by decide +kernel
theorem dX8_takeHole_10 : decode cX8_takeHole 10 = .ok (.iconst 0, 1) := by decide +kernel
theorem dX8_takeHole_11 : decode cX8_takeHole 11 = .ok (.ireturn, 1) := by decide +kernel
theorem dX8_takeHole_12 : decode cX8_takeHole 12 = .ok (.aload_n 0, 1) := by decide +kernel
theorem dX8_takeHole_13 : decode cX8_takeHole 13 = .ok (.getfield 100, 3) := by decide +kernel
theorem dX8_takeHole_16 : decode cX8_takeHole 16 = .ok (.istore_n 1, 1) := by decide +kernel
theorem dX8_takeHole_17 : decode cX8_takeHole 17 = .ok (.aload_n 0, 1) := by decide +kernel
theorem dX8_takeHole_18 : decode cX8_takeHole 18 = .ok (.getfield 21, 3) := by decide +kernel
theorem dX8_takeHole_21 : decode cX8_takeHole 21 = .ok (.getfield 108, 3) := by decide +kernel
theorem dX8_takeHole_24 : decode cX8_takeHole 24 = .ok (.iload_n 1, 1) := by decide +kernel
theorem dX8_takeHole_25 : decode cX8_takeHole 25 = .ok (.iaload, 1) := by decide +kernel
theorem dX8_takeHole_26 : decode cX8_takeHole 26 = .ok (.ifCond .eq 13, 3) := by decide +kernel
theorem dX8_takeHole_29 : decode cX8_takeHole 29 = .ok (.aload_n 0, 1) := by decide +kernel
theorem dX8_takeHole_30 : decode cX8_takeHole 30 = .ok (.iconst 4, 1) := by decide +kernel
theorem dX8_takeHole_31 : decode cX8_takeHole 31 = .ok (.aload_n 0, 1) := by decide +kernel
theorem dX8_takeHole_32 : decode cX8_takeHole 32 = .ok (.getfield 94, 3) := by decide +kernel
theorem dX8_takeHole_35 : decode cX8_takeHole 35 = .ok (.invokevirtual 61, 3) := by decide +kernel
theorem dX8_takeHole_38 : decode cX8_takeHole 38 = .ok (.ireturn, 1) := by decide +kernel
theorem dX8_takeHole_39 : decode cX8_takeHole 39 = .ok (.aload_n 0, 1) := by decide +kernel
theorem dX8_takeHole_40 : decode cX8_takeHole 40 = .ok (.iconst 1, 1) := by decide +kernel
theorem dX8_takeHole_41 : decode cX8_takeHole 41 = .ok (.bipush 9, 2) := by decide +kernel
theorem dX8_takeHole_43 : decode cX8_takeHole 43 = .ok (.invokevirtual 97, 3) := by decide +kernel
theorem dX8_takeHole_46 : decode cX8_takeHole 46 = .ok (.ifCond .ne 5, 3) := by decide +kernel
theorem dX8_takeHole_49 : decode cX8_takeHole 49 = .ok (.iconst 0, 1) := by decide +kernel
theorem dX8_takeHole_50 : decode cX8_takeHole 50 = .ok (.ireturn, 1) := by decide +kernel
theorem dX8_takeHole_51 : decode cX8_takeHole 51 = .ok (.aload_n 0, 1) := by decide +kernel
theorem dX8_takeHole_52 : decode cX8_takeHole 52 = .ok (.getfield 21, 3) := by decide +kernel
theorem dX8_takeHole_55 : decode cX8_takeHole 55 = .ok (.getfield 108, 3) := by decide +kernel
theorem dX8_takeHole_58 : decode cX8_takeHole 58 = .ok (.iload_n 1, 1) := by decide +kernel
theorem dX8_takeHole_59 : decode cX8_takeHole 59 = .ok (.aload_n 0, 1) := by decide +kernel
theorem dX8_takeHole_60 : decode cX8_takeHole 60 = .ok (.getfield 100, 3) := by decide +kernel
theorem dX8_takeHole_63 : decode cX8_takeHole 63 = .ok (.iastore, 1) := by decide +kernel
theorem dX8_takeHole_64 : decode cX8_takeHole 64 = .ok (.aload_n 0, 1) := by decide +kernel
theorem dX8_takeHole_65 : decode cX8_takeHole 65 = .ok (.invokevirtual 45, 3) := by decide +kernel
theorem dX8_takeHole_68 : decode cX8_takeHole 68 = .ok (.ifCond .eq 14, 3) := by decide +kernel
theorem dX8_takeHole_71 : decode cX8_takeHole 71 = .ok (.aload_n 0, 1) := by decide +kernel
theorem dX8_takeHole_72 : decode cX8_takeHole 72 = .ok (.invokevirtual 105, 3) := by decide +kernel
theorem dX8_takeHole_75 : decode cX8_takeHole 75 = .ok (.ifCond .eq 7, 3) := by decide +kernel
theorem dX8_takeHole_78 : decode cX8_takeHole 78 = .ok (.iconst 1, 1) := by decide +kernel
theorem dX8_takeHole_79 : decode cX8_takeHole 79 = .ok (.goto 4, 3) := by decide +kernel
theorem dX8_takeHole_82 : decode cX8_takeHole 82 = .ok (.iconst 0, 1) := by decide +kernel
theorem dX8_takeHole_83 : decode cX8_takeHole 83 = .ok (.ireturn, 1) := by decide +kernel
theorem dX8_takeCoin_0 : decode cX8_takeCoin 0 = .ok (.aload_n 0, 1) := by decide +kernel
theorem dX8_takeCoin_1 : decode cX8_takeCoin 1 = .ok (.getfield 21, 3) := by decide +kernel
theorem dX8_takeCoin_4 : decode cX8_takeCoin 4 = .ok (.getfield 112, 3) := by decide +kernel
theorem dX8_takeCoin_7 : decode cX8_takeCoin 7 = .ok (.istore_n 1, 1) := by decide +kernel
theorem dX8_takeCoin_8 : decode cX8_takeCoin 8 = .ok (.iload_n 1, 1) := by decide +kernel
theorem dX8_takeCoin_9 : decode cX8_takeCoin 9 = .ok (.bipush 6, 2) := by decide +kernel
theorem dX8_takeCoin_11 : decode cX8_takeCoin 11 = .ok (.if_icmp .lt 13, 3) := by decide +kernel
theorem dX8_takeCoin_14 : decode cX8_takeCoin 14 = .ok (.aload_n 0, 1) := by decide +kernel
theorem dX8_takeCoin_15 : decode cX8_takeCoin 15 = .ok (.iconst 5, 1) := by decide +kernel
theorem dX8_takeCoin_16 : decode cX8_takeCoin 16 = .ok (.aload_n 0, 1) := by decide +kernel
theorem dX8_takeCoin_17 : decode cX8_takeCoin 17 = .ok (.getfield 94, 3) := by decide +kernel
theorem dX8_takeCoin_20 : decode cX8_takeCoin 20 = .ok (.invokevirtual 61, 3) := by decide +kernel
theorem dX8_takeCoin_23 : decode cX8_takeCoin 23 = .ok (.ireturn, 1) := by decide +kernel
theorem dX8_takeCoin_24 : decode cX8_takeCoin 24 = .ok (.aload_n 0, 1) := by decide +kernel
theorem dX8_takeCoin_25 : decode cX8_takeCoin 25 = .ok (.iconst 1, 1) := by decide +kernel
theorem dX8_takeCoin_26 : decode cX8_takeCoin 26 = .ok (.bipush 9, 2) := by decide +kernel
theorem dX8_takeCoin_28 : decode cX8_takeCoin 28 = .ok (.invokevirtual 97, 3) := by decide +kernel
theorem dX8_takeCoin_31 : decode cX8_takeCoin 31 = .ok (.ifCond .ne 5, 3) := by decide +kernel
theorem dX8_takeCoin_34 : decode cX8_takeCoin 34 = .ok (.iconst 0, 1) := by decide +kernel
theorem dX8_takeCoin_35 : decode cX8_takeCoin 35 = .ok (.ireturn, 1) := by decide +kernel
theorem dX8_takeCoin_36 : decode cX8_takeCoin 36 = .ok (.aload_n 0, 1) := by decide +kernel
theorem dX8_takeCoin_37 : decode cX8_takeCoin 37 = .ok (.getfield 100, 3) := by decide +kernel
theorem dX8_takeCoin_40 : decode cX8_takeCoin 40 = .ok (.istore_n 2, 1) := by decide +kernel
theorem dX8_takeCoin_41 : decode cX8_takeCoin 41 = .ok (.aload_n 0, 1) := by decide +kernel
theorem dX8_takeCoin_42 : decode cX8_takeCoin 42 = .ok (.iconst 0, 1) := by decide +kernel
theorem dX8_takeCoin_43 : decode cX8_takeCoin 43 = .ok (.bipush 7, 2) := by decide +kernel
theorem dX8_takeCoin_45 : decode cX8_takeCoin 45 = .ok (.invokevirtual 97, 3) := by decide +kernel
theorem dX8_takeCoin_48 : decode cX8_takeCoin 48 = .ok (.ifCond .ne 5, 3) := by decide +kernel
theorem dX8_takeCoin_51 : decode cX8_takeCoin 51 = .ok (.iconst 0, 1) := by decide +kernel
theorem dX8_takeCoin_52 : decode cX8_takeCoin 52 = .ok (.ireturn, 1) := by decide +kernel
theorem dX8_takeCoin_53 : decode cX8_takeCoin 53 = .ok (.aload_n 0, 1) := by decide +kernel
theorem dX8_takeCoin_54 : decode cX8_takeCoin 54 = .ok (.getfield 21, 3) := by decide +kernel
theorem dX8_takeCoin_57 : decode cX8_takeCoin 57 = .ok (.iload_n 2, 1) := by decide +kernel
theorem dX8_takeCoin_58 : decode cX8_takeCoin 58 = .ok (.aload_n 0, 1) := by decide +kernel
theorem dX8_takeCoin_59 : decode cX8_takeCoin 59 = .ok (.getfield 100, 3) := by decide +kernel
theorem dX8_takeCoin_62 : decode cX8_takeCoin 62 = .ok (.invokevirtual 115, 3) := by decide +kernel
theorem dX8_takeCoin_65 : decode cX8_takeCoin 65 = .ok (.aload_n 0, 1) := by decide +kernel
theorem dX8_takeCoin_66 : decode cX8_takeCoin 66 = .ok (.invokevirtual 45, 3) := by decide +kernel
theorem dX8_takeCoin_69 : decode cX8_takeCoin 69 = .ok (.ifCond .ne 5, 3) := by decide +kernel
theorem dX8_takeCoin_72 : decode cX8_takeCoin 72 = .ok (.iconst 0, 1) := by decide +kernel
theorem dX8_takeCoin_73 : decode cX8_takeCoin 73 = .ok (.ireturn, 1) := by decide +kernel
theorem dX8_takeCoin_74 : decode cX8_takeCoin 74 = .ok (.aload_n 0, 1) := by decide +kernel
theorem dX8_takeCoin_75 : decode cX8_takeCoin 75 = .ok (.ldc 119, 2) := by decide +kernel
theorem dX8_takeCoin_77 : decode cX8_takeCoin 77 = .ok (.invokevirtual 67, 3) := by decide +kernel
theorem dX8_takeCoin_80 : decode cX8_takeCoin 80 = .ok (.ifCond .ne 8, 3) := by decide +kernel
theorem dX8_takeCoin_83 : decode cX8_takeCoin 83 = .ok (.aload_n 0, 1) := by decide +kernel
theorem dX8_takeCoin_84 : decode cX8_takeCoin 84 = .ok (.invokevirtual 105, 3) := by decide +kernel
theorem dX8_takeCoin_87 : decode cX8_takeCoin 87 = .ok (.ireturn, 1) := by decide +kernel
theorem dX8_takeCoin_88 : decode cX8_takeCoin 88 = .ok (.aload_n 0, 1) := by decide +kernel
theorem dX8_takeCoin_89 : decode cX8_takeCoin 89 = .ok (.getfield 21, 3) := by decide +kernel
theorem dX8_takeCoin_92 : decode cX8_takeCoin 92 = .ok (.getfield 121, 3) := by decide +kernel
theorem dX8_takeCoin_95 : decode cX8_takeCoin 95 = .ok (.iload_n 1, 1) := by decide +kernel
theorem dX8_takeCoin_96 : decode cX8_takeCoin 96 = .ok (.aaload, 1) := by decide +kernel
theorem dX8_takeCoin_97 : decode cX8_takeCoin 97 = .ok (.iconst 1, 1) := by decide +kernel
theorem dX8_takeCoin_98 : decode cX8_takeCoin 98 = .ok (.putfield 125, 3) := by decide +kernel
theorem dX8_takeCoin_101 : decode cX8_takeCoin 101 = .ok (.aload_n 0, 1) := by decide +kernel
theorem dX8_takeCoin_102 : decode cX8_takeCoin 102 = .ok (.invokevirtual 45, 3) := by decide +kernel
theorem dX8_takeCoin_105 : decode cX8_takeCoin 105 = .ok (.ifCond .eq 14, 3) := by decide +kernel
theorem dX8_takeCoin_108 : decode cX8_takeCoin 108 = .ok (.aload_n 0, 1) := by decide +kernel
theorem dX8_takeCoin_109 : decode cX8_takeCoin 109 = .ok (.invokevirtual 105, 3) := by decide +kernel
theorem dX8_takeCoin_112 : decode cX8_takeCoin 112 = .ok (.ifCond .eq 7, 3) := by decide +kernel
theorem dX8_takeCoin_115 : decode cX8_takeCoin 115 = .ok (.iconst 1, 1) := by decide +kernel
theorem dX8_takeCoin_116 : decode cX8_takeCoin 116 = .ok (.goto 4, 3) := by decide +kernel
theorem dX8_takeCoin_119 : decode cX8_takeCoin 119 = .ok (.iconst 0, 1) := by decide +kernel
theorem dX8_takeCoin_120 : decode cX8_takeCoin 120 = .ok (.ireturn, 1) := by decide +kernel
theorem dX8_takeCrab_0 : decode cX8_takeCrab 0 = .ok (.aload_n 0, 1) := by decide +kernel
theorem dX8_takeCrab_1 : decode cX8_takeCrab 1 = .ok (.getfield 21, 3) := by decide +kernel
theorem dX8_takeCrab_4 : decode cX8_takeCrab 4 = .ok (.getfield 130, 3) := by decide +kernel
theorem dX8_takeCrab_7 : decode cX8_takeCrab 7 = .ok (.iconst 4, 1) := by decide +kernel
theorem dX8_takeCrab_8 : decode cX8_takeCrab 8 = .ok (.if_icmp .lt 13, 3) := by decide +kernel
theorem dX8_takeCrab_11 : decode cX8_takeCrab 11 = .ok (.aload_n 0, 1) := by decide +kernel
theorem dX8_takeCrab_12 : decode cX8_takeCrab 12 = .ok (.iconst 5, 1) := by decide +kernel
theorem dX8_takeCrab_13 : decode cX8_takeCrab 13 = .ok (.aload_n 0, 1) := by decide +kernel
theorem dX8_takeCrab_14 : decode cX8_takeCrab 14 = .ok (.getfield 94, 3) := by decide +kernel
theorem dX8_takeCrab_17 : decode cX8_takeCrab 17 = .ok (.invokevirtual 61, 3) := by decide +kernel
theorem dX8_takeCrab_20 : decode cX8_takeCrab 20 = .ok (.ireturn, 1) := by decide +kernel
theorem dX8_takeCrab_21 : decode cX8_takeCrab 21 = .ok (.aload_n 0, 1) := by decide +kernel
theorem dX8_takeCrab_22 : decode cX8_takeCrab 22 = .ok (.invokevirtual 45, 3) := by decide +kernel
theorem dX8_takeCrab_25 : decode cX8_takeCrab 25 = .ok (.ifCond .ne 5, 3) := by decide +kernel
theorem dX8_takeCrab_28 : decode cX8_takeCrab 28 = .ok (.iconst 0, 1) := by decide +kernel
theorem dX8_takeCrab_29 : decode cX8_takeCrab 29 = .ok (.ireturn, 1) := by decide +kernel
theorem dX8_takeCrab_30 : decode cX8_takeCrab 30 = .ok (.aload_n 0, 1) := by decide +kernel
theorem dX8_takeCrab_31 : decode cX8_takeCrab 31 = .ok (.ldc 133, 2) := by decide +kernel
theorem dX8_takeCrab_33 : decode cX8_takeCrab 33 = .ok (.invokevirtual 67, 3) := by decide +kernel
theorem dX8_takeCrab_36 : decode cX8_takeCrab 36 = .ok (.istore_n 1, 1) := by decide +kernel
theorem dX8_takeCrab_37 : decode cX8_takeCrab 37 = .ok (.iload_n 1, 1) := by decide +kernel
theorem dX8_takeCrab_38 : decode cX8_takeCrab 38 = .ok (.ifCond .ne 22, 3) := by decide +kernel
theorem dX8_takeCrab_41 : decode cX8_takeCrab 41 = .ok (.aload_n 0, 1) := by decide +kernel
theorem dX8_takeCrab_42 : decode cX8_takeCrab 42 = .ok (.ldc 135, 2) := by decide +kernel
theorem dX8_takeCrab_44 : decode cX8_takeCrab 44 = .ok (.invokevirtual 67, 3) := by decide +kernel
theorem dX8_takeCrab_47 : decode cX8_takeCrab 47 = .ok (.ifCond .ne 13, 3) := by decide +kernel
theorem dX8_takeCrab_50 : decode cX8_takeCrab 50 = .ok (.aload_n 0, 1) := by decide +kernel
theorem dX8_takeCrab_51 : decode cX8_takeCrab 51 = .ok (.iconst 2, 1) := by decide +kernel
theorem dX8_takeCrab_52 : decode cX8_takeCrab 52 = .ok (.aload_n 0, 1) := by decide +kernel
theorem dX8_takeCrab_53 : decode cX8_takeCrab 53 = .ok (.getfield 94, 3) := by decide +kernel
theorem dX8_takeCrab_56 : decode cX8_takeCrab 56 = .ok (.invokevirtual 61, 3) := by decide +kernel
theorem dX8_takeCrab_59 : decode cX8_takeCrab 59 = .ok (.ireturn, 1) := by decide +kernel
theorem dX8_takeCrab_60 : decode cX8_takeCrab 60 = .ok (.aload_n 0, 1) := by decide +kernel
theorem dX8_takeCrab_61 : decode cX8_takeCrab 61 = .ok (.iconst 1, 1) := by decide +kernel
theorem dX8_takeCrab_62 : decode cX8_takeCrab 62 = .ok (.bipush 9, 2) := by decide +kernel
theorem dX8_takeCrab_64 : decode cX8_takeCrab 64 = .ok (.invokevirtual 97, 3) := by decide +kernel
theorem dX8_takeCrab_67 : decode cX8_takeCrab 67 = .ok (.ifCond .ne 5, 3) := by decide +kernel
theorem dX8_takeCrab_70 : decode cX8_takeCrab 70 = .ok (.iconst 0, 1) := by decide +kernel
theorem dX8_takeCrab_71 : decode cX8_takeCrab 71 = .ok (.ireturn, 1) := by decide +kernel
theorem dX8_takeCrab_72 : decode cX8_takeCrab 72 = .ok (.aload_n 0, 1) := by decide +kernel
theorem dX8_takeCrab_73 : decode cX8_takeCrab 73 = .ok (.getfield 100, 3) := by decide +kernel
theorem dX8_takeCrab_76 : decode cX8_takeCrab 76 = .ok (.istore_n 2, 1) := by decide +kernel
theorem dX8_takeCrab_77 : decode cX8_takeCrab 77 = .ok (.aload_n 0, 1) := by decide +kernel
theorem dX8_takeCrab_78 : decode cX8_takeCrab 78 = .ok (.iconst 1, 1) := by decide +kernel
theorem dX8_takeCrab_79 : decode cX8_takeCrab 79 = .ok (.bipush 9, 2) := by decide +kernel
theorem dX8_takeCrab_81 : decode cX8_takeCrab 81 = .ok (.invokevirtual 97, 3) := by decide +kernel
theorem dX8_takeCrab_84 : decode cX8_takeCrab 84 = .ok (.ifCond .ne 5, 3) := by decide +kernel
theorem dX8_takeCrab_87 : decode cX8_takeCrab 87 = .ok (.iconst 0, 1) := by decide +kernel
theorem dX8_takeCrab_88 : decode cX8_takeCrab 88 = .ok (.ireturn, 1) := by decide +kernel
theorem dX8_takeCrab_89 : decode cX8_takeCrab 89 = .ok (.aload_n 0, 1) := by decide +kernel
theorem dX8_takeCrab_90 : decode cX8_takeCrab 90 = .ok (.getfield 100, 3) := by decide +kernel
theorem dX8_takeCrab_93 : decode cX8_takeCrab 93 = .ok (.istore_n 3, 1) := by decide +kernel
theorem dX8_takeCrab_94 : decode cX8_takeCrab 94 = .ok (.aload_n 0, 1) := by decide +kernel
theorem dX8_takeCrab_95 : decode cX8_takeCrab 95 = .ok (.iconst 0, 1) := by decide +kernel
theorem dX8_takeCrab_96 : decode cX8_takeCrab 96 = .ok (.bipush 7, 2) := by decide +kernel
theorem dX8_takeCrab_98 : decode cX8_takeCrab 98 = .ok (.invokevirtual 97, 3) := by decide +kernel
theorem dX8_takeCrab_101 : decode cX8_takeCrab 101 = .ok (.ifCond .ne 5, 3) := by decide +kernel
theorem dX8_takeCrab_104 : decode cX8_takeCrab 104 = .ok (.iconst 0, 1) := by decide +kernel
theorem dX8_takeCrab_105 : decode cX8_takeCrab 105 = .ok (.ireturn, 1) := by decide +kernel
theorem dX8_takeCrab_106 : decode cX8_takeCrab 106 = .ok (.aload_n 0, 1) := by decide +kernel
theorem dX8_takeCrab_107 : decode cX8_takeCrab 107 = .ok (.getfield 21, 3) := by decide +kernel
theorem dX8_takeCrab_110 : decode cX8_takeCrab 110 = .ok (.iload_n 1, 1) := by decide +kernel
theorem dX8_takeCrab_111 : decode cX8_takeCrab 111 = .ok (.invokestatic 137, 3) := by decide +kernel
theorem dX8_takeCrab_114 : decode cX8_takeCrab 114 = .ok (.iload_n 2, 1) := by decide +kernel
theorem dX8_takeCrab_115 : decode cX8_takeCrab 115 = .ok (.iload_n 3, 1) := by decide +kernel
theorem dX8_takeCrab_116 : decode cX8_takeCrab 116 = .ok (.aload_n 0, 1) := by decide +kernel
theorem dX8_takeCrab_117 : decode cX8_takeCrab 117 = .ok (.getfield 100, 3) := by decide +kernel
theorem dX8_takeCrab_120 : decode cX8_takeCrab 120 = .ok (.invokevirtual 141, 3) := by decide +kernel
theorem dX8_takeCrab_123 : decode cX8_takeCrab 123 = .ok (.aload_n 0, 1) := by decide +kernel
theorem dX8_takeCrab_124 : decode cX8_takeCrab 124 = .ok (.invokevirtual 45, 3) := by decide +kernel
theorem dX8_takeCrab_127 : decode cX8_takeCrab 127 = .ok (.ifCond .eq 14, 3) := by decide +kernel
theorem dX8_takeCrab_130 : decode cX8_takeCrab 130 = .ok (.aload_n 0, 1) := by decide +kernel
theorem dX8_takeCrab_131 : decode cX8_takeCrab 131 = .ok (.invokevirtual 105, 3) := by decide +kernel
theorem dX8_takeCrab_134 : decode cX8_takeCrab 134 = .ok (.ifCond .eq 7, 3) := by decide +kernel
theorem dX8_takeCrab_137 : decode cX8_takeCrab 137 = .ok (.iconst 1, 1) := by decide +kernel
theorem dX8_takeCrab_138 : decode cX8_takeCrab 138 = .ok (.goto 4, 3) := by decide +kernel
theorem dX8_takeCrab_141 : decode cX8_takeCrab 141 = .ok (.iconst 0, 1) := by decide +kernel
theorem dX8_takeCrab_142 : decode cX8_takeCrab 142 = .ok (.ireturn, 1) := by decide +kernel
theorem dX8_takeTide_0 : decode cX8_takeTide 0 = .ok (.aload_n 0, 1) := by decide +kernel
theorem dX8_takeTide_1 : decode cX8_takeTide 1 = .ok (.getfield 39, 3) := by decide +kernel
theorem dX8_takeTide_4 : decode cX8_takeTide 4 = .ok (.ifCond .eq 13, 3) := by decide +kernel
theorem dX8_takeTide_7 : decode cX8_takeTide 7 = .ok (.aload_n 0, 1) := by decide +kernel
theorem dX8_takeTide_8 : decode cX8_takeTide 8 = .ok (.iconst 4, 1) := by decide +kernel
theorem dX8_takeTide_9 : decode cX8_takeTide 9 = .ok (.aload_n 0, 1) := by decide +kernel
theorem dX8_takeTide_10 : decode cX8_takeTide 10 = .ok (.getfield 94, 3) := by decide +kernel
theorem dX8_takeTide_13 : decode cX8_takeTide 13 = .ok (.invokevirtual 61, 3) := by decide +kernel
theorem dX8_takeTide_16 : decode cX8_takeTide 16 = .ok (.ireturn, 1) := by decide +kernel
theorem dX8_takeTide_17 : decode cX8_takeTide 17 = .ok (.aload_n 0, 1) := by decide +kernel
theorem dX8_takeTide_18 : decode cX8_takeTide 18 = .ok (.iconst 1, 1) := by decide +kernel
theorem dX8_takeTide_19 : decode cX8_takeTide 19 = .ok (.putfield 39, 3) := by decide +kernel
theorem dX8_takeTide_22 : decode cX8_takeTide 22 = .ok (.aload_n 0, 1) := by decide +kernel
theorem dX8_takeTide_23 : decode cX8_takeTide 23 = .ok (.iconst 1, 1) := by decide +kernel
theorem dX8_takeTide_24 : decode cX8_takeTide 24 = .ok (.bipush 9, 2) := by decide +kernel
theorem dX8_takeTide_26 : decode cX8_takeTide 26 = .ok (.invokevirtual 97, 3) := by decide +kernel
theorem dX8_takeTide_29 : decode cX8_takeTide 29 = .ok (.ifCond .ne 5, 3) := by decide +kernel
theorem dX8_takeTide_32 : decode cX8_takeTide 32 = .ok (.iconst 0, 1) := by decide +kernel
theorem dX8_takeTide_33 : decode cX8_takeTide 33 = .ok (.ireturn, 1) := by decide +kernel
theorem dX8_takeTide_34 : decode cX8_takeTide 34 = .ok (.aload_n 0, 1) := by decide +kernel
theorem dX8_takeTide_35 : decode cX8_takeTide 35 = .ok (.getfield 21, 3) := by decide +kernel
theorem dX8_takeTide_38 : decode cX8_takeTide 38 = .ok (.aload_n 0, 1) := by decide +kernel
theorem dX8_takeTide_39 : decode cX8_takeTide 39 = .ok (.getfield 100, 3) := by decide +kernel
theorem dX8_takeTide_42 : decode cX8_takeTide 42 = .ok (.putfield 145, 3) := by decide +kernel
theorem dX8_takeTide_45 : decode cX8_takeTide 45 = .ok (.aload_n 0, 1) := by decide +kernel
theorem dX8_takeTide_46 : decode cX8_takeTide 46 = .ok (.iconst 0, 1) := by decide +kernel
theorem dX8_takeTide_47 : decode cX8_takeTide 47 = .ok (.bipush 8, 2) := by decide +kernel
theorem dX8_takeTide_49 : decode cX8_takeTide 49 = .ok (.invokevirtual 97, 3) := by decide +kernel
theorem dX8_takeTide_52 : decode cX8_takeTide 52 = .ok (.ifCond .ne 5, 3) := by decide +kernel
theorem dX8_takeTide_55 : decode cX8_takeTide 55 = .ok (.iconst 0, 1) := by decide +kernel
theorem dX8_takeTide_56 : decode cX8_takeTide 56 = .ok (.ireturn, 1) := by decide +kernel
theorem dX8_takeTide_57 : decode cX8_takeTide 57 = .ok (.aload_n 0, 1) := by decide +kernel
theorem dX8_takeTide_58 : decode cX8_takeTide 58 = .ok (.getfield 21, 3) := by decide +kernel
theorem dX8_takeTide_61 : decode cX8_takeTide 61 = .ok (.aload_n 0, 1) := by decide +kernel
theorem dX8_takeTide_62 : decode cX8_takeTide 62 = .ok (.getfield 100, 3) := by decide +kernel
theorem dX8_takeTide_65 : decode cX8_takeTide 65 = .ok (.putfield 147, 3) := by decide +kernel
theorem dX8_takeTide_68 : decode cX8_takeTide 68 = .ok (.aload_n 0, 1) := by decide +kernel
theorem dX8_takeTide_69 : decode cX8_takeTide 69 = .ok (.invokevirtual 45, 3) := by decide +kernel
theorem dX8_takeTide_72 : decode cX8_takeTide 72 = .ok (.ifCond .eq 14, 3) := by decide +kernel
theorem dX8_takeTide_75 : decode cX8_takeTide 75 = .ok (.aload_n 0, 1) := by decide +kernel
theorem dX8_takeTide_76 : decode cX8_takeTide 76 = .ok (.invokevirtual 105, 3) := by decide +kernel
theorem dX8_takeTide_79 : decode cX8_takeTide 79 = .ok (.ifCond .eq 7, 3) := by decide +kernel
theorem dX8_takeTide_82 : decode cX8_takeTide 82 = .ok (.iconst 1, 1) := by decide +kernel
theorem dX8_takeTide_83 : decode cX8_takeTide 83 = .ok (.goto 4, 3) := by decide +kernel
theorem dX8_takeTide_86 : decode cX8_takeTide 86 = .ok (.iconst 0, 1) := by decide +kernel
theorem dX8_takeTide_87 : decode cX8_takeTide 87 = .ok (.ireturn, 1) := by decide +kernel
theorem dX8_endsLine_0 : decode cX8_endsLine 0 = .ok (.aload_n 0, 1) := by decide +kernel
theorem dX8_endsLine_1 : decode cX8_endsLine 1 = .ok (.getfield 49, 3) := by decide +kernel
theorem dX8_endsLine_4 : decode cX8_endsLine 4 = .ok (.iconst 3, 1) := by decide +kernel
theorem dX8_endsLine_5 : decode cX8_endsLine 5 = .ok (.if_icmp .eq 15, 3) := by decide +kernel
theorem dX8_endsLine_8 : decode cX8_endsLine 8 = .ok (.aload_n 0, 1) := by decide +kernel
theorem dX8_endsLine_9 : decode cX8_endsLine 9 = .ok (.iconst 2, 1) := by decide +kernel
theorem dX8_endsLine_10 : decode cX8_endsLine 10 = .ok (.aload_n 0, 1) := by decide +kernel
theorem dX8_endsLine_11 : decode cX8_endsLine 11 = .ok (.getfield 94, 3) := by decide +kernel
theorem dX8_endsLine_14 : decode cX8_endsLine 14 = .ok (.invokevirtual 61, 3) := by decide +kernel
theorem dX8_endsLine_17 : decode cX8_endsLine 17 = .ok (.ifCond .eq 7, 3) := by decide +kernel
theorem dX8_endsLine_20 : decode cX8_endsLine 20 = .ok (.iconst 1, 1) := by decide +kernel
theorem dX8_endsLine_21 : decode cX8_endsLine 21 = .ok (.goto 4, 3) := by decide +kernel
theorem dX8_endsLine_24 : decode cX8_endsLine 24 = .ok (.iconst 0, 1) := by decide +kernel
theorem dX8_endsLine_25 : decode cX8_endsLine 25 = .ok (.ireturn, 1) := by decide +kernel
theorem dX8_takeNumber_0 : decode cX8_takeNumber 0 = .ok (.aload_n 0, 1) := by decide +kernel
theorem dX8_takeNumber_1 : decode cX8_takeNumber 1 = .ok (.invokevirtual 45, 3) := by decide +kernel
theorem dX8_takeNumber_4 : decode cX8_takeNumber 4 = .ok (.ifCond .ne 5, 3) := by decide +kernel
theorem dX8_takeNumber_7 : decode cX8_takeNumber 7 = .ok (.iconst 0, 1) := by decide +kernel
theorem dX8_takeNumber_8 : decode cX8_takeNumber 8 = .ok (.ireturn, 1) := by decide +kernel
theorem dX8_takeNumber_9 : decode cX8_takeNumber 9 = .ok (.aload_n 0, 1) := by decide +kernel
theorem dX8_takeNumber_10 : decode cX8_takeNumber 10 = .ok (.getfield 49, 3) := by decide +kernel
theorem dX8_takeNumber_13 : decode cX8_takeNumber 13 = .ok (.iconst 2, 1) := by decide +kernel
theorem dX8_takeNumber_14 : decode cX8_takeNumber 14 = .ok (.if_icmp .eq 13, 3) := by decide +kernel
theorem dX8_takeNumber_17 : decode cX8_takeNumber 17 = .ok (.aload_n 0, 1) := by decide +kernel
theorem dX8_takeNumber_18 : decode cX8_takeNumber 18 = .ok (.iconst 2, 1) := by decide +kernel
theorem dX8_takeNumber_19 : decode cX8_takeNumber 19 = .ok (.aload_n 0, 1) := by decide +kernel
theorem dX8_takeNumber_20 : decode cX8_takeNumber 20 = .ok (.getfield 94, 3) := by decide +kernel
theorem dX8_takeNumber_23 : decode cX8_takeNumber 23 = .ok (.invokevirtual 61, 3) := by decide +kernel
theorem dX8_takeNumber_26 : decode cX8_takeNumber 26 = .ok (.ireturn, 1) := by decide +kernel
theorem dX8_takeNumber_27 : decode cX8_takeNumber 27 = .ok (.aload_n 0, 1) := by decide +kernel
theorem dX8_takeNumber_28 : decode cX8_takeNumber 28 = .ok (.getfield 100, 3) := by decide +kernel
theorem dX8_takeNumber_31 : decode cX8_takeNumber 31 = .ok (.iload_n 1, 1) := by decide +kernel
theorem dX8_takeNumber_32 : decode cX8_takeNumber 32 = .ok (.iload_n 2, 1) := by decide +kernel
theorem dX8_takeNumber_33 : decode cX8_takeNumber 33 = .ok (.invokestatic 150, 3) := by decide +kernel
theorem dX8_takeNumber_36 : decode cX8_takeNumber 36 = .ok (.ifCond .ne 15, 3) := by decide +kernel
theorem dX8_takeNumber_39 : decode cX8_takeNumber 39 = .ok (.aload_n 0, 1) := by decide +kernel
theorem dX8_takeNumber_40 : decode cX8_takeNumber 40 = .ok (.iconst 3, 1) := by decide +kernel
theorem dX8_takeNumber_41 : decode cX8_takeNumber 41 = .ok (.aload_n 0, 1) := by decide +kernel
theorem dX8_takeNumber_42 : decode cX8_takeNumber 42 = .ok (.getfield 94, 3) := by decide +kernel
theorem dX8_takeNumber_45 : decode cX8_takeNumber 45 = .ok (.invokevirtual 61, 3) := by decide +kernel
theorem dX8_takeNumber_48 : decode cX8_takeNumber 48 = .ok (.ifCond .eq 7, 3) := by decide +kernel
theorem dX8_takeNumber_51 : decode cX8_takeNumber 51 = .ok (.iconst 1, 1) := by decide +kernel
theorem dX8_takeNumber_52 : decode cX8_takeNumber 52 = .ok (.goto 4, 3) := by decide +kernel
theorem dX8_takeNumber_55 : decode cX8_takeNumber 55 = .ok (.iconst 0, 1) := by decide +kernel
theorem dX8_takeNumber_56 : decode cX8_takeNumber 56 = .ok (.ireturn, 1) := by decide +kernel
theorem dX8_isName_0 : decode cX8_isName 0 = .ok (.aload_n 0, 1) := by decide +kernel
theorem dX8_isName_1 : decode cX8_isName 1 = .ok (.getfield 49, 3) := by decide +kernel
theorem dX8_isName_4 : decode cX8_isName 4 = .ok (.iconst 1, 1) := by decide +kernel
theorem dX8_isName_5 : decode cX8_isName 5 = .ok (.if_icmp .ne 19, 3) := by decide +kernel
theorem dX8_isName_8 : decode cX8_isName 8 = .ok (.aload_n 0, 1) := by decide +kernel
theorem dX8_isName_9 : decode cX8_isName 9 = .ok (.getfield 42, 3) := by decide +kernel
theorem dX8_isName_12 : decode cX8_isName 12 = .ok (.aload_n 0, 1) := by decide +kernel
theorem dX8_isName_13 : decode cX8_isName 13 = .ok (.getfield 94, 3) := by decide +kernel
theorem dX8_isName_16 : decode cX8_isName 16 = .ok (.isub, 1) := by decide +kernel
theorem dX8_isName_17 : decode cX8_isName 17 = .ok (.aload_n 1, 1) := by decide +kernel
theorem dX8_isName_18 : decode cX8_isName 18 = .ok (.invokevirtual 154, 3) := by decide +kernel
theorem dX8_isName_21 : decode cX8_isName 21 = .ok (.if_icmp .eq 5, 3) := by decide +kernel
theorem dX8_isName_24 : decode cX8_isName 24 = .ok (.iconst 0, 1) := by decide +kernel
theorem dX8_isName_25 : decode cX8_isName 25 = .ok (.ireturn, 1) := by decide +kernel
theorem dX8_isName_26 : decode cX8_isName 26 = .ok (.iconst 0, 1) := by decide +kernel
theorem dX8_isName_27 : decode cX8_isName 27 = .ok (.istore_n 2, 1) := by decide +kernel
theorem dX8_isName_28 : decode cX8_isName 28 = .ok (.iload_n 2, 1) := by decide +kernel
theorem dX8_isName_29 : decode cX8_isName 29 = .ok (.aload_n 1, 1) := by decide +kernel
theorem dX8_isName_30 : decode cX8_isName 30 = .ok (.invokevirtual 154, 3) := by decide +kernel
theorem dX8_isName_33 : decode cX8_isName 33 = .ok (.if_icmp .ge 33, 3) := by decide +kernel
theorem dX8_isName_36 : decode cX8_isName 36 = .ok (.aload_n 0, 1) := by decide +kernel
theorem dX8_isName_37 : decode cX8_isName 37 = .ok (.getfield 12, 3) := by decide +kernel
theorem dX8_isName_40 : decode cX8_isName 40 = .ok (.getfield 159, 3) := by decide +kernel
theorem dX8_isName_43 : decode cX8_isName 43 = .ok (.aload_n 0, 1) := by decide +kernel
theorem dX8_isName_44 : decode cX8_isName 44 = .ok (.getfield 94, 3) := by decide +kernel
theorem dX8_isName_47 : decode cX8_isName 47 = .ok (.iload_n 2, 1) := by decide +kernel
theorem dX8_isName_48 : decode cX8_isName 48 = .ok (.iadd, 1) := by decide +kernel
theorem dX8_isName_49 : decode cX8_isName 49 = .ok (.baload, 1) := by decide +kernel
theorem dX8_isName_50 : decode cX8_isName 50 = .ok (.aload_n 1, 1) := by decide +kernel
theorem dX8_isName_51 : decode cX8_isName 51 = .ok (.iload_n 2, 1) := by decide +kernel
theorem dX8_isName_52 : decode cX8_isName 52 = .ok (.invokevirtual 163, 3) := by decide +kernel
theorem dX8_isName_55 : decode cX8_isName 55 = .ok (.if_icmp .eq 5, 3) := by decide +kernel
theorem dX8_isName_58 : decode cX8_isName 58 = .ok (.iconst 0, 1) := by decide +kernel
theorem dX8_isName_59 : decode cX8_isName 59 = .ok (.ireturn, 1) := by decide +kernel
theorem dX8_isName_60 : decode cX8_isName 60 = .ok (.iinc 2 1, 3) := by decide +kernel
theorem dX8_isName_63 : decode cX8_isName 63 = .ok (.goto (-35), 3) := by decide +kernel
theorem dX8_isName_66 : decode cX8_isName 66 = .ok (.iconst 1, 1) := by decide +kernel
theorem dX8_isName_67 : decode cX8_isName 67 = .ok (.ireturn, 1) := by decide +kernel
theorem dX8_takeToken_0 : decode cX8_takeToken 0 = .ok (.aload_n 0, 1) := by decide +kernel
theorem dX8_takeToken_1 : decode cX8_takeToken 1 = .ok (.aload_n 0, 1) := by decide +kernel
theorem dX8_takeToken_2 : decode cX8_takeToken 2 = .ok (.getfield 42, 3) := by decide +kernel
theorem dX8_takeToken_5 : decode cX8_takeToken 5 = .ok (.putfield 94, 3) := by decide +kernel
theorem dX8_takeToken_8 : decode cX8_takeToken 8 = .ok (.aload_n 0, 1) := by decide +kernel
theorem dX8_takeToken_9 : decode cX8_takeToken 9 = .ok (.getfield 94, 3) := by decide +kernel
theorem dX8_takeToken_12 : decode cX8_takeToken 12 = .ok (.aload_n 0, 1) := by decide +kernel
theorem dX8_takeToken_13 : decode cX8_takeToken 13 = .ok (.getfield 12, 3) := by decide +kernel
theorem dX8_takeToken_16 : decode cX8_takeToken 16 = .ok (.getfield 58, 3) := by decide +kernel
theorem dX8_takeToken_19 : decode cX8_takeToken 19 = .ok (.if_icmp .ge 33, 3) := by decide +kernel
theorem dX8_takeToken_22 : decode cX8_takeToken 22 = .ok (.aload_n 0, 1) := by decide +kernel
theorem dX8_takeToken_23 : decode cX8_takeToken 23 = .ok (.getfield 12, 3) := by decide +kernel
theorem dX8_takeToken_26 : decode cX8_takeToken 26 = .ok (.getfield 159, 3) := by decide +kernel
theorem dX8_takeToken_29 : decode cX8_takeToken 29 = .ok (.aload_n 0, 1) := by decide +kernel
theorem dX8_takeToken_30 : decode cX8_takeToken 30 = .ok (.getfield 94, 3) := by decide +kernel
theorem dX8_takeToken_33 : decode cX8_takeToken 33 = .ok (.baload, 1) := by decide +kernel
theorem dX8_takeToken_34 : decode cX8_takeToken 34 = .ok (.bipush 32, 2) := by decide +kernel
theorem dX8_takeToken_36 : decode cX8_takeToken 36 = .ok (.if_icmp .ne 16, 3) := by decide +kernel
theorem dX8_takeToken_39 : decode cX8_takeToken 39 = .ok (.aload_n 0, 1) := by decide +kernel
theorem dX8_takeToken_40 : decode cX8_takeToken 40 = .ok (.dup, 1) := by decide +kernel
theorem dX8_takeToken_41 : decode cX8_takeToken 41 = .ok (.getfield 94, 3) := by decide +kernel
theorem dX8_takeToken_44 : decode cX8_takeToken 44 = .ok (.iconst 1, 1) := by decide +kernel
theorem dX8_takeToken_45 : decode cX8_takeToken 45 = .ok (.iadd, 1) := by decide +kernel
theorem dX8_takeToken_46 : decode cX8_takeToken 46 = .ok (.putfield 94, 3) := by decide +kernel
theorem dX8_takeToken_49 : decode cX8_takeToken 49 = .ok (.goto (-41), 3) := by decide +kernel
theorem dX8_takeToken_52 : decode cX8_takeToken 52 = .ok (.aload_n 0, 1) := by decide +kernel
theorem dX8_takeToken_53 : decode cX8_takeToken 53 = .ok (.aload_n 0, 1) := by decide +kernel
theorem dX8_takeToken_54 : decode cX8_takeToken 54 = .ok (.getfield 94, 3) := by decide +kernel
theorem dX8_takeToken_57 : decode cX8_takeToken 57 = .ok (.aload_n 0, 1) := by decide +kernel
theorem dX8_takeToken_58 : decode cX8_takeToken 58 = .ok (.getfield 12, 3) := by decide +kernel
theorem dX8_takeToken_61 : decode cX8_takeToken 61 = .ok (.getfield 58, 3) := by decide +kernel
theorem dX8_takeToken_64 : decode cX8_takeToken 64 = .ok (.if_icmp .ge 21, 3) := by decide +kernel
theorem dX8_takeToken_67 : decode cX8_takeToken 67 = .ok (.aload_n 0, 1) := by decide +kernel
theorem dX8_takeToken_68 : decode cX8_takeToken 68 = .ok (.getfield 12, 3) := by decide +kernel
theorem dX8_takeToken_71 : decode cX8_takeToken 71 = .ok (.getfield 159, 3) := by decide +kernel
theorem dX8_takeToken_74 : decode cX8_takeToken 74 = .ok (.aload_n 0, 1) := by decide +kernel
theorem dX8_takeToken_75 : decode cX8_takeToken 75 = .ok (.getfield 94, 3) := by decide +kernel
theorem dX8_takeToken_78 : decode cX8_takeToken 78 = .ok (.baload, 1) := by decide +kernel
theorem dX8_takeToken_79 : decode cX8_takeToken 79 = .ok (.invokestatic 167, 3) := by decide +kernel
theorem dX8_takeToken_82 : decode cX8_takeToken 82 = .ok (.goto 4, 3) := by decide +kernel
theorem dX8_takeToken_85 : decode cX8_takeToken 85 = .ok (.iconst 0, 1) := by decide +kernel
theorem dX8_takeToken_86 : decode cX8_takeToken 86 = .ok (.putfield 49, 3) := by decide +kernel
theorem dX8_takeToken_89 : decode cX8_takeToken 89 = .ok (.aload_n 0, 1) := by decide +kernel
theorem dX8_takeToken_90 : decode cX8_takeToken 90 = .ok (.aload_n 0, 1) := by decide +kernel
theorem dX8_takeToken_91 : decode cX8_takeToken 91 = .ok (.getfield 49, 3) := by decide +kernel
theorem dX8_takeToken_94 : decode cX8_takeToken 94 = .ok (.ifCond .ne 10, 3) := by decide +kernel
theorem dX8_takeToken_97 : decode cX8_takeToken 97 = .ok (.aload_n 0, 1) := by decide +kernel
theorem dX8_takeToken_98 : decode cX8_takeToken 98 = .ok (.getfield 94, 3) := by decide +kernel
theorem dX8_takeToken_101 : decode cX8_takeToken 101 = .ok (.goto 9, 3) := by decide +kernel
theorem dX8_takeToken_104 : decode cX8_takeToken 104 = .ok (.aload_n 0, 1) := by decide +kernel
theorem dX8_takeToken_105 : decode cX8_takeToken 105 = .ok (.getfield 94, 3) := by decide +kernel
theorem dX8_takeToken_108 : decode cX8_takeToken 108 = .ok (.iconst 1, 1) := by decide +kernel
theorem dX8_takeToken_109 : decode cX8_takeToken 109 = .ok (.iadd, 1) := by decide +kernel
theorem dX8_takeToken_110 : decode cX8_takeToken 110 = .ok (.putfield 42, 3) := by decide +kernel
theorem dX8_takeToken_113 : decode cX8_takeToken 113 = .ok (.aload_n 0, 1) := by decide +kernel
theorem dX8_takeToken_114 : decode cX8_takeToken 114 = .ok (.getfield 49, 3) := by decide +kernel
theorem dX8_takeToken_117 : decode cX8_takeToken 117 = .ok (.iconst 1, 1) := by decide +kernel
theorem dX8_takeToken_118 : decode cX8_takeToken 118 = .ok (.if_icmp .eq 11, 3) := by decide +kernel
theorem dX8_takeToken_121 : decode cX8_takeToken 121 = .ok (.aload_n 0, 1) := by decide +kernel
theorem dX8_takeToken_122 : decode cX8_takeToken 122 = .ok (.getfield 49, 3) := by decide +kernel
theorem dX8_takeToken_125 : decode cX8_takeToken 125 = .ok (.iconst 2, 1) := by decide +kernel
theorem dX8_takeToken_126 : decode cX8_takeToken 126 = .ok (.if_icmp .ne 7, 3) := by decide +kernel
theorem dX8_takeToken_129 : decode cX8_takeToken 129 = .ok (.iconst 1, 1) := by decide +kernel
theorem dX8_takeToken_130 : decode cX8_takeToken 130 = .ok (.goto 4, 3) := by decide +kernel
theorem dX8_takeToken_133 : decode cX8_takeToken 133 = .ok (.iconst 0, 1) := by decide +kernel
theorem dX8_takeToken_134 : decode cX8_takeToken 134 = .ok (.istore_n 1, 1) := by decide +kernel
theorem dX8_takeToken_135 : decode cX8_takeToken 135 = .ok (.iload_n 1, 1) := by decide +kernel
theorem dX8_takeToken_136 : decode cX8_takeToken 136 = .ok (.ifCond .eq 52, 3) := by decide +kernel
theorem dX8_takeToken_139 : decode cX8_takeToken 139 = .ok (.aload_n 0, 1) := by decide +kernel
theorem dX8_takeToken_140 : decode cX8_takeToken 140 = .ok (.getfield 42, 3) := by decide +kernel
theorem dX8_takeToken_143 : decode cX8_takeToken 143 = .ok (.aload_n 0, 1) := by decide +kernel
theorem dX8_takeToken_144 : decode cX8_takeToken 144 = .ok (.getfield 12, 3) := by decide +kernel
theorem dX8_takeToken_147 : decode cX8_takeToken 147 = .ok (.getfield 58, 3) := by decide +kernel
theorem dX8_takeToken_150 : decode cX8_takeToken 150 = .ok (.if_icmp .ge 38, 3) := by decide +kernel
theorem dX8_takeToken_153 : decode cX8_takeToken 153 = .ok (.aload_n 0, 1) := by decide +kernel
theorem dX8_takeToken_154 : decode cX8_takeToken 154 = .ok (.getfield 12, 3) := by decide +kernel
theorem dX8_takeToken_157 : decode cX8_takeToken 157 = .ok (.getfield 159, 3) := by decide +kernel
theorem dX8_takeToken_160 : decode cX8_takeToken 160 = .ok (.aload_n 0, 1) := by decide +kernel
theorem dX8_takeToken_161 : decode cX8_takeToken 161 = .ok (.getfield 42, 3) := by decide +kernel
theorem dX8_takeToken_164 : decode cX8_takeToken 164 = .ok (.baload, 1) := by decide +kernel
theorem dX8_takeToken_165 : decode cX8_takeToken 165 = .ok (.invokestatic 167, 3) := by decide +kernel
theorem dX8_takeToken_168 : decode cX8_takeToken 168 = .ok (.aload_n 0, 1) := by decide +kernel
theorem dX8_takeToken_169 : decode cX8_takeToken 169 = .ok (.getfield 49, 3) := by decide +kernel
theorem dX8_takeToken_172 : decode cX8_takeToken 172 = .ok (.if_icmp .ne 16, 3) := by decide +kernel
theorem dX8_takeToken_175 : decode cX8_takeToken 175 = .ok (.aload_n 0, 1) := by decide +kernel
theorem dX8_takeToken_176 : decode cX8_takeToken 176 = .ok (.dup, 1) := by decide +kernel
theorem dX8_takeToken_177 : decode cX8_takeToken 177 = .ok (.getfield 42, 3) := by decide +kernel
theorem dX8_takeToken_180 : decode cX8_takeToken 180 = .ok (.iconst 1, 1) := by decide +kernel
theorem dX8_takeToken_181 : decode cX8_takeToken 181 = .ok (.iadd, 1) := by decide +kernel
theorem dX8_takeToken_182 : decode cX8_takeToken 182 = .ok (.putfield 42, 3) := by decide +kernel
theorem dX8_takeToken_185 : decode cX8_takeToken 185 = .ok (.goto (-50), 3) := by decide +kernel
theorem dX8_takeToken_188 : decode cX8_takeToken 188 = .ok (.aload_n 0, 1) := by decide +kernel
theorem dX8_takeToken_189 : decode cX8_takeToken 189 = .ok (.getfield 49, 3) := by decide +kernel
theorem dX8_takeToken_192 : decode cX8_takeToken 192 = .ok (.iconst 4, 1) := by decide +kernel
theorem dX8_takeToken_193 : decode cX8_takeToken 193 = .ok (.if_icmp .eq 24, 3) := by decide +kernel
theorem dX8_takeToken_196 : decode cX8_takeToken 196 = .ok (.aload_n 0, 1) := by decide +kernel
theorem dX8_takeToken_197 : decode cX8_takeToken 197 = .ok (.getfield 49, 3) := by decide +kernel
theorem dX8_takeToken_200 : decode cX8_takeToken 200 = .ok (.iconst 2, 1) := by decide +kernel
theorem dX8_takeToken_201 : decode cX8_takeToken 201 = .ok (.if_icmp .ne 26, 3) := by decide +kernel
theorem dX8_takeToken_204 : decode cX8_takeToken 204 = .ok (.aload_n 0, 1) := by decide +kernel
theorem dX8_takeToken_205 : decode cX8_takeToken 205 = .ok (.getfield 42, 3) := by decide +kernel
theorem dX8_takeToken_208 : decode cX8_takeToken 208 = .ok (.aload_n 0, 1) := by decide +kernel
theorem dX8_takeToken_209 : decode cX8_takeToken 209 = .ok (.getfield 94, 3) := by decide +kernel
theorem dX8_takeToken_212 : decode cX8_takeToken 212 = .ok (.isub, 1) := by decide +kernel
theorem dX8_takeToken_213 : decode cX8_takeToken 213 = .ok (.iconst 2, 1) := by decide +kernel
theorem dX8_takeToken_214 : decode cX8_takeToken 214 = .ok (.if_icmp .le 13, 3) := by decide +kernel
theorem dX8_takeToken_217 : decode cX8_takeToken 217 = .ok (.aload_n 0, 1) := by decide +kernel
theorem dX8_takeToken_218 : decode cX8_takeToken 218 = .ok (.iconst 1, 1) := by decide +kernel
theorem dX8_takeToken_219 : decode cX8_takeToken 219 = .ok (.aload_n 0, 1) := by decide +kernel
theorem dX8_takeToken_220 : decode cX8_takeToken 220 = .ok (.getfield 94, 3) := by decide +kernel
theorem dX8_takeToken_223 : decode cX8_takeToken 223 = .ok (.invokevirtual 61, 3) := by decide +kernel
theorem dX8_takeToken_226 : decode cX8_takeToken 226 = .ok (.ireturn, 1) := by decide +kernel
theorem dX8_takeToken_227 : decode cX8_takeToken 227 = .ok (.aload_n 0, 1) := by decide +kernel
theorem dX8_takeToken_228 : decode cX8_takeToken 228 = .ok (.iconst 0, 1) := by decide +kernel
theorem dX8_takeToken_229 : decode cX8_takeToken 229 = .ok (.putfield 100, 3) := by decide +kernel
theorem dX8_takeToken_232 : decode cX8_takeToken 232 = .ok (.aload_n 0, 1) := by decide +kernel
theorem dX8_takeToken_233 : decode cX8_takeToken 233 = .ok (.getfield 94, 3) := by decide +kernel
theorem dX8_takeToken_236 : decode cX8_takeToken 236 = .ok (.istore_n 2, 1) := by decide +kernel
theorem dX8_takeToken_237 : decode cX8_takeToken 237 = .ok (.iload_n 2, 1) := by decide +kernel
theorem dX8_takeToken_238 : decode cX8_takeToken 238 = .ok (.aload_n 0, 1) := by decide +kernel
theorem dX8_takeToken_239 : decode cX8_takeToken 239 = .ok (.getfield 42, 3) := by decide +kernel
theorem dX8_takeToken_242 : decode cX8_takeToken 242 = .ok (.if_icmp .ge 41, 3) := by decide +kernel
theorem dX8_takeToken_245 : decode cX8_takeToken 245 = .ok (.aload_n 0, 1) := by decide +kernel
theorem dX8_takeToken_246 : decode cX8_takeToken 246 = .ok (.getfield 49, 3) := by decide +kernel
theorem dX8_takeToken_249 : decode cX8_takeToken 249 = .ok (.iconst 2, 1) := by decide +kernel
theorem dX8_takeToken_250 : decode cX8_takeToken 250 = .ok (.if_icmp .ne 33, 3) := by decide +kernel
theorem dX8_takeToken_253 : decode cX8_takeToken 253 = .ok (.aload_n 0, 1) := by decide +kernel
theorem dX8_takeToken_254 : decode cX8_takeToken 254 = .ok (.bipush 10, 2) := by decide +kernel
theorem dX8_takeToken_256 : decode cX8_takeToken 256 = .ok (.aload_n 0, 1) := by decide +kernel
theorem dX8_takeToken_257 : decode cX8_takeToken 257 = .ok (.getfield 100, 3) := by decide +kernel
theorem dX8_takeToken_260 : decode cX8_takeToken 260 = .ok (.imul, 1) := by decide +kernel
theorem dX8_takeToken_261 : decode cX8_takeToken 261 = .ok (.aload_n 0, 1) := by decide +kernel
theorem dX8_takeToken_262 : decode cX8_takeToken 262 = .ok (.getfield 12, 3) := by decide +kernel
theorem dX8_takeToken_265 : decode cX8_takeToken 265 = .ok (.getfield 159, 3) := by decide +kernel
theorem dX8_takeToken_268 : decode cX8_takeToken 268 = .ok (.iload_n 2, 1) := by decide +kernel
theorem dX8_takeToken_269 : decode cX8_takeToken 269 = .ok (.baload, 1) := by decide +kernel
theorem dX8_takeToken_270 : decode cX8_takeToken 270 = .ok (.iadd, 1) := by decide +kernel
theorem dX8_takeToken_271 : decode cX8_takeToken 271 = .ok (.bipush 48, 2) := by decide +kernel
theorem dX8_takeToken_273 : decode cX8_takeToken 273 = .ok (.isub, 1) := by decide +kernel
theorem dX8_takeToken_274 : decode cX8_takeToken 274 = .ok (.putfield 100, 3) := by decide +kernel
theorem dX8_takeToken_277 : decode cX8_takeToken 277 = .ok (.iinc 2 1, 3) := by decide +kernel
theorem dX8_takeToken_280 : decode cX8_takeToken 280 = .ok (.goto (-43), 3) := by decide +kernel
theorem dX8_takeToken_283 : decode cX8_takeToken 283 = .ok (.iconst 1, 1) := by decide +kernel
theorem dX8_takeToken_284 : decode cX8_takeToken 284 = .ok (.ireturn, 1) := by decide +kernel
end
section
theorem dX8_kindOf_0 : decode cX8_kindOf 0 = .ok (.iload_n 0, 1) := by decide +kernel
theorem dX8_kindOf_1 : decode cX8_kindOf 1 = .ok (.bipush 97, 2) := by decide +kernel
theorem dX8_kindOf_3 : decode cX8_kindOf 3 = .ok (.if_icmp .lt 11, 3) := by decide +kernel
theorem dX8_kindOf_6 : decode cX8_kindOf 6 = .ok (.iload_n 0, 1) := by decide +kernel
theorem dX8_kindOf_7 : decode cX8_kindOf 7 = .ok (.bipush 122, 2) := by decide +kernel
theorem dX8_kindOf_9 : decode cX8_kindOf 9 = .ok (.if_icmp .gt 5, 3) := by decide +kernel
theorem dX8_kindOf_12 : decode cX8_kindOf 12 = .ok (.iconst 1, 1) := by decide +kernel
theorem dX8_kindOf_13 : decode cX8_kindOf 13 = .ok (.ireturn, 1) := by decide +kernel
theorem dX8_kindOf_14 : decode cX8_kindOf 14 = .ok (.iload_n 0, 1) := by decide +kernel
theorem dX8_kindOf_15 : decode cX8_kindOf 15 = .ok (.bipush 48, 2) := by decide +kernel
theorem dX8_kindOf_17 : decode cX8_kindOf 17 = .ok (.if_icmp .lt 11, 3) := by decide +kernel
theorem dX8_kindOf_20 : decode cX8_kindOf 20 = .ok (.iload_n 0, 1) := by decide +kernel
theorem dX8_kindOf_21 : decode cX8_kindOf 21 = .ok (.bipush 57, 2) := by decide +kernel
theorem dX8_kindOf_23 : decode cX8_kindOf 23 = .ok (.if_icmp .gt 5, 3) := by decide +kernel
theorem dX8_kindOf_26 : decode cX8_kindOf 26 = .ok (.iconst 2, 1) := by decide +kernel
theorem dX8_kindOf_27 : decode cX8_kindOf 27 = .ok (.ireturn, 1) := by decide +kernel
theorem dX8_kindOf_28 : decode cX8_kindOf 28 = .ok (.iload_n 0, 1) := by decide +kernel
theorem dX8_kindOf_29 : decode cX8_kindOf 29 = .ok (.bipush 59, 2) := by decide +kernel
theorem dX8_kindOf_31 : decode cX8_kindOf 31 = .ok (.if_icmp .ne 7, 3) := by decide +kernel
theorem dX8_kindOf_34 : decode cX8_kindOf 34 = .ok (.iconst 3, 1) := by decide +kernel
theorem dX8_kindOf_35 : decode cX8_kindOf 35 = .ok (.goto 4, 3) := by decide +kernel
theorem dX8_kindOf_38 : decode cX8_kindOf 38 = .ok (.iconst 4, 1) := by decide +kernel
theorem dX8_kindOf_39 : decode cX8_kindOf 39 = .ok (.ireturn, 1) := by decide +kernel
theorem dX9_init_0 : decode cX9_init 0 = .ok (.aload_n 0, 1) := by decide +kernel
theorem dX9_init_1 : decode cX9_init 1 = .ok (.invokespecial 1, 3) := by decide +kernel
theorem dX9_init_4 : decode cX9_init 4 = .ok (.aload_n 0, 1) := by decide +kernel
theorem dX9_init_5 : decode cX9_init 5 = .ok (.new 7, 3) := by decide +kernel
theorem dX9_init_8 : decode cX9_init 8 = .ok (.dup, 1) := by decide +kernel
theorem dX9_init_9 : decode cX9_init 9 = .ok (.invokespecial 9, 3) := by decide +kernel
theorem dX9_init_12 : decode cX9_init 12 = .ok (.putfield 10, 3) := by decide +kernel
theorem dX9_init_15 : decode cX9_init 15 = .ok (.aload_n 0, 1) := by decide +kernel
theorem dX9_init_16 : decode cX9_init 16 = .ok (.new 7, 3) := by decide +kernel
theorem dX9_init_19 : decode cX9_init 19 = .ok (.dup, 1) := by decide +kernel
theorem dX9_init_20 : decode cX9_init 20 = .ok (.invokespecial 9, 3) := by decide +kernel
theorem dX9_init_23 : decode cX9_init 23 = .ok (.putfield 16, 3) := by decide +kernel
theorem dX9_init_26 : decode cX9_init 26 = .ok (.aload_n 0, 1) := by decide +kernel
theorem dX9_init_27 : decode cX9_init 27 = .ok (.new 19, 3) := by decide +kernel
theorem dX9_init_30 : decode cX9_init 30 = .ok (.dup, 1) := by decide +kernel
theorem dX9_init_31 : decode cX9_init 31 = .ok (.invokespecial 21, 3) := by decide +kernel
theorem dX9_init_34 : decode cX9_init 34 = .ok (.putfield 22, 3) := by decide +kernel
theorem dX9_init_37 : decode cX9_init 37 = .ok (.aload_n 0, 1) := by decide +kernel
theorem dX9_init_38 : decode cX9_init 38 = .ok (.new 26, 3) := by decide +kernel
theorem dX9_init_41 : decode cX9_init 41 = .ok (.dup, 1) := by decide +kernel
theorem dX9_init_42 : decode cX9_init 42 = .ok (.invokespecial 28, 3) := by decide +kernel
theorem dX9_init_45 : decode cX9_init 45 = .ok (.putfield 29, 3) := by decide +kernel
theorem dX9_init_48 : decode cX9_init 48 = .ok (.aload_n 0, 1) := by decide +kernel
theorem dX9_init_49 : decode cX9_init 49 = .ok (.new 33, 3) := by decide +kernel
theorem dX9_init_52 : decode cX9_init 52 = .ok (.dup, 1) := by decide +kernel
theorem dX9_init_53 : decode cX9_init 53 = .ok (.invokespecial 35, 3) := by decide +kernel
theorem dX9_init_56 : decode cX9_init 56 = .ok (.putfield 36, 3) := by decide +kernel
theorem dX9_init_59 : decode cX9_init 59 = .ok (.aload_n 0, 1) := by decide +kernel
theorem dX9_init_60 : decode cX9_init 60 = .ok (.aload_n 0, 1) := by decide +kernel
theorem dX9_init_61 : decode cX9_init 61 = .ok (.getfield 36, 3) := by decide +kernel
theorem dX9_init_64 : decode cX9_init 64 = .ok (.getfield 40, 3) := by decide +kernel
theorem dX9_init_67 : decode cX9_init 67 = .ok (.putfield 44, 3) := by decide +kernel
theorem dX9_init_70 : decode cX9_init 70 = .ok (.aload_n 0, 1) := by decide +kernel
theorem dX9_init_71 : decode cX9_init 71 = .ok (.iconst 2, 1) := by decide +kernel
theorem dX9_init_72 : decode cX9_init 72 = .ok (.anewarray 45, 3) := by decide +kernel
theorem dX9_init_75 : decode cX9_init 75 = .ok (.putfield 47, 3) := by decide +kernel
theorem dX9_init_78 : decode cX9_init 78 = .ok (.aload_n 0, 1) := by decide +kernel
theorem dX9_init_79 : decode cX9_init 79 = .ok (.iconst 4, 1) := by decide +kernel
theorem dX9_init_80 : decode cX9_init 80 = .ok (.anewarray 51, 3) := by decide +kernel
theorem dX9_init_83 : decode cX9_init 83 = .ok (.putfield 53, 3) := by decide +kernel
theorem dX9_init_86 : decode cX9_init 86 = .ok (.iconst 0, 1) := by decide +kernel
theorem dX9_init_87 : decode cX9_init 87 = .ok (.istore_n 1, 1) := by decide +kernel
theorem dX9_init_88 : decode cX9_init 88 = .ok (.iload_n 1, 1) := by decide +kernel
theorem dX9_init_89 : decode cX9_init 89 = .ok (.iconst 2, 1) := by decide +kernel
theorem dX9_init_90 : decode cX9_init 90 = .ok (.if_icmp .ge 22, 3) := by decide +kernel
theorem dX9_init_93 : decode cX9_init 93 = .ok (.aload_n 0, 1) := by decide +kernel
theorem dX9_init_94 : decode cX9_init 94 = .ok (.getfield 47, 3) := by decide +kernel
theorem dX9_init_97 : decode cX9_init 97 = .ok (.iload_n 1, 1) := by decide +kernel
theorem dX9_init_98 : decode cX9_init 98 = .ok (.new 45, 3) := by decide +kernel
theorem dX9_init_101 : decode cX9_init 101 = .ok (.dup, 1) := by decide +kernel
theorem dX9_init_102 : decode cX9_init 102 = .ok (.invokespecial 57, 3) := by decide +kernel
theorem dX9_init_105 : decode cX9_init 105 = .ok (.aastore, 1) := by decide +kernel
theorem dX9_init_106 : decode cX9_init 106 = .ok (.iinc 1 1, 3) := by decide +kernel
theorem dX9_init_109 : decode cX9_init 109 = .ok (.goto (-21), 3) := by decide +kernel
theorem dX9_init_112 : decode cX9_init 112 = .ok (.iconst 0, 1) := by decide +kernel
theorem dX9_init_113 : decode cX9_init 113 = .ok (.istore_n 1, 1) := by decide +kernel
theorem dX9_init_114 : decode cX9_init 114 = .ok (.iload_n 1, 1) := by decide +kernel
theorem dX9_init_115 : decode cX9_init 115 = .ok (.iconst 4, 1) := by decide +kernel
theorem dX9_init_116 : decode cX9_init 116 = .ok (.if_icmp .ge 22, 3) := by decide +kernel
theorem dX9_init_119 : decode cX9_init 119 = .ok (.aload_n 0, 1) := by decide +kernel
theorem dX9_init_120 : decode cX9_init 120 = .ok (.getfield 53, 3) := by decide +kernel
theorem dX9_init_123 : decode cX9_init 123 = .ok (.iload_n 1, 1) := by decide +kernel
theorem dX9_init_124 : decode cX9_init 124 = .ok (.new 51, 3) := by decide +kernel
theorem dX9_init_127 : decode cX9_init 127 = .ok (.dup, 1) := by decide +kernel
theorem dX9_init_128 : decode cX9_init 128 = .ok (.invokespecial 58, 3) := by decide +kernel
theorem dX9_init_131 : decode cX9_init 131 = .ok (.aastore, 1) := by decide +kernel
theorem dX9_init_132 : decode cX9_init 132 = .ok (.iinc 1 1, 3) := by decide +kernel
theorem dX9_init_135 : decode cX9_init 135 = .ok (.goto (-21), 3) := by decide +kernel
theorem dX9_init_138 : decode cX9_init 138 = .ok (.return_, 1) := by decide +kernel
theorem dX9_feed_0 : decode cX9_feed 0 = .ok (.aload_n 0, 1) := by decide +kernel
theorem dX9_feed_1 : decode cX9_feed 1 = .ok (.getfield 44, 3) := by decide +kernel
theorem dX9_feed_4 : decode cX9_feed 4 = .ok (.getfield 59, 3) := by decide +kernel
theorem dX9_feed_7 : decode cX9_feed 7 = .ok (.bipush 8, 2) := by decide +kernel
theorem dX9_feed_9 : decode cX9_feed 9 = .ok (.iadd, 1) := by decide +kernel
theorem dX9_feed_10 : decode cX9_feed 10 = .ok (.sipush 320, 3) := by decide +kernel
theorem dX9_feed_13 : decode cX9_feed 13 = .ok (.if_icmp .le 6, 3) := by decide +kernel
theorem dX9_feed_16 : decode cX9_feed 16 = .ok (.bipush (-3), 2) := by decide +kernel
theorem dX9_feed_18 : decode cX9_feed 18 = .ok (.ireturn, 1) := by decide +kernel
theorem dX9_feed_19 : decode cX9_feed 19 = .ok (.aload_n 0, 1) := by decide +kernel
theorem dX9_feed_20 : decode cX9_feed 20 = .ok (.getfield 44, 3) := by decide +kernel
theorem dX9_feed_23 : decode cX9_feed 23 = .ok (.lload_n 1, 1) := by decide +kernel
theorem dX9_feed_24 : decode cX9_feed 24 = .ok (.invokevirtual 65, 3) := by decide +kernel
theorem dX9_feed_27 : decode cX9_feed 27 = .ok (.aload_n 0, 1) := by decide +kernel
theorem dX9_feed_28 : decode cX9_feed 28 = .ok (.getfield 44, 3) := by decide +kernel
theorem dX9_feed_31 : decode cX9_feed 31 = .ok (.getfield 59, 3) := by decide +kernel
theorem dX9_feed_34 : decode cX9_feed 34 = .ok (.ireturn, 1) := by decide +kernel
theorem dX9_end_0 : decode cX9_end 0 = .ok (.iload_n 1, 1) := by decide +kernel
theorem dX9_end_1 : decode cX9_end 1 = .ok (.iconst 0, 1) := by decide +kernel
theorem dX9_end_2 : decode cX9_end 2 = .ok (.aload_n 0, 1) := by decide +kernel
theorem dX9_end_3 : decode cX9_end 3 = .ok (.getfield 44, 3) := by decide +kernel
theorem dX9_end_6 : decode cX9_end 6 = .ok (.getfield 59, 3) := by decide +kernel
theorem dX9_end_9 : decode cX9_end 9 = .ok (.invokestatic 69, 3) := by decide +kernel
theorem dX9_end_12 : decode cX9_end 12 = .ok (.ifCond .ne 5, 3) := by decide +kernel
theorem dX9_end_15 : decode cX9_end 15 = .ok (.iconst (-1), 1) := by decide +kernel
theorem dX9_end_16 : decode cX9_end 16 = .ok (.ireturn, 1) := by decide +kernel
theorem dX9_end_17 : decode cX9_end 17 = .ok (.aload_n 0, 1) := by decide +kernel
theorem dX9_end_18 : decode cX9_end 18 = .ok (.getfield 44, 3) := by decide +kernel
theorem dX9_end_21 : decode cX9_end 21 = .ok (.getfield 59, 3) := by decide +kernel
theorem dX9_end_24 : decode cX9_end 24 = .ok (.istore_n 2, 1) := by decide +kernel
theorem dX9_end_25 : decode cX9_end 25 = .ok (.aload_n 0, 1) := by decide +kernel
theorem dX9_end_26 : decode cX9_end 26 = .ok (.getfield 44, 3) := by decide +kernel
theorem dX9_end_29 : decode cX9_end 29 = .ok (.iload_n 1, 1) := by decide +kernel
theorem dX9_end_30 : decode cX9_end 30 = .ok (.putfield 59, 3) := by decide +kernel
theorem dX9_end_33 : decode cX9_end 33 = .ok (.iload_n 2, 1) := by decide +kernel
theorem dX9_end_34 : decode cX9_end 34 = .ok (.ireturn, 1) := by decide +kernel
theorem dX9_text_0 : decode cX9_text 0 = .ok (.aload_n 0, 1) := by decide +kernel
theorem dX9_text_1 : decode cX9_text 1 = .ok (.getfield 36, 3) := by decide +kernel
theorem dX9_text_4 : decode cX9_text 4 = .ok (.invokevirtual 73, 3) := by decide +kernel
theorem dX9_text_7 : decode cX9_text 7 = .ok (.istore_n 1, 1) := by decide +kernel
theorem dX9_text_8 : decode cX9_text 8 = .ok (.aload_n 0, 1) := by decide +kernel
theorem dX9_text_9 : decode cX9_text 9 = .ok (.getfield 44, 3) := by decide +kernel
theorem dX9_text_12 : decode cX9_text 12 = .ok (.iconst 0, 1) := by decide +kernel
theorem dX9_text_13 : decode cX9_text 13 = .ok (.putfield 59, 3) := by decide +kernel
theorem dX9_text_16 : decode cX9_text 16 = .ok (.aload_n 0, 1) := by decide +kernel
theorem dX9_text_17 : decode cX9_text 17 = .ok (.getfield 36, 3) := by decide +kernel
theorem dX9_text_20 : decode cX9_text 20 = .ok (.getfield 77, 3) := by decide +kernel
theorem dX9_text_23 : decode cX9_text 23 = .ok (.ifCond .eq 14, 3) := by decide +kernel
theorem dX9_text_26 : decode cX9_text 26 = .ok (.bipush (-10), 2) := by decide +kernel
theorem dX9_text_28 : decode cX9_text 28 = .ok (.aload_n 0, 1) := by decide +kernel
theorem dX9_text_29 : decode cX9_text 29 = .ok (.getfield 36, 3) := by decide +kernel
theorem dX9_text_32 : decode cX9_text 32 = .ok (.getfield 80, 3) := by decide +kernel
theorem dX9_text_35 : decode cX9_text 35 = .ok (.isub, 1) := by decide +kernel
theorem dX9_text_36 : decode cX9_text 36 = .ok (.ireturn, 1) := by decide +kernel
theorem dX9_text_37 : decode cX9_text 37 = .ok (.aload_n 0, 1) := by decide +kernel
theorem dX9_text_38 : decode cX9_text 38 = .ok (.getfield 10, 3) := by decide +kernel
theorem dX9_text_41 : decode cX9_text 41 = .ok (.aload_n 0, 1) := by decide +kernel
theorem dX9_text_42 : decode cX9_text 42 = .ok (.getfield 36, 3) := by decide +kernel
theorem dX9_text_45 : decode cX9_text 45 = .ok (.getfield 83, 3) := by decide +kernel
theorem dX9_text_48 : decode cX9_text 48 = .ok (.invokevirtual 86, 3) := by decide +kernel
theorem dX9_text_51 : decode cX9_text 51 = .ok (.aload_n 0, 1) := by decide +kernel
theorem dX9_text_52 : decode cX9_text 52 = .ok (.getfield 22, 3) := by decide +kernel
theorem dX9_text_55 : decode cX9_text 55 = .ok (.iconst 0, 1) := by decide +kernel
theorem dX9_text_56 : decode cX9_text 56 = .ok (.putfield 90, 3) := by decide +kernel
theorem dX9_text_59 : decode cX9_text 59 = .ok (.iconst 0, 1) := by decide +kernel
theorem dX9_text_60 : decode cX9_text 60 = .ok (.istore_n 2, 1) := by decide +kernel
theorem dX9_text_61 : decode cX9_text 61 = .ok (.iload_n 2, 1) := by decide +kernel
theorem dX9_text_62 : decode cX9_text 62 = .ok (.iconst 2, 1) := by decide +kernel
theorem dX9_text_63 : decode cX9_text 63 = .ok (.if_icmp .ge 19, 3) := by decide +kernel
theorem dX9_text_66 : decode cX9_text 66 = .ok (.aload_n 0, 1) := by decide +kernel
theorem dX9_text_67 : decode cX9_text 67 = .ok (.getfield 47, 3) := by decide +kernel
theorem dX9_text_70 : decode cX9_text 70 = .ok (.iload_n 2, 1) := by decide +kernel
theorem dX9_text_71 : decode cX9_text 71 = .ok (.aaload, 1) := by decide +kernel
theorem dX9_text_72 : decode cX9_text 72 = .ok (.iconst 0, 1) := by decide +kernel
theorem dX9_text_73 : decode cX9_text 73 = .ok (.putfield 93, 3) := by decide +kernel
theorem dX9_text_76 : decode cX9_text 76 = .ok (.iinc 2 1, 3) := by decide +kernel
theorem dX9_text_79 : decode cX9_text 79 = .ok (.goto (-18), 3) := by decide +kernel
theorem dX9_text_82 : decode cX9_text 82 = .ok (.iload_n 1, 1) := by decide +kernel
theorem dX9_text_83 : decode cX9_text 83 = .ok (.ireturn, 1) := by decide +kernel
theorem dX9_fault_0 : decode cX9_fault 0 = .ok (.aload_n 0, 1) := by decide +kernel
theorem dX9_fault_1 : decode cX9_fault 1 = .ok (.getfield 36, 3) := by decide +kernel
theorem dX9_fault_4 : decode cX9_fault 4 = .ok (.getfield 77, 3) := by decide +kernel
theorem dX9_fault_7 : decode cX9_fault 7 = .ok (.ireturn, 1) := by decide +kernel
theorem dX9_rule_0 : decode cX9_rule 0 = .ok (.iload_n 1, 1) := by decide +kernel
theorem dX9_rule_1 : decode cX9_rule 1 = .ok (.tableswitch 87 0 5 #[39, 47, 55, 63, 71, 79], 39) := by decide +kernel
theorem dX9_rule_40 : decode cX9_rule 40 = .ok (.aload_n 0, 1) := by decide +kernel
theorem dX9_rule_41 : decode cX9_rule 41 = .ok (.getfield 10, 3) := by decide +kernel
theorem dX9_rule_44 : decode cX9_rule 44 = .ok (.getfield 97, 3) := by decide +kernel
theorem dX9_rule_47 : decode cX9_rule 47 = .ok (.ireturn, 1) := by decide +kernel
theorem dX9_rule_48 : decode cX9_rule 48 = .ok (.aload_n 0, 1) := by decide +kernel
theorem dX9_rule_49 : decode cX9_rule 49 = .ok (.getfield 10, 3) := by decide +kernel
theorem dX9_rule_52 : decode cX9_rule 52 = .ok (.getfield 100, 3) := by decide +kernel
theorem dX9_rule_55 : decode cX9_rule 55 = .ok (.ireturn, 1) := by decide +kernel
theorem dX9_rule_56 : decode cX9_rule 56 = .ok (.aload_n 0, 1) := by decide +kernel
theorem dX9_rule_57 : decode cX9_rule 57 = .ok (.getfield 10, 3) := by decide +kernel
theorem dX9_rule_60 : decode cX9_rule 60 = .ok (.getfield 103, 3) := by decide +kernel
theorem dX9_rule_63 : decode cX9_rule 63 = .ok (.ireturn, 1) := by decide +kernel
theorem dX9_rule_64 : decode cX9_rule 64 = .ok (.aload_n 0, 1) := by decide +kernel
theorem dX9_rule_65 : decode cX9_rule 65 = .ok (.getfield 10, 3) := by decide +kernel
theorem dX9_rule_68 : decode cX9_rule 68 = .ok (.getfield 106, 3) := by decide +kernel
theorem dX9_rule_71 : decode cX9_rule 71 = .ok (.ireturn, 1) := by decide +kernel
theorem dX9_rule_72 : decode cX9_rule 72 = .ok (.aload_n 0, 1) := by decide +kernel
theorem dX9_rule_73 : decode cX9_rule 73 = .ok (.getfield 10, 3) := by decide +kernel
theorem dX9_rule_76 : decode cX9_rule 76 = .ok (.getfield 109, 3) := by decide +kernel
theorem dX9_rule_79 : decode cX9_rule 79 = .ok (.ireturn, 1) := by decide +kernel
theorem dX9_rule_80 : decode cX9_rule 80 = .ok (.aload_n 0, 1) := by decide +kernel
theorem dX9_rule_81 : decode cX9_rule 81 = .ok (.getfield 10, 3) := by decide +kernel
theorem dX9_rule_84 : decode cX9_rule 84 = .ok (.getfield 112, 3) := by decide +kernel
theorem dX9_rule_87 : decode cX9_rule 87 = .ok (.ireturn, 1) := by decide +kernel
theorem dX9_rule_88 : decode cX9_rule 88 = .ok (.iconst (-1), 1) := by decide +kernel
theorem dX9_rule_89 : decode cX9_rule 89 = .ok (.ireturn, 1) := by decide +kernel
theorem dX9_hole_0 : decode cX9_hole 0 = .ok (.aload_n 0, 1) := by decide +kernel
theorem dX9_hole_1 : decode cX9_hole 1 = .ok (.iload_n 1, 1) := by decide +kernel
theorem dX9_hole_2 : decode cX9_hole 2 = .ok (.invokevirtual 115, 3) := by decide +kernel
theorem dX9_hole_5 : decode cX9_hole 5 = .ok (.ifCond .eq 15, 3) := by decide +kernel
theorem dX9_hole_8 : decode cX9_hole 8 = .ok (.aload_n 0, 1) := by decide +kernel
theorem dX9_hole_9 : decode cX9_hole 9 = .ok (.getfield 10, 3) := by decide +kernel
theorem dX9_hole_12 : decode cX9_hole 12 = .ok (.getfield 119, 3) := by decide +kernel
theorem dX9_hole_15 : decode cX9_hole 15 = .ok (.iload_n 1, 1) := by decide +kernel
theorem dX9_hole_16 : decode cX9_hole 16 = .ok (.iaload, 1) := by decide +kernel
theorem dX9_hole_17 : decode cX9_hole 17 = .ok (.goto 4, 3) := by decide +kernel
theorem dX9_hole_20 : decode cX9_hole 20 = .ok (.iconst (-1), 1) := by decide +kernel
theorem dX9_hole_21 : decode cX9_hole 21 = .ok (.ireturn, 1) := by decide +kernel
theorem dX9_coin_0 : decode cX9_coin 0 = .ok (.aload_n 0, 1) := by decide +kernel
theorem dX9_coin_1 : decode cX9_coin 1 = .ok (.iload_n 1, 1) := by decide +kernel
theorem dX9_coin_2 : decode cX9_coin 2 = .ok (.invokevirtual 123, 3) := by decide +kernel
theorem dX9_coin_5 : decode cX9_coin 5 = .ok (.ifCond .ne 5, 3) := by decide +kernel
theorem dX9_coin_8 : decode cX9_coin 8 = .ok (.iconst (-1), 1) := by decide +kernel
theorem dX9_coin_9 : decode cX9_coin 9 = .ok (.ireturn, 1) := by decide +kernel
theorem dX9_coin_10 : decode cX9_coin 10 = .ok (.aload_n 0, 1) := by decide +kernel
theorem dX9_coin_11 : decode cX9_coin 11 = .ok (.getfield 10, 3) := by decide +kernel
theorem dX9_coin_14 : decode cX9_coin 14 = .ok (.getfield 126, 3) := by decide +kernel
theorem dX9_coin_17 : decode cX9_coin 17 = .ok (.iload_n 1, 1) := by decide +kernel
theorem dX9_coin_18 : decode cX9_coin 18 = .ok (.aaload, 1) := by decide +kernel
theorem dX9_coin_19 : decode cX9_coin 19 = .ok (.astore_n 3, 1) := by decide +kernel
theorem dX9_coin_20 : decode cX9_coin 20 = .ok (.iload_n 2, 1) := by decide +kernel
theorem dX9_coin_21 : decode cX9_coin 21 = .ok (.tableswitch 61 0 3 #[31, 36, 44, 49], 31) := by decide +kernel
theorem dX9_coin_52 : decode cX9_coin 52 = .ok (.aload_n 3, 1) := by decide +kernel
theorem dX9_coin_53 : decode cX9_coin 53 = .ok (.getfield 130, 3) := by decide +kernel
theorem dX9_coin_56 : decode cX9_coin 56 = .ok (.ireturn, 1) := by decide +kernel
theorem dX9_coin_57 : decode cX9_coin 57 = .ok (.aload_n 3, 1) := by decide +kernel
theorem dX9_coin_58 : decode cX9_coin 58 = .ok (.getfield 135, 3) := by decide +kernel
theorem dX9_coin_61 : decode cX9_coin 61 = .ok (.invokestatic 138, 3) := by decide +kernel
theorem dX9_coin_64 : decode cX9_coin 64 = .ok (.ireturn, 1) := by decide +kernel
theorem dX9_coin_65 : decode cX9_coin 65 = .ok (.aload_n 3, 1) := by decide +kernel
theorem dX9_coin_66 : decode cX9_coin 66 = .ok (.getfield 142, 3) := by decide +kernel
theorem dX9_coin_69 : decode cX9_coin 69 = .ok (.ireturn, 1) := by decide +kernel
theorem dX9_coin_70 : decode cX9_coin 70 = .ok (.aload_n 0, 1) := by decide +kernel
theorem dX9_coin_71 : decode cX9_coin 71 = .ok (.getfield 10, 3) := by decide +kernel
theorem dX9_coin_74 : decode cX9_coin 74 = .ok (.aload_n 3, 1) := by decide +kernel
theorem dX9_coin_75 : decode cX9_coin 75 = .ok (.invokevirtual 145, 3) := by decide +kernel
theorem dX9_coin_78 : decode cX9_coin 78 = .ok (.invokestatic 138, 3) := by decide +kernel
theorem dX9_coin_81 : decode cX9_coin 81 = .ok (.ireturn, 1) := by decide +kernel
theorem dX9_coin_82 : decode cX9_coin 82 = .ok (.iconst (-1), 1) := by decide +kernel
theorem dX9_coin_83 : decode cX9_coin 83 = .ok (.ireturn, 1) := by decide +kernel
theorem dX9_crab_0 : decode cX9_crab 0 = .ok (.aload_n 0, 1) := by decide +kernel
theorem dX9_crab_1 : decode cX9_crab 1 = .ok (.iload_n 1, 1) := by decide +kernel
theorem dX9_crab_2 : decode cX9_crab 2 = .ok (.invokevirtual 149, 3) := by decide +kernel
theorem dX9_crab_5 : decode cX9_crab 5 = .ok (.ifCond .ne 5, 3) := by decide +kernel
theorem dX9_crab_8 : decode cX9_crab 8 = .ok (.iconst (-1), 1) := by decide +kernel
theorem dX9_crab_9 : decode cX9_crab 9 = .ok (.ireturn, 1) := by decide +kernel
theorem dX9_crab_10 : decode cX9_crab 10 = .ok (.aload_n 0, 1) := by decide +kernel
theorem dX9_crab_11 : decode cX9_crab 11 = .ok (.getfield 10, 3) := by decide +kernel
theorem dX9_crab_14 : decode cX9_crab 14 = .ok (.getfield 152, 3) := by decide +kernel
theorem dX9_crab_17 : decode cX9_crab 17 = .ok (.iload_n 1, 1) := by decide +kernel
theorem dX9_crab_18 : decode cX9_crab 18 = .ok (.aaload, 1) := by decide +kernel
theorem dX9_crab_19 : decode cX9_crab 19 = .ok (.astore_n 3, 1) := by decide +kernel
theorem dX9_crab_20 : decode cX9_crab 20 = .ok (.iload_n 2, 1) := by decide +kernel
theorem dX9_crab_21 : decode cX9_crab 21 = .ok (.tableswitch 72 0 4 #[35, 40, 45, 50, 55], 35) := by decide +kernel
theorem dX9_crab_56 : decode cX9_crab 56 = .ok (.aload_n 3, 1) := by decide +kernel
theorem dX9_crab_57 : decode cX9_crab 57 = .ok (.getfield 156, 3) := by decide +kernel
theorem dX9_crab_60 : decode cX9_crab 60 = .ok (.ireturn, 1) := by decide +kernel
theorem dX9_crab_61 : decode cX9_crab 61 = .ok (.aload_n 3, 1) := by decide +kernel
theorem dX9_crab_62 : decode cX9_crab 62 = .ok (.getfield 161, 3) := by decide +kernel
theorem dX9_crab_65 : decode cX9_crab 65 = .ok (.ireturn, 1) := by decide +kernel
theorem dX9_crab_66 : decode cX9_crab 66 = .ok (.aload_n 3, 1) := by decide +kernel
theorem dX9_crab_67 : decode cX9_crab 67 = .ok (.getfield 164, 3) := by decide +kernel
theorem dX9_crab_70 : decode cX9_crab 70 = .ok (.ireturn, 1) := by decide +kernel
theorem dX9_crab_71 : decode cX9_crab 71 = .ok (.aload_n 3, 1) := by decide +kernel
theorem dX9_crab_72 : decode cX9_crab 72 = .ok (.getfield 167, 3) := by decide +kernel
theorem dX9_crab_75 : decode cX9_crab 75 = .ok (.ireturn, 1) := by decide +kernel
theorem dX9_crab_76 : decode cX9_crab 76 = .ok (.aload_n 3, 1) := by decide +kernel
theorem dX9_crab_77 : decode cX9_crab 77 = .ok (.invokevirtual 170, 3) := by decide +kernel
theorem dX9_crab_80 : decode cX9_crab 80 = .ok (.ifCond .eq 10, 3) := by decide +kernel
theorem dX9_crab_83 : decode cX9_crab 83 = .ok (.aload_n 3, 1) := by decide +kernel
theorem dX9_crab_84 : decode cX9_crab 84 = .ok (.getfield 174, 3) := by decide +kernel
theorem dX9_crab_87 : decode cX9_crab 87 = .ok (.goto 5, 3) := by decide +kernel
theorem dX9_crab_90 : decode cX9_crab 90 = .ok (.bipush (-4), 2) := by decide +kernel
theorem dX9_crab_92 : decode cX9_crab 92 = .ok (.ireturn, 1) := by decide +kernel
theorem dX9_crab_93 : decode cX9_crab 93 = .ok (.iconst (-1), 1) := by decide +kernel
theorem dX9_crab_94 : decode cX9_crab 94 = .ok (.ireturn, 1) := by decide +kernel
theorem dX9_dig_0 : decode cX9_dig 0 = .ok (.aload_n 0, 1) := by decide +kernel
theorem dX9_dig_1 : decode cX9_dig 1 = .ok (.iload_n 1, 1) := by decide +kernel
theorem dX9_dig_2 : decode cX9_dig 2 = .ok (.invokevirtual 115, 3) := by decide +kernel
theorem dX9_dig_5 : decode cX9_dig 5 = .ok (.ifCond .eq 13, 3) := by decide +kernel
theorem dX9_dig_8 : decode cX9_dig 8 = .ok (.iload_n 2, 1) := by decide +kernel
theorem dX9_dig_9 : decode cX9_dig 9 = .ok (.iconst 0, 1) := by decide +kernel
theorem dX9_dig_10 : decode cX9_dig 10 = .ok (.bipush 9, 2) := by decide +kernel
theorem dX9_dig_12 : decode cX9_dig 12 = .ok (.invokestatic 69, 3) := by decide +kernel
theorem dX9_dig_15 : decode cX9_dig 15 = .ok (.ifCond .ne 5, 3) := by decide +kernel
theorem dX9_dig_18 : decode cX9_dig 18 = .ok (.iconst (-1), 1) := by decide +kernel
theorem dX9_dig_19 : decode cX9_dig 19 = .ok (.ireturn, 1) := by decide +kernel
theorem dX9_dig_20 : decode cX9_dig 20 = .ok (.iload_n 2, 1) := by decide +kernel
theorem dX9_dig_21 : decode cX9_dig 21 = .ok (.ifCond .ne 24, 3) := by decide +kernel
theorem dX9_dig_24 : decode cX9_dig 24 = .ok (.aload_n 0, 1) := by decide +kernel
theorem dX9_dig_25 : decode cX9_dig 25 = .ok (.getfield 10, 3) := by decide +kernel
theorem dX9_dig_28 : decode cX9_dig 28 = .ok (.bipush 20, 2) := by decide +kernel
theorem dX9_dig_30 : decode cX9_dig 30 = .ok (.iload_n 1, 1) := by decide +kernel
theorem dX9_dig_31 : decode cX9_dig 31 = .ok (.iadd, 1) := by decide +kernel
theorem dX9_dig_32 : decode cX9_dig 32 = .ok (.bipush 20, 2) := by decide +kernel
theorem dX9_dig_34 : decode cX9_dig 34 = .ok (.iload_n 1, 1) := by decide +kernel
theorem dX9_dig_35 : decode cX9_dig 35 = .ok (.iadd, 1) := by decide +kernel
theorem dX9_dig_36 : decode cX9_dig 36 = .ok (.invokevirtual 177, 3) := by decide +kernel
theorem dX9_dig_39 : decode cX9_dig 39 = .ok (.ifCond .le 6, 3) := by decide +kernel
theorem dX9_dig_42 : decode cX9_dig 42 = .ok (.bipush (-2), 2) := by decide +kernel
theorem dX9_dig_44 : decode cX9_dig 44 = .ok (.ireturn, 1) := by decide +kernel
theorem dX9_dig_45 : decode cX9_dig 45 = .ok (.aload_n 0, 1) := by decide +kernel
theorem dX9_dig_46 : decode cX9_dig 46 = .ok (.getfield 10, 3) := by decide +kernel
theorem dX9_dig_49 : decode cX9_dig 49 = .ok (.getfield 119, 3) := by decide +kernel
theorem dX9_dig_52 : decode cX9_dig 52 = .ok (.iload_n 1, 1) := by decide +kernel
theorem dX9_dig_53 : decode cX9_dig 53 = .ok (.iaload, 1) := by decide +kernel
theorem dX9_dig_54 : decode cX9_dig 54 = .ok (.istore_n 3, 1) := by decide +kernel
theorem dX9_dig_55 : decode cX9_dig 55 = .ok (.aload_n 0, 1) := by decide +kernel
theorem dX9_dig_56 : decode cX9_dig 56 = .ok (.getfield 10, 3) := by decide +kernel
theorem dX9_dig_59 : decode cX9_dig 59 = .ok (.getfield 119, 3) := by decide +kernel
theorem dX9_dig_62 : decode cX9_dig 62 = .ok (.iload_n 1, 1) := by decide +kernel
theorem dX9_dig_63 : decode cX9_dig 63 = .ok (.iload_n 2, 1) := by decide +kernel
theorem dX9_dig_64 : decode cX9_dig 64 = .ok (.iastore, 1) := by decide +kernel
theorem dX9_dig_65 : decode cX9_dig 65 = .ok (.iload_n 3, 1) := by decide +kernel
theorem dX9_dig_66 : decode cX9_dig 66 = .ok (.ireturn, 1) := by decide +kernel
theorem dX9_mint_0 : decode cX9_mint 0 = .ok (.iload_n 1, 1) := by decide +kernel
theorem dX9_mint_1 : decode cX9_mint 1 = .ok (.iconst 1, 1) := by decide +kernel
theorem dX9_mint_2 : decode cX9_mint 2 = .ok (.bipush 9, 2) := by decide +kernel
theorem dX9_mint_4 : decode cX9_mint 4 = .ok (.invokestatic 69, 3) := by decide +kernel
theorem dX9_mint_7 : decode cX9_mint 7 = .ok (.ifCond .eq 11, 3) := by decide +kernel
theorem dX9_mint_10 : decode cX9_mint 10 = .ok (.aload_n 0, 1) := by decide +kernel
theorem dX9_mint_11 : decode cX9_mint 11 = .ok (.iload_n 2, 1) := by decide +kernel
theorem dX9_mint_12 : decode cX9_mint 12 = .ok (.invokevirtual 115, 3) := by decide +kernel
theorem dX9_mint_15 : decode cX9_mint 15 = .ok (.ifCond .ne 5, 3) := by decide +kernel
theorem dX9_mint_18 : decode cX9_mint 18 = .ok (.iconst (-1), 1) := by decide +kernel
theorem dX9_mint_19 : decode cX9_mint 19 = .ok (.ireturn, 1) := by decide +kernel
theorem dX9_mint_20 : decode cX9_mint 20 = .ok (.aload_n 0, 1) := by decide +kernel
theorem dX9_mint_21 : decode cX9_mint 21 = .ok (.getfield 10, 3) := by decide +kernel
theorem dX9_mint_24 : decode cX9_mint 24 = .ok (.getfield 100, 3) := by decide +kernel
theorem dX9_mint_27 : decode cX9_mint 27 = .ok (.bipush 6, 2) := by decide +kernel
theorem dX9_mint_29 : decode cX9_mint 29 = .ok (.if_icmp .lt 6, 3) := by decide +kernel
theorem dX9_mint_32 : decode cX9_mint 32 = .ok (.bipush (-3), 2) := by decide +kernel
theorem dX9_mint_34 : decode cX9_mint 34 = .ok (.ireturn, 1) := by decide +kernel
theorem dX9_mint_35 : decode cX9_mint 35 = .ok (.aload_n 0, 1) := by decide +kernel
theorem dX9_mint_36 : decode cX9_mint 36 = .ok (.getfield 10, 3) := by decide +kernel
theorem dX9_mint_39 : decode cX9_mint 39 = .ok (.iload_n 1, 1) := by decide +kernel
theorem dX9_mint_40 : decode cX9_mint 40 = .ok (.iload_n 2, 1) := by decide +kernel
theorem dX9_mint_41 : decode cX9_mint 41 = .ok (.invokevirtual 181, 3) := by decide +kernel
theorem dX9_mint_44 : decode cX9_mint 44 = .ok (.aload_n 0, 1) := by decide +kernel
theorem dX9_mint_45 : decode cX9_mint 45 = .ok (.getfield 10, 3) := by decide +kernel
theorem dX9_mint_48 : decode cX9_mint 48 = .ok (.getfield 100, 3) := by decide +kernel
theorem dX9_mint_51 : decode cX9_mint 51 = .ok (.ireturn, 1) := by decide +kernel
theorem dX9_lie_0 : decode cX9_lie 0 = .ok (.aload_n 0, 1) := by decide +kernel
theorem dX9_lie_1 : decode cX9_lie 1 = .ok (.iload_n 1, 1) := by decide +kernel
theorem dX9_lie_2 : decode cX9_lie 2 = .ok (.invokevirtual 123, 3) := by decide +kernel
theorem dX9_lie_5 : decode cX9_lie 5 = .ok (.ifCond .eq 11, 3) := by decide +kernel
theorem dX9_lie_8 : decode cX9_lie 8 = .ok (.aload_n 0, 1) := by decide +kernel
theorem dX9_lie_9 : decode cX9_lie 9 = .ok (.iload_n 2, 1) := by decide +kernel
theorem dX9_lie_10 : decode cX9_lie 10 = .ok (.invokevirtual 115, 3) := by decide +kernel
theorem dX9_lie_13 : decode cX9_lie 13 = .ok (.ifCond .ne 5, 3) := by decide +kernel
theorem dX9_lie_16 : decode cX9_lie 16 = .ok (.iconst (-1), 1) := by decide +kernel
theorem dX9_lie_17 : decode cX9_lie 17 = .ok (.ireturn, 1) := by decide +kernel
theorem dX9_lie_18 : decode cX9_lie 18 = .ok (.aload_n 0, 1) := by decide +kernel
theorem dX9_lie_19 : decode cX9_lie 19 = .ok (.getfield 10, 3) := by decide +kernel
theorem dX9_lie_22 : decode cX9_lie 22 = .ok (.getfield 126, 3) := by decide +kernel
theorem dX9_lie_25 : decode cX9_lie 25 = .ok (.iload_n 1, 1) := by decide +kernel
theorem dX9_lie_26 : decode cX9_lie 26 = .ok (.aaload, 1) := by decide +kernel
theorem dX9_lie_27 : decode cX9_lie 27 = .ok (.getfield 142, 3) := by decide +kernel
theorem dX9_lie_30 : decode cX9_lie 30 = .ok (.istore_n 3, 1) := by decide +kernel
theorem dX9_lie_31 : decode cX9_lie 31 = .ok (.aload_n 0, 1) := by decide +kernel
theorem dX9_lie_32 : decode cX9_lie 32 = .ok (.getfield 10, 3) := by decide +kernel
theorem dX9_lie_35 : decode cX9_lie 35 = .ok (.iload_n 1, 1) := by decide +kernel
theorem dX9_lie_36 : decode cX9_lie 36 = .ok (.iload_n 2, 1) := by decide +kernel
theorem dX9_lie_37 : decode cX9_lie 37 = .ok (.invokevirtual 185, 3) := by decide +kernel
theorem dX9_lie_40 : decode cX9_lie 40 = .ok (.iload_n 3, 1) := by decide +kernel
theorem dX9_lie_41 : decode cX9_lie 41 = .ok (.ireturn, 1) := by decide +kernel
theorem dX9_fake_0 : decode cX9_fake 0 = .ok (.aload_n 0, 1) := by decide +kernel
theorem dX9_fake_1 : decode cX9_fake 1 = .ok (.iload_n 1, 1) := by decide +kernel
theorem dX9_fake_2 : decode cX9_fake 2 = .ok (.invokevirtual 123, 3) := by decide +kernel
theorem dX9_fake_5 : decode cX9_fake 5 = .ok (.ifCond .ne 5, 3) := by decide +kernel
theorem dX9_fake_8 : decode cX9_fake 8 = .ok (.iconst (-1), 1) := by decide +kernel
theorem dX9_fake_9 : decode cX9_fake 9 = .ok (.ireturn, 1) := by decide +kernel
theorem dX9_fake_10 : decode cX9_fake 10 = .ok (.aload_n 0, 1) := by decide +kernel
theorem dX9_fake_11 : decode cX9_fake 11 = .ok (.getfield 10, 3) := by decide +kernel
theorem dX9_fake_14 : decode cX9_fake 14 = .ok (.getfield 126, 3) := by decide +kernel
theorem dX9_fake_17 : decode cX9_fake 17 = .ok (.iload_n 1, 1) := by decide +kernel
theorem dX9_fake_18 : decode cX9_fake 18 = .ok (.aaload, 1) := by decide +kernel
theorem dX9_fake_19 : decode cX9_fake 19 = .ok (.getfield 135, 3) := by decide +kernel
theorem dX9_fake_22 : decode cX9_fake 22 = .ok (.invokestatic 138, 3) := by decide +kernel
theorem dX9_fake_25 : decode cX9_fake 25 = .ok (.istore_n 3, 1) := by decide +kernel
theorem dX9_fake_26 : decode cX9_fake 26 = .ok (.aload_n 0, 1) := by decide +kernel
theorem dX9_fake_27 : decode cX9_fake 27 = .ok (.getfield 10, 3) := by decide +kernel
theorem dX9_fake_30 : decode cX9_fake 30 = .ok (.getfield 126, 3) := by decide +kernel
theorem dX9_fake_33 : decode cX9_fake 33 = .ok (.iload_n 1, 1) := by decide +kernel
theorem dX9_fake_34 : decode cX9_fake 34 = .ok (.aaload, 1) := by decide +kernel
theorem dX9_fake_35 : decode cX9_fake 35 = .ok (.iload_n 2, 1) := by decide +kernel
theorem dX9_fake_36 : decode cX9_fake 36 = .ok (.putfield 135, 3) := by decide +kernel
theorem dX9_fake_39 : decode cX9_fake 39 = .ok (.iload_n 3, 1) := by decide +kernel
theorem dX9_fake_40 : decode cX9_fake 40 = .ok (.ireturn, 1) := by decide +kernel
theorem dX9_set_0 : decode cX9_set 0 = .ok (.aload_n 0, 1) := by decide +kernel
theorem dX9_set_1 : decode cX9_set 1 = .ok (.iload_n 1, 1) := by decide +kernel
theorem dX9_set_2 : decode cX9_set 2 = .ok (.invokevirtual 149, 3) := by decide +kernel
theorem dX9_set_5 : decode cX9_set 5 = .ok (.ifCond .eq 11, 3) := by decide +kernel
theorem dX9_set_8 : decode cX9_set 8 = .ok (.aload_n 0, 1) := by decide +kernel
theorem dX9_set_9 : decode cX9_set 9 = .ok (.iload_n 2, 1) := by decide +kernel
theorem dX9_set_10 : decode cX9_set 10 = .ok (.invokevirtual 115, 3) := by decide +kernel
theorem dX9_set_13 : decode cX9_set 13 = .ok (.ifCond .ne 5, 3) := by decide +kernel
theorem dX9_set_16 : decode cX9_set 16 = .ok (.iconst (-1), 1) := by decide +kernel
theorem dX9_set_17 : decode cX9_set 17 = .ok (.ireturn, 1) := by decide +kernel
theorem dX9_set_18 : decode cX9_set 18 = .ok (.aload_n 0, 1) := by decide +kernel
theorem dX9_set_19 : decode cX9_set 19 = .ok (.getfield 10, 3) := by decide +kernel
theorem dX9_set_22 : decode cX9_set 22 = .ok (.getfield 152, 3) := by decide +kernel
theorem dX9_set_25 : decode cX9_set 25 = .ok (.iload_n 1, 1) := by decide +kernel
theorem dX9_set_26 : decode cX9_set 26 = .ok (.aaload, 1) := by decide +kernel
theorem dX9_set_27 : decode cX9_set 27 = .ok (.getfield 167, 3) := by decide +kernel
theorem dX9_set_30 : decode cX9_set 30 = .ok (.istore_n 3, 1) := by decide +kernel
theorem dX9_set_31 : decode cX9_set 31 = .ok (.aload_n 0, 1) := by decide +kernel
theorem dX9_set_32 : decode cX9_set 32 = .ok (.getfield 10, 3) := by decide +kernel
theorem dX9_set_35 : decode cX9_set 35 = .ok (.getfield 152, 3) := by decide +kernel
theorem dX9_set_38 : decode cX9_set 38 = .ok (.iload_n 1, 1) := by decide +kernel
theorem dX9_set_39 : decode cX9_set 39 = .ok (.aaload, 1) := by decide +kernel
theorem dX9_set_40 : decode cX9_set 40 = .ok (.iload_n 2, 1) := by decide +kernel
theorem dX9_set_41 : decode cX9_set 41 = .ok (.putfield 167, 3) := by decide +kernel
theorem dX9_set_44 : decode cX9_set 44 = .ok (.iload_n 3, 1) := by decide +kernel
theorem dX9_set_45 : decode cX9_set 45 = .ok (.ireturn, 1) := by decide +kernel
theorem dX9_hand_0 : decode cX9_hand 0 = .ok (.aload_n 0, 1) := by decide +kernel
theorem dX9_hand_1 : decode cX9_hand 1 = .ok (.iload_n 1, 1) := by decide +kernel
theorem dX9_hand_2 : decode cX9_hand 2 = .ok (.invokevirtual 149, 3) := by decide +kernel
theorem dX9_hand_5 : decode cX9_hand 5 = .ok (.ifCond .eq 12, 3) := by decide +kernel
theorem dX9_hand_8 : decode cX9_hand 8 = .ok (.iload_n 2, 1) := by decide +kernel
theorem dX9_hand_9 : decode cX9_hand 9 = .ok (.iconst 0, 1) := by decide +kernel
theorem dX9_hand_10 : decode cX9_hand 10 = .ok (.iconst 1, 1) := by decide +kernel
theorem dX9_hand_11 : decode cX9_hand 11 = .ok (.invokestatic 69, 3) := by decide +kernel
theorem dX9_hand_14 : decode cX9_hand 14 = .ok (.ifCond .ne 5, 3) := by decide +kernel
theorem dX9_hand_17 : decode cX9_hand 17 = .ok (.iconst (-1), 1) := by decide +kernel
theorem dX9_hand_18 : decode cX9_hand 18 = .ok (.ireturn, 1) := by decide +kernel
theorem dX9_hand_19 : decode cX9_hand 19 = .ok (.aload_n 0, 1) := by decide +kernel
theorem dX9_hand_20 : decode cX9_hand 20 = .ok (.getfield 10, 3) := by decide +kernel
theorem dX9_hand_23 : decode cX9_hand 23 = .ok (.getfield 152, 3) := by decide +kernel
theorem dX9_hand_26 : decode cX9_hand 26 = .ok (.iload_n 1, 1) := by decide +kernel
theorem dX9_hand_27 : decode cX9_hand 27 = .ok (.aaload, 1) := by decide +kernel
theorem dX9_hand_28 : decode cX9_hand 28 = .ok (.getfield 164, 3) := by decide +kernel
theorem dX9_hand_31 : decode cX9_hand 31 = .ok (.istore_n 3, 1) := by decide +kernel
theorem dX9_hand_32 : decode cX9_hand 32 = .ok (.aload_n 0, 1) := by decide +kernel
theorem dX9_hand_33 : decode cX9_hand 33 = .ok (.getfield 10, 3) := by decide +kernel
theorem dX9_hand_36 : decode cX9_hand 36 = .ok (.getfield 152, 3) := by decide +kernel
theorem dX9_hand_39 : decode cX9_hand 39 = .ok (.iload_n 1, 1) := by decide +kernel
theorem dX9_hand_40 : decode cX9_hand 40 = .ok (.aaload, 1) := by decide +kernel
theorem dX9_hand_41 : decode cX9_hand 41 = .ok (.iload_n 2, 1) := by decide +kernel
theorem dX9_hand_42 : decode cX9_hand 42 = .ok (.putfield 164, 3) := by decide +kernel
theorem dX9_hand_45 : decode cX9_hand 45 = .ok (.iload_n 3, 1) := by decide +kernel
theorem dX9_hand_46 : decode cX9_hand 46 = .ok (.ireturn, 1) := by decide +kernel
theorem dX9_tide_0 : decode cX9_tide 0 = .ok (.iload_n 1, 1) := by decide +kernel
theorem dX9_tide_1 : decode cX9_tide 1 = .ok (.iconst 0, 1) := by decide +kernel
theorem dX9_tide_2 : decode cX9_tide 2 = .ok (.bipush 9, 2) := by decide +kernel
theorem dX9_tide_4 : decode cX9_tide 4 = .ok (.invokestatic 69, 3) := by decide +kernel
theorem dX9_tide_7 : decode cX9_tide 7 = .ok (.ifCond .eq 13, 3) := by decide +kernel
theorem dX9_tide_10 : decode cX9_tide 10 = .ok (.iload_n 2, 1) := by decide +kernel
theorem dX9_tide_11 : decode cX9_tide 11 = .ok (.iconst 0, 1) := by decide +kernel
theorem dX9_tide_12 : decode cX9_tide 12 = .ok (.bipush 8, 2) := by decide +kernel
theorem dX9_tide_14 : decode cX9_tide 14 = .ok (.invokestatic 69, 3) := by decide +kernel
theorem dX9_tide_17 : decode cX9_tide 17 = .ok (.ifCond .ne 5, 3) := by decide +kernel
theorem dX9_tide_20 : decode cX9_tide 20 = .ok (.iconst (-1), 1) := by decide +kernel
theorem dX9_tide_21 : decode cX9_tide 21 = .ok (.ireturn, 1) := by decide +kernel
theorem dX9_tide_22 : decode cX9_tide 22 = .ok (.aload_n 0, 1) := by decide +kernel
theorem dX9_tide_23 : decode cX9_tide 23 = .ok (.getfield 10, 3) := by decide +kernel
theorem dX9_tide_26 : decode cX9_tide 26 = .ok (.getfield 106, 3) := by decide +kernel
theorem dX9_tide_29 : decode cX9_tide 29 = .ok (.istore_n 3, 1) := by decide +kernel
theorem dX9_tide_30 : decode cX9_tide 30 = .ok (.aload_n 0, 1) := by decide +kernel
theorem dX9_tide_31 : decode cX9_tide 31 = .ok (.getfield 10, 3) := by decide +kernel
theorem dX9_tide_34 : decode cX9_tide 34 = .ok (.iload_n 1, 1) := by decide +kernel
theorem dX9_tide_35 : decode cX9_tide 35 = .ok (.putfield 106, 3) := by decide +kernel
theorem dX9_tide_38 : decode cX9_tide 38 = .ok (.aload_n 0, 1) := by decide +kernel
theorem dX9_tide_39 : decode cX9_tide 39 = .ok (.getfield 10, 3) := by decide +kernel
theorem dX9_tide_42 : decode cX9_tide 42 = .ok (.iload_n 2, 1) := by decide +kernel
theorem dX9_tide_43 : decode cX9_tide 43 = .ok (.putfield 109, 3) := by decide +kernel
theorem dX9_tide_46 : decode cX9_tide 46 = .ok (.iload_n 3, 1) := by decide +kernel
theorem dX9_tide_47 : decode cX9_tide 47 = .ok (.ireturn, 1) := by decide +kernel
theorem dX9_go_0 : decode cX9_go 0 = .ok (.iload_n 1, 1) := by decide +kernel
theorem dX9_go_1 : decode cX9_go 1 = .ok (.iconst 0, 1) := by decide +kernel
theorem dX9_go_2 : decode cX9_go 2 = .ok (.bipush 60, 2) := by decide +kernel
theorem dX9_go_4 : decode cX9_go 4 = .ok (.invokestatic 69, 3) := by decide +kernel
theorem dX9_go_7 : decode cX9_go 7 = .ok (.ifCond .ne 5, 3) := by decide +kernel
theorem dX9_go_10 : decode cX9_go 10 = .ok (.iconst (-1), 1) := by decide +kernel
theorem dX9_go_11 : decode cX9_go 11 = .ok (.ireturn, 1) := by decide +kernel
theorem dX9_go_12 : decode cX9_go 12 = .ok (.aload_n 0, 1) := by decide +kernel
theorem dX9_go_13 : decode cX9_go 13 = .ok (.getfield 10, 3) := by decide +kernel
theorem dX9_go_16 : decode cX9_go 16 = .ok (.getfield 112, 3) := by decide +kernel
theorem dX9_go_19 : decode cX9_go 19 = .ok (.iload_n 1, 1) := by decide +kernel
theorem dX9_go_20 : decode cX9_go 20 = .ok (.iadd, 1) := by decide +kernel
theorem dX9_go_21 : decode cX9_go 21 = .ok (.sipush 1000, 3) := by decide +kernel
theorem dX9_go_24 : decode cX9_go 24 = .ok (.if_icmp .lt 6, 3) := by decide +kernel
theorem dX9_go_27 : decode cX9_go 27 = .ok (.bipush (-3), 2) := by decide +kernel
theorem dX9_go_29 : decode cX9_go 29 = .ok (.ireturn, 1) := by decide +kernel
theorem dX9_go_30 : decode cX9_go 30 = .ok (.aload_n 0, 1) := by decide +kernel
theorem dX9_go_31 : decode cX9_go 31 = .ok (.getfield 10, 3) := by decide +kernel
theorem dX9_go_34 : decode cX9_go 34 = .ok (.iload_n 1, 1) := by decide +kernel
theorem dX9_go_35 : decode cX9_go 35 = .ok (.invokevirtual 188, 3) := by decide +kernel
theorem dX9_go_38 : decode cX9_go 38 = .ok (.aload_n 0, 1) := by decide +kernel
theorem dX9_go_39 : decode cX9_go 39 = .ok (.getfield 10, 3) := by decide +kernel
theorem dX9_go_42 : decode cX9_go 42 = .ok (.invokevirtual 192, 3) := by decide +kernel
theorem dX9_go_45 : decode cX9_go 45 = .ok (.ireturn, 1) := by decide +kernel
theorem dX9_ahead_0 : decode cX9_ahead 0 = .ok (.aload_n 0, 1) := by decide +kernel
theorem dX9_ahead_1 : decode cX9_ahead 1 = .ok (.iload_n 1, 1) := by decide +kernel
theorem dX9_ahead_2 : decode cX9_ahead 2 = .ok (.invokevirtual 123, 3) := by decide +kernel
theorem dX9_ahead_5 : decode cX9_ahead 5 = .ok (.ifCond .eq 13, 3) := by decide +kernel
theorem dX9_ahead_8 : decode cX9_ahead 8 = .ok (.iload_n 2, 1) := by decide +kernel
theorem dX9_ahead_9 : decode cX9_ahead 9 = .ok (.iconst 0, 1) := by decide +kernel
theorem dX9_ahead_10 : decode cX9_ahead 10 = .ok (.bipush 60, 2) := by decide +kernel
theorem dX9_ahead_12 : decode cX9_ahead 12 = .ok (.invokestatic 69, 3) := by decide +kernel
theorem dX9_ahead_15 : decode cX9_ahead 15 = .ok (.ifCond .ne 5, 3) := by decide +kernel
theorem dX9_ahead_18 : decode cX9_ahead 18 = .ok (.iconst (-1), 1) := by decide +kernel
theorem dX9_ahead_19 : decode cX9_ahead 19 = .ok (.ireturn, 1) := by decide +kernel
theorem dX9_ahead_20 : decode cX9_ahead 20 = .ok (.aload_n 0, 1) := by decide +kernel
theorem dX9_ahead_21 : decode cX9_ahead 21 = .ok (.getfield 16, 3) := by decide +kernel
theorem dX9_ahead_24 : decode cX9_ahead 24 = .ok (.aload_n 0, 1) := by decide +kernel
theorem dX9_ahead_25 : decode cX9_ahead 25 = .ok (.getfield 10, 3) := by decide +kernel
theorem dX9_ahead_28 : decode cX9_ahead 28 = .ok (.invokevirtual 86, 3) := by decide +kernel
theorem dX9_ahead_31 : decode cX9_ahead 31 = .ok (.aload_n 0, 1) := by decide +kernel
theorem dX9_ahead_32 : decode cX9_ahead 32 = .ok (.getfield 16, 3) := by decide +kernel
theorem dX9_ahead_35 : decode cX9_ahead 35 = .ok (.iload_n 2, 1) := by decide +kernel
theorem dX9_ahead_36 : decode cX9_ahead 36 = .ok (.invokevirtual 188, 3) := by decide +kernel
theorem dX9_ahead_39 : decode cX9_ahead 39 = .ok (.aload_n 0, 1) := by decide +kernel
theorem dX9_ahead_40 : decode cX9_ahead 40 = .ok (.getfield 16, 3) := by decide +kernel
theorem dX9_ahead_43 : decode cX9_ahead 43 = .ok (.getfield 126, 3) := by decide +kernel
theorem dX9_ahead_46 : decode cX9_ahead 46 = .ok (.iload_n 1, 1) := by decide +kernel
theorem dX9_ahead_47 : decode cX9_ahead 47 = .ok (.aaload, 1) := by decide +kernel
theorem dX9_ahead_48 : decode cX9_ahead 48 = .ok (.getfield 142, 3) := by decide +kernel
theorem dX9_ahead_51 : decode cX9_ahead 51 = .ok (.ireturn, 1) := by decide +kernel
theorem dX9_grow_0 : decode cX9_grow 0 = .ok (.aload_n 0, 1) := by decide +kernel
theorem dX9_grow_1 : decode cX9_grow 1 = .ok (.getfield 10, 3) := by decide +kernel
theorem dX9_grow_4 : decode cX9_grow 4 = .ok (.getfield 103, 3) := by decide +kernel
theorem dX9_grow_7 : decode cX9_grow 7 = .ok (.ifCond .ne 6, 3) := by decide +kernel
theorem dX9_grow_10 : decode cX9_grow 10 = .ok (.bipush (-2), 2) := by decide +kernel
theorem dX9_grow_12 : decode cX9_grow 12 = .ok (.ireturn, 1) := by decide +kernel
theorem dX9_grow_13 : decode cX9_grow 13 = .ok (.aload_n 0, 1) := by decide +kernel
theorem dX9_grow_14 : decode cX9_grow 14 = .ok (.getfield 10, 3) := by decide +kernel
theorem dX9_grow_17 : decode cX9_grow 17 = .ok (.iconst 1, 1) := by decide +kernel
theorem dX9_grow_18 : decode cX9_grow 18 = .ok (.invokevirtual 195, 3) := by decide +kernel
theorem dX9_grow_21 : decode cX9_grow 21 = .ok (.aload_n 0, 1) := by decide +kernel
theorem dX9_grow_22 : decode cX9_grow 22 = .ok (.getfield 10, 3) := by decide +kernel
theorem dX9_grow_25 : decode cX9_grow 25 = .ok (.invokevirtual 198, 3) := by decide +kernel
theorem dX9_grow_28 : decode cX9_grow 28 = .ok (.ireturn, 1) := by decide +kernel
theorem dX9_sorted_0 : decode cX9_sorted 0 = .ok (.aload_n 0, 1) := by decide +kernel
theorem dX9_sorted_1 : decode cX9_sorted 1 = .ok (.getfield 16, 3) := by decide +kernel
theorem dX9_sorted_4 : decode cX9_sorted 4 = .ok (.aload_n 0, 1) := by decide +kernel
theorem dX9_sorted_5 : decode cX9_sorted 5 = .ok (.getfield 10, 3) := by decide +kernel
theorem dX9_sorted_8 : decode cX9_sorted 8 = .ok (.invokevirtual 86, 3) := by decide +kernel
theorem dX9_sorted_11 : decode cX9_sorted 11 = .ok (.aload_n 0, 1) := by decide +kernel
theorem dX9_sorted_12 : decode cX9_sorted 12 = .ok (.getfield 16, 3) := by decide +kernel
theorem dX9_sorted_15 : decode cX9_sorted 15 = .ok (.bipush 40, 2) := by decide +kernel
theorem dX9_sorted_17 : decode cX9_sorted 17 = .ok (.invokevirtual 201, 3) := by decide +kernel
theorem dX9_sorted_20 : decode cX9_sorted 20 = .ok (.ireturn, 1) := by decide +kernel
theorem dX9_orders_0 : decode cX9_orders 0 = .ok (.iload_n 1, 1) := by decide +kernel
theorem dX9_orders_1 : decode cX9_orders 1 = .ok (.iconst 0, 1) := by decide +kernel
theorem dX9_orders_2 : decode cX9_orders 2 = .ok (.iconst 1, 1) := by decide +kernel
theorem dX9_orders_3 : decode cX9_orders 3 = .ok (.invokestatic 69, 3) := by decide +kernel
theorem dX9_orders_6 : decode cX9_orders 6 = .ok (.ifCond .ne 16, 3) := by decide +kernel
theorem dX9_orders_9 : decode cX9_orders 9 = .ok (.iload_n 1, 1) := by decide +kernel
theorem dX9_orders_10 : decode cX9_orders 10 = .ok (.bipush 10, 2) := by decide +kernel
theorem dX9_orders_12 : decode cX9_orders 12 = .ok (.bipush 13, 2) := by decide +kernel
theorem dX9_orders_14 : decode cX9_orders 14 = .ok (.invokestatic 69, 3) := by decide +kernel
theorem dX9_orders_17 : decode cX9_orders 17 = .ok (.ifCond .ne 5, 3) := by decide +kernel
theorem dX9_orders_20 : decode cX9_orders 20 = .ok (.iconst (-1), 1) := by decide +kernel
theorem dX9_orders_21 : decode cX9_orders 21 = .ok (.ireturn, 1) := by decide +kernel
theorem dX9_orders_22 : decode cX9_orders 22 = .ok (.aload_n 0, 1) := by decide +kernel
theorem dX9_orders_23 : decode cX9_orders 23 = .ok (.getfield 29, 3) := by decide +kernel
theorem dX9_orders_26 : decode cX9_orders 26 = .ok (.aload_n 0, 1) := by decide +kernel
theorem dX9_orders_27 : decode cX9_orders 27 = .ok (.getfield 10, 3) := by decide +kernel
theorem dX9_orders_30 : decode cX9_orders 30 = .ok (.aload_n 0, 1) := by decide +kernel
theorem dX9_orders_31 : decode cX9_orders 31 = .ok (.getfield 16, 3) := by decide +kernel
theorem dX9_orders_34 : decode cX9_orders 34 = .ok (.invokevirtual 205, 3) := by decide +kernel
theorem dX9_orders_37 : decode cX9_orders 37 = .ok (.iload_n 1, 1) := by decide +kernel
theorem dX9_orders_38 : decode cX9_orders 38 = .ok (.ifCond .ne 11, 3) := by decide +kernel
theorem dX9_orders_41 : decode cX9_orders 41 = .ok (.aload_n 0, 1) := by decide +kernel
theorem dX9_orders_42 : decode cX9_orders 42 = .ok (.getfield 29, 3) := by decide +kernel
theorem dX9_orders_45 : decode cX9_orders 45 = .ok (.getfield 209, 3) := by decide +kernel
theorem dX9_orders_48 : decode cX9_orders 48 = .ok (.ireturn, 1) := by decide +kernel
theorem dX9_orders_49 : decode cX9_orders 49 = .ok (.aload_n 0, 1) := by decide +kernel
theorem dX9_orders_50 : decode cX9_orders 50 = .ok (.getfield 29, 3) := by decide +kernel
theorem dX9_orders_53 : decode cX9_orders 53 = .ok (.getfield 209, 3) := by decide +kernel
theorem dX9_orders_56 : decode cX9_orders 56 = .ok (.ifCond .ne 6, 3) := by decide +kernel
theorem dX9_orders_59 : decode cX9_orders 59 = .ok (.bipush (-4), 2) := by decide +kernel
theorem dX9_orders_61 : decode cX9_orders 61 = .ok (.ireturn, 1) := by decide +kernel
theorem dX9_orders_62 : decode cX9_orders 62 = .ok (.iload_n 1, 1) := by decide +kernel
theorem dX9_orders_63 : decode cX9_orders 63 = .ok (.iconst 1, 1) := by decide +kernel
theorem dX9_orders_64 : decode cX9_orders 64 = .ok (.if_icmp .ne 11, 3) := by decide +kernel
theorem dX9_orders_67 : decode cX9_orders 67 = .ok (.aload_n 0, 1) := by decide +kernel
theorem dX9_orders_68 : decode cX9_orders 68 = .ok (.getfield 29, 3) := by decide +kernel
theorem dX9_orders_71 : decode cX9_orders 71 = .ok (.getfield 210, 3) := by decide +kernel
theorem dX9_orders_74 : decode cX9_orders 74 = .ok (.ireturn, 1) := by decide +kernel
theorem dX9_orders_75 : decode cX9_orders 75 = .ok (.iload_n 1, 1) := by decide +kernel
theorem dX9_orders_76 : decode cX9_orders 76 = .ok (.bipush 10, 2) := by decide +kernel
theorem dX9_orders_78 : decode cX9_orders 78 = .ok (.isub, 1) := by decide +kernel
theorem dX9_orders_79 : decode cX9_orders 79 = .ok (.istore_n 2, 1) := by decide +kernel
theorem dX9_orders_80 : decode cX9_orders 80 = .ok (.iload_n 2, 1) := by decide +kernel
theorem dX9_orders_81 : decode cX9_orders 81 = .ok (.aload_n 0, 1) := by decide +kernel
theorem dX9_orders_82 : decode cX9_orders 82 = .ok (.getfield 10, 3) := by decide +kernel
theorem dX9_orders_85 : decode cX9_orders 85 = .ok (.getfield 103, 3) := by decide +kernel
theorem dX9_orders_88 : decode cX9_orders 88 = .ok (.if_icmp .ge 15, 3) := by decide +kernel
theorem dX9_orders_91 : decode cX9_orders 91 = .ok (.aload_n 0, 1) := by decide +kernel
theorem dX9_orders_92 : decode cX9_orders 92 = .ok (.getfield 29, 3) := by decide +kernel
theorem dX9_orders_95 : decode cX9_orders 95 = .ok (.getfield 213, 3) := by decide +kernel
theorem dX9_orders_98 : decode cX9_orders 98 = .ok (.iload_n 2, 1) := by decide +kernel
theorem dX9_orders_99 : decode cX9_orders 99 = .ok (.iaload, 1) := by decide +kernel
theorem dX9_orders_100 : decode cX9_orders 100 = .ok (.goto 5, 3) := by decide +kernel
theorem dX9_orders_103 : decode cX9_orders 103 = .ok (.bipush (-4), 2) := by decide +kernel
theorem dX9_orders_105 : decode cX9_orders 105 = .ok (.ireturn, 1) := by decide +kernel
theorem dX9_fewest_0 : decode cX9_fewest 0 = .ok (.iload_n 1, 1) := by decide +kernel
theorem dX9_fewest_1 : decode cX9_fewest 1 = .ok (.iconst 0, 1) := by decide +kernel
theorem dX9_fewest_2 : decode cX9_fewest 2 = .ok (.iconst 1, 1) := by decide +kernel
theorem dX9_fewest_3 : decode cX9_fewest 3 = .ok (.invokestatic 69, 3) := by decide +kernel
theorem dX9_fewest_6 : decode cX9_fewest 6 = .ok (.ifCond .ne 5, 3) := by decide +kernel
theorem dX9_fewest_9 : decode cX9_fewest 9 = .ok (.iconst (-1), 1) := by decide +kernel
theorem dX9_fewest_10 : decode cX9_fewest 10 = .ok (.ireturn, 1) := by decide +kernel
theorem dX9_fewest_11 : decode cX9_fewest 11 = .ok (.bipush (-4), 2) := by decide +kernel
theorem dX9_fewest_13 : decode cX9_fewest 13 = .ok (.istore_n 2, 1) := by decide +kernel
theorem dX9_fewest_14 : decode cX9_fewest 14 = .ok (.aload_n 0, 1) := by decide +kernel
theorem dX9_fewest_15 : decode cX9_fewest 15 = .ok (.getfield 10, 3) := by decide +kernel
theorem dX9_fewest_18 : decode cX9_fewest 18 = .ok (.getfield 103, 3) := by decide +kernel
theorem dX9_fewest_21 : decode cX9_fewest 21 = .ok (.iconst 1, 1) := by decide +kernel
theorem dX9_fewest_22 : decode cX9_fewest 22 = .ok (.iadd, 1) := by decide +kernel
theorem dX9_fewest_23 : decode cX9_fewest 23 = .ok (.istore_n 3, 1) := by decide +kernel
theorem dX9_fewest_24 : decode cX9_fewest 24 = .ok (.iconst 0, 1) := by decide +kernel
theorem dX9_fewest_25 : decode cX9_fewest 25 = .ok (.istore 4, 2) := by decide +kernel
theorem dX9_fewest_27 : decode cX9_fewest 27 = .ok (.iload 4, 2) := by decide +kernel
theorem dX9_fewest_29 : decode cX9_fewest 29 = .ok (.iconst 1, 1) := by decide +kernel
theorem dX9_fewest_30 : decode cX9_fewest 30 = .ok (.aload_n 0, 1) := by decide +kernel
theorem dX9_fewest_31 : decode cX9_fewest 31 = .ok (.getfield 10, 3) := by decide +kernel
theorem dX9_fewest_34 : decode cX9_fewest 34 = .ok (.getfield 103, 3) := by decide +kernel
theorem dX9_fewest_37 : decode cX9_fewest 37 = .ok (.ishl, 1) := by decide +kernel
theorem dX9_fewest_38 : decode cX9_fewest 38 = .ok (.if_icmp .ge 36, 3) := by decide +kernel
theorem dX9_fewest_41 : decode cX9_fewest 41 = .ok (.iload 4, 2) := by decide +kernel
theorem dX9_fewest_43 : decode cX9_fewest 43 = .ok (.invokestatic 216, 3) := by decide +kernel
theorem dX9_fewest_46 : decode cX9_fewest 46 = .ok (.iload_n 3, 1) := by decide +kernel
theorem dX9_fewest_47 : decode cX9_fewest 47 = .ok (.if_icmp .ge 21, 3) := by decide +kernel
theorem dX9_fewest_50 : decode cX9_fewest 50 = .ok (.aload_n 0, 1) := by decide +kernel
theorem dX9_fewest_51 : decode cX9_fewest 51 = .ok (.iload 4, 2) := by decide +kernel
theorem dX9_fewest_53 : decode cX9_fewest 53 = .ok (.invokevirtual 221, 3) := by decide +kernel
theorem dX9_fewest_56 : decode cX9_fewest 56 = .ok (.ifCond .eq 12, 3) := by decide +kernel
theorem dX9_fewest_59 : decode cX9_fewest 59 = .ok (.iload 4, 2) := by decide +kernel
theorem dX9_fewest_61 : decode cX9_fewest 61 = .ok (.istore_n 2, 1) := by decide +kernel
theorem dX9_fewest_62 : decode cX9_fewest 62 = .ok (.iload 4, 2) := by decide +kernel
theorem dX9_fewest_64 : decode cX9_fewest 64 = .ok (.invokestatic 216, 3) := by decide +kernel
theorem dX9_fewest_67 : decode cX9_fewest 67 = .ok (.istore_n 3, 1) := by decide +kernel
theorem dX9_fewest_68 : decode cX9_fewest 68 = .ok (.iinc 4 1, 3) := by decide +kernel
theorem dX9_fewest_71 : decode cX9_fewest 71 = .ok (.goto (-44), 3) := by decide +kernel
theorem dX9_fewest_74 : decode cX9_fewest 74 = .ok (.iload_n 2, 1) := by decide +kernel
theorem dX9_fewest_75 : decode cX9_fewest 75 = .ok (.bipush (-4), 2) := by decide +kernel
theorem dX9_fewest_77 : decode cX9_fewest 77 = .ok (.if_icmp .eq 8, 3) := by decide +kernel
theorem dX9_fewest_80 : decode cX9_fewest 80 = .ok (.iload_n 1, 1) := by decide +kernel
theorem dX9_fewest_81 : decode cX9_fewest 81 = .ok (.iconst 1, 1) := by decide +kernel
theorem dX9_fewest_82 : decode cX9_fewest 82 = .ok (.if_icmp .ne 7, 3) := by decide +kernel
theorem dX9_fewest_85 : decode cX9_fewest 85 = .ok (.iload_n 2, 1) := by decide +kernel
theorem dX9_fewest_86 : decode cX9_fewest 86 = .ok (.goto 4, 3) := by decide +kernel
theorem dX9_fewest_89 : decode cX9_fewest 89 = .ok (.iload_n 3, 1) := by decide +kernel
theorem dX9_fewest_90 : decode cX9_fewest 90 = .ok (.ireturn, 1) := by decide +kernel
theorem dX9_better_0 : decode cX9_better 0 = .ok (.iload_n 1, 1) := by decide +kernel
theorem dX9_better_1 : decode cX9_better 1 = .ok (.iconst 0, 1) := by decide +kernel
theorem dX9_better_2 : decode cX9_better 2 = .ok (.iconst 1, 1) := by decide +kernel
theorem dX9_better_3 : decode cX9_better 3 = .ok (.invokestatic 69, 3) := by decide +kernel
theorem dX9_better_6 : decode cX9_better 6 = .ok (.ifCond .ne 5, 3) := by decide +kernel
theorem dX9_better_9 : decode cX9_better 9 = .ok (.iconst (-1), 1) := by decide +kernel
theorem dX9_better_10 : decode cX9_better 10 = .ok (.ireturn, 1) := by decide +kernel
theorem dX9_better_11 : decode cX9_better 11 = .ok (.aload_n 0, 1) := by decide +kernel
theorem dX9_better_12 : decode cX9_better 12 = .ok (.getfield 16, 3) := by decide +kernel
theorem dX9_better_15 : decode cX9_better 15 = .ok (.aload_n 0, 1) := by decide +kernel
theorem dX9_better_16 : decode cX9_better 16 = .ok (.getfield 10, 3) := by decide +kernel
theorem dX9_better_19 : decode cX9_better 19 = .ok (.invokevirtual 86, 3) := by decide +kernel
theorem dX9_better_22 : decode cX9_better 22 = .ok (.aload_n 0, 1) := by decide +kernel
theorem dX9_better_23 : decode cX9_better 23 = .ok (.getfield 16, 3) := by decide +kernel
theorem dX9_better_26 : decode cX9_better 26 = .ok (.bipush 40, 2) := by decide +kernel
theorem dX9_better_28 : decode cX9_better 28 = .ok (.invokevirtual 201, 3) := by decide +kernel
theorem dX9_better_31 : decode cX9_better 31 = .ok (.istore_n 2, 1) := by decide +kernel
theorem dX9_better_32 : decode cX9_better 32 = .ok (.iload_n 2, 1) := by decide +kernel
theorem dX9_better_33 : decode cX9_better 33 = .ok (.bipush (-4), 2) := by decide +kernel
theorem dX9_better_35 : decode cX9_better 35 = .ok (.if_icmp .ne 8, 3) := by decide +kernel
theorem dX9_better_38 : decode cX9_better 38 = .ok (.bipush 41, 2) := by decide +kernel
theorem dX9_better_40 : decode cX9_better 40 = .ok (.goto 4, 3) := by decide +kernel
theorem dX9_better_43 : decode cX9_better 43 = .ok (.iload_n 2, 1) := by decide +kernel
theorem dX9_better_44 : decode cX9_better 44 = .ok (.istore_n 3, 1) := by decide +kernel
theorem dX9_better_45 : decode cX9_better 45 = .ok (.bipush (-4), 2) := by decide +kernel
theorem dX9_better_47 : decode cX9_better 47 = .ok (.istore 4, 2) := by decide +kernel
theorem dX9_better_49 : decode cX9_better 49 = .ok (.iconst 0, 1) := by decide +kernel
theorem dX9_better_50 : decode cX9_better 50 = .ok (.istore 5, 2) := by decide +kernel
theorem dX9_better_52 : decode cX9_better 52 = .ok (.iload 5, 2) := by decide +kernel
theorem dX9_better_54 : decode cX9_better 54 = .ok (.aload_n 0, 1) := by decide +kernel
theorem dX9_better_55 : decode cX9_better 55 = .ok (.getfield 10, 3) := by decide +kernel
theorem dX9_better_58 : decode cX9_better 58 = .ok (.getfield 97, 3) := by decide +kernel
theorem dX9_better_61 : decode cX9_better 61 = .ok (.if_icmp .ge 78, 3) := by decide +kernel
theorem dX9_better_64 : decode cX9_better 64 = .ok (.iconst 1, 1) := by decide +kernel
theorem dX9_better_65 : decode cX9_better 65 = .ok (.istore 6, 2) := by decide +kernel
theorem dX9_better_67 : decode cX9_better 67 = .ok (.iload 6, 2) := by decide +kernel
theorem dX9_better_69 : decode cX9_better 69 = .ok (.bipush 9, 2) := by decide +kernel
theorem dX9_better_71 : decode cX9_better 71 = .ok (.if_icmp .gt 62, 3) := by decide +kernel
theorem dX9_better_74 : decode cX9_better 74 = .ok (.iload 6, 2) := by decide +kernel
theorem dX9_better_76 : decode cX9_better 76 = .ok (.aload_n 0, 1) := by decide +kernel
theorem dX9_better_77 : decode cX9_better 77 = .ok (.getfield 10, 3) := by decide +kernel
theorem dX9_better_80 : decode cX9_better 80 = .ok (.getfield 119, 3) := by decide +kernel
theorem dX9_better_83 : decode cX9_better 83 = .ok (.iload 5, 2) := by decide +kernel
theorem dX9_better_85 : decode cX9_better 85 = .ok (.iaload, 1) := by decide +kernel
theorem dX9_better_86 : decode cX9_better 86 = .ok (.if_icmp .ne 8, 3) := by decide +kernel
theorem dX9_better_89 : decode cX9_better 89 = .ok (.bipush (-4), 2) := by decide +kernel
theorem dX9_better_91 : decode cX9_better 91 = .ok (.goto 14, 3) := by decide +kernel
theorem dX9_better_94 : decode cX9_better 94 = .ok (.aload_n 0, 1) := by decide +kernel
theorem dX9_better_95 : decode cX9_better 95 = .ok (.iload 5, 2) := by decide +kernel
theorem dX9_better_97 : decode cX9_better 97 = .ok (.iload 6, 2) := by decide +kernel
theorem dX9_better_99 : decode cX9_better 99 = .ok (.iload_n 3, 1) := by decide +kernel
theorem dX9_better_100 : decode cX9_better 100 = .ok (.iconst 1, 1) := by decide +kernel
theorem dX9_better_101 : decode cX9_better 101 = .ok (.isub, 1) := by decide +kernel
theorem dX9_better_102 : decode cX9_better 102 = .ok (.invokevirtual 224, 3) := by decide +kernel
theorem dX9_better_105 : decode cX9_better 105 = .ok (.istore 7, 2) := by decide +kernel
theorem dX9_better_107 : decode cX9_better 107 = .ok (.iload 7, 2) := by decide +kernel
theorem dX9_better_109 : decode cX9_better 109 = .ok (.bipush (-4), 2) := by decide +kernel
theorem dX9_better_111 : decode cX9_better 111 = .ok (.if_icmp .eq 16, 3) := by decide +kernel
theorem dX9_better_114 : decode cX9_better 114 = .ok (.iload 7, 2) := by decide +kernel
theorem dX9_better_116 : decode cX9_better 116 = .ok (.istore_n 3, 1) := by decide +kernel
theorem dX9_better_117 : decode cX9_better 117 = .ok (.bipush 10, 2) := by decide +kernel
theorem dX9_better_119 : decode cX9_better 119 = .ok (.iload 5, 2) := by decide +kernel
theorem dX9_better_121 : decode cX9_better 121 = .ok (.imul, 1) := by decide +kernel
theorem dX9_better_122 : decode cX9_better 122 = .ok (.iload 6, 2) := by decide +kernel
theorem dX9_better_124 : decode cX9_better 124 = .ok (.iadd, 1) := by decide +kernel
theorem dX9_better_125 : decode cX9_better 125 = .ok (.istore 4, 2) := by decide +kernel
theorem dX9_better_127 : decode cX9_better 127 = .ok (.iinc 6 1, 3) := by decide +kernel
theorem dX9_better_130 : decode cX9_better 130 = .ok (.goto (-63), 3) := by decide +kernel
theorem dX9_better_133 : decode cX9_better 133 = .ok (.iinc 5 1, 3) := by decide +kernel
theorem dX9_better_136 : decode cX9_better 136 = .ok (.goto (-84), 3) := by decide +kernel
theorem dX9_better_139 : decode cX9_better 139 = .ok (.iload 4, 2) := by decide +kernel
theorem dX9_better_141 : decode cX9_better 141 = .ok (.bipush (-4), 2) := by decide +kernel
theorem dX9_better_143 : decode cX9_better 143 = .ok (.if_icmp .eq 7, 3) := by decide +kernel
theorem dX9_better_146 : decode cX9_better 146 = .ok (.iload_n 1, 1) := by decide +kernel
theorem dX9_better_147 : decode cX9_better 147 = .ok (.ifCond .ne 8, 3) := by decide +kernel
theorem dX9_better_150 : decode cX9_better 150 = .ok (.iload 4, 2) := by decide +kernel
theorem dX9_better_152 : decode cX9_better 152 = .ok (.goto 4, 3) := by decide +kernel
theorem dX9_better_155 : decode cX9_better 155 = .ok (.iload_n 3, 1) := by decide +kernel
theorem dX9_better_156 : decode cX9_better 156 = .ok (.ireturn, 1) := by decide +kernel
theorem dX9_weeks_0 : decode cX9_weeks 0 = .ok (.iconst 0, 1) := by decide +kernel
theorem dX9_weeks_1 : decode cX9_weeks 1 = .ok (.istore_n 1, 1) := by decide +kernel
theorem dX9_weeks_2 : decode cX9_weeks 2 = .ok (.iconst 0, 1) := by decide +kernel
theorem dX9_weeks_3 : decode cX9_weeks 3 = .ok (.istore_n 2, 1) := by decide +kernel
theorem dX9_weeks_4 : decode cX9_weeks 4 = .ok (.iload_n 2, 1) := by decide +kernel
theorem dX9_weeks_5 : decode cX9_weeks 5 = .ok (.bipush 8, 2) := by decide +kernel
theorem dX9_weeks_7 : decode cX9_weeks 7 = .ok (.if_icmp .gt 48, 3) := by decide +kernel
theorem dX9_weeks_10 : decode cX9_weeks 10 = .ok (.aload_n 0, 1) := by decide +kernel
theorem dX9_weeks_11 : decode cX9_weeks 11 = .ok (.getfield 16, 3) := by decide +kernel
theorem dX9_weeks_14 : decode cX9_weeks 14 = .ok (.aload_n 0, 1) := by decide +kernel
theorem dX9_weeks_15 : decode cX9_weeks 15 = .ok (.getfield 10, 3) := by decide +kernel
theorem dX9_weeks_18 : decode cX9_weeks 18 = .ok (.invokevirtual 86, 3) := by decide +kernel
theorem dX9_weeks_21 : decode cX9_weeks 21 = .ok (.aload_n 0, 1) := by decide +kernel
theorem dX9_weeks_22 : decode cX9_weeks 22 = .ok (.getfield 16, 3) := by decide +kernel
theorem dX9_weeks_25 : decode cX9_weeks 25 = .ok (.iload_n 2, 1) := by decide +kernel
theorem dX9_weeks_26 : decode cX9_weeks 26 = .ok (.invokevirtual 195, 3) := by decide +kernel
theorem dX9_weeks_29 : decode cX9_weeks 29 = .ok (.aload_n 0, 1) := by decide +kernel
theorem dX9_weeks_30 : decode cX9_weeks 30 = .ok (.getfield 16, 3) := by decide +kernel
theorem dX9_weeks_33 : decode cX9_weeks 33 = .ok (.bipush 40, 2) := by decide +kernel
theorem dX9_weeks_35 : decode cX9_weeks 35 = .ok (.invokevirtual 201, 3) := by decide +kernel
theorem dX9_weeks_38 : decode cX9_weeks 38 = .ok (.bipush (-4), 2) := by decide +kernel
theorem dX9_weeks_40 : decode cX9_weeks 40 = .ok (.if_icmp .eq 9, 3) := by decide +kernel
theorem dX9_weeks_43 : decode cX9_weeks 43 = .ok (.iload_n 1, 1) := by decide +kernel
theorem dX9_weeks_44 : decode cX9_weeks 44 = .ok (.iconst 1, 1) := by decide +kernel
theorem dX9_weeks_45 : decode cX9_weeks 45 = .ok (.iload_n 2, 1) := by decide +kernel
theorem dX9_weeks_46 : decode cX9_weeks 46 = .ok (.ishl, 1) := by decide +kernel
theorem dX9_weeks_47 : decode cX9_weeks 47 = .ok (.ior, 1) := by decide +kernel
theorem dX9_weeks_48 : decode cX9_weeks 48 = .ok (.istore_n 1, 1) := by decide +kernel
theorem dX9_weeks_49 : decode cX9_weeks 49 = .ok (.iinc 2 1, 3) := by decide +kernel
theorem dX9_weeks_52 : decode cX9_weeks 52 = .ok (.goto (-48), 3) := by decide +kernel
theorem dX9_weeks_55 : decode cX9_weeks 55 = .ok (.iload_n 1, 1) := by decide +kernel
theorem dX9_weeks_56 : decode cX9_weeks 56 = .ok (.ireturn, 1) := by decide +kernel
theorem dX9_see_0 : decode cX9_see 0 = .ok (.iload_n 1, 1) := by decide +kernel
theorem dX9_see_1 : decode cX9_see 1 = .ok (.iconst 0, 1) := by decide +kernel
theorem dX9_see_2 : decode cX9_see 2 = .ok (.bipush 20, 2) := by decide +kernel
theorem dX9_see_4 : decode cX9_see 4 = .ok (.invokestatic 69, 3) := by decide +kernel
theorem dX9_see_7 : decode cX9_see 7 = .ok (.ifCond .eq 18, 3) := by decide +kernel
theorem dX9_see_10 : decode cX9_see 10 = .ok (.aload_n 0, 1) := by decide +kernel
theorem dX9_see_11 : decode cX9_see 11 = .ok (.iload_n 2, 1) := by decide +kernel
theorem dX9_see_12 : decode cX9_see 12 = .ok (.invokevirtual 123, 3) := by decide +kernel
theorem dX9_see_15 : decode cX9_see 15 = .ok (.ifCond .eq 10, 3) := by decide +kernel
theorem dX9_see_18 : decode cX9_see 18 = .ok (.iload_n 3, 1) := by decide +kernel
theorem dX9_see_19 : decode cX9_see 19 = .ok (.invokestatic 228, 3) := by decide +kernel
theorem dX9_see_22 : decode cX9_see 22 = .ok (.ifCond .ne 5, 3) := by decide +kernel
theorem dX9_see_25 : decode cX9_see 25 = .ok (.iconst (-1), 1) := by decide +kernel
theorem dX9_see_26 : decode cX9_see 26 = .ok (.ireturn, 1) := by decide +kernel
theorem dX9_see_27 : decode cX9_see 27 = .ok (.aload_n 0, 1) := by decide +kernel
theorem dX9_see_28 : decode cX9_see 28 = .ok (.getfield 22, 3) := by decide +kernel
theorem dX9_see_31 : decode cX9_see 31 = .ok (.getfield 90, 3) := by decide +kernel
theorem dX9_see_34 : decode cX9_see 34 = .ok (.bipush 8, 2) := by decide +kernel
theorem dX9_see_36 : decode cX9_see 36 = .ok (.if_icmp .lt 6, 3) := by decide +kernel
theorem dX9_see_39 : decode cX9_see 39 = .ok (.bipush (-3), 2) := by decide +kernel
theorem dX9_see_41 : decode cX9_see 41 = .ok (.ireturn, 1) := by decide +kernel
theorem dX9_see_42 : decode cX9_see 42 = .ok (.aload_n 0, 1) := by decide +kernel
theorem dX9_see_43 : decode cX9_see 43 = .ok (.getfield 22, 3) := by decide +kernel
theorem dX9_see_46 : decode cX9_see 46 = .ok (.iload_n 1, 1) := by decide +kernel
theorem dX9_see_47 : decode cX9_see 47 = .ok (.iload_n 2, 1) := by decide +kernel
theorem dX9_see_48 : decode cX9_see 48 = .ok (.iload_n 3, 1) := by decide +kernel
theorem dX9_see_49 : decode cX9_see 49 = .ok (.iload 4, 2) := by decide +kernel
theorem dX9_see_51 : decode cX9_see 51 = .ok (.invokevirtual 231, 3) := by decide +kernel
theorem dX9_see_54 : decode cX9_see 54 = .ok (.aload_n 0, 1) := by decide +kernel
theorem dX9_see_55 : decode cX9_see 55 = .ok (.getfield 22, 3) := by decide +kernel
theorem dX9_see_58 : decode cX9_see 58 = .ok (.getfield 90, 3) := by decide +kernel
theorem dX9_see_61 : decode cX9_see 61 = .ok (.ireturn, 1) := by decide +kernel
theorem dX9_forget_0 : decode cX9_forget 0 = .ok (.iload_n 1, 1) := by decide +kernel
theorem dX9_forget_1 : decode cX9_forget 1 = .ok (.iconst 0, 1) := by decide +kernel
theorem dX9_forget_2 : decode cX9_forget 2 = .ok (.aload_n 0, 1) := by decide +kernel
theorem dX9_forget_3 : decode cX9_forget 3 = .ok (.getfield 22, 3) := by decide +kernel
theorem dX9_forget_6 : decode cX9_forget 6 = .ok (.getfield 90, 3) := by decide +kernel
theorem dX9_forget_9 : decode cX9_forget 9 = .ok (.invokestatic 69, 3) := by decide +kernel
theorem dX9_forget_12 : decode cX9_forget 12 = .ok (.ifCond .ne 5, 3) := by decide +kernel
theorem dX9_forget_15 : decode cX9_forget 15 = .ok (.iconst (-1), 1) := by decide +kernel
theorem dX9_forget_16 : decode cX9_forget 16 = .ok (.ireturn, 1) := by decide +kernel
theorem dX9_forget_17 : decode cX9_forget 17 = .ok (.aload_n 0, 1) := by decide +kernel
theorem dX9_forget_18 : decode cX9_forget 18 = .ok (.getfield 22, 3) := by decide +kernel
theorem dX9_forget_21 : decode cX9_forget 21 = .ok (.getfield 90, 3) := by decide +kernel
theorem dX9_forget_24 : decode cX9_forget 24 = .ok (.istore_n 2, 1) := by decide +kernel
theorem dX9_forget_25 : decode cX9_forget 25 = .ok (.aload_n 0, 1) := by decide +kernel
theorem dX9_forget_26 : decode cX9_forget 26 = .ok (.getfield 22, 3) := by decide +kernel
theorem dX9_forget_29 : decode cX9_forget 29 = .ok (.iload_n 1, 1) := by decide +kernel
theorem dX9_forget_30 : decode cX9_forget 30 = .ok (.putfield 90, 3) := by decide +kernel
theorem dX9_forget_33 : decode cX9_forget 33 = .ok (.iload_n 2, 1) := by decide +kernel
theorem dX9_forget_34 : decode cX9_forget 34 = .ok (.ireturn, 1) := by decide +kernel
theorem dX9_fakes_0 : decode cX9_fakes 0 = .ok (.iload_n 1, 1) := by decide +kernel
theorem dX9_fakes_1 : decode cX9_fakes 1 = .ok (.iconst 0, 1) := by decide +kernel
theorem dX9_fakes_2 : decode cX9_fakes 2 = .ok (.iconst 3, 1) := by decide +kernel
theorem dX9_fakes_3 : decode cX9_fakes 3 = .ok (.invokestatic 69, 3) := by decide +kernel
theorem dX9_fakes_6 : decode cX9_fakes 6 = .ok (.ifCond .ne 5, 3) := by decide +kernel
theorem dX9_fakes_9 : decode cX9_fakes 9 = .ok (.iconst (-1), 1) := by decide +kernel
theorem dX9_fakes_10 : decode cX9_fakes 10 = .ok (.ireturn, 1) := by decide +kernel
theorem dX9_fakes_11 : decode cX9_fakes 11 = .ok (.iconst 1, 1) := by decide +kernel
theorem dX9_fakes_12 : decode cX9_fakes 12 = .ok (.aload_n 0, 1) := by decide +kernel
theorem dX9_fakes_13 : decode cX9_fakes 13 = .ok (.getfield 10, 3) := by decide +kernel
theorem dX9_fakes_16 : decode cX9_fakes 16 = .ok (.getfield 100, 3) := by decide +kernel
theorem dX9_fakes_19 : decode cX9_fakes 19 = .ok (.ishl, 1) := by decide +kernel
theorem dX9_fakes_20 : decode cX9_fakes 20 = .ok (.iconst 1, 1) := by decide +kernel
theorem dX9_fakes_21 : decode cX9_fakes 21 = .ok (.isub, 1) := by decide +kernel
theorem dX9_fakes_22 : decode cX9_fakes 22 = .ok (.istore_n 2, 1) := by decide +kernel
theorem dX9_fakes_23 : decode cX9_fakes 23 = .ok (.iconst 0, 1) := by decide +kernel
theorem dX9_fakes_24 : decode cX9_fakes 24 = .ok (.istore_n 3, 1) := by decide +kernel
theorem dX9_fakes_25 : decode cX9_fakes 25 = .ok (.bipush (-4), 2) := by decide +kernel
theorem dX9_fakes_27 : decode cX9_fakes 27 = .ok (.istore 4, 2) := by decide +kernel
theorem dX9_fakes_29 : decode cX9_fakes 29 = .ok (.iload_n 2, 1) := by decide +kernel
theorem dX9_fakes_30 : decode cX9_fakes 30 = .ok (.istore 5, 2) := by decide +kernel
theorem dX9_fakes_32 : decode cX9_fakes 32 = .ok (.iconst 0, 1) := by decide +kernel
theorem dX9_fakes_33 : decode cX9_fakes 33 = .ok (.istore 6, 2) := by decide +kernel
theorem dX9_fakes_35 : decode cX9_fakes 35 = .ok (.iconst 0, 1) := by decide +kernel
theorem dX9_fakes_36 : decode cX9_fakes 36 = .ok (.istore 7, 2) := by decide +kernel
theorem dX9_fakes_38 : decode cX9_fakes 38 = .ok (.iload 7, 2) := by decide +kernel
theorem dX9_fakes_40 : decode cX9_fakes 40 = .ok (.iload_n 2, 1) := by decide +kernel
theorem dX9_fakes_41 : decode cX9_fakes 41 = .ok (.if_icmp .gt 48, 3) := by decide +kernel
theorem dX9_fakes_44 : decode cX9_fakes 44 = .ok (.aload_n 0, 1) := by decide +kernel
theorem dX9_fakes_45 : decode cX9_fakes 45 = .ok (.iload 7, 2) := by decide +kernel
theorem dX9_fakes_47 : decode cX9_fakes 47 = .ok (.invokevirtual 235, 3) := by decide +kernel
theorem dX9_fakes_50 : decode cX9_fakes 50 = .ok (.ifCond .eq 33, 3) := by decide +kernel
theorem dX9_fakes_53 : decode cX9_fakes 53 = .ok (.iload_n 3, 1) := by decide +kernel
theorem dX9_fakes_54 : decode cX9_fakes 54 = .ok (.ifCond .ne 8, 3) := by decide +kernel
theorem dX9_fakes_57 : decode cX9_fakes 57 = .ok (.iload 7, 2) := by decide +kernel
theorem dX9_fakes_59 : decode cX9_fakes 59 = .ok (.goto 5, 3) := by decide +kernel
theorem dX9_fakes_62 : decode cX9_fakes 62 = .ok (.iload 4, 2) := by decide +kernel
theorem dX9_fakes_64 : decode cX9_fakes 64 = .ok (.istore 4, 2) := by decide +kernel
theorem dX9_fakes_66 : decode cX9_fakes 66 = .ok (.iinc 3 1, 3) := by decide +kernel
theorem dX9_fakes_69 : decode cX9_fakes 69 = .ok (.iload 5, 2) := by decide +kernel
theorem dX9_fakes_71 : decode cX9_fakes 71 = .ok (.iload 7, 2) := by decide +kernel
theorem dX9_fakes_73 : decode cX9_fakes 73 = .ok (.iand, 1) := by decide +kernel
theorem dX9_fakes_74 : decode cX9_fakes 74 = .ok (.istore 5, 2) := by decide +kernel
theorem dX9_fakes_76 : decode cX9_fakes 76 = .ok (.iload 6, 2) := by decide +kernel
theorem dX9_fakes_78 : decode cX9_fakes 78 = .ok (.iload 7, 2) := by decide +kernel
theorem dX9_fakes_80 : decode cX9_fakes 80 = .ok (.ior, 1) := by decide +kernel
theorem dX9_fakes_81 : decode cX9_fakes 81 = .ok (.istore 6, 2) := by decide +kernel
theorem dX9_fakes_83 : decode cX9_fakes 83 = .ok (.iinc 7 1, 3) := by decide +kernel
theorem dX9_fakes_86 : decode cX9_fakes 86 = .ok (.goto (-48), 3) := by decide +kernel
theorem dX9_fakes_89 : decode cX9_fakes 89 = .ok (.iload_n 1, 1) := by decide +kernel
theorem dX9_fakes_90 : decode cX9_fakes 90 = .ok (.ifCond .eq 7, 3) := by decide +kernel
theorem dX9_fakes_93 : decode cX9_fakes 93 = .ok (.iload_n 3, 1) := by decide +kernel
theorem dX9_fakes_94 : decode cX9_fakes 94 = .ok (.ifCond .ne 14, 3) := by decide +kernel
theorem dX9_fakes_97 : decode cX9_fakes 97 = .ok (.iload_n 1, 1) := by decide +kernel
theorem dX9_fakes_98 : decode cX9_fakes 98 = .ok (.ifCond .ne 7, 3) := by decide +kernel
theorem dX9_fakes_101 : decode cX9_fakes 101 = .ok (.iload_n 3, 1) := by decide +kernel
theorem dX9_fakes_102 : decode cX9_fakes 102 = .ok (.goto 5, 3) := by decide +kernel
theorem dX9_fakes_105 : decode cX9_fakes 105 = .ok (.bipush (-4), 2) := by decide +kernel
theorem dX9_fakes_107 : decode cX9_fakes 107 = .ok (.ireturn, 1) := by decide +kernel
theorem dX9_fakes_108 : decode cX9_fakes 108 = .ok (.iload_n 1, 1) := by decide +kernel
theorem dX9_fakes_109 : decode cX9_fakes 109 = .ok (.iconst 1, 1) := by decide +kernel
theorem dX9_fakes_110 : decode cX9_fakes 110 = .ok (.if_icmp .ne 6, 3) := by decide +kernel
theorem dX9_fakes_113 : decode cX9_fakes 113 = .ok (.iload 4, 2) := by decide +kernel
theorem dX9_fakes_115 : decode cX9_fakes 115 = .ok (.ireturn, 1) := by decide +kernel
theorem dX9_fakes_116 : decode cX9_fakes 116 = .ok (.iload_n 1, 1) := by decide +kernel
theorem dX9_fakes_117 : decode cX9_fakes 117 = .ok (.iconst 2, 1) := by decide +kernel
theorem dX9_fakes_118 : decode cX9_fakes 118 = .ok (.if_icmp .ne 8, 3) := by decide +kernel
theorem dX9_fakes_121 : decode cX9_fakes 121 = .ok (.iload 5, 2) := by decide +kernel
theorem dX9_fakes_123 : decode cX9_fakes 123 = .ok (.goto 9, 3) := by decide +kernel
theorem dX9_fakes_126 : decode cX9_fakes 126 = .ok (.iload_n 2, 1) := by decide +kernel
theorem dX9_fakes_127 : decode cX9_fakes 127 = .ok (.iload 6, 2) := by decide +kernel
theorem dX9_fakes_129 : decode cX9_fakes 129 = .ok (.iconst (-1), 1) := by decide +kernel
theorem dX9_fakes_130 : decode cX9_fakes 130 = .ok (.ixor, 1) := by decide +kernel
theorem dX9_fakes_131 : decode cX9_fakes 131 = .ok (.iand, 1) := by decide +kernel
theorem dX9_fakes_132 : decode cX9_fakes 132 = .ok (.ireturn, 1) := by decide +kernel
theorem dX9_wrong_0 : decode cX9_wrong 0 = .ok (.aload_n 0, 1) := by decide +kernel
theorem dX9_wrong_1 : decode cX9_wrong 1 = .ok (.getfield 16, 3) := by decide +kernel
theorem dX9_wrong_4 : decode cX9_wrong 4 = .ok (.aload_n 0, 1) := by decide +kernel
theorem dX9_wrong_5 : decode cX9_wrong 5 = .ok (.getfield 10, 3) := by decide +kernel
theorem dX9_wrong_8 : decode cX9_wrong 8 = .ok (.invokevirtual 86, 3) := by decide +kernel
theorem dX9_wrong_11 : decode cX9_wrong 11 = .ok (.aload_n 0, 1) := by decide +kernel
theorem dX9_wrong_12 : decode cX9_wrong 12 = .ok (.getfield 22, 3) := by decide +kernel
theorem dX9_wrong_15 : decode cX9_wrong 15 = .ok (.aload_n 0, 1) := by decide +kernel
theorem dX9_wrong_16 : decode cX9_wrong 16 = .ok (.getfield 16, 3) := by decide +kernel
theorem dX9_wrong_19 : decode cX9_wrong 19 = .ok (.invokevirtual 238, 3) := by decide +kernel
theorem dX9_wrong_22 : decode cX9_wrong 22 = .ok (.ifCond .eq 8, 3) := by decide +kernel
theorem dX9_wrong_25 : decode cX9_wrong 25 = .ok (.bipush 16, 2) := by decide +kernel
theorem dX9_wrong_27 : decode cX9_wrong 27 = .ok (.goto 4, 3) := by decide +kernel
theorem dX9_wrong_30 : decode cX9_wrong 30 = .ok (.iconst 0, 1) := by decide +kernel
theorem dX9_wrong_31 : decode cX9_wrong 31 = .ok (.istore_n 1, 1) := by decide +kernel
theorem dX9_wrong_32 : decode cX9_wrong 32 = .ok (.iconst 0, 1) := by decide +kernel
theorem dX9_wrong_33 : decode cX9_wrong 33 = .ok (.istore_n 2, 1) := by decide +kernel
theorem dX9_wrong_34 : decode cX9_wrong 34 = .ok (.iload_n 2, 1) := by decide +kernel
theorem dX9_wrong_35 : decode cX9_wrong 35 = .ok (.aload_n 0, 1) := by decide +kernel
theorem dX9_wrong_36 : decode cX9_wrong 36 = .ok (.getfield 10, 3) := by decide +kernel
theorem dX9_wrong_39 : decode cX9_wrong 39 = .ok (.getfield 103, 3) := by decide +kernel
theorem dX9_wrong_42 : decode cX9_wrong 42 = .ok (.if_icmp .ge 66, 3) := by decide +kernel
theorem dX9_wrong_45 : decode cX9_wrong 45 = .ok (.aload_n 0, 1) := by decide +kernel
theorem dX9_wrong_46 : decode cX9_wrong 46 = .ok (.getfield 16, 3) := by decide +kernel
theorem dX9_wrong_49 : decode cX9_wrong 49 = .ok (.aload_n 0, 1) := by decide +kernel
theorem dX9_wrong_50 : decode cX9_wrong 50 = .ok (.getfield 10, 3) := by decide +kernel
theorem dX9_wrong_53 : decode cX9_wrong 53 = .ok (.invokevirtual 86, 3) := by decide +kernel
theorem dX9_wrong_56 : decode cX9_wrong 56 = .ok (.aload_n 0, 1) := by decide +kernel
theorem dX9_wrong_57 : decode cX9_wrong 57 = .ok (.getfield 16, 3) := by decide +kernel
theorem dX9_wrong_60 : decode cX9_wrong 60 = .ok (.getfield 152, 3) := by decide +kernel
theorem dX9_wrong_63 : decode cX9_wrong 63 = .ok (.iload_n 2, 1) := by decide +kernel
theorem dX9_wrong_64 : decode cX9_wrong 64 = .ok (.aaload, 1) := by decide +kernel
theorem dX9_wrong_65 : decode cX9_wrong 65 = .ok (.iconst 1, 1) := by decide +kernel
theorem dX9_wrong_66 : decode cX9_wrong 66 = .ok (.aload_n 0, 1) := by decide +kernel
theorem dX9_wrong_67 : decode cX9_wrong 67 = .ok (.getfield 16, 3) := by decide +kernel
theorem dX9_wrong_70 : decode cX9_wrong 70 = .ok (.getfield 152, 3) := by decide +kernel
theorem dX9_wrong_73 : decode cX9_wrong 73 = .ok (.iload_n 2, 1) := by decide +kernel
theorem dX9_wrong_74 : decode cX9_wrong 74 = .ok (.aaload, 1) := by decide +kernel
theorem dX9_wrong_75 : decode cX9_wrong 75 = .ok (.getfield 164, 3) := by decide +kernel
theorem dX9_wrong_78 : decode cX9_wrong 78 = .ok (.isub, 1) := by decide +kernel
theorem dX9_wrong_79 : decode cX9_wrong 79 = .ok (.putfield 164, 3) := by decide +kernel
theorem dX9_wrong_82 : decode cX9_wrong 82 = .ok (.aload_n 0, 1) := by decide +kernel
theorem dX9_wrong_83 : decode cX9_wrong 83 = .ok (.getfield 22, 3) := by decide +kernel
theorem dX9_wrong_86 : decode cX9_wrong 86 = .ok (.aload_n 0, 1) := by decide +kernel
theorem dX9_wrong_87 : decode cX9_wrong 87 = .ok (.getfield 16, 3) := by decide +kernel
theorem dX9_wrong_90 : decode cX9_wrong 90 = .ok (.invokevirtual 238, 3) := by decide +kernel
theorem dX9_wrong_93 : decode cX9_wrong 93 = .ok (.ifCond .eq 9, 3) := by decide +kernel
theorem dX9_wrong_96 : decode cX9_wrong 96 = .ok (.iload_n 1, 1) := by decide +kernel
theorem dX9_wrong_97 : decode cX9_wrong 97 = .ok (.iconst 1, 1) := by decide +kernel
theorem dX9_wrong_98 : decode cX9_wrong 98 = .ok (.iload_n 2, 1) := by decide +kernel
theorem dX9_wrong_99 : decode cX9_wrong 99 = .ok (.ishl, 1) := by decide +kernel
theorem dX9_wrong_100 : decode cX9_wrong 100 = .ok (.ior, 1) := by decide +kernel
theorem dX9_wrong_101 : decode cX9_wrong 101 = .ok (.istore_n 1, 1) := by decide +kernel
theorem dX9_wrong_102 : decode cX9_wrong 102 = .ok (.iinc 2 1, 3) := by decide +kernel
theorem dX9_wrong_105 : decode cX9_wrong 105 = .ok (.goto (-71), 3) := by decide +kernel
theorem dX9_wrong_108 : decode cX9_wrong 108 = .ok (.iload_n 1, 1) := by decide +kernel
theorem dX9_wrong_109 : decode cX9_wrong 109 = .ok (.ireturn, 1) := by decide +kernel
theorem dX9_gulls_0 : decode cX9_gulls 0 = .ok (.iload_n 2, 1) := by decide +kernel
theorem dX9_gulls_1 : decode cX9_gulls 1 = .ok (.iconst 1, 1) := by decide +kernel
theorem dX9_gulls_2 : decode cX9_gulls 2 = .ok (.bipush 60, 2) := by decide +kernel
theorem dX9_gulls_4 : decode cX9_gulls 4 = .ok (.invokestatic 69, 3) := by decide +kernel
theorem dX9_gulls_7 : decode cX9_gulls 7 = .ok (.ifCond .eq 12, 3) := by decide +kernel
theorem dX9_gulls_10 : decode cX9_gulls 10 = .ok (.iload_n 3, 1) := by decide +kernel
theorem dX9_gulls_11 : decode cX9_gulls 11 = .ok (.iconst 0, 1) := by decide +kernel
theorem dX9_gulls_12 : decode cX9_gulls 12 = .ok (.iconst 1, 1) := by decide +kernel
theorem dX9_gulls_13 : decode cX9_gulls 13 = .ok (.invokestatic 69, 3) := by decide +kernel
theorem dX9_gulls_16 : decode cX9_gulls 16 = .ok (.ifCond .ne 5, 3) := by decide +kernel
theorem dX9_gulls_19 : decode cX9_gulls 19 = .ok (.iconst (-1), 1) := by decide +kernel
theorem dX9_gulls_20 : decode cX9_gulls 20 = .ok (.ireturn, 1) := by decide +kernel
theorem dX9_gulls_21 : decode cX9_gulls 21 = .ok (.aload_n 0, 1) := by decide +kernel
theorem dX9_gulls_22 : decode cX9_gulls 22 = .ok (.getfield 16, 3) := by decide +kernel
theorem dX9_gulls_25 : decode cX9_gulls 25 = .ok (.aload_n 0, 1) := by decide +kernel
theorem dX9_gulls_26 : decode cX9_gulls 26 = .ok (.getfield 10, 3) := by decide +kernel
theorem dX9_gulls_29 : decode cX9_gulls 29 = .ok (.invokevirtual 86, 3) := by decide +kernel
theorem dX9_gulls_32 : decode cX9_gulls 32 = .ok (.iload_n 1, 1) := by decide +kernel
theorem dX9_gulls_33 : decode cX9_gulls 33 = .ok (.istore 4, 2) := by decide +kernel
theorem dX9_gulls_35 : decode cX9_gulls 35 = .ok (.iconst 0, 1) := by decide +kernel
theorem dX9_gulls_36 : decode cX9_gulls 36 = .ok (.istore 5, 2) := by decide +kernel
theorem dX9_gulls_38 : decode cX9_gulls 38 = .ok (.iload 5, 2) := by decide +kernel
theorem dX9_gulls_40 : decode cX9_gulls 40 = .ok (.iload_n 2, 1) := by decide +kernel
theorem dX9_gulls_41 : decode cX9_gulls 41 = .ok (.if_icmp .ge 43, 3) := by decide +kernel
theorem dX9_gulls_44 : decode cX9_gulls 44 = .ok (.iload 4, 2) := by decide +kernel
theorem dX9_gulls_46 : decode cX9_gulls 46 = .ok (.ldc 242, 2) := by decide +kernel
theorem dX9_gulls_48 : decode cX9_gulls 48 = .ok (.imul, 1) := by decide +kernel
theorem dX9_gulls_49 : decode cX9_gulls 49 = .ok (.sipush 12345, 3) := by decide +kernel
theorem dX9_gulls_52 : decode cX9_gulls 52 = .ok (.iadd, 1) := by decide +kernel
theorem dX9_gulls_53 : decode cX9_gulls 53 = .ok (.istore 4, 2) := by decide +kernel
theorem dX9_gulls_55 : decode cX9_gulls 55 = .ok (.aload_n 0, 1) := by decide +kernel
theorem dX9_gulls_56 : decode cX9_gulls 56 = .ok (.getfield 16, 3) := by decide +kernel
theorem dX9_gulls_59 : decode cX9_gulls 59 = .ok (.iload 4, 2) := by decide +kernel
theorem dX9_gulls_61 : decode cX9_gulls 61 = .ok (.bipush 16, 2) := by decide +kernel
theorem dX9_gulls_63 : decode cX9_gulls 63 = .ok (.iushr, 1) := by decide +kernel
theorem dX9_gulls_64 : decode cX9_gulls 64 = .ok (.sipush 32767, 3) := by decide +kernel
theorem dX9_gulls_67 : decode cX9_gulls 67 = .ok (.iand, 1) := by decide +kernel
theorem dX9_gulls_68 : decode cX9_gulls 68 = .ok (.invokevirtual 243, 3) := by decide +kernel
theorem dX9_gulls_71 : decode cX9_gulls 71 = .ok (.aload_n 0, 1) := by decide +kernel
theorem dX9_gulls_72 : decode cX9_gulls 72 = .ok (.getfield 16, 3) := by decide +kernel
theorem dX9_gulls_75 : decode cX9_gulls 75 = .ok (.invokevirtual 246, 3) := by decide +kernel
theorem dX9_gulls_78 : decode cX9_gulls 78 = .ok (.iinc 5 1, 3) := by decide +kernel
theorem dX9_gulls_81 : decode cX9_gulls 81 = .ok (.goto (-43), 3) := by decide +kernel
theorem dX9_gulls_84 : decode cX9_gulls 84 = .ok (.iload_n 3, 1) := by decide +kernel
theorem dX9_gulls_85 : decode cX9_gulls 85 = .ok (.ifCond .ne 17, 3) := by decide +kernel
theorem dX9_gulls_88 : decode cX9_gulls 88 = .ok (.aload_n 0, 1) := by decide +kernel
theorem dX9_gulls_89 : decode cX9_gulls 89 = .ok (.getfield 16, 3) := by decide +kernel
theorem dX9_gulls_92 : decode cX9_gulls 92 = .ok (.bipush 30, 2) := by decide +kernel
theorem dX9_gulls_94 : decode cX9_gulls 94 = .ok (.bipush 30, 2) := by decide +kernel
theorem dX9_gulls_96 : decode cX9_gulls 96 = .ok (.invokevirtual 177, 3) := by decide +kernel
theorem dX9_gulls_99 : decode cX9_gulls 99 = .ok (.goto 10, 3) := by decide +kernel
theorem dX9_gulls_102 : decode cX9_gulls 102 = .ok (.aload_n 0, 1) := by decide +kernel
theorem dX9_gulls_103 : decode cX9_gulls 103 = .ok (.getfield 16, 3) := by decide +kernel
theorem dX9_gulls_106 : decode cX9_gulls 106 = .ok (.invokevirtual 192, 3) := by decide +kernel
theorem dX9_gulls_109 : decode cX9_gulls 109 = .ok (.ireturn, 1) := by decide +kernel
end
section
theorem dX9_keep_0 : decode cX9_keep 0 = .ok (.iload_n 1, 1) := by decide +kernel
theorem dX9_keep_1 : decode cX9_keep 1 = .ok (.invokestatic 249, 3) := by decide +kernel
theorem dX9_keep_4 : decode cX9_keep 4 = .ok (.ifCond .ne 5, 3) := by decide +kernel
theorem dX9_keep_7 : decode cX9_keep 7 = .ok (.iconst (-1), 1) := by decide +kernel
theorem dX9_keep_8 : decode cX9_keep 8 = .ok (.ireturn, 1) := by decide +kernel
theorem dX9_keep_9 : decode cX9_keep 9 = .ok (.aload_n 0, 1) := by decide +kernel
theorem dX9_keep_10 : decode cX9_keep 10 = .ok (.getfield 47, 3) := by decide +kernel
theorem dX9_keep_13 : decode cX9_keep 13 = .ok (.iload_n 1, 1) := by decide +kernel
theorem dX9_keep_14 : decode cX9_keep 14 = .ok (.aaload, 1) := by decide +kernel
theorem dX9_keep_15 : decode cX9_keep 15 = .ok (.getfield 93, 3) := by decide +kernel
theorem dX9_keep_18 : decode cX9_keep 18 = .ok (.invokestatic 138, 3) := by decide +kernel
theorem dX9_keep_21 : decode cX9_keep 21 = .ok (.istore_n 2, 1) := by decide +kernel
theorem dX9_keep_22 : decode cX9_keep 22 = .ok (.aload_n 0, 1) := by decide +kernel
theorem dX9_keep_23 : decode cX9_keep 23 = .ok (.getfield 47, 3) := by decide +kernel
theorem dX9_keep_26 : decode cX9_keep 26 = .ok (.iload_n 1, 1) := by decide +kernel
theorem dX9_keep_27 : decode cX9_keep 27 = .ok (.aaload, 1) := by decide +kernel
theorem dX9_keep_28 : decode cX9_keep 28 = .ok (.aload_n 0, 1) := by decide +kernel
theorem dX9_keep_29 : decode cX9_keep 29 = .ok (.getfield 10, 3) := by decide +kernel
theorem dX9_keep_32 : decode cX9_keep 32 = .ok (.aload_n 0, 1) := by decide +kernel
theorem dX9_keep_33 : decode cX9_keep 33 = .ok (.getfield 22, 3) := by decide +kernel
theorem dX9_keep_36 : decode cX9_keep 36 = .ok (.invokevirtual 252, 3) := by decide +kernel
theorem dX9_keep_39 : decode cX9_keep 39 = .ok (.iload_n 2, 1) := by decide +kernel
theorem dX9_keep_40 : decode cX9_keep 40 = .ok (.ireturn, 1) := by decide +kernel
theorem dX9_back_0 : decode cX9_back 0 = .ok (.iload_n 1, 1) := by decide +kernel
theorem dX9_back_1 : decode cX9_back 1 = .ok (.invokestatic 249, 3) := by decide +kernel
theorem dX9_back_4 : decode cX9_back 4 = .ok (.ifCond .ne 5, 3) := by decide +kernel
theorem dX9_back_7 : decode cX9_back 7 = .ok (.iconst (-1), 1) := by decide +kernel
theorem dX9_back_8 : decode cX9_back 8 = .ok (.ireturn, 1) := by decide +kernel
theorem dX9_back_9 : decode cX9_back 9 = .ok (.aload_n 0, 1) := by decide +kernel
theorem dX9_back_10 : decode cX9_back 10 = .ok (.getfield 47, 3) := by decide +kernel
theorem dX9_back_13 : decode cX9_back 13 = .ok (.iload_n 1, 1) := by decide +kernel
theorem dX9_back_14 : decode cX9_back 14 = .ok (.aaload, 1) := by decide +kernel
theorem dX9_back_15 : decode cX9_back 15 = .ok (.getfield 93, 3) := by decide +kernel
theorem dX9_back_18 : decode cX9_back 18 = .ok (.ifCond .ne 6, 3) := by decide +kernel
theorem dX9_back_21 : decode cX9_back 21 = .ok (.bipush (-2), 2) := by decide +kernel
theorem dX9_back_23 : decode cX9_back 23 = .ok (.ireturn, 1) := by decide +kernel
theorem dX9_back_24 : decode cX9_back 24 = .ok (.aload_n 0, 1) := by decide +kernel
theorem dX9_back_25 : decode cX9_back 25 = .ok (.getfield 10, 3) := by decide +kernel
theorem dX9_back_28 : decode cX9_back 28 = .ok (.aload_n 0, 1) := by decide +kernel
theorem dX9_back_29 : decode cX9_back 29 = .ok (.getfield 47, 3) := by decide +kernel
theorem dX9_back_32 : decode cX9_back 32 = .ok (.iload_n 1, 1) := by decide +kernel
theorem dX9_back_33 : decode cX9_back 33 = .ok (.aaload, 1) := by decide +kernel
theorem dX9_back_34 : decode cX9_back 34 = .ok (.getfield 256, 3) := by decide +kernel
theorem dX9_back_37 : decode cX9_back 37 = .ok (.invokevirtual 86, 3) := by decide +kernel
theorem dX9_back_40 : decode cX9_back 40 = .ok (.aload_n 0, 1) := by decide +kernel
theorem dX9_back_41 : decode cX9_back 41 = .ok (.getfield 22, 3) := by decide +kernel
theorem dX9_back_44 : decode cX9_back 44 = .ok (.aload_n 0, 1) := by decide +kernel
theorem dX9_back_45 : decode cX9_back 45 = .ok (.getfield 47, 3) := by decide +kernel
theorem dX9_back_48 : decode cX9_back 48 = .ok (.iload_n 1, 1) := by decide +kernel
theorem dX9_back_49 : decode cX9_back 49 = .ok (.aaload, 1) := by decide +kernel
theorem dX9_back_50 : decode cX9_back 50 = .ok (.getfield 259, 3) := by decide +kernel
theorem dX9_back_53 : decode cX9_back 53 = .ok (.invokevirtual 260, 3) := by decide +kernel
theorem dX9_back_56 : decode cX9_back 56 = .ok (.aload_n 0, 1) := by decide +kernel
theorem dX9_back_57 : decode cX9_back 57 = .ok (.getfield 10, 3) := by decide +kernel
theorem dX9_back_60 : decode cX9_back 60 = .ok (.getfield 112, 3) := by decide +kernel
theorem dX9_back_63 : decode cX9_back 63 = .ok (.ireturn, 1) := by decide +kernel
theorem dX9_sheet_0 : decode cX9_sheet 0 = .ok (.iload_n 1, 1) := by decide +kernel
theorem dX9_sheet_1 : decode cX9_sheet 1 = .ok (.invokestatic 263, 3) := by decide +kernel
theorem dX9_sheet_4 : decode cX9_sheet 4 = .ok (.ifCond .eq 16, 3) := by decide +kernel
theorem dX9_sheet_7 : decode cX9_sheet 7 = .ok (.iload_n 2, 1) := by decide +kernel
theorem dX9_sheet_8 : decode cX9_sheet 8 = .ok (.invokestatic 266, 3) := by decide +kernel
theorem dX9_sheet_11 : decode cX9_sheet 11 = .ok (.ifCond .eq 9, 3) := by decide +kernel
theorem dX9_sheet_14 : decode cX9_sheet 14 = .ok (.iload_n 3, 1) := by decide +kernel
theorem dX9_sheet_15 : decode cX9_sheet 15 = .ok (.bipush 40, 2) := by decide +kernel
theorem dX9_sheet_17 : decode cX9_sheet 17 = .ok (.if_icmp .le 5, 3) := by decide +kernel
theorem dX9_sheet_20 : decode cX9_sheet 20 = .ok (.iconst (-1), 1) := by decide +kernel
theorem dX9_sheet_21 : decode cX9_sheet 21 = .ok (.ireturn, 1) := by decide +kernel
theorem dX9_sheet_22 : decode cX9_sheet 22 = .ok (.iload_n 3, 1) := by decide +kernel
theorem dX9_sheet_23 : decode cX9_sheet 23 = .ok (.ifCond .ge 6, 3) := by decide +kernel
theorem dX9_sheet_26 : decode cX9_sheet 26 = .ok (.bipush (-14), 2) := by decide +kernel
theorem dX9_sheet_28 : decode cX9_sheet 28 = .ok (.ireturn, 1) := by decide +kernel
theorem dX9_sheet_29 : decode cX9_sheet 29 = .ok (.aload_n 0, 1) := by decide +kernel
theorem dX9_sheet_30 : decode cX9_sheet 30 = .ok (.getfield 53, 3) := by decide +kernel
theorem dX9_sheet_33 : decode cX9_sheet 33 = .ok (.iload_n 1, 1) := by decide +kernel
theorem dX9_sheet_34 : decode cX9_sheet 34 = .ok (.aaload, 1) := by decide +kernel
theorem dX9_sheet_35 : decode cX9_sheet 35 = .ok (.iload_n 2, 1) := by decide +kernel
theorem dX9_sheet_36 : decode cX9_sheet 36 = .ok (.iload_n 3, 1) := by decide +kernel
theorem dX9_sheet_37 : decode cX9_sheet 37 = .ok (.invokevirtual 269, 3) := by decide +kernel
theorem dX9_sheet_40 : decode cX9_sheet 40 = .ok (.iconst 1, 1) := by decide +kernel
theorem dX9_sheet_41 : decode cX9_sheet 41 = .ok (.ireturn, 1) := by decide +kernel
theorem dX9_lay_0 : decode cX9_lay 0 = .ok (.iload_n 1, 1) := by decide +kernel
theorem dX9_lay_1 : decode cX9_lay 1 = .ok (.invokestatic 263, 3) := by decide +kernel
theorem dX9_lay_4 : decode cX9_lay 4 = .ok (.ifCond .ne 5, 3) := by decide +kernel
theorem dX9_lay_7 : decode cX9_lay 7 = .ok (.iconst (-1), 1) := by decide +kernel
theorem dX9_lay_8 : decode cX9_lay 8 = .ok (.ireturn, 1) := by decide +kernel
theorem dX9_lay_9 : decode cX9_lay 9 = .ok (.aload_n 0, 1) := by decide +kernel
theorem dX9_lay_10 : decode cX9_lay 10 = .ok (.getfield 53, 3) := by decide +kernel
theorem dX9_lay_13 : decode cX9_lay 13 = .ok (.iload_n 1, 1) := by decide +kernel
theorem dX9_lay_14 : decode cX9_lay 14 = .ok (.aaload, 1) := by decide +kernel
theorem dX9_lay_15 : decode cX9_lay 15 = .ok (.iload_n 2, 1) := by decide +kernel
theorem dX9_lay_16 : decode cX9_lay 16 = .ok (.invokevirtual 272, 3) := by decide +kernel
theorem dX9_lay_19 : decode cX9_lay 19 = .ok (.istore 4, 2) := by decide +kernel
theorem dX9_lay_21 : decode cX9_lay 21 = .ok (.iload 4, 2) := by decide +kernel
theorem dX9_lay_23 : decode cX9_lay 23 = .ok (.ifCond .eq 9, 3) := by decide +kernel
theorem dX9_lay_26 : decode cX9_lay 26 = .ok (.bipush (-10), 2) := by decide +kernel
theorem dX9_lay_28 : decode cX9_lay 28 = .ok (.iload 4, 2) := by decide +kernel
theorem dX9_lay_30 : decode cX9_lay 30 = .ok (.isub, 1) := by decide +kernel
theorem dX9_lay_31 : decode cX9_lay 31 = .ok (.ireturn, 1) := by decide +kernel
theorem dX9_lay_32 : decode cX9_lay 32 = .ok (.aload_n 0, 1) := by decide +kernel
theorem dX9_lay_33 : decode cX9_lay 33 = .ok (.getfield 53, 3) := by decide +kernel
theorem dX9_lay_36 : decode cX9_lay 36 = .ok (.iload_n 1, 1) := by decide +kernel
theorem dX9_lay_37 : decode cX9_lay 37 = .ok (.aaload, 1) := by decide +kernel
theorem dX9_lay_38 : decode cX9_lay 38 = .ok (.iload_n 2, 1) := by decide +kernel
theorem dX9_lay_39 : decode cX9_lay 39 = .ok (.iload_n 3, 1) := by decide +kernel
theorem dX9_lay_40 : decode cX9_lay 40 = .ok (.invokevirtual 275, 3) := by decide +kernel
theorem dX9_lay_43 : decode cX9_lay 43 = .ok (.iconst 1, 1) := by decide +kernel
theorem dX9_lay_44 : decode cX9_lay 44 = .ok (.ireturn, 1) := by decide +kernel
theorem dX9_read_0 : decode cX9_read 0 = .ok (.iload_n 1, 1) := by decide +kernel
theorem dX9_read_1 : decode cX9_read 1 = .ok (.invokestatic 263, 3) := by decide +kernel
theorem dX9_read_4 : decode cX9_read 4 = .ok (.ifCond .eq 21, 3) := by decide +kernel
theorem dX9_read_7 : decode cX9_read 7 = .ok (.iload_n 2, 1) := by decide +kernel
theorem dX9_read_8 : decode cX9_read 8 = .ok (.invokestatic 266, 3) := by decide +kernel
theorem dX9_read_11 : decode cX9_read 11 = .ok (.ifCond .eq 14, 3) := by decide +kernel
theorem dX9_read_14 : decode cX9_read 14 = .ok (.iload 4, 2) := by decide +kernel
theorem dX9_read_16 : decode cX9_read 16 = .ok (.iconst 0, 1) := by decide +kernel
theorem dX9_read_17 : decode cX9_read 17 = .ok (.bipush 13, 2) := by decide +kernel
theorem dX9_read_19 : decode cX9_read 19 = .ok (.invokestatic 69, 3) := by decide +kernel
theorem dX9_read_22 : decode cX9_read 22 = .ok (.ifCond .ne 5, 3) := by decide +kernel
theorem dX9_read_25 : decode cX9_read 25 = .ok (.iconst (-1), 1) := by decide +kernel
theorem dX9_read_26 : decode cX9_read 26 = .ok (.ireturn, 1) := by decide +kernel
theorem dX9_read_27 : decode cX9_read 27 = .ok (.aload_n 0, 1) := by decide +kernel
theorem dX9_read_28 : decode cX9_read 28 = .ok (.getfield 53, 3) := by decide +kernel
theorem dX9_read_31 : decode cX9_read 31 = .ok (.iload_n 1, 1) := by decide +kernel
theorem dX9_read_32 : decode cX9_read 32 = .ok (.aaload, 1) := by decide +kernel
theorem dX9_read_33 : decode cX9_read 33 = .ok (.astore 5, 2) := by decide +kernel
theorem dX9_read_35 : decode cX9_read 35 = .ok (.aload_n 0, 1) := by decide +kernel
theorem dX9_read_36 : decode cX9_read 36 = .ok (.getfield 10, 3) := by decide +kernel
theorem dX9_read_39 : decode cX9_read 39 = .ok (.getfield 100, 3) := by decide +kernel
theorem dX9_read_42 : decode cX9_read 42 = .ok (.istore 6, 2) := by decide +kernel
theorem dX9_read_44 : decode cX9_read 44 = .ok (.iconst 0, 1) := by decide +kernel
theorem dX9_read_45 : decode cX9_read 45 = .ok (.istore 7, 2) := by decide +kernel
theorem dX9_read_47 : decode cX9_read 47 = .ok (.iconst 0, 1) := by decide +kernel
theorem dX9_read_48 : decode cX9_read 48 = .ok (.istore 8, 2) := by decide +kernel
theorem dX9_read_50 : decode cX9_read 50 = .ok (.iload 7, 2) := by decide +kernel
theorem dX9_read_52 : decode cX9_read 52 = .ok (.ifCond .ne 79, 3) := by decide +kernel
theorem dX9_read_55 : decode cX9_read 55 = .ok (.iload 8, 2) := by decide +kernel
theorem dX9_read_57 : decode cX9_read 57 = .ok (.iload 4, 2) := by decide +kernel
theorem dX9_read_59 : decode cX9_read 59 = .ok (.if_icmp .ge 72, 3) := by decide +kernel
theorem dX9_read_62 : decode cX9_read 62 = .ok (.iload_n 3, 1) := by decide +kernel
theorem dX9_read_63 : decode cX9_read 63 = .ok (.iconst 2, 1) := by decide +kernel
theorem dX9_read_64 : decode cX9_read 64 = .ok (.iload 8, 2) := by decide +kernel
theorem dX9_read_66 : decode cX9_read 66 = .ok (.imul, 1) := by decide +kernel
theorem dX9_read_67 : decode cX9_read 67 = .ok (.iadd, 1) := by decide +kernel
theorem dX9_read_68 : decode cX9_read 68 = .ok (.istore 9, 2) := by decide +kernel
theorem dX9_read_70 : decode cX9_read 70 = .ok (.aload 5, 2) := by decide +kernel
theorem dX9_read_72 : decode cX9_read 72 = .ok (.iload_n 2, 1) := by decide +kernel
theorem dX9_read_73 : decode cX9_read 73 = .ok (.iload 9, 2) := by decide +kernel
theorem dX9_read_75 : decode cX9_read 75 = .ok (.invokevirtual 278, 3) := by decide +kernel
theorem dX9_read_78 : decode cX9_read 78 = .ok (.istore 7, 2) := by decide +kernel
theorem dX9_read_80 : decode cX9_read 80 = .ok (.iload 7, 2) := by decide +kernel
theorem dX9_read_82 : decode cX9_read 82 = .ok (.ifCond .ne 46, 3) := by decide +kernel
theorem dX9_read_85 : decode cX9_read 85 = .ok (.aload_n 0, 1) := by decide +kernel
theorem dX9_read_86 : decode cX9_read 86 = .ok (.aload 5, 2) := by decide +kernel
theorem dX9_read_88 : decode cX9_read 88 = .ok (.getfield 281, 3) := by decide +kernel
theorem dX9_read_91 : decode cX9_read 91 = .ok (.iload 9, 2) := by decide +kernel
theorem dX9_read_93 : decode cX9_read 93 = .ok (.iaload, 1) := by decide +kernel
theorem dX9_read_94 : decode cX9_read 94 = .ok (.aload 5, 2) := by decide +kernel
theorem dX9_read_96 : decode cX9_read 96 = .ok (.getfield 281, 3) := by decide +kernel
theorem dX9_read_99 : decode cX9_read 99 = .ok (.iload 9, 2) := by decide +kernel
theorem dX9_read_101 : decode cX9_read 101 = .ok (.iconst 1, 1) := by decide +kernel
theorem dX9_read_102 : decode cX9_read 102 = .ok (.iadd, 1) := by decide +kernel
theorem dX9_read_103 : decode cX9_read 103 = .ok (.iaload, 1) := by decide +kernel
theorem dX9_read_104 : decode cX9_read 104 = .ok (.invokevirtual 284, 3) := by decide +kernel
theorem dX9_read_107 : decode cX9_read 107 = .ok (.ifCond .ge 18, 3) := by decide +kernel
theorem dX9_read_110 : decode cX9_read 110 = .ok (.aload_n 0, 1) := by decide +kernel
theorem dX9_read_111 : decode cX9_read 111 = .ok (.getfield 10, 3) := by decide +kernel
theorem dX9_read_114 : decode cX9_read 114 = .ok (.iload 6, 2) := by decide +kernel
theorem dX9_read_116 : decode cX9_read 116 = .ok (.putfield 100, 3) := by decide +kernel
theorem dX9_read_119 : decode cX9_read 119 = .ok (.bipush (-20), 2) := by decide +kernel
theorem dX9_read_121 : decode cX9_read 121 = .ok (.iload 8, 2) := by decide +kernel
theorem dX9_read_123 : decode cX9_read 123 = .ok (.isub, 1) := by decide +kernel
theorem dX9_read_124 : decode cX9_read 124 = .ok (.ireturn, 1) := by decide +kernel
theorem dX9_read_125 : decode cX9_read 125 = .ok (.iinc 8 1, 3) := by decide +kernel
theorem dX9_read_128 : decode cX9_read 128 = .ok (.goto (-78), 3) := by decide +kernel
theorem dX9_read_131 : decode cX9_read 131 = .ok (.aload_n 0, 1) := by decide +kernel
theorem dX9_read_132 : decode cX9_read 132 = .ok (.iload 7, 2) := by decide +kernel
theorem dX9_read_134 : decode cX9_read 134 = .ok (.putfield 287, 3) := by decide +kernel
theorem dX9_read_137 : decode cX9_read 137 = .ok (.iload 8, 2) := by decide +kernel
theorem dX9_read_139 : decode cX9_read 139 = .ok (.ireturn, 1) := by decide +kernel
theorem dX9_torn_0 : decode cX9_torn 0 = .ok (.aload_n 0, 1) := by decide +kernel
theorem dX9_torn_1 : decode cX9_torn 1 = .ok (.getfield 287, 3) := by decide +kernel
theorem dX9_torn_4 : decode cX9_torn 4 = .ok (.ireturn, 1) := by decide +kernel
theorem dX9_count_0 : decode cX9_count 0 = .ok (.iload_n 1, 1) := by decide +kernel
theorem dX9_count_1 : decode cX9_count 1 = .ok (.tableswitch 176 0 8 #[51, 62, 74, 86, 98, 106, 114, 140, 148], 51) := by decide +kernel
theorem dX9_count_52 : decode cX9_count 52 = .ok (.aload_n 0, 1) := by decide +kernel
theorem dX9_count_53 : decode cX9_count 53 = .ok (.getfield 10, 3) := by decide +kernel
theorem dX9_count_56 : decode cX9_count 56 = .ok (.iconst 0, 1) := by decide +kernel
theorem dX9_count_57 : decode cX9_count 57 = .ok (.bipush 7, 2) := by decide +kernel
theorem dX9_count_59 : decode cX9_count 59 = .ok (.invokevirtual 177, 3) := by decide +kernel
theorem dX9_count_62 : decode cX9_count 62 = .ok (.ireturn, 1) := by decide +kernel
theorem dX9_count_63 : decode cX9_count 63 = .ok (.aload_n 0, 1) := by decide +kernel
theorem dX9_count_64 : decode cX9_count 64 = .ok (.getfield 10, 3) := by decide +kernel
theorem dX9_count_67 : decode cX9_count 67 = .ok (.bipush 10, 2) := by decide +kernel
theorem dX9_count_69 : decode cX9_count 69 = .ok (.bipush 13, 2) := by decide +kernel
theorem dX9_count_71 : decode cX9_count 71 = .ok (.invokevirtual 177, 3) := by decide +kernel
theorem dX9_count_74 : decode cX9_count 74 = .ok (.ireturn, 1) := by decide +kernel
theorem dX9_count_75 : decode cX9_count 75 = .ok (.aload_n 0, 1) := by decide +kernel
theorem dX9_count_76 : decode cX9_count 76 = .ok (.getfield 10, 3) := by decide +kernel
theorem dX9_count_79 : decode cX9_count 79 = .ok (.bipush 20, 2) := by decide +kernel
theorem dX9_count_81 : decode cX9_count 81 = .ok (.bipush 27, 2) := by decide +kernel
theorem dX9_count_83 : decode cX9_count 83 = .ok (.invokevirtual 177, 3) := by decide +kernel
theorem dX9_count_86 : decode cX9_count 86 = .ok (.ireturn, 1) := by decide +kernel
theorem dX9_count_87 : decode cX9_count 87 = .ok (.aload_n 0, 1) := by decide +kernel
theorem dX9_count_88 : decode cX9_count 88 = .ok (.getfield 10, 3) := by decide +kernel
theorem dX9_count_91 : decode cX9_count 91 = .ok (.bipush 30, 2) := by decide +kernel
theorem dX9_count_93 : decode cX9_count 93 = .ok (.bipush 30, 2) := by decide +kernel
theorem dX9_count_95 : decode cX9_count 95 = .ok (.invokevirtual 177, 3) := by decide +kernel
theorem dX9_count_98 : decode cX9_count 98 = .ok (.ireturn, 1) := by decide +kernel
theorem dX9_count_99 : decode cX9_count 99 = .ok (.aload_n 0, 1) := by decide +kernel
theorem dX9_count_100 : decode cX9_count 100 = .ok (.getfield 10, 3) := by decide +kernel
theorem dX9_count_103 : decode cX9_count 103 = .ok (.invokevirtual 192, 3) := by decide +kernel
theorem dX9_count_106 : decode cX9_count 106 = .ok (.ireturn, 1) := by decide +kernel
theorem dX9_count_107 : decode cX9_count 107 = .ok (.aload_n 0, 1) := by decide +kernel
theorem dX9_count_108 : decode cX9_count 108 = .ok (.getfield 22, 3) := by decide +kernel
theorem dX9_count_111 : decode cX9_count 111 = .ok (.getfield 90, 3) := by decide +kernel
theorem dX9_count_114 : decode cX9_count 114 = .ok (.ireturn, 1) := by decide +kernel
theorem dX9_count_115 : decode cX9_count 115 = .ok (.aload_n 0, 1) := by decide +kernel
theorem dX9_count_116 : decode cX9_count 116 = .ok (.getfield 47, 3) := by decide +kernel
theorem dX9_count_119 : decode cX9_count 119 = .ok (.iconst 0, 1) := by decide +kernel
theorem dX9_count_120 : decode cX9_count 120 = .ok (.aaload, 1) := by decide +kernel
theorem dX9_count_121 : decode cX9_count 121 = .ok (.getfield 93, 3) := by decide +kernel
theorem dX9_count_124 : decode cX9_count 124 = .ok (.invokestatic 138, 3) := by decide +kernel
theorem dX9_count_127 : decode cX9_count 127 = .ok (.aload_n 0, 1) := by decide +kernel
theorem dX9_count_128 : decode cX9_count 128 = .ok (.getfield 47, 3) := by decide +kernel
theorem dX9_count_131 : decode cX9_count 131 = .ok (.iconst 1, 1) := by decide +kernel
theorem dX9_count_132 : decode cX9_count 132 = .ok (.aaload, 1) := by decide +kernel
theorem dX9_count_133 : decode cX9_count 133 = .ok (.getfield 93, 3) := by decide +kernel
theorem dX9_count_136 : decode cX9_count 136 = .ok (.invokestatic 138, 3) := by decide +kernel
theorem dX9_count_139 : decode cX9_count 139 = .ok (.iadd, 1) := by decide +kernel
theorem dX9_count_140 : decode cX9_count 140 = .ok (.ireturn, 1) := by decide +kernel
theorem dX9_count_141 : decode cX9_count 141 = .ok (.aload_n 0, 1) := by decide +kernel
theorem dX9_count_142 : decode cX9_count 142 = .ok (.getfield 44, 3) := by decide +kernel
theorem dX9_count_145 : decode cX9_count 145 = .ok (.getfield 59, 3) := by decide +kernel
theorem dX9_count_148 : decode cX9_count 148 = .ok (.ireturn, 1) := by decide +kernel
theorem dX9_count_149 : decode cX9_count 149 = .ok (.aload_n 0, 1) := by decide +kernel
theorem dX9_count_150 : decode cX9_count 150 = .ok (.getfield 53, 3) := by decide +kernel
theorem dX9_count_153 : decode cX9_count 153 = .ok (.iconst 0, 1) := by decide +kernel
theorem dX9_count_154 : decode cX9_count 154 = .ok (.aaload, 1) := by decide +kernel
theorem dX9_count_155 : decode cX9_count 155 = .ok (.getfield 290, 3) := by decide +kernel
theorem dX9_count_158 : decode cX9_count 158 = .ok (.iconst (-1), 1) := by decide +kernel
theorem dX9_count_159 : decode cX9_count 159 = .ok (.if_icmp .ne 8, 3) := by decide +kernel
theorem dX9_count_162 : decode cX9_count 162 = .ok (.bipush (-4), 2) := by decide +kernel
theorem dX9_count_164 : decode cX9_count 164 = .ok (.goto 12, 3) := by decide +kernel
theorem dX9_count_167 : decode cX9_count 167 = .ok (.aload_n 0, 1) := by decide +kernel
theorem dX9_count_168 : decode cX9_count 168 = .ok (.getfield 53, 3) := by decide +kernel
theorem dX9_count_171 : decode cX9_count 171 = .ok (.iconst 0, 1) := by decide +kernel
theorem dX9_count_172 : decode cX9_count 172 = .ok (.aaload, 1) := by decide +kernel
theorem dX9_count_173 : decode cX9_count 173 = .ok (.getfield 293, 3) := by decide +kernel
theorem dX9_count_176 : decode cX9_count 176 = .ok (.ireturn, 1) := by decide +kernel
theorem dX9_count_177 : decode cX9_count 177 = .ok (.iconst (-1), 1) := by decide +kernel
theorem dX9_count_178 : decode cX9_count 178 = .ok (.ireturn, 1) := by decide +kernel
theorem dX9_within_0 : decode cX9_within 0 = .ok (.iload_n 0, 1) := by decide +kernel
theorem dX9_within_1 : decode cX9_within 1 = .ok (.iload_n 1, 1) := by decide +kernel
theorem dX9_within_2 : decode cX9_within 2 = .ok (.if_icmp .lt 12, 3) := by decide +kernel
theorem dX9_within_5 : decode cX9_within 5 = .ok (.iload_n 0, 1) := by decide +kernel
theorem dX9_within_6 : decode cX9_within 6 = .ok (.iload_n 2, 1) := by decide +kernel
theorem dX9_within_7 : decode cX9_within 7 = .ok (.if_icmp .gt 7, 3) := by decide +kernel
theorem dX9_within_10 : decode cX9_within 10 = .ok (.iconst 1, 1) := by decide +kernel
theorem dX9_within_11 : decode cX9_within 11 = .ok (.goto 4, 3) := by decide +kernel
theorem dX9_within_14 : decode cX9_within 14 = .ok (.iconst 0, 1) := by decide +kernel
theorem dX9_within_15 : decode cX9_within 15 = .ok (.ireturn, 1) := by decide +kernel
theorem dX9_asNumber_0 : decode cX9_asNumber 0 = .ok (.iload_n 0, 1) := by decide +kernel
theorem dX9_asNumber_1 : decode cX9_asNumber 1 = .ok (.ifCond .eq 7, 3) := by decide +kernel
theorem dX9_asNumber_4 : decode cX9_asNumber 4 = .ok (.iconst 1, 1) := by decide +kernel
theorem dX9_asNumber_5 : decode cX9_asNumber 5 = .ok (.goto 4, 3) := by decide +kernel
theorem dX9_asNumber_8 : decode cX9_asNumber 8 = .ok (.iconst 0, 1) := by decide +kernel
theorem dX9_asNumber_9 : decode cX9_asNumber 9 = .ok (.ireturn, 1) := by decide +kernel
theorem dX9_isPlace_0 : decode cX9_isPlace 0 = .ok (.iload_n 1, 1) := by decide +kernel
theorem dX9_isPlace_1 : decode cX9_isPlace 1 = .ok (.iconst 0, 1) := by decide +kernel
theorem dX9_isPlace_2 : decode cX9_isPlace 2 = .ok (.aload_n 0, 1) := by decide +kernel
theorem dX9_isPlace_3 : decode cX9_isPlace 3 = .ok (.getfield 10, 3) := by decide +kernel
theorem dX9_isPlace_6 : decode cX9_isPlace 6 = .ok (.getfield 97, 3) := by decide +kernel
theorem dX9_isPlace_9 : decode cX9_isPlace 9 = .ok (.iconst 1, 1) := by decide +kernel
theorem dX9_isPlace_10 : decode cX9_isPlace 10 = .ok (.isub, 1) := by decide +kernel
theorem dX9_isPlace_11 : decode cX9_isPlace 11 = .ok (.invokestatic 69, 3) := by decide +kernel
theorem dX9_isPlace_14 : decode cX9_isPlace 14 = .ok (.ireturn, 1) := by decide +kernel
theorem dX9_isCoin_0 : decode cX9_isCoin 0 = .ok (.iload_n 1, 1) := by decide +kernel
theorem dX9_isCoin_1 : decode cX9_isCoin 1 = .ok (.iconst 0, 1) := by decide +kernel
theorem dX9_isCoin_2 : decode cX9_isCoin 2 = .ok (.aload_n 0, 1) := by decide +kernel
theorem dX9_isCoin_3 : decode cX9_isCoin 3 = .ok (.getfield 10, 3) := by decide +kernel
theorem dX9_isCoin_6 : decode cX9_isCoin 6 = .ok (.getfield 100, 3) := by decide +kernel
theorem dX9_isCoin_9 : decode cX9_isCoin 9 = .ok (.iconst 1, 1) := by decide +kernel
theorem dX9_isCoin_10 : decode cX9_isCoin 10 = .ok (.isub, 1) := by decide +kernel
theorem dX9_isCoin_11 : decode cX9_isCoin 11 = .ok (.invokestatic 69, 3) := by decide +kernel
theorem dX9_isCoin_14 : decode cX9_isCoin 14 = .ok (.ireturn, 1) := by decide +kernel
theorem dX9_isCrab_0 : decode cX9_isCrab 0 = .ok (.iload_n 1, 1) := by decide +kernel
theorem dX9_isCrab_1 : decode cX9_isCrab 1 = .ok (.iconst 0, 1) := by decide +kernel
theorem dX9_isCrab_2 : decode cX9_isCrab 2 = .ok (.aload_n 0, 1) := by decide +kernel
theorem dX9_isCrab_3 : decode cX9_isCrab 3 = .ok (.getfield 10, 3) := by decide +kernel
theorem dX9_isCrab_6 : decode cX9_isCrab 6 = .ok (.getfield 103, 3) := by decide +kernel
theorem dX9_isCrab_9 : decode cX9_isCrab 9 = .ok (.iconst 1, 1) := by decide +kernel
theorem dX9_isCrab_10 : decode cX9_isCrab 10 = .ok (.isub, 1) := by decide +kernel
theorem dX9_isCrab_11 : decode cX9_isCrab 11 = .ok (.invokestatic 69, 3) := by decide +kernel
theorem dX9_isCrab_14 : decode cX9_isCrab 14 = .ok (.ireturn, 1) := by decide +kernel
theorem dX9_isImage_0 : decode cX9_isImage 0 = .ok (.iload_n 0, 1) := by decide +kernel
theorem dX9_isImage_1 : decode cX9_isImage 1 = .ok (.iconst 0, 1) := by decide +kernel
theorem dX9_isImage_2 : decode cX9_isImage 2 = .ok (.iconst 1, 1) := by decide +kernel
theorem dX9_isImage_3 : decode cX9_isImage 3 = .ok (.invokestatic 69, 3) := by decide +kernel
theorem dX9_isImage_6 : decode cX9_isImage 6 = .ok (.ireturn, 1) := by decide +kernel
theorem dX9_isSheet_0 : decode cX9_isSheet 0 = .ok (.iload_n 0, 1) := by decide +kernel
theorem dX9_isSheet_1 : decode cX9_isSheet 1 = .ok (.iconst 0, 1) := by decide +kernel
theorem dX9_isSheet_2 : decode cX9_isSheet 2 = .ok (.iconst 3, 1) := by decide +kernel
theorem dX9_isSheet_3 : decode cX9_isSheet 3 = .ok (.invokestatic 69, 3) := by decide +kernel
theorem dX9_isSheet_6 : decode cX9_isSheet 6 = .ok (.ireturn, 1) := by decide +kernel
theorem dX9_isLane_0 : decode cX9_isLane 0 = .ok (.iload_n 0, 1) := by decide +kernel
theorem dX9_isLane_1 : decode cX9_isLane 1 = .ok (.iconst 0, 1) := by decide +kernel
theorem dX9_isLane_2 : decode cX9_isLane 2 = .ok (.iconst 2, 1) := by decide +kernel
theorem dX9_isLane_3 : decode cX9_isLane 3 = .ok (.invokestatic 69, 3) := by decide +kernel
theorem dX9_isLane_6 : decode cX9_isLane 6 = .ok (.ireturn, 1) := by decide +kernel
theorem dX9_isWhere_0 : decode cX9_isWhere 0 = .ok (.iload_n 0, 1) := by decide +kernel
theorem dX9_isWhere_1 : decode cX9_isWhere 1 = .ok (.iconst 0, 1) := by decide +kernel
theorem dX9_isWhere_2 : decode cX9_isWhere 2 = .ok (.bipush 7, 2) := by decide +kernel
theorem dX9_isWhere_4 : decode cX9_isWhere 4 = .ok (.invokestatic 69, 3) := by decide +kernel
theorem dX9_isWhere_7 : decode cX9_isWhere 7 = .ok (.ifCond .ne 31, 3) := by decide +kernel
theorem dX9_isWhere_10 : decode cX9_isWhere 10 = .ok (.iload_n 0, 1) := by decide +kernel
theorem dX9_isWhere_11 : decode cX9_isWhere 11 = .ok (.bipush 10, 2) := by decide +kernel
theorem dX9_isWhere_13 : decode cX9_isWhere 13 = .ok (.bipush 13, 2) := by decide +kernel
theorem dX9_isWhere_15 : decode cX9_isWhere 15 = .ok (.invokestatic 69, 3) := by decide +kernel
theorem dX9_isWhere_18 : decode cX9_isWhere 18 = .ok (.ifCond .ne 20, 3) := by decide +kernel
theorem dX9_isWhere_21 : decode cX9_isWhere 21 = .ok (.iload_n 0, 1) := by decide +kernel
theorem dX9_isWhere_22 : decode cX9_isWhere 22 = .ok (.bipush 20, 2) := by decide +kernel
theorem dX9_isWhere_24 : decode cX9_isWhere 24 = .ok (.bipush 27, 2) := by decide +kernel
theorem dX9_isWhere_26 : decode cX9_isWhere 26 = .ok (.invokestatic 69, 3) := by decide +kernel
theorem dX9_isWhere_29 : decode cX9_isWhere 29 = .ok (.ifCond .ne 9, 3) := by decide +kernel
theorem dX9_isWhere_32 : decode cX9_isWhere 32 = .ok (.iload_n 0, 1) := by decide +kernel
theorem dX9_isWhere_33 : decode cX9_isWhere 33 = .ok (.bipush 30, 2) := by decide +kernel
theorem dX9_isWhere_35 : decode cX9_isWhere 35 = .ok (.if_icmp .ne 7, 3) := by decide +kernel
theorem dX9_isWhere_38 : decode cX9_isWhere 38 = .ok (.iconst 1, 1) := by decide +kernel
theorem dX9_isWhere_39 : decode cX9_isWhere 39 = .ok (.goto 4, 3) := by decide +kernel
theorem dX9_isWhere_42 : decode cX9_isWhere 42 = .ok (.iconst 0, 1) := by decide +kernel
theorem dX9_isWhere_43 : decode cX9_isWhere 43 = .ok (.ireturn, 1) := by decide +kernel
theorem dX9_isSortedBy_0 : decode cX9_isSortedBy 0 = .ok (.aload_n 0, 1) := by decide +kernel
theorem dX9_isSortedBy_1 : decode cX9_isSortedBy 1 = .ok (.getfield 16, 3) := by decide +kernel
theorem dX9_isSortedBy_4 : decode cX9_isSortedBy 4 = .ok (.aload_n 0, 1) := by decide +kernel
theorem dX9_isSortedBy_5 : decode cX9_isSortedBy 5 = .ok (.getfield 10, 3) := by decide +kernel
theorem dX9_isSortedBy_8 : decode cX9_isSortedBy 8 = .ok (.invokevirtual 86, 3) := by decide +kernel
theorem dX9_isSortedBy_11 : decode cX9_isSortedBy 11 = .ok (.aload_n 0, 1) := by decide +kernel
theorem dX9_isSortedBy_12 : decode cX9_isSortedBy 12 = .ok (.getfield 16, 3) := by decide +kernel
theorem dX9_isSortedBy_15 : decode cX9_isSortedBy 15 = .ok (.iload_n 1, 1) := by decide +kernel
theorem dX9_isSortedBy_16 : decode cX9_isSortedBy 16 = .ok (.invokevirtual 294, 3) := by decide +kernel
theorem dX9_isSortedBy_19 : decode cX9_isSortedBy 19 = .ok (.aload_n 0, 1) := by decide +kernel
theorem dX9_isSortedBy_20 : decode cX9_isSortedBy 20 = .ok (.getfield 16, 3) := by decide +kernel
theorem dX9_isSortedBy_23 : decode cX9_isSortedBy 23 = .ok (.bipush 40, 2) := by decide +kernel
theorem dX9_isSortedBy_25 : decode cX9_isSortedBy 25 = .ok (.invokevirtual 201, 3) := by decide +kernel
theorem dX9_isSortedBy_28 : decode cX9_isSortedBy 28 = .ok (.bipush (-4), 2) := by decide +kernel
theorem dX9_isSortedBy_30 : decode cX9_isSortedBy 30 = .ok (.if_icmp .eq 7, 3) := by decide +kernel
theorem dX9_isSortedBy_33 : decode cX9_isSortedBy 33 = .ok (.iconst 1, 1) := by decide +kernel
theorem dX9_isSortedBy_34 : decode cX9_isSortedBy 34 = .ok (.goto 4, 3) := by decide +kernel
theorem dX9_isSortedBy_37 : decode cX9_isSortedBy 37 = .ok (.iconst 0, 1) := by decide +kernel
theorem dX9_isSortedBy_38 : decode cX9_isSortedBy 38 = .ok (.ireturn, 1) := by decide +kernel
theorem dX9_stepsWithHole_0 : decode cX9_stepsWithHole 0 = .ok (.aload_n 0, 1) := by decide +kernel
theorem dX9_stepsWithHole_1 : decode cX9_stepsWithHole 1 = .ok (.getfield 16, 3) := by decide +kernel
theorem dX9_stepsWithHole_4 : decode cX9_stepsWithHole 4 = .ok (.aload_n 0, 1) := by decide +kernel
theorem dX9_stepsWithHole_5 : decode cX9_stepsWithHole 5 = .ok (.getfield 10, 3) := by decide +kernel
theorem dX9_stepsWithHole_8 : decode cX9_stepsWithHole 8 = .ok (.invokevirtual 86, 3) := by decide +kernel
theorem dX9_stepsWithHole_11 : decode cX9_stepsWithHole 11 = .ok (.aload_n 0, 1) := by decide +kernel
theorem dX9_stepsWithHole_12 : decode cX9_stepsWithHole 12 = .ok (.getfield 16, 3) := by decide +kernel
theorem dX9_stepsWithHole_15 : decode cX9_stepsWithHole 15 = .ok (.getfield 119, 3) := by decide +kernel
theorem dX9_stepsWithHole_18 : decode cX9_stepsWithHole 18 = .ok (.iload_n 1, 1) := by decide +kernel
theorem dX9_stepsWithHole_19 : decode cX9_stepsWithHole 19 = .ok (.iload_n 2, 1) := by decide +kernel
theorem dX9_stepsWithHole_20 : decode cX9_stepsWithHole 20 = .ok (.iastore, 1) := by decide +kernel
theorem dX9_stepsWithHole_21 : decode cX9_stepsWithHole 21 = .ok (.aload_n 0, 1) := by decide +kernel
theorem dX9_stepsWithHole_22 : decode cX9_stepsWithHole 22 = .ok (.getfield 16, 3) := by decide +kernel
theorem dX9_stepsWithHole_25 : decode cX9_stepsWithHole 25 = .ok (.iload_n 3, 1) := by decide +kernel
theorem dX9_stepsWithHole_26 : decode cX9_stepsWithHole 26 = .ok (.invokevirtual 201, 3) := by decide +kernel
theorem dX9_stepsWithHole_29 : decode cX9_stepsWithHole 29 = .ok (.ireturn, 1) := by decide +kernel
theorem dX9_isSeenWithFalse_0 : decode cX9_isSeenWithFalse 0 = .ok (.aload_n 0, 1) := by decide +kernel
theorem dX9_isSeenWithFalse_1 : decode cX9_isSeenWithFalse 1 = .ok (.getfield 16, 3) := by decide +kernel
theorem dX9_isSeenWithFalse_4 : decode cX9_isSeenWithFalse 4 = .ok (.aload_n 0, 1) := by decide +kernel
theorem dX9_isSeenWithFalse_5 : decode cX9_isSeenWithFalse 5 = .ok (.getfield 10, 3) := by decide +kernel
theorem dX9_isSeenWithFalse_8 : decode cX9_isSeenWithFalse 8 = .ok (.invokevirtual 86, 3) := by decide +kernel
theorem dX9_isSeenWithFalse_11 : decode cX9_isSeenWithFalse 11 = .ok (.iconst 0, 1) := by decide +kernel
theorem dX9_isSeenWithFalse_12 : decode cX9_isSeenWithFalse 12 = .ok (.istore_n 2, 1) := by decide +kernel
theorem dX9_isSeenWithFalse_13 : decode cX9_isSeenWithFalse 13 = .ok (.iload_n 2, 1) := by decide +kernel
theorem dX9_isSeenWithFalse_14 : decode cX9_isSeenWithFalse 14 = .ok (.aload_n 0, 1) := by decide +kernel
theorem dX9_isSeenWithFalse_15 : decode cX9_isSeenWithFalse 15 = .ok (.getfield 16, 3) := by decide +kernel
theorem dX9_isSeenWithFalse_18 : decode cX9_isSeenWithFalse 18 = .ok (.getfield 100, 3) := by decide +kernel
theorem dX9_isSeenWithFalse_21 : decode cX9_isSeenWithFalse 21 = .ok (.if_icmp .ge 35, 3) := by decide +kernel
theorem dX9_isSeenWithFalse_24 : decode cX9_isSeenWithFalse 24 = .ok (.aload_n 0, 1) := by decide +kernel
theorem dX9_isSeenWithFalse_25 : decode cX9_isSeenWithFalse 25 = .ok (.getfield 16, 3) := by decide +kernel
theorem dX9_isSeenWithFalse_28 : decode cX9_isSeenWithFalse 28 = .ok (.getfield 126, 3) := by decide +kernel
theorem dX9_isSeenWithFalse_31 : decode cX9_isSeenWithFalse 31 = .ok (.iload_n 2, 1) := by decide +kernel
theorem dX9_isSeenWithFalse_32 : decode cX9_isSeenWithFalse 32 = .ok (.aaload, 1) := by decide +kernel
theorem dX9_isSeenWithFalse_33 : decode cX9_isSeenWithFalse 33 = .ok (.iload_n 1, 1) := by decide +kernel
theorem dX9_isSeenWithFalse_34 : decode cX9_isSeenWithFalse 34 = .ok (.iload_n 2, 1) := by decide +kernel
theorem dX9_isSeenWithFalse_35 : decode cX9_isSeenWithFalse 35 = .ok (.ishr, 1) := by decide +kernel
theorem dX9_isSeenWithFalse_36 : decode cX9_isSeenWithFalse 36 = .ok (.iconst 1, 1) := by decide +kernel
theorem dX9_isSeenWithFalse_37 : decode cX9_isSeenWithFalse 37 = .ok (.iand, 1) := by decide +kernel
theorem dX9_isSeenWithFalse_38 : decode cX9_isSeenWithFalse 38 = .ok (.iconst 1, 1) := by decide +kernel
theorem dX9_isSeenWithFalse_39 : decode cX9_isSeenWithFalse 39 = .ok (.if_icmp .ne 7, 3) := by decide +kernel
theorem dX9_isSeenWithFalse_42 : decode cX9_isSeenWithFalse 42 = .ok (.iconst 1, 1) := by decide +kernel
theorem dX9_isSeenWithFalse_43 : decode cX9_isSeenWithFalse 43 = .ok (.goto 4, 3) := by decide +kernel
theorem dX9_isSeenWithFalse_46 : decode cX9_isSeenWithFalse 46 = .ok (.iconst 0, 1) := by decide +kernel
theorem dX9_isSeenWithFalse_47 : decode cX9_isSeenWithFalse 47 = .ok (.putfield 135, 3) := by decide +kernel
theorem dX9_isSeenWithFalse_50 : decode cX9_isSeenWithFalse 50 = .ok (.iinc 2 1, 3) := by decide +kernel
theorem dX9_isSeenWithFalse_53 : decode cX9_isSeenWithFalse 53 = .ok (.goto (-40), 3) := by decide +kernel
theorem dX9_isSeenWithFalse_56 : decode cX9_isSeenWithFalse 56 = .ok (.aload_n 0, 1) := by decide +kernel
theorem dX9_isSeenWithFalse_57 : decode cX9_isSeenWithFalse 57 = .ok (.getfield 22, 3) := by decide +kernel
theorem dX9_isSeenWithFalse_60 : decode cX9_isSeenWithFalse 60 = .ok (.aload_n 0, 1) := by decide +kernel
theorem dX9_isSeenWithFalse_61 : decode cX9_isSeenWithFalse 61 = .ok (.getfield 16, 3) := by decide +kernel
theorem dX9_isSeenWithFalse_64 : decode cX9_isSeenWithFalse 64 = .ok (.invokevirtual 238, 3) := by decide +kernel
theorem dX9_isSeenWithFalse_67 : decode cX9_isSeenWithFalse 67 = .ok (.ireturn, 1) := by decide +kernel
theorem dX10_init_0 : decode cX10_init 0 = .ok (.aload_n 0, 1) := by decide +kernel
theorem dX10_init_1 : decode cX10_init 1 = .ok (.invokespecial 1, 3) := by decide +kernel
theorem dX10_init_4 : decode cX10_init 4 = .ok (.aload_n 0, 1) := by decide +kernel
theorem dX10_init_5 : decode cX10_init 5 = .ok (.sipush 237, 3) := by decide +kernel
theorem dX10_init_8 : decode cX10_init 8 = .ok (.newarray .int, 2) := by decide +kernel
theorem dX10_init_10 : decode cX10_init 10 = .ok (.putfield 7, 3) := by decide +kernel
theorem dX10_init_13 : decode cX10_init 13 = .ok (.aload_n 0, 1) := by decide +kernel
theorem dX10_init_14 : decode cX10_init 14 = .ok (.iconst 2, 1) := by decide +kernel
theorem dX10_init_15 : decode cX10_init 15 = .ok (.newarray .boolean, 2) := by decide +kernel
theorem dX10_init_17 : decode cX10_init 17 = .ok (.putfield 13, 3) := by decide +kernel
theorem dX10_init_20 : decode cX10_init 20 = .ok (.aload_n 0, 1) := by decide +kernel
theorem dX10_init_21 : decode cX10_init 21 = .ok (.bipush 79, 2) := by decide +kernel
theorem dX10_init_23 : decode cX10_init 23 = .ok (.newarray .int, 2) := by decide +kernel
theorem dX10_init_25 : decode cX10_init 25 = .ok (.putfield 17, 3) := by decide +kernel
theorem dX10_init_28 : decode cX10_init 28 = .ok (.aload_n 0, 1) := by decide +kernel
theorem dX10_init_29 : decode cX10_init 29 = .ok (.sipush 320, 3) := by decide +kernel
theorem dX10_init_32 : decode cX10_init 32 = .ok (.newarray .int, 2) := by decide +kernel
theorem dX10_init_34 : decode cX10_init 34 = .ok (.putfield 20, 3) := by decide +kernel
theorem dX10_init_37 : decode cX10_init 37 = .ok (.aload_n 0, 1) := by decide +kernel
theorem dX10_init_38 : decode cX10_init 38 = .ok (.bipush 8, 2) := by decide +kernel
theorem dX10_init_40 : decode cX10_init 40 = .ok (.newarray .int, 2) := by decide +kernel
theorem dX10_init_42 : decode cX10_init 42 = .ok (.putfield 23, 3) := by decide +kernel
theorem dX10_init_45 : decode cX10_init 45 = .ok (.aload_n 0, 1) := by decide +kernel
theorem dX10_init_46 : decode cX10_init 46 = .ok (.bipush 6, 2) := by decide +kernel
theorem dX10_init_48 : decode cX10_init 48 = .ok (.newarray .int, 2) := by decide +kernel
theorem dX10_init_50 : decode cX10_init 50 = .ok (.putfield 26, 3) := by decide +kernel
theorem dX10_init_53 : decode cX10_init 53 = .ok (.aload_n 0, 1) := by decide +kernel
theorem dX10_init_54 : decode cX10_init 54 = .ok (.bipush 6, 2) := by decide +kernel
theorem dX10_init_56 : decode cX10_init 56 = .ok (.newarray .int, 2) := by decide +kernel
theorem dX10_init_58 : decode cX10_init 58 = .ok (.putfield 29, 3) := by decide +kernel
theorem dX10_init_61 : decode cX10_init 61 = .ok (.aload_n 0, 1) := by decide +kernel
theorem dX10_init_62 : decode cX10_init 62 = .ok (.iconst 4, 1) := by decide +kernel
theorem dX10_init_63 : decode cX10_init 63 = .ok (.newarray .int, 2) := by decide +kernel
theorem dX10_init_65 : decode cX10_init 65 = .ok (.putfield 32, 3) := by decide +kernel
theorem dX10_init_68 : decode cX10_init 68 = .ok (.aload_n 0, 1) := by decide +kernel
theorem dX10_init_69 : decode cX10_init 69 = .ok (.iconst 4, 1) := by decide +kernel
theorem dX10_init_70 : decode cX10_init 70 = .ok (.newarray .int, 2) := by decide +kernel
theorem dX10_init_72 : decode cX10_init 72 = .ok (.putfield 35, 3) := by decide +kernel
theorem dX10_init_75 : decode cX10_init 75 = .ok (.aload_n 0, 1) := by decide +kernel
theorem dX10_init_76 : decode cX10_init 76 = .ok (.iconst 4, 1) := by decide +kernel
theorem dX10_init_77 : decode cX10_init 77 = .ok (.newarray .int, 2) := by decide +kernel
theorem dX10_init_79 : decode cX10_init 79 = .ok (.putfield 38, 3) := by decide +kernel
theorem dX10_init_82 : decode cX10_init 82 = .ok (.aload_n 0, 1) := by decide +kernel
theorem dX10_init_83 : decode cX10_init 83 = .ok (.iconst 4, 1) := by decide +kernel
theorem dX10_init_84 : decode cX10_init 84 = .ok (.newarray .int, 2) := by decide +kernel
theorem dX10_init_86 : decode cX10_init 86 = .ok (.putfield 41, 3) := by decide +kernel
theorem dX10_init_89 : decode cX10_init 89 = .ok (.aload_n 0, 1) := by decide +kernel
theorem dX10_init_90 : decode cX10_init 90 = .ok (.iconst 4, 1) := by decide +kernel
theorem dX10_init_91 : decode cX10_init 91 = .ok (.newarray .int, 2) := by decide +kernel
theorem dX10_init_93 : decode cX10_init 93 = .ok (.putfield 44, 3) := by decide +kernel
theorem dX10_init_96 : decode cX10_init 96 = .ok (.aload_n 0, 1) := by decide +kernel
theorem dX10_init_97 : decode cX10_init 97 = .ok (.iconst 4, 1) := by decide +kernel
theorem dX10_init_98 : decode cX10_init 98 = .ok (.newarray .boolean, 2) := by decide +kernel
theorem dX10_init_100 : decode cX10_init 100 = .ok (.putfield 47, 3) := by decide +kernel
theorem dX10_init_103 : decode cX10_init 103 = .ok (.aload_n 0, 1) := by decide +kernel
theorem dX10_init_104 : decode cX10_init 104 = .ok (.iconst 4, 1) := by decide +kernel
theorem dX10_init_105 : decode cX10_init 105 = .ok (.newarray .int, 2) := by decide +kernel
theorem dX10_init_107 : decode cX10_init 107 = .ok (.putfield 50, 3) := by decide +kernel
theorem dX10_init_110 : decode cX10_init 110 = .ok (.aload_n 0, 1) := by decide +kernel
theorem dX10_init_111 : decode cX10_init 111 = .ok (.iconst 4, 1) := by decide +kernel
theorem dX10_init_112 : decode cX10_init 112 = .ok (.newarray .int, 2) := by decide +kernel
theorem dX10_init_114 : decode cX10_init 114 = .ok (.putfield 53, 3) := by decide +kernel
theorem dX10_init_117 : decode cX10_init 117 = .ok (.aload_n 0, 1) := by decide +kernel
theorem dX10_init_118 : decode cX10_init 118 = .ok (.iconst 4, 1) := by decide +kernel
theorem dX10_init_119 : decode cX10_init 119 = .ok (.newarray .int, 2) := by decide +kernel
theorem dX10_init_121 : decode cX10_init 121 = .ok (.putfield 56, 3) := by decide +kernel
theorem dX10_init_124 : decode cX10_init 124 = .ok (.aload_n 0, 1) := by decide +kernel
theorem dX10_init_125 : decode cX10_init 125 = .ok (.iconst 4, 1) := by decide +kernel
theorem dX10_init_126 : decode cX10_init 126 = .ok (.newarray .int, 2) := by decide +kernel
theorem dX10_init_128 : decode cX10_init 128 = .ok (.putfield 59, 3) := by decide +kernel
theorem dX10_init_131 : decode cX10_init 131 = .ok (.aload_n 0, 1) := by decide +kernel
theorem dX10_init_132 : decode cX10_init 132 = .ok (.sipush 160, 3) := by decide +kernel
theorem dX10_init_135 : decode cX10_init 135 = .ok (.newarray .int, 2) := by decide +kernel
theorem dX10_init_137 : decode cX10_init 137 = .ok (.putfield 62, 3) := by decide +kernel
theorem dX10_init_140 : decode cX10_init 140 = .ok (.iconst 0, 1) := by decide +kernel
theorem dX10_init_141 : decode cX10_init 141 = .ok (.istore_n 1, 1) := by decide +kernel
theorem dX10_init_142 : decode cX10_init 142 = .ok (.iload_n 1, 1) := by decide +kernel
theorem dX10_init_143 : decode cX10_init 143 = .ok (.iconst 4, 1) := by decide +kernel
theorem dX10_init_144 : decode cX10_init 144 = .ok (.if_icmp .ge 17, 3) := by decide +kernel
theorem dX10_init_147 : decode cX10_init 147 = .ok (.aload_n 0, 1) := by decide +kernel
theorem dX10_init_148 : decode cX10_init 148 = .ok (.getfield 56, 3) := by decide +kernel
theorem dX10_init_151 : decode cX10_init 151 = .ok (.iload_n 1, 1) := by decide +kernel
theorem dX10_init_152 : decode cX10_init 152 = .ok (.bipush (-4), 2) := by decide +kernel
theorem dX10_init_154 : decode cX10_init 154 = .ok (.iastore, 1) := by decide +kernel
theorem dX10_init_155 : decode cX10_init 155 = .ok (.iinc 1 1, 3) := by decide +kernel
theorem dX10_init_158 : decode cX10_init 158 = .ok (.goto (-16), 3) := by decide +kernel
theorem dX10_init_161 : decode cX10_init 161 = .ok (.aload_n 0, 1) := by decide +kernel
theorem dX10_init_162 : decode cX10_init 162 = .ok (.invokevirtual 65, 3) := by decide +kernel
theorem dX10_init_165 : decode cX10_init 165 = .ok (.aload_n 0, 1) := by decide +kernel
theorem dX10_init_166 : decode cX10_init 166 = .ok (.invokevirtual 68, 3) := by decide +kernel
theorem dX10_init_169 : decode cX10_init 169 = .ok (.return_, 1) := by decide +kernel
theorem dX10_in_0 : decode cX10_in 0 = .ok (.lload_n 0, 1) := by decide +kernel
theorem dX10_in_1 : decode cX10_in 1 = .ok (.lload_n 2, 1) := by decide +kernel
theorem dX10_in_2 : decode cX10_in 2 = .ok (.lcmp, 1) := by decide +kernel
theorem dX10_in_3 : decode cX10_in 3 = .ok (.ifCond .lt 14, 3) := by decide +kernel
theorem dX10_in_6 : decode cX10_in 6 = .ok (.lload_n 0, 1) := by decide +kernel
theorem dX10_in_7 : decode cX10_in 7 = .ok (.lload 4, 2) := by decide +kernel
theorem dX10_in_9 : decode cX10_in 9 = .ok (.lcmp, 1) := by decide +kernel
theorem dX10_in_10 : decode cX10_in 10 = .ok (.ifCond .gt 7, 3) := by decide +kernel
theorem dX10_in_13 : decode cX10_in 13 = .ok (.iconst 1, 1) := by decide +kernel
theorem dX10_in_14 : decode cX10_in 14 = .ok (.goto 4, 3) := by decide +kernel
theorem dX10_in_17 : decode cX10_in 17 = .ok (.iconst 0, 1) := by decide +kernel
theorem dX10_in_18 : decode cX10_in 18 = .ok (.ireturn, 1) := by decide +kernel
theorem dX10_flag_0 : decode cX10_flag 0 = .ok (.iload_n 0, 1) := by decide +kernel
theorem dX10_flag_1 : decode cX10_flag 1 = .ok (.ifCond .eq 7, 3) := by decide +kernel
theorem dX10_flag_4 : decode cX10_flag 4 = .ok (.iconst 1, 1) := by decide +kernel
theorem dX10_flag_5 : decode cX10_flag 5 = .ok (.goto 4, 3) := by decide +kernel
theorem dX10_flag_8 : decode cX10_flag 8 = .ok (.iconst 0, 1) := by decide +kernel
theorem dX10_flag_9 : decode cX10_flag 9 = .ok (.ireturn, 1) := by decide +kernel
theorem dX10_firstDraft_0 : decode cX10_firstDraft 0 = .ok (.iconst 0, 1) := by decide +kernel
theorem dX10_firstDraft_1 : decode cX10_firstDraft 1 = .ok (.istore_n 1, 1) := by decide +kernel
theorem dX10_firstDraft_2 : decode cX10_firstDraft 2 = .ok (.iload_n 1, 1) := by decide +kernel
theorem dX10_firstDraft_3 : decode cX10_firstDraft 3 = .ok (.bipush 79, 2) := by decide +kernel
theorem dX10_firstDraft_5 : decode cX10_firstDraft 5 = .ok (.if_icmp .ge 16, 3) := by decide +kernel
theorem dX10_firstDraft_8 : decode cX10_firstDraft 8 = .ok (.aload_n 0, 1) := by decide +kernel
theorem dX10_firstDraft_9 : decode cX10_firstDraft 9 = .ok (.getfield 17, 3) := by decide +kernel
theorem dX10_firstDraft_12 : decode cX10_firstDraft 12 = .ok (.iload_n 1, 1) := by decide +kernel
theorem dX10_firstDraft_13 : decode cX10_firstDraft 13 = .ok (.iconst 0, 1) := by decide +kernel
theorem dX10_firstDraft_14 : decode cX10_firstDraft 14 = .ok (.iastore, 1) := by decide +kernel
theorem dX10_firstDraft_15 : decode cX10_firstDraft 15 = .ok (.iinc 1 1, 3) := by decide +kernel
theorem dX10_firstDraft_18 : decode cX10_firstDraft 18 = .ok (.goto (-16), 3) := by decide +kernel
theorem dX10_firstDraft_21 : decode cX10_firstDraft 21 = .ok (.aload_n 0, 1) := by decide +kernel
theorem dX10_firstDraft_22 : decode cX10_firstDraft 22 = .ok (.iconst 4, 1) := by decide +kernel
theorem dX10_firstDraft_23 : decode cX10_firstDraft 23 = .ok (.putfield 71, 3) := by decide +kernel
theorem dX10_firstDraft_26 : decode cX10_firstDraft 26 = .ok (.aload_n 0, 1) := by decide +kernel
theorem dX10_firstDraft_27 : decode cX10_firstDraft 27 = .ok (.iconst 0, 1) := by decide +kernel
theorem dX10_firstDraft_28 : decode cX10_firstDraft 28 = .ok (.putfield 75, 3) := by decide +kernel
theorem dX10_firstDraft_31 : decode cX10_firstDraft 31 = .ok (.aload_n 0, 1) := by decide +kernel
theorem dX10_firstDraft_32 : decode cX10_firstDraft 32 = .ok (.iconst 0, 1) := by decide +kernel
theorem dX10_firstDraft_33 : decode cX10_firstDraft 33 = .ok (.putfield 78, 3) := by decide +kernel
theorem dX10_firstDraft_36 : decode cX10_firstDraft 36 = .ok (.aload_n 0, 1) := by decide +kernel
theorem dX10_firstDraft_37 : decode cX10_firstDraft 37 = .ok (.bipush (-4), 2) := by decide +kernel
theorem dX10_firstDraft_39 : decode cX10_firstDraft 39 = .ok (.putfield 81, 3) := by decide +kernel
theorem dX10_firstDraft_42 : decode cX10_firstDraft 42 = .ok (.return_, 1) := by decide +kernel
theorem dX10_keepDraft_0 : decode cX10_keepDraft 0 = .ok (.iconst 0, 1) := by decide +kernel
theorem dX10_keepDraft_1 : decode cX10_keepDraft 1 = .ok (.istore_n 1, 1) := by decide +kernel
theorem dX10_keepDraft_2 : decode cX10_keepDraft 2 = .ok (.iload_n 1, 1) := by decide +kernel
theorem dX10_keepDraft_3 : decode cX10_keepDraft 3 = .ok (.bipush 79, 2) := by decide +kernel
theorem dX10_keepDraft_5 : decode cX10_keepDraft 5 = .ok (.if_icmp .ge 21, 3) := by decide +kernel
theorem dX10_keepDraft_8 : decode cX10_keepDraft 8 = .ok (.aload_n 0, 1) := by decide +kernel
theorem dX10_keepDraft_9 : decode cX10_keepDraft 9 = .ok (.getfield 7, 3) := by decide +kernel
theorem dX10_keepDraft_12 : decode cX10_keepDraft 12 = .ok (.iload_n 1, 1) := by decide +kernel
theorem dX10_keepDraft_13 : decode cX10_keepDraft 13 = .ok (.aload_n 0, 1) := by decide +kernel
theorem dX10_keepDraft_14 : decode cX10_keepDraft 14 = .ok (.getfield 17, 3) := by decide +kernel
theorem dX10_keepDraft_17 : decode cX10_keepDraft 17 = .ok (.iload_n 1, 1) := by decide +kernel
theorem dX10_keepDraft_18 : decode cX10_keepDraft 18 = .ok (.iaload, 1) := by decide +kernel
theorem dX10_keepDraft_19 : decode cX10_keepDraft 19 = .ok (.iastore, 1) := by decide +kernel
theorem dX10_keepDraft_20 : decode cX10_keepDraft 20 = .ok (.iinc 1 1, 3) := by decide +kernel
theorem dX10_keepDraft_23 : decode cX10_keepDraft 23 = .ok (.goto (-21), 3) := by decide +kernel
theorem dX10_keepDraft_26 : decode cX10_keepDraft 26 = .ok (.aload_n 0, 1) := by decide +kernel
theorem dX10_keepDraft_27 : decode cX10_keepDraft 27 = .ok (.aload_n 0, 1) := by decide +kernel
theorem dX10_keepDraft_28 : decode cX10_keepDraft 28 = .ok (.getfield 71, 3) := by decide +kernel
theorem dX10_keepDraft_31 : decode cX10_keepDraft 31 = .ok (.putfield 84, 3) := by decide +kernel
theorem dX10_keepDraft_34 : decode cX10_keepDraft 34 = .ok (.aload_n 0, 1) := by decide +kernel
theorem dX10_keepDraft_35 : decode cX10_keepDraft 35 = .ok (.aload_n 0, 1) := by decide +kernel
theorem dX10_keepDraft_36 : decode cX10_keepDraft 36 = .ok (.getfield 75, 3) := by decide +kernel
theorem dX10_keepDraft_39 : decode cX10_keepDraft 39 = .ok (.putfield 87, 3) := by decide +kernel
theorem dX10_keepDraft_42 : decode cX10_keepDraft 42 = .ok (.aload_n 0, 1) := by decide +kernel
theorem dX10_keepDraft_43 : decode cX10_keepDraft 43 = .ok (.getfield 13, 3) := by decide +kernel
theorem dX10_keepDraft_46 : decode cX10_keepDraft 46 = .ok (.iconst 0, 1) := by decide +kernel
theorem dX10_keepDraft_47 : decode cX10_keepDraft 47 = .ok (.iconst 0, 1) := by decide +kernel
theorem dX10_keepDraft_48 : decode cX10_keepDraft 48 = .ok (.bastore, 1) := by decide +kernel
theorem dX10_keepDraft_49 : decode cX10_keepDraft 49 = .ok (.aload_n 0, 1) := by decide +kernel
theorem dX10_keepDraft_50 : decode cX10_keepDraft 50 = .ok (.getfield 13, 3) := by decide +kernel
theorem dX10_keepDraft_53 : decode cX10_keepDraft 53 = .ok (.iconst 1, 1) := by decide +kernel
theorem dX10_keepDraft_54 : decode cX10_keepDraft 54 = .ok (.iconst 0, 1) := by decide +kernel
theorem dX10_keepDraft_55 : decode cX10_keepDraft 55 = .ok (.bastore, 1) := by decide +kernel
theorem dX10_keepDraft_56 : decode cX10_keepDraft 56 = .ok (.return_, 1) := by decide +kernel
theorem dX10_feed_0 : decode cX10_feed 0 = .ok (.aload_n 0, 1) := by decide +kernel
theorem dX10_feed_1 : decode cX10_feed 1 = .ok (.getfield 90, 3) := by decide +kernel
theorem dX10_feed_4 : decode cX10_feed 4 = .ok (.bipush 8, 2) := by decide +kernel
theorem dX10_feed_6 : decode cX10_feed 6 = .ok (.iadd, 1) := by decide +kernel
theorem dX10_feed_7 : decode cX10_feed 7 = .ok (.sipush 320, 3) := by decide +kernel
theorem dX10_feed_10 : decode cX10_feed 10 = .ok (.if_icmp .le 6, 3) := by decide +kernel
theorem dX10_feed_13 : decode cX10_feed 13 = .ok (.bipush (-3), 2) := by decide +kernel
theorem dX10_feed_15 : decode cX10_feed 15 = .ok (.ireturn, 1) := by decide +kernel
theorem dX10_feed_16 : decode cX10_feed 16 = .ok (.bipush 56, 2) := by decide +kernel
theorem dX10_feed_18 : decode cX10_feed 18 = .ok (.istore_n 3, 1) := by decide +kernel
theorem dX10_feed_19 : decode cX10_feed 19 = .ok (.iload_n 3, 1) := by decide +kernel
theorem dX10_feed_20 : decode cX10_feed 20 = .ok (.ifCond .lt 36, 3) := by decide +kernel
theorem dX10_feed_23 : decode cX10_feed 23 = .ok (.aload_n 0, 1) := by decide +kernel
theorem dX10_feed_24 : decode cX10_feed 24 = .ok (.getfield 20, 3) := by decide +kernel
theorem dX10_feed_27 : decode cX10_feed 27 = .ok (.aload_n 0, 1) := by decide +kernel
theorem dX10_feed_28 : decode cX10_feed 28 = .ok (.getfield 90, 3) := by decide +kernel
theorem dX10_feed_31 : decode cX10_feed 31 = .ok (.lload_n 1, 1) := by decide +kernel
theorem dX10_feed_32 : decode cX10_feed 32 = .ok (.iload_n 3, 1) := by decide +kernel
theorem dX10_feed_33 : decode cX10_feed 33 = .ok (.lshr, 1) := by decide +kernel
theorem dX10_feed_34 : decode cX10_feed 34 = .ok (.ldc2_w 93, 3) := by decide +kernel
theorem dX10_feed_37 : decode cX10_feed 37 = .ok (.land, 1) := by decide +kernel
theorem dX10_feed_38 : decode cX10_feed 38 = .ok (.l2i, 1) := by decide +kernel
theorem dX10_feed_39 : decode cX10_feed 39 = .ok (.iastore, 1) := by decide +kernel
theorem dX10_feed_40 : decode cX10_feed 40 = .ok (.aload_n 0, 1) := by decide +kernel
theorem dX10_feed_41 : decode cX10_feed 41 = .ok (.dup, 1) := by decide +kernel
theorem dX10_feed_42 : decode cX10_feed 42 = .ok (.getfield 90, 3) := by decide +kernel
theorem dX10_feed_45 : decode cX10_feed 45 = .ok (.iconst 1, 1) := by decide +kernel
theorem dX10_feed_46 : decode cX10_feed 46 = .ok (.iadd, 1) := by decide +kernel
theorem dX10_feed_47 : decode cX10_feed 47 = .ok (.putfield 90, 3) := by decide +kernel
theorem dX10_feed_50 : decode cX10_feed 50 = .ok (.iinc 3 (-8), 3) := by decide +kernel
theorem dX10_feed_53 : decode cX10_feed 53 = .ok (.goto (-34), 3) := by decide +kernel
theorem dX10_feed_56 : decode cX10_feed 56 = .ok (.aload_n 0, 1) := by decide +kernel
theorem dX10_feed_57 : decode cX10_feed 57 = .ok (.getfield 90, 3) := by decide +kernel
theorem dX10_feed_60 : decode cX10_feed 60 = .ok (.ireturn, 1) := by decide +kernel
theorem dX10_end_0 : decode cX10_end 0 = .ok (.iload_n 1, 1) := by decide +kernel
theorem dX10_end_1 : decode cX10_end 1 = .ok (.i2l, 1) := by decide +kernel
theorem dX10_end_2 : decode cX10_end 2 = .ok (.lconst 0, 1) := by decide +kernel
theorem dX10_end_3 : decode cX10_end 3 = .ok (.aload_n 0, 1) := by decide +kernel
theorem dX10_end_4 : decode cX10_end 4 = .ok (.getfield 90, 3) := by decide +kernel
theorem dX10_end_7 : decode cX10_end 7 = .ok (.i2l, 1) := by decide +kernel
theorem dX10_end_8 : decode cX10_end 8 = .ok (.invokestatic 95, 3) := by decide +kernel
theorem dX10_end_11 : decode cX10_end 11 = .ok (.ifCond .ne 5, 3) := by decide +kernel
theorem dX10_end_14 : decode cX10_end 14 = .ok (.iconst (-1), 1) := by decide +kernel
theorem dX10_end_15 : decode cX10_end 15 = .ok (.ireturn, 1) := by decide +kernel
theorem dX10_end_16 : decode cX10_end 16 = .ok (.aload_n 0, 1) := by decide +kernel
theorem dX10_end_17 : decode cX10_end 17 = .ok (.getfield 90, 3) := by decide +kernel
theorem dX10_end_20 : decode cX10_end 20 = .ok (.istore_n 2, 1) := by decide +kernel
theorem dX10_end_21 : decode cX10_end 21 = .ok (.aload_n 0, 1) := by decide +kernel
theorem dX10_end_22 : decode cX10_end 22 = .ok (.iload_n 1, 1) := by decide +kernel
theorem dX10_end_23 : decode cX10_end 23 = .ok (.putfield 90, 3) := by decide +kernel
theorem dX10_end_26 : decode cX10_end 26 = .ok (.iload_n 2, 1) := by decide +kernel
theorem dX10_end_27 : decode cX10_end 27 = .ok (.ireturn, 1) := by decide +kernel
theorem dX10_needs_0 : decode cX10_needs 0 = .ok (.iload_n 1, 1) := by decide +kernel
theorem dX10_needs_1 : decode cX10_needs 1 = .ok (.ifCond .ne 23, 3) := by decide +kernel
theorem dX10_needs_4 : decode cX10_needs 4 = .ok (.aload_n 0, 1) := by decide +kernel
theorem dX10_needs_5 : decode cX10_needs 5 = .ok (.getfield 99, 3) := by decide +kernel
theorem dX10_needs_8 : decode cX10_needs 8 = .ok (.ifCond .ne 16, 3) := by decide +kernel
theorem dX10_needs_11 : decode cX10_needs 11 = .ok (.aload_n 0, 1) := by decide +kernel
theorem dX10_needs_12 : decode cX10_needs 12 = .ok (.iload_n 2, 1) := by decide +kernel
theorem dX10_needs_13 : decode cX10_needs 13 = .ok (.putfield 99, 3) := by decide +kernel
theorem dX10_needs_16 : decode cX10_needs 16 = .ok (.aload_n 0, 1) := by decide +kernel
theorem dX10_needs_17 : decode cX10_needs 17 = .ok (.aload_n 0, 1) := by decide +kernel
theorem dX10_needs_18 : decode cX10_needs 18 = .ok (.getfield 102, 3) := by decide +kernel
theorem dX10_needs_21 : decode cX10_needs 21 = .ok (.putfield 105, 3) := by decide +kernel
theorem dX10_needs_24 : decode cX10_needs 24 = .ok (.return_, 1) := by decide +kernel
theorem dX10_look_0 : decode cX10_look 0 = .ok (.iload_n 1, 1) := by decide +kernel
theorem dX10_look_1 : decode cX10_look 1 = .ok (.aload_n 0, 1) := by decide +kernel
theorem dX10_look_2 : decode cX10_look 2 = .ok (.getfield 90, 3) := by decide +kernel
theorem dX10_look_5 : decode cX10_look 5 = .ok (.if_icmp .ge 12, 3) := by decide +kernel
theorem dX10_look_8 : decode cX10_look 8 = .ok (.aload_n 0, 1) := by decide +kernel
theorem dX10_look_9 : decode cX10_look 9 = .ok (.getfield 20, 3) := by decide +kernel
theorem dX10_look_12 : decode cX10_look 12 = .ok (.iload_n 1, 1) := by decide +kernel
theorem dX10_look_13 : decode cX10_look 13 = .ok (.iaload, 1) := by decide +kernel
theorem dX10_look_14 : decode cX10_look 14 = .ok (.goto 4, 3) := by decide +kernel
theorem dX10_look_17 : decode cX10_look 17 = .ok (.iconst (-1), 1) := by decide +kernel
theorem dX10_look_18 : decode cX10_look 18 = .ok (.ireturn, 1) := by decide +kernel
theorem dX10_is_0 : decode cX10_is 0 = .ok (.aload_n 0, 1) := by decide +kernel
theorem dX10_is_1 : decode cX10_is 1 = .ok (.getfield 108, 3) := by decide +kernel
theorem dX10_is_4 : decode cX10_is 4 = .ok (.aload_n 0, 1) := by decide +kernel
theorem dX10_is_5 : decode cX10_is 5 = .ok (.getfield 102, 3) := by decide +kernel
theorem dX10_is_8 : decode cX10_is 8 = .ok (.isub, 1) := by decide +kernel
theorem dX10_is_9 : decode cX10_is 9 = .ok (.iload_n 1, 1) := by decide +kernel
theorem dX10_is_10 : decode cX10_is 10 = .ok (.if_icmp .ne 48, 3) := by decide +kernel
theorem dX10_is_13 : decode cX10_is 13 = .ok (.aload_n 0, 1) := by decide +kernel
theorem dX10_is_14 : decode cX10_is 14 = .ok (.aload_n 0, 1) := by decide +kernel
theorem dX10_is_15 : decode cX10_is 15 = .ok (.getfield 102, 3) := by decide +kernel
theorem dX10_is_18 : decode cX10_is 18 = .ok (.invokevirtual 111, 3) := by decide +kernel
theorem dX10_is_21 : decode cX10_is 21 = .ok (.iload_n 2, 1) := by decide +kernel
theorem dX10_is_22 : decode cX10_is 22 = .ok (.if_icmp .ne 36, 3) := by decide +kernel
theorem dX10_is_25 : decode cX10_is 25 = .ok (.aload_n 0, 1) := by decide +kernel
theorem dX10_is_26 : decode cX10_is 26 = .ok (.aload_n 0, 1) := by decide +kernel
theorem dX10_is_27 : decode cX10_is 27 = .ok (.getfield 102, 3) := by decide +kernel
theorem dX10_is_30 : decode cX10_is 30 = .ok (.iconst 1, 1) := by decide +kernel
theorem dX10_is_31 : decode cX10_is 31 = .ok (.iadd, 1) := by decide +kernel
theorem dX10_is_32 : decode cX10_is 32 = .ok (.invokevirtual 111, 3) := by decide +kernel
theorem dX10_is_35 : decode cX10_is 35 = .ok (.iload_n 3, 1) := by decide +kernel
theorem dX10_is_36 : decode cX10_is 36 = .ok (.if_icmp .ne 22, 3) := by decide +kernel
theorem dX10_is_39 : decode cX10_is 39 = .ok (.aload_n 0, 1) := by decide +kernel
theorem dX10_is_40 : decode cX10_is 40 = .ok (.aload_n 0, 1) := by decide +kernel
theorem dX10_is_41 : decode cX10_is 41 = .ok (.getfield 102, 3) := by decide +kernel
theorem dX10_is_44 : decode cX10_is 44 = .ok (.iconst 2, 1) := by decide +kernel
theorem dX10_is_45 : decode cX10_is 45 = .ok (.iadd, 1) := by decide +kernel
theorem dX10_is_46 : decode cX10_is 46 = .ok (.invokevirtual 111, 3) := by decide +kernel
theorem dX10_is_49 : decode cX10_is 49 = .ok (.iload 4, 2) := by decide +kernel
theorem dX10_is_51 : decode cX10_is 51 = .ok (.if_icmp .ne 7, 3) := by decide +kernel
theorem dX10_is_54 : decode cX10_is 54 = .ok (.iconst 1, 1) := by decide +kernel
theorem dX10_is_55 : decode cX10_is 55 = .ok (.goto 4, 3) := by decide +kernel
theorem dX10_is_58 : decode cX10_is 58 = .ok (.iconst 0, 1) := by decide +kernel
theorem dX10_is_59 : decode cX10_is 59 = .ok (.ireturn, 1) := by decide +kernel
theorem dX10_ends_0 : decode cX10_ends 0 = .ok (.aload_n 0, 1) := by decide +kernel
theorem dX10_ends_1 : decode cX10_ends 1 = .ok (.aload_n 0, 1) := by decide +kernel
theorem dX10_ends_2 : decode cX10_ends 2 = .ok (.getfield 102, 3) := by decide +kernel
theorem dX10_ends_5 : decode cX10_ends 5 = .ok (.iconst 3, 1) := by decide +kernel
theorem dX10_ends_6 : decode cX10_ends 6 = .ok (.iadd, 1) := by decide +kernel
theorem dX10_ends_7 : decode cX10_ends 7 = .ok (.invokevirtual 111, 3) := by decide +kernel
theorem dX10_ends_10 : decode cX10_ends 10 = .ok (.iload_n 1, 1) := by decide +kernel
theorem dX10_ends_11 : decode cX10_ends 11 = .ok (.if_icmp .ne 43, 3) := by decide +kernel
theorem dX10_ends_14 : decode cX10_ends 14 = .ok (.iload_n 2, 1) := by decide +kernel
theorem dX10_ends_15 : decode cX10_ends 15 = .ok (.ifCond .eq 17, 3) := by decide +kernel
theorem dX10_ends_18 : decode cX10_ends 18 = .ok (.aload_n 0, 1) := by decide +kernel
theorem dX10_ends_19 : decode cX10_ends 19 = .ok (.aload_n 0, 1) := by decide +kernel
theorem dX10_ends_20 : decode cX10_ends 20 = .ok (.getfield 102, 3) := by decide +kernel
theorem dX10_ends_23 : decode cX10_ends 23 = .ok (.iconst 4, 1) := by decide +kernel
theorem dX10_ends_24 : decode cX10_ends 24 = .ok (.iadd, 1) := by decide +kernel
theorem dX10_ends_25 : decode cX10_ends 25 = .ok (.invokevirtual 111, 3) := by decide +kernel
theorem dX10_ends_28 : decode cX10_ends 28 = .ok (.iload_n 2, 1) := by decide +kernel
theorem dX10_ends_29 : decode cX10_ends 29 = .ok (.if_icmp .ne 25, 3) := by decide +kernel
theorem dX10_ends_32 : decode cX10_ends 32 = .ok (.iload_n 3, 1) := by decide +kernel
theorem dX10_ends_33 : decode cX10_ends 33 = .ok (.ifCond .eq 17, 3) := by decide +kernel
theorem dX10_ends_36 : decode cX10_ends 36 = .ok (.aload_n 0, 1) := by decide +kernel
theorem dX10_ends_37 : decode cX10_ends 37 = .ok (.aload_n 0, 1) := by decide +kernel
theorem dX10_ends_38 : decode cX10_ends 38 = .ok (.getfield 102, 3) := by decide +kernel
theorem dX10_ends_41 : decode cX10_ends 41 = .ok (.iconst 5, 1) := by decide +kernel
theorem dX10_ends_42 : decode cX10_ends 42 = .ok (.iadd, 1) := by decide +kernel
theorem dX10_ends_43 : decode cX10_ends 43 = .ok (.invokevirtual 111, 3) := by decide +kernel
theorem dX10_ends_46 : decode cX10_ends 46 = .ok (.iload_n 3, 1) := by decide +kernel
theorem dX10_ends_47 : decode cX10_ends 47 = .ok (.if_icmp .ne 7, 3) := by decide +kernel
theorem dX10_ends_50 : decode cX10_ends 50 = .ok (.iconst 1, 1) := by decide +kernel
theorem dX10_ends_51 : decode cX10_ends 51 = .ok (.goto 4, 3) := by decide +kernel
theorem dX10_ends_54 : decode cX10_ends 54 = .ok (.iconst 0, 1) := by decide +kernel
theorem dX10_ends_55 : decode cX10_ends 55 = .ok (.ireturn, 1) := by decide +kernel
theorem dX10_lineNow_0 : decode cX10_lineNow 0 = .ok (.aload_n 0, 1) := by decide +kernel
theorem dX10_lineNow_1 : decode cX10_lineNow 1 = .ok (.bipush 6, 2) := by decide +kernel
theorem dX10_lineNow_3 : decode cX10_lineNow 3 = .ok (.bipush 112, 2) := by decide +kernel
theorem dX10_lineNow_5 : decode cX10_lineNow 5 = .ok (.bipush 108, 2) := by decide +kernel
theorem dX10_lineNow_7 : decode cX10_lineNow 7 = .ok (.bipush 97, 2) := by decide +kernel
theorem dX10_lineNow_9 : decode cX10_lineNow 9 = .ok (.invokevirtual 115, 3) := by decide +kernel
theorem dX10_lineNow_12 : decode cX10_lineNow 12 = .ok (.ifCond .eq 18, 3) := by decide +kernel
theorem dX10_lineNow_15 : decode cX10_lineNow 15 = .ok (.aload_n 0, 1) := by decide +kernel
theorem dX10_lineNow_16 : decode cX10_lineNow 16 = .ok (.bipush 99, 2) := by decide +kernel
theorem dX10_lineNow_18 : decode cX10_lineNow 18 = .ok (.bipush 101, 2) := by decide +kernel
theorem dX10_lineNow_20 : decode cX10_lineNow 20 = .ok (.bipush 115, 2) := by decide +kernel
theorem dX10_lineNow_22 : decode cX10_lineNow 22 = .ok (.invokevirtual 119, 3) := by decide +kernel
theorem dX10_lineNow_25 : decode cX10_lineNow 25 = .ok (.ifCond .eq 5, 3) := by decide +kernel
theorem dX10_lineNow_28 : decode cX10_lineNow 28 = .ok (.iconst 0, 1) := by decide +kernel
theorem dX10_lineNow_29 : decode cX10_lineNow 29 = .ok (.ireturn, 1) := by decide +kernel
theorem dX10_lineNow_30 : decode cX10_lineNow 30 = .ok (.aload_n 0, 1) := by decide +kernel
theorem dX10_lineNow_31 : decode cX10_lineNow 31 = .ok (.iconst 4, 1) := by decide +kernel
theorem dX10_lineNow_32 : decode cX10_lineNow 32 = .ok (.bipush 116, 2) := by decide +kernel
theorem dX10_lineNow_34 : decode cX10_lineNow 34 = .ok (.bipush 105, 2) := by decide +kernel
theorem dX10_lineNow_36 : decode cX10_lineNow 36 = .ok (.bipush 100, 2) := by decide +kernel
theorem dX10_lineNow_38 : decode cX10_lineNow 38 = .ok (.invokevirtual 115, 3) := by decide +kernel
theorem dX10_lineNow_41 : decode cX10_lineNow 41 = .ok (.ifCond .eq 16, 3) := by decide +kernel
theorem dX10_lineNow_44 : decode cX10_lineNow 44 = .ok (.aload_n 0, 1) := by decide +kernel
theorem dX10_lineNow_45 : decode cX10_lineNow 45 = .ok (.bipush 101, 2) := by decide +kernel
theorem dX10_lineNow_47 : decode cX10_lineNow 47 = .ok (.iconst 0, 1) := by decide +kernel
theorem dX10_lineNow_48 : decode cX10_lineNow 48 = .ok (.iconst 0, 1) := by decide +kernel
theorem dX10_lineNow_49 : decode cX10_lineNow 49 = .ok (.invokevirtual 119, 3) := by decide +kernel
theorem dX10_lineNow_52 : decode cX10_lineNow 52 = .ok (.ifCond .eq 5, 3) := by decide +kernel
theorem dX10_lineNow_55 : decode cX10_lineNow 55 = .ok (.iconst 1, 1) := by decide +kernel
theorem dX10_lineNow_56 : decode cX10_lineNow 56 = .ok (.ireturn, 1) := by decide +kernel
theorem dX10_lineNow_57 : decode cX10_lineNow 57 = .ok (.aload_n 0, 1) := by decide +kernel
theorem dX10_lineNow_58 : decode cX10_lineNow 58 = .ok (.iconst 4, 1) := by decide +kernel
theorem dX10_lineNow_59 : decode cX10_lineNow 59 = .ok (.bipush 104, 2) := by decide +kernel
theorem dX10_lineNow_61 : decode cX10_lineNow 61 = .ok (.bipush 111, 2) := by decide +kernel
theorem dX10_lineNow_63 : decode cX10_lineNow 63 = .ok (.bipush 108, 2) := by decide +kernel
theorem dX10_lineNow_65 : decode cX10_lineNow 65 = .ok (.invokevirtual 115, 3) := by decide +kernel
theorem dX10_lineNow_68 : decode cX10_lineNow 68 = .ok (.ifCond .eq 16, 3) := by decide +kernel
theorem dX10_lineNow_71 : decode cX10_lineNow 71 = .ok (.aload_n 0, 1) := by decide +kernel
theorem dX10_lineNow_72 : decode cX10_lineNow 72 = .ok (.bipush 101, 2) := by decide +kernel
theorem dX10_lineNow_74 : decode cX10_lineNow 74 = .ok (.iconst 0, 1) := by decide +kernel
theorem dX10_lineNow_75 : decode cX10_lineNow 75 = .ok (.iconst 0, 1) := by decide +kernel
theorem dX10_lineNow_76 : decode cX10_lineNow 76 = .ok (.invokevirtual 119, 3) := by decide +kernel
theorem dX10_lineNow_79 : decode cX10_lineNow 79 = .ok (.ifCond .eq 5, 3) := by decide +kernel
theorem dX10_lineNow_82 : decode cX10_lineNow 82 = .ok (.iconst 2, 1) := by decide +kernel
theorem dX10_lineNow_83 : decode cX10_lineNow 83 = .ok (.ireturn, 1) := by decide +kernel
theorem dX10_lineNow_84 : decode cX10_lineNow 84 = .ok (.aload_n 0, 1) := by decide +kernel
theorem dX10_lineNow_85 : decode cX10_lineNow 85 = .ok (.iconst 4, 1) := by decide +kernel
theorem dX10_lineNow_86 : decode cX10_lineNow 86 = .ok (.bipush 99, 2) := by decide +kernel
theorem dX10_lineNow_88 : decode cX10_lineNow 88 = .ok (.bipush 111, 2) := by decide +kernel
theorem dX10_lineNow_90 : decode cX10_lineNow 90 = .ok (.bipush 105, 2) := by decide +kernel
theorem dX10_lineNow_92 : decode cX10_lineNow 92 = .ok (.invokevirtual 115, 3) := by decide +kernel
theorem dX10_lineNow_95 : decode cX10_lineNow 95 = .ok (.ifCond .eq 18, 3) := by decide +kernel
theorem dX10_lineNow_98 : decode cX10_lineNow 98 = .ok (.aload_n 0, 1) := by decide +kernel
theorem dX10_lineNow_99 : decode cX10_lineNow 99 = .ok (.bipush 110, 2) := by decide +kernel
theorem dX10_lineNow_101 : decode cX10_lineNow 101 = .ok (.iconst 0, 1) := by decide +kernel
theorem dX10_lineNow_102 : decode cX10_lineNow 102 = .ok (.iconst 0, 1) := by decide +kernel
theorem dX10_lineNow_103 : decode cX10_lineNow 103 = .ok (.invokevirtual 119, 3) := by decide +kernel
theorem dX10_lineNow_106 : decode cX10_lineNow 106 = .ok (.ifCond .eq 7, 3) := by decide +kernel
theorem dX10_lineNow_109 : decode cX10_lineNow 109 = .ok (.iconst 3, 1) := by decide +kernel
theorem dX10_lineNow_110 : decode cX10_lineNow 110 = .ok (.goto 34, 3) := by decide +kernel
theorem dX10_lineNow_113 : decode cX10_lineNow 113 = .ok (.aload_n 0, 1) := by decide +kernel
theorem dX10_lineNow_114 : decode cX10_lineNow 114 = .ok (.iconst 4, 1) := by decide +kernel
theorem dX10_lineNow_115 : decode cX10_lineNow 115 = .ok (.bipush 99, 2) := by decide +kernel
theorem dX10_lineNow_117 : decode cX10_lineNow 117 = .ok (.bipush 114, 2) := by decide +kernel
theorem dX10_lineNow_119 : decode cX10_lineNow 119 = .ok (.bipush 97, 2) := by decide +kernel
theorem dX10_lineNow_121 : decode cX10_lineNow 121 = .ok (.invokevirtual 115, 3) := by decide +kernel
theorem dX10_lineNow_124 : decode cX10_lineNow 124 = .ok (.ifCond .eq 18, 3) := by decide +kernel
theorem dX10_lineNow_127 : decode cX10_lineNow 127 = .ok (.aload_n 0, 1) := by decide +kernel
theorem dX10_lineNow_128 : decode cX10_lineNow 128 = .ok (.bipush 98, 2) := by decide +kernel
theorem dX10_lineNow_130 : decode cX10_lineNow 130 = .ok (.iconst 0, 1) := by decide +kernel
theorem dX10_lineNow_131 : decode cX10_lineNow 131 = .ok (.iconst 0, 1) := by decide +kernel
theorem dX10_lineNow_132 : decode cX10_lineNow 132 = .ok (.invokevirtual 119, 3) := by decide +kernel
theorem dX10_lineNow_135 : decode cX10_lineNow 135 = .ok (.ifCond .eq 7, 3) := by decide +kernel
theorem dX10_lineNow_138 : decode cX10_lineNow 138 = .ok (.iconst 4, 1) := by decide +kernel
theorem dX10_lineNow_139 : decode cX10_lineNow 139 = .ok (.goto 5, 3) := by decide +kernel
theorem dX10_lineNow_142 : decode cX10_lineNow 142 = .ok (.bipush (-4), 2) := by decide +kernel
theorem dX10_lineNow_144 : decode cX10_lineNow 144 = .ok (.ireturn, 1) := by decide +kernel
theorem dX10_next_0 : decode cX10_next 0 = .ok (.aload_n 0, 1) := by decide +kernel
theorem dX10_next_1 : decode cX10_next 1 = .ok (.getfield 99, 3) := by decide +kernel
theorem dX10_next_4 : decode cX10_next 4 = .ok (.ifCond .le 4, 3) := by decide +kernel
theorem dX10_next_7 : decode cX10_next 7 = .ok (.return_, 1) := by decide +kernel
theorem dX10_next_8 : decode cX10_next 8 = .ok (.aload_n 0, 1) := by decide +kernel
theorem dX10_next_9 : decode cX10_next 9 = .ok (.aload_n 0, 1) := by decide +kernel
theorem dX10_next_10 : decode cX10_next 10 = .ok (.getfield 108, 3) := by decide +kernel
theorem dX10_next_13 : decode cX10_next 13 = .ok (.invokevirtual 111, 3) := by decide +kernel
theorem dX10_next_16 : decode cX10_next 16 = .ok (.bipush 32, 2) := by decide +kernel
theorem dX10_next_18 : decode cX10_next 18 = .ok (.if_icmp .ne 16, 3) := by decide +kernel
theorem dX10_next_21 : decode cX10_next 21 = .ok (.aload_n 0, 1) := by decide +kernel
theorem dX10_next_22 : decode cX10_next 22 = .ok (.dup, 1) := by decide +kernel
theorem dX10_next_23 : decode cX10_next 23 = .ok (.getfield 108, 3) := by decide +kernel
theorem dX10_next_26 : decode cX10_next 26 = .ok (.iconst 1, 1) := by decide +kernel
theorem dX10_next_27 : decode cX10_next 27 = .ok (.iadd, 1) := by decide +kernel
theorem dX10_next_28 : decode cX10_next 28 = .ok (.putfield 108, 3) := by decide +kernel
theorem dX10_next_31 : decode cX10_next 31 = .ok (.goto (-23), 3) := by decide +kernel
theorem dX10_next_34 : decode cX10_next 34 = .ok (.aload_n 0, 1) := by decide +kernel
theorem dX10_next_35 : decode cX10_next 35 = .ok (.aload_n 0, 1) := by decide +kernel
theorem dX10_next_36 : decode cX10_next 36 = .ok (.getfield 108, 3) := by decide +kernel
theorem dX10_next_39 : decode cX10_next 39 = .ok (.putfield 102, 3) := by decide +kernel
theorem dX10_next_42 : decode cX10_next 42 = .ok (.aload_n 0, 1) := by decide +kernel
theorem dX10_next_43 : decode cX10_next 43 = .ok (.aload_n 0, 1) := by decide +kernel
theorem dX10_next_44 : decode cX10_next 44 = .ok (.getfield 108, 3) := by decide +kernel
theorem dX10_next_47 : decode cX10_next 47 = .ok (.invokevirtual 111, 3) := by decide +kernel
theorem dX10_next_50 : decode cX10_next 50 = .ok (.istore_n 1, 1) := by decide +kernel
theorem dX10_next_51 : decode cX10_next 51 = .ok (.iload_n 1, 1) := by decide +kernel
theorem dX10_next_52 : decode cX10_next 52 = .ok (.ifCond .ge 11, 3) := by decide +kernel
theorem dX10_next_55 : decode cX10_next 55 = .ok (.aload_n 0, 1) := by decide +kernel
theorem dX10_next_56 : decode cX10_next 56 = .ok (.iconst 0, 1) := by decide +kernel
theorem dX10_next_57 : decode cX10_next 57 = .ok (.putfield 123, 3) := by decide +kernel
theorem dX10_next_60 : decode cX10_next 60 = .ok (.goto 214, 3) := by decide +kernel
theorem dX10_next_63 : decode cX10_next 63 = .ok (.iload_n 1, 1) := by decide +kernel
theorem dX10_next_64 : decode cX10_next 64 = .ok (.i2l, 1) := by decide +kernel
theorem dX10_next_65 : decode cX10_next 65 = .ok (.ldc2_w 126, 3) := by decide +kernel
theorem dX10_next_68 : decode cX10_next 68 = .ok (.ldc2_w 128, 3) := by decide +kernel
theorem dX10_next_71 : decode cX10_next 71 = .ok (.invokestatic 95, 3) := by decide +kernel
theorem dX10_next_74 : decode cX10_next 74 = .ok (.ifCond .eq 42, 3) := by decide +kernel
theorem dX10_next_77 : decode cX10_next 77 = .ok (.aload_n 0, 1) := by decide +kernel
theorem dX10_next_78 : decode cX10_next 78 = .ok (.iconst 1, 1) := by decide +kernel
theorem dX10_next_79 : decode cX10_next 79 = .ok (.putfield 123, 3) := by decide +kernel
theorem dX10_next_82 : decode cX10_next 82 = .ok (.aload_n 0, 1) := by decide +kernel
theorem dX10_next_83 : decode cX10_next 83 = .ok (.aload_n 0, 1) := by decide +kernel
theorem dX10_next_84 : decode cX10_next 84 = .ok (.getfield 108, 3) := by decide +kernel
theorem dX10_next_87 : decode cX10_next 87 = .ok (.invokevirtual 111, 3) := by decide +kernel
theorem dX10_next_90 : decode cX10_next 90 = .ok (.i2l, 1) := by decide +kernel
theorem dX10_next_91 : decode cX10_next 91 = .ok (.ldc2_w 126, 3) := by decide +kernel
theorem dX10_next_94 : decode cX10_next 94 = .ok (.ldc2_w 128, 3) := by decide +kernel
theorem dX10_next_97 : decode cX10_next 97 = .ok (.invokestatic 95, 3) := by decide +kernel
theorem dX10_next_100 : decode cX10_next 100 = .ok (.ifCond .eq 174, 3) := by decide +kernel
theorem dX10_next_103 : decode cX10_next 103 = .ok (.aload_n 0, 1) := by decide +kernel
theorem dX10_next_104 : decode cX10_next 104 = .ok (.dup, 1) := by decide +kernel
theorem dX10_next_105 : decode cX10_next 105 = .ok (.getfield 108, 3) := by decide +kernel
theorem dX10_next_108 : decode cX10_next 108 = .ok (.iconst 1, 1) := by decide +kernel
theorem dX10_next_109 : decode cX10_next 109 = .ok (.iadd, 1) := by decide +kernel
theorem dX10_next_110 : decode cX10_next 110 = .ok (.putfield 108, 3) := by decide +kernel
theorem dX10_next_113 : decode cX10_next 113 = .ok (.goto (-31), 3) := by decide +kernel
theorem dX10_next_116 : decode cX10_next 116 = .ok (.iload_n 1, 1) := by decide +kernel
theorem dX10_next_117 : decode cX10_next 117 = .ok (.i2l, 1) := by decide +kernel
theorem dX10_next_118 : decode cX10_next 118 = .ok (.ldc2_w 130, 3) := by decide +kernel
theorem dX10_next_121 : decode cX10_next 121 = .ok (.ldc2_w 132, 3) := by decide +kernel
theorem dX10_next_124 : decode cX10_next 124 = .ok (.invokestatic 95, 3) := by decide +kernel
theorem dX10_next_127 : decode cX10_next 127 = .ok (.ifCond .eq 116, 3) := by decide +kernel
theorem dX10_next_130 : decode cX10_next 130 = .ok (.aload_n 0, 1) := by decide +kernel
theorem dX10_next_131 : decode cX10_next 131 = .ok (.iconst 2, 1) := by decide +kernel
theorem dX10_next_132 : decode cX10_next 132 = .ok (.putfield 123, 3) := by decide +kernel
theorem dX10_next_135 : decode cX10_next 135 = .ok (.aload_n 0, 1) := by decide +kernel
theorem dX10_next_136 : decode cX10_next 136 = .ok (.iconst 0, 1) := by decide +kernel
theorem dX10_next_137 : decode cX10_next 137 = .ok (.putfield 134, 3) := by decide +kernel
theorem dX10_next_140 : decode cX10_next 140 = .ok (.aload_n 0, 1) := by decide +kernel
theorem dX10_next_141 : decode cX10_next 141 = .ok (.aload_n 0, 1) := by decide +kernel
theorem dX10_next_142 : decode cX10_next 142 = .ok (.getfield 108, 3) := by decide +kernel
theorem dX10_next_145 : decode cX10_next 145 = .ok (.invokevirtual 111, 3) := by decide +kernel
theorem dX10_next_148 : decode cX10_next 148 = .ok (.i2l, 1) := by decide +kernel
theorem dX10_next_149 : decode cX10_next 149 = .ok (.ldc2_w 130, 3) := by decide +kernel
theorem dX10_next_152 : decode cX10_next 152 = .ok (.ldc2_w 132, 3) := by decide +kernel
theorem dX10_next_155 : decode cX10_next 155 = .ok (.invokestatic 95, 3) := by decide +kernel
theorem dX10_next_158 : decode cX10_next 158 = .ok (.ifCond .eq 59, 3) := by decide +kernel
theorem dX10_next_161 : decode cX10_next 161 = .ok (.aload_n 0, 1) := by decide +kernel
theorem dX10_next_162 : decode cX10_next 162 = .ok (.aload_n 0, 1) := by decide +kernel
theorem dX10_next_163 : decode cX10_next 163 = .ok (.getfield 108, 3) := by decide +kernel
theorem dX10_next_166 : decode cX10_next 166 = .ok (.aload_n 0, 1) := by decide +kernel
theorem dX10_next_167 : decode cX10_next 167 = .ok (.getfield 102, 3) := by decide +kernel
theorem dX10_next_170 : decode cX10_next 170 = .ok (.isub, 1) := by decide +kernel
theorem dX10_next_171 : decode cX10_next 171 = .ok (.iconst 2, 1) := by decide +kernel
theorem dX10_next_172 : decode cX10_next 172 = .ok (.if_icmp .ge 25, 3) := by decide +kernel
theorem dX10_next_175 : decode cX10_next 175 = .ok (.bipush 10, 2) := by decide +kernel
theorem dX10_next_177 : decode cX10_next 177 = .ok (.aload_n 0, 1) := by decide +kernel
theorem dX10_next_178 : decode cX10_next 178 = .ok (.getfield 134, 3) := by decide +kernel
theorem dX10_next_181 : decode cX10_next 181 = .ok (.imul, 1) := by decide +kernel
theorem dX10_next_182 : decode cX10_next 182 = .ok (.aload_n 0, 1) := by decide +kernel
theorem dX10_next_183 : decode cX10_next 183 = .ok (.aload_n 0, 1) := by decide +kernel
theorem dX10_next_184 : decode cX10_next 184 = .ok (.getfield 108, 3) := by decide +kernel
theorem dX10_next_187 : decode cX10_next 187 = .ok (.invokevirtual 111, 3) := by decide +kernel
theorem dX10_next_190 : decode cX10_next 190 = .ok (.iadd, 1) := by decide +kernel
theorem dX10_next_191 : decode cX10_next 191 = .ok (.bipush 48, 2) := by decide +kernel
theorem dX10_next_193 : decode cX10_next 193 = .ok (.isub, 1) := by decide +kernel
theorem dX10_next_194 : decode cX10_next 194 = .ok (.goto 7, 3) := by decide +kernel
theorem dX10_next_197 : decode cX10_next 197 = .ok (.aload_n 0, 1) := by decide +kernel
theorem dX10_next_198 : decode cX10_next 198 = .ok (.getfield 134, 3) := by decide +kernel
theorem dX10_next_201 : decode cX10_next 201 = .ok (.putfield 134, 3) := by decide +kernel
theorem dX10_next_204 : decode cX10_next 204 = .ok (.aload_n 0, 1) := by decide +kernel
theorem dX10_next_205 : decode cX10_next 205 = .ok (.dup, 1) := by decide +kernel
theorem dX10_next_206 : decode cX10_next 206 = .ok (.getfield 108, 3) := by decide +kernel
theorem dX10_next_209 : decode cX10_next 209 = .ok (.iconst 1, 1) := by decide +kernel
theorem dX10_next_210 : decode cX10_next 210 = .ok (.iadd, 1) := by decide +kernel
theorem dX10_next_211 : decode cX10_next 211 = .ok (.putfield 108, 3) := by decide +kernel
theorem dX10_next_214 : decode cX10_next 214 = .ok (.goto (-74), 3) := by decide +kernel
theorem dX10_next_217 : decode cX10_next 217 = .ok (.aload_n 0, 1) := by decide +kernel
theorem dX10_next_218 : decode cX10_next 218 = .ok (.aload_n 0, 1) := by decide +kernel
theorem dX10_next_219 : decode cX10_next 219 = .ok (.getfield 108, 3) := by decide +kernel
theorem dX10_next_222 : decode cX10_next 222 = .ok (.aload_n 0, 1) := by decide +kernel
theorem dX10_next_223 : decode cX10_next 223 = .ok (.getfield 102, 3) := by decide +kernel
theorem dX10_next_226 : decode cX10_next 226 = .ok (.isub, 1) := by decide +kernel
theorem dX10_next_227 : decode cX10_next 227 = .ok (.iconst 2, 1) := by decide +kernel
theorem dX10_next_228 : decode cX10_next 228 = .ok (.if_icmp .gt 7, 3) := by decide +kernel
theorem dX10_next_231 : decode cX10_next 231 = .ok (.iconst 1, 1) := by decide +kernel
theorem dX10_next_232 : decode cX10_next 232 = .ok (.goto 4, 3) := by decide +kernel
theorem dX10_next_235 : decode cX10_next 235 = .ok (.iconst 0, 1) := by decide +kernel
theorem dX10_next_236 : decode cX10_next 236 = .ok (.iconst 1, 1) := by decide +kernel
theorem dX10_next_237 : decode cX10_next 237 = .ok (.invokevirtual 137, 3) := by decide +kernel
theorem dX10_next_240 : decode cX10_next 240 = .ok (.goto 34, 3) := by decide +kernel
theorem dX10_next_243 : decode cX10_next 243 = .ok (.aload_n 0, 1) := by decide +kernel
theorem dX10_next_244 : decode cX10_next 244 = .ok (.iconst 3, 1) := by decide +kernel
theorem dX10_next_245 : decode cX10_next 245 = .ok (.putfield 123, 3) := by decide +kernel
theorem dX10_next_248 : decode cX10_next 248 = .ok (.aload_n 0, 1) := by decide +kernel
theorem dX10_next_249 : decode cX10_next 249 = .ok (.iload_n 1, 1) := by decide +kernel
theorem dX10_next_250 : decode cX10_next 250 = .ok (.bipush 59, 2) := by decide +kernel
theorem dX10_next_252 : decode cX10_next 252 = .ok (.if_icmp .ne 7, 3) := by decide +kernel
theorem dX10_next_255 : decode cX10_next 255 = .ok (.iconst 1, 1) := by decide +kernel
theorem dX10_next_256 : decode cX10_next 256 = .ok (.goto 4, 3) := by decide +kernel
theorem dX10_next_259 : decode cX10_next 259 = .ok (.iconst 0, 1) := by decide +kernel
theorem dX10_next_260 : decode cX10_next 260 = .ok (.iconst 1, 1) := by decide +kernel
theorem dX10_next_261 : decode cX10_next 261 = .ok (.invokevirtual 137, 3) := by decide +kernel
theorem dX10_next_264 : decode cX10_next 264 = .ok (.aload_n 0, 1) := by decide +kernel
theorem dX10_next_265 : decode cX10_next 265 = .ok (.dup, 1) := by decide +kernel
theorem dX10_next_266 : decode cX10_next 266 = .ok (.getfield 108, 3) := by decide +kernel
theorem dX10_next_269 : decode cX10_next 269 = .ok (.iconst 1, 1) := by decide +kernel
theorem dX10_next_270 : decode cX10_next 270 = .ok (.iadd, 1) := by decide +kernel
theorem dX10_next_271 : decode cX10_next 271 = .ok (.putfield 108, 3) := by decide +kernel
theorem dX10_next_274 : decode cX10_next 274 = .ok (.return_, 1) := by decide +kernel
theorem dX10_looked_0 : decode cX10_looked 0 = .ok (.aload_n 0, 1) := by decide +kernel
theorem dX10_looked_1 : decode cX10_looked 1 = .ok (.getfield 99, 3) := by decide +kernel
theorem dX10_looked_4 : decode cX10_looked 4 = .ok (.ifCond .ne 21, 3) := by decide +kernel
theorem dX10_looked_7 : decode cX10_looked 7 = .ok (.aload_n 0, 1) := by decide +kernel
theorem dX10_looked_8 : decode cX10_looked 8 = .ok (.aload_n 0, 1) := by decide +kernel
theorem dX10_looked_9 : decode cX10_looked 9 = .ok (.getfield 123, 3) := by decide +kernel
theorem dX10_looked_12 : decode cX10_looked 12 = .ok (.iconst 2, 1) := by decide +kernel
theorem dX10_looked_13 : decode cX10_looked 13 = .ok (.if_icmp .ne 7, 3) := by decide +kernel
theorem dX10_looked_16 : decode cX10_looked 16 = .ok (.iconst 1, 1) := by decide +kernel
theorem dX10_looked_17 : decode cX10_looked 17 = .ok (.goto 4, 3) := by decide +kernel
theorem dX10_looked_20 : decode cX10_looked 20 = .ok (.iconst 0, 1) := by decide +kernel
theorem dX10_looked_21 : decode cX10_looked 21 = .ok (.iconst 2, 1) := by decide +kernel
theorem dX10_looked_22 : decode cX10_looked 22 = .ok (.invokevirtual 137, 3) := by decide +kernel
theorem dX10_looked_25 : decode cX10_looked 25 = .ok (.aload_n 0, 1) := by decide +kernel
theorem dX10_looked_26 : decode cX10_looked 26 = .ok (.getfield 99, 3) := by decide +kernel
theorem dX10_looked_29 : decode cX10_looked 29 = .ok (.ifCond .ne 20, 3) := by decide +kernel
theorem dX10_looked_32 : decode cX10_looked 32 = .ok (.aload_n 0, 1) := by decide +kernel
theorem dX10_looked_33 : decode cX10_looked 33 = .ok (.aload_n 0, 1) := by decide +kernel
theorem dX10_looked_34 : decode cX10_looked 34 = .ok (.getfield 134, 3) := by decide +kernel
theorem dX10_looked_37 : decode cX10_looked 37 = .ok (.i2l, 1) := by decide +kernel
theorem dX10_looked_38 : decode cX10_looked 38 = .ok (.iload_n 1, 1) := by decide +kernel
theorem dX10_looked_39 : decode cX10_looked 39 = .ok (.i2l, 1) := by decide +kernel
theorem dX10_looked_40 : decode cX10_looked 40 = .ok (.iload_n 2, 1) := by decide +kernel
theorem dX10_looked_41 : decode cX10_looked 41 = .ok (.i2l, 1) := by decide +kernel
theorem dX10_looked_42 : decode cX10_looked 42 = .ok (.invokestatic 95, 3) := by decide +kernel
theorem dX10_looked_45 : decode cX10_looked 45 = .ok (.iconst 3, 1) := by decide +kernel
theorem dX10_looked_46 : decode cX10_looked 46 = .ok (.invokevirtual 137, 3) := by decide +kernel
theorem dX10_looked_49 : decode cX10_looked 49 = .ok (.aload_n 0, 1) := by decide +kernel
theorem dX10_looked_50 : decode cX10_looked 50 = .ok (.getfield 99, 3) := by decide +kernel
theorem dX10_looked_53 : decode cX10_looked 53 = .ok (.ifCond .ne 10, 3) := by decide +kernel
theorem dX10_looked_56 : decode cX10_looked 56 = .ok (.aload_n 0, 1) := by decide +kernel
theorem dX10_looked_57 : decode cX10_looked 57 = .ok (.getfield 134, 3) := by decide +kernel
theorem dX10_looked_60 : decode cX10_looked 60 = .ok (.goto 4, 3) := by decide +kernel
theorem dX10_looked_63 : decode cX10_looked 63 = .ok (.iconst 0, 1) := by decide +kernel
theorem dX10_looked_64 : decode cX10_looked 64 = .ok (.ireturn, 1) := by decide +kernel
theorem dX10_readNumber_0 : decode cX10_readNumber 0 = .ok (.aload_n 0, 1) := by decide +kernel
theorem dX10_readNumber_1 : decode cX10_readNumber 1 = .ok (.iload_n 1, 1) := by decide +kernel
theorem dX10_readNumber_2 : decode cX10_readNumber 2 = .ok (.iload_n 2, 1) := by decide +kernel
theorem dX10_readNumber_3 : decode cX10_readNumber 3 = .ok (.invokevirtual 141, 3) := by decide +kernel
theorem dX10_readNumber_6 : decode cX10_readNumber 6 = .ok (.istore_n 3, 1) := by decide +kernel
theorem dX10_readNumber_7 : decode cX10_readNumber 7 = .ok (.aload_n 0, 1) := by decide +kernel
theorem dX10_readNumber_8 : decode cX10_readNumber 8 = .ok (.invokevirtual 145, 3) := by decide +kernel
theorem dX10_readNumber_11 : decode cX10_readNumber 11 = .ok (.iload_n 3, 1) := by decide +kernel
theorem dX10_readNumber_12 : decode cX10_readNumber 12 = .ok (.ireturn, 1) := by decide +kernel
theorem dX10_lookedPlace_0 : decode cX10_lookedPlace 0 = .ok (.aload_n 0, 1) := by decide +kernel
theorem dX10_lookedPlace_1 : decode cX10_lookedPlace 1 = .ok (.iconst 0, 1) := by decide +kernel
theorem dX10_lookedPlace_2 : decode cX10_lookedPlace 2 = .ok (.bipush 7, 2) := by decide +kernel
theorem dX10_lookedPlace_4 : decode cX10_lookedPlace 4 = .ok (.invokevirtual 141, 3) := by decide +kernel
theorem dX10_lookedPlace_7 : decode cX10_lookedPlace 7 = .ok (.istore_n 1, 1) := by decide +kernel
theorem dX10_lookedPlace_8 : decode cX10_lookedPlace 8 = .ok (.aload_n 0, 1) := by decide +kernel
theorem dX10_lookedPlace_9 : decode cX10_lookedPlace 9 = .ok (.getfield 99, 3) := by decide +kernel
theorem dX10_lookedPlace_12 : decode cX10_lookedPlace 12 = .ok (.ifCond .ne 23, 3) := by decide +kernel
theorem dX10_lookedPlace_15 : decode cX10_lookedPlace 15 = .ok (.aload_n 0, 1) := by decide +kernel
theorem dX10_lookedPlace_16 : decode cX10_lookedPlace 16 = .ok (.iload_n 1, 1) := by decide +kernel
theorem dX10_lookedPlace_17 : decode cX10_lookedPlace 17 = .ok (.aload_n 0, 1) := by decide +kernel
theorem dX10_lookedPlace_18 : decode cX10_lookedPlace 18 = .ok (.getfield 81, 3) := by decide +kernel
theorem dX10_lookedPlace_21 : decode cX10_lookedPlace 21 = .ok (.if_icmp .le 7, 3) := by decide +kernel
theorem dX10_lookedPlace_24 : decode cX10_lookedPlace 24 = .ok (.iload_n 1, 1) := by decide +kernel
theorem dX10_lookedPlace_25 : decode cX10_lookedPlace 25 = .ok (.goto 7, 3) := by decide +kernel
theorem dX10_lookedPlace_28 : decode cX10_lookedPlace 28 = .ok (.aload_n 0, 1) := by decide +kernel
theorem dX10_lookedPlace_29 : decode cX10_lookedPlace 29 = .ok (.getfield 81, 3) := by decide +kernel
theorem dX10_lookedPlace_32 : decode cX10_lookedPlace 32 = .ok (.putfield 81, 3) := by decide +kernel
theorem dX10_lookedPlace_35 : decode cX10_lookedPlace 35 = .ok (.iload_n 1, 1) := by decide +kernel
theorem dX10_lookedPlace_36 : decode cX10_lookedPlace 36 = .ok (.ireturn, 1) := by decide +kernel
theorem dX10_readPlace_0 : decode cX10_readPlace 0 = .ok (.aload_n 0, 1) := by decide +kernel
theorem dX10_readPlace_1 : decode cX10_readPlace 1 = .ok (.invokevirtual 148, 3) := by decide +kernel
theorem dX10_readPlace_4 : decode cX10_readPlace 4 = .ok (.istore_n 1, 1) := by decide +kernel
theorem dX10_readPlace_5 : decode cX10_readPlace 5 = .ok (.aload_n 0, 1) := by decide +kernel
theorem dX10_readPlace_6 : decode cX10_readPlace 6 = .ok (.invokevirtual 145, 3) := by decide +kernel
theorem dX10_readPlace_9 : decode cX10_readPlace 9 = .ok (.iload_n 1, 1) := by decide +kernel
theorem dX10_readPlace_10 : decode cX10_readPlace 10 = .ok (.ireturn, 1) := by decide +kernel
end
section
theorem dX10_readHole_0 : decode cX10_readHole 0 = .ok (.aload_n 0, 1) := by decide +kernel
theorem dX10_readHole_1 : decode cX10_readHole 1 = .ok (.invokevirtual 148, 3) := by decide +kernel
theorem dX10_readHole_4 : decode cX10_readHole 4 = .ok (.istore_n 1, 1) := by decide +kernel
theorem dX10_readHole_5 : decode cX10_readHole 5 = .ok (.aload_n 0, 1) := by decide +kernel
theorem dX10_readHole_6 : decode cX10_readHole 6 = .ok (.getfield 99, 3) := by decide +kernel
theorem dX10_readHole_9 : decode cX10_readHole 9 = .ok (.ifCond .ne 24, 3) := by decide +kernel
theorem dX10_readHole_12 : decode cX10_readHole 12 = .ok (.aload_n 0, 1) := by decide +kernel
theorem dX10_readHole_13 : decode cX10_readHole 13 = .ok (.aload_n 0, 1) := by decide +kernel
theorem dX10_readHole_14 : decode cX10_readHole 14 = .ok (.getfield 17, 3) := by decide +kernel
theorem dX10_readHole_17 : decode cX10_readHole 17 = .ok (.iconst 0, 1) := by decide +kernel
theorem dX10_readHole_18 : decode cX10_readHole 18 = .ok (.iload_n 1, 1) := by decide +kernel
theorem dX10_readHole_19 : decode cX10_readHole 19 = .ok (.iadd, 1) := by decide +kernel
theorem dX10_readHole_20 : decode cX10_readHole 20 = .ok (.iaload, 1) := by decide +kernel
theorem dX10_readHole_21 : decode cX10_readHole 21 = .ok (.ifCond .ne 7, 3) := by decide +kernel
theorem dX10_readHole_24 : decode cX10_readHole 24 = .ok (.iconst 1, 1) := by decide +kernel
theorem dX10_readHole_25 : decode cX10_readHole 25 = .ok (.goto 4, 3) := by decide +kernel
theorem dX10_readHole_28 : decode cX10_readHole 28 = .ok (.iconst 0, 1) := by decide +kernel
theorem dX10_readHole_29 : decode cX10_readHole 29 = .ok (.iconst 4, 1) := by decide +kernel
theorem dX10_readHole_30 : decode cX10_readHole 30 = .ok (.invokevirtual 137, 3) := by decide +kernel
theorem dX10_readHole_33 : decode cX10_readHole 33 = .ok (.aload_n 0, 1) := by decide +kernel
theorem dX10_readHole_34 : decode cX10_readHole 34 = .ok (.invokevirtual 145, 3) := by decide +kernel
theorem dX10_readHole_37 : decode cX10_readHole 37 = .ok (.aload_n 0, 1) := by decide +kernel
theorem dX10_readHole_38 : decode cX10_readHole 38 = .ok (.iconst 1, 1) := by decide +kernel
theorem dX10_readHole_39 : decode cX10_readHole 39 = .ok (.bipush 9, 2) := by decide +kernel
theorem dX10_readHole_41 : decode cX10_readHole 41 = .ok (.invokevirtual 152, 3) := by decide +kernel
theorem dX10_readHole_44 : decode cX10_readHole 44 = .ok (.istore_n 2, 1) := by decide +kernel
theorem dX10_readHole_45 : decode cX10_readHole 45 = .ok (.aload_n 0, 1) := by decide +kernel
theorem dX10_readHole_46 : decode cX10_readHole 46 = .ok (.getfield 17, 3) := by decide +kernel
theorem dX10_readHole_49 : decode cX10_readHole 49 = .ok (.iconst 0, 1) := by decide +kernel
theorem dX10_readHole_50 : decode cX10_readHole 50 = .ok (.iload_n 1, 1) := by decide +kernel
theorem dX10_readHole_51 : decode cX10_readHole 51 = .ok (.iadd, 1) := by decide +kernel
theorem dX10_readHole_52 : decode cX10_readHole 52 = .ok (.aload_n 0, 1) := by decide +kernel
theorem dX10_readHole_53 : decode cX10_readHole 53 = .ok (.getfield 99, 3) := by decide +kernel
theorem dX10_readHole_56 : decode cX10_readHole 56 = .ok (.ifCond .ne 7, 3) := by decide +kernel
theorem dX10_readHole_59 : decode cX10_readHole 59 = .ok (.iload_n 2, 1) := by decide +kernel
theorem dX10_readHole_60 : decode cX10_readHole 60 = .ok (.goto 11, 3) := by decide +kernel
theorem dX10_readHole_63 : decode cX10_readHole 63 = .ok (.aload_n 0, 1) := by decide +kernel
theorem dX10_readHole_64 : decode cX10_readHole 64 = .ok (.getfield 17, 3) := by decide +kernel
theorem dX10_readHole_67 : decode cX10_readHole 67 = .ok (.iconst 0, 1) := by decide +kernel
theorem dX10_readHole_68 : decode cX10_readHole 68 = .ok (.iload_n 1, 1) := by decide +kernel
theorem dX10_readHole_69 : decode cX10_readHole 69 = .ok (.iadd, 1) := by decide +kernel
theorem dX10_readHole_70 : decode cX10_readHole 70 = .ok (.iaload, 1) := by decide +kernel
theorem dX10_readHole_71 : decode cX10_readHole 71 = .ok (.iastore, 1) := by decide +kernel
theorem dX10_readHole_72 : decode cX10_readHole 72 = .ok (.return_, 1) := by decide +kernel
theorem dX10_readCoin_0 : decode cX10_readCoin 0 = .ok (.aload_n 0, 1) := by decide +kernel
theorem dX10_readCoin_1 : decode cX10_readCoin 1 = .ok (.getfield 17, 3) := by decide +kernel
theorem dX10_readCoin_4 : decode cX10_readCoin 4 = .ok (.bipush 8, 2) := by decide +kernel
theorem dX10_readCoin_6 : decode cX10_readCoin 6 = .ok (.iaload, 1) := by decide +kernel
theorem dX10_readCoin_7 : decode cX10_readCoin 7 = .ok (.istore_n 1, 1) := by decide +kernel
theorem dX10_readCoin_8 : decode cX10_readCoin 8 = .ok (.aload_n 0, 1) := by decide +kernel
theorem dX10_readCoin_9 : decode cX10_readCoin 9 = .ok (.getfield 17, 3) := by decide +kernel
theorem dX10_readCoin_12 : decode cX10_readCoin 12 = .ok (.bipush 9, 2) := by decide +kernel
theorem dX10_readCoin_14 : decode cX10_readCoin 14 = .ok (.iload_n 1, 1) := by decide +kernel
theorem dX10_readCoin_15 : decode cX10_readCoin 15 = .ok (.iadd, 1) := by decide +kernel
theorem dX10_readCoin_16 : decode cX10_readCoin 16 = .ok (.aload_n 0, 1) := by decide +kernel
theorem dX10_readCoin_17 : decode cX10_readCoin 17 = .ok (.iconst 1, 1) := by decide +kernel
theorem dX10_readCoin_18 : decode cX10_readCoin 18 = .ok (.bipush 9, 2) := by decide +kernel
theorem dX10_readCoin_20 : decode cX10_readCoin 20 = .ok (.invokevirtual 152, 3) := by decide +kernel
theorem dX10_readCoin_23 : decode cX10_readCoin 23 = .ok (.iastore, 1) := by decide +kernel
theorem dX10_readCoin_24 : decode cX10_readCoin 24 = .ok (.aload_n 0, 1) := by decide +kernel
theorem dX10_readCoin_25 : decode cX10_readCoin 25 = .ok (.getfield 17, 3) := by decide +kernel
theorem dX10_readCoin_28 : decode cX10_readCoin 28 = .ok (.bipush 21, 2) := by decide +kernel
theorem dX10_readCoin_30 : decode cX10_readCoin 30 = .ok (.iload_n 1, 1) := by decide +kernel
theorem dX10_readCoin_31 : decode cX10_readCoin 31 = .ok (.iadd, 1) := by decide +kernel
theorem dX10_readCoin_32 : decode cX10_readCoin 32 = .ok (.aload_n 0, 1) := by decide +kernel
theorem dX10_readCoin_33 : decode cX10_readCoin 33 = .ok (.invokevirtual 155, 3) := by decide +kernel
theorem dX10_readCoin_36 : decode cX10_readCoin 36 = .ok (.iastore, 1) := by decide +kernel
theorem dX10_readCoin_37 : decode cX10_readCoin 37 = .ok (.aload_n 0, 1) := by decide +kernel
theorem dX10_readCoin_38 : decode cX10_readCoin 38 = .ok (.getfield 99, 3) := by decide +kernel
theorem dX10_readCoin_41 : decode cX10_readCoin 41 = .ok (.ifCond .ne 61, 3) := by decide +kernel
theorem dX10_readCoin_44 : decode cX10_readCoin 44 = .ok (.aload_n 0, 1) := by decide +kernel
theorem dX10_readCoin_45 : decode cX10_readCoin 45 = .ok (.getfield 123, 3) := by decide +kernel
theorem dX10_readCoin_48 : decode cX10_readCoin 48 = .ok (.iconst 1, 1) := by decide +kernel
theorem dX10_readCoin_49 : decode cX10_readCoin 49 = .ok (.if_icmp .ne 53, 3) := by decide +kernel
theorem dX10_readCoin_52 : decode cX10_readCoin 52 = .ok (.aload_n 0, 1) := by decide +kernel
theorem dX10_readCoin_53 : decode cX10_readCoin 53 = .ok (.aload_n 0, 1) := by decide +kernel
theorem dX10_readCoin_54 : decode cX10_readCoin 54 = .ok (.iconst 5, 1) := by decide +kernel
theorem dX10_readCoin_55 : decode cX10_readCoin 55 = .ok (.bipush 102, 2) := by decide +kernel
theorem dX10_readCoin_57 : decode cX10_readCoin 57 = .ok (.bipush 97, 2) := by decide +kernel
theorem dX10_readCoin_59 : decode cX10_readCoin 59 = .ok (.bipush 108, 2) := by decide +kernel
theorem dX10_readCoin_61 : decode cX10_readCoin 61 = .ok (.invokevirtual 115, 3) := by decide +kernel
theorem dX10_readCoin_64 : decode cX10_readCoin 64 = .ok (.ifCond .eq 19, 3) := by decide +kernel
theorem dX10_readCoin_67 : decode cX10_readCoin 67 = .ok (.aload_n 0, 1) := by decide +kernel
theorem dX10_readCoin_68 : decode cX10_readCoin 68 = .ok (.bipush 115, 2) := by decide +kernel
theorem dX10_readCoin_70 : decode cX10_readCoin 70 = .ok (.bipush 101, 2) := by decide +kernel
theorem dX10_readCoin_72 : decode cX10_readCoin 72 = .ok (.iconst 0, 1) := by decide +kernel
theorem dX10_readCoin_73 : decode cX10_readCoin 73 = .ok (.invokevirtual 119, 3) := by decide +kernel
theorem dX10_readCoin_76 : decode cX10_readCoin 76 = .ok (.ifCond .eq 7, 3) := by decide +kernel
theorem dX10_readCoin_79 : decode cX10_readCoin 79 = .ok (.iconst 1, 1) := by decide +kernel
theorem dX10_readCoin_80 : decode cX10_readCoin 80 = .ok (.goto 4, 3) := by decide +kernel
theorem dX10_readCoin_83 : decode cX10_readCoin 83 = .ok (.iconst 0, 1) := by decide +kernel
theorem dX10_readCoin_84 : decode cX10_readCoin 84 = .ok (.iconst 2, 1) := by decide +kernel
theorem dX10_readCoin_85 : decode cX10_readCoin 85 = .ok (.invokevirtual 137, 3) := by decide +kernel
theorem dX10_readCoin_88 : decode cX10_readCoin 88 = .ok (.aload_n 0, 1) := by decide +kernel
theorem dX10_readCoin_89 : decode cX10_readCoin 89 = .ok (.getfield 17, 3) := by decide +kernel
theorem dX10_readCoin_92 : decode cX10_readCoin 92 = .ok (.bipush 15, 2) := by decide +kernel
theorem dX10_readCoin_94 : decode cX10_readCoin 94 = .ok (.iload_n 1, 1) := by decide +kernel
theorem dX10_readCoin_95 : decode cX10_readCoin 95 = .ok (.iadd, 1) := by decide +kernel
theorem dX10_readCoin_96 : decode cX10_readCoin 96 = .ok (.iconst 1, 1) := by decide +kernel
theorem dX10_readCoin_97 : decode cX10_readCoin 97 = .ok (.iastore, 1) := by decide +kernel
theorem dX10_readCoin_98 : decode cX10_readCoin 98 = .ok (.aload_n 0, 1) := by decide +kernel
theorem dX10_readCoin_99 : decode cX10_readCoin 99 = .ok (.invokevirtual 145, 3) := by decide +kernel
theorem dX10_readCoin_102 : decode cX10_readCoin 102 = .ok (.aload_n 0, 1) := by decide +kernel
theorem dX10_readCoin_103 : decode cX10_readCoin 103 = .ok (.getfield 17, 3) := by decide +kernel
theorem dX10_readCoin_106 : decode cX10_readCoin 106 = .ok (.bipush 8, 2) := by decide +kernel
theorem dX10_readCoin_108 : decode cX10_readCoin 108 = .ok (.dup2, 1) := by decide +kernel
theorem dX10_readCoin_109 : decode cX10_readCoin 109 = .ok (.iaload, 1) := by decide +kernel
theorem dX10_readCoin_110 : decode cX10_readCoin 110 = .ok (.iconst 1, 1) := by decide +kernel
theorem dX10_readCoin_111 : decode cX10_readCoin 111 = .ok (.iadd, 1) := by decide +kernel
theorem dX10_readCoin_112 : decode cX10_readCoin 112 = .ok (.iastore, 1) := by decide +kernel
theorem dX10_readCoin_113 : decode cX10_readCoin 113 = .ok (.return_, 1) := by decide +kernel
theorem dX10_readCrab_0 : decode cX10_readCrab 0 = .ok (.aload_n 0, 1) := by decide +kernel
theorem dX10_readCrab_1 : decode cX10_readCrab 1 = .ok (.getfield 123, 3) := by decide +kernel
theorem dX10_readCrab_4 : decode cX10_readCrab 4 = .ok (.iconst 1, 1) := by decide +kernel
theorem dX10_readCrab_5 : decode cX10_readCrab 5 = .ok (.if_icmp .ne 32, 3) := by decide +kernel
theorem dX10_readCrab_8 : decode cX10_readCrab 8 = .ok (.aload_n 0, 1) := by decide +kernel
theorem dX10_readCrab_9 : decode cX10_readCrab 9 = .ok (.iconst 4, 1) := by decide +kernel
theorem dX10_readCrab_10 : decode cX10_readCrab 10 = .ok (.bipush 108, 2) := by decide +kernel
theorem dX10_readCrab_12 : decode cX10_readCrab 12 = .ok (.bipush 101, 2) := by decide +kernel
theorem dX10_readCrab_14 : decode cX10_readCrab 14 = .ok (.bipush 102, 2) := by decide +kernel
theorem dX10_readCrab_16 : decode cX10_readCrab 16 = .ok (.invokevirtual 115, 3) := by decide +kernel
theorem dX10_readCrab_19 : decode cX10_readCrab 19 = .ok (.ifCond .eq 18, 3) := by decide +kernel
theorem dX10_readCrab_22 : decode cX10_readCrab 22 = .ok (.aload_n 0, 1) := by decide +kernel
theorem dX10_readCrab_23 : decode cX10_readCrab 23 = .ok (.bipush 116, 2) := by decide +kernel
theorem dX10_readCrab_25 : decode cX10_readCrab 25 = .ok (.iconst 0, 1) := by decide +kernel
theorem dX10_readCrab_26 : decode cX10_readCrab 26 = .ok (.iconst 0, 1) := by decide +kernel
theorem dX10_readCrab_27 : decode cX10_readCrab 27 = .ok (.invokevirtual 119, 3) := by decide +kernel
theorem dX10_readCrab_30 : decode cX10_readCrab 30 = .ok (.ifCond .eq 7, 3) := by decide +kernel
theorem dX10_readCrab_33 : decode cX10_readCrab 33 = .ok (.iconst 1, 1) := by decide +kernel
theorem dX10_readCrab_34 : decode cX10_readCrab 34 = .ok (.goto 4, 3) := by decide +kernel
theorem dX10_readCrab_37 : decode cX10_readCrab 37 = .ok (.iconst 0, 1) := by decide +kernel
theorem dX10_readCrab_38 : decode cX10_readCrab 38 = .ok (.istore_n 1, 1) := by decide +kernel
theorem dX10_readCrab_39 : decode cX10_readCrab 39 = .ok (.aload_n 0, 1) := by decide +kernel
theorem dX10_readCrab_40 : decode cX10_readCrab 40 = .ok (.getfield 123, 3) := by decide +kernel
theorem dX10_readCrab_43 : decode cX10_readCrab 43 = .ok (.iconst 1, 1) := by decide +kernel
theorem dX10_readCrab_44 : decode cX10_readCrab 44 = .ok (.if_icmp .ne 33, 3) := by decide +kernel
theorem dX10_readCrab_47 : decode cX10_readCrab 47 = .ok (.aload_n 0, 1) := by decide +kernel
theorem dX10_readCrab_48 : decode cX10_readCrab 48 = .ok (.iconst 5, 1) := by decide +kernel
theorem dX10_readCrab_49 : decode cX10_readCrab 49 = .ok (.bipush 114, 2) := by decide +kernel
theorem dX10_readCrab_51 : decode cX10_readCrab 51 = .ok (.bipush 105, 2) := by decide +kernel
theorem dX10_readCrab_53 : decode cX10_readCrab 53 = .ok (.bipush 103, 2) := by decide +kernel
theorem dX10_readCrab_55 : decode cX10_readCrab 55 = .ok (.invokevirtual 115, 3) := by decide +kernel
theorem dX10_readCrab_58 : decode cX10_readCrab 58 = .ok (.ifCond .eq 19, 3) := by decide +kernel
theorem dX10_readCrab_61 : decode cX10_readCrab 61 = .ok (.aload_n 0, 1) := by decide +kernel
theorem dX10_readCrab_62 : decode cX10_readCrab 62 = .ok (.bipush 104, 2) := by decide +kernel
theorem dX10_readCrab_64 : decode cX10_readCrab 64 = .ok (.bipush 116, 2) := by decide +kernel
theorem dX10_readCrab_66 : decode cX10_readCrab 66 = .ok (.iconst 0, 1) := by decide +kernel
theorem dX10_readCrab_67 : decode cX10_readCrab 67 = .ok (.invokevirtual 119, 3) := by decide +kernel
theorem dX10_readCrab_70 : decode cX10_readCrab 70 = .ok (.ifCond .eq 7, 3) := by decide +kernel
theorem dX10_readCrab_73 : decode cX10_readCrab 73 = .ok (.iconst 1, 1) := by decide +kernel
theorem dX10_readCrab_74 : decode cX10_readCrab 74 = .ok (.goto 4, 3) := by decide +kernel
theorem dX10_readCrab_77 : decode cX10_readCrab 77 = .ok (.iconst 0, 1) := by decide +kernel
theorem dX10_readCrab_78 : decode cX10_readCrab 78 = .ok (.istore_n 2, 1) := by decide +kernel
theorem dX10_readCrab_79 : decode cX10_readCrab 79 = .ok (.aload_n 0, 1) := by decide +kernel
theorem dX10_readCrab_80 : decode cX10_readCrab 80 = .ok (.getfield 99, 3) := by decide +kernel
theorem dX10_readCrab_83 : decode cX10_readCrab 83 = .ok (.ifCond .ne 21, 3) := by decide +kernel
theorem dX10_readCrab_86 : decode cX10_readCrab 86 = .ok (.aload_n 0, 1) := by decide +kernel
theorem dX10_readCrab_87 : decode cX10_readCrab 87 = .ok (.iload_n 1, 1) := by decide +kernel
theorem dX10_readCrab_88 : decode cX10_readCrab 88 = .ok (.ifCond .ne 7, 3) := by decide +kernel
theorem dX10_readCrab_91 : decode cX10_readCrab 91 = .ok (.iload_n 2, 1) := by decide +kernel
theorem dX10_readCrab_92 : decode cX10_readCrab 92 = .ok (.ifCond .eq 7, 3) := by decide +kernel
theorem dX10_readCrab_95 : decode cX10_readCrab 95 = .ok (.iconst 1, 1) := by decide +kernel
theorem dX10_readCrab_96 : decode cX10_readCrab 96 = .ok (.goto 4, 3) := by decide +kernel
theorem dX10_readCrab_99 : decode cX10_readCrab 99 = .ok (.iconst 0, 1) := by decide +kernel
theorem dX10_readCrab_100 : decode cX10_readCrab 100 = .ok (.iconst 2, 1) := by decide +kernel
theorem dX10_readCrab_101 : decode cX10_readCrab 101 = .ok (.invokevirtual 137, 3) := by decide +kernel
theorem dX10_readCrab_104 : decode cX10_readCrab 104 = .ok (.aload_n 0, 1) := by decide +kernel
theorem dX10_readCrab_105 : decode cX10_readCrab 105 = .ok (.invokevirtual 145, 3) := by decide +kernel
theorem dX10_readCrab_108 : decode cX10_readCrab 108 = .ok (.aload_n 0, 1) := by decide +kernel
theorem dX10_readCrab_109 : decode cX10_readCrab 109 = .ok (.getfield 17, 3) := by decide +kernel
theorem dX10_readCrab_112 : decode cX10_readCrab 112 = .ok (.bipush 35, 2) := by decide +kernel
theorem dX10_readCrab_114 : decode cX10_readCrab 114 = .ok (.aload_n 0, 1) := by decide +kernel
theorem dX10_readCrab_115 : decode cX10_readCrab 115 = .ok (.getfield 75, 3) := by decide +kernel
theorem dX10_readCrab_118 : decode cX10_readCrab 118 = .ok (.iadd, 1) := by decide +kernel
theorem dX10_readCrab_119 : decode cX10_readCrab 119 = .ok (.iload_n 2, 1) := by decide +kernel
theorem dX10_readCrab_120 : decode cX10_readCrab 120 = .ok (.invokestatic 158, 3) := by decide +kernel
theorem dX10_readCrab_123 : decode cX10_readCrab 123 = .ok (.iastore, 1) := by decide +kernel
theorem dX10_readCrab_124 : decode cX10_readCrab 124 = .ok (.aload_n 0, 1) := by decide +kernel
theorem dX10_readCrab_125 : decode cX10_readCrab 125 = .ok (.getfield 17, 3) := by decide +kernel
theorem dX10_readCrab_128 : decode cX10_readCrab 128 = .ok (.bipush 27, 2) := by decide +kernel
theorem dX10_readCrab_130 : decode cX10_readCrab 130 = .ok (.aload_n 0, 1) := by decide +kernel
theorem dX10_readCrab_131 : decode cX10_readCrab 131 = .ok (.getfield 75, 3) := by decide +kernel
theorem dX10_readCrab_134 : decode cX10_readCrab 134 = .ok (.iadd, 1) := by decide +kernel
theorem dX10_readCrab_135 : decode cX10_readCrab 135 = .ok (.aload_n 0, 1) := by decide +kernel
theorem dX10_readCrab_136 : decode cX10_readCrab 136 = .ok (.iconst 1, 1) := by decide +kernel
theorem dX10_readCrab_137 : decode cX10_readCrab 137 = .ok (.bipush 9, 2) := by decide +kernel
theorem dX10_readCrab_139 : decode cX10_readCrab 139 = .ok (.invokevirtual 152, 3) := by decide +kernel
theorem dX10_readCrab_142 : decode cX10_readCrab 142 = .ok (.iastore, 1) := by decide +kernel
theorem dX10_readCrab_143 : decode cX10_readCrab 143 = .ok (.aload_n 0, 1) := by decide +kernel
theorem dX10_readCrab_144 : decode cX10_readCrab 144 = .ok (.getfield 17, 3) := by decide +kernel
theorem dX10_readCrab_147 : decode cX10_readCrab 147 = .ok (.bipush 31, 2) := by decide +kernel
theorem dX10_readCrab_149 : decode cX10_readCrab 149 = .ok (.aload_n 0, 1) := by decide +kernel
theorem dX10_readCrab_150 : decode cX10_readCrab 150 = .ok (.getfield 75, 3) := by decide +kernel
theorem dX10_readCrab_153 : decode cX10_readCrab 153 = .ok (.iadd, 1) := by decide +kernel
theorem dX10_readCrab_154 : decode cX10_readCrab 154 = .ok (.aload_n 0, 1) := by decide +kernel
theorem dX10_readCrab_155 : decode cX10_readCrab 155 = .ok (.iconst 1, 1) := by decide +kernel
theorem dX10_readCrab_156 : decode cX10_readCrab 156 = .ok (.bipush 9, 2) := by decide +kernel
theorem dX10_readCrab_158 : decode cX10_readCrab 158 = .ok (.invokevirtual 152, 3) := by decide +kernel
theorem dX10_readCrab_161 : decode cX10_readCrab 161 = .ok (.iastore, 1) := by decide +kernel
theorem dX10_readCrab_162 : decode cX10_readCrab 162 = .ok (.aload_n 0, 1) := by decide +kernel
theorem dX10_readCrab_163 : decode cX10_readCrab 163 = .ok (.getfield 17, 3) := by decide +kernel
theorem dX10_readCrab_166 : decode cX10_readCrab 166 = .ok (.bipush 39, 2) := by decide +kernel
theorem dX10_readCrab_168 : decode cX10_readCrab 168 = .ok (.aload_n 0, 1) := by decide +kernel
theorem dX10_readCrab_169 : decode cX10_readCrab 169 = .ok (.getfield 75, 3) := by decide +kernel
theorem dX10_readCrab_172 : decode cX10_readCrab 172 = .ok (.iadd, 1) := by decide +kernel
theorem dX10_readCrab_173 : decode cX10_readCrab 173 = .ok (.aload_n 0, 1) := by decide +kernel
theorem dX10_readCrab_174 : decode cX10_readCrab 174 = .ok (.invokevirtual 155, 3) := by decide +kernel
theorem dX10_readCrab_177 : decode cX10_readCrab 177 = .ok (.iastore, 1) := by decide +kernel
theorem dX10_readCrab_178 : decode cX10_readCrab 178 = .ok (.aload_n 0, 1) := by decide +kernel
theorem dX10_readCrab_179 : decode cX10_readCrab 179 = .ok (.dup, 1) := by decide +kernel
theorem dX10_readCrab_180 : decode cX10_readCrab 180 = .ok (.getfield 75, 3) := by decide +kernel
theorem dX10_readCrab_183 : decode cX10_readCrab 183 = .ok (.iconst 1, 1) := by decide +kernel
theorem dX10_readCrab_184 : decode cX10_readCrab 184 = .ok (.iadd, 1) := by decide +kernel
theorem dX10_readCrab_185 : decode cX10_readCrab 185 = .ok (.putfield 75, 3) := by decide +kernel
theorem dX10_readCrab_188 : decode cX10_readCrab 188 = .ok (.return_, 1) := by decide +kernel
theorem dX10_readLineOf_0 : decode cX10_readLineOf 0 = .ok (.iload_n 1, 1) := by decide +kernel
theorem dX10_readLineOf_1 : decode cX10_readLineOf 1 = .ok (.tableswitch 90 0 3 #[31, 45, 76, 83], 31) := by decide +kernel
theorem dX10_readLineOf_32 : decode cX10_readLineOf 32 = .ok (.aload_n 0, 1) := by decide +kernel
theorem dX10_readLineOf_33 : decode cX10_readLineOf 33 = .ok (.aload_n 0, 1) := by decide +kernel
theorem dX10_readLineOf_34 : decode cX10_readLineOf 34 = .ok (.iconst 2, 1) := by decide +kernel
theorem dX10_readLineOf_35 : decode cX10_readLineOf 35 = .ok (.bipush 8, 2) := by decide +kernel
theorem dX10_readLineOf_37 : decode cX10_readLineOf 37 = .ok (.invokevirtual 152, 3) := by decide +kernel
theorem dX10_readLineOf_40 : decode cX10_readLineOf 40 = .ok (.putfield 71, 3) := by decide +kernel
theorem dX10_readLineOf_43 : decode cX10_readLineOf 43 = .ok (.goto 52, 3) := by decide +kernel
theorem dX10_readLineOf_46 : decode cX10_readLineOf 46 = .ok (.aload_n 0, 1) := by decide +kernel
theorem dX10_readLineOf_47 : decode cX10_readLineOf 47 = .ok (.getfield 17, 3) := by decide +kernel
theorem dX10_readLineOf_50 : decode cX10_readLineOf 50 = .ok (.bipush 43, 2) := by decide +kernel
theorem dX10_readLineOf_52 : decode cX10_readLineOf 52 = .ok (.aload_n 0, 1) := by decide +kernel
theorem dX10_readLineOf_53 : decode cX10_readLineOf 53 = .ok (.iconst 1, 1) := by decide +kernel
theorem dX10_readLineOf_54 : decode cX10_readLineOf 54 = .ok (.bipush 9, 2) := by decide +kernel
theorem dX10_readLineOf_56 : decode cX10_readLineOf 56 = .ok (.invokevirtual 152, 3) := by decide +kernel
theorem dX10_readLineOf_59 : decode cX10_readLineOf 59 = .ok (.iastore, 1) := by decide +kernel
theorem dX10_readLineOf_60 : decode cX10_readLineOf 60 = .ok (.aload_n 0, 1) := by decide +kernel
theorem dX10_readLineOf_61 : decode cX10_readLineOf 61 = .ok (.getfield 17, 3) := by decide +kernel
theorem dX10_readLineOf_64 : decode cX10_readLineOf 64 = .ok (.bipush 44, 2) := by decide +kernel
theorem dX10_readLineOf_66 : decode cX10_readLineOf 66 = .ok (.aload_n 0, 1) := by decide +kernel
theorem dX10_readLineOf_67 : decode cX10_readLineOf 67 = .ok (.iconst 0, 1) := by decide +kernel
theorem dX10_readLineOf_68 : decode cX10_readLineOf 68 = .ok (.bipush 8, 2) := by decide +kernel
theorem dX10_readLineOf_70 : decode cX10_readLineOf 70 = .ok (.invokevirtual 152, 3) := by decide +kernel
theorem dX10_readLineOf_73 : decode cX10_readLineOf 73 = .ok (.iastore, 1) := by decide +kernel
theorem dX10_readLineOf_74 : decode cX10_readLineOf 74 = .ok (.goto 21, 3) := by decide +kernel
theorem dX10_readLineOf_77 : decode cX10_readLineOf 77 = .ok (.aload_n 0, 1) := by decide +kernel
theorem dX10_readLineOf_78 : decode cX10_readLineOf 78 = .ok (.invokevirtual 162, 3) := by decide +kernel
theorem dX10_readLineOf_81 : decode cX10_readLineOf 81 = .ok (.goto 14, 3) := by decide +kernel
theorem dX10_readLineOf_84 : decode cX10_readLineOf 84 = .ok (.aload_n 0, 1) := by decide +kernel
theorem dX10_readLineOf_85 : decode cX10_readLineOf 85 = .ok (.invokevirtual 165, 3) := by decide +kernel
theorem dX10_readLineOf_88 : decode cX10_readLineOf 88 = .ok (.goto 7, 3) := by decide +kernel
theorem dX10_readLineOf_91 : decode cX10_readLineOf 91 = .ok (.aload_n 0, 1) := by decide +kernel
theorem dX10_readLineOf_92 : decode cX10_readLineOf 92 = .ok (.invokevirtual 168, 3) := by decide +kernel
theorem dX10_readLineOf_95 : decode cX10_readLineOf 95 = .ok (.return_, 1) := by decide +kernel
theorem dX10_readLine_0 : decode cX10_readLine 0 = .ok (.aload_n 0, 1) := by decide +kernel
theorem dX10_readLine_1 : decode cX10_readLine 1 = .ok (.getfield 123, 3) := by decide +kernel
theorem dX10_readLine_4 : decode cX10_readLine 4 = .ok (.iconst 1, 1) := by decide +kernel
theorem dX10_readLine_5 : decode cX10_readLine 5 = .ok (.if_icmp .ne 10, 3) := by decide +kernel
theorem dX10_readLine_8 : decode cX10_readLine 8 = .ok (.aload_n 0, 1) := by decide +kernel
theorem dX10_readLine_9 : decode cX10_readLine 9 = .ok (.invokevirtual 171, 3) := by decide +kernel
theorem dX10_readLine_12 : decode cX10_readLine 12 = .ok (.goto 5, 3) := by decide +kernel
theorem dX10_readLine_15 : decode cX10_readLine 15 = .ok (.bipush (-4), 2) := by decide +kernel
theorem dX10_readLine_17 : decode cX10_readLine 17 = .ok (.istore_n 1, 1) := by decide +kernel
theorem dX10_readLine_18 : decode cX10_readLine 18 = .ok (.aload_n 0, 1) := by decide +kernel
theorem dX10_readLine_19 : decode cX10_readLine 19 = .ok (.iload_n 1, 1) := by decide +kernel
theorem dX10_readLine_20 : decode cX10_readLine 20 = .ok (.bipush (-4), 2) := by decide +kernel
theorem dX10_readLine_22 : decode cX10_readLine 22 = .ok (.if_icmp .eq 7, 3) := by decide +kernel
theorem dX10_readLine_25 : decode cX10_readLine 25 = .ok (.iconst 1, 1) := by decide +kernel
theorem dX10_readLine_26 : decode cX10_readLine 26 = .ok (.goto 4, 3) := by decide +kernel
theorem dX10_readLine_29 : decode cX10_readLine 29 = .ok (.iconst 0, 1) := by decide +kernel
theorem dX10_readLine_30 : decode cX10_readLine 30 = .ok (.iconst 2, 1) := by decide +kernel
theorem dX10_readLine_31 : decode cX10_readLine 31 = .ok (.invokevirtual 137, 3) := by decide +kernel
theorem dX10_readLine_34 : decode cX10_readLine 34 = .ok (.aload_n 0, 1) := by decide +kernel
theorem dX10_readLine_35 : decode cX10_readLine 35 = .ok (.iload_n 1, 1) := by decide +kernel
theorem dX10_readLine_36 : decode cX10_readLine 36 = .ok (.iconst 3, 1) := by decide +kernel
theorem dX10_readLine_37 : decode cX10_readLine 37 = .ok (.if_icmp .ne 15, 3) := by decide +kernel
theorem dX10_readLine_40 : decode cX10_readLine 40 = .ok (.aload_n 0, 1) := by decide +kernel
theorem dX10_readLine_41 : decode cX10_readLine 41 = .ok (.getfield 17, 3) := by decide +kernel
theorem dX10_readLine_44 : decode cX10_readLine 44 = .ok (.bipush 8, 2) := by decide +kernel
theorem dX10_readLine_46 : decode cX10_readLine 46 = .ok (.iaload, 1) := by decide +kernel
theorem dX10_readLine_47 : decode cX10_readLine 47 = .ok (.bipush 6, 2) := by decide +kernel
theorem dX10_readLine_49 : decode cX10_readLine 49 = .ok (.if_icmp .ge 20, 3) := by decide +kernel
theorem dX10_readLine_52 : decode cX10_readLine 52 = .ok (.iload_n 1, 1) := by decide +kernel
theorem dX10_readLine_53 : decode cX10_readLine 53 = .ok (.iconst 4, 1) := by decide +kernel
theorem dX10_readLine_54 : decode cX10_readLine 54 = .ok (.if_icmp .ne 11, 3) := by decide +kernel
theorem dX10_readLine_57 : decode cX10_readLine 57 = .ok (.aload_n 0, 1) := by decide +kernel
theorem dX10_readLine_58 : decode cX10_readLine 58 = .ok (.getfield 75, 3) := by decide +kernel
theorem dX10_readLine_61 : decode cX10_readLine 61 = .ok (.iconst 4, 1) := by decide +kernel
theorem dX10_readLine_62 : decode cX10_readLine 62 = .ok (.if_icmp .ge 7, 3) := by decide +kernel
theorem dX10_readLine_65 : decode cX10_readLine 65 = .ok (.iconst 1, 1) := by decide +kernel
theorem dX10_readLine_66 : decode cX10_readLine 66 = .ok (.goto 4, 3) := by decide +kernel
theorem dX10_readLine_69 : decode cX10_readLine 69 = .ok (.iconst 0, 1) := by decide +kernel
theorem dX10_readLine_70 : decode cX10_readLine 70 = .ok (.iconst 5, 1) := by decide +kernel
theorem dX10_readLine_71 : decode cX10_readLine 71 = .ok (.invokevirtual 137, 3) := by decide +kernel
theorem dX10_readLine_74 : decode cX10_readLine 74 = .ok (.aload_n 0, 1) := by decide +kernel
theorem dX10_readLine_75 : decode cX10_readLine 75 = .ok (.getfield 99, 3) := by decide +kernel
theorem dX10_readLine_78 : decode cX10_readLine 78 = .ok (.ifCond .ne 41, 3) := by decide +kernel
theorem dX10_readLine_81 : decode cX10_readLine 81 = .ok (.iload_n 1, 1) := by decide +kernel
theorem dX10_readLine_82 : decode cX10_readLine 82 = .ok (.iconst 1, 1) := by decide +kernel
theorem dX10_readLine_83 : decode cX10_readLine 83 = .ok (.if_icmp .gt 36, 3) := by decide +kernel
theorem dX10_readLine_86 : decode cX10_readLine 86 = .ok (.aload_n 0, 1) := by decide +kernel
theorem dX10_readLine_87 : decode cX10_readLine 87 = .ok (.aload_n 0, 1) := by decide +kernel
theorem dX10_readLine_88 : decode cX10_readLine 88 = .ok (.getfield 78, 3) := by decide +kernel
theorem dX10_readLine_91 : decode cX10_readLine 91 = .ok (.iload_n 1, 1) := by decide +kernel
theorem dX10_readLine_92 : decode cX10_readLine 92 = .ok (.ishr, 1) := by decide +kernel
theorem dX10_readLine_93 : decode cX10_readLine 93 = .ok (.iconst 1, 1) := by decide +kernel
theorem dX10_readLine_94 : decode cX10_readLine 94 = .ok (.iand, 1) := by decide +kernel
theorem dX10_readLine_95 : decode cX10_readLine 95 = .ok (.ifCond .ne 7, 3) := by decide +kernel
theorem dX10_readLine_98 : decode cX10_readLine 98 = .ok (.iconst 1, 1) := by decide +kernel
theorem dX10_readLine_99 : decode cX10_readLine 99 = .ok (.goto 4, 3) := by decide +kernel
theorem dX10_readLine_102 : decode cX10_readLine 102 = .ok (.iconst 0, 1) := by decide +kernel
theorem dX10_readLine_103 : decode cX10_readLine 103 = .ok (.iconst 4, 1) := by decide +kernel
theorem dX10_readLine_104 : decode cX10_readLine 104 = .ok (.invokevirtual 137, 3) := by decide +kernel
theorem dX10_readLine_107 : decode cX10_readLine 107 = .ok (.aload_n 0, 1) := by decide +kernel
theorem dX10_readLine_108 : decode cX10_readLine 108 = .ok (.dup, 1) := by decide +kernel
theorem dX10_readLine_109 : decode cX10_readLine 109 = .ok (.getfield 78, 3) := by decide +kernel
theorem dX10_readLine_112 : decode cX10_readLine 112 = .ok (.iconst 1, 1) := by decide +kernel
theorem dX10_readLine_113 : decode cX10_readLine 113 = .ok (.iload_n 1, 1) := by decide +kernel
theorem dX10_readLine_114 : decode cX10_readLine 114 = .ok (.ishl, 1) := by decide +kernel
theorem dX10_readLine_115 : decode cX10_readLine 115 = .ok (.ior, 1) := by decide +kernel
theorem dX10_readLine_116 : decode cX10_readLine 116 = .ok (.putfield 78, 3) := by decide +kernel
theorem dX10_readLine_119 : decode cX10_readLine 119 = .ok (.aload_n 0, 1) := by decide +kernel
theorem dX10_readLine_120 : decode cX10_readLine 120 = .ok (.invokevirtual 145, 3) := by decide +kernel
theorem dX10_readLine_123 : decode cX10_readLine 123 = .ok (.aload_n 0, 1) := by decide +kernel
theorem dX10_readLine_124 : decode cX10_readLine 124 = .ok (.getfield 99, 3) := by decide +kernel
theorem dX10_readLine_127 : decode cX10_readLine 127 = .ok (.ifCond .le 4, 3) := by decide +kernel
theorem dX10_readLine_130 : decode cX10_readLine 130 = .ok (.return_, 1) := by decide +kernel
theorem dX10_readLine_131 : decode cX10_readLine 131 = .ok (.aload_n 0, 1) := by decide +kernel
theorem dX10_readLine_132 : decode cX10_readLine 132 = .ok (.iload_n 1, 1) := by decide +kernel
theorem dX10_readLine_133 : decode cX10_readLine 133 = .ok (.invokevirtual 174, 3) := by decide +kernel
theorem dX10_readLine_136 : decode cX10_readLine 136 = .ok (.aload_n 0, 1) := by decide +kernel
theorem dX10_readLine_137 : decode cX10_readLine 137 = .ok (.getfield 99, 3) := by decide +kernel
theorem dX10_readLine_140 : decode cX10_readLine 140 = .ok (.ifCond .ne 21, 3) := by decide +kernel
theorem dX10_readLine_143 : decode cX10_readLine 143 = .ok (.aload_n 0, 1) := by decide +kernel
theorem dX10_readLine_144 : decode cX10_readLine 144 = .ok (.aload_n 0, 1) := by decide +kernel
theorem dX10_readLine_145 : decode cX10_readLine 145 = .ok (.getfield 123, 3) := by decide +kernel
theorem dX10_readLine_148 : decode cX10_readLine 148 = .ok (.iconst 3, 1) := by decide +kernel
theorem dX10_readLine_149 : decode cX10_readLine 149 = .ok (.if_icmp .ne 7, 3) := by decide +kernel
theorem dX10_readLine_152 : decode cX10_readLine 152 = .ok (.iconst 1, 1) := by decide +kernel
theorem dX10_readLine_153 : decode cX10_readLine 153 = .ok (.goto 4, 3) := by decide +kernel
theorem dX10_readLine_156 : decode cX10_readLine 156 = .ok (.iconst 0, 1) := by decide +kernel
theorem dX10_readLine_157 : decode cX10_readLine 157 = .ok (.iconst 2, 1) := by decide +kernel
theorem dX10_readLine_158 : decode cX10_readLine 158 = .ok (.invokevirtual 137, 3) := by decide +kernel
theorem dX10_readLine_161 : decode cX10_readLine 161 = .ok (.aload_n 0, 1) := by decide +kernel
theorem dX10_readLine_162 : decode cX10_readLine 162 = .ok (.invokevirtual 145, 3) := by decide +kernel
theorem dX10_readLine_165 : decode cX10_readLine 165 = .ok (.return_, 1) := by decide +kernel
theorem dX10_text_0 : decode cX10_text 0 = .ok (.iconst 0, 1) := by decide +kernel
theorem dX10_text_1 : decode cX10_text 1 = .ok (.istore_n 1, 1) := by decide +kernel
theorem dX10_text_2 : decode cX10_text 2 = .ok (.aload_n 0, 1) := by decide +kernel
theorem dX10_text_3 : decode cX10_text 3 = .ok (.iconst 0, 1) := by decide +kernel
theorem dX10_text_4 : decode cX10_text 4 = .ok (.putfield 99, 3) := by decide +kernel
theorem dX10_text_7 : decode cX10_text 7 = .ok (.aload_n 0, 1) := by decide +kernel
theorem dX10_text_8 : decode cX10_text 8 = .ok (.iconst 0, 1) := by decide +kernel
theorem dX10_text_9 : decode cX10_text 9 = .ok (.putfield 108, 3) := by decide +kernel
theorem dX10_text_12 : decode cX10_text 12 = .ok (.aload_n 0, 1) := by decide +kernel
theorem dX10_text_13 : decode cX10_text 13 = .ok (.invokevirtual 65, 3) := by decide +kernel
theorem dX10_text_16 : decode cX10_text 16 = .ok (.aload_n 0, 1) := by decide +kernel
theorem dX10_text_17 : decode cX10_text 17 = .ok (.invokevirtual 145, 3) := by decide +kernel
theorem dX10_text_20 : decode cX10_text 20 = .ok (.aload_n 0, 1) := by decide +kernel
theorem dX10_text_21 : decode cX10_text 21 = .ok (.getfield 99, 3) := by decide +kernel
theorem dX10_text_24 : decode cX10_text 24 = .ok (.ifCond .ne 20, 3) := by decide +kernel
theorem dX10_text_27 : decode cX10_text 27 = .ok (.aload_n 0, 1) := by decide +kernel
theorem dX10_text_28 : decode cX10_text 28 = .ok (.getfield 123, 3) := by decide +kernel
theorem dX10_text_31 : decode cX10_text 31 = .ok (.ifCond .eq 13, 3) := by decide +kernel
theorem dX10_text_34 : decode cX10_text 34 = .ok (.aload_n 0, 1) := by decide +kernel
theorem dX10_text_35 : decode cX10_text 35 = .ok (.invokevirtual 178, 3) := by decide +kernel
theorem dX10_text_38 : decode cX10_text 38 = .ok (.iinc 1 1, 3) := by decide +kernel
theorem dX10_text_41 : decode cX10_text 41 = .ok (.goto (-21), 3) := by decide +kernel
theorem dX10_text_44 : decode cX10_text 44 = .ok (.aload_n 0, 1) := by decide +kernel
theorem dX10_text_45 : decode cX10_text 45 = .ok (.getfield 99, 3) := by decide +kernel
theorem dX10_text_48 : decode cX10_text 48 = .ok (.ifCond .ne 25, 3) := by decide +kernel
theorem dX10_text_51 : decode cX10_text 51 = .ok (.aload_n 0, 1) := by decide +kernel
theorem dX10_text_52 : decode cX10_text 52 = .ok (.aload_n 0, 1) := by decide +kernel
theorem dX10_text_53 : decode cX10_text 53 = .ok (.getfield 81, 3) := by decide +kernel
theorem dX10_text_56 : decode cX10_text 56 = .ok (.aload_n 0, 1) := by decide +kernel
theorem dX10_text_57 : decode cX10_text 57 = .ok (.getfield 71, 3) := by decide +kernel
theorem dX10_text_60 : decode cX10_text 60 = .ok (.if_icmp .ge 7, 3) := by decide +kernel
theorem dX10_text_63 : decode cX10_text 63 = .ok (.iconst 1, 1) := by decide +kernel
theorem dX10_text_64 : decode cX10_text 64 = .ok (.goto 4, 3) := by decide +kernel
theorem dX10_text_67 : decode cX10_text 67 = .ok (.iconst 0, 1) := by decide +kernel
theorem dX10_text_68 : decode cX10_text 68 = .ok (.bipush 6, 2) := by decide +kernel
theorem dX10_text_70 : decode cX10_text 70 = .ok (.invokevirtual 137, 3) := by decide +kernel
theorem dX10_text_73 : decode cX10_text 73 = .ok (.aload_n 0, 1) := by decide +kernel
theorem dX10_text_74 : decode cX10_text 74 = .ok (.iconst 0, 1) := by decide +kernel
theorem dX10_text_75 : decode cX10_text 75 = .ok (.putfield 90, 3) := by decide +kernel
theorem dX10_text_78 : decode cX10_text 78 = .ok (.aload_n 0, 1) := by decide +kernel
theorem dX10_text_79 : decode cX10_text 79 = .ok (.getfield 99, 3) := by decide +kernel
theorem dX10_text_82 : decode cX10_text 82 = .ok (.ifCond .le 11, 3) := by decide +kernel
theorem dX10_text_85 : decode cX10_text 85 = .ok (.bipush (-10), 2) := by decide +kernel
theorem dX10_text_87 : decode cX10_text 87 = .ok (.aload_n 0, 1) := by decide +kernel
theorem dX10_text_88 : decode cX10_text 88 = .ok (.getfield 105, 3) := by decide +kernel
theorem dX10_text_91 : decode cX10_text 91 = .ok (.isub, 1) := by decide +kernel
theorem dX10_text_92 : decode cX10_text 92 = .ok (.ireturn, 1) := by decide +kernel
theorem dX10_text_93 : decode cX10_text 93 = .ok (.aload_n 0, 1) := by decide +kernel
theorem dX10_text_94 : decode cX10_text 94 = .ok (.invokevirtual 68, 3) := by decide +kernel
theorem dX10_text_97 : decode cX10_text 97 = .ok (.iload_n 1, 1) := by decide +kernel
theorem dX10_text_98 : decode cX10_text 98 = .ok (.ireturn, 1) := by decide +kernel
theorem dX10_fault_0 : decode cX10_fault 0 = .ok (.aload_n 0, 1) := by decide +kernel
theorem dX10_fault_1 : decode cX10_fault 1 = .ok (.getfield 99, 3) := by decide +kernel
theorem dX10_fault_4 : decode cX10_fault 4 = .ok (.ireturn, 1) := by decide +kernel
theorem dX10_isPlace_0 : decode cX10_isPlace 0 = .ok (.iload_n 1, 1) := by decide +kernel
theorem dX10_isPlace_1 : decode cX10_isPlace 1 = .ok (.i2l, 1) := by decide +kernel
theorem dX10_isPlace_2 : decode cX10_isPlace 2 = .ok (.lconst 0, 1) := by decide +kernel
theorem dX10_isPlace_3 : decode cX10_isPlace 3 = .ok (.aload_n 0, 1) := by decide +kernel
theorem dX10_isPlace_4 : decode cX10_isPlace 4 = .ok (.getfield 84, 3) := by decide +kernel
theorem dX10_isPlace_7 : decode cX10_isPlace 7 = .ok (.iconst 1, 1) := by decide +kernel
theorem dX10_isPlace_8 : decode cX10_isPlace 8 = .ok (.isub, 1) := by decide +kernel
theorem dX10_isPlace_9 : decode cX10_isPlace 9 = .ok (.i2l, 1) := by decide +kernel
theorem dX10_isPlace_10 : decode cX10_isPlace 10 = .ok (.invokestatic 95, 3) := by decide +kernel
theorem dX10_isPlace_13 : decode cX10_isPlace 13 = .ok (.ireturn, 1) := by decide +kernel
theorem dX10_isCoin_0 : decode cX10_isCoin 0 = .ok (.iload_n 1, 1) := by decide +kernel
theorem dX10_isCoin_1 : decode cX10_isCoin 1 = .ok (.i2l, 1) := by decide +kernel
theorem dX10_isCoin_2 : decode cX10_isCoin 2 = .ok (.lconst 0, 1) := by decide +kernel
theorem dX10_isCoin_3 : decode cX10_isCoin 3 = .ok (.aload_n 0, 1) := by decide +kernel
theorem dX10_isCoin_4 : decode cX10_isCoin 4 = .ok (.getfield 7, 3) := by decide +kernel
theorem dX10_isCoin_7 : decode cX10_isCoin 7 = .ok (.bipush 8, 2) := by decide +kernel
theorem dX10_isCoin_9 : decode cX10_isCoin 9 = .ok (.iaload, 1) := by decide +kernel
theorem dX10_isCoin_10 : decode cX10_isCoin 10 = .ok (.iconst 1, 1) := by decide +kernel
theorem dX10_isCoin_11 : decode cX10_isCoin 11 = .ok (.isub, 1) := by decide +kernel
theorem dX10_isCoin_12 : decode cX10_isCoin 12 = .ok (.i2l, 1) := by decide +kernel
theorem dX10_isCoin_13 : decode cX10_isCoin 13 = .ok (.invokestatic 95, 3) := by decide +kernel
theorem dX10_isCoin_16 : decode cX10_isCoin 16 = .ok (.ireturn, 1) := by decide +kernel
theorem dX10_isCrab_0 : decode cX10_isCrab 0 = .ok (.iload_n 1, 1) := by decide +kernel
theorem dX10_isCrab_1 : decode cX10_isCrab 1 = .ok (.i2l, 1) := by decide +kernel
theorem dX10_isCrab_2 : decode cX10_isCrab 2 = .ok (.lconst 0, 1) := by decide +kernel
theorem dX10_isCrab_3 : decode cX10_isCrab 3 = .ok (.aload_n 0, 1) := by decide +kernel
theorem dX10_isCrab_4 : decode cX10_isCrab 4 = .ok (.getfield 87, 3) := by decide +kernel
theorem dX10_isCrab_7 : decode cX10_isCrab 7 = .ok (.iconst 1, 1) := by decide +kernel
theorem dX10_isCrab_8 : decode cX10_isCrab 8 = .ok (.isub, 1) := by decide +kernel
theorem dX10_isCrab_9 : decode cX10_isCrab 9 = .ok (.i2l, 1) := by decide +kernel
theorem dX10_isCrab_10 : decode cX10_isCrab 10 = .ok (.invokestatic 95, 3) := by decide +kernel
theorem dX10_isCrab_13 : decode cX10_isCrab 13 = .ok (.ireturn, 1) := by decide +kernel
theorem dX10_starts_0 : decode cX10_starts 0 = .ok (.iconst 0, 1) := by decide +kernel
theorem dX10_starts_1 : decode cX10_starts 1 = .ok (.istore_n 1, 1) := by decide +kernel
theorem dX10_starts_2 : decode cX10_starts 2 = .ok (.iload_n 1, 1) := by decide +kernel
theorem dX10_starts_3 : decode cX10_starts 3 = .ok (.bipush 8, 2) := by decide +kernel
theorem dX10_starts_5 : decode cX10_starts 5 = .ok (.if_icmp .ge 23, 3) := by decide +kernel
theorem dX10_starts_8 : decode cX10_starts 8 = .ok (.aload_n 0, 1) := by decide +kernel
theorem dX10_starts_9 : decode cX10_starts 9 = .ok (.getfield 23, 3) := by decide +kernel
theorem dX10_starts_12 : decode cX10_starts 12 = .ok (.iload_n 1, 1) := by decide +kernel
theorem dX10_starts_13 : decode cX10_starts 13 = .ok (.aload_n 0, 1) := by decide +kernel
theorem dX10_starts_14 : decode cX10_starts 14 = .ok (.getfield 7, 3) := by decide +kernel
theorem dX10_starts_17 : decode cX10_starts 17 = .ok (.iconst 0, 1) := by decide +kernel
theorem dX10_starts_18 : decode cX10_starts 18 = .ok (.iload_n 1, 1) := by decide +kernel
theorem dX10_starts_19 : decode cX10_starts 19 = .ok (.iadd, 1) := by decide +kernel
theorem dX10_starts_20 : decode cX10_starts 20 = .ok (.iaload, 1) := by decide +kernel
theorem dX10_starts_21 : decode cX10_starts 21 = .ok (.iastore, 1) := by decide +kernel
theorem dX10_starts_22 : decode cX10_starts 22 = .ok (.iinc 1 1, 3) := by decide +kernel
theorem dX10_starts_25 : decode cX10_starts 25 = .ok (.goto (-23), 3) := by decide +kernel
theorem dX10_starts_28 : decode cX10_starts 28 = .ok (.iconst 0, 1) := by decide +kernel
theorem dX10_starts_29 : decode cX10_starts 29 = .ok (.istore_n 1, 1) := by decide +kernel
theorem dX10_starts_30 : decode cX10_starts 30 = .ok (.iload_n 1, 1) := by decide +kernel
theorem dX10_starts_31 : decode cX10_starts 31 = .ok (.bipush 6, 2) := by decide +kernel
theorem dX10_starts_33 : decode cX10_starts 33 = .ok (.if_icmp .ge 39, 3) := by decide +kernel
theorem dX10_starts_36 : decode cX10_starts 36 = .ok (.aload_n 0, 1) := by decide +kernel
theorem dX10_starts_37 : decode cX10_starts 37 = .ok (.getfield 26, 3) := by decide +kernel
theorem dX10_starts_40 : decode cX10_starts 40 = .ok (.iload_n 1, 1) := by decide +kernel
theorem dX10_starts_41 : decode cX10_starts 41 = .ok (.aload_n 0, 1) := by decide +kernel
theorem dX10_starts_42 : decode cX10_starts 42 = .ok (.getfield 7, 3) := by decide +kernel
theorem dX10_starts_45 : decode cX10_starts 45 = .ok (.bipush 15, 2) := by decide +kernel
theorem dX10_starts_47 : decode cX10_starts 47 = .ok (.iload_n 1, 1) := by decide +kernel
theorem dX10_starts_48 : decode cX10_starts 48 = .ok (.iadd, 1) := by decide +kernel
theorem dX10_starts_49 : decode cX10_starts 49 = .ok (.iaload, 1) := by decide +kernel
theorem dX10_starts_50 : decode cX10_starts 50 = .ok (.iastore, 1) := by decide +kernel
theorem dX10_starts_51 : decode cX10_starts 51 = .ok (.aload_n 0, 1) := by decide +kernel
theorem dX10_starts_52 : decode cX10_starts 52 = .ok (.getfield 29, 3) := by decide +kernel
theorem dX10_starts_55 : decode cX10_starts 55 = .ok (.iload_n 1, 1) := by decide +kernel
theorem dX10_starts_56 : decode cX10_starts 56 = .ok (.aload_n 0, 1) := by decide +kernel
theorem dX10_starts_57 : decode cX10_starts 57 = .ok (.getfield 7, 3) := by decide +kernel
theorem dX10_starts_60 : decode cX10_starts 60 = .ok (.bipush 21, 2) := by decide +kernel
theorem dX10_starts_62 : decode cX10_starts 62 = .ok (.iload_n 1, 1) := by decide +kernel
theorem dX10_starts_63 : decode cX10_starts 63 = .ok (.iadd, 1) := by decide +kernel
theorem dX10_starts_64 : decode cX10_starts 64 = .ok (.iaload, 1) := by decide +kernel
theorem dX10_starts_65 : decode cX10_starts 65 = .ok (.iastore, 1) := by decide +kernel
theorem dX10_starts_66 : decode cX10_starts 66 = .ok (.iinc 1 1, 3) := by decide +kernel
theorem dX10_starts_69 : decode cX10_starts 69 = .ok (.goto (-39), 3) := by decide +kernel
theorem dX10_starts_72 : decode cX10_starts 72 = .ok (.iconst 0, 1) := by decide +kernel
theorem dX10_starts_73 : decode cX10_starts 73 = .ok (.istore_n 1, 1) := by decide +kernel
theorem dX10_starts_74 : decode cX10_starts 74 = .ok (.iload_n 1, 1) := by decide +kernel
theorem dX10_starts_75 : decode cX10_starts 75 = .ok (.iconst 4, 1) := by decide +kernel
theorem dX10_starts_76 : decode cX10_starts 76 = .ok (.if_icmp .ge 76, 3) := by decide +kernel
theorem dX10_starts_79 : decode cX10_starts 79 = .ok (.aload_n 0, 1) := by decide +kernel
theorem dX10_starts_80 : decode cX10_starts 80 = .ok (.getfield 32, 3) := by decide +kernel
theorem dX10_starts_83 : decode cX10_starts 83 = .ok (.iload_n 1, 1) := by decide +kernel
theorem dX10_starts_84 : decode cX10_starts 84 = .ok (.aload_n 0, 1) := by decide +kernel
theorem dX10_starts_85 : decode cX10_starts 85 = .ok (.getfield 7, 3) := by decide +kernel
theorem dX10_starts_88 : decode cX10_starts 88 = .ok (.bipush 27, 2) := by decide +kernel
theorem dX10_starts_90 : decode cX10_starts 90 = .ok (.iload_n 1, 1) := by decide +kernel
theorem dX10_starts_91 : decode cX10_starts 91 = .ok (.iadd, 1) := by decide +kernel
theorem dX10_starts_92 : decode cX10_starts 92 = .ok (.iaload, 1) := by decide +kernel
theorem dX10_starts_93 : decode cX10_starts 93 = .ok (.iastore, 1) := by decide +kernel
theorem dX10_starts_94 : decode cX10_starts 94 = .ok (.aload_n 0, 1) := by decide +kernel
theorem dX10_starts_95 : decode cX10_starts 95 = .ok (.getfield 35, 3) := by decide +kernel
theorem dX10_starts_98 : decode cX10_starts 98 = .ok (.iload_n 1, 1) := by decide +kernel
theorem dX10_starts_99 : decode cX10_starts 99 = .ok (.aload_n 0, 1) := by decide +kernel
theorem dX10_starts_100 : decode cX10_starts 100 = .ok (.getfield 7, 3) := by decide +kernel
theorem dX10_starts_103 : decode cX10_starts 103 = .ok (.bipush 31, 2) := by decide +kernel
theorem dX10_starts_105 : decode cX10_starts 105 = .ok (.iload_n 1, 1) := by decide +kernel
theorem dX10_starts_106 : decode cX10_starts 106 = .ok (.iadd, 1) := by decide +kernel
theorem dX10_starts_107 : decode cX10_starts 107 = .ok (.iaload, 1) := by decide +kernel
theorem dX10_starts_108 : decode cX10_starts 108 = .ok (.iastore, 1) := by decide +kernel
theorem dX10_starts_109 : decode cX10_starts 109 = .ok (.aload_n 0, 1) := by decide +kernel
theorem dX10_starts_110 : decode cX10_starts 110 = .ok (.getfield 38, 3) := by decide +kernel
theorem dX10_starts_113 : decode cX10_starts 113 = .ok (.iload_n 1, 1) := by decide +kernel
theorem dX10_starts_114 : decode cX10_starts 114 = .ok (.aload_n 0, 1) := by decide +kernel
theorem dX10_starts_115 : decode cX10_starts 115 = .ok (.getfield 7, 3) := by decide +kernel
theorem dX10_starts_118 : decode cX10_starts 118 = .ok (.bipush 35, 2) := by decide +kernel
theorem dX10_starts_120 : decode cX10_starts 120 = .ok (.iload_n 1, 1) := by decide +kernel
theorem dX10_starts_121 : decode cX10_starts 121 = .ok (.iadd, 1) := by decide +kernel
theorem dX10_starts_122 : decode cX10_starts 122 = .ok (.iaload, 1) := by decide +kernel
theorem dX10_starts_123 : decode cX10_starts 123 = .ok (.iastore, 1) := by decide +kernel
theorem dX10_starts_124 : decode cX10_starts 124 = .ok (.aload_n 0, 1) := by decide +kernel
theorem dX10_starts_125 : decode cX10_starts 125 = .ok (.getfield 41, 3) := by decide +kernel
theorem dX10_starts_128 : decode cX10_starts 128 = .ok (.iload_n 1, 1) := by decide +kernel
theorem dX10_starts_129 : decode cX10_starts 129 = .ok (.aload_n 0, 1) := by decide +kernel
theorem dX10_starts_130 : decode cX10_starts 130 = .ok (.getfield 7, 3) := by decide +kernel
theorem dX10_starts_133 : decode cX10_starts 133 = .ok (.bipush 39, 2) := by decide +kernel
theorem dX10_starts_135 : decode cX10_starts 135 = .ok (.iload_n 1, 1) := by decide +kernel
theorem dX10_starts_136 : decode cX10_starts 136 = .ok (.iadd, 1) := by decide +kernel
theorem dX10_starts_137 : decode cX10_starts 137 = .ok (.iaload, 1) := by decide +kernel
theorem dX10_starts_138 : decode cX10_starts 138 = .ok (.iastore, 1) := by decide +kernel
theorem dX10_starts_139 : decode cX10_starts 139 = .ok (.aload_n 0, 1) := by decide +kernel
theorem dX10_starts_140 : decode cX10_starts 140 = .ok (.getfield 44, 3) := by decide +kernel
theorem dX10_starts_143 : decode cX10_starts 143 = .ok (.iload_n 1, 1) := by decide +kernel
theorem dX10_starts_144 : decode cX10_starts 144 = .ok (.iload_n 1, 1) := by decide +kernel
theorem dX10_starts_145 : decode cX10_starts 145 = .ok (.iastore, 1) := by decide +kernel
theorem dX10_starts_146 : decode cX10_starts 146 = .ok (.iinc 1 1, 3) := by decide +kernel
theorem dX10_starts_149 : decode cX10_starts 149 = .ok (.goto (-75), 3) := by decide +kernel
theorem dX10_starts_152 : decode cX10_starts 152 = .ok (.aload_n 0, 1) := by decide +kernel
theorem dX10_starts_153 : decode cX10_starts 153 = .ok (.aload_n 0, 1) := by decide +kernel
theorem dX10_starts_154 : decode cX10_starts 154 = .ok (.getfield 87, 3) := by decide +kernel
theorem dX10_starts_157 : decode cX10_starts 157 = .ok (.putfield 181, 3) := by decide +kernel
theorem dX10_starts_160 : decode cX10_starts 160 = .ok (.aload_n 0, 1) := by decide +kernel
theorem dX10_starts_161 : decode cX10_starts 161 = .ok (.aload_n 0, 1) := by decide +kernel
theorem dX10_starts_162 : decode cX10_starts 162 = .ok (.getfield 7, 3) := by decide +kernel
theorem dX10_starts_165 : decode cX10_starts 165 = .ok (.bipush 45, 2) := by decide +kernel
theorem dX10_starts_167 : decode cX10_starts 167 = .ok (.iaload, 1) := by decide +kernel
theorem dX10_starts_168 : decode cX10_starts 168 = .ok (.putfield 184, 3) := by decide +kernel
theorem dX10_starts_171 : decode cX10_starts 171 = .ok (.return_, 1) := by decide +kernel
theorem dX10_heldBy_0 : decode cX10_heldBy 0 = .ok (.bipush (-4), 2) := by decide +kernel
theorem dX10_heldBy_2 : decode cX10_heldBy 2 = .ok (.istore_n 2, 1) := by decide +kernel
theorem dX10_heldBy_3 : decode cX10_heldBy 3 = .ok (.aload_n 0, 1) := by decide +kernel
theorem dX10_heldBy_4 : decode cX10_heldBy 4 = .ok (.getfield 7, 3) := by decide +kernel
theorem dX10_heldBy_7 : decode cX10_heldBy 7 = .ok (.bipush 8, 2) := by decide +kernel
theorem dX10_heldBy_9 : decode cX10_heldBy 9 = .ok (.iaload, 1) := by decide +kernel
theorem dX10_heldBy_10 : decode cX10_heldBy 10 = .ok (.iconst 1, 1) := by decide +kernel
theorem dX10_heldBy_11 : decode cX10_heldBy 11 = .ok (.isub, 1) := by decide +kernel
theorem dX10_heldBy_12 : decode cX10_heldBy 12 = .ok (.istore_n 3, 1) := by decide +kernel
theorem dX10_heldBy_13 : decode cX10_heldBy 13 = .ok (.iload_n 3, 1) := by decide +kernel
theorem dX10_heldBy_14 : decode cX10_heldBy 14 = .ok (.ifCond .lt 28, 3) := by decide +kernel
theorem dX10_heldBy_17 : decode cX10_heldBy 17 = .ok (.aload_n 0, 1) := by decide +kernel
theorem dX10_heldBy_18 : decode cX10_heldBy 18 = .ok (.getfield 29, 3) := by decide +kernel
theorem dX10_heldBy_21 : decode cX10_heldBy 21 = .ok (.iload_n 3, 1) := by decide +kernel
theorem dX10_heldBy_22 : decode cX10_heldBy 22 = .ok (.iaload, 1) := by decide +kernel
theorem dX10_heldBy_23 : decode cX10_heldBy 23 = .ok (.bipush 10, 2) := by decide +kernel
theorem dX10_heldBy_25 : decode cX10_heldBy 25 = .ok (.iload_n 1, 1) := by decide +kernel
theorem dX10_heldBy_26 : decode cX10_heldBy 26 = .ok (.iadd, 1) := by decide +kernel
theorem dX10_heldBy_27 : decode cX10_heldBy 27 = .ok (.if_icmp .ne 7, 3) := by decide +kernel
theorem dX10_heldBy_30 : decode cX10_heldBy 30 = .ok (.iload_n 3, 1) := by decide +kernel
theorem dX10_heldBy_31 : decode cX10_heldBy 31 = .ok (.goto 4, 3) := by decide +kernel
theorem dX10_heldBy_34 : decode cX10_heldBy 34 = .ok (.iload_n 2, 1) := by decide +kernel
theorem dX10_heldBy_35 : decode cX10_heldBy 35 = .ok (.istore_n 2, 1) := by decide +kernel
theorem dX10_heldBy_36 : decode cX10_heldBy 36 = .ok (.iinc 3 (-1), 3) := by decide +kernel
theorem dX10_heldBy_39 : decode cX10_heldBy 39 = .ok (.goto (-26), 3) := by decide +kernel
theorem dX10_heldBy_42 : decode cX10_heldBy 42 = .ok (.iload_n 2, 1) := by decide +kernel
theorem dX10_heldBy_43 : decode cX10_heldBy 43 = .ok (.ireturn, 1) := by decide +kernel
theorem dX10_doesFit_0 : decode cX10_doesFit 0 = .ok (.aload_n 0, 1) := by decide +kernel
theorem dX10_doesFit_1 : decode cX10_doesFit 1 = .ok (.getfield 26, 3) := by decide +kernel
theorem dX10_doesFit_4 : decode cX10_doesFit 4 = .ok (.iload_n 1, 1) := by decide +kernel
theorem dX10_doesFit_5 : decode cX10_doesFit 5 = .ok (.iaload, 1) := by decide +kernel
theorem dX10_doesFit_6 : decode cX10_doesFit 6 = .ok (.ifCond .ne 45, 3) := by decide +kernel
theorem dX10_doesFit_9 : decode cX10_doesFit 9 = .ok (.aload_n 0, 1) := by decide +kernel
theorem dX10_doesFit_10 : decode cX10_doesFit 10 = .ok (.getfield 7, 3) := by decide +kernel
theorem dX10_doesFit_13 : decode cX10_doesFit 13 = .ok (.bipush 9, 2) := by decide +kernel
theorem dX10_doesFit_15 : decode cX10_doesFit 15 = .ok (.iload_n 1, 1) := by decide +kernel
theorem dX10_doesFit_16 : decode cX10_doesFit 16 = .ok (.iadd, 1) := by decide +kernel
theorem dX10_doesFit_17 : decode cX10_doesFit 17 = .ok (.iaload, 1) := by decide +kernel
theorem dX10_doesFit_18 : decode cX10_doesFit 18 = .ok (.aload_n 0, 1) := by decide +kernel
theorem dX10_doesFit_19 : decode cX10_doesFit 19 = .ok (.getfield 32, 3) := by decide +kernel
theorem dX10_doesFit_22 : decode cX10_doesFit 22 = .ok (.iload_n 2, 1) := by decide +kernel
theorem dX10_doesFit_23 : decode cX10_doesFit 23 = .ok (.iaload, 1) := by decide +kernel
theorem dX10_doesFit_24 : decode cX10_doesFit 24 = .ok (.if_icmp .eq 23, 3) := by decide +kernel
theorem dX10_doesFit_27 : decode cX10_doesFit 27 = .ok (.aload_n 0, 1) := by decide +kernel
theorem dX10_doesFit_28 : decode cX10_doesFit 28 = .ok (.getfield 7, 3) := by decide +kernel
theorem dX10_doesFit_31 : decode cX10_doesFit 31 = .ok (.bipush 9, 2) := by decide +kernel
theorem dX10_doesFit_33 : decode cX10_doesFit 33 = .ok (.iload_n 1, 1) := by decide +kernel
theorem dX10_doesFit_34 : decode cX10_doesFit 34 = .ok (.iadd, 1) := by decide +kernel
theorem dX10_doesFit_35 : decode cX10_doesFit 35 = .ok (.iaload, 1) := by decide +kernel
theorem dX10_doesFit_36 : decode cX10_doesFit 36 = .ok (.aload_n 0, 1) := by decide +kernel
theorem dX10_doesFit_37 : decode cX10_doesFit 37 = .ok (.getfield 32, 3) := by decide +kernel
theorem dX10_doesFit_40 : decode cX10_doesFit 40 = .ok (.iload_n 2, 1) := by decide +kernel
theorem dX10_doesFit_41 : decode cX10_doesFit 41 = .ok (.iaload, 1) := by decide +kernel
theorem dX10_doesFit_42 : decode cX10_doesFit 42 = .ok (.iconst 1, 1) := by decide +kernel
theorem dX10_doesFit_43 : decode cX10_doesFit 43 = .ok (.isub, 1) := by decide +kernel
theorem dX10_doesFit_44 : decode cX10_doesFit 44 = .ok (.if_icmp .ne 7, 3) := by decide +kernel
theorem dX10_doesFit_47 : decode cX10_doesFit 47 = .ok (.iconst 1, 1) := by decide +kernel
theorem dX10_doesFit_48 : decode cX10_doesFit 48 = .ok (.goto 4, 3) := by decide +kernel
theorem dX10_doesFit_51 : decode cX10_doesFit 51 = .ok (.iconst 0, 1) := by decide +kernel
theorem dX10_doesFit_52 : decode cX10_doesFit 52 = .ok (.ireturn, 1) := by decide +kernel
theorem dX10_lyingFor_0 : decode cX10_lyingFor 0 = .ok (.bipush (-4), 2) := by decide +kernel
theorem dX10_lyingFor_2 : decode cX10_lyingFor 2 = .ok (.istore_n 2, 1) := by decide +kernel
theorem dX10_lyingFor_3 : decode cX10_lyingFor 3 = .ok (.aload_n 0, 1) := by decide +kernel
theorem dX10_lyingFor_4 : decode cX10_lyingFor 4 = .ok (.getfield 7, 3) := by decide +kernel
theorem dX10_lyingFor_7 : decode cX10_lyingFor 7 = .ok (.bipush 8, 2) := by decide +kernel
theorem dX10_lyingFor_9 : decode cX10_lyingFor 9 = .ok (.iaload, 1) := by decide +kernel
theorem dX10_lyingFor_10 : decode cX10_lyingFor 10 = .ok (.iconst 1, 1) := by decide +kernel
theorem dX10_lyingFor_11 : decode cX10_lyingFor 11 = .ok (.isub, 1) := by decide +kernel
theorem dX10_lyingFor_12 : decode cX10_lyingFor 12 = .ok (.istore_n 3, 1) := by decide +kernel
theorem dX10_lyingFor_13 : decode cX10_lyingFor 13 = .ok (.iload_n 3, 1) := by decide +kernel
theorem dX10_lyingFor_14 : decode cX10_lyingFor 14 = .ok (.ifCond .lt 39, 3) := by decide +kernel
theorem dX10_lyingFor_17 : decode cX10_lyingFor 17 = .ok (.aload_n 0, 1) := by decide +kernel
theorem dX10_lyingFor_18 : decode cX10_lyingFor 18 = .ok (.getfield 29, 3) := by decide +kernel
theorem dX10_lyingFor_21 : decode cX10_lyingFor 21 = .ok (.iload_n 3, 1) := by decide +kernel
theorem dX10_lyingFor_22 : decode cX10_lyingFor 22 = .ok (.iaload, 1) := by decide +kernel
theorem dX10_lyingFor_23 : decode cX10_lyingFor 23 = .ok (.aload_n 0, 1) := by decide +kernel
theorem dX10_lyingFor_24 : decode cX10_lyingFor 24 = .ok (.getfield 41, 3) := by decide +kernel
theorem dX10_lyingFor_27 : decode cX10_lyingFor 27 = .ok (.iload_n 1, 1) := by decide +kernel
theorem dX10_lyingFor_28 : decode cX10_lyingFor 28 = .ok (.iaload, 1) := by decide +kernel
theorem dX10_lyingFor_29 : decode cX10_lyingFor 29 = .ok (.if_icmp .ne 16, 3) := by decide +kernel
theorem dX10_lyingFor_32 : decode cX10_lyingFor 32 = .ok (.aload_n 0, 1) := by decide +kernel
theorem dX10_lyingFor_33 : decode cX10_lyingFor 33 = .ok (.iload_n 3, 1) := by decide +kernel
theorem dX10_lyingFor_34 : decode cX10_lyingFor 34 = .ok (.iload_n 1, 1) := by decide +kernel
theorem dX10_lyingFor_35 : decode cX10_lyingFor 35 = .ok (.invokevirtual 187, 3) := by decide +kernel
theorem dX10_lyingFor_38 : decode cX10_lyingFor 38 = .ok (.ifCond .eq 7, 3) := by decide +kernel
theorem dX10_lyingFor_41 : decode cX10_lyingFor 41 = .ok (.iload_n 3, 1) := by decide +kernel
theorem dX10_lyingFor_42 : decode cX10_lyingFor 42 = .ok (.goto 4, 3) := by decide +kernel
theorem dX10_lyingFor_45 : decode cX10_lyingFor 45 = .ok (.iload_n 2, 1) := by decide +kernel
theorem dX10_lyingFor_46 : decode cX10_lyingFor 46 = .ok (.istore_n 2, 1) := by decide +kernel
theorem dX10_lyingFor_47 : decode cX10_lyingFor 47 = .ok (.iinc 3 (-1), 3) := by decide +kernel
theorem dX10_lyingFor_50 : decode cX10_lyingFor 50 = .ok (.goto (-37), 3) := by decide +kernel
theorem dX10_lyingFor_53 : decode cX10_lyingFor 53 = .ok (.iload_n 2, 1) := by decide +kernel
theorem dX10_lyingFor_54 : decode cX10_lyingFor 54 = .ok (.ireturn, 1) := by decide +kernel
theorem dX10_does_0 : decode cX10_does 0 = .ok (.aload_n 0, 1) := by decide +kernel
theorem dX10_does_1 : decode cX10_does 1 = .ok (.iload_n 1, 1) := by decide +kernel
theorem dX10_does_2 : decode cX10_does 2 = .ok (.invokevirtual 191, 3) := by decide +kernel
theorem dX10_does_5 : decode cX10_does 5 = .ok (.istore_n 2, 1) := by decide +kernel
theorem dX10_does_6 : decode cX10_does 6 = .ok (.aload_n 0, 1) := by decide +kernel
theorem dX10_does_7 : decode cX10_does 7 = .ok (.getfield 41, 3) := by decide +kernel
theorem dX10_does_10 : decode cX10_does 10 = .ok (.iload_n 1, 1) := by decide +kernel
theorem dX10_does_11 : decode cX10_does 11 = .ok (.iaload, 1) := by decide +kernel
theorem dX10_does_12 : decode cX10_does 12 = .ok (.istore_n 3, 1) := by decide +kernel
theorem dX10_does_13 : decode cX10_does 13 = .ok (.iload_n 2, 1) := by decide +kernel
theorem dX10_does_14 : decode cX10_does 14 = .ok (.bipush (-4), 2) := by decide +kernel
theorem dX10_does_16 : decode cX10_does 16 = .ok (.if_icmp .eq 38, 3) := by decide +kernel
theorem dX10_does_19 : decode cX10_does 19 = .ok (.aload_n 0, 1) := by decide +kernel
theorem dX10_does_20 : decode cX10_does 20 = .ok (.getfield 23, 3) := by decide +kernel
theorem dX10_does_23 : decode cX10_does 23 = .ok (.iload_n 3, 1) := by decide +kernel
theorem dX10_does_24 : decode cX10_does 24 = .ok (.iaload, 1) := by decide +kernel
theorem dX10_does_25 : decode cX10_does 25 = .ok (.ifCond .le 29, 3) := by decide +kernel
theorem dX10_does_28 : decode cX10_does 28 = .ok (.aload_n 0, 1) := by decide +kernel
theorem dX10_does_29 : decode cX10_does 29 = .ok (.getfield 23, 3) := by decide +kernel
theorem dX10_does_32 : decode cX10_does 32 = .ok (.iload_n 3, 1) := by decide +kernel
theorem dX10_does_33 : decode cX10_does 33 = .ok (.iaload, 1) := by decide +kernel
theorem dX10_does_34 : decode cX10_does 34 = .ok (.aload_n 0, 1) := by decide +kernel
theorem dX10_does_35 : decode cX10_does 35 = .ok (.getfield 35, 3) := by decide +kernel
theorem dX10_does_38 : decode cX10_does 38 = .ok (.iload_n 1, 1) := by decide +kernel
theorem dX10_does_39 : decode cX10_does 39 = .ok (.iaload, 1) := by decide +kernel
theorem dX10_does_40 : decode cX10_does 40 = .ok (.if_icmp .lt 14, 3) := by decide +kernel
theorem dX10_does_43 : decode cX10_does 43 = .ok (.aload_n 0, 1) := by decide +kernel
theorem dX10_does_44 : decode cX10_does 44 = .ok (.getfield 29, 3) := by decide +kernel
theorem dX10_does_47 : decode cX10_does 47 = .ok (.iload_n 2, 1) := by decide +kernel
theorem dX10_does_48 : decode cX10_does 48 = .ok (.bipush 20, 2) := by decide +kernel
theorem dX10_does_50 : decode cX10_does 50 = .ok (.iload_n 3, 1) := by decide +kernel
theorem dX10_does_51 : decode cX10_does 51 = .ok (.iadd, 1) := by decide +kernel
theorem dX10_does_52 : decode cX10_does 52 = .ok (.iastore, 1) := by decide +kernel
theorem dX10_does_53 : decode cX10_does 53 = .ok (.return_, 1) := by decide +kernel
theorem dX10_does_54 : decode cX10_does 54 = .ok (.iload_n 2, 1) := by decide +kernel
theorem dX10_does_55 : decode cX10_does 55 = .ok (.bipush (-4), 2) := by decide +kernel
theorem dX10_does_57 : decode cX10_does 57 = .ok (.if_icmp .ne 11, 3) := by decide +kernel
theorem dX10_does_60 : decode cX10_does 60 = .ok (.aload_n 0, 1) := by decide +kernel
theorem dX10_does_61 : decode cX10_does 61 = .ok (.iload_n 1, 1) := by decide +kernel
theorem dX10_does_62 : decode cX10_does 62 = .ok (.invokevirtual 194, 3) := by decide +kernel
theorem dX10_does_65 : decode cX10_does 65 = .ok (.goto 5, 3) := by decide +kernel
theorem dX10_does_68 : decode cX10_does 68 = .ok (.bipush (-4), 2) := by decide +kernel
theorem dX10_does_70 : decode cX10_does 70 = .ok (.istore 4, 2) := by decide +kernel
theorem dX10_does_72 : decode cX10_does 72 = .ok (.iload 4, 2) := by decide +kernel
theorem dX10_does_74 : decode cX10_does 74 = .ok (.bipush (-4), 2) := by decide +kernel
theorem dX10_does_76 : decode cX10_does 76 = .ok (.if_icmp .eq 17, 3) := by decide +kernel
theorem dX10_does_79 : decode cX10_does 79 = .ok (.aload_n 0, 1) := by decide +kernel
theorem dX10_does_80 : decode cX10_does 80 = .ok (.getfield 29, 3) := by decide +kernel
theorem dX10_does_83 : decode cX10_does 83 = .ok (.iload 4, 2) := by decide +kernel
theorem dX10_does_85 : decode cX10_does 85 = .ok (.bipush 10, 2) := by decide +kernel
theorem dX10_does_87 : decode cX10_does 87 = .ok (.iload_n 1, 1) := by decide +kernel
theorem dX10_does_88 : decode cX10_does 88 = .ok (.iadd, 1) := by decide +kernel
theorem dX10_does_89 : decode cX10_does 89 = .ok (.iastore, 1) := by decide +kernel
theorem dX10_does_90 : decode cX10_does 90 = .ok (.goto 42, 3) := by decide +kernel
theorem dX10_does_93 : decode cX10_does 93 = .ok (.aload_n 0, 1) := by decide +kernel
theorem dX10_does_94 : decode cX10_does 94 = .ok (.getfield 41, 3) := by decide +kernel
theorem dX10_does_97 : decode cX10_does 97 = .ok (.iload_n 1, 1) := by decide +kernel
theorem dX10_does_98 : decode cX10_does 98 = .ok (.aload_n 0, 1) := by decide +kernel
theorem dX10_does_99 : decode cX10_does 99 = .ok (.getfield 38, 3) := by decide +kernel
theorem dX10_does_102 : decode cX10_does 102 = .ok (.iload_n 1, 1) := by decide +kernel
theorem dX10_does_103 : decode cX10_does 103 = .ok (.iaload, 1) := by decide +kernel
theorem dX10_does_104 : decode cX10_does 104 = .ok (.ifCond .ne 19, 3) := by decide +kernel
theorem dX10_does_107 : decode cX10_does 107 = .ok (.iload_n 3, 1) := by decide +kernel
theorem dX10_does_108 : decode cX10_does 108 = .ok (.aload_n 0, 1) := by decide +kernel
theorem dX10_does_109 : decode cX10_does 109 = .ok (.getfield 84, 3) := by decide +kernel
theorem dX10_does_112 : decode cX10_does 112 = .ok (.iadd, 1) := by decide +kernel
theorem dX10_does_113 : decode cX10_does 113 = .ok (.iconst 1, 1) := by decide +kernel
theorem dX10_does_114 : decode cX10_does 114 = .ok (.isub, 1) := by decide +kernel
theorem dX10_does_115 : decode cX10_does 115 = .ok (.aload_n 0, 1) := by decide +kernel
theorem dX10_does_116 : decode cX10_does 116 = .ok (.getfield 84, 3) := by decide +kernel
theorem dX10_does_119 : decode cX10_does 119 = .ok (.irem, 1) := by decide +kernel
theorem dX10_does_120 : decode cX10_does 120 = .ok (.goto 11, 3) := by decide +kernel
theorem dX10_does_123 : decode cX10_does 123 = .ok (.iload_n 3, 1) := by decide +kernel
theorem dX10_does_124 : decode cX10_does 124 = .ok (.iconst 1, 1) := by decide +kernel
theorem dX10_does_125 : decode cX10_does 125 = .ok (.iadd, 1) := by decide +kernel
theorem dX10_does_126 : decode cX10_does 126 = .ok (.aload_n 0, 1) := by decide +kernel
theorem dX10_does_127 : decode cX10_does 127 = .ok (.getfield 84, 3) := by decide +kernel
theorem dX10_does_130 : decode cX10_does 130 = .ok (.irem, 1) := by decide +kernel
theorem dX10_does_131 : decode cX10_does 131 = .ok (.iastore, 1) := by decide +kernel
theorem dX10_does_132 : decode cX10_does 132 = .ok (.return_, 1) := by decide +kernel
theorem dX10_fights_0 : decode cX10_fights 0 = .ok (.iconst 0, 1) := by decide +kernel
theorem dX10_fights_1 : decode cX10_fights 1 = .ok (.istore_n 1, 1) := by decide +kernel
theorem dX10_fights_2 : decode cX10_fights 2 = .ok (.iload_n 1, 1) := by decide +kernel
theorem dX10_fights_3 : decode cX10_fights 3 = .ok (.aload_n 0, 1) := by decide +kernel
theorem dX10_fights_4 : decode cX10_fights 4 = .ok (.getfield 181, 3) := by decide +kernel
theorem dX10_fights_7 : decode cX10_fights 7 = .ok (.if_icmp .ge 155, 3) := by decide +kernel
theorem dX10_fights_10 : decode cX10_fights 10 = .ok (.aload_n 0, 1) := by decide +kernel
theorem dX10_fights_11 : decode cX10_fights 11 = .ok (.getfield 44, 3) := by decide +kernel
theorem dX10_fights_14 : decode cX10_fights 14 = .ok (.iload_n 1, 1) := by decide +kernel
theorem dX10_fights_15 : decode cX10_fights 15 = .ok (.iaload, 1) := by decide +kernel
theorem dX10_fights_16 : decode cX10_fights 16 = .ok (.istore_n 2, 1) := by decide +kernel
theorem dX10_fights_17 : decode cX10_fights 17 = .ok (.aload_n 0, 1) := by decide +kernel
theorem dX10_fights_18 : decode cX10_fights 18 = .ok (.iload_n 2, 1) := by decide +kernel
theorem dX10_fights_19 : decode cX10_fights 19 = .ok (.invokevirtual 191, 3) := by decide +kernel
theorem dX10_fights_22 : decode cX10_fights 22 = .ok (.bipush (-4), 2) := by decide +kernel
theorem dX10_fights_24 : decode cX10_fights 24 = .ok (.if_icmp .eq 7, 3) := by decide +kernel
theorem dX10_fights_27 : decode cX10_fights 27 = .ok (.iconst 1, 1) := by decide +kernel
theorem dX10_fights_28 : decode cX10_fights 28 = .ok (.goto 4, 3) := by decide +kernel
theorem dX10_fights_31 : decode cX10_fights 31 = .ok (.iconst 0, 1) := by decide +kernel
theorem dX10_fights_32 : decode cX10_fights 32 = .ok (.istore_n 3, 1) := by decide +kernel
theorem dX10_fights_33 : decode cX10_fights 33 = .ok (.iconst 0, 1) := by decide +kernel
theorem dX10_fights_34 : decode cX10_fights 34 = .ok (.istore 4, 2) := by decide +kernel
theorem dX10_fights_36 : decode cX10_fights 36 = .ok (.iconst 0, 1) := by decide +kernel
theorem dX10_fights_37 : decode cX10_fights 37 = .ok (.istore 5, 2) := by decide +kernel
theorem dX10_fights_39 : decode cX10_fights 39 = .ok (.iload 5, 2) := by decide +kernel
theorem dX10_fights_41 : decode cX10_fights 41 = .ok (.aload_n 0, 1) := by decide +kernel
theorem dX10_fights_42 : decode cX10_fights 42 = .ok (.getfield 181, 3) := by decide +kernel
theorem dX10_fights_45 : decode cX10_fights 45 = .ok (.if_icmp .ge 91, 3) := by decide +kernel
theorem dX10_fights_48 : decode cX10_fights 48 = .ok (.aload_n 0, 1) := by decide +kernel
theorem dX10_fights_49 : decode cX10_fights 49 = .ok (.getfield 44, 3) := by decide +kernel
theorem dX10_fights_52 : decode cX10_fights 52 = .ok (.iload 5, 2) := by decide +kernel
theorem dX10_fights_54 : decode cX10_fights 54 = .ok (.iaload, 1) := by decide +kernel
theorem dX10_fights_55 : decode cX10_fights 55 = .ok (.istore 6, 2) := by decide +kernel
theorem dX10_fights_57 : decode cX10_fights 57 = .ok (.iload 6, 2) := by decide +kernel
theorem dX10_fights_59 : decode cX10_fights 59 = .ok (.iload_n 2, 1) := by decide +kernel
theorem dX10_fights_60 : decode cX10_fights 60 = .ok (.if_icmp .eq 34, 3) := by decide +kernel
theorem dX10_fights_63 : decode cX10_fights 63 = .ok (.aload_n 0, 1) := by decide +kernel
theorem dX10_fights_64 : decode cX10_fights 64 = .ok (.getfield 41, 3) := by decide +kernel
theorem dX10_fights_67 : decode cX10_fights 67 = .ok (.iload 6, 2) := by decide +kernel
theorem dX10_fights_69 : decode cX10_fights 69 = .ok (.iaload, 1) := by decide +kernel
theorem dX10_fights_70 : decode cX10_fights 70 = .ok (.aload_n 0, 1) := by decide +kernel
theorem dX10_fights_71 : decode cX10_fights 71 = .ok (.getfield 41, 3) := by decide +kernel
theorem dX10_fights_74 : decode cX10_fights 74 = .ok (.iload_n 2, 1) := by decide +kernel
theorem dX10_fights_75 : decode cX10_fights 75 = .ok (.iaload, 1) := by decide +kernel
theorem dX10_fights_76 : decode cX10_fights 76 = .ok (.if_icmp .ne 18, 3) := by decide +kernel
theorem dX10_fights_79 : decode cX10_fights 79 = .ok (.aload_n 0, 1) := by decide +kernel
theorem dX10_fights_80 : decode cX10_fights 80 = .ok (.iload 6, 2) := by decide +kernel
theorem dX10_fights_82 : decode cX10_fights 82 = .ok (.invokevirtual 191, 3) := by decide +kernel
theorem dX10_fights_85 : decode cX10_fights 85 = .ok (.bipush (-4), 2) := by decide +kernel
theorem dX10_fights_87 : decode cX10_fights 87 = .ok (.if_icmp .eq 7, 3) := by decide +kernel
theorem dX10_fights_90 : decode cX10_fights 90 = .ok (.iconst 1, 1) := by decide +kernel
theorem dX10_fights_91 : decode cX10_fights 91 = .ok (.goto 4, 3) := by decide +kernel
theorem dX10_fights_94 : decode cX10_fights 94 = .ok (.iconst 0, 1) := by decide +kernel
theorem dX10_fights_95 : decode cX10_fights 95 = .ok (.istore 7, 2) := by decide +kernel
theorem dX10_fights_97 : decode cX10_fights 97 = .ok (.iload 4, 2) := by decide +kernel
theorem dX10_fights_99 : decode cX10_fights 99 = .ok (.ifCond .ne 24, 3) := by decide +kernel
theorem dX10_fights_102 : decode cX10_fights 102 = .ok (.iload 7, 2) := by decide +kernel
theorem dX10_fights_104 : decode cX10_fights 104 = .ok (.ifCond .eq 23, 3) := by decide +kernel
theorem dX10_fights_107 : decode cX10_fights 107 = .ok (.aload_n 0, 1) := by decide +kernel
theorem dX10_fights_108 : decode cX10_fights 108 = .ok (.getfield 32, 3) := by decide +kernel
theorem dX10_fights_111 : decode cX10_fights 111 = .ok (.iload 6, 2) := by decide +kernel
theorem dX10_fights_113 : decode cX10_fights 113 = .ok (.iaload, 1) := by decide +kernel
theorem dX10_fights_114 : decode cX10_fights 114 = .ok (.aload_n 0, 1) := by decide +kernel
theorem dX10_fights_115 : decode cX10_fights 115 = .ok (.getfield 32, 3) := by decide +kernel
theorem dX10_fights_118 : decode cX10_fights 118 = .ok (.iload_n 2, 1) := by decide +kernel
theorem dX10_fights_119 : decode cX10_fights 119 = .ok (.iaload, 1) := by decide +kernel
theorem dX10_fights_120 : decode cX10_fights 120 = .ok (.if_icmp .lt 7, 3) := by decide +kernel
theorem dX10_fights_123 : decode cX10_fights 123 = .ok (.iconst 1, 1) := by decide +kernel
theorem dX10_fights_124 : decode cX10_fights 124 = .ok (.goto 4, 3) := by decide +kernel
theorem dX10_fights_127 : decode cX10_fights 127 = .ok (.iconst 0, 1) := by decide +kernel
theorem dX10_fights_128 : decode cX10_fights 128 = .ok (.istore 4, 2) := by decide +kernel
theorem dX10_fights_130 : decode cX10_fights 130 = .ok (.iinc 5 1, 3) := by decide +kernel
theorem dX10_fights_133 : decode cX10_fights 133 = .ok (.goto (-94), 3) := by decide +kernel
theorem dX10_fights_136 : decode cX10_fights 136 = .ok (.aload_n 0, 1) := by decide +kernel
theorem dX10_fights_137 : decode cX10_fights 137 = .ok (.getfield 47, 3) := by decide +kernel
theorem dX10_fights_140 : decode cX10_fights 140 = .ok (.iload_n 2, 1) := by decide +kernel
theorem dX10_fights_141 : decode cX10_fights 141 = .ok (.iload_n 3, 1) := by decide +kernel
theorem dX10_fights_142 : decode cX10_fights 142 = .ok (.ifCond .eq 12, 3) := by decide +kernel
theorem dX10_fights_145 : decode cX10_fights 145 = .ok (.iload 4, 2) := by decide +kernel
theorem dX10_fights_147 : decode cX10_fights 147 = .ok (.ifCond .eq 7, 3) := by decide +kernel
theorem dX10_fights_150 : decode cX10_fights 150 = .ok (.iconst 1, 1) := by decide +kernel
theorem dX10_fights_151 : decode cX10_fights 151 = .ok (.goto 4, 3) := by decide +kernel
theorem dX10_fights_154 : decode cX10_fights 154 = .ok (.iconst 0, 1) := by decide +kernel
theorem dX10_fights_155 : decode cX10_fights 155 = .ok (.bastore, 1) := by decide +kernel
theorem dX10_fights_156 : decode cX10_fights 156 = .ok (.iinc 1 1, 3) := by decide +kernel
theorem dX10_fights_159 : decode cX10_fights 159 = .ok (.goto (-157), 3) := by decide +kernel
theorem dX10_fights_162 : decode cX10_fights 162 = .ok (.iconst 0, 1) := by decide +kernel
theorem dX10_fights_163 : decode cX10_fights 163 = .ok (.istore_n 1, 1) := by decide +kernel
theorem dX10_fights_164 : decode cX10_fights 164 = .ok (.iload_n 1, 1) := by decide +kernel
theorem dX10_fights_165 : decode cX10_fights 165 = .ok (.aload_n 0, 1) := by decide +kernel
theorem dX10_fights_166 : decode cX10_fights 166 = .ok (.getfield 181, 3) := by decide +kernel
theorem dX10_fights_169 : decode cX10_fights 169 = .ok (.if_icmp .ge 41, 3) := by decide +kernel
theorem dX10_fights_172 : decode cX10_fights 172 = .ok (.aload_n 0, 1) := by decide +kernel
theorem dX10_fights_173 : decode cX10_fights 173 = .ok (.getfield 44, 3) := by decide +kernel
theorem dX10_fights_176 : decode cX10_fights 176 = .ok (.iload_n 1, 1) := by decide +kernel
theorem dX10_fights_177 : decode cX10_fights 177 = .ok (.iaload, 1) := by decide +kernel
theorem dX10_fights_178 : decode cX10_fights 178 = .ok (.istore_n 2, 1) := by decide +kernel
theorem dX10_fights_179 : decode cX10_fights 179 = .ok (.aload_n 0, 1) := by decide +kernel
theorem dX10_fights_180 : decode cX10_fights 180 = .ok (.getfield 47, 3) := by decide +kernel
theorem dX10_fights_183 : decode cX10_fights 183 = .ok (.iload_n 2, 1) := by decide +kernel
theorem dX10_fights_184 : decode cX10_fights 184 = .ok (.baload, 1) := by decide +kernel
theorem dX10_fights_185 : decode cX10_fights 185 = .ok (.ifCond .eq 19, 3) := by decide +kernel
theorem dX10_fights_188 : decode cX10_fights 188 = .ok (.aload_n 0, 1) := by decide +kernel
theorem dX10_fights_189 : decode cX10_fights 189 = .ok (.getfield 29, 3) := by decide +kernel
theorem dX10_fights_192 : decode cX10_fights 192 = .ok (.aload_n 0, 1) := by decide +kernel
theorem dX10_fights_193 : decode cX10_fights 193 = .ok (.iload_n 2, 1) := by decide +kernel
theorem dX10_fights_194 : decode cX10_fights 194 = .ok (.invokevirtual 191, 3) := by decide +kernel
theorem dX10_fights_197 : decode cX10_fights 197 = .ok (.aload_n 0, 1) := by decide +kernel
theorem dX10_fights_198 : decode cX10_fights 198 = .ok (.getfield 41, 3) := by decide +kernel
theorem dX10_fights_201 : decode cX10_fights 201 = .ok (.iload_n 2, 1) := by decide +kernel
theorem dX10_fights_202 : decode cX10_fights 202 = .ok (.iaload, 1) := by decide +kernel
theorem dX10_fights_203 : decode cX10_fights 203 = .ok (.iastore, 1) := by decide +kernel
theorem dX10_fights_204 : decode cX10_fights 204 = .ok (.iinc 1 1, 3) := by decide +kernel
theorem dX10_fights_207 : decode cX10_fights 207 = .ok (.goto (-43), 3) := by decide +kernel
theorem dX10_fights_210 : decode cX10_fights 210 = .ok (.return_, 1) := by decide +kernel
theorem dX10_steps_0 : decode cX10_steps 0 = .ok (.iconst 0, 1) := by decide +kernel
theorem dX10_steps_1 : decode cX10_steps 1 = .ok (.istore_n 1, 1) := by decide +kernel
theorem dX10_steps_2 : decode cX10_steps 2 = .ok (.iload_n 1, 1) := by decide +kernel
theorem dX10_steps_3 : decode cX10_steps 3 = .ok (.aload_n 0, 1) := by decide +kernel
theorem dX10_steps_4 : decode cX10_steps 4 = .ok (.getfield 181, 3) := by decide +kernel
theorem dX10_steps_7 : decode cX10_steps 7 = .ok (.if_icmp .ge 19, 3) := by decide +kernel
theorem dX10_steps_10 : decode cX10_steps 10 = .ok (.aload_n 0, 1) := by decide +kernel
theorem dX10_steps_11 : decode cX10_steps 11 = .ok (.aload_n 0, 1) := by decide +kernel
theorem dX10_steps_12 : decode cX10_steps 12 = .ok (.getfield 44, 3) := by decide +kernel
theorem dX10_steps_15 : decode cX10_steps 15 = .ok (.iload_n 1, 1) := by decide +kernel
theorem dX10_steps_16 : decode cX10_steps 16 = .ok (.iaload, 1) := by decide +kernel
theorem dX10_steps_17 : decode cX10_steps 17 = .ok (.invokevirtual 197, 3) := by decide +kernel
theorem dX10_steps_20 : decode cX10_steps 20 = .ok (.iinc 1 1, 3) := by decide +kernel
theorem dX10_steps_23 : decode cX10_steps 23 = .ok (.goto (-21), 3) := by decide +kernel
theorem dX10_steps_26 : decode cX10_steps 26 = .ok (.aload_n 0, 1) := by decide +kernel
theorem dX10_steps_27 : decode cX10_steps 27 = .ok (.invokevirtual 200, 3) := by decide +kernel
theorem dX10_steps_30 : decode cX10_steps 30 = .ok (.aload_n 0, 1) := by decide +kernel
theorem dX10_steps_31 : decode cX10_steps 31 = .ok (.dup, 1) := by decide +kernel
theorem dX10_steps_32 : decode cX10_steps 32 = .ok (.getfield 184, 3) := by decide +kernel
theorem dX10_steps_35 : decode cX10_steps 35 = .ok (.iconst 1, 1) := by decide +kernel
theorem dX10_steps_36 : decode cX10_steps 36 = .ok (.iadd, 1) := by decide +kernel
theorem dX10_steps_37 : decode cX10_steps 37 = .ok (.putfield 184, 3) := by decide +kernel
theorem dX10_steps_40 : decode cX10_steps 40 = .ok (.aload_n 0, 1) := by decide +kernel
theorem dX10_steps_41 : decode cX10_steps 41 = .ok (.getfield 7, 3) := by decide +kernel
theorem dX10_steps_44 : decode cX10_steps 44 = .ok (.bipush 43, 2) := by decide +kernel
theorem dX10_steps_46 : decode cX10_steps 46 = .ok (.iaload, 1) := by decide +kernel
theorem dX10_steps_47 : decode cX10_steps 47 = .ok (.ifCond .le 22, 3) := by decide +kernel
theorem dX10_steps_50 : decode cX10_steps 50 = .ok (.aload_n 0, 1) := by decide +kernel
theorem dX10_steps_51 : decode cX10_steps 51 = .ok (.getfield 184, 3) := by decide +kernel
theorem dX10_steps_54 : decode cX10_steps 54 = .ok (.aload_n 0, 1) := by decide +kernel
theorem dX10_steps_55 : decode cX10_steps 55 = .ok (.getfield 7, 3) := by decide +kernel
theorem dX10_steps_58 : decode cX10_steps 58 = .ok (.bipush 43, 2) := by decide +kernel
theorem dX10_steps_60 : decode cX10_steps 60 = .ok (.iaload, 1) := by decide +kernel
theorem dX10_steps_61 : decode cX10_steps 61 = .ok (.irem, 1) := by decide +kernel
theorem dX10_steps_62 : decode cX10_steps 62 = .ok (.ifCond .ne 7, 3) := by decide +kernel
theorem dX10_steps_65 : decode cX10_steps 65 = .ok (.iconst 1, 1) := by decide +kernel
theorem dX10_steps_66 : decode cX10_steps 66 = .ok (.goto 4, 3) := by decide +kernel
theorem dX10_steps_69 : decode cX10_steps 69 = .ok (.iconst 0, 1) := by decide +kernel
theorem dX10_steps_70 : decode cX10_steps 70 = .ok (.istore_n 1, 1) := by decide +kernel
theorem dX10_steps_71 : decode cX10_steps 71 = .ok (.iconst 0, 1) := by decide +kernel
theorem dX10_steps_72 : decode cX10_steps 72 = .ok (.istore_n 2, 1) := by decide +kernel
theorem dX10_steps_73 : decode cX10_steps 73 = .ok (.iload_n 2, 1) := by decide +kernel
theorem dX10_steps_74 : decode cX10_steps 74 = .ok (.aload_n 0, 1) := by decide +kernel
theorem dX10_steps_75 : decode cX10_steps 75 = .ok (.getfield 7, 3) := by decide +kernel
theorem dX10_steps_78 : decode cX10_steps 78 = .ok (.bipush 8, 2) := by decide +kernel
theorem dX10_steps_80 : decode cX10_steps 80 = .ok (.iaload, 1) := by decide +kernel
theorem dX10_steps_81 : decode cX10_steps 81 = .ok (.if_icmp .ge 57, 3) := by decide +kernel
theorem dX10_steps_84 : decode cX10_steps 84 = .ok (.aload_n 0, 1) := by decide +kernel
theorem dX10_steps_85 : decode cX10_steps 85 = .ok (.getfield 29, 3) := by decide +kernel
theorem dX10_steps_88 : decode cX10_steps 88 = .ok (.iload_n 2, 1) := by decide +kernel
theorem dX10_steps_89 : decode cX10_steps 89 = .ok (.iload_n 1, 1) := by decide +kernel
theorem dX10_steps_90 : decode cX10_steps 90 = .ok (.ifCond .eq 35, 3) := by decide +kernel
theorem dX10_steps_93 : decode cX10_steps 93 = .ok (.aload_n 0, 1) := by decide +kernel
theorem dX10_steps_94 : decode cX10_steps 94 = .ok (.getfield 29, 3) := by decide +kernel
theorem dX10_steps_97 : decode cX10_steps 97 = .ok (.iload_n 2, 1) := by decide +kernel
theorem dX10_steps_98 : decode cX10_steps 98 = .ok (.iaload, 1) := by decide +kernel
theorem dX10_steps_99 : decode cX10_steps 99 = .ok (.bipush 8, 2) := by decide +kernel
theorem dX10_steps_101 : decode cX10_steps 101 = .ok (.if_icmp .ge 24, 3) := by decide +kernel
theorem dX10_steps_104 : decode cX10_steps 104 = .ok (.aload_n 0, 1) := by decide +kernel
theorem dX10_steps_105 : decode cX10_steps 105 = .ok (.getfield 29, 3) := by decide +kernel
theorem dX10_steps_108 : decode cX10_steps 108 = .ok (.iload_n 2, 1) := by decide +kernel
theorem dX10_steps_109 : decode cX10_steps 109 = .ok (.iaload, 1) := by decide +kernel
theorem dX10_steps_110 : decode cX10_steps 110 = .ok (.aload_n 0, 1) := by decide +kernel
theorem dX10_steps_111 : decode cX10_steps 111 = .ok (.getfield 7, 3) := by decide +kernel
theorem dX10_steps_114 : decode cX10_steps 114 = .ok (.bipush 44, 2) := by decide +kernel
theorem dX10_steps_116 : decode cX10_steps 116 = .ok (.iaload, 1) := by decide +kernel
theorem dX10_steps_117 : decode cX10_steps 117 = .ok (.if_icmp .ge 8, 3) := by decide +kernel
theorem dX10_steps_120 : decode cX10_steps 120 = .ok (.bipush 30, 2) := by decide +kernel
theorem dX10_steps_122 : decode cX10_steps 122 = .ok (.goto 9, 3) := by decide +kernel
theorem dX10_steps_125 : decode cX10_steps 125 = .ok (.aload_n 0, 1) := by decide +kernel
theorem dX10_steps_126 : decode cX10_steps 126 = .ok (.getfield 29, 3) := by decide +kernel
theorem dX10_steps_129 : decode cX10_steps 129 = .ok (.iload_n 2, 1) := by decide +kernel
theorem dX10_steps_130 : decode cX10_steps 130 = .ok (.iaload, 1) := by decide +kernel
theorem dX10_steps_131 : decode cX10_steps 131 = .ok (.iastore, 1) := by decide +kernel
theorem dX10_steps_132 : decode cX10_steps 132 = .ok (.iinc 2 1, 3) := by decide +kernel
theorem dX10_steps_135 : decode cX10_steps 135 = .ok (.goto (-62), 3) := by decide +kernel
theorem dX10_steps_138 : decode cX10_steps 138 = .ok (.return_, 1) := by decide +kernel
theorem dX10_rightPlace_0 : decode cX10_rightPlace 0 = .ok (.bipush (-4), 2) := by decide +kernel
theorem dX10_rightPlace_2 : decode cX10_rightPlace 2 = .ok (.istore_n 2, 1) := by decide +kernel
theorem dX10_rightPlace_3 : decode cX10_rightPlace 3 = .ok (.iconst 0, 1) := by decide +kernel
theorem dX10_rightPlace_4 : decode cX10_rightPlace 4 = .ok (.istore_n 3, 1) := by decide +kernel
theorem dX10_rightPlace_5 : decode cX10_rightPlace 5 = .ok (.iload_n 3, 1) := by decide +kernel
theorem dX10_rightPlace_6 : decode cX10_rightPlace 6 = .ok (.aload_n 0, 1) := by decide +kernel
theorem dX10_rightPlace_7 : decode cX10_rightPlace 7 = .ok (.getfield 84, 3) := by decide +kernel
theorem dX10_rightPlace_10 : decode cX10_rightPlace 10 = .ok (.if_icmp .ge 75, 3) := by decide +kernel
theorem dX10_rightPlace_13 : decode cX10_rightPlace 13 = .ok (.aload_n 0, 1) := by decide +kernel
theorem dX10_rightPlace_14 : decode cX10_rightPlace 14 = .ok (.getfield 23, 3) := by decide +kernel
theorem dX10_rightPlace_17 : decode cX10_rightPlace 17 = .ok (.iload_n 3, 1) := by decide +kernel
theorem dX10_rightPlace_18 : decode cX10_rightPlace 18 = .ok (.iaload, 1) := by decide +kernel
theorem dX10_rightPlace_19 : decode cX10_rightPlace 19 = .ok (.ifCond .le 25, 3) := by decide +kernel
theorem dX10_rightPlace_22 : decode cX10_rightPlace 22 = .ok (.aload_n 0, 1) := by decide +kernel
theorem dX10_rightPlace_23 : decode cX10_rightPlace 23 = .ok (.getfield 23, 3) := by decide +kernel
theorem dX10_rightPlace_26 : decode cX10_rightPlace 26 = .ok (.iload_n 3, 1) := by decide +kernel
theorem dX10_rightPlace_27 : decode cX10_rightPlace 27 = .ok (.iaload, 1) := by decide +kernel
theorem dX10_rightPlace_28 : decode cX10_rightPlace 28 = .ok (.aload_n 0, 1) := by decide +kernel
theorem dX10_rightPlace_29 : decode cX10_rightPlace 29 = .ok (.getfield 7, 3) := by decide +kernel
theorem dX10_rightPlace_32 : decode cX10_rightPlace 32 = .ok (.bipush 9, 2) := by decide +kernel
theorem dX10_rightPlace_34 : decode cX10_rightPlace 34 = .ok (.iload_n 1, 1) := by decide +kernel
theorem dX10_rightPlace_35 : decode cX10_rightPlace 35 = .ok (.iadd, 1) := by decide +kernel
theorem dX10_rightPlace_36 : decode cX10_rightPlace 36 = .ok (.iaload, 1) := by decide +kernel
theorem dX10_rightPlace_37 : decode cX10_rightPlace 37 = .ok (.if_icmp .lt 7, 3) := by decide +kernel
theorem dX10_rightPlace_40 : decode cX10_rightPlace 40 = .ok (.iconst 1, 1) := by decide +kernel
theorem dX10_rightPlace_41 : decode cX10_rightPlace 41 = .ok (.goto 4, 3) := by decide +kernel
theorem dX10_rightPlace_44 : decode cX10_rightPlace 44 = .ok (.iconst 0, 1) := by decide +kernel
theorem dX10_rightPlace_45 : decode cX10_rightPlace 45 = .ok (.istore 4, 2) := by decide +kernel
theorem dX10_rightPlace_47 : decode cX10_rightPlace 47 = .ok (.iload 4, 2) := by decide +kernel
theorem dX10_rightPlace_49 : decode cX10_rightPlace 49 = .ok (.ifCond .eq 28, 3) := by decide +kernel
theorem dX10_rightPlace_52 : decode cX10_rightPlace 52 = .ok (.iload_n 2, 1) := by decide +kernel
theorem dX10_rightPlace_53 : decode cX10_rightPlace 53 = .ok (.bipush (-4), 2) := by decide +kernel
theorem dX10_rightPlace_55 : decode cX10_rightPlace 55 = .ok (.if_icmp .eq 18, 3) := by decide +kernel
theorem dX10_rightPlace_58 : decode cX10_rightPlace 58 = .ok (.aload_n 0, 1) := by decide +kernel
theorem dX10_rightPlace_59 : decode cX10_rightPlace 59 = .ok (.getfield 23, 3) := by decide +kernel
theorem dX10_rightPlace_62 : decode cX10_rightPlace 62 = .ok (.iload_n 3, 1) := by decide +kernel
theorem dX10_rightPlace_63 : decode cX10_rightPlace 63 = .ok (.iaload, 1) := by decide +kernel
theorem dX10_rightPlace_64 : decode cX10_rightPlace 64 = .ok (.aload_n 0, 1) := by decide +kernel
theorem dX10_rightPlace_65 : decode cX10_rightPlace 65 = .ok (.getfield 23, 3) := by decide +kernel
theorem dX10_rightPlace_68 : decode cX10_rightPlace 68 = .ok (.iload_n 2, 1) := by decide +kernel
theorem dX10_rightPlace_69 : decode cX10_rightPlace 69 = .ok (.iaload, 1) := by decide +kernel
theorem dX10_rightPlace_70 : decode cX10_rightPlace 70 = .ok (.if_icmp .ge 7, 3) := by decide +kernel
theorem dX10_rightPlace_73 : decode cX10_rightPlace 73 = .ok (.iload_n 3, 1) := by decide +kernel
theorem dX10_rightPlace_74 : decode cX10_rightPlace 74 = .ok (.goto 4, 3) := by decide +kernel
theorem dX10_rightPlace_77 : decode cX10_rightPlace 77 = .ok (.iload_n 2, 1) := by decide +kernel
theorem dX10_rightPlace_78 : decode cX10_rightPlace 78 = .ok (.istore_n 2, 1) := by decide +kernel
theorem dX10_rightPlace_79 : decode cX10_rightPlace 79 = .ok (.iinc 3 1, 3) := by decide +kernel
theorem dX10_rightPlace_82 : decode cX10_rightPlace 82 = .ok (.goto (-77), 3) := by decide +kernel
theorem dX10_rightPlace_85 : decode cX10_rightPlace 85 = .ok (.iload_n 2, 1) := by decide +kernel
theorem dX10_rightPlace_86 : decode cX10_rightPlace 86 = .ok (.ireturn, 1) := by decide +kernel
theorem dX10_isRight_0 : decode cX10_isRight 0 = .ok (.aload_n 0, 1) := by decide +kernel
theorem dX10_isRight_1 : decode cX10_isRight 1 = .ok (.iload_n 1, 1) := by decide +kernel
theorem dX10_isRight_2 : decode cX10_isRight 2 = .ok (.invokevirtual 203, 3) := by decide +kernel
theorem dX10_isRight_5 : decode cX10_isRight 5 = .ok (.istore_n 2, 1) := by decide +kernel
theorem dX10_isRight_6 : decode cX10_isRight 6 = .ok (.aload_n 0, 1) := by decide +kernel
theorem dX10_isRight_7 : decode cX10_isRight 7 = .ok (.getfield 26, 3) := by decide +kernel
theorem dX10_isRight_10 : decode cX10_isRight 10 = .ok (.iload_n 1, 1) := by decide +kernel
theorem dX10_isRight_11 : decode cX10_isRight 11 = .ok (.iaload, 1) := by decide +kernel
theorem dX10_isRight_12 : decode cX10_isRight 12 = .ok (.iconst 1, 1) := by decide +kernel
theorem dX10_isRight_13 : decode cX10_isRight 13 = .ok (.if_icmp .eq 22, 3) := by decide +kernel
theorem dX10_isRight_16 : decode cX10_isRight 16 = .ok (.iload_n 2, 1) := by decide +kernel
theorem dX10_isRight_17 : decode cX10_isRight 17 = .ok (.bipush (-4), 2) := by decide +kernel
theorem dX10_isRight_19 : decode cX10_isRight 19 = .ok (.if_icmp .eq 16, 3) := by decide +kernel
theorem dX10_isRight_22 : decode cX10_isRight 22 = .ok (.aload_n 0, 1) := by decide +kernel
theorem dX10_isRight_23 : decode cX10_isRight 23 = .ok (.getfield 29, 3) := by decide +kernel
theorem dX10_isRight_26 : decode cX10_isRight 26 = .ok (.iload_n 1, 1) := by decide +kernel
theorem dX10_isRight_27 : decode cX10_isRight 27 = .ok (.iaload, 1) := by decide +kernel
theorem dX10_isRight_28 : decode cX10_isRight 28 = .ok (.bipush 20, 2) := by decide +kernel
theorem dX10_isRight_30 : decode cX10_isRight 30 = .ok (.iload_n 2, 1) := by decide +kernel
theorem dX10_isRight_31 : decode cX10_isRight 31 = .ok (.iadd, 1) := by decide +kernel
theorem dX10_isRight_32 : decode cX10_isRight 32 = .ok (.if_icmp .ne 7, 3) := by decide +kernel
theorem dX10_isRight_35 : decode cX10_isRight 35 = .ok (.iconst 1, 1) := by decide +kernel
theorem dX10_isRight_36 : decode cX10_isRight 36 = .ok (.goto 4, 3) := by decide +kernel
theorem dX10_isRight_39 : decode cX10_isRight 39 = .ok (.iconst 0, 1) := by decide +kernel
theorem dX10_isRight_40 : decode cX10_isRight 40 = .ok (.ireturn, 1) := by decide +kernel
theorem dX10_rightMany_0 : decode cX10_rightMany 0 = .ok (.iconst 0, 1) := by decide +kernel
theorem dX10_rightMany_1 : decode cX10_rightMany 1 = .ok (.istore_n 1, 1) := by decide +kernel
theorem dX10_rightMany_2 : decode cX10_rightMany 2 = .ok (.iconst 0, 1) := by decide +kernel
theorem dX10_rightMany_3 : decode cX10_rightMany 3 = .ok (.istore_n 2, 1) := by decide +kernel
theorem dX10_rightMany_4 : decode cX10_rightMany 4 = .ok (.iload_n 2, 1) := by decide +kernel
theorem dX10_rightMany_5 : decode cX10_rightMany 5 = .ok (.aload_n 0, 1) := by decide +kernel
theorem dX10_rightMany_6 : decode cX10_rightMany 6 = .ok (.getfield 7, 3) := by decide +kernel
theorem dX10_rightMany_9 : decode cX10_rightMany 9 = .ok (.bipush 8, 2) := by decide +kernel
theorem dX10_rightMany_11 : decode cX10_rightMany 11 = .ok (.iaload, 1) := by decide +kernel
theorem dX10_rightMany_12 : decode cX10_rightMany 12 = .ok (.if_icmp .ge 20, 3) := by decide +kernel
theorem dX10_rightMany_15 : decode cX10_rightMany 15 = .ok (.iload_n 1, 1) := by decide +kernel
theorem dX10_rightMany_16 : decode cX10_rightMany 16 = .ok (.aload_n 0, 1) := by decide +kernel
theorem dX10_rightMany_17 : decode cX10_rightMany 17 = .ok (.iload_n 2, 1) := by decide +kernel
theorem dX10_rightMany_18 : decode cX10_rightMany 18 = .ok (.invokevirtual 206, 3) := by decide +kernel
theorem dX10_rightMany_21 : decode cX10_rightMany 21 = .ok (.invokestatic 158, 3) := by decide +kernel
theorem dX10_rightMany_24 : decode cX10_rightMany 24 = .ok (.iadd, 1) := by decide +kernel
theorem dX10_rightMany_25 : decode cX10_rightMany 25 = .ok (.istore_n 1, 1) := by decide +kernel
theorem dX10_rightMany_26 : decode cX10_rightMany 26 = .ok (.iinc 2 1, 3) := by decide +kernel
theorem dX10_rightMany_29 : decode cX10_rightMany 29 = .ok (.goto (-25), 3) := by decide +kernel
theorem dX10_rightMany_32 : decode cX10_rightMany 32 = .ok (.iload_n 1, 1) := by decide +kernel
theorem dX10_rightMany_33 : decode cX10_rightMany 33 = .ok (.ireturn, 1) := by decide +kernel
theorem dX10_sortedBehind_0 : decode cX10_sortedBehind 0 = .ok (.iconst 0, 1) := by decide +kernel
theorem dX10_sortedBehind_1 : decode cX10_sortedBehind 1 = .ok (.istore_n 1, 1) := by decide +kernel
theorem dX10_sortedBehind_2 : decode cX10_sortedBehind 2 = .ok (.iload_n 1, 1) := by decide +kernel
theorem dX10_sortedBehind_3 : decode cX10_sortedBehind 3 = .ok (.bipush 40, 2) := by decide +kernel
theorem dX10_sortedBehind_5 : decode cX10_sortedBehind 5 = .ok (.if_icmp .gt 29, 3) := by decide +kernel
theorem dX10_sortedBehind_8 : decode cX10_sortedBehind 8 = .ok (.aload_n 0, 1) := by decide +kernel
theorem dX10_sortedBehind_9 : decode cX10_sortedBehind 9 = .ok (.invokevirtual 210, 3) := by decide +kernel
theorem dX10_sortedBehind_12 : decode cX10_sortedBehind 12 = .ok (.aload_n 0, 1) := by decide +kernel
theorem dX10_sortedBehind_13 : decode cX10_sortedBehind 13 = .ok (.getfield 7, 3) := by decide +kernel
theorem dX10_sortedBehind_16 : decode cX10_sortedBehind 16 = .ok (.bipush 8, 2) := by decide +kernel
theorem dX10_sortedBehind_18 : decode cX10_sortedBehind 18 = .ok (.iaload, 1) := by decide +kernel
theorem dX10_sortedBehind_19 : decode cX10_sortedBehind 19 = .ok (.if_icmp .ne 5, 3) := by decide +kernel
theorem dX10_sortedBehind_22 : decode cX10_sortedBehind 22 = .ok (.iload_n 1, 1) := by decide +kernel
theorem dX10_sortedBehind_23 : decode cX10_sortedBehind 23 = .ok (.ireturn, 1) := by decide +kernel
theorem dX10_sortedBehind_24 : decode cX10_sortedBehind 24 = .ok (.aload_n 0, 1) := by decide +kernel
theorem dX10_sortedBehind_25 : decode cX10_sortedBehind 25 = .ok (.invokevirtual 213, 3) := by decide +kernel
theorem dX10_sortedBehind_28 : decode cX10_sortedBehind 28 = .ok (.iinc 1 1, 3) := by decide +kernel
theorem dX10_sortedBehind_31 : decode cX10_sortedBehind 31 = .ok (.goto (-29), 3) := by decide +kernel
theorem dX10_sortedBehind_34 : decode cX10_sortedBehind 34 = .ok (.bipush (-4), 2) := by decide +kernel
theorem dX10_sortedBehind_36 : decode cX10_sortedBehind 36 = .ok (.ireturn, 1) := by decide +kernel
end
section
theorem dX10_rule_0 : decode cX10_rule 0 = .ok (.iload_n 1, 1) := by decide +kernel
theorem dX10_rule_1 : decode cX10_rule 1 = .ok (.tableswitch 81 0 5 #[39, 44, 52, 57, 65, 73], 39) := by decide +kernel
theorem dX10_rule_40 : decode cX10_rule 40 = .ok (.aload_n 0, 1) := by decide +kernel
theorem dX10_rule_41 : decode cX10_rule 41 = .ok (.getfield 84, 3) := by decide +kernel
theorem dX10_rule_44 : decode cX10_rule 44 = .ok (.ireturn, 1) := by decide +kernel
theorem dX10_rule_45 : decode cX10_rule 45 = .ok (.aload_n 0, 1) := by decide +kernel
theorem dX10_rule_46 : decode cX10_rule 46 = .ok (.getfield 7, 3) := by decide +kernel
theorem dX10_rule_49 : decode cX10_rule 49 = .ok (.bipush 8, 2) := by decide +kernel
theorem dX10_rule_51 : decode cX10_rule 51 = .ok (.iaload, 1) := by decide +kernel
theorem dX10_rule_52 : decode cX10_rule 52 = .ok (.ireturn, 1) := by decide +kernel
theorem dX10_rule_53 : decode cX10_rule 53 = .ok (.aload_n 0, 1) := by decide +kernel
theorem dX10_rule_54 : decode cX10_rule 54 = .ok (.getfield 87, 3) := by decide +kernel
theorem dX10_rule_57 : decode cX10_rule 57 = .ok (.ireturn, 1) := by decide +kernel
theorem dX10_rule_58 : decode cX10_rule 58 = .ok (.aload_n 0, 1) := by decide +kernel
theorem dX10_rule_59 : decode cX10_rule 59 = .ok (.getfield 7, 3) := by decide +kernel
theorem dX10_rule_62 : decode cX10_rule 62 = .ok (.bipush 43, 2) := by decide +kernel
theorem dX10_rule_64 : decode cX10_rule 64 = .ok (.iaload, 1) := by decide +kernel
theorem dX10_rule_65 : decode cX10_rule 65 = .ok (.ireturn, 1) := by decide +kernel
theorem dX10_rule_66 : decode cX10_rule 66 = .ok (.aload_n 0, 1) := by decide +kernel
theorem dX10_rule_67 : decode cX10_rule 67 = .ok (.getfield 7, 3) := by decide +kernel
theorem dX10_rule_70 : decode cX10_rule 70 = .ok (.bipush 44, 2) := by decide +kernel
theorem dX10_rule_72 : decode cX10_rule 72 = .ok (.iaload, 1) := by decide +kernel
theorem dX10_rule_73 : decode cX10_rule 73 = .ok (.ireturn, 1) := by decide +kernel
theorem dX10_rule_74 : decode cX10_rule 74 = .ok (.aload_n 0, 1) := by decide +kernel
theorem dX10_rule_75 : decode cX10_rule 75 = .ok (.getfield 7, 3) := by decide +kernel
theorem dX10_rule_78 : decode cX10_rule 78 = .ok (.bipush 45, 2) := by decide +kernel
theorem dX10_rule_80 : decode cX10_rule 80 = .ok (.iaload, 1) := by decide +kernel
theorem dX10_rule_81 : decode cX10_rule 81 = .ok (.ireturn, 1) := by decide +kernel
theorem dX10_rule_82 : decode cX10_rule 82 = .ok (.iconst (-1), 1) := by decide +kernel
theorem dX10_rule_83 : decode cX10_rule 83 = .ok (.ireturn, 1) := by decide +kernel
theorem dX10_hole_0 : decode cX10_hole 0 = .ok (.aload_n 0, 1) := by decide +kernel
theorem dX10_hole_1 : decode cX10_hole 1 = .ok (.iload_n 1, 1) := by decide +kernel
theorem dX10_hole_2 : decode cX10_hole 2 = .ok (.invokevirtual 216, 3) := by decide +kernel
theorem dX10_hole_5 : decode cX10_hole 5 = .ok (.ifCond .eq 14, 3) := by decide +kernel
theorem dX10_hole_8 : decode cX10_hole 8 = .ok (.aload_n 0, 1) := by decide +kernel
theorem dX10_hole_9 : decode cX10_hole 9 = .ok (.getfield 7, 3) := by decide +kernel
theorem dX10_hole_12 : decode cX10_hole 12 = .ok (.iconst 0, 1) := by decide +kernel
theorem dX10_hole_13 : decode cX10_hole 13 = .ok (.iload_n 1, 1) := by decide +kernel
theorem dX10_hole_14 : decode cX10_hole 14 = .ok (.iadd, 1) := by decide +kernel
theorem dX10_hole_15 : decode cX10_hole 15 = .ok (.iaload, 1) := by decide +kernel
theorem dX10_hole_16 : decode cX10_hole 16 = .ok (.goto 4, 3) := by decide +kernel
theorem dX10_hole_19 : decode cX10_hole 19 = .ok (.iconst (-1), 1) := by decide +kernel
theorem dX10_hole_20 : decode cX10_hole 20 = .ok (.ireturn, 1) := by decide +kernel
theorem dX10_coin_0 : decode cX10_coin 0 = .ok (.aload_n 0, 1) := by decide +kernel
theorem dX10_coin_1 : decode cX10_coin 1 = .ok (.iload_n 1, 1) := by decide +kernel
theorem dX10_coin_2 : decode cX10_coin 2 = .ok (.invokevirtual 219, 3) := by decide +kernel
theorem dX10_coin_5 : decode cX10_coin 5 = .ok (.ifCond .ne 5, 3) := by decide +kernel
theorem dX10_coin_8 : decode cX10_coin 8 = .ok (.iconst (-1), 1) := by decide +kernel
theorem dX10_coin_9 : decode cX10_coin 9 = .ok (.ireturn, 1) := by decide +kernel
theorem dX10_coin_10 : decode cX10_coin 10 = .ok (.iload_n 2, 1) := by decide +kernel
theorem dX10_coin_11 : decode cX10_coin 11 = .ok (.tableswitch 72 0 3 #[29, 39, 49, 59], 29) := by decide +kernel
theorem dX10_coin_40 : decode cX10_coin 40 = .ok (.aload_n 0, 1) := by decide +kernel
theorem dX10_coin_41 : decode cX10_coin 41 = .ok (.getfield 7, 3) := by decide +kernel
theorem dX10_coin_44 : decode cX10_coin 44 = .ok (.bipush 9, 2) := by decide +kernel
theorem dX10_coin_46 : decode cX10_coin 46 = .ok (.iload_n 1, 1) := by decide +kernel
theorem dX10_coin_47 : decode cX10_coin 47 = .ok (.iadd, 1) := by decide +kernel
theorem dX10_coin_48 : decode cX10_coin 48 = .ok (.iaload, 1) := by decide +kernel
theorem dX10_coin_49 : decode cX10_coin 49 = .ok (.ireturn, 1) := by decide +kernel
theorem dX10_coin_50 : decode cX10_coin 50 = .ok (.aload_n 0, 1) := by decide +kernel
theorem dX10_coin_51 : decode cX10_coin 51 = .ok (.getfield 7, 3) := by decide +kernel
theorem dX10_coin_54 : decode cX10_coin 54 = .ok (.bipush 15, 2) := by decide +kernel
theorem dX10_coin_56 : decode cX10_coin 56 = .ok (.iload_n 1, 1) := by decide +kernel
theorem dX10_coin_57 : decode cX10_coin 57 = .ok (.iadd, 1) := by decide +kernel
theorem dX10_coin_58 : decode cX10_coin 58 = .ok (.iaload, 1) := by decide +kernel
theorem dX10_coin_59 : decode cX10_coin 59 = .ok (.ireturn, 1) := by decide +kernel
theorem dX10_coin_60 : decode cX10_coin 60 = .ok (.aload_n 0, 1) := by decide +kernel
theorem dX10_coin_61 : decode cX10_coin 61 = .ok (.getfield 7, 3) := by decide +kernel
theorem dX10_coin_64 : decode cX10_coin 64 = .ok (.bipush 21, 2) := by decide +kernel
theorem dX10_coin_66 : decode cX10_coin 66 = .ok (.iload_n 1, 1) := by decide +kernel
theorem dX10_coin_67 : decode cX10_coin 67 = .ok (.iadd, 1) := by decide +kernel
theorem dX10_coin_68 : decode cX10_coin 68 = .ok (.iaload, 1) := by decide +kernel
theorem dX10_coin_69 : decode cX10_coin 69 = .ok (.ireturn, 1) := by decide +kernel
theorem dX10_coin_70 : decode cX10_coin 70 = .ok (.aload_n 0, 1) := by decide +kernel
theorem dX10_coin_71 : decode cX10_coin 71 = .ok (.invokevirtual 222, 3) := by decide +kernel
theorem dX10_coin_74 : decode cX10_coin 74 = .ok (.aload_n 0, 1) := by decide +kernel
theorem dX10_coin_75 : decode cX10_coin 75 = .ok (.iload_n 1, 1) := by decide +kernel
theorem dX10_coin_76 : decode cX10_coin 76 = .ok (.invokevirtual 206, 3) := by decide +kernel
theorem dX10_coin_79 : decode cX10_coin 79 = .ok (.invokestatic 158, 3) := by decide +kernel
theorem dX10_coin_82 : decode cX10_coin 82 = .ok (.ireturn, 1) := by decide +kernel
theorem dX10_coin_83 : decode cX10_coin 83 = .ok (.iconst (-1), 1) := by decide +kernel
theorem dX10_coin_84 : decode cX10_coin 84 = .ok (.ireturn, 1) := by decide +kernel
theorem dX10_crab_0 : decode cX10_crab 0 = .ok (.aload_n 0, 1) := by decide +kernel
theorem dX10_crab_1 : decode cX10_crab 1 = .ok (.iload_n 1, 1) := by decide +kernel
theorem dX10_crab_2 : decode cX10_crab 2 = .ok (.invokevirtual 225, 3) := by decide +kernel
theorem dX10_crab_5 : decode cX10_crab 5 = .ok (.ifCond .ne 5, 3) := by decide +kernel
theorem dX10_crab_8 : decode cX10_crab 8 = .ok (.iconst (-1), 1) := by decide +kernel
theorem dX10_crab_9 : decode cX10_crab 9 = .ok (.ireturn, 1) := by decide +kernel
theorem dX10_crab_10 : decode cX10_crab 10 = .ok (.iload_n 2, 1) := by decide +kernel
theorem dX10_crab_11 : decode cX10_crab 11 = .ok (.tableswitch 83 0 4 #[33, 43, 53, 63, 73], 33) := by decide +kernel
theorem dX10_crab_44 : decode cX10_crab 44 = .ok (.aload_n 0, 1) := by decide +kernel
theorem dX10_crab_45 : decode cX10_crab 45 = .ok (.getfield 7, 3) := by decide +kernel
theorem dX10_crab_48 : decode cX10_crab 48 = .ok (.bipush 27, 2) := by decide +kernel
theorem dX10_crab_50 : decode cX10_crab 50 = .ok (.iload_n 1, 1) := by decide +kernel
theorem dX10_crab_51 : decode cX10_crab 51 = .ok (.iadd, 1) := by decide +kernel
theorem dX10_crab_52 : decode cX10_crab 52 = .ok (.iaload, 1) := by decide +kernel
theorem dX10_crab_53 : decode cX10_crab 53 = .ok (.ireturn, 1) := by decide +kernel
theorem dX10_crab_54 : decode cX10_crab 54 = .ok (.aload_n 0, 1) := by decide +kernel
theorem dX10_crab_55 : decode cX10_crab 55 = .ok (.getfield 7, 3) := by decide +kernel
theorem dX10_crab_58 : decode cX10_crab 58 = .ok (.bipush 31, 2) := by decide +kernel
theorem dX10_crab_60 : decode cX10_crab 60 = .ok (.iload_n 1, 1) := by decide +kernel
theorem dX10_crab_61 : decode cX10_crab 61 = .ok (.iadd, 1) := by decide +kernel
theorem dX10_crab_62 : decode cX10_crab 62 = .ok (.iaload, 1) := by decide +kernel
theorem dX10_crab_63 : decode cX10_crab 63 = .ok (.ireturn, 1) := by decide +kernel
theorem dX10_crab_64 : decode cX10_crab 64 = .ok (.aload_n 0, 1) := by decide +kernel
theorem dX10_crab_65 : decode cX10_crab 65 = .ok (.getfield 7, 3) := by decide +kernel
theorem dX10_crab_68 : decode cX10_crab 68 = .ok (.bipush 35, 2) := by decide +kernel
theorem dX10_crab_70 : decode cX10_crab 70 = .ok (.iload_n 1, 1) := by decide +kernel
theorem dX10_crab_71 : decode cX10_crab 71 = .ok (.iadd, 1) := by decide +kernel
theorem dX10_crab_72 : decode cX10_crab 72 = .ok (.iaload, 1) := by decide +kernel
theorem dX10_crab_73 : decode cX10_crab 73 = .ok (.ireturn, 1) := by decide +kernel
theorem dX10_crab_74 : decode cX10_crab 74 = .ok (.aload_n 0, 1) := by decide +kernel
theorem dX10_crab_75 : decode cX10_crab 75 = .ok (.getfield 7, 3) := by decide +kernel
theorem dX10_crab_78 : decode cX10_crab 78 = .ok (.bipush 39, 2) := by decide +kernel
theorem dX10_crab_80 : decode cX10_crab 80 = .ok (.iload_n 1, 1) := by decide +kernel
theorem dX10_crab_81 : decode cX10_crab 81 = .ok (.iadd, 1) := by decide +kernel
theorem dX10_crab_82 : decode cX10_crab 82 = .ok (.iaload, 1) := by decide +kernel
theorem dX10_crab_83 : decode cX10_crab 83 = .ok (.ireturn, 1) := by decide +kernel
theorem dX10_crab_84 : decode cX10_crab 84 = .ok (.aload_n 0, 1) := by decide +kernel
theorem dX10_crab_85 : decode cX10_crab 85 = .ok (.invokevirtual 222, 3) := by decide +kernel
theorem dX10_crab_88 : decode cX10_crab 88 = .ok (.aload_n 0, 1) := by decide +kernel
theorem dX10_crab_89 : decode cX10_crab 89 = .ok (.iload_n 1, 1) := by decide +kernel
theorem dX10_crab_90 : decode cX10_crab 90 = .ok (.invokevirtual 191, 3) := by decide +kernel
theorem dX10_crab_93 : decode cX10_crab 93 = .ok (.ireturn, 1) := by decide +kernel
theorem dX10_crab_94 : decode cX10_crab 94 = .ok (.iconst (-1), 1) := by decide +kernel
theorem dX10_crab_95 : decode cX10_crab 95 = .ok (.ireturn, 1) := by decide +kernel
theorem dX10_becomes_0 : decode cX10_becomes 0 = .ok (.aload_n 0, 1) := by decide +kernel
theorem dX10_becomes_1 : decode cX10_becomes 1 = .ok (.getfield 7, 3) := by decide +kernel
theorem dX10_becomes_4 : decode cX10_becomes 4 = .ok (.iload_n 1, 1) := by decide +kernel
theorem dX10_becomes_5 : decode cX10_becomes 5 = .ok (.iaload, 1) := by decide +kernel
theorem dX10_becomes_6 : decode cX10_becomes 6 = .ok (.istore_n 3, 1) := by decide +kernel
theorem dX10_becomes_7 : decode cX10_becomes 7 = .ok (.aload_n 0, 1) := by decide +kernel
theorem dX10_becomes_8 : decode cX10_becomes 8 = .ok (.getfield 7, 3) := by decide +kernel
theorem dX10_becomes_11 : decode cX10_becomes 11 = .ok (.iload_n 1, 1) := by decide +kernel
theorem dX10_becomes_12 : decode cX10_becomes 12 = .ok (.iload_n 2, 1) := by decide +kernel
theorem dX10_becomes_13 : decode cX10_becomes 13 = .ok (.iastore, 1) := by decide +kernel
theorem dX10_becomes_14 : decode cX10_becomes 14 = .ok (.iload_n 3, 1) := by decide +kernel
theorem dX10_becomes_15 : decode cX10_becomes 15 = .ok (.ireturn, 1) := by decide +kernel
theorem dX10_manyAt_0 : decode cX10_manyAt 0 = .ok (.iconst 0, 1) := by decide +kernel
theorem dX10_manyAt_1 : decode cX10_manyAt 1 = .ok (.istore_n 2, 1) := by decide +kernel
theorem dX10_manyAt_2 : decode cX10_manyAt 2 = .ok (.iconst 0, 1) := by decide +kernel
theorem dX10_manyAt_3 : decode cX10_manyAt 3 = .ok (.istore_n 3, 1) := by decide +kernel
theorem dX10_manyAt_4 : decode cX10_manyAt 4 = .ok (.iload_n 3, 1) := by decide +kernel
theorem dX10_manyAt_5 : decode cX10_manyAt 5 = .ok (.aload_n 0, 1) := by decide +kernel
theorem dX10_manyAt_6 : decode cX10_manyAt 6 = .ok (.getfield 7, 3) := by decide +kernel
theorem dX10_manyAt_9 : decode cX10_manyAt 9 = .ok (.bipush 8, 2) := by decide +kernel
theorem dX10_manyAt_11 : decode cX10_manyAt 11 = .ok (.iaload, 1) := by decide +kernel
theorem dX10_manyAt_12 : decode cX10_manyAt 12 = .ok (.if_icmp .ge 33, 3) := by decide +kernel
theorem dX10_manyAt_15 : decode cX10_manyAt 15 = .ok (.iload_n 2, 1) := by decide +kernel
theorem dX10_manyAt_16 : decode cX10_manyAt 16 = .ok (.aload_n 0, 1) := by decide +kernel
theorem dX10_manyAt_17 : decode cX10_manyAt 17 = .ok (.getfield 7, 3) := by decide +kernel
theorem dX10_manyAt_20 : decode cX10_manyAt 20 = .ok (.bipush 21, 2) := by decide +kernel
theorem dX10_manyAt_22 : decode cX10_manyAt 22 = .ok (.iload_n 3, 1) := by decide +kernel
theorem dX10_manyAt_23 : decode cX10_manyAt 23 = .ok (.iadd, 1) := by decide +kernel
theorem dX10_manyAt_24 : decode cX10_manyAt 24 = .ok (.iaload, 1) := by decide +kernel
theorem dX10_manyAt_25 : decode cX10_manyAt 25 = .ok (.iload_n 1, 1) := by decide +kernel
theorem dX10_manyAt_26 : decode cX10_manyAt 26 = .ok (.if_icmp .ne 7, 3) := by decide +kernel
theorem dX10_manyAt_29 : decode cX10_manyAt 29 = .ok (.iconst 1, 1) := by decide +kernel
theorem dX10_manyAt_30 : decode cX10_manyAt 30 = .ok (.goto 4, 3) := by decide +kernel
theorem dX10_manyAt_33 : decode cX10_manyAt 33 = .ok (.iconst 0, 1) := by decide +kernel
theorem dX10_manyAt_34 : decode cX10_manyAt 34 = .ok (.invokestatic 158, 3) := by decide +kernel
theorem dX10_manyAt_37 : decode cX10_manyAt 37 = .ok (.iadd, 1) := by decide +kernel
theorem dX10_manyAt_38 : decode cX10_manyAt 38 = .ok (.istore_n 2, 1) := by decide +kernel
theorem dX10_manyAt_39 : decode cX10_manyAt 39 = .ok (.iinc 3 1, 3) := by decide +kernel
theorem dX10_manyAt_42 : decode cX10_manyAt 42 = .ok (.goto (-38), 3) := by decide +kernel
theorem dX10_manyAt_45 : decode cX10_manyAt 45 = .ok (.iload_n 2, 1) := by decide +kernel
theorem dX10_manyAt_46 : decode cX10_manyAt 46 = .ok (.ireturn, 1) := by decide +kernel
theorem dX10_dig_0 : decode cX10_dig 0 = .ok (.aload_n 0, 1) := by decide +kernel
theorem dX10_dig_1 : decode cX10_dig 1 = .ok (.iload_n 1, 1) := by decide +kernel
theorem dX10_dig_2 : decode cX10_dig 2 = .ok (.invokevirtual 216, 3) := by decide +kernel
theorem dX10_dig_5 : decode cX10_dig 5 = .ok (.ifCond .eq 15, 3) := by decide +kernel
theorem dX10_dig_8 : decode cX10_dig 8 = .ok (.iload_n 2, 1) := by decide +kernel
theorem dX10_dig_9 : decode cX10_dig 9 = .ok (.i2l, 1) := by decide +kernel
theorem dX10_dig_10 : decode cX10_dig 10 = .ok (.lconst 0, 1) := by decide +kernel
theorem dX10_dig_11 : decode cX10_dig 11 = .ok (.ldc2_w 228, 3) := by decide +kernel
theorem dX10_dig_14 : decode cX10_dig 14 = .ok (.invokestatic 95, 3) := by decide +kernel
theorem dX10_dig_17 : decode cX10_dig 17 = .ok (.ifCond .ne 5, 3) := by decide +kernel
theorem dX10_dig_20 : decode cX10_dig 20 = .ok (.iconst (-1), 1) := by decide +kernel
theorem dX10_dig_21 : decode cX10_dig 21 = .ok (.ireturn, 1) := by decide +kernel
theorem dX10_dig_22 : decode cX10_dig 22 = .ok (.iload_n 2, 1) := by decide +kernel
theorem dX10_dig_23 : decode cX10_dig 23 = .ok (.ifCond .ne 19, 3) := by decide +kernel
theorem dX10_dig_26 : decode cX10_dig 26 = .ok (.aload_n 0, 1) := by decide +kernel
theorem dX10_dig_27 : decode cX10_dig 27 = .ok (.bipush 20, 2) := by decide +kernel
theorem dX10_dig_29 : decode cX10_dig 29 = .ok (.iload_n 1, 1) := by decide +kernel
theorem dX10_dig_30 : decode cX10_dig 30 = .ok (.iadd, 1) := by decide +kernel
theorem dX10_dig_31 : decode cX10_dig 31 = .ok (.invokevirtual 230, 3) := by decide +kernel
theorem dX10_dig_34 : decode cX10_dig 34 = .ok (.ifCond .le 8, 3) := by decide +kernel
theorem dX10_dig_37 : decode cX10_dig 37 = .ok (.bipush (-2), 2) := by decide +kernel
theorem dX10_dig_39 : decode cX10_dig 39 = .ok (.goto 11, 3) := by decide +kernel
theorem dX10_dig_42 : decode cX10_dig 42 = .ok (.aload_n 0, 1) := by decide +kernel
theorem dX10_dig_43 : decode cX10_dig 43 = .ok (.iconst 0, 1) := by decide +kernel
theorem dX10_dig_44 : decode cX10_dig 44 = .ok (.iload_n 1, 1) := by decide +kernel
theorem dX10_dig_45 : decode cX10_dig 45 = .ok (.iadd, 1) := by decide +kernel
theorem dX10_dig_46 : decode cX10_dig 46 = .ok (.iload_n 2, 1) := by decide +kernel
theorem dX10_dig_47 : decode cX10_dig 47 = .ok (.invokevirtual 233, 3) := by decide +kernel
theorem dX10_dig_50 : decode cX10_dig 50 = .ok (.ireturn, 1) := by decide +kernel
theorem dX10_mint_0 : decode cX10_mint 0 = .ok (.iload_n 1, 1) := by decide +kernel
theorem dX10_mint_1 : decode cX10_mint 1 = .ok (.i2l, 1) := by decide +kernel
theorem dX10_mint_2 : decode cX10_mint 2 = .ok (.lconst 1, 1) := by decide +kernel
theorem dX10_mint_3 : decode cX10_mint 3 = .ok (.ldc2_w 228, 3) := by decide +kernel
theorem dX10_mint_6 : decode cX10_mint 6 = .ok (.invokestatic 95, 3) := by decide +kernel
theorem dX10_mint_9 : decode cX10_mint 9 = .ok (.ifCond .eq 11, 3) := by decide +kernel
theorem dX10_mint_12 : decode cX10_mint 12 = .ok (.aload_n 0, 1) := by decide +kernel
theorem dX10_mint_13 : decode cX10_mint 13 = .ok (.iload_n 2, 1) := by decide +kernel
theorem dX10_mint_14 : decode cX10_mint 14 = .ok (.invokevirtual 216, 3) := by decide +kernel
theorem dX10_mint_17 : decode cX10_mint 17 = .ok (.ifCond .ne 5, 3) := by decide +kernel
theorem dX10_mint_20 : decode cX10_mint 20 = .ok (.iconst (-1), 1) := by decide +kernel
theorem dX10_mint_21 : decode cX10_mint 21 = .ok (.ireturn, 1) := by decide +kernel
theorem dX10_mint_22 : decode cX10_mint 22 = .ok (.aload_n 0, 1) := by decide +kernel
theorem dX10_mint_23 : decode cX10_mint 23 = .ok (.getfield 7, 3) := by decide +kernel
theorem dX10_mint_26 : decode cX10_mint 26 = .ok (.bipush 8, 2) := by decide +kernel
theorem dX10_mint_28 : decode cX10_mint 28 = .ok (.iaload, 1) := by decide +kernel
theorem dX10_mint_29 : decode cX10_mint 29 = .ok (.bipush 6, 2) := by decide +kernel
theorem dX10_mint_31 : decode cX10_mint 31 = .ok (.if_icmp .ne 6, 3) := by decide +kernel
theorem dX10_mint_34 : decode cX10_mint 34 = .ok (.bipush (-3), 2) := by decide +kernel
theorem dX10_mint_36 : decode cX10_mint 36 = .ok (.ireturn, 1) := by decide +kernel
theorem dX10_mint_37 : decode cX10_mint 37 = .ok (.aload_n 0, 1) := by decide +kernel
theorem dX10_mint_38 : decode cX10_mint 38 = .ok (.getfield 7, 3) := by decide +kernel
theorem dX10_mint_41 : decode cX10_mint 41 = .ok (.bipush 8, 2) := by decide +kernel
theorem dX10_mint_43 : decode cX10_mint 43 = .ok (.iaload, 1) := by decide +kernel
theorem dX10_mint_44 : decode cX10_mint 44 = .ok (.istore_n 3, 1) := by decide +kernel
theorem dX10_mint_45 : decode cX10_mint 45 = .ok (.aload_n 0, 1) := by decide +kernel
theorem dX10_mint_46 : decode cX10_mint 46 = .ok (.getfield 7, 3) := by decide +kernel
theorem dX10_mint_49 : decode cX10_mint 49 = .ok (.bipush 9, 2) := by decide +kernel
theorem dX10_mint_51 : decode cX10_mint 51 = .ok (.iload_n 3, 1) := by decide +kernel
theorem dX10_mint_52 : decode cX10_mint 52 = .ok (.iadd, 1) := by decide +kernel
theorem dX10_mint_53 : decode cX10_mint 53 = .ok (.iload_n 1, 1) := by decide +kernel
theorem dX10_mint_54 : decode cX10_mint 54 = .ok (.iastore, 1) := by decide +kernel
theorem dX10_mint_55 : decode cX10_mint 55 = .ok (.aload_n 0, 1) := by decide +kernel
theorem dX10_mint_56 : decode cX10_mint 56 = .ok (.getfield 7, 3) := by decide +kernel
theorem dX10_mint_59 : decode cX10_mint 59 = .ok (.bipush 15, 2) := by decide +kernel
theorem dX10_mint_61 : decode cX10_mint 61 = .ok (.iload_n 3, 1) := by decide +kernel
theorem dX10_mint_62 : decode cX10_mint 62 = .ok (.iadd, 1) := by decide +kernel
theorem dX10_mint_63 : decode cX10_mint 63 = .ok (.iconst 0, 1) := by decide +kernel
theorem dX10_mint_64 : decode cX10_mint 64 = .ok (.iastore, 1) := by decide +kernel
theorem dX10_mint_65 : decode cX10_mint 65 = .ok (.aload_n 0, 1) := by decide +kernel
theorem dX10_mint_66 : decode cX10_mint 66 = .ok (.getfield 7, 3) := by decide +kernel
theorem dX10_mint_69 : decode cX10_mint 69 = .ok (.bipush 21, 2) := by decide +kernel
theorem dX10_mint_71 : decode cX10_mint 71 = .ok (.iload_n 3, 1) := by decide +kernel
theorem dX10_mint_72 : decode cX10_mint 72 = .ok (.iadd, 1) := by decide +kernel
theorem dX10_mint_73 : decode cX10_mint 73 = .ok (.iload_n 2, 1) := by decide +kernel
theorem dX10_mint_74 : decode cX10_mint 74 = .ok (.iastore, 1) := by decide +kernel
theorem dX10_mint_75 : decode cX10_mint 75 = .ok (.aload_n 0, 1) := by decide +kernel
theorem dX10_mint_76 : decode cX10_mint 76 = .ok (.getfield 7, 3) := by decide +kernel
theorem dX10_mint_79 : decode cX10_mint 79 = .ok (.bipush 8, 2) := by decide +kernel
theorem dX10_mint_81 : decode cX10_mint 81 = .ok (.dup2, 1) := by decide +kernel
theorem dX10_mint_82 : decode cX10_mint 82 = .ok (.iaload, 1) := by decide +kernel
theorem dX10_mint_83 : decode cX10_mint 83 = .ok (.iconst 1, 1) := by decide +kernel
theorem dX10_mint_84 : decode cX10_mint 84 = .ok (.iadd, 1) := by decide +kernel
theorem dX10_mint_85 : decode cX10_mint 85 = .ok (.iastore, 1) := by decide +kernel
theorem dX10_mint_86 : decode cX10_mint 86 = .ok (.aload_n 0, 1) := by decide +kernel
theorem dX10_mint_87 : decode cX10_mint 87 = .ok (.getfield 7, 3) := by decide +kernel
theorem dX10_mint_90 : decode cX10_mint 90 = .ok (.bipush 8, 2) := by decide +kernel
theorem dX10_mint_92 : decode cX10_mint 92 = .ok (.iaload, 1) := by decide +kernel
theorem dX10_mint_93 : decode cX10_mint 93 = .ok (.ireturn, 1) := by decide +kernel
theorem dX10_lie_0 : decode cX10_lie 0 = .ok (.aload_n 0, 1) := by decide +kernel
theorem dX10_lie_1 : decode cX10_lie 1 = .ok (.iload_n 1, 1) := by decide +kernel
theorem dX10_lie_2 : decode cX10_lie 2 = .ok (.invokevirtual 219, 3) := by decide +kernel
theorem dX10_lie_5 : decode cX10_lie 5 = .ok (.ifCond .eq 23, 3) := by decide +kernel
theorem dX10_lie_8 : decode cX10_lie 8 = .ok (.aload_n 0, 1) := by decide +kernel
theorem dX10_lie_9 : decode cX10_lie 9 = .ok (.iload_n 2, 1) := by decide +kernel
theorem dX10_lie_10 : decode cX10_lie 10 = .ok (.invokevirtual 216, 3) := by decide +kernel
theorem dX10_lie_13 : decode cX10_lie 13 = .ok (.ifCond .eq 15, 3) := by decide +kernel
theorem dX10_lie_16 : decode cX10_lie 16 = .ok (.aload_n 0, 1) := by decide +kernel
theorem dX10_lie_17 : decode cX10_lie 17 = .ok (.bipush 21, 2) := by decide +kernel
theorem dX10_lie_19 : decode cX10_lie 19 = .ok (.iload_n 1, 1) := by decide +kernel
theorem dX10_lie_20 : decode cX10_lie 20 = .ok (.iadd, 1) := by decide +kernel
theorem dX10_lie_21 : decode cX10_lie 21 = .ok (.iload_n 2, 1) := by decide +kernel
theorem dX10_lie_22 : decode cX10_lie 22 = .ok (.invokevirtual 233, 3) := by decide +kernel
theorem dX10_lie_25 : decode cX10_lie 25 = .ok (.goto 4, 3) := by decide +kernel
theorem dX10_lie_28 : decode cX10_lie 28 = .ok (.iconst (-1), 1) := by decide +kernel
theorem dX10_lie_29 : decode cX10_lie 29 = .ok (.ireturn, 1) := by decide +kernel
theorem dX10_fake_0 : decode cX10_fake 0 = .ok (.aload_n 0, 1) := by decide +kernel
theorem dX10_fake_1 : decode cX10_fake 1 = .ok (.iload_n 1, 1) := by decide +kernel
theorem dX10_fake_2 : decode cX10_fake 2 = .ok (.invokevirtual 219, 3) := by decide +kernel
theorem dX10_fake_5 : decode cX10_fake 5 = .ok (.ifCond .eq 18, 3) := by decide +kernel
theorem dX10_fake_8 : decode cX10_fake 8 = .ok (.aload_n 0, 1) := by decide +kernel
theorem dX10_fake_9 : decode cX10_fake 9 = .ok (.bipush 15, 2) := by decide +kernel
theorem dX10_fake_11 : decode cX10_fake 11 = .ok (.iload_n 1, 1) := by decide +kernel
theorem dX10_fake_12 : decode cX10_fake 12 = .ok (.iadd, 1) := by decide +kernel
theorem dX10_fake_13 : decode cX10_fake 13 = .ok (.iload_n 2, 1) := by decide +kernel
theorem dX10_fake_14 : decode cX10_fake 14 = .ok (.invokestatic 158, 3) := by decide +kernel
theorem dX10_fake_17 : decode cX10_fake 17 = .ok (.invokevirtual 233, 3) := by decide +kernel
theorem dX10_fake_20 : decode cX10_fake 20 = .ok (.goto 4, 3) := by decide +kernel
theorem dX10_fake_23 : decode cX10_fake 23 = .ok (.iconst (-1), 1) := by decide +kernel
theorem dX10_fake_24 : decode cX10_fake 24 = .ok (.ireturn, 1) := by decide +kernel
theorem dX10_set_0 : decode cX10_set 0 = .ok (.aload_n 0, 1) := by decide +kernel
theorem dX10_set_1 : decode cX10_set 1 = .ok (.iload_n 1, 1) := by decide +kernel
theorem dX10_set_2 : decode cX10_set 2 = .ok (.invokevirtual 225, 3) := by decide +kernel
theorem dX10_set_5 : decode cX10_set 5 = .ok (.ifCond .eq 23, 3) := by decide +kernel
theorem dX10_set_8 : decode cX10_set 8 = .ok (.aload_n 0, 1) := by decide +kernel
theorem dX10_set_9 : decode cX10_set 9 = .ok (.iload_n 2, 1) := by decide +kernel
theorem dX10_set_10 : decode cX10_set 10 = .ok (.invokevirtual 216, 3) := by decide +kernel
theorem dX10_set_13 : decode cX10_set 13 = .ok (.ifCond .eq 15, 3) := by decide +kernel
theorem dX10_set_16 : decode cX10_set 16 = .ok (.aload_n 0, 1) := by decide +kernel
theorem dX10_set_17 : decode cX10_set 17 = .ok (.bipush 39, 2) := by decide +kernel
theorem dX10_set_19 : decode cX10_set 19 = .ok (.iload_n 1, 1) := by decide +kernel
theorem dX10_set_20 : decode cX10_set 20 = .ok (.iadd, 1) := by decide +kernel
theorem dX10_set_21 : decode cX10_set 21 = .ok (.iload_n 2, 1) := by decide +kernel
theorem dX10_set_22 : decode cX10_set 22 = .ok (.invokevirtual 233, 3) := by decide +kernel
theorem dX10_set_25 : decode cX10_set 25 = .ok (.goto 4, 3) := by decide +kernel
theorem dX10_set_28 : decode cX10_set 28 = .ok (.iconst (-1), 1) := by decide +kernel
theorem dX10_set_29 : decode cX10_set 29 = .ok (.ireturn, 1) := by decide +kernel
theorem dX10_hand_0 : decode cX10_hand 0 = .ok (.aload_n 0, 1) := by decide +kernel
theorem dX10_hand_1 : decode cX10_hand 1 = .ok (.iload_n 1, 1) := by decide +kernel
theorem dX10_hand_2 : decode cX10_hand 2 = .ok (.invokevirtual 225, 3) := by decide +kernel
theorem dX10_hand_5 : decode cX10_hand 5 = .ok (.ifCond .eq 25, 3) := by decide +kernel
theorem dX10_hand_8 : decode cX10_hand 8 = .ok (.iload_n 2, 1) := by decide +kernel
theorem dX10_hand_9 : decode cX10_hand 9 = .ok (.i2l, 1) := by decide +kernel
theorem dX10_hand_10 : decode cX10_hand 10 = .ok (.lconst 0, 1) := by decide +kernel
theorem dX10_hand_11 : decode cX10_hand 11 = .ok (.lconst 1, 1) := by decide +kernel
theorem dX10_hand_12 : decode cX10_hand 12 = .ok (.invokestatic 95, 3) := by decide +kernel
theorem dX10_hand_15 : decode cX10_hand 15 = .ok (.ifCond .eq 15, 3) := by decide +kernel
theorem dX10_hand_18 : decode cX10_hand 18 = .ok (.aload_n 0, 1) := by decide +kernel
theorem dX10_hand_19 : decode cX10_hand 19 = .ok (.bipush 35, 2) := by decide +kernel
theorem dX10_hand_21 : decode cX10_hand 21 = .ok (.iload_n 1, 1) := by decide +kernel
theorem dX10_hand_22 : decode cX10_hand 22 = .ok (.iadd, 1) := by decide +kernel
theorem dX10_hand_23 : decode cX10_hand 23 = .ok (.iload_n 2, 1) := by decide +kernel
theorem dX10_hand_24 : decode cX10_hand 24 = .ok (.invokevirtual 233, 3) := by decide +kernel
theorem dX10_hand_27 : decode cX10_hand 27 = .ok (.goto 4, 3) := by decide +kernel
theorem dX10_hand_30 : decode cX10_hand 30 = .ok (.iconst (-1), 1) := by decide +kernel
theorem dX10_hand_31 : decode cX10_hand 31 = .ok (.ireturn, 1) := by decide +kernel
theorem dX10_tide_0 : decode cX10_tide 0 = .ok (.iload_n 1, 1) := by decide +kernel
theorem dX10_tide_1 : decode cX10_tide 1 = .ok (.i2l, 1) := by decide +kernel
theorem dX10_tide_2 : decode cX10_tide 2 = .ok (.lconst 0, 1) := by decide +kernel
theorem dX10_tide_3 : decode cX10_tide 3 = .ok (.ldc2_w 228, 3) := by decide +kernel
theorem dX10_tide_6 : decode cX10_tide 6 = .ok (.invokestatic 95, 3) := by decide +kernel
theorem dX10_tide_9 : decode cX10_tide 9 = .ok (.ifCond .eq 15, 3) := by decide +kernel
theorem dX10_tide_12 : decode cX10_tide 12 = .ok (.iload_n 2, 1) := by decide +kernel
theorem dX10_tide_13 : decode cX10_tide 13 = .ok (.i2l, 1) := by decide +kernel
theorem dX10_tide_14 : decode cX10_tide 14 = .ok (.lconst 0, 1) := by decide +kernel
theorem dX10_tide_15 : decode cX10_tide 15 = .ok (.ldc2_w 236, 3) := by decide +kernel
theorem dX10_tide_18 : decode cX10_tide 18 = .ok (.invokestatic 95, 3) := by decide +kernel
theorem dX10_tide_21 : decode cX10_tide 21 = .ok (.ifCond .ne 5, 3) := by decide +kernel
theorem dX10_tide_24 : decode cX10_tide 24 = .ok (.iconst (-1), 1) := by decide +kernel
theorem dX10_tide_25 : decode cX10_tide 25 = .ok (.ireturn, 1) := by decide +kernel
theorem dX10_tide_26 : decode cX10_tide 26 = .ok (.aload_n 0, 1) := by decide +kernel
theorem dX10_tide_27 : decode cX10_tide 27 = .ok (.getfield 7, 3) := by decide +kernel
theorem dX10_tide_30 : decode cX10_tide 30 = .ok (.bipush 44, 2) := by decide +kernel
theorem dX10_tide_32 : decode cX10_tide 32 = .ok (.iload_n 2, 1) := by decide +kernel
theorem dX10_tide_33 : decode cX10_tide 33 = .ok (.iastore, 1) := by decide +kernel
theorem dX10_tide_34 : decode cX10_tide 34 = .ok (.aload_n 0, 1) := by decide +kernel
theorem dX10_tide_35 : decode cX10_tide 35 = .ok (.bipush 43, 2) := by decide +kernel
theorem dX10_tide_37 : decode cX10_tide 37 = .ok (.iload_n 1, 1) := by decide +kernel
theorem dX10_tide_38 : decode cX10_tide 38 = .ok (.invokevirtual 233, 3) := by decide +kernel
theorem dX10_tide_41 : decode cX10_tide 41 = .ok (.ireturn, 1) := by decide +kernel
theorem dX10_go_0 : decode cX10_go 0 = .ok (.iload_n 1, 1) := by decide +kernel
theorem dX10_go_1 : decode cX10_go 1 = .ok (.i2l, 1) := by decide +kernel
theorem dX10_go_2 : decode cX10_go 2 = .ok (.lconst 0, 1) := by decide +kernel
theorem dX10_go_3 : decode cX10_go 3 = .ok (.ldc2_w 238, 3) := by decide +kernel
theorem dX10_go_6 : decode cX10_go 6 = .ok (.invokestatic 95, 3) := by decide +kernel
theorem dX10_go_9 : decode cX10_go 9 = .ok (.ifCond .ne 5, 3) := by decide +kernel
theorem dX10_go_12 : decode cX10_go 12 = .ok (.iconst (-1), 1) := by decide +kernel
theorem dX10_go_13 : decode cX10_go 13 = .ok (.ireturn, 1) := by decide +kernel
theorem dX10_go_14 : decode cX10_go 14 = .ok (.aload_n 0, 1) := by decide +kernel
theorem dX10_go_15 : decode cX10_go 15 = .ok (.getfield 7, 3) := by decide +kernel
theorem dX10_go_18 : decode cX10_go 18 = .ok (.bipush 45, 2) := by decide +kernel
theorem dX10_go_20 : decode cX10_go 20 = .ok (.iaload, 1) := by decide +kernel
theorem dX10_go_21 : decode cX10_go 21 = .ok (.iload_n 1, 1) := by decide +kernel
theorem dX10_go_22 : decode cX10_go 22 = .ok (.iadd, 1) := by decide +kernel
theorem dX10_go_23 : decode cX10_go 23 = .ok (.sipush 999, 3) := by decide +kernel
theorem dX10_go_26 : decode cX10_go 26 = .ok (.if_icmp .le 6, 3) := by decide +kernel
theorem dX10_go_29 : decode cX10_go 29 = .ok (.bipush (-3), 2) := by decide +kernel
theorem dX10_go_31 : decode cX10_go 31 = .ok (.ireturn, 1) := by decide +kernel
theorem dX10_go_32 : decode cX10_go 32 = .ok (.aload_n 0, 1) := by decide +kernel
theorem dX10_go_33 : decode cX10_go 33 = .ok (.invokevirtual 222, 3) := by decide +kernel
theorem dX10_go_36 : decode cX10_go 36 = .ok (.iconst 0, 1) := by decide +kernel
theorem dX10_go_37 : decode cX10_go 37 = .ok (.istore_n 2, 1) := by decide +kernel
theorem dX10_go_38 : decode cX10_go 38 = .ok (.iload_n 2, 1) := by decide +kernel
theorem dX10_go_39 : decode cX10_go 39 = .ok (.iload_n 1, 1) := by decide +kernel
theorem dX10_go_40 : decode cX10_go 40 = .ok (.if_icmp .ge 13, 3) := by decide +kernel
theorem dX10_go_43 : decode cX10_go 43 = .ok (.aload_n 0, 1) := by decide +kernel
theorem dX10_go_44 : decode cX10_go 44 = .ok (.invokevirtual 213, 3) := by decide +kernel
theorem dX10_go_47 : decode cX10_go 47 = .ok (.iinc 2 1, 3) := by decide +kernel
theorem dX10_go_50 : decode cX10_go 50 = .ok (.goto (-12), 3) := by decide +kernel
theorem dX10_go_53 : decode cX10_go 53 = .ok (.iconst 0, 1) := by decide +kernel
theorem dX10_go_54 : decode cX10_go 54 = .ok (.istore_n 2, 1) := by decide +kernel
theorem dX10_go_55 : decode cX10_go 55 = .ok (.iload_n 2, 1) := by decide +kernel
theorem dX10_go_56 : decode cX10_go 56 = .ok (.bipush 6, 2) := by decide +kernel
theorem dX10_go_58 : decode cX10_go 58 = .ok (.if_icmp .ge 24, 3) := by decide +kernel
theorem dX10_go_61 : decode cX10_go 61 = .ok (.aload_n 0, 1) := by decide +kernel
theorem dX10_go_62 : decode cX10_go 62 = .ok (.getfield 7, 3) := by decide +kernel
theorem dX10_go_65 : decode cX10_go 65 = .ok (.bipush 21, 2) := by decide +kernel
theorem dX10_go_67 : decode cX10_go 67 = .ok (.iload_n 2, 1) := by decide +kernel
theorem dX10_go_68 : decode cX10_go 68 = .ok (.iadd, 1) := by decide +kernel
theorem dX10_go_69 : decode cX10_go 69 = .ok (.aload_n 0, 1) := by decide +kernel
theorem dX10_go_70 : decode cX10_go 70 = .ok (.getfield 29, 3) := by decide +kernel
theorem dX10_go_73 : decode cX10_go 73 = .ok (.iload_n 2, 1) := by decide +kernel
theorem dX10_go_74 : decode cX10_go 74 = .ok (.iaload, 1) := by decide +kernel
theorem dX10_go_75 : decode cX10_go 75 = .ok (.iastore, 1) := by decide +kernel
theorem dX10_go_76 : decode cX10_go 76 = .ok (.iinc 2 1, 3) := by decide +kernel
theorem dX10_go_79 : decode cX10_go 79 = .ok (.goto (-24), 3) := by decide +kernel
theorem dX10_go_82 : decode cX10_go 82 = .ok (.iconst 0, 1) := by decide +kernel
theorem dX10_go_83 : decode cX10_go 83 = .ok (.istore_n 2, 1) := by decide +kernel
theorem dX10_go_84 : decode cX10_go 84 = .ok (.iload_n 2, 1) := by decide +kernel
theorem dX10_go_85 : decode cX10_go 85 = .ok (.iconst 4, 1) := by decide +kernel
theorem dX10_go_86 : decode cX10_go 86 = .ok (.if_icmp .ge 24, 3) := by decide +kernel
theorem dX10_go_89 : decode cX10_go 89 = .ok (.aload_n 0, 1) := by decide +kernel
theorem dX10_go_90 : decode cX10_go 90 = .ok (.getfield 7, 3) := by decide +kernel
theorem dX10_go_93 : decode cX10_go 93 = .ok (.bipush 39, 2) := by decide +kernel
theorem dX10_go_95 : decode cX10_go 95 = .ok (.iload_n 2, 1) := by decide +kernel
theorem dX10_go_96 : decode cX10_go 96 = .ok (.iadd, 1) := by decide +kernel
theorem dX10_go_97 : decode cX10_go 97 = .ok (.aload_n 0, 1) := by decide +kernel
theorem dX10_go_98 : decode cX10_go 98 = .ok (.getfield 41, 3) := by decide +kernel
theorem dX10_go_101 : decode cX10_go 101 = .ok (.iload_n 2, 1) := by decide +kernel
theorem dX10_go_102 : decode cX10_go 102 = .ok (.iaload, 1) := by decide +kernel
theorem dX10_go_103 : decode cX10_go 103 = .ok (.iastore, 1) := by decide +kernel
theorem dX10_go_104 : decode cX10_go 104 = .ok (.iinc 2 1, 3) := by decide +kernel
theorem dX10_go_107 : decode cX10_go 107 = .ok (.goto (-23), 3) := by decide +kernel
theorem dX10_go_110 : decode cX10_go 110 = .ok (.aload_n 0, 1) := by decide +kernel
theorem dX10_go_111 : decode cX10_go 111 = .ok (.getfield 7, 3) := by decide +kernel
theorem dX10_go_114 : decode cX10_go 114 = .ok (.bipush 45, 2) := by decide +kernel
theorem dX10_go_116 : decode cX10_go 116 = .ok (.aload_n 0, 1) := by decide +kernel
theorem dX10_go_117 : decode cX10_go 117 = .ok (.getfield 184, 3) := by decide +kernel
theorem dX10_go_120 : decode cX10_go 120 = .ok (.iastore, 1) := by decide +kernel
theorem dX10_go_121 : decode cX10_go 121 = .ok (.aload_n 0, 1) := by decide +kernel
theorem dX10_go_122 : decode cX10_go 122 = .ok (.invokevirtual 210, 3) := by decide +kernel
theorem dX10_go_125 : decode cX10_go 125 = .ok (.ireturn, 1) := by decide +kernel
theorem dX10_ahead_0 : decode cX10_ahead 0 = .ok (.aload_n 0, 1) := by decide +kernel
theorem dX10_ahead_1 : decode cX10_ahead 1 = .ok (.iload_n 1, 1) := by decide +kernel
theorem dX10_ahead_2 : decode cX10_ahead 2 = .ok (.invokevirtual 219, 3) := by decide +kernel
theorem dX10_ahead_5 : decode cX10_ahead 5 = .ok (.ifCond .eq 15, 3) := by decide +kernel
theorem dX10_ahead_8 : decode cX10_ahead 8 = .ok (.iload_n 2, 1) := by decide +kernel
theorem dX10_ahead_9 : decode cX10_ahead 9 = .ok (.i2l, 1) := by decide +kernel
theorem dX10_ahead_10 : decode cX10_ahead 10 = .ok (.lconst 0, 1) := by decide +kernel
theorem dX10_ahead_11 : decode cX10_ahead 11 = .ok (.ldc2_w 238, 3) := by decide +kernel
theorem dX10_ahead_14 : decode cX10_ahead 14 = .ok (.invokestatic 95, 3) := by decide +kernel
theorem dX10_ahead_17 : decode cX10_ahead 17 = .ok (.ifCond .ne 5, 3) := by decide +kernel
theorem dX10_ahead_20 : decode cX10_ahead 20 = .ok (.iconst (-1), 1) := by decide +kernel
theorem dX10_ahead_21 : decode cX10_ahead 21 = .ok (.ireturn, 1) := by decide +kernel
theorem dX10_ahead_22 : decode cX10_ahead 22 = .ok (.aload_n 0, 1) := by decide +kernel
theorem dX10_ahead_23 : decode cX10_ahead 23 = .ok (.invokevirtual 222, 3) := by decide +kernel
theorem dX10_ahead_26 : decode cX10_ahead 26 = .ok (.iconst 0, 1) := by decide +kernel
theorem dX10_ahead_27 : decode cX10_ahead 27 = .ok (.istore_n 3, 1) := by decide +kernel
theorem dX10_ahead_28 : decode cX10_ahead 28 = .ok (.iload_n 3, 1) := by decide +kernel
theorem dX10_ahead_29 : decode cX10_ahead 29 = .ok (.iload_n 2, 1) := by decide +kernel
theorem dX10_ahead_30 : decode cX10_ahead 30 = .ok (.if_icmp .ge 13, 3) := by decide +kernel
theorem dX10_ahead_33 : decode cX10_ahead 33 = .ok (.aload_n 0, 1) := by decide +kernel
theorem dX10_ahead_34 : decode cX10_ahead 34 = .ok (.invokevirtual 213, 3) := by decide +kernel
theorem dX10_ahead_37 : decode cX10_ahead 37 = .ok (.iinc 3 1, 3) := by decide +kernel
theorem dX10_ahead_40 : decode cX10_ahead 40 = .ok (.goto (-12), 3) := by decide +kernel
theorem dX10_ahead_43 : decode cX10_ahead 43 = .ok (.aload_n 0, 1) := by decide +kernel
theorem dX10_ahead_44 : decode cX10_ahead 44 = .ok (.getfield 29, 3) := by decide +kernel
theorem dX10_ahead_47 : decode cX10_ahead 47 = .ok (.iload_n 1, 1) := by decide +kernel
theorem dX10_ahead_48 : decode cX10_ahead 48 = .ok (.iaload, 1) := by decide +kernel
theorem dX10_ahead_49 : decode cX10_ahead 49 = .ok (.ireturn, 1) := by decide +kernel
theorem dX10_grow_0 : decode cX10_grow 0 = .ok (.aload_n 0, 1) := by decide +kernel
theorem dX10_grow_1 : decode cX10_grow 1 = .ok (.getfield 87, 3) := by decide +kernel
theorem dX10_grow_4 : decode cX10_grow 4 = .ok (.ifCond .ne 6, 3) := by decide +kernel
theorem dX10_grow_7 : decode cX10_grow 7 = .ok (.bipush (-2), 2) := by decide +kernel
theorem dX10_grow_9 : decode cX10_grow 9 = .ok (.ireturn, 1) := by decide +kernel
theorem dX10_grow_10 : decode cX10_grow 10 = .ok (.iconst 0, 1) := by decide +kernel
theorem dX10_grow_11 : decode cX10_grow 11 = .ok (.istore_n 1, 1) := by decide +kernel
theorem dX10_grow_12 : decode cX10_grow 12 = .ok (.iconst 0, 1) := by decide +kernel
theorem dX10_grow_13 : decode cX10_grow 13 = .ok (.istore_n 2, 1) := by decide +kernel
theorem dX10_grow_14 : decode cX10_grow 14 = .ok (.iload_n 2, 1) := by decide +kernel
theorem dX10_grow_15 : decode cX10_grow 15 = .ok (.aload_n 0, 1) := by decide +kernel
theorem dX10_grow_16 : decode cX10_grow 16 = .ok (.getfield 87, 3) := by decide +kernel
theorem dX10_grow_19 : decode cX10_grow 19 = .ok (.if_icmp .ge 104, 3) := by decide +kernel
theorem dX10_grow_22 : decode cX10_grow 22 = .ok (.aload_n 0, 1) := by decide +kernel
theorem dX10_grow_23 : decode cX10_grow 23 = .ok (.getfield 7, 3) := by decide +kernel
theorem dX10_grow_26 : decode cX10_grow 26 = .ok (.bipush 27, 2) := by decide +kernel
theorem dX10_grow_28 : decode cX10_grow 28 = .ok (.iload_n 2, 1) := by decide +kernel
theorem dX10_grow_29 : decode cX10_grow 29 = .ok (.iadd, 1) := by decide +kernel
theorem dX10_grow_30 : decode cX10_grow 30 = .ok (.dup2, 1) := by decide +kernel
theorem dX10_grow_31 : decode cX10_grow 31 = .ok (.iaload, 1) := by decide +kernel
theorem dX10_grow_32 : decode cX10_grow 32 = .ok (.aload_n 0, 1) := by decide +kernel
theorem dX10_grow_33 : decode cX10_grow 33 = .ok (.getfield 7, 3) := by decide +kernel
theorem dX10_grow_36 : decode cX10_grow 36 = .ok (.bipush 27, 2) := by decide +kernel
theorem dX10_grow_38 : decode cX10_grow 38 = .ok (.iload_n 2, 1) := by decide +kernel
theorem dX10_grow_39 : decode cX10_grow 39 = .ok (.iadd, 1) := by decide +kernel
theorem dX10_grow_40 : decode cX10_grow 40 = .ok (.iaload, 1) := by decide +kernel
theorem dX10_grow_41 : decode cX10_grow 41 = .ok (.bipush 9, 2) := by decide +kernel
theorem dX10_grow_43 : decode cX10_grow 43 = .ok (.if_icmp .ge 7, 3) := by decide +kernel
theorem dX10_grow_46 : decode cX10_grow 46 = .ok (.iconst 1, 1) := by decide +kernel
theorem dX10_grow_47 : decode cX10_grow 47 = .ok (.goto 4, 3) := by decide +kernel
theorem dX10_grow_50 : decode cX10_grow 50 = .ok (.iconst 0, 1) := by decide +kernel
theorem dX10_grow_51 : decode cX10_grow 51 = .ok (.invokestatic 158, 3) := by decide +kernel
theorem dX10_grow_54 : decode cX10_grow 54 = .ok (.iadd, 1) := by decide +kernel
theorem dX10_grow_55 : decode cX10_grow 55 = .ok (.iastore, 1) := by decide +kernel
theorem dX10_grow_56 : decode cX10_grow 56 = .ok (.aload_n 0, 1) := by decide +kernel
theorem dX10_grow_57 : decode cX10_grow 57 = .ok (.getfield 7, 3) := by decide +kernel
theorem dX10_grow_60 : decode cX10_grow 60 = .ok (.bipush 31, 2) := by decide +kernel
theorem dX10_grow_62 : decode cX10_grow 62 = .ok (.iload_n 2, 1) := by decide +kernel
theorem dX10_grow_63 : decode cX10_grow 63 = .ok (.iadd, 1) := by decide +kernel
theorem dX10_grow_64 : decode cX10_grow 64 = .ok (.dup2, 1) := by decide +kernel
theorem dX10_grow_65 : decode cX10_grow 65 = .ok (.iaload, 1) := by decide +kernel
theorem dX10_grow_66 : decode cX10_grow 66 = .ok (.aload_n 0, 1) := by decide +kernel
theorem dX10_grow_67 : decode cX10_grow 67 = .ok (.getfield 7, 3) := by decide +kernel
theorem dX10_grow_70 : decode cX10_grow 70 = .ok (.bipush 31, 2) := by decide +kernel
theorem dX10_grow_72 : decode cX10_grow 72 = .ok (.iload_n 2, 1) := by decide +kernel
theorem dX10_grow_73 : decode cX10_grow 73 = .ok (.iadd, 1) := by decide +kernel
theorem dX10_grow_74 : decode cX10_grow 74 = .ok (.iaload, 1) := by decide +kernel
theorem dX10_grow_75 : decode cX10_grow 75 = .ok (.bipush 9, 2) := by decide +kernel
theorem dX10_grow_77 : decode cX10_grow 77 = .ok (.if_icmp .ge 7, 3) := by decide +kernel
theorem dX10_grow_80 : decode cX10_grow 80 = .ok (.iconst 1, 1) := by decide +kernel
theorem dX10_grow_81 : decode cX10_grow 81 = .ok (.goto 4, 3) := by decide +kernel
theorem dX10_grow_84 : decode cX10_grow 84 = .ok (.iconst 0, 1) := by decide +kernel
theorem dX10_grow_85 : decode cX10_grow 85 = .ok (.invokestatic 158, 3) := by decide +kernel
theorem dX10_grow_88 : decode cX10_grow 88 = .ok (.iadd, 1) := by decide +kernel
theorem dX10_grow_89 : decode cX10_grow 89 = .ok (.iastore, 1) := by decide +kernel
theorem dX10_grow_90 : decode cX10_grow 90 = .ok (.aload_n 0, 1) := by decide +kernel
theorem dX10_grow_91 : decode cX10_grow 91 = .ok (.getfield 7, 3) := by decide +kernel
theorem dX10_grow_94 : decode cX10_grow 94 = .ok (.bipush 27, 2) := by decide +kernel
theorem dX10_grow_96 : decode cX10_grow 96 = .ok (.iload_n 2, 1) := by decide +kernel
theorem dX10_grow_97 : decode cX10_grow 97 = .ok (.iadd, 1) := by decide +kernel
theorem dX10_grow_98 : decode cX10_grow 98 = .ok (.iaload, 1) := by decide +kernel
theorem dX10_grow_99 : decode cX10_grow 99 = .ok (.iload_n 1, 1) := by decide +kernel
theorem dX10_grow_100 : decode cX10_grow 100 = .ok (.if_icmp .le 15, 3) := by decide +kernel
theorem dX10_grow_103 : decode cX10_grow 103 = .ok (.aload_n 0, 1) := by decide +kernel
theorem dX10_grow_104 : decode cX10_grow 104 = .ok (.getfield 7, 3) := by decide +kernel
theorem dX10_grow_107 : decode cX10_grow 107 = .ok (.bipush 27, 2) := by decide +kernel
theorem dX10_grow_109 : decode cX10_grow 109 = .ok (.iload_n 2, 1) := by decide +kernel
theorem dX10_grow_110 : decode cX10_grow 110 = .ok (.iadd, 1) := by decide +kernel
theorem dX10_grow_111 : decode cX10_grow 111 = .ok (.iaload, 1) := by decide +kernel
theorem dX10_grow_112 : decode cX10_grow 112 = .ok (.goto 4, 3) := by decide +kernel
theorem dX10_grow_115 : decode cX10_grow 115 = .ok (.iload_n 1, 1) := by decide +kernel
theorem dX10_grow_116 : decode cX10_grow 116 = .ok (.istore_n 1, 1) := by decide +kernel
theorem dX10_grow_117 : decode cX10_grow 117 = .ok (.iinc 2 1, 3) := by decide +kernel
theorem dX10_grow_120 : decode cX10_grow 120 = .ok (.goto (-106), 3) := by decide +kernel
theorem dX10_grow_123 : decode cX10_grow 123 = .ok (.iload_n 1, 1) := by decide +kernel
theorem dX10_grow_124 : decode cX10_grow 124 = .ok (.ireturn, 1) := by decide +kernel
theorem dX10_sorted_0 : decode cX10_sorted 0 = .ok (.aload_n 0, 1) := by decide +kernel
theorem dX10_sorted_1 : decode cX10_sorted 1 = .ok (.invokevirtual 222, 3) := by decide +kernel
theorem dX10_sorted_4 : decode cX10_sorted 4 = .ok (.aload_n 0, 1) := by decide +kernel
theorem dX10_sorted_5 : decode cX10_sorted 5 = .ok (.invokevirtual 240, 3) := by decide +kernel
theorem dX10_sorted_8 : decode cX10_sorted 8 = .ok (.ireturn, 1) := by decide +kernel
theorem dX10_nextOrder_0 : decode cX10_nextOrder 0 = .ok (.aload_n 0, 1) := by decide +kernel
theorem dX10_nextOrder_1 : decode cX10_nextOrder 1 = .ok (.getfield 87, 3) := by decide +kernel
theorem dX10_nextOrder_4 : decode cX10_nextOrder 4 = .ok (.iconst 2, 1) := by decide +kernel
theorem dX10_nextOrder_5 : decode cX10_nextOrder 5 = .ok (.isub, 1) := by decide +kernel
theorem dX10_nextOrder_6 : decode cX10_nextOrder 6 = .ok (.istore_n 1, 1) := by decide +kernel
theorem dX10_nextOrder_7 : decode cX10_nextOrder 7 = .ok (.iload_n 1, 1) := by decide +kernel
theorem dX10_nextOrder_8 : decode cX10_nextOrder 8 = .ok (.ifCond .lt 26, 3) := by decide +kernel
theorem dX10_nextOrder_11 : decode cX10_nextOrder 11 = .ok (.aload_n 0, 1) := by decide +kernel
theorem dX10_nextOrder_12 : decode cX10_nextOrder 12 = .ok (.getfield 50, 3) := by decide +kernel
theorem dX10_nextOrder_15 : decode cX10_nextOrder 15 = .ok (.iload_n 1, 1) := by decide +kernel
theorem dX10_nextOrder_16 : decode cX10_nextOrder 16 = .ok (.iaload, 1) := by decide +kernel
theorem dX10_nextOrder_17 : decode cX10_nextOrder 17 = .ok (.aload_n 0, 1) := by decide +kernel
theorem dX10_nextOrder_18 : decode cX10_nextOrder 18 = .ok (.getfield 50, 3) := by decide +kernel
theorem dX10_nextOrder_21 : decode cX10_nextOrder 21 = .ok (.iload_n 1, 1) := by decide +kernel
theorem dX10_nextOrder_22 : decode cX10_nextOrder 22 = .ok (.iconst 1, 1) := by decide +kernel
theorem dX10_nextOrder_23 : decode cX10_nextOrder 23 = .ok (.iadd, 1) := by decide +kernel
theorem dX10_nextOrder_24 : decode cX10_nextOrder 24 = .ok (.iaload, 1) := by decide +kernel
theorem dX10_nextOrder_25 : decode cX10_nextOrder 25 = .ok (.if_icmp .le 9, 3) := by decide +kernel
theorem dX10_nextOrder_28 : decode cX10_nextOrder 28 = .ok (.iinc 1 (-1), 3) := by decide +kernel
theorem dX10_nextOrder_31 : decode cX10_nextOrder 31 = .ok (.goto (-24), 3) := by decide +kernel
theorem dX10_nextOrder_34 : decode cX10_nextOrder 34 = .ok (.iload_n 1, 1) := by decide +kernel
theorem dX10_nextOrder_35 : decode cX10_nextOrder 35 = .ok (.ifCond .ge 5, 3) := by decide +kernel
theorem dX10_nextOrder_38 : decode cX10_nextOrder 38 = .ok (.iconst 0, 1) := by decide +kernel
theorem dX10_nextOrder_39 : decode cX10_nextOrder 39 = .ok (.ireturn, 1) := by decide +kernel
theorem dX10_nextOrder_40 : decode cX10_nextOrder 40 = .ok (.aload_n 0, 1) := by decide +kernel
theorem dX10_nextOrder_41 : decode cX10_nextOrder 41 = .ok (.getfield 87, 3) := by decide +kernel
theorem dX10_nextOrder_44 : decode cX10_nextOrder 44 = .ok (.iconst 1, 1) := by decide +kernel
theorem dX10_nextOrder_45 : decode cX10_nextOrder 45 = .ok (.isub, 1) := by decide +kernel
theorem dX10_nextOrder_46 : decode cX10_nextOrder 46 = .ok (.istore_n 2, 1) := by decide +kernel
theorem dX10_nextOrder_47 : decode cX10_nextOrder 47 = .ok (.aload_n 0, 1) := by decide +kernel
theorem dX10_nextOrder_48 : decode cX10_nextOrder 48 = .ok (.getfield 50, 3) := by decide +kernel
theorem dX10_nextOrder_51 : decode cX10_nextOrder 51 = .ok (.iload_n 2, 1) := by decide +kernel
theorem dX10_nextOrder_52 : decode cX10_nextOrder 52 = .ok (.iaload, 1) := by decide +kernel
theorem dX10_nextOrder_53 : decode cX10_nextOrder 53 = .ok (.aload_n 0, 1) := by decide +kernel
theorem dX10_nextOrder_54 : decode cX10_nextOrder 54 = .ok (.getfield 50, 3) := by decide +kernel
theorem dX10_nextOrder_57 : decode cX10_nextOrder 57 = .ok (.iload_n 1, 1) := by decide +kernel
theorem dX10_nextOrder_58 : decode cX10_nextOrder 58 = .ok (.iaload, 1) := by decide +kernel
theorem dX10_nextOrder_59 : decode cX10_nextOrder 59 = .ok (.if_icmp .ge 9, 3) := by decide +kernel
theorem dX10_nextOrder_62 : decode cX10_nextOrder 62 = .ok (.iinc 2 (-1), 3) := by decide +kernel
theorem dX10_nextOrder_65 : decode cX10_nextOrder 65 = .ok (.goto (-18), 3) := by decide +kernel
theorem dX10_nextOrder_68 : decode cX10_nextOrder 68 = .ok (.aload_n 0, 1) := by decide +kernel
theorem dX10_nextOrder_69 : decode cX10_nextOrder 69 = .ok (.getfield 50, 3) := by decide +kernel
theorem dX10_nextOrder_72 : decode cX10_nextOrder 72 = .ok (.iload_n 1, 1) := by decide +kernel
theorem dX10_nextOrder_73 : decode cX10_nextOrder 73 = .ok (.iaload, 1) := by decide +kernel
theorem dX10_nextOrder_74 : decode cX10_nextOrder 74 = .ok (.istore_n 3, 1) := by decide +kernel
theorem dX10_nextOrder_75 : decode cX10_nextOrder 75 = .ok (.aload_n 0, 1) := by decide +kernel
theorem dX10_nextOrder_76 : decode cX10_nextOrder 76 = .ok (.getfield 50, 3) := by decide +kernel
theorem dX10_nextOrder_79 : decode cX10_nextOrder 79 = .ok (.iload_n 1, 1) := by decide +kernel
theorem dX10_nextOrder_80 : decode cX10_nextOrder 80 = .ok (.aload_n 0, 1) := by decide +kernel
theorem dX10_nextOrder_81 : decode cX10_nextOrder 81 = .ok (.getfield 50, 3) := by decide +kernel
theorem dX10_nextOrder_84 : decode cX10_nextOrder 84 = .ok (.iload_n 2, 1) := by decide +kernel
theorem dX10_nextOrder_85 : decode cX10_nextOrder 85 = .ok (.iaload, 1) := by decide +kernel
theorem dX10_nextOrder_86 : decode cX10_nextOrder 86 = .ok (.iastore, 1) := by decide +kernel
theorem dX10_nextOrder_87 : decode cX10_nextOrder 87 = .ok (.aload_n 0, 1) := by decide +kernel
theorem dX10_nextOrder_88 : decode cX10_nextOrder 88 = .ok (.getfield 50, 3) := by decide +kernel
theorem dX10_nextOrder_91 : decode cX10_nextOrder 91 = .ok (.iload_n 2, 1) := by decide +kernel
theorem dX10_nextOrder_92 : decode cX10_nextOrder 92 = .ok (.iload_n 3, 1) := by decide +kernel
theorem dX10_nextOrder_93 : decode cX10_nextOrder 93 = .ok (.iastore, 1) := by decide +kernel
theorem dX10_nextOrder_94 : decode cX10_nextOrder 94 = .ok (.iload_n 1, 1) := by decide +kernel
theorem dX10_nextOrder_95 : decode cX10_nextOrder 95 = .ok (.iconst 1, 1) := by decide +kernel
theorem dX10_nextOrder_96 : decode cX10_nextOrder 96 = .ok (.iadd, 1) := by decide +kernel
theorem dX10_nextOrder_97 : decode cX10_nextOrder 97 = .ok (.istore 4, 2) := by decide +kernel
theorem dX10_nextOrder_99 : decode cX10_nextOrder 99 = .ok (.iload 4, 2) := by decide +kernel
theorem dX10_nextOrder_101 : decode cX10_nextOrder 101 = .ok (.aload_n 0, 1) := by decide +kernel
theorem dX10_nextOrder_102 : decode cX10_nextOrder 102 = .ok (.getfield 87, 3) := by decide +kernel
theorem dX10_nextOrder_105 : decode cX10_nextOrder 105 = .ok (.iload_n 1, 1) := by decide +kernel
theorem dX10_nextOrder_106 : decode cX10_nextOrder 106 = .ok (.iadd, 1) := by decide +kernel
theorem dX10_nextOrder_107 : decode cX10_nextOrder 107 = .ok (.iload 4, 2) := by decide +kernel
theorem dX10_nextOrder_109 : decode cX10_nextOrder 109 = .ok (.isub, 1) := by decide +kernel
theorem dX10_nextOrder_110 : decode cX10_nextOrder 110 = .ok (.if_icmp .ge 50, 3) := by decide +kernel
theorem dX10_nextOrder_113 : decode cX10_nextOrder 113 = .ok (.aload_n 0, 1) := by decide +kernel
theorem dX10_nextOrder_114 : decode cX10_nextOrder 114 = .ok (.getfield 87, 3) := by decide +kernel
theorem dX10_nextOrder_117 : decode cX10_nextOrder 117 = .ok (.iload_n 1, 1) := by decide +kernel
theorem dX10_nextOrder_118 : decode cX10_nextOrder 118 = .ok (.iadd, 1) := by decide +kernel
theorem dX10_nextOrder_119 : decode cX10_nextOrder 119 = .ok (.iload 4, 2) := by decide +kernel
theorem dX10_nextOrder_121 : decode cX10_nextOrder 121 = .ok (.isub, 1) := by decide +kernel
theorem dX10_nextOrder_122 : decode cX10_nextOrder 122 = .ok (.istore 5, 2) := by decide +kernel
theorem dX10_nextOrder_124 : decode cX10_nextOrder 124 = .ok (.aload_n 0, 1) := by decide +kernel
theorem dX10_nextOrder_125 : decode cX10_nextOrder 125 = .ok (.getfield 50, 3) := by decide +kernel
theorem dX10_nextOrder_128 : decode cX10_nextOrder 128 = .ok (.iload 4, 2) := by decide +kernel
theorem dX10_nextOrder_130 : decode cX10_nextOrder 130 = .ok (.iaload, 1) := by decide +kernel
theorem dX10_nextOrder_131 : decode cX10_nextOrder 131 = .ok (.istore_n 3, 1) := by decide +kernel
theorem dX10_nextOrder_132 : decode cX10_nextOrder 132 = .ok (.aload_n 0, 1) := by decide +kernel
theorem dX10_nextOrder_133 : decode cX10_nextOrder 133 = .ok (.getfield 50, 3) := by decide +kernel
theorem dX10_nextOrder_136 : decode cX10_nextOrder 136 = .ok (.iload 4, 2) := by decide +kernel
theorem dX10_nextOrder_138 : decode cX10_nextOrder 138 = .ok (.aload_n 0, 1) := by decide +kernel
theorem dX10_nextOrder_139 : decode cX10_nextOrder 139 = .ok (.getfield 50, 3) := by decide +kernel
theorem dX10_nextOrder_142 : decode cX10_nextOrder 142 = .ok (.iload 5, 2) := by decide +kernel
theorem dX10_nextOrder_144 : decode cX10_nextOrder 144 = .ok (.iaload, 1) := by decide +kernel
theorem dX10_nextOrder_145 : decode cX10_nextOrder 145 = .ok (.iastore, 1) := by decide +kernel
theorem dX10_nextOrder_146 : decode cX10_nextOrder 146 = .ok (.aload_n 0, 1) := by decide +kernel
theorem dX10_nextOrder_147 : decode cX10_nextOrder 147 = .ok (.getfield 50, 3) := by decide +kernel
theorem dX10_nextOrder_150 : decode cX10_nextOrder 150 = .ok (.iload 5, 2) := by decide +kernel
theorem dX10_nextOrder_152 : decode cX10_nextOrder 152 = .ok (.iload_n 3, 1) := by decide +kernel
theorem dX10_nextOrder_153 : decode cX10_nextOrder 153 = .ok (.iastore, 1) := by decide +kernel
theorem dX10_nextOrder_154 : decode cX10_nextOrder 154 = .ok (.iinc 4 1, 3) := by decide +kernel
theorem dX10_nextOrder_157 : decode cX10_nextOrder 157 = .ok (.goto (-58), 3) := by decide +kernel
theorem dX10_nextOrder_160 : decode cX10_nextOrder 160 = .ok (.iconst 1, 1) := by decide +kernel
theorem dX10_nextOrder_161 : decode cX10_nextOrder 161 = .ok (.ireturn, 1) := by decide +kernel
theorem dX10_orders_0 : decode cX10_orders 0 = .ok (.iload_n 1, 1) := by decide +kernel
theorem dX10_orders_1 : decode cX10_orders 1 = .ok (.i2l, 1) := by decide +kernel
theorem dX10_orders_2 : decode cX10_orders 2 = .ok (.lconst 0, 1) := by decide +kernel
theorem dX10_orders_3 : decode cX10_orders 3 = .ok (.lconst 1, 1) := by decide +kernel
theorem dX10_orders_4 : decode cX10_orders 4 = .ok (.invokestatic 95, 3) := by decide +kernel
theorem dX10_orders_7 : decode cX10_orders 7 = .ok (.ifCond .ne 19, 3) := by decide +kernel
theorem dX10_orders_10 : decode cX10_orders 10 = .ok (.iload_n 1, 1) := by decide +kernel
theorem dX10_orders_11 : decode cX10_orders 11 = .ok (.i2l, 1) := by decide +kernel
theorem dX10_orders_12 : decode cX10_orders 12 = .ok (.ldc2_w 243, 3) := by decide +kernel
theorem dX10_orders_15 : decode cX10_orders 15 = .ok (.ldc2_w 245, 3) := by decide +kernel
theorem dX10_orders_18 : decode cX10_orders 18 = .ok (.invokestatic 95, 3) := by decide +kernel
theorem dX10_orders_21 : decode cX10_orders 21 = .ok (.ifCond .ne 5, 3) := by decide +kernel
theorem dX10_orders_24 : decode cX10_orders 24 = .ok (.iconst (-1), 1) := by decide +kernel
theorem dX10_orders_25 : decode cX10_orders 25 = .ok (.ireturn, 1) := by decide +kernel
theorem dX10_orders_26 : decode cX10_orders 26 = .ok (.iconst 0, 1) := by decide +kernel
theorem dX10_orders_27 : decode cX10_orders 27 = .ok (.istore_n 2, 1) := by decide +kernel
theorem dX10_orders_28 : decode cX10_orders 28 = .ok (.iload_n 2, 1) := by decide +kernel
theorem dX10_orders_29 : decode cX10_orders 29 = .ok (.iconst 4, 1) := by decide +kernel
theorem dX10_orders_30 : decode cX10_orders 30 = .ok (.if_icmp .ge 16, 3) := by decide +kernel
theorem dX10_orders_33 : decode cX10_orders 33 = .ok (.aload_n 0, 1) := by decide +kernel
theorem dX10_orders_34 : decode cX10_orders 34 = .ok (.getfield 50, 3) := by decide +kernel
theorem dX10_orders_37 : decode cX10_orders 37 = .ok (.iload_n 2, 1) := by decide +kernel
theorem dX10_orders_38 : decode cX10_orders 38 = .ok (.iload_n 2, 1) := by decide +kernel
theorem dX10_orders_39 : decode cX10_orders 39 = .ok (.iastore, 1) := by decide +kernel
theorem dX10_orders_40 : decode cX10_orders 40 = .ok (.iinc 2 1, 3) := by decide +kernel
theorem dX10_orders_43 : decode cX10_orders 43 = .ok (.goto (-15), 3) := by decide +kernel
theorem dX10_orders_46 : decode cX10_orders 46 = .ok (.iconst 0, 1) := by decide +kernel
theorem dX10_orders_47 : decode cX10_orders 47 = .ok (.istore_n 2, 1) := by decide +kernel
theorem dX10_orders_48 : decode cX10_orders 48 = .ok (.bipush (-4), 2) := by decide +kernel
theorem dX10_orders_50 : decode cX10_orders 50 = .ok (.istore_n 3, 1) := by decide +kernel
theorem dX10_orders_51 : decode cX10_orders 51 = .ok (.iconst 1, 1) := by decide +kernel
theorem dX10_orders_52 : decode cX10_orders 52 = .ok (.istore 4, 2) := by decide +kernel
theorem dX10_orders_54 : decode cX10_orders 54 = .ok (.iload 4, 2) := by decide +kernel
theorem dX10_orders_56 : decode cX10_orders 56 = .ok (.ifCond .eq 147, 3) := by decide +kernel
theorem dX10_orders_59 : decode cX10_orders 59 = .ok (.aload_n 0, 1) := by decide +kernel
theorem dX10_orders_60 : decode cX10_orders 60 = .ok (.invokevirtual 222, 3) := by decide +kernel
theorem dX10_orders_63 : decode cX10_orders 63 = .ok (.iconst 0, 1) := by decide +kernel
theorem dX10_orders_64 : decode cX10_orders 64 = .ok (.istore 5, 2) := by decide +kernel
theorem dX10_orders_66 : decode cX10_orders 66 = .ok (.iload 5, 2) := by decide +kernel
theorem dX10_orders_68 : decode cX10_orders 68 = .ok (.aload_n 0, 1) := by decide +kernel
theorem dX10_orders_69 : decode cX10_orders 69 = .ok (.getfield 87, 3) := by decide +kernel
theorem dX10_orders_72 : decode cX10_orders 72 = .ok (.if_icmp .ge 23, 3) := by decide +kernel
theorem dX10_orders_75 : decode cX10_orders 75 = .ok (.aload_n 0, 1) := by decide +kernel
theorem dX10_orders_76 : decode cX10_orders 76 = .ok (.getfield 44, 3) := by decide +kernel
theorem dX10_orders_79 : decode cX10_orders 79 = .ok (.iload 5, 2) := by decide +kernel
theorem dX10_orders_81 : decode cX10_orders 81 = .ok (.aload_n 0, 1) := by decide +kernel
theorem dX10_orders_82 : decode cX10_orders 82 = .ok (.getfield 50, 3) := by decide +kernel
theorem dX10_orders_85 : decode cX10_orders 85 = .ok (.iload 5, 2) := by decide +kernel
theorem dX10_orders_87 : decode cX10_orders 87 = .ok (.iaload, 1) := by decide +kernel
theorem dX10_orders_88 : decode cX10_orders 88 = .ok (.iastore, 1) := by decide +kernel
theorem dX10_orders_89 : decode cX10_orders 89 = .ok (.iinc 5 1, 3) := by decide +kernel
theorem dX10_orders_92 : decode cX10_orders 92 = .ok (.goto (-26), 3) := by decide +kernel
theorem dX10_orders_95 : decode cX10_orders 95 = .ok (.aload_n 0, 1) := by decide +kernel
theorem dX10_orders_96 : decode cX10_orders 96 = .ok (.invokevirtual 240, 3) := by decide +kernel
theorem dX10_orders_99 : decode cX10_orders 99 = .ok (.istore 5, 2) := by decide +kernel
theorem dX10_orders_101 : decode cX10_orders 101 = .ok (.iload 5, 2) := by decide +kernel
theorem dX10_orders_103 : decode cX10_orders 103 = .ok (.bipush (-4), 2) := by decide +kernel
theorem dX10_orders_105 : decode cX10_orders 105 = .ok (.if_icmp .eq 19, 3) := by decide +kernel
theorem dX10_orders_108 : decode cX10_orders 108 = .ok (.iload_n 3, 1) := by decide +kernel
theorem dX10_orders_109 : decode cX10_orders 109 = .ok (.bipush (-4), 2) := by decide +kernel
theorem dX10_orders_111 : decode cX10_orders 111 = .ok (.if_icmp .eq 9, 3) := by decide +kernel
theorem dX10_orders_114 : decode cX10_orders 114 = .ok (.iload 5, 2) := by decide +kernel
theorem dX10_orders_116 : decode cX10_orders 116 = .ok (.iload_n 3, 1) := by decide +kernel
theorem dX10_orders_117 : decode cX10_orders 117 = .ok (.if_icmp .ge 7, 3) := by decide +kernel
theorem dX10_orders_120 : decode cX10_orders 120 = .ok (.iconst 1, 1) := by decide +kernel
theorem dX10_orders_121 : decode cX10_orders 121 = .ok (.goto 4, 3) := by decide +kernel
theorem dX10_orders_124 : decode cX10_orders 124 = .ok (.iconst 0, 1) := by decide +kernel
theorem dX10_orders_125 : decode cX10_orders 125 = .ok (.istore 6, 2) := by decide +kernel
theorem dX10_orders_127 : decode cX10_orders 127 = .ok (.iconst 0, 1) := by decide +kernel
theorem dX10_orders_128 : decode cX10_orders 128 = .ok (.istore 7, 2) := by decide +kernel
theorem dX10_orders_130 : decode cX10_orders 130 = .ok (.iload 7, 2) := by decide +kernel
theorem dX10_orders_132 : decode cX10_orders 132 = .ok (.aload_n 0, 1) := by decide +kernel
theorem dX10_orders_133 : decode cX10_orders 133 = .ok (.getfield 87, 3) := by decide +kernel
theorem dX10_orders_136 : decode cX10_orders 136 = .ok (.if_icmp .ge 28, 3) := by decide +kernel
theorem dX10_orders_139 : decode cX10_orders 139 = .ok (.iload 6, 2) := by decide +kernel
theorem dX10_orders_141 : decode cX10_orders 141 = .ok (.ifCond .eq 23, 3) := by decide +kernel
theorem dX10_orders_144 : decode cX10_orders 144 = .ok (.aload_n 0, 1) := by decide +kernel
theorem dX10_orders_145 : decode cX10_orders 145 = .ok (.getfield 53, 3) := by decide +kernel
theorem dX10_orders_148 : decode cX10_orders 148 = .ok (.iload 7, 2) := by decide +kernel
theorem dX10_orders_150 : decode cX10_orders 150 = .ok (.aload_n 0, 1) := by decide +kernel
theorem dX10_orders_151 : decode cX10_orders 151 = .ok (.getfield 50, 3) := by decide +kernel
theorem dX10_orders_154 : decode cX10_orders 154 = .ok (.iload 7, 2) := by decide +kernel
theorem dX10_orders_156 : decode cX10_orders 156 = .ok (.iaload, 1) := by decide +kernel
theorem dX10_orders_157 : decode cX10_orders 157 = .ok (.iastore, 1) := by decide +kernel
theorem dX10_orders_158 : decode cX10_orders 158 = .ok (.iinc 7 1, 3) := by decide +kernel
theorem dX10_orders_161 : decode cX10_orders 161 = .ok (.goto (-31), 3) := by decide +kernel
theorem dX10_orders_164 : decode cX10_orders 164 = .ok (.iload_n 2, 1) := by decide +kernel
theorem dX10_orders_165 : decode cX10_orders 165 = .ok (.iload 5, 2) := by decide +kernel
theorem dX10_orders_167 : decode cX10_orders 167 = .ok (.bipush (-4), 2) := by decide +kernel
theorem dX10_orders_169 : decode cX10_orders 169 = .ok (.if_icmp .eq 7, 3) := by decide +kernel
theorem dX10_orders_172 : decode cX10_orders 172 = .ok (.iconst 1, 1) := by decide +kernel
theorem dX10_orders_173 : decode cX10_orders 173 = .ok (.goto 4, 3) := by decide +kernel
theorem dX10_orders_176 : decode cX10_orders 176 = .ok (.iconst 0, 1) := by decide +kernel
theorem dX10_orders_177 : decode cX10_orders 177 = .ok (.invokestatic 158, 3) := by decide +kernel
theorem dX10_orders_180 : decode cX10_orders 180 = .ok (.iadd, 1) := by decide +kernel
theorem dX10_orders_181 : decode cX10_orders 181 = .ok (.istore_n 2, 1) := by decide +kernel
theorem dX10_orders_182 : decode cX10_orders 182 = .ok (.iload 6, 2) := by decide +kernel
theorem dX10_orders_184 : decode cX10_orders 184 = .ok (.ifCond .eq 8, 3) := by decide +kernel
theorem dX10_orders_187 : decode cX10_orders 187 = .ok (.iload 5, 2) := by decide +kernel
theorem dX10_orders_189 : decode cX10_orders 189 = .ok (.goto 4, 3) := by decide +kernel
theorem dX10_orders_192 : decode cX10_orders 192 = .ok (.iload_n 3, 1) := by decide +kernel
theorem dX10_orders_193 : decode cX10_orders 193 = .ok (.istore_n 3, 1) := by decide +kernel
theorem dX10_orders_194 : decode cX10_orders 194 = .ok (.aload_n 0, 1) := by decide +kernel
theorem dX10_orders_195 : decode cX10_orders 195 = .ok (.invokevirtual 247, 3) := by decide +kernel
theorem dX10_orders_198 : decode cX10_orders 198 = .ok (.istore 4, 2) := by decide +kernel
theorem dX10_orders_200 : decode cX10_orders 200 = .ok (.goto (-146), 3) := by decide +kernel
theorem dX10_orders_203 : decode cX10_orders 203 = .ok (.iload_n 1, 1) := by decide +kernel
theorem dX10_orders_204 : decode cX10_orders 204 = .ok (.ifCond .eq 7, 3) := by decide +kernel
theorem dX10_orders_207 : decode cX10_orders 207 = .ok (.iload_n 2, 1) := by decide +kernel
theorem dX10_orders_208 : decode cX10_orders 208 = .ok (.ifCond .ne 14, 3) := by decide +kernel
theorem dX10_orders_211 : decode cX10_orders 211 = .ok (.iload_n 1, 1) := by decide +kernel
theorem dX10_orders_212 : decode cX10_orders 212 = .ok (.ifCond .ne 7, 3) := by decide +kernel
theorem dX10_orders_215 : decode cX10_orders 215 = .ok (.iload_n 2, 1) := by decide +kernel
theorem dX10_orders_216 : decode cX10_orders 216 = .ok (.goto 5, 3) := by decide +kernel
theorem dX10_orders_219 : decode cX10_orders 219 = .ok (.bipush (-4), 2) := by decide +kernel
theorem dX10_orders_221 : decode cX10_orders 221 = .ok (.ireturn, 1) := by decide +kernel
theorem dX10_orders_222 : decode cX10_orders 222 = .ok (.iload_n 1, 1) := by decide +kernel
theorem dX10_orders_223 : decode cX10_orders 223 = .ok (.iconst 1, 1) := by decide +kernel
theorem dX10_orders_224 : decode cX10_orders 224 = .ok (.if_icmp .ne 7, 3) := by decide +kernel
theorem dX10_orders_227 : decode cX10_orders 227 = .ok (.iload_n 3, 1) := by decide +kernel
theorem dX10_orders_228 : decode cX10_orders 228 = .ok (.goto 28, 3) := by decide +kernel
theorem dX10_orders_231 : decode cX10_orders 231 = .ok (.iload_n 1, 1) := by decide +kernel
theorem dX10_orders_232 : decode cX10_orders 232 = .ok (.bipush 10, 2) := by decide +kernel
theorem dX10_orders_234 : decode cX10_orders 234 = .ok (.isub, 1) := by decide +kernel
theorem dX10_orders_235 : decode cX10_orders 235 = .ok (.aload_n 0, 1) := by decide +kernel
theorem dX10_orders_236 : decode cX10_orders 236 = .ok (.getfield 87, 3) := by decide +kernel
theorem dX10_orders_239 : decode cX10_orders 239 = .ok (.if_icmp .ge 15, 3) := by decide +kernel
theorem dX10_orders_242 : decode cX10_orders 242 = .ok (.aload_n 0, 1) := by decide +kernel
theorem dX10_orders_243 : decode cX10_orders 243 = .ok (.getfield 53, 3) := by decide +kernel
theorem dX10_orders_246 : decode cX10_orders 246 = .ok (.iload_n 1, 1) := by decide +kernel
theorem dX10_orders_247 : decode cX10_orders 247 = .ok (.bipush 10, 2) := by decide +kernel
theorem dX10_orders_249 : decode cX10_orders 249 = .ok (.isub, 1) := by decide +kernel
theorem dX10_orders_250 : decode cX10_orders 250 = .ok (.iaload, 1) := by decide +kernel
theorem dX10_orders_251 : decode cX10_orders 251 = .ok (.goto 5, 3) := by decide +kernel
theorem dX10_orders_254 : decode cX10_orders 254 = .ok (.bipush (-4), 2) := by decide +kernel
theorem dX10_orders_256 : decode cX10_orders 256 = .ok (.ireturn, 1) := by decide +kernel
theorem dX10_fewest_0 : decode cX10_fewest 0 = .ok (.iload_n 1, 1) := by decide +kernel
theorem dX10_fewest_1 : decode cX10_fewest 1 = .ok (.i2l, 1) := by decide +kernel
theorem dX10_fewest_2 : decode cX10_fewest 2 = .ok (.lconst 0, 1) := by decide +kernel
theorem dX10_fewest_3 : decode cX10_fewest 3 = .ok (.lconst 1, 1) := by decide +kernel
theorem dX10_fewest_4 : decode cX10_fewest 4 = .ok (.invokestatic 95, 3) := by decide +kernel
theorem dX10_fewest_7 : decode cX10_fewest 7 = .ok (.ifCond .ne 5, 3) := by decide +kernel
theorem dX10_fewest_10 : decode cX10_fewest 10 = .ok (.iconst (-1), 1) := by decide +kernel
theorem dX10_fewest_11 : decode cX10_fewest 11 = .ok (.ireturn, 1) := by decide +kernel
theorem dX10_fewest_12 : decode cX10_fewest 12 = .ok (.bipush (-4), 2) := by decide +kernel
theorem dX10_fewest_14 : decode cX10_fewest 14 = .ok (.istore_n 2, 1) := by decide +kernel
theorem dX10_fewest_15 : decode cX10_fewest 15 = .ok (.bipush (-4), 2) := by decide +kernel
theorem dX10_fewest_17 : decode cX10_fewest 17 = .ok (.istore_n 3, 1) := by decide +kernel
theorem dX10_fewest_18 : decode cX10_fewest 18 = .ok (.iconst 0, 1) := by decide +kernel
theorem dX10_fewest_19 : decode cX10_fewest 19 = .ok (.istore 4, 2) := by decide +kernel
theorem dX10_fewest_21 : decode cX10_fewest 21 = .ok (.iload 4, 2) := by decide +kernel
theorem dX10_fewest_23 : decode cX10_fewest 23 = .ok (.iconst 1, 1) := by decide +kernel
theorem dX10_fewest_24 : decode cX10_fewest 24 = .ok (.aload_n 0, 1) := by decide +kernel
theorem dX10_fewest_25 : decode cX10_fewest 25 = .ok (.getfield 87, 3) := by decide +kernel
theorem dX10_fewest_28 : decode cX10_fewest 28 = .ok (.ishl, 1) := by decide +kernel
theorem dX10_fewest_29 : decode cX10_fewest 29 = .ok (.if_icmp .ge 126, 3) := by decide +kernel
theorem dX10_fewest_32 : decode cX10_fewest 32 = .ok (.aload_n 0, 1) := by decide +kernel
theorem dX10_fewest_33 : decode cX10_fewest 33 = .ok (.invokevirtual 222, 3) := by decide +kernel
theorem dX10_fewest_36 : decode cX10_fewest 36 = .ok (.aload_n 0, 1) := by decide +kernel
theorem dX10_fewest_37 : decode cX10_fewest 37 = .ok (.iconst 0, 1) := by decide +kernel
theorem dX10_fewest_38 : decode cX10_fewest 38 = .ok (.putfield 181, 3) := by decide +kernel
theorem dX10_fewest_41 : decode cX10_fewest 41 = .ok (.iconst 0, 1) := by decide +kernel
theorem dX10_fewest_42 : decode cX10_fewest 42 = .ok (.istore 5, 2) := by decide +kernel
theorem dX10_fewest_44 : decode cX10_fewest 44 = .ok (.iload 5, 2) := by decide +kernel
theorem dX10_fewest_46 : decode cX10_fewest 46 = .ok (.aload_n 0, 1) := by decide +kernel
theorem dX10_fewest_47 : decode cX10_fewest 47 = .ok (.getfield 87, 3) := by decide +kernel
theorem dX10_fewest_50 : decode cX10_fewest 50 = .ok (.if_icmp .ge 41, 3) := by decide +kernel
theorem dX10_fewest_53 : decode cX10_fewest 53 = .ok (.iload 4, 2) := by decide +kernel
theorem dX10_fewest_55 : decode cX10_fewest 55 = .ok (.iload 5, 2) := by decide +kernel
theorem dX10_fewest_57 : decode cX10_fewest 57 = .ok (.ishr, 1) := by decide +kernel
theorem dX10_fewest_58 : decode cX10_fewest 58 = .ok (.iconst 1, 1) := by decide +kernel
theorem dX10_fewest_59 : decode cX10_fewest 59 = .ok (.iand, 1) := by decide +kernel
theorem dX10_fewest_60 : decode cX10_fewest 60 = .ok (.iconst 1, 1) := by decide +kernel
theorem dX10_fewest_61 : decode cX10_fewest 61 = .ok (.if_icmp .ne 24, 3) := by decide +kernel
theorem dX10_fewest_64 : decode cX10_fewest 64 = .ok (.aload_n 0, 1) := by decide +kernel
theorem dX10_fewest_65 : decode cX10_fewest 65 = .ok (.getfield 44, 3) := by decide +kernel
theorem dX10_fewest_68 : decode cX10_fewest 68 = .ok (.aload_n 0, 1) := by decide +kernel
theorem dX10_fewest_69 : decode cX10_fewest 69 = .ok (.getfield 181, 3) := by decide +kernel
theorem dX10_fewest_72 : decode cX10_fewest 72 = .ok (.iload 5, 2) := by decide +kernel
theorem dX10_fewest_74 : decode cX10_fewest 74 = .ok (.iastore, 1) := by decide +kernel
theorem dX10_fewest_75 : decode cX10_fewest 75 = .ok (.aload_n 0, 1) := by decide +kernel
theorem dX10_fewest_76 : decode cX10_fewest 76 = .ok (.dup, 1) := by decide +kernel
theorem dX10_fewest_77 : decode cX10_fewest 77 = .ok (.getfield 181, 3) := by decide +kernel
theorem dX10_fewest_80 : decode cX10_fewest 80 = .ok (.iconst 1, 1) := by decide +kernel
theorem dX10_fewest_81 : decode cX10_fewest 81 = .ok (.iadd, 1) := by decide +kernel
theorem dX10_fewest_82 : decode cX10_fewest 82 = .ok (.putfield 181, 3) := by decide +kernel
theorem dX10_fewest_85 : decode cX10_fewest 85 = .ok (.iinc 5 1, 3) := by decide +kernel
theorem dX10_fewest_88 : decode cX10_fewest 88 = .ok (.goto (-44), 3) := by decide +kernel
theorem dX10_fewest_91 : decode cX10_fewest 91 = .ok (.aload_n 0, 1) := by decide +kernel
theorem dX10_fewest_92 : decode cX10_fewest 92 = .ok (.getfield 181, 3) := by decide +kernel
theorem dX10_fewest_95 : decode cX10_fewest 95 = .ok (.istore 5, 2) := by decide +kernel
theorem dX10_fewest_97 : decode cX10_fewest 97 = .ok (.iload_n 2, 1) := by decide +kernel
theorem dX10_fewest_98 : decode cX10_fewest 98 = .ok (.bipush (-4), 2) := by decide +kernel
theorem dX10_fewest_100 : decode cX10_fewest 100 = .ok (.if_icmp .eq 9, 3) := by decide +kernel
theorem dX10_fewest_103 : decode cX10_fewest 103 = .ok (.iload 5, 2) := by decide +kernel
theorem dX10_fewest_105 : decode cX10_fewest 105 = .ok (.iload_n 2, 1) := by decide +kernel
theorem dX10_fewest_106 : decode cX10_fewest 106 = .ok (.if_icmp .ge 16, 3) := by decide +kernel
theorem dX10_fewest_109 : decode cX10_fewest 109 = .ok (.aload_n 0, 1) := by decide +kernel
theorem dX10_fewest_110 : decode cX10_fewest 110 = .ok (.invokevirtual 240, 3) := by decide +kernel
theorem dX10_fewest_113 : decode cX10_fewest 113 = .ok (.bipush (-4), 2) := by decide +kernel
theorem dX10_fewest_115 : decode cX10_fewest 115 = .ok (.if_icmp .eq 7, 3) := by decide +kernel
theorem dX10_fewest_118 : decode cX10_fewest 118 = .ok (.iconst 1, 1) := by decide +kernel
theorem dX10_fewest_119 : decode cX10_fewest 119 = .ok (.goto 4, 3) := by decide +kernel
theorem dX10_fewest_122 : decode cX10_fewest 122 = .ok (.iconst 0, 1) := by decide +kernel
theorem dX10_fewest_123 : decode cX10_fewest 123 = .ok (.istore 6, 2) := by decide +kernel
theorem dX10_fewest_125 : decode cX10_fewest 125 = .ok (.iload 6, 2) := by decide +kernel
theorem dX10_fewest_127 : decode cX10_fewest 127 = .ok (.ifCond .eq 8, 3) := by decide +kernel
theorem dX10_fewest_130 : decode cX10_fewest 130 = .ok (.iload 4, 2) := by decide +kernel
theorem dX10_fewest_132 : decode cX10_fewest 132 = .ok (.goto 4, 3) := by decide +kernel
theorem dX10_fewest_135 : decode cX10_fewest 135 = .ok (.iload_n 3, 1) := by decide +kernel
theorem dX10_fewest_136 : decode cX10_fewest 136 = .ok (.istore_n 3, 1) := by decide +kernel
theorem dX10_fewest_137 : decode cX10_fewest 137 = .ok (.iload 6, 2) := by decide +kernel
theorem dX10_fewest_139 : decode cX10_fewest 139 = .ok (.ifCond .eq 8, 3) := by decide +kernel
theorem dX10_fewest_142 : decode cX10_fewest 142 = .ok (.iload 5, 2) := by decide +kernel
theorem dX10_fewest_144 : decode cX10_fewest 144 = .ok (.goto 4, 3) := by decide +kernel
theorem dX10_fewest_147 : decode cX10_fewest 147 = .ok (.iload_n 2, 1) := by decide +kernel
theorem dX10_fewest_148 : decode cX10_fewest 148 = .ok (.istore_n 2, 1) := by decide +kernel
theorem dX10_fewest_149 : decode cX10_fewest 149 = .ok (.iinc 4 1, 3) := by decide +kernel
theorem dX10_fewest_152 : decode cX10_fewest 152 = .ok (.goto (-131), 3) := by decide +kernel
theorem dX10_fewest_155 : decode cX10_fewest 155 = .ok (.iload_n 1, 1) := by decide +kernel
theorem dX10_fewest_156 : decode cX10_fewest 156 = .ok (.ifCond .ne 7, 3) := by decide +kernel
theorem dX10_fewest_159 : decode cX10_fewest 159 = .ok (.iload_n 2, 1) := by decide +kernel
theorem dX10_fewest_160 : decode cX10_fewest 160 = .ok (.goto 4, 3) := by decide +kernel
theorem dX10_fewest_163 : decode cX10_fewest 163 = .ok (.iload_n 3, 1) := by decide +kernel
theorem dX10_fewest_164 : decode cX10_fewest 164 = .ok (.ireturn, 1) := by decide +kernel
theorem dX10_better_0 : decode cX10_better 0 = .ok (.iload_n 1, 1) := by decide +kernel
theorem dX10_better_1 : decode cX10_better 1 = .ok (.i2l, 1) := by decide +kernel
theorem dX10_better_2 : decode cX10_better 2 = .ok (.lconst 0, 1) := by decide +kernel
theorem dX10_better_3 : decode cX10_better 3 = .ok (.lconst 1, 1) := by decide +kernel
theorem dX10_better_4 : decode cX10_better 4 = .ok (.invokestatic 95, 3) := by decide +kernel
theorem dX10_better_7 : decode cX10_better 7 = .ok (.ifCond .ne 5, 3) := by decide +kernel
theorem dX10_better_10 : decode cX10_better 10 = .ok (.iconst (-1), 1) := by decide +kernel
theorem dX10_better_11 : decode cX10_better 11 = .ok (.ireturn, 1) := by decide +kernel
theorem dX10_better_12 : decode cX10_better 12 = .ok (.aload_n 0, 1) := by decide +kernel
theorem dX10_better_13 : decode cX10_better 13 = .ok (.invokevirtual 222, 3) := by decide +kernel
theorem dX10_better_16 : decode cX10_better 16 = .ok (.aload_n 0, 1) := by decide +kernel
theorem dX10_better_17 : decode cX10_better 17 = .ok (.invokevirtual 240, 3) := by decide +kernel
theorem dX10_better_20 : decode cX10_better 20 = .ok (.istore_n 2, 1) := by decide +kernel
theorem dX10_better_21 : decode cX10_better 21 = .ok (.bipush (-4), 2) := by decide +kernel
theorem dX10_better_23 : decode cX10_better 23 = .ok (.istore_n 3, 1) := by decide +kernel
theorem dX10_better_24 : decode cX10_better 24 = .ok (.iconst 0, 1) := by decide +kernel
theorem dX10_better_25 : decode cX10_better 25 = .ok (.istore 4, 2) := by decide +kernel
theorem dX10_better_27 : decode cX10_better 27 = .ok (.iload 4, 2) := by decide +kernel
theorem dX10_better_29 : decode cX10_better 29 = .ok (.aload_n 0, 1) := by decide +kernel
theorem dX10_better_30 : decode cX10_better 30 = .ok (.getfield 84, 3) := by decide +kernel
theorem dX10_better_33 : decode cX10_better 33 = .ok (.if_icmp .ge 112, 3) := by decide +kernel
theorem dX10_better_36 : decode cX10_better 36 = .ok (.iconst 1, 1) := by decide +kernel
theorem dX10_better_37 : decode cX10_better 37 = .ok (.istore 5, 2) := by decide +kernel
theorem dX10_better_39 : decode cX10_better 39 = .ok (.iload 5, 2) := by decide +kernel
theorem dX10_better_41 : decode cX10_better 41 = .ok (.bipush 9, 2) := by decide +kernel
theorem dX10_better_43 : decode cX10_better 43 = .ok (.if_icmp .gt 96, 3) := by decide +kernel
theorem dX10_better_46 : decode cX10_better 46 = .ok (.aload_n 0, 1) := by decide +kernel
theorem dX10_better_47 : decode cX10_better 47 = .ok (.invokevirtual 222, 3) := by decide +kernel
theorem dX10_better_50 : decode cX10_better 50 = .ok (.aload_n 0, 1) := by decide +kernel
theorem dX10_better_51 : decode cX10_better 51 = .ok (.getfield 23, 3) := by decide +kernel
theorem dX10_better_54 : decode cX10_better 54 = .ok (.iload 4, 2) := by decide +kernel
theorem dX10_better_56 : decode cX10_better 56 = .ok (.iaload, 1) := by decide +kernel
theorem dX10_better_57 : decode cX10_better 57 = .ok (.iload 5, 2) := by decide +kernel
theorem dX10_better_59 : decode cX10_better 59 = .ok (.if_icmp .eq 74, 3) := by decide +kernel
theorem dX10_better_62 : decode cX10_better 62 = .ok (.aload_n 0, 1) := by decide +kernel
theorem dX10_better_63 : decode cX10_better 63 = .ok (.getfield 23, 3) := by decide +kernel
theorem dX10_better_66 : decode cX10_better 66 = .ok (.iload 4, 2) := by decide +kernel
theorem dX10_better_68 : decode cX10_better 68 = .ok (.iload 5, 2) := by decide +kernel
theorem dX10_better_70 : decode cX10_better 70 = .ok (.iastore, 1) := by decide +kernel
theorem dX10_better_71 : decode cX10_better 71 = .ok (.aload_n 0, 1) := by decide +kernel
theorem dX10_better_72 : decode cX10_better 72 = .ok (.invokevirtual 240, 3) := by decide +kernel
theorem dX10_better_75 : decode cX10_better 75 = .ok (.istore 6, 2) := by decide +kernel
theorem dX10_better_77 : decode cX10_better 77 = .ok (.iload 6, 2) := by decide +kernel
theorem dX10_better_79 : decode cX10_better 79 = .ok (.bipush (-4), 2) := by decide +kernel
theorem dX10_better_81 : decode cX10_better 81 = .ok (.if_icmp .eq 19, 3) := by decide +kernel
theorem dX10_better_84 : decode cX10_better 84 = .ok (.iload_n 2, 1) := by decide +kernel
theorem dX10_better_85 : decode cX10_better 85 = .ok (.bipush (-4), 2) := by decide +kernel
theorem dX10_better_87 : decode cX10_better 87 = .ok (.if_icmp .eq 9, 3) := by decide +kernel
theorem dX10_better_90 : decode cX10_better 90 = .ok (.iload 6, 2) := by decide +kernel
theorem dX10_better_92 : decode cX10_better 92 = .ok (.iload_n 2, 1) := by decide +kernel
theorem dX10_better_93 : decode cX10_better 93 = .ok (.if_icmp .ge 7, 3) := by decide +kernel
theorem dX10_better_96 : decode cX10_better 96 = .ok (.iconst 1, 1) := by decide +kernel
theorem dX10_better_97 : decode cX10_better 97 = .ok (.goto 4, 3) := by decide +kernel
theorem dX10_better_100 : decode cX10_better 100 = .ok (.iconst 0, 1) := by decide +kernel
theorem dX10_better_101 : decode cX10_better 101 = .ok (.istore 7, 2) := by decide +kernel
theorem dX10_better_103 : decode cX10_better 103 = .ok (.iload 7, 2) := by decide +kernel
theorem dX10_better_105 : decode cX10_better 105 = .ok (.ifCond .eq 14, 3) := by decide +kernel
theorem dX10_better_108 : decode cX10_better 108 = .ok (.bipush 10, 2) := by decide +kernel
theorem dX10_better_110 : decode cX10_better 110 = .ok (.iload 4, 2) := by decide +kernel
theorem dX10_better_112 : decode cX10_better 112 = .ok (.imul, 1) := by decide +kernel
theorem dX10_better_113 : decode cX10_better 113 = .ok (.iload 5, 2) := by decide +kernel
theorem dX10_better_115 : decode cX10_better 115 = .ok (.iadd, 1) := by decide +kernel
theorem dX10_better_116 : decode cX10_better 116 = .ok (.goto 4, 3) := by decide +kernel
theorem dX10_better_119 : decode cX10_better 119 = .ok (.iload_n 3, 1) := by decide +kernel
theorem dX10_better_120 : decode cX10_better 120 = .ok (.istore_n 3, 1) := by decide +kernel
theorem dX10_better_121 : decode cX10_better 121 = .ok (.iload 7, 2) := by decide +kernel
theorem dX10_better_123 : decode cX10_better 123 = .ok (.ifCond .eq 8, 3) := by decide +kernel
theorem dX10_better_126 : decode cX10_better 126 = .ok (.iload 6, 2) := by decide +kernel
theorem dX10_better_128 : decode cX10_better 128 = .ok (.goto 4, 3) := by decide +kernel
theorem dX10_better_131 : decode cX10_better 131 = .ok (.iload_n 2, 1) := by decide +kernel
theorem dX10_better_132 : decode cX10_better 132 = .ok (.istore_n 2, 1) := by decide +kernel
theorem dX10_better_133 : decode cX10_better 133 = .ok (.iinc 5 1, 3) := by decide +kernel
theorem dX10_better_136 : decode cX10_better 136 = .ok (.goto (-97), 3) := by decide +kernel
theorem dX10_better_139 : decode cX10_better 139 = .ok (.iinc 4 1, 3) := by decide +kernel
theorem dX10_better_142 : decode cX10_better 142 = .ok (.goto (-115), 3) := by decide +kernel
theorem dX10_better_145 : decode cX10_better 145 = .ok (.iload_n 3, 1) := by decide +kernel
theorem dX10_better_146 : decode cX10_better 146 = .ok (.bipush (-4), 2) := by decide +kernel
theorem dX10_better_148 : decode cX10_better 148 = .ok (.if_icmp .ne 8, 3) := by decide +kernel
theorem dX10_better_151 : decode cX10_better 151 = .ok (.bipush (-4), 2) := by decide +kernel
theorem dX10_better_153 : decode cX10_better 153 = .ok (.goto 12, 3) := by decide +kernel
theorem dX10_better_156 : decode cX10_better 156 = .ok (.iload_n 1, 1) := by decide +kernel
theorem dX10_better_157 : decode cX10_better 157 = .ok (.ifCond .ne 7, 3) := by decide +kernel
theorem dX10_better_160 : decode cX10_better 160 = .ok (.iload_n 3, 1) := by decide +kernel
theorem dX10_better_161 : decode cX10_better 161 = .ok (.goto 4, 3) := by decide +kernel
theorem dX10_better_164 : decode cX10_better 164 = .ok (.iload_n 2, 1) := by decide +kernel
theorem dX10_better_165 : decode cX10_better 165 = .ok (.ireturn, 1) := by decide +kernel
theorem dX10_weeks_0 : decode cX10_weeks 0 = .ok (.iconst 0, 1) := by decide +kernel
theorem dX10_weeks_1 : decode cX10_weeks 1 = .ok (.istore_n 1, 1) := by decide +kernel
theorem dX10_weeks_2 : decode cX10_weeks 2 = .ok (.iconst 0, 1) := by decide +kernel
theorem dX10_weeks_3 : decode cX10_weeks 3 = .ok (.istore_n 2, 1) := by decide +kernel
theorem dX10_weeks_4 : decode cX10_weeks 4 = .ok (.iload_n 2, 1) := by decide +kernel
theorem dX10_weeks_5 : decode cX10_weeks 5 = .ok (.bipush 8, 2) := by decide +kernel
theorem dX10_weeks_7 : decode cX10_weeks 7 = .ok (.if_icmp .gt 115, 3) := by decide +kernel
theorem dX10_weeks_10 : decode cX10_weeks 10 = .ok (.aload_n 0, 1) := by decide +kernel
theorem dX10_weeks_11 : decode cX10_weeks 11 = .ok (.invokevirtual 222, 3) := by decide +kernel
theorem dX10_weeks_14 : decode cX10_weeks 14 = .ok (.iconst 0, 1) := by decide +kernel
theorem dX10_weeks_15 : decode cX10_weeks 15 = .ok (.istore_n 3, 1) := by decide +kernel
theorem dX10_weeks_16 : decode cX10_weeks 16 = .ok (.iload_n 3, 1) := by decide +kernel
theorem dX10_weeks_17 : decode cX10_weeks 17 = .ok (.aload_n 0, 1) := by decide +kernel
theorem dX10_weeks_18 : decode cX10_weeks 18 = .ok (.getfield 87, 3) := by decide +kernel
theorem dX10_weeks_21 : decode cX10_weeks 21 = .ok (.if_icmp .ge 73, 3) := by decide +kernel
theorem dX10_weeks_24 : decode cX10_weeks 24 = .ok (.aload_n 0, 1) := by decide +kernel
theorem dX10_weeks_25 : decode cX10_weeks 25 = .ok (.getfield 32, 3) := by decide +kernel
theorem dX10_weeks_28 : decode cX10_weeks 28 = .ok (.iload_n 3, 1) := by decide +kernel
theorem dX10_weeks_29 : decode cX10_weeks 29 = .ok (.aload_n 0, 1) := by decide +kernel
theorem dX10_weeks_30 : decode cX10_weeks 30 = .ok (.getfield 32, 3) := by decide +kernel
theorem dX10_weeks_33 : decode cX10_weeks 33 = .ok (.iload_n 3, 1) := by decide +kernel
theorem dX10_weeks_34 : decode cX10_weeks 34 = .ok (.iaload, 1) := by decide +kernel
theorem dX10_weeks_35 : decode cX10_weeks 35 = .ok (.iload_n 2, 1) := by decide +kernel
theorem dX10_weeks_36 : decode cX10_weeks 36 = .ok (.iadd, 1) := by decide +kernel
theorem dX10_weeks_37 : decode cX10_weeks 37 = .ok (.bipush 9, 2) := by decide +kernel
theorem dX10_weeks_39 : decode cX10_weeks 39 = .ok (.if_icmp .le 8, 3) := by decide +kernel
theorem dX10_weeks_42 : decode cX10_weeks 42 = .ok (.bipush 9, 2) := by decide +kernel
theorem dX10_weeks_44 : decode cX10_weeks 44 = .ok (.goto 11, 3) := by decide +kernel
theorem dX10_weeks_47 : decode cX10_weeks 47 = .ok (.aload_n 0, 1) := by decide +kernel
theorem dX10_weeks_48 : decode cX10_weeks 48 = .ok (.getfield 32, 3) := by decide +kernel
theorem dX10_weeks_51 : decode cX10_weeks 51 = .ok (.iload_n 3, 1) := by decide +kernel
theorem dX10_weeks_52 : decode cX10_weeks 52 = .ok (.iaload, 1) := by decide +kernel
theorem dX10_weeks_53 : decode cX10_weeks 53 = .ok (.iload_n 2, 1) := by decide +kernel
theorem dX10_weeks_54 : decode cX10_weeks 54 = .ok (.iadd, 1) := by decide +kernel
theorem dX10_weeks_55 : decode cX10_weeks 55 = .ok (.iastore, 1) := by decide +kernel
theorem dX10_weeks_56 : decode cX10_weeks 56 = .ok (.aload_n 0, 1) := by decide +kernel
theorem dX10_weeks_57 : decode cX10_weeks 57 = .ok (.getfield 35, 3) := by decide +kernel
theorem dX10_weeks_60 : decode cX10_weeks 60 = .ok (.iload_n 3, 1) := by decide +kernel
theorem dX10_weeks_61 : decode cX10_weeks 61 = .ok (.aload_n 0, 1) := by decide +kernel
theorem dX10_weeks_62 : decode cX10_weeks 62 = .ok (.getfield 35, 3) := by decide +kernel
theorem dX10_weeks_65 : decode cX10_weeks 65 = .ok (.iload_n 3, 1) := by decide +kernel
theorem dX10_weeks_66 : decode cX10_weeks 66 = .ok (.iaload, 1) := by decide +kernel
theorem dX10_weeks_67 : decode cX10_weeks 67 = .ok (.iload_n 2, 1) := by decide +kernel
theorem dX10_weeks_68 : decode cX10_weeks 68 = .ok (.iadd, 1) := by decide +kernel
theorem dX10_weeks_69 : decode cX10_weeks 69 = .ok (.bipush 9, 2) := by decide +kernel
theorem dX10_weeks_71 : decode cX10_weeks 71 = .ok (.if_icmp .le 8, 3) := by decide +kernel
theorem dX10_weeks_74 : decode cX10_weeks 74 = .ok (.bipush 9, 2) := by decide +kernel
theorem dX10_weeks_76 : decode cX10_weeks 76 = .ok (.goto 11, 3) := by decide +kernel
theorem dX10_weeks_79 : decode cX10_weeks 79 = .ok (.aload_n 0, 1) := by decide +kernel
theorem dX10_weeks_80 : decode cX10_weeks 80 = .ok (.getfield 35, 3) := by decide +kernel
theorem dX10_weeks_83 : decode cX10_weeks 83 = .ok (.iload_n 3, 1) := by decide +kernel
theorem dX10_weeks_84 : decode cX10_weeks 84 = .ok (.iaload, 1) := by decide +kernel
theorem dX10_weeks_85 : decode cX10_weeks 85 = .ok (.iload_n 2, 1) := by decide +kernel
theorem dX10_weeks_86 : decode cX10_weeks 86 = .ok (.iadd, 1) := by decide +kernel
theorem dX10_weeks_87 : decode cX10_weeks 87 = .ok (.iastore, 1) := by decide +kernel
theorem dX10_weeks_88 : decode cX10_weeks 88 = .ok (.iinc 3 1, 3) := by decide +kernel
theorem dX10_weeks_91 : decode cX10_weeks 91 = .ok (.goto (-75), 3) := by decide +kernel
theorem dX10_weeks_94 : decode cX10_weeks 94 = .ok (.iload_n 1, 1) := by decide +kernel
theorem dX10_weeks_95 : decode cX10_weeks 95 = .ok (.aload_n 0, 1) := by decide +kernel
theorem dX10_weeks_96 : decode cX10_weeks 96 = .ok (.invokevirtual 240, 3) := by decide +kernel
theorem dX10_weeks_99 : decode cX10_weeks 99 = .ok (.bipush (-4), 2) := by decide +kernel
theorem dX10_weeks_101 : decode cX10_weeks 101 = .ok (.if_icmp .eq 7, 3) := by decide +kernel
theorem dX10_weeks_104 : decode cX10_weeks 104 = .ok (.iconst 1, 1) := by decide +kernel
theorem dX10_weeks_105 : decode cX10_weeks 105 = .ok (.goto 4, 3) := by decide +kernel
theorem dX10_weeks_108 : decode cX10_weeks 108 = .ok (.iconst 0, 1) := by decide +kernel
theorem dX10_weeks_109 : decode cX10_weeks 109 = .ok (.invokestatic 158, 3) := by decide +kernel
theorem dX10_weeks_112 : decode cX10_weeks 112 = .ok (.iload_n 2, 1) := by decide +kernel
theorem dX10_weeks_113 : decode cX10_weeks 113 = .ok (.ishl, 1) := by decide +kernel
theorem dX10_weeks_114 : decode cX10_weeks 114 = .ok (.ior, 1) := by decide +kernel
theorem dX10_weeks_115 : decode cX10_weeks 115 = .ok (.istore_n 1, 1) := by decide +kernel
theorem dX10_weeks_116 : decode cX10_weeks 116 = .ok (.iinc 2 1, 3) := by decide +kernel
theorem dX10_weeks_119 : decode cX10_weeks 119 = .ok (.goto (-115), 3) := by decide +kernel
theorem dX10_weeks_122 : decode cX10_weeks 122 = .ok (.iload_n 1, 1) := by decide +kernel
theorem dX10_weeks_123 : decode cX10_weeks 123 = .ok (.ireturn, 1) := by decide +kernel
end
section
theorem dX10_isWhere_0 : decode cX10_isWhere 0 = .ok (.iload_n 0, 1) := by decide +kernel
theorem dX10_isWhere_1 : decode cX10_isWhere 1 = .ok (.i2l, 1) := by decide +kernel
theorem dX10_isWhere_2 : decode cX10_isWhere 2 = .ok (.lconst 0, 1) := by decide +kernel
theorem dX10_isWhere_3 : decode cX10_isWhere 3 = .ok (.ldc2_w 251, 3) := by decide +kernel
theorem dX10_isWhere_6 : decode cX10_isWhere 6 = .ok (.invokestatic 95, 3) := by decide +kernel
theorem dX10_isWhere_9 : decode cX10_isWhere 9 = .ok (.ifCond .ne 37, 3) := by decide +kernel
theorem dX10_isWhere_12 : decode cX10_isWhere 12 = .ok (.iload_n 0, 1) := by decide +kernel
theorem dX10_isWhere_13 : decode cX10_isWhere 13 = .ok (.i2l, 1) := by decide +kernel
theorem dX10_isWhere_14 : decode cX10_isWhere 14 = .ok (.ldc2_w 243, 3) := by decide +kernel
theorem dX10_isWhere_17 : decode cX10_isWhere 17 = .ok (.ldc2_w 245, 3) := by decide +kernel
theorem dX10_isWhere_20 : decode cX10_isWhere 20 = .ok (.invokestatic 95, 3) := by decide +kernel
theorem dX10_isWhere_23 : decode cX10_isWhere 23 = .ok (.ifCond .ne 23, 3) := by decide +kernel
theorem dX10_isWhere_26 : decode cX10_isWhere 26 = .ok (.iload_n 0, 1) := by decide +kernel
theorem dX10_isWhere_27 : decode cX10_isWhere 27 = .ok (.i2l, 1) := by decide +kernel
theorem dX10_isWhere_28 : decode cX10_isWhere 28 = .ok (.ldc2_w 253, 3) := by decide +kernel
theorem dX10_isWhere_31 : decode cX10_isWhere 31 = .ok (.ldc2_w 255, 3) := by decide +kernel
theorem dX10_isWhere_34 : decode cX10_isWhere 34 = .ok (.invokestatic 95, 3) := by decide +kernel
theorem dX10_isWhere_37 : decode cX10_isWhere 37 = .ok (.ifCond .ne 9, 3) := by decide +kernel
theorem dX10_isWhere_40 : decode cX10_isWhere 40 = .ok (.iload_n 0, 1) := by decide +kernel
theorem dX10_isWhere_41 : decode cX10_isWhere 41 = .ok (.bipush 30, 2) := by decide +kernel
theorem dX10_isWhere_43 : decode cX10_isWhere 43 = .ok (.if_icmp .ne 7, 3) := by decide +kernel
theorem dX10_isWhere_46 : decode cX10_isWhere 46 = .ok (.iconst 1, 1) := by decide +kernel
theorem dX10_isWhere_47 : decode cX10_isWhere 47 = .ok (.goto 4, 3) := by decide +kernel
theorem dX10_isWhere_50 : decode cX10_isWhere 50 = .ok (.iconst 0, 1) := by decide +kernel
theorem dX10_isWhere_51 : decode cX10_isWhere 51 = .ok (.ireturn, 1) := by decide +kernel
theorem dX10_see_0 : decode cX10_see 0 = .ok (.iload_n 1, 1) := by decide +kernel
theorem dX10_see_1 : decode cX10_see 1 = .ok (.i2l, 1) := by decide +kernel
theorem dX10_see_2 : decode cX10_see 2 = .ok (.lconst 0, 1) := by decide +kernel
theorem dX10_see_3 : decode cX10_see 3 = .ok (.ldc2_w 253, 3) := by decide +kernel
theorem dX10_see_6 : decode cX10_see 6 = .ok (.invokestatic 95, 3) := by decide +kernel
theorem dX10_see_9 : decode cX10_see 9 = .ok (.ifCond .eq 18, 3) := by decide +kernel
theorem dX10_see_12 : decode cX10_see 12 = .ok (.aload_n 0, 1) := by decide +kernel
theorem dX10_see_13 : decode cX10_see 13 = .ok (.iload_n 2, 1) := by decide +kernel
theorem dX10_see_14 : decode cX10_see 14 = .ok (.invokevirtual 219, 3) := by decide +kernel
theorem dX10_see_17 : decode cX10_see 17 = .ok (.ifCond .eq 10, 3) := by decide +kernel
theorem dX10_see_20 : decode cX10_see 20 = .ok (.iload_n 3, 1) := by decide +kernel
theorem dX10_see_21 : decode cX10_see 21 = .ok (.invokestatic 257, 3) := by decide +kernel
theorem dX10_see_24 : decode cX10_see 24 = .ok (.ifCond .ne 5, 3) := by decide +kernel
theorem dX10_see_27 : decode cX10_see 27 = .ok (.iconst (-1), 1) := by decide +kernel
theorem dX10_see_28 : decode cX10_see 28 = .ok (.ireturn, 1) := by decide +kernel
theorem dX10_see_29 : decode cX10_see 29 = .ok (.aload_n 0, 1) := by decide +kernel
theorem dX10_see_30 : decode cX10_see 30 = .ok (.getfield 7, 3) := by decide +kernel
theorem dX10_see_33 : decode cX10_see 33 = .ok (.bipush 46, 2) := by decide +kernel
theorem dX10_see_35 : decode cX10_see 35 = .ok (.iaload, 1) := by decide +kernel
theorem dX10_see_36 : decode cX10_see 36 = .ok (.bipush 8, 2) := by decide +kernel
theorem dX10_see_38 : decode cX10_see 38 = .ok (.if_icmp .ne 6, 3) := by decide +kernel
theorem dX10_see_41 : decode cX10_see 41 = .ok (.bipush (-3), 2) := by decide +kernel
theorem dX10_see_43 : decode cX10_see 43 = .ok (.ireturn, 1) := by decide +kernel
theorem dX10_see_44 : decode cX10_see 44 = .ok (.bipush 47, 2) := by decide +kernel
theorem dX10_see_46 : decode cX10_see 46 = .ok (.iconst 4, 1) := by decide +kernel
theorem dX10_see_47 : decode cX10_see 47 = .ok (.aload_n 0, 1) := by decide +kernel
theorem dX10_see_48 : decode cX10_see 48 = .ok (.getfield 7, 3) := by decide +kernel
theorem dX10_see_51 : decode cX10_see 51 = .ok (.bipush 46, 2) := by decide +kernel
theorem dX10_see_53 : decode cX10_see 53 = .ok (.iaload, 1) := by decide +kernel
theorem dX10_see_54 : decode cX10_see 54 = .ok (.imul, 1) := by decide +kernel
theorem dX10_see_55 : decode cX10_see 55 = .ok (.iadd, 1) := by decide +kernel
theorem dX10_see_56 : decode cX10_see 56 = .ok (.istore 5, 2) := by decide +kernel
theorem dX10_see_58 : decode cX10_see 58 = .ok (.aload_n 0, 1) := by decide +kernel
theorem dX10_see_59 : decode cX10_see 59 = .ok (.getfield 7, 3) := by decide +kernel
theorem dX10_see_62 : decode cX10_see 62 = .ok (.iload 5, 2) := by decide +kernel
theorem dX10_see_64 : decode cX10_see 64 = .ok (.iload_n 1, 1) := by decide +kernel
theorem dX10_see_65 : decode cX10_see 65 = .ok (.iastore, 1) := by decide +kernel
theorem dX10_see_66 : decode cX10_see 66 = .ok (.aload_n 0, 1) := by decide +kernel
theorem dX10_see_67 : decode cX10_see 67 = .ok (.getfield 7, 3) := by decide +kernel
theorem dX10_see_70 : decode cX10_see 70 = .ok (.iload 5, 2) := by decide +kernel
theorem dX10_see_72 : decode cX10_see 72 = .ok (.iconst 1, 1) := by decide +kernel
theorem dX10_see_73 : decode cX10_see 73 = .ok (.iadd, 1) := by decide +kernel
theorem dX10_see_74 : decode cX10_see 74 = .ok (.iload_n 2, 1) := by decide +kernel
theorem dX10_see_75 : decode cX10_see 75 = .ok (.iastore, 1) := by decide +kernel
theorem dX10_see_76 : decode cX10_see 76 = .ok (.aload_n 0, 1) := by decide +kernel
theorem dX10_see_77 : decode cX10_see 77 = .ok (.getfield 7, 3) := by decide +kernel
theorem dX10_see_80 : decode cX10_see 80 = .ok (.iload 5, 2) := by decide +kernel
theorem dX10_see_82 : decode cX10_see 82 = .ok (.iconst 2, 1) := by decide +kernel
theorem dX10_see_83 : decode cX10_see 83 = .ok (.iadd, 1) := by decide +kernel
theorem dX10_see_84 : decode cX10_see 84 = .ok (.iload_n 3, 1) := by decide +kernel
theorem dX10_see_85 : decode cX10_see 85 = .ok (.iastore, 1) := by decide +kernel
theorem dX10_see_86 : decode cX10_see 86 = .ok (.aload_n 0, 1) := by decide +kernel
theorem dX10_see_87 : decode cX10_see 87 = .ok (.getfield 7, 3) := by decide +kernel
theorem dX10_see_90 : decode cX10_see 90 = .ok (.iload 5, 2) := by decide +kernel
theorem dX10_see_92 : decode cX10_see 92 = .ok (.iconst 3, 1) := by decide +kernel
theorem dX10_see_93 : decode cX10_see 93 = .ok (.iadd, 1) := by decide +kernel
theorem dX10_see_94 : decode cX10_see 94 = .ok (.iload 4, 2) := by decide +kernel
theorem dX10_see_96 : decode cX10_see 96 = .ok (.invokestatic 158, 3) := by decide +kernel
theorem dX10_see_99 : decode cX10_see 99 = .ok (.iastore, 1) := by decide +kernel
theorem dX10_see_100 : decode cX10_see 100 = .ok (.aload_n 0, 1) := by decide +kernel
theorem dX10_see_101 : decode cX10_see 101 = .ok (.getfield 7, 3) := by decide +kernel
theorem dX10_see_104 : decode cX10_see 104 = .ok (.bipush 46, 2) := by decide +kernel
theorem dX10_see_106 : decode cX10_see 106 = .ok (.dup2, 1) := by decide +kernel
theorem dX10_see_107 : decode cX10_see 107 = .ok (.iaload, 1) := by decide +kernel
theorem dX10_see_108 : decode cX10_see 108 = .ok (.iconst 1, 1) := by decide +kernel
theorem dX10_see_109 : decode cX10_see 109 = .ok (.iadd, 1) := by decide +kernel
theorem dX10_see_110 : decode cX10_see 110 = .ok (.iastore, 1) := by decide +kernel
theorem dX10_see_111 : decode cX10_see 111 = .ok (.aload_n 0, 1) := by decide +kernel
theorem dX10_see_112 : decode cX10_see 112 = .ok (.getfield 7, 3) := by decide +kernel
theorem dX10_see_115 : decode cX10_see 115 = .ok (.bipush 46, 2) := by decide +kernel
theorem dX10_see_117 : decode cX10_see 117 = .ok (.iaload, 1) := by decide +kernel
theorem dX10_see_118 : decode cX10_see 118 = .ok (.ireturn, 1) := by decide +kernel
theorem dX10_forget_0 : decode cX10_forget 0 = .ok (.iload_n 1, 1) := by decide +kernel
theorem dX10_forget_1 : decode cX10_forget 1 = .ok (.i2l, 1) := by decide +kernel
theorem dX10_forget_2 : decode cX10_forget 2 = .ok (.lconst 0, 1) := by decide +kernel
theorem dX10_forget_3 : decode cX10_forget 3 = .ok (.aload_n 0, 1) := by decide +kernel
theorem dX10_forget_4 : decode cX10_forget 4 = .ok (.getfield 7, 3) := by decide +kernel
theorem dX10_forget_7 : decode cX10_forget 7 = .ok (.bipush 46, 2) := by decide +kernel
theorem dX10_forget_9 : decode cX10_forget 9 = .ok (.iaload, 1) := by decide +kernel
theorem dX10_forget_10 : decode cX10_forget 10 = .ok (.i2l, 1) := by decide +kernel
theorem dX10_forget_11 : decode cX10_forget 11 = .ok (.invokestatic 95, 3) := by decide +kernel
theorem dX10_forget_14 : decode cX10_forget 14 = .ok (.ifCond .ne 5, 3) := by decide +kernel
theorem dX10_forget_17 : decode cX10_forget 17 = .ok (.iconst (-1), 1) := by decide +kernel
theorem dX10_forget_18 : decode cX10_forget 18 = .ok (.ireturn, 1) := by decide +kernel
theorem dX10_forget_19 : decode cX10_forget 19 = .ok (.aload_n 0, 1) := by decide +kernel
theorem dX10_forget_20 : decode cX10_forget 20 = .ok (.getfield 7, 3) := by decide +kernel
theorem dX10_forget_23 : decode cX10_forget 23 = .ok (.bipush 46, 2) := by decide +kernel
theorem dX10_forget_25 : decode cX10_forget 25 = .ok (.iaload, 1) := by decide +kernel
theorem dX10_forget_26 : decode cX10_forget 26 = .ok (.istore_n 2, 1) := by decide +kernel
theorem dX10_forget_27 : decode cX10_forget 27 = .ok (.aload_n 0, 1) := by decide +kernel
theorem dX10_forget_28 : decode cX10_forget 28 = .ok (.getfield 7, 3) := by decide +kernel
theorem dX10_forget_31 : decode cX10_forget 31 = .ok (.bipush 46, 2) := by decide +kernel
theorem dX10_forget_33 : decode cX10_forget 33 = .ok (.iload_n 1, 1) := by decide +kernel
theorem dX10_forget_34 : decode cX10_forget 34 = .ok (.iastore, 1) := by decide +kernel
theorem dX10_forget_35 : decode cX10_forget 35 = .ok (.iload_n 2, 1) := by decide +kernel
theorem dX10_forget_36 : decode cX10_forget 36 = .ok (.ireturn, 1) := by decide +kernel
theorem dX10_isSo_0 : decode cX10_isSo 0 = .ok (.iconst 1, 1) := by decide +kernel
theorem dX10_isSo_1 : decode cX10_isSo 1 = .ok (.istore_n 1, 1) := by decide +kernel
theorem dX10_isSo_2 : decode cX10_isSo 2 = .ok (.iconst 0, 1) := by decide +kernel
theorem dX10_isSo_3 : decode cX10_isSo 3 = .ok (.istore_n 2, 1) := by decide +kernel
theorem dX10_isSo_4 : decode cX10_isSo 4 = .ok (.iload_n 2, 1) := by decide +kernel
theorem dX10_isSo_5 : decode cX10_isSo 5 = .ok (.bipush 20, 2) := by decide +kernel
theorem dX10_isSo_7 : decode cX10_isSo 7 = .ok (.if_icmp .gt 107, 3) := by decide +kernel
theorem dX10_isSo_10 : decode cX10_isSo 10 = .ok (.iconst 0, 1) := by decide +kernel
theorem dX10_isSo_11 : decode cX10_isSo 11 = .ok (.istore_n 3, 1) := by decide +kernel
theorem dX10_isSo_12 : decode cX10_isSo 12 = .ok (.iload_n 3, 1) := by decide +kernel
theorem dX10_isSo_13 : decode cX10_isSo 13 = .ok (.aload_n 0, 1) := by decide +kernel
theorem dX10_isSo_14 : decode cX10_isSo 14 = .ok (.getfield 7, 3) := by decide +kernel
theorem dX10_isSo_17 : decode cX10_isSo 17 = .ok (.bipush 46, 2) := by decide +kernel
theorem dX10_isSo_19 : decode cX10_isSo 19 = .ok (.iaload, 1) := by decide +kernel
theorem dX10_isSo_20 : decode cX10_isSo 20 = .ok (.if_icmp .ge 84, 3) := by decide +kernel
theorem dX10_isSo_23 : decode cX10_isSo 23 = .ok (.bipush 47, 2) := by decide +kernel
theorem dX10_isSo_25 : decode cX10_isSo 25 = .ok (.iconst 4, 1) := by decide +kernel
theorem dX10_isSo_26 : decode cX10_isSo 26 = .ok (.iload_n 3, 1) := by decide +kernel
theorem dX10_isSo_27 : decode cX10_isSo 27 = .ok (.imul, 1) := by decide +kernel
theorem dX10_isSo_28 : decode cX10_isSo 28 = .ok (.iadd, 1) := by decide +kernel
theorem dX10_isSo_29 : decode cX10_isSo 29 = .ok (.istore 4, 2) := by decide +kernel
theorem dX10_isSo_31 : decode cX10_isSo 31 = .ok (.iload_n 1, 1) := by decide +kernel
theorem dX10_isSo_32 : decode cX10_isSo 32 = .ok (.ifCond .eq 64, 3) := by decide +kernel
theorem dX10_isSo_35 : decode cX10_isSo 35 = .ok (.aload_n 0, 1) := by decide +kernel
theorem dX10_isSo_36 : decode cX10_isSo 36 = .ok (.getfield 7, 3) := by decide +kernel
theorem dX10_isSo_39 : decode cX10_isSo 39 = .ok (.iload 4, 2) := by decide +kernel
theorem dX10_isSo_41 : decode cX10_isSo 41 = .ok (.iaload, 1) := by decide +kernel
theorem dX10_isSo_42 : decode cX10_isSo 42 = .ok (.iload_n 2, 1) := by decide +kernel
theorem dX10_isSo_43 : decode cX10_isSo 43 = .ok (.if_icmp .ne 49, 3) := by decide +kernel
theorem dX10_isSo_46 : decode cX10_isSo 46 = .ok (.aload_n 0, 1) := by decide +kernel
theorem dX10_isSo_47 : decode cX10_isSo 47 = .ok (.getfield 29, 3) := by decide +kernel
theorem dX10_isSo_50 : decode cX10_isSo 50 = .ok (.aload_n 0, 1) := by decide +kernel
theorem dX10_isSo_51 : decode cX10_isSo 51 = .ok (.getfield 7, 3) := by decide +kernel
theorem dX10_isSo_54 : decode cX10_isSo 54 = .ok (.iload 4, 2) := by decide +kernel
theorem dX10_isSo_56 : decode cX10_isSo 56 = .ok (.iconst 1, 1) := by decide +kernel
theorem dX10_isSo_57 : decode cX10_isSo 57 = .ok (.iadd, 1) := by decide +kernel
theorem dX10_isSo_58 : decode cX10_isSo 58 = .ok (.iaload, 1) := by decide +kernel
theorem dX10_isSo_59 : decode cX10_isSo 59 = .ok (.iaload, 1) := by decide +kernel
theorem dX10_isSo_60 : decode cX10_isSo 60 = .ok (.aload_n 0, 1) := by decide +kernel
theorem dX10_isSo_61 : decode cX10_isSo 61 = .ok (.getfield 7, 3) := by decide +kernel
theorem dX10_isSo_64 : decode cX10_isSo 64 = .ok (.iload 4, 2) := by decide +kernel
theorem dX10_isSo_66 : decode cX10_isSo 66 = .ok (.iconst 2, 1) := by decide +kernel
theorem dX10_isSo_67 : decode cX10_isSo 67 = .ok (.iadd, 1) := by decide +kernel
theorem dX10_isSo_68 : decode cX10_isSo 68 = .ok (.iaload, 1) := by decide +kernel
theorem dX10_isSo_69 : decode cX10_isSo 69 = .ok (.if_icmp .ne 7, 3) := by decide +kernel
theorem dX10_isSo_72 : decode cX10_isSo 72 = .ok (.iconst 1, 1) := by decide +kernel
theorem dX10_isSo_73 : decode cX10_isSo 73 = .ok (.goto 4, 3) := by decide +kernel
theorem dX10_isSo_76 : decode cX10_isSo 76 = .ok (.iconst 0, 1) := by decide +kernel
theorem dX10_isSo_77 : decode cX10_isSo 77 = .ok (.invokestatic 158, 3) := by decide +kernel
theorem dX10_isSo_80 : decode cX10_isSo 80 = .ok (.aload_n 0, 1) := by decide +kernel
theorem dX10_isSo_81 : decode cX10_isSo 81 = .ok (.getfield 7, 3) := by decide +kernel
theorem dX10_isSo_84 : decode cX10_isSo 84 = .ok (.iload 4, 2) := by decide +kernel
theorem dX10_isSo_86 : decode cX10_isSo 86 = .ok (.iconst 3, 1) := by decide +kernel
theorem dX10_isSo_87 : decode cX10_isSo 87 = .ok (.iadd, 1) := by decide +kernel
theorem dX10_isSo_88 : decode cX10_isSo 88 = .ok (.iaload, 1) := by decide +kernel
theorem dX10_isSo_89 : decode cX10_isSo 89 = .ok (.if_icmp .ne 7, 3) := by decide +kernel
theorem dX10_isSo_92 : decode cX10_isSo 92 = .ok (.iconst 1, 1) := by decide +kernel
theorem dX10_isSo_93 : decode cX10_isSo 93 = .ok (.goto 4, 3) := by decide +kernel
theorem dX10_isSo_96 : decode cX10_isSo 96 = .ok (.iconst 0, 1) := by decide +kernel
theorem dX10_isSo_97 : decode cX10_isSo 97 = .ok (.istore_n 1, 1) := by decide +kernel
theorem dX10_isSo_98 : decode cX10_isSo 98 = .ok (.iinc 3 1, 3) := by decide +kernel
theorem dX10_isSo_101 : decode cX10_isSo 101 = .ok (.goto (-89), 3) := by decide +kernel
theorem dX10_isSo_104 : decode cX10_isSo 104 = .ok (.aload_n 0, 1) := by decide +kernel
theorem dX10_isSo_105 : decode cX10_isSo 105 = .ok (.invokevirtual 213, 3) := by decide +kernel
theorem dX10_isSo_108 : decode cX10_isSo 108 = .ok (.iinc 2 1, 3) := by decide +kernel
theorem dX10_isSo_111 : decode cX10_isSo 111 = .ok (.goto (-107), 3) := by decide +kernel
theorem dX10_isSo_114 : decode cX10_isSo 114 = .ok (.iload_n 1, 1) := by decide +kernel
theorem dX10_isSo_115 : decode cX10_isSo 115 = .ok (.ireturn, 1) := by decide +kernel
theorem dX10_fakes_0 : decode cX10_fakes 0 = .ok (.iload_n 1, 1) := by decide +kernel
theorem dX10_fakes_1 : decode cX10_fakes 1 = .ok (.i2l, 1) := by decide +kernel
theorem dX10_fakes_2 : decode cX10_fakes 2 = .ok (.lconst 0, 1) := by decide +kernel
theorem dX10_fakes_3 : decode cX10_fakes 3 = .ok (.ldc2_w 260, 3) := by decide +kernel
theorem dX10_fakes_6 : decode cX10_fakes 6 = .ok (.invokestatic 95, 3) := by decide +kernel
theorem dX10_fakes_9 : decode cX10_fakes 9 = .ok (.ifCond .ne 5, 3) := by decide +kernel
theorem dX10_fakes_12 : decode cX10_fakes 12 = .ok (.iconst (-1), 1) := by decide +kernel
theorem dX10_fakes_13 : decode cX10_fakes 13 = .ok (.ireturn, 1) := by decide +kernel
theorem dX10_fakes_14 : decode cX10_fakes 14 = .ok (.iconst 1, 1) := by decide +kernel
theorem dX10_fakes_15 : decode cX10_fakes 15 = .ok (.aload_n 0, 1) := by decide +kernel
theorem dX10_fakes_16 : decode cX10_fakes 16 = .ok (.getfield 7, 3) := by decide +kernel
theorem dX10_fakes_19 : decode cX10_fakes 19 = .ok (.bipush 8, 2) := by decide +kernel
theorem dX10_fakes_21 : decode cX10_fakes 21 = .ok (.iaload, 1) := by decide +kernel
theorem dX10_fakes_22 : decode cX10_fakes 22 = .ok (.ishl, 1) := by decide +kernel
theorem dX10_fakes_23 : decode cX10_fakes 23 = .ok (.iconst 1, 1) := by decide +kernel
theorem dX10_fakes_24 : decode cX10_fakes 24 = .ok (.isub, 1) := by decide +kernel
theorem dX10_fakes_25 : decode cX10_fakes 25 = .ok (.istore_n 2, 1) := by decide +kernel
theorem dX10_fakes_26 : decode cX10_fakes 26 = .ok (.iconst 0, 1) := by decide +kernel
theorem dX10_fakes_27 : decode cX10_fakes 27 = .ok (.istore_n 3, 1) := by decide +kernel
theorem dX10_fakes_28 : decode cX10_fakes 28 = .ok (.bipush (-4), 2) := by decide +kernel
theorem dX10_fakes_30 : decode cX10_fakes 30 = .ok (.istore 4, 2) := by decide +kernel
theorem dX10_fakes_32 : decode cX10_fakes 32 = .ok (.iload_n 2, 1) := by decide +kernel
theorem dX10_fakes_33 : decode cX10_fakes 33 = .ok (.istore 5, 2) := by decide +kernel
theorem dX10_fakes_35 : decode cX10_fakes 35 = .ok (.iconst 0, 1) := by decide +kernel
theorem dX10_fakes_36 : decode cX10_fakes 36 = .ok (.istore 6, 2) := by decide +kernel
theorem dX10_fakes_38 : decode cX10_fakes 38 = .ok (.iconst 0, 1) := by decide +kernel
theorem dX10_fakes_39 : decode cX10_fakes 39 = .ok (.istore 7, 2) := by decide +kernel
theorem dX10_fakes_41 : decode cX10_fakes 41 = .ok (.iload 7, 2) := by decide +kernel
theorem dX10_fakes_43 : decode cX10_fakes 43 = .ok (.iload_n 2, 1) := by decide +kernel
theorem dX10_fakes_44 : decode cX10_fakes 44 = .ok (.if_icmp .gt 85, 3) := by decide +kernel
theorem dX10_fakes_47 : decode cX10_fakes 47 = .ok (.aload_n 0, 1) := by decide +kernel
theorem dX10_fakes_48 : decode cX10_fakes 48 = .ok (.invokevirtual 222, 3) := by decide +kernel
theorem dX10_fakes_51 : decode cX10_fakes 51 = .ok (.iconst 0, 1) := by decide +kernel
theorem dX10_fakes_52 : decode cX10_fakes 52 = .ok (.istore 8, 2) := by decide +kernel
theorem dX10_fakes_54 : decode cX10_fakes 54 = .ok (.iload 8, 2) := by decide +kernel
theorem dX10_fakes_56 : decode cX10_fakes 56 = .ok (.aload_n 0, 1) := by decide +kernel
theorem dX10_fakes_57 : decode cX10_fakes 57 = .ok (.getfield 7, 3) := by decide +kernel
theorem dX10_fakes_60 : decode cX10_fakes 60 = .ok (.bipush 8, 2) := by decide +kernel
theorem dX10_fakes_62 : decode cX10_fakes 62 = .ok (.iaload, 1) := by decide +kernel
theorem dX10_fakes_63 : decode cX10_fakes 63 = .ok (.if_icmp .ge 23, 3) := by decide +kernel
theorem dX10_fakes_66 : decode cX10_fakes 66 = .ok (.aload_n 0, 1) := by decide +kernel
theorem dX10_fakes_67 : decode cX10_fakes 67 = .ok (.getfield 26, 3) := by decide +kernel
theorem dX10_fakes_70 : decode cX10_fakes 70 = .ok (.iload 8, 2) := by decide +kernel
theorem dX10_fakes_72 : decode cX10_fakes 72 = .ok (.iload 7, 2) := by decide +kernel
theorem dX10_fakes_74 : decode cX10_fakes 74 = .ok (.iload 8, 2) := by decide +kernel
theorem dX10_fakes_76 : decode cX10_fakes 76 = .ok (.ishr, 1) := by decide +kernel
theorem dX10_fakes_77 : decode cX10_fakes 77 = .ok (.iconst 1, 1) := by decide +kernel
theorem dX10_fakes_78 : decode cX10_fakes 78 = .ok (.iand, 1) := by decide +kernel
theorem dX10_fakes_79 : decode cX10_fakes 79 = .ok (.iastore, 1) := by decide +kernel
theorem dX10_fakes_80 : decode cX10_fakes 80 = .ok (.iinc 8 1, 3) := by decide +kernel
theorem dX10_fakes_83 : decode cX10_fakes 83 = .ok (.goto (-29), 3) := by decide +kernel
theorem dX10_fakes_86 : decode cX10_fakes 86 = .ok (.aload_n 0, 1) := by decide +kernel
theorem dX10_fakes_87 : decode cX10_fakes 87 = .ok (.invokevirtual 262, 3) := by decide +kernel
theorem dX10_fakes_90 : decode cX10_fakes 90 = .ok (.ifCond .eq 33, 3) := by decide +kernel
theorem dX10_fakes_93 : decode cX10_fakes 93 = .ok (.iload_n 3, 1) := by decide +kernel
theorem dX10_fakes_94 : decode cX10_fakes 94 = .ok (.ifCond .ne 8, 3) := by decide +kernel
theorem dX10_fakes_97 : decode cX10_fakes 97 = .ok (.iload 7, 2) := by decide +kernel
theorem dX10_fakes_99 : decode cX10_fakes 99 = .ok (.goto 5, 3) := by decide +kernel
theorem dX10_fakes_102 : decode cX10_fakes 102 = .ok (.iload 4, 2) := by decide +kernel
theorem dX10_fakes_104 : decode cX10_fakes 104 = .ok (.istore 4, 2) := by decide +kernel
theorem dX10_fakes_106 : decode cX10_fakes 106 = .ok (.iload 5, 2) := by decide +kernel
theorem dX10_fakes_108 : decode cX10_fakes 108 = .ok (.iload 7, 2) := by decide +kernel
theorem dX10_fakes_110 : decode cX10_fakes 110 = .ok (.iand, 1) := by decide +kernel
theorem dX10_fakes_111 : decode cX10_fakes 111 = .ok (.istore 5, 2) := by decide +kernel
theorem dX10_fakes_113 : decode cX10_fakes 113 = .ok (.iload 6, 2) := by decide +kernel
theorem dX10_fakes_115 : decode cX10_fakes 115 = .ok (.iload 7, 2) := by decide +kernel
theorem dX10_fakes_117 : decode cX10_fakes 117 = .ok (.ior, 1) := by decide +kernel
theorem dX10_fakes_118 : decode cX10_fakes 118 = .ok (.istore 6, 2) := by decide +kernel
theorem dX10_fakes_120 : decode cX10_fakes 120 = .ok (.iinc 3 1, 3) := by decide +kernel
theorem dX10_fakes_123 : decode cX10_fakes 123 = .ok (.iinc 7 1, 3) := by decide +kernel
theorem dX10_fakes_126 : decode cX10_fakes 126 = .ok (.goto (-85), 3) := by decide +kernel
theorem dX10_fakes_129 : decode cX10_fakes 129 = .ok (.iload_n 1, 1) := by decide +kernel
theorem dX10_fakes_130 : decode cX10_fakes 130 = .ok (.ifCond .eq 7, 3) := by decide +kernel
theorem dX10_fakes_133 : decode cX10_fakes 133 = .ok (.iload_n 3, 1) := by decide +kernel
theorem dX10_fakes_134 : decode cX10_fakes 134 = .ok (.ifCond .ne 14, 3) := by decide +kernel
theorem dX10_fakes_137 : decode cX10_fakes 137 = .ok (.iload_n 1, 1) := by decide +kernel
theorem dX10_fakes_138 : decode cX10_fakes 138 = .ok (.ifCond .ne 7, 3) := by decide +kernel
theorem dX10_fakes_141 : decode cX10_fakes 141 = .ok (.iload_n 3, 1) := by decide +kernel
theorem dX10_fakes_142 : decode cX10_fakes 142 = .ok (.goto 5, 3) := by decide +kernel
theorem dX10_fakes_145 : decode cX10_fakes 145 = .ok (.bipush (-4), 2) := by decide +kernel
theorem dX10_fakes_147 : decode cX10_fakes 147 = .ok (.ireturn, 1) := by decide +kernel
theorem dX10_fakes_148 : decode cX10_fakes 148 = .ok (.iload_n 1, 1) := by decide +kernel
theorem dX10_fakes_149 : decode cX10_fakes 149 = .ok (.iconst 1, 1) := by decide +kernel
theorem dX10_fakes_150 : decode cX10_fakes 150 = .ok (.if_icmp .ne 8, 3) := by decide +kernel
theorem dX10_fakes_153 : decode cX10_fakes 153 = .ok (.iload 4, 2) := by decide +kernel
theorem dX10_fakes_155 : decode cX10_fakes 155 = .ok (.goto 19, 3) := by decide +kernel
theorem dX10_fakes_158 : decode cX10_fakes 158 = .ok (.iload_n 1, 1) := by decide +kernel
theorem dX10_fakes_159 : decode cX10_fakes 159 = .ok (.iconst 2, 1) := by decide +kernel
theorem dX10_fakes_160 : decode cX10_fakes 160 = .ok (.if_icmp .ne 8, 3) := by decide +kernel
theorem dX10_fakes_163 : decode cX10_fakes 163 = .ok (.iload 5, 2) := by decide +kernel
theorem dX10_fakes_165 : decode cX10_fakes 165 = .ok (.goto 9, 3) := by decide +kernel
theorem dX10_fakes_168 : decode cX10_fakes 168 = .ok (.iload_n 2, 1) := by decide +kernel
theorem dX10_fakes_169 : decode cX10_fakes 169 = .ok (.iload 6, 2) := by decide +kernel
theorem dX10_fakes_171 : decode cX10_fakes 171 = .ok (.iconst (-1), 1) := by decide +kernel
theorem dX10_fakes_172 : decode cX10_fakes 172 = .ok (.ixor, 1) := by decide +kernel
theorem dX10_fakes_173 : decode cX10_fakes 173 = .ok (.iand, 1) := by decide +kernel
theorem dX10_fakes_174 : decode cX10_fakes 174 = .ok (.ireturn, 1) := by decide +kernel
theorem dX10_wrong_0 : decode cX10_wrong 0 = .ok (.aload_n 0, 1) := by decide +kernel
theorem dX10_wrong_1 : decode cX10_wrong 1 = .ok (.invokevirtual 222, 3) := by decide +kernel
theorem dX10_wrong_4 : decode cX10_wrong 4 = .ok (.aload_n 0, 1) := by decide +kernel
theorem dX10_wrong_5 : decode cX10_wrong 5 = .ok (.invokevirtual 262, 3) := by decide +kernel
theorem dX10_wrong_8 : decode cX10_wrong 8 = .ok (.ifCond .eq 8, 3) := by decide +kernel
theorem dX10_wrong_11 : decode cX10_wrong 11 = .ok (.bipush 16, 2) := by decide +kernel
theorem dX10_wrong_13 : decode cX10_wrong 13 = .ok (.goto 4, 3) := by decide +kernel
theorem dX10_wrong_16 : decode cX10_wrong 16 = .ok (.iconst 0, 1) := by decide +kernel
theorem dX10_wrong_17 : decode cX10_wrong 17 = .ok (.istore_n 1, 1) := by decide +kernel
theorem dX10_wrong_18 : decode cX10_wrong 18 = .ok (.iconst 0, 1) := by decide +kernel
theorem dX10_wrong_19 : decode cX10_wrong 19 = .ok (.istore_n 2, 1) := by decide +kernel
theorem dX10_wrong_20 : decode cX10_wrong 20 = .ok (.iload_n 2, 1) := by decide +kernel
theorem dX10_wrong_21 : decode cX10_wrong 21 = .ok (.aload_n 0, 1) := by decide +kernel
theorem dX10_wrong_22 : decode cX10_wrong 22 = .ok (.getfield 87, 3) := by decide +kernel
theorem dX10_wrong_25 : decode cX10_wrong 25 = .ok (.if_icmp .ge 39, 3) := by decide +kernel
theorem dX10_wrong_28 : decode cX10_wrong 28 = .ok (.aload_n 0, 1) := by decide +kernel
theorem dX10_wrong_29 : decode cX10_wrong 29 = .ok (.invokevirtual 222, 3) := by decide +kernel
theorem dX10_wrong_32 : decode cX10_wrong 32 = .ok (.aload_n 0, 1) := by decide +kernel
theorem dX10_wrong_33 : decode cX10_wrong 33 = .ok (.getfield 38, 3) := by decide +kernel
theorem dX10_wrong_36 : decode cX10_wrong 36 = .ok (.iload_n 2, 1) := by decide +kernel
theorem dX10_wrong_37 : decode cX10_wrong 37 = .ok (.iconst 1, 1) := by decide +kernel
theorem dX10_wrong_38 : decode cX10_wrong 38 = .ok (.aload_n 0, 1) := by decide +kernel
theorem dX10_wrong_39 : decode cX10_wrong 39 = .ok (.getfield 38, 3) := by decide +kernel
theorem dX10_wrong_42 : decode cX10_wrong 42 = .ok (.iload_n 2, 1) := by decide +kernel
theorem dX10_wrong_43 : decode cX10_wrong 43 = .ok (.iaload, 1) := by decide +kernel
theorem dX10_wrong_44 : decode cX10_wrong 44 = .ok (.isub, 1) := by decide +kernel
theorem dX10_wrong_45 : decode cX10_wrong 45 = .ok (.iastore, 1) := by decide +kernel
theorem dX10_wrong_46 : decode cX10_wrong 46 = .ok (.iload_n 1, 1) := by decide +kernel
theorem dX10_wrong_47 : decode cX10_wrong 47 = .ok (.aload_n 0, 1) := by decide +kernel
theorem dX10_wrong_48 : decode cX10_wrong 48 = .ok (.invokevirtual 262, 3) := by decide +kernel
theorem dX10_wrong_51 : decode cX10_wrong 51 = .ok (.invokestatic 158, 3) := by decide +kernel
theorem dX10_wrong_54 : decode cX10_wrong 54 = .ok (.iload_n 2, 1) := by decide +kernel
theorem dX10_wrong_55 : decode cX10_wrong 55 = .ok (.ishl, 1) := by decide +kernel
theorem dX10_wrong_56 : decode cX10_wrong 56 = .ok (.ior, 1) := by decide +kernel
theorem dX10_wrong_57 : decode cX10_wrong 57 = .ok (.istore_n 1, 1) := by decide +kernel
theorem dX10_wrong_58 : decode cX10_wrong 58 = .ok (.iinc 2 1, 3) := by decide +kernel
theorem dX10_wrong_61 : decode cX10_wrong 61 = .ok (.goto (-41), 3) := by decide +kernel
theorem dX10_wrong_64 : decode cX10_wrong 64 = .ok (.iload_n 1, 1) := by decide +kernel
theorem dX10_wrong_65 : decode cX10_wrong 65 = .ok (.ireturn, 1) := by decide +kernel
theorem dX10_gulls_0 : decode cX10_gulls 0 = .ok (.iload_n 2, 1) := by decide +kernel
theorem dX10_gulls_1 : decode cX10_gulls 1 = .ok (.i2l, 1) := by decide +kernel
theorem dX10_gulls_2 : decode cX10_gulls 2 = .ok (.lconst 1, 1) := by decide +kernel
theorem dX10_gulls_3 : decode cX10_gulls 3 = .ok (.ldc2_w 238, 3) := by decide +kernel
theorem dX10_gulls_6 : decode cX10_gulls 6 = .ok (.invokestatic 95, 3) := by decide +kernel
theorem dX10_gulls_9 : decode cX10_gulls 9 = .ok (.ifCond .eq 13, 3) := by decide +kernel
theorem dX10_gulls_12 : decode cX10_gulls 12 = .ok (.iload_n 3, 1) := by decide +kernel
theorem dX10_gulls_13 : decode cX10_gulls 13 = .ok (.i2l, 1) := by decide +kernel
theorem dX10_gulls_14 : decode cX10_gulls 14 = .ok (.lconst 0, 1) := by decide +kernel
theorem dX10_gulls_15 : decode cX10_gulls 15 = .ok (.lconst 1, 1) := by decide +kernel
theorem dX10_gulls_16 : decode cX10_gulls 16 = .ok (.invokestatic 95, 3) := by decide +kernel
theorem dX10_gulls_19 : decode cX10_gulls 19 = .ok (.ifCond .ne 5, 3) := by decide +kernel
theorem dX10_gulls_22 : decode cX10_gulls 22 = .ok (.iconst (-1), 1) := by decide +kernel
theorem dX10_gulls_23 : decode cX10_gulls 23 = .ok (.ireturn, 1) := by decide +kernel
theorem dX10_gulls_24 : decode cX10_gulls 24 = .ok (.aload_n 0, 1) := by decide +kernel
theorem dX10_gulls_25 : decode cX10_gulls 25 = .ok (.invokevirtual 222, 3) := by decide +kernel
theorem dX10_gulls_28 : decode cX10_gulls 28 = .ok (.iload_n 1, 1) := by decide +kernel
theorem dX10_gulls_29 : decode cX10_gulls 29 = .ok (.istore 4, 2) := by decide +kernel
theorem dX10_gulls_31 : decode cX10_gulls 31 = .ok (.iconst 0, 1) := by decide +kernel
theorem dX10_gulls_32 : decode cX10_gulls 32 = .ok (.istore 5, 2) := by decide +kernel
theorem dX10_gulls_34 : decode cX10_gulls 34 = .ok (.iload 5, 2) := by decide +kernel
theorem dX10_gulls_36 : decode cX10_gulls 36 = .ok (.iload_n 2, 1) := by decide +kernel
theorem dX10_gulls_37 : decode cX10_gulls 37 = .ok (.if_icmp .ge 93, 3) := by decide +kernel
theorem dX10_gulls_40 : decode cX10_gulls 40 = .ok (.iload 4, 2) := by decide +kernel
theorem dX10_gulls_42 : decode cX10_gulls 42 = .ok (.ldc_w 265, 3) := by decide +kernel
theorem dX10_gulls_45 : decode cX10_gulls 45 = .ok (.imul, 1) := by decide +kernel
theorem dX10_gulls_46 : decode cX10_gulls 46 = .ok (.sipush 12345, 3) := by decide +kernel
theorem dX10_gulls_49 : decode cX10_gulls 49 = .ok (.iadd, 1) := by decide +kernel
theorem dX10_gulls_50 : decode cX10_gulls 50 = .ok (.istore 4, 2) := by decide +kernel
theorem dX10_gulls_52 : decode cX10_gulls 52 = .ok (.iload 4, 2) := by decide +kernel
theorem dX10_gulls_54 : decode cX10_gulls 54 = .ok (.bipush 16, 2) := by decide +kernel
theorem dX10_gulls_56 : decode cX10_gulls 56 = .ok (.ishr, 1) := by decide +kernel
theorem dX10_gulls_57 : decode cX10_gulls 57 = .ok (.sipush 32767, 3) := by decide +kernel
theorem dX10_gulls_60 : decode cX10_gulls 60 = .ok (.iand, 1) := by decide +kernel
theorem dX10_gulls_61 : decode cX10_gulls 61 = .ok (.aload_n 0, 1) := by decide +kernel
theorem dX10_gulls_62 : decode cX10_gulls 62 = .ok (.getfield 84, 3) := by decide +kernel
theorem dX10_gulls_65 : decode cX10_gulls 65 = .ok (.irem, 1) := by decide +kernel
theorem dX10_gulls_66 : decode cX10_gulls 66 = .ok (.istore 6, 2) := by decide +kernel
theorem dX10_gulls_68 : decode cX10_gulls 68 = .ok (.iconst 0, 1) := by decide +kernel
theorem dX10_gulls_69 : decode cX10_gulls 69 = .ok (.istore 7, 2) := by decide +kernel
theorem dX10_gulls_71 : decode cX10_gulls 71 = .ok (.iload 7, 2) := by decide +kernel
theorem dX10_gulls_73 : decode cX10_gulls 73 = .ok (.aload_n 0, 1) := by decide +kernel
theorem dX10_gulls_74 : decode cX10_gulls 74 = .ok (.getfield 7, 3) := by decide +kernel
theorem dX10_gulls_77 : decode cX10_gulls 77 = .ok (.bipush 8, 2) := by decide +kernel
theorem dX10_gulls_79 : decode cX10_gulls 79 = .ok (.iaload, 1) := by decide +kernel
theorem dX10_gulls_80 : decode cX10_gulls 80 = .ok (.if_icmp .ge 40, 3) := by decide +kernel
theorem dX10_gulls_83 : decode cX10_gulls 83 = .ok (.aload_n 0, 1) := by decide +kernel
theorem dX10_gulls_84 : decode cX10_gulls 84 = .ok (.getfield 29, 3) := by decide +kernel
theorem dX10_gulls_87 : decode cX10_gulls 87 = .ok (.iload 7, 2) := by decide +kernel
theorem dX10_gulls_89 : decode cX10_gulls 89 = .ok (.aload_n 0, 1) := by decide +kernel
theorem dX10_gulls_90 : decode cX10_gulls 90 = .ok (.getfield 29, 3) := by decide +kernel
theorem dX10_gulls_93 : decode cX10_gulls 93 = .ok (.iload 7, 2) := by decide +kernel
theorem dX10_gulls_95 : decode cX10_gulls 95 = .ok (.iaload, 1) := by decide +kernel
theorem dX10_gulls_96 : decode cX10_gulls 96 = .ok (.iload 6, 2) := by decide +kernel
theorem dX10_gulls_98 : decode cX10_gulls 98 = .ok (.if_icmp .ne 8, 3) := by decide +kernel
theorem dX10_gulls_101 : decode cX10_gulls 101 = .ok (.bipush 30, 2) := by decide +kernel
theorem dX10_gulls_103 : decode cX10_gulls 103 = .ok (.goto 10, 3) := by decide +kernel
theorem dX10_gulls_106 : decode cX10_gulls 106 = .ok (.aload_n 0, 1) := by decide +kernel
theorem dX10_gulls_107 : decode cX10_gulls 107 = .ok (.getfield 29, 3) := by decide +kernel
theorem dX10_gulls_110 : decode cX10_gulls 110 = .ok (.iload 7, 2) := by decide +kernel
theorem dX10_gulls_112 : decode cX10_gulls 112 = .ok (.iaload, 1) := by decide +kernel
theorem dX10_gulls_113 : decode cX10_gulls 113 = .ok (.iastore, 1) := by decide +kernel
theorem dX10_gulls_114 : decode cX10_gulls 114 = .ok (.iinc 7 1, 3) := by decide +kernel
theorem dX10_gulls_117 : decode cX10_gulls 117 = .ok (.goto (-46), 3) := by decide +kernel
theorem dX10_gulls_120 : decode cX10_gulls 120 = .ok (.aload_n 0, 1) := by decide +kernel
theorem dX10_gulls_121 : decode cX10_gulls 121 = .ok (.invokevirtual 213, 3) := by decide +kernel
theorem dX10_gulls_124 : decode cX10_gulls 124 = .ok (.iinc 5 1, 3) := by decide +kernel
theorem dX10_gulls_127 : decode cX10_gulls 127 = .ok (.goto (-93), 3) := by decide +kernel
theorem dX10_gulls_130 : decode cX10_gulls 130 = .ok (.iconst 0, 1) := by decide +kernel
theorem dX10_gulls_131 : decode cX10_gulls 131 = .ok (.istore 5, 2) := by decide +kernel
theorem dX10_gulls_133 : decode cX10_gulls 133 = .ok (.iconst 0, 1) := by decide +kernel
theorem dX10_gulls_134 : decode cX10_gulls 134 = .ok (.istore 6, 2) := by decide +kernel
theorem dX10_gulls_136 : decode cX10_gulls 136 = .ok (.iload 6, 2) := by decide +kernel
theorem dX10_gulls_138 : decode cX10_gulls 138 = .ok (.aload_n 0, 1) := by decide +kernel
theorem dX10_gulls_139 : decode cX10_gulls 139 = .ok (.getfield 7, 3) := by decide +kernel
theorem dX10_gulls_142 : decode cX10_gulls 142 = .ok (.bipush 8, 2) := by decide +kernel
theorem dX10_gulls_144 : decode cX10_gulls 144 = .ok (.iaload, 1) := by decide +kernel
theorem dX10_gulls_145 : decode cX10_gulls 145 = .ok (.if_icmp .ge 34, 3) := by decide +kernel
theorem dX10_gulls_148 : decode cX10_gulls 148 = .ok (.iload 5, 2) := by decide +kernel
theorem dX10_gulls_150 : decode cX10_gulls 150 = .ok (.aload_n 0, 1) := by decide +kernel
theorem dX10_gulls_151 : decode cX10_gulls 151 = .ok (.getfield 29, 3) := by decide +kernel
theorem dX10_gulls_154 : decode cX10_gulls 154 = .ok (.iload 6, 2) := by decide +kernel
theorem dX10_gulls_156 : decode cX10_gulls 156 = .ok (.iaload, 1) := by decide +kernel
theorem dX10_gulls_157 : decode cX10_gulls 157 = .ok (.bipush 30, 2) := by decide +kernel
theorem dX10_gulls_159 : decode cX10_gulls 159 = .ok (.if_icmp .ne 7, 3) := by decide +kernel
theorem dX10_gulls_162 : decode cX10_gulls 162 = .ok (.iconst 1, 1) := by decide +kernel
theorem dX10_gulls_163 : decode cX10_gulls 163 = .ok (.goto 4, 3) := by decide +kernel
theorem dX10_gulls_166 : decode cX10_gulls 166 = .ok (.iconst 0, 1) := by decide +kernel
theorem dX10_gulls_167 : decode cX10_gulls 167 = .ok (.invokestatic 158, 3) := by decide +kernel
theorem dX10_gulls_170 : decode cX10_gulls 170 = .ok (.iadd, 1) := by decide +kernel
theorem dX10_gulls_171 : decode cX10_gulls 171 = .ok (.istore 5, 2) := by decide +kernel
theorem dX10_gulls_173 : decode cX10_gulls 173 = .ok (.iinc 6 1, 3) := by decide +kernel
theorem dX10_gulls_176 : decode cX10_gulls 176 = .ok (.goto (-40), 3) := by decide +kernel
theorem dX10_gulls_179 : decode cX10_gulls 179 = .ok (.iload_n 3, 1) := by decide +kernel
theorem dX10_gulls_180 : decode cX10_gulls 180 = .ok (.ifCond .ne 8, 3) := by decide +kernel
theorem dX10_gulls_183 : decode cX10_gulls 183 = .ok (.iload 5, 2) := by decide +kernel
theorem dX10_gulls_185 : decode cX10_gulls 185 = .ok (.goto 7, 3) := by decide +kernel
theorem dX10_gulls_188 : decode cX10_gulls 188 = .ok (.aload_n 0, 1) := by decide +kernel
theorem dX10_gulls_189 : decode cX10_gulls 189 = .ok (.invokevirtual 210, 3) := by decide +kernel
theorem dX10_gulls_192 : decode cX10_gulls 192 = .ok (.ireturn, 1) := by decide +kernel
theorem dX10_copies_0 : decode cX10_copies 0 = .ok (.iconst 0, 1) := by decide +kernel
theorem dX10_copies_1 : decode cX10_copies 1 = .ok (.istore_n 3, 1) := by decide +kernel
theorem dX10_copies_2 : decode cX10_copies 2 = .ok (.iload_n 3, 1) := by decide +kernel
theorem dX10_copies_3 : decode cX10_copies 3 = .ok (.bipush 79, 2) := by decide +kernel
theorem dX10_copies_5 : decode cX10_copies 5 = .ok (.if_icmp .ge 25, 3) := by decide +kernel
theorem dX10_copies_8 : decode cX10_copies 8 = .ok (.aload_n 0, 1) := by decide +kernel
theorem dX10_copies_9 : decode cX10_copies 9 = .ok (.getfield 7, 3) := by decide +kernel
theorem dX10_copies_12 : decode cX10_copies 12 = .ok (.iload_n 1, 1) := by decide +kernel
theorem dX10_copies_13 : decode cX10_copies 13 = .ok (.iload_n 3, 1) := by decide +kernel
theorem dX10_copies_14 : decode cX10_copies 14 = .ok (.iadd, 1) := by decide +kernel
theorem dX10_copies_15 : decode cX10_copies 15 = .ok (.aload_n 0, 1) := by decide +kernel
theorem dX10_copies_16 : decode cX10_copies 16 = .ok (.getfield 7, 3) := by decide +kernel
theorem dX10_copies_19 : decode cX10_copies 19 = .ok (.iload_n 2, 1) := by decide +kernel
theorem dX10_copies_20 : decode cX10_copies 20 = .ok (.iload_n 3, 1) := by decide +kernel
theorem dX10_copies_21 : decode cX10_copies 21 = .ok (.iadd, 1) := by decide +kernel
theorem dX10_copies_22 : decode cX10_copies 22 = .ok (.iaload, 1) := by decide +kernel
theorem dX10_copies_23 : decode cX10_copies 23 = .ok (.iastore, 1) := by decide +kernel
theorem dX10_copies_24 : decode cX10_copies 24 = .ok (.iinc 3 1, 3) := by decide +kernel
theorem dX10_copies_27 : decode cX10_copies 27 = .ok (.goto (-25), 3) := by decide +kernel
theorem dX10_copies_30 : decode cX10_copies 30 = .ok (.return_, 1) := by decide +kernel
theorem dX10_keep_0 : decode cX10_keep 0 = .ok (.iload_n 1, 1) := by decide +kernel
theorem dX10_keep_1 : decode cX10_keep 1 = .ok (.i2l, 1) := by decide +kernel
theorem dX10_keep_2 : decode cX10_keep 2 = .ok (.lconst 0, 1) := by decide +kernel
theorem dX10_keep_3 : decode cX10_keep 3 = .ok (.lconst 1, 1) := by decide +kernel
theorem dX10_keep_4 : decode cX10_keep 4 = .ok (.invokestatic 95, 3) := by decide +kernel
theorem dX10_keep_7 : decode cX10_keep 7 = .ok (.ifCond .ne 5, 3) := by decide +kernel
theorem dX10_keep_10 : decode cX10_keep 10 = .ok (.iconst (-1), 1) := by decide +kernel
theorem dX10_keep_11 : decode cX10_keep 11 = .ok (.ireturn, 1) := by decide +kernel
theorem dX10_keep_12 : decode cX10_keep 12 = .ok (.aload_n 0, 1) := by decide +kernel
theorem dX10_keep_13 : decode cX10_keep 13 = .ok (.getfield 13, 3) := by decide +kernel
theorem dX10_keep_16 : decode cX10_keep 16 = .ok (.iload_n 1, 1) := by decide +kernel
theorem dX10_keep_17 : decode cX10_keep 17 = .ok (.baload, 1) := by decide +kernel
theorem dX10_keep_18 : decode cX10_keep 18 = .ok (.invokestatic 158, 3) := by decide +kernel
theorem dX10_keep_21 : decode cX10_keep 21 = .ok (.istore_n 2, 1) := by decide +kernel
theorem dX10_keep_22 : decode cX10_keep 22 = .ok (.aload_n 0, 1) := by decide +kernel
theorem dX10_keep_23 : decode cX10_keep 23 = .ok (.getfield 13, 3) := by decide +kernel
theorem dX10_keep_26 : decode cX10_keep 26 = .ok (.iload_n 1, 1) := by decide +kernel
theorem dX10_keep_27 : decode cX10_keep 27 = .ok (.iconst 1, 1) := by decide +kernel
theorem dX10_keep_28 : decode cX10_keep 28 = .ok (.bastore, 1) := by decide +kernel
theorem dX10_keep_29 : decode cX10_keep 29 = .ok (.aload_n 0, 1) := by decide +kernel
theorem dX10_keep_30 : decode cX10_keep 30 = .ok (.bipush 79, 2) := by decide +kernel
theorem dX10_keep_32 : decode cX10_keep 32 = .ok (.iload_n 1, 1) := by decide +kernel
theorem dX10_keep_33 : decode cX10_keep 33 = .ok (.iconst 1, 1) := by decide +kernel
theorem dX10_keep_34 : decode cX10_keep 34 = .ok (.iadd, 1) := by decide +kernel
theorem dX10_keep_35 : decode cX10_keep 35 = .ok (.imul, 1) := by decide +kernel
theorem dX10_keep_36 : decode cX10_keep 36 = .ok (.iconst 0, 1) := by decide +kernel
theorem dX10_keep_37 : decode cX10_keep 37 = .ok (.invokevirtual 266, 3) := by decide +kernel
theorem dX10_keep_40 : decode cX10_keep 40 = .ok (.iload_n 2, 1) := by decide +kernel
theorem dX10_keep_41 : decode cX10_keep 41 = .ok (.ireturn, 1) := by decide +kernel
theorem dX10_back_0 : decode cX10_back 0 = .ok (.iload_n 1, 1) := by decide +kernel
theorem dX10_back_1 : decode cX10_back 1 = .ok (.i2l, 1) := by decide +kernel
theorem dX10_back_2 : decode cX10_back 2 = .ok (.lconst 0, 1) := by decide +kernel
theorem dX10_back_3 : decode cX10_back 3 = .ok (.lconst 1, 1) := by decide +kernel
theorem dX10_back_4 : decode cX10_back 4 = .ok (.invokestatic 95, 3) := by decide +kernel
theorem dX10_back_7 : decode cX10_back 7 = .ok (.ifCond .ne 5, 3) := by decide +kernel
theorem dX10_back_10 : decode cX10_back 10 = .ok (.iconst (-1), 1) := by decide +kernel
theorem dX10_back_11 : decode cX10_back 11 = .ok (.ireturn, 1) := by decide +kernel
theorem dX10_back_12 : decode cX10_back 12 = .ok (.aload_n 0, 1) := by decide +kernel
theorem dX10_back_13 : decode cX10_back 13 = .ok (.getfield 13, 3) := by decide +kernel
theorem dX10_back_16 : decode cX10_back 16 = .ok (.iload_n 1, 1) := by decide +kernel
theorem dX10_back_17 : decode cX10_back 17 = .ok (.baload, 1) := by decide +kernel
theorem dX10_back_18 : decode cX10_back 18 = .ok (.ifCond .ne 6, 3) := by decide +kernel
theorem dX10_back_21 : decode cX10_back 21 = .ok (.bipush (-2), 2) := by decide +kernel
theorem dX10_back_23 : decode cX10_back 23 = .ok (.ireturn, 1) := by decide +kernel
theorem dX10_back_24 : decode cX10_back 24 = .ok (.aload_n 0, 1) := by decide +kernel
theorem dX10_back_25 : decode cX10_back 25 = .ok (.iconst 0, 1) := by decide +kernel
theorem dX10_back_26 : decode cX10_back 26 = .ok (.bipush 79, 2) := by decide +kernel
theorem dX10_back_28 : decode cX10_back 28 = .ok (.iload_n 1, 1) := by decide +kernel
theorem dX10_back_29 : decode cX10_back 29 = .ok (.iconst 1, 1) := by decide +kernel
theorem dX10_back_30 : decode cX10_back 30 = .ok (.iadd, 1) := by decide +kernel
theorem dX10_back_31 : decode cX10_back 31 = .ok (.imul, 1) := by decide +kernel
theorem dX10_back_32 : decode cX10_back 32 = .ok (.invokevirtual 266, 3) := by decide +kernel
theorem dX10_back_35 : decode cX10_back 35 = .ok (.aload_n 0, 1) := by decide +kernel
theorem dX10_back_36 : decode cX10_back 36 = .ok (.getfield 7, 3) := by decide +kernel
theorem dX10_back_39 : decode cX10_back 39 = .ok (.bipush 45, 2) := by decide +kernel
theorem dX10_back_41 : decode cX10_back 41 = .ok (.iaload, 1) := by decide +kernel
theorem dX10_back_42 : decode cX10_back 42 = .ok (.ireturn, 1) := by decide +kernel
theorem dX10_isSheet_0 : decode cX10_isSheet 0 = .ok (.iload_n 0, 1) := by decide +kernel
theorem dX10_isSheet_1 : decode cX10_isSheet 1 = .ok (.i2l, 1) := by decide +kernel
theorem dX10_isSheet_2 : decode cX10_isSheet 2 = .ok (.lconst 0, 1) := by decide +kernel
theorem dX10_isSheet_3 : decode cX10_isSheet 3 = .ok (.ldc2_w 260, 3) := by decide +kernel
theorem dX10_isSheet_6 : decode cX10_isSheet 6 = .ok (.invokestatic 95, 3) := by decide +kernel
theorem dX10_isSheet_9 : decode cX10_isSheet 9 = .ok (.ifCond .eq 19, 3) := by decide +kernel
theorem dX10_isSheet_12 : decode cX10_isSheet 12 = .ok (.iload_n 1, 1) := by decide +kernel
theorem dX10_isSheet_13 : decode cX10_isSheet 13 = .ok (.i2l, 1) := by decide +kernel
theorem dX10_isSheet_14 : decode cX10_isSheet 14 = .ok (.lconst 0, 1) := by decide +kernel
theorem dX10_isSheet_15 : decode cX10_isSheet 15 = .ok (.ldc2_w 270, 3) := by decide +kernel
theorem dX10_isSheet_18 : decode cX10_isSheet 18 = .ok (.invokestatic 95, 3) := by decide +kernel
theorem dX10_isSheet_21 : decode cX10_isSheet 21 = .ok (.ifCond .eq 7, 3) := by decide +kernel
theorem dX10_isSheet_24 : decode cX10_isSheet 24 = .ok (.iconst 1, 1) := by decide +kernel
theorem dX10_isSheet_25 : decode cX10_isSheet 25 = .ok (.goto 4, 3) := by decide +kernel
theorem dX10_isSheet_28 : decode cX10_isSheet 28 = .ok (.iconst 0, 1) := by decide +kernel
theorem dX10_isSheet_29 : decode cX10_isSheet 29 = .ok (.ireturn, 1) := by decide +kernel
theorem dX10_sheet_0 : decode cX10_sheet 0 = .ok (.iload_n 1, 1) := by decide +kernel
theorem dX10_sheet_1 : decode cX10_sheet 1 = .ok (.iload_n 2, 1) := by decide +kernel
theorem dX10_sheet_2 : decode cX10_sheet 2 = .ok (.invokestatic 272, 3) := by decide +kernel
theorem dX10_sheet_5 : decode cX10_sheet 5 = .ok (.ifCond .eq 9, 3) := by decide +kernel
theorem dX10_sheet_8 : decode cX10_sheet 8 = .ok (.iload_n 3, 1) := by decide +kernel
theorem dX10_sheet_9 : decode cX10_sheet 9 = .ok (.bipush 40, 2) := by decide +kernel
theorem dX10_sheet_11 : decode cX10_sheet 11 = .ok (.if_icmp .le 5, 3) := by decide +kernel
theorem dX10_sheet_14 : decode cX10_sheet 14 = .ok (.iconst (-1), 1) := by decide +kernel
theorem dX10_sheet_15 : decode cX10_sheet 15 = .ok (.ireturn, 1) := by decide +kernel
theorem dX10_sheet_16 : decode cX10_sheet 16 = .ok (.iload_n 3, 1) := by decide +kernel
theorem dX10_sheet_17 : decode cX10_sheet 17 = .ok (.ifCond .ge 6, 3) := by decide +kernel
theorem dX10_sheet_20 : decode cX10_sheet 20 = .ok (.bipush (-14), 2) := by decide +kernel
theorem dX10_sheet_22 : decode cX10_sheet 22 = .ok (.ireturn, 1) := by decide +kernel
theorem dX10_sheet_23 : decode cX10_sheet 23 = .ok (.aload_n 0, 1) := by decide +kernel
theorem dX10_sheet_24 : decode cX10_sheet 24 = .ok (.getfield 56, 3) := by decide +kernel
theorem dX10_sheet_27 : decode cX10_sheet 27 = .ok (.iload_n 1, 1) := by decide +kernel
theorem dX10_sheet_28 : decode cX10_sheet 28 = .ok (.iload_n 2, 1) := by decide +kernel
theorem dX10_sheet_29 : decode cX10_sheet 29 = .ok (.iastore, 1) := by decide +kernel
theorem dX10_sheet_30 : decode cX10_sheet 30 = .ok (.aload_n 0, 1) := by decide +kernel
theorem dX10_sheet_31 : decode cX10_sheet 31 = .ok (.getfield 59, 3) := by decide +kernel
theorem dX10_sheet_34 : decode cX10_sheet 34 = .ok (.iload_n 1, 1) := by decide +kernel
theorem dX10_sheet_35 : decode cX10_sheet 35 = .ok (.iload_n 3, 1) := by decide +kernel
theorem dX10_sheet_36 : decode cX10_sheet 36 = .ok (.iastore, 1) := by decide +kernel
theorem dX10_sheet_37 : decode cX10_sheet 37 = .ok (.iconst 0, 1) := by decide +kernel
theorem dX10_sheet_38 : decode cX10_sheet 38 = .ok (.istore 4, 2) := by decide +kernel
theorem dX10_sheet_40 : decode cX10_sheet 40 = .ok (.iload 4, 2) := by decide +kernel
theorem dX10_sheet_42 : decode cX10_sheet 42 = .ok (.bipush 40, 2) := by decide +kernel
theorem dX10_sheet_44 : decode cX10_sheet 44 = .ok (.if_icmp .ge 22, 3) := by decide +kernel
theorem dX10_sheet_47 : decode cX10_sheet 47 = .ok (.aload_n 0, 1) := by decide +kernel
theorem dX10_sheet_48 : decode cX10_sheet 48 = .ok (.getfield 62, 3) := by decide +kernel
theorem dX10_sheet_51 : decode cX10_sheet 51 = .ok (.bipush 40, 2) := by decide +kernel
theorem dX10_sheet_53 : decode cX10_sheet 53 = .ok (.iload_n 1, 1) := by decide +kernel
theorem dX10_sheet_54 : decode cX10_sheet 54 = .ok (.imul, 1) := by decide +kernel
theorem dX10_sheet_55 : decode cX10_sheet 55 = .ok (.iload 4, 2) := by decide +kernel
theorem dX10_sheet_57 : decode cX10_sheet 57 = .ok (.iadd, 1) := by decide +kernel
theorem dX10_sheet_58 : decode cX10_sheet 58 = .ok (.iconst 0, 1) := by decide +kernel
theorem dX10_sheet_59 : decode cX10_sheet 59 = .ok (.iastore, 1) := by decide +kernel
theorem dX10_sheet_60 : decode cX10_sheet 60 = .ok (.iinc 4 1, 3) := by decide +kernel
theorem dX10_sheet_63 : decode cX10_sheet 63 = .ok (.goto (-23), 3) := by decide +kernel
theorem dX10_sheet_66 : decode cX10_sheet 66 = .ok (.iconst 1, 1) := by decide +kernel
theorem dX10_sheet_67 : decode cX10_sheet 67 = .ok (.ireturn, 1) := by decide +kernel
theorem dX10_lay_0 : decode cX10_lay 0 = .ok (.iload_n 1, 1) := by decide +kernel
theorem dX10_lay_1 : decode cX10_lay 1 = .ok (.iconst 0, 1) := by decide +kernel
theorem dX10_lay_2 : decode cX10_lay 2 = .ok (.invokestatic 272, 3) := by decide +kernel
theorem dX10_lay_5 : decode cX10_lay 5 = .ok (.ifCond .ne 5, 3) := by decide +kernel
theorem dX10_lay_8 : decode cX10_lay 8 = .ok (.iconst (-1), 1) := by decide +kernel
theorem dX10_lay_9 : decode cX10_lay 9 = .ok (.ireturn, 1) := by decide +kernel
theorem dX10_lay_10 : decode cX10_lay 10 = .ok (.aload_n 0, 1) := by decide +kernel
theorem dX10_lay_11 : decode cX10_lay 11 = .ok (.getfield 56, 3) := by decide +kernel
theorem dX10_lay_14 : decode cX10_lay 14 = .ok (.iload_n 1, 1) := by decide +kernel
theorem dX10_lay_15 : decode cX10_lay 15 = .ok (.iaload, 1) := by decide +kernel
theorem dX10_lay_16 : decode cX10_lay 16 = .ok (.bipush (-4), 2) := by decide +kernel
theorem dX10_lay_18 : decode cX10_lay 18 = .ok (.if_icmp .ne 6, 3) := by decide +kernel
theorem dX10_lay_21 : decode cX10_lay 21 = .ok (.bipush (-11), 2) := by decide +kernel
theorem dX10_lay_23 : decode cX10_lay 23 = .ok (.ireturn, 1) := by decide +kernel
theorem dX10_lay_24 : decode cX10_lay 24 = .ok (.iload_n 2, 1) := by decide +kernel
theorem dX10_lay_25 : decode cX10_lay 25 = .ok (.i2l, 1) := by decide +kernel
theorem dX10_lay_26 : decode cX10_lay 26 = .ok (.lconst 0, 1) := by decide +kernel
theorem dX10_lay_27 : decode cX10_lay 27 = .ok (.aload_n 0, 1) := by decide +kernel
theorem dX10_lay_28 : decode cX10_lay 28 = .ok (.getfield 59, 3) := by decide +kernel
theorem dX10_lay_31 : decode cX10_lay 31 = .ok (.iload_n 1, 1) := by decide +kernel
theorem dX10_lay_32 : decode cX10_lay 32 = .ok (.iaload, 1) := by decide +kernel
theorem dX10_lay_33 : decode cX10_lay 33 = .ok (.iconst 1, 1) := by decide +kernel
theorem dX10_lay_34 : decode cX10_lay 34 = .ok (.isub, 1) := by decide +kernel
theorem dX10_lay_35 : decode cX10_lay 35 = .ok (.i2l, 1) := by decide +kernel
theorem dX10_lay_36 : decode cX10_lay 36 = .ok (.invokestatic 95, 3) := by decide +kernel
theorem dX10_lay_39 : decode cX10_lay 39 = .ok (.ifCond .ne 6, 3) := by decide +kernel
theorem dX10_lay_42 : decode cX10_lay 42 = .ok (.bipush (-12), 2) := by decide +kernel
theorem dX10_lay_44 : decode cX10_lay 44 = .ok (.ireturn, 1) := by decide +kernel
theorem dX10_lay_45 : decode cX10_lay 45 = .ok (.aload_n 0, 1) := by decide +kernel
theorem dX10_lay_46 : decode cX10_lay 46 = .ok (.getfield 62, 3) := by decide +kernel
theorem dX10_lay_49 : decode cX10_lay 49 = .ok (.bipush 40, 2) := by decide +kernel
theorem dX10_lay_51 : decode cX10_lay 51 = .ok (.iload_n 1, 1) := by decide +kernel
theorem dX10_lay_52 : decode cX10_lay 52 = .ok (.imul, 1) := by decide +kernel
theorem dX10_lay_53 : decode cX10_lay 53 = .ok (.iload_n 2, 1) := by decide +kernel
theorem dX10_lay_54 : decode cX10_lay 54 = .ok (.iadd, 1) := by decide +kernel
theorem dX10_lay_55 : decode cX10_lay 55 = .ok (.aload_n 0, 1) := by decide +kernel
theorem dX10_lay_56 : decode cX10_lay 56 = .ok (.getfield 56, 3) := by decide +kernel
theorem dX10_lay_59 : decode cX10_lay 59 = .ok (.iload_n 1, 1) := by decide +kernel
theorem dX10_lay_60 : decode cX10_lay 60 = .ok (.iaload, 1) := by decide +kernel
theorem dX10_lay_61 : decode cX10_lay 61 = .ok (.ifCond .ne 8, 3) := by decide +kernel
theorem dX10_lay_64 : decode cX10_lay 64 = .ok (.iload_n 3, 1) := by decide +kernel
theorem dX10_lay_65 : decode cX10_lay 65 = .ok (.i2b, 1) := by decide +kernel
theorem dX10_lay_66 : decode cX10_lay 66 = .ok (.goto 19, 3) := by decide +kernel
theorem dX10_lay_69 : decode cX10_lay 69 = .ok (.aload_n 0, 1) := by decide +kernel
theorem dX10_lay_70 : decode cX10_lay 70 = .ok (.getfield 56, 3) := by decide +kernel
theorem dX10_lay_73 : decode cX10_lay 73 = .ok (.iload_n 1, 1) := by decide +kernel
theorem dX10_lay_74 : decode cX10_lay 74 = .ok (.iaload, 1) := by decide +kernel
theorem dX10_lay_75 : decode cX10_lay 75 = .ok (.iconst 1, 1) := by decide +kernel
theorem dX10_lay_76 : decode cX10_lay 76 = .ok (.if_icmp .ne 8, 3) := by decide +kernel
theorem dX10_lay_79 : decode cX10_lay 79 = .ok (.iload_n 3, 1) := by decide +kernel
theorem dX10_lay_80 : decode cX10_lay 80 = .ok (.i2s, 1) := by decide +kernel
theorem dX10_lay_81 : decode cX10_lay 81 = .ok (.goto 4, 3) := by decide +kernel
theorem dX10_lay_84 : decode cX10_lay 84 = .ok (.iload_n 3, 1) := by decide +kernel
theorem dX10_lay_85 : decode cX10_lay 85 = .ok (.iastore, 1) := by decide +kernel
theorem dX10_lay_86 : decode cX10_lay 86 = .ok (.iconst 1, 1) := by decide +kernel
theorem dX10_lay_87 : decode cX10_lay 87 = .ok (.ireturn, 1) := by decide +kernel
theorem dX10_read_0 : decode cX10_read 0 = .ok (.iload_n 1, 1) := by decide +kernel
theorem dX10_read_1 : decode cX10_read 1 = .ok (.iload_n 2, 1) := by decide +kernel
theorem dX10_read_2 : decode cX10_read 2 = .ok (.invokestatic 272, 3) := by decide +kernel
theorem dX10_read_5 : decode cX10_read 5 = .ok (.ifCond .eq 16, 3) := by decide +kernel
theorem dX10_read_8 : decode cX10_read 8 = .ok (.iload 4, 2) := by decide +kernel
theorem dX10_read_10 : decode cX10_read 10 = .ok (.i2l, 1) := by decide +kernel
theorem dX10_read_11 : decode cX10_read 11 = .ok (.lconst 0, 1) := by decide +kernel
theorem dX10_read_12 : decode cX10_read 12 = .ok (.ldc2_w 245, 3) := by decide +kernel
theorem dX10_read_15 : decode cX10_read 15 = .ok (.invokestatic 95, 3) := by decide +kernel
theorem dX10_read_18 : decode cX10_read 18 = .ok (.ifCond .ne 5, 3) := by decide +kernel
theorem dX10_read_21 : decode cX10_read 21 = .ok (.iconst (-1), 1) := by decide +kernel
theorem dX10_read_22 : decode cX10_read 22 = .ok (.ireturn, 1) := by decide +kernel
theorem dX10_read_23 : decode cX10_read 23 = .ok (.aload_n 0, 1) := by decide +kernel
theorem dX10_read_24 : decode cX10_read 24 = .ok (.getfield 7, 3) := by decide +kernel
theorem dX10_read_27 : decode cX10_read 27 = .ok (.bipush 8, 2) := by decide +kernel
theorem dX10_read_29 : decode cX10_read 29 = .ok (.iaload, 1) := by decide +kernel
theorem dX10_read_30 : decode cX10_read 30 = .ok (.istore 5, 2) := by decide +kernel
theorem dX10_read_32 : decode cX10_read 32 = .ok (.iconst 0, 1) := by decide +kernel
theorem dX10_read_33 : decode cX10_read 33 = .ok (.istore 6, 2) := by decide +kernel
theorem dX10_read_35 : decode cX10_read 35 = .ok (.iconst 0, 1) := by decide +kernel
theorem dX10_read_36 : decode cX10_read 36 = .ok (.istore 7, 2) := by decide +kernel
theorem dX10_read_38 : decode cX10_read 38 = .ok (.iconst 0, 1) := by decide +kernel
theorem dX10_read_39 : decode cX10_read 39 = .ok (.istore 8, 2) := by decide +kernel
theorem dX10_read_41 : decode cX10_read 41 = .ok (.iload 8, 2) := by decide +kernel
theorem dX10_read_43 : decode cX10_read 43 = .ok (.iload 4, 2) := by decide +kernel
theorem dX10_read_45 : decode cX10_read 45 = .ok (.if_icmp .ge 163, 3) := by decide +kernel
theorem dX10_read_48 : decode cX10_read 48 = .ok (.iload 6, 2) := by decide +kernel
theorem dX10_read_50 : decode cX10_read 50 = .ok (.ifCond .ne 158, 3) := by decide +kernel
theorem dX10_read_53 : decode cX10_read 53 = .ok (.iconst 0, 1) := by decide +kernel
theorem dX10_read_54 : decode cX10_read 54 = .ok (.istore 9, 2) := by decide +kernel
theorem dX10_read_56 : decode cX10_read 56 = .ok (.iload 9, 2) := by decide +kernel
theorem dX10_read_58 : decode cX10_read 58 = .ok (.iconst 2, 1) := by decide +kernel
theorem dX10_read_59 : decode cX10_read 59 = .ok (.if_icmp .ge 84, 3) := by decide +kernel
theorem dX10_read_62 : decode cX10_read 62 = .ok (.iload 6, 2) := by decide +kernel
theorem dX10_read_64 : decode cX10_read 64 = .ok (.ifCond .ne 79, 3) := by decide +kernel
theorem dX10_read_67 : decode cX10_read 67 = .ok (.iload_n 3, 1) := by decide +kernel
theorem dX10_read_68 : decode cX10_read 68 = .ok (.i2l, 1) := by decide +kernel
theorem dX10_read_69 : decode cX10_read 69 = .ok (.iconst 2, 1) := by decide +kernel
theorem dX10_read_70 : decode cX10_read 70 = .ok (.iload 8, 2) := by decide +kernel
theorem dX10_read_72 : decode cX10_read 72 = .ok (.imul, 1) := by decide +kernel
theorem dX10_read_73 : decode cX10_read 73 = .ok (.i2l, 1) := by decide +kernel
theorem dX10_read_74 : decode cX10_read 74 = .ok (.ladd, 1) := by decide +kernel
theorem dX10_read_75 : decode cX10_read 75 = .ok (.iload 9, 2) := by decide +kernel
theorem dX10_read_77 : decode cX10_read 77 = .ok (.i2l, 1) := by decide +kernel
theorem dX10_read_78 : decode cX10_read 78 = .ok (.ladd, 1) := by decide +kernel
theorem dX10_read_79 : decode cX10_read 79 = .ok (.lstore 10, 2) := by decide +kernel
theorem dX10_read_81 : decode cX10_read 81 = .ok (.aload_n 0, 1) := by decide +kernel
theorem dX10_read_82 : decode cX10_read 82 = .ok (.getfield 56, 3) := by decide +kernel
theorem dX10_read_85 : decode cX10_read 85 = .ok (.iload_n 1, 1) := by decide +kernel
theorem dX10_read_86 : decode cX10_read 86 = .ok (.iaload, 1) := by decide +kernel
theorem dX10_read_87 : decode cX10_read 87 = .ok (.bipush (-4), 2) := by decide +kernel
theorem dX10_read_89 : decode cX10_read 89 = .ok (.if_icmp .ne 7, 3) := by decide +kernel
theorem dX10_read_92 : decode cX10_read 92 = .ok (.iconst 1, 1) := by decide +kernel
theorem dX10_read_93 : decode cX10_read 93 = .ok (.goto 42, 3) := by decide +kernel
theorem dX10_read_96 : decode cX10_read 96 = .ok (.aload_n 0, 1) := by decide +kernel
theorem dX10_read_97 : decode cX10_read 97 = .ok (.getfield 56, 3) := by decide +kernel
theorem dX10_read_100 : decode cX10_read 100 = .ok (.iload_n 1, 1) := by decide +kernel
theorem dX10_read_101 : decode cX10_read 101 = .ok (.iaload, 1) := by decide +kernel
theorem dX10_read_102 : decode cX10_read 102 = .ok (.iload_n 2, 1) := by decide +kernel
theorem dX10_read_103 : decode cX10_read 103 = .ok (.if_icmp .eq 7, 3) := by decide +kernel
theorem dX10_read_106 : decode cX10_read 106 = .ok (.iconst 3, 1) := by decide +kernel
theorem dX10_read_107 : decode cX10_read 107 = .ok (.goto 28, 3) := by decide +kernel
theorem dX10_read_110 : decode cX10_read 110 = .ok (.lload 10, 2) := by decide +kernel
theorem dX10_read_112 : decode cX10_read 112 = .ok (.lconst 0, 1) := by decide +kernel
theorem dX10_read_113 : decode cX10_read 113 = .ok (.lcmp, 1) := by decide +kernel
theorem dX10_read_114 : decode cX10_read 114 = .ok (.ifCond .lt 16, 3) := by decide +kernel
theorem dX10_read_117 : decode cX10_read 117 = .ok (.lload 10, 2) := by decide +kernel
theorem dX10_read_119 : decode cX10_read 119 = .ok (.aload_n 0, 1) := by decide +kernel
theorem dX10_read_120 : decode cX10_read 120 = .ok (.getfield 59, 3) := by decide +kernel
theorem dX10_read_123 : decode cX10_read 123 = .ok (.iload_n 1, 1) := by decide +kernel
theorem dX10_read_124 : decode cX10_read 124 = .ok (.iaload, 1) := by decide +kernel
theorem dX10_read_125 : decode cX10_read 125 = .ok (.i2l, 1) := by decide +kernel
theorem dX10_read_126 : decode cX10_read 126 = .ok (.lcmp, 1) := by decide +kernel
theorem dX10_read_127 : decode cX10_read 127 = .ok (.ifCond .lt 7, 3) := by decide +kernel
theorem dX10_read_130 : decode cX10_read 130 = .ok (.iconst 2, 1) := by decide +kernel
theorem dX10_read_131 : decode cX10_read 131 = .ok (.goto 4, 3) := by decide +kernel
theorem dX10_read_134 : decode cX10_read 134 = .ok (.iconst 0, 1) := by decide +kernel
theorem dX10_read_135 : decode cX10_read 135 = .ok (.istore 6, 2) := by decide +kernel
theorem dX10_read_137 : decode cX10_read 137 = .ok (.iinc 9 1, 3) := by decide +kernel
theorem dX10_read_140 : decode cX10_read 140 = .ok (.goto (-84), 3) := by decide +kernel
theorem dX10_read_143 : decode cX10_read 143 = .ok (.iload 6, 2) := by decide +kernel
theorem dX10_read_145 : decode cX10_read 145 = .ok (.ifCond .ne 57, 3) := by decide +kernel
theorem dX10_read_148 : decode cX10_read 148 = .ok (.bipush 40, 2) := by decide +kernel
theorem dX10_read_150 : decode cX10_read 150 = .ok (.iload_n 1, 1) := by decide +kernel
theorem dX10_read_151 : decode cX10_read 151 = .ok (.imul, 1) := by decide +kernel
theorem dX10_read_152 : decode cX10_read 152 = .ok (.iload_n 3, 1) := by decide +kernel
theorem dX10_read_153 : decode cX10_read 153 = .ok (.iadd, 1) := by decide +kernel
theorem dX10_read_154 : decode cX10_read 154 = .ok (.iconst 2, 1) := by decide +kernel
theorem dX10_read_155 : decode cX10_read 155 = .ok (.iload 8, 2) := by decide +kernel
theorem dX10_read_157 : decode cX10_read 157 = .ok (.imul, 1) := by decide +kernel
theorem dX10_read_158 : decode cX10_read 158 = .ok (.iadd, 1) := by decide +kernel
theorem dX10_read_159 : decode cX10_read 159 = .ok (.istore 9, 2) := by decide +kernel
theorem dX10_read_161 : decode cX10_read 161 = .ok (.aload_n 0, 1) := by decide +kernel
theorem dX10_read_162 : decode cX10_read 162 = .ok (.aload_n 0, 1) := by decide +kernel
theorem dX10_read_163 : decode cX10_read 163 = .ok (.getfield 62, 3) := by decide +kernel
theorem dX10_read_166 : decode cX10_read 166 = .ok (.iload 9, 2) := by decide +kernel
theorem dX10_read_168 : decode cX10_read 168 = .ok (.iaload, 1) := by decide +kernel
theorem dX10_read_169 : decode cX10_read 169 = .ok (.aload_n 0, 1) := by decide +kernel
theorem dX10_read_170 : decode cX10_read 170 = .ok (.getfield 62, 3) := by decide +kernel
theorem dX10_read_173 : decode cX10_read 173 = .ok (.iload 9, 2) := by decide +kernel
theorem dX10_read_175 : decode cX10_read 175 = .ok (.iconst 1, 1) := by decide +kernel
theorem dX10_read_176 : decode cX10_read 176 = .ok (.iadd, 1) := by decide +kernel
theorem dX10_read_177 : decode cX10_read 177 = .ok (.iaload, 1) := by decide +kernel
theorem dX10_read_178 : decode cX10_read 178 = .ok (.invokevirtual 275, 3) := by decide +kernel
theorem dX10_read_181 : decode cX10_read 181 = .ok (.ifCond .ge 18, 3) := by decide +kernel
theorem dX10_read_184 : decode cX10_read 184 = .ok (.aload_n 0, 1) := by decide +kernel
theorem dX10_read_185 : decode cX10_read 185 = .ok (.getfield 7, 3) := by decide +kernel
theorem dX10_read_188 : decode cX10_read 188 = .ok (.bipush 8, 2) := by decide +kernel
theorem dX10_read_190 : decode cX10_read 190 = .ok (.iload 5, 2) := by decide +kernel
theorem dX10_read_192 : decode cX10_read 192 = .ok (.iastore, 1) := by decide +kernel
theorem dX10_read_193 : decode cX10_read 193 = .ok (.bipush (-20), 2) := by decide +kernel
theorem dX10_read_195 : decode cX10_read 195 = .ok (.iload 8, 2) := by decide +kernel
theorem dX10_read_197 : decode cX10_read 197 = .ok (.isub, 1) := by decide +kernel
theorem dX10_read_198 : decode cX10_read 198 = .ok (.ireturn, 1) := by decide +kernel
theorem dX10_read_199 : decode cX10_read 199 = .ok (.iinc 7 1, 3) := by decide +kernel
theorem dX10_read_202 : decode cX10_read 202 = .ok (.iinc 8 1, 3) := by decide +kernel
theorem dX10_read_205 : decode cX10_read 205 = .ok (.goto (-164), 3) := by decide +kernel
theorem dX10_read_208 : decode cX10_read 208 = .ok (.aload_n 0, 1) := by decide +kernel
theorem dX10_read_209 : decode cX10_read 209 = .ok (.iload 6, 2) := by decide +kernel
theorem dX10_read_211 : decode cX10_read 211 = .ok (.putfield 278, 3) := by decide +kernel
theorem dX10_read_214 : decode cX10_read 214 = .ok (.iload 7, 2) := by decide +kernel
theorem dX10_read_216 : decode cX10_read 216 = .ok (.ireturn, 1) := by decide +kernel
theorem dX10_torn_0 : decode cX10_torn 0 = .ok (.aload_n 0, 1) := by decide +kernel
theorem dX10_torn_1 : decode cX10_torn 1 = .ok (.getfield 278, 3) := by decide +kernel
theorem dX10_torn_4 : decode cX10_torn 4 = .ok (.ireturn, 1) := by decide +kernel
theorem dX10_count_0 : decode cX10_count 0 = .ok (.iconst 0, 1) := by decide +kernel
theorem dX10_count_1 : decode cX10_count 1 = .ok (.istore_n 2, 1) := by decide +kernel
theorem dX10_count_2 : decode cX10_count 2 = .ok (.iconst 0, 1) := by decide +kernel
theorem dX10_count_3 : decode cX10_count 3 = .ok (.istore_n 3, 1) := by decide +kernel
theorem dX10_count_4 : decode cX10_count 4 = .ok (.iconst 0, 1) := by decide +kernel
theorem dX10_count_5 : decode cX10_count 5 = .ok (.istore 4, 2) := by decide +kernel
theorem dX10_count_7 : decode cX10_count 7 = .ok (.iconst 0, 1) := by decide +kernel
theorem dX10_count_8 : decode cX10_count 8 = .ok (.istore 5, 2) := by decide +kernel
theorem dX10_count_10 : decode cX10_count 10 = .ok (.iload 5, 2) := by decide +kernel
theorem dX10_count_12 : decode cX10_count 12 = .ok (.aload_n 0, 1) := by decide +kernel
theorem dX10_count_13 : decode cX10_count 13 = .ok (.getfield 7, 3) := by decide +kernel
theorem dX10_count_16 : decode cX10_count 16 = .ok (.bipush 8, 2) := by decide +kernel
theorem dX10_count_18 : decode cX10_count 18 = .ok (.iaload, 1) := by decide +kernel
theorem dX10_count_19 : decode cX10_count 19 = .ok (.if_icmp .ge 89, 3) := by decide +kernel
theorem dX10_count_22 : decode cX10_count 22 = .ok (.iload_n 2, 1) := by decide +kernel
theorem dX10_count_23 : decode cX10_count 23 = .ok (.aload_n 0, 1) := by decide +kernel
theorem dX10_count_24 : decode cX10_count 24 = .ok (.getfield 7, 3) := by decide +kernel
theorem dX10_count_27 : decode cX10_count 27 = .ok (.bipush 21, 2) := by decide +kernel
theorem dX10_count_29 : decode cX10_count 29 = .ok (.iload 5, 2) := by decide +kernel
theorem dX10_count_31 : decode cX10_count 31 = .ok (.iadd, 1) := by decide +kernel
theorem dX10_count_32 : decode cX10_count 32 = .ok (.iaload, 1) := by decide +kernel
theorem dX10_count_33 : decode cX10_count 33 = .ok (.bipush 8, 2) := by decide +kernel
theorem dX10_count_35 : decode cX10_count 35 = .ok (.if_icmp .ge 7, 3) := by decide +kernel
theorem dX10_count_38 : decode cX10_count 38 = .ok (.iconst 1, 1) := by decide +kernel
theorem dX10_count_39 : decode cX10_count 39 = .ok (.goto 4, 3) := by decide +kernel
theorem dX10_count_42 : decode cX10_count 42 = .ok (.iconst 0, 1) := by decide +kernel
theorem dX10_count_43 : decode cX10_count 43 = .ok (.invokestatic 158, 3) := by decide +kernel
theorem dX10_count_46 : decode cX10_count 46 = .ok (.iadd, 1) := by decide +kernel
theorem dX10_count_47 : decode cX10_count 47 = .ok (.istore_n 2, 1) := by decide +kernel
theorem dX10_count_48 : decode cX10_count 48 = .ok (.iload_n 3, 1) := by decide +kernel
theorem dX10_count_49 : decode cX10_count 49 = .ok (.aload_n 0, 1) := by decide +kernel
theorem dX10_count_50 : decode cX10_count 50 = .ok (.getfield 7, 3) := by decide +kernel
theorem dX10_count_53 : decode cX10_count 53 = .ok (.bipush 21, 2) := by decide +kernel
theorem dX10_count_55 : decode cX10_count 55 = .ok (.iload 5, 2) := by decide +kernel
theorem dX10_count_57 : decode cX10_count 57 = .ok (.iadd, 1) := by decide +kernel
theorem dX10_count_58 : decode cX10_count 58 = .ok (.iaload, 1) := by decide +kernel
theorem dX10_count_59 : decode cX10_count 59 = .ok (.i2l, 1) := by decide +kernel
theorem dX10_count_60 : decode cX10_count 60 = .ok (.ldc2_w 243, 3) := by decide +kernel
theorem dX10_count_63 : decode cX10_count 63 = .ok (.ldc2_w 245, 3) := by decide +kernel
theorem dX10_count_66 : decode cX10_count 66 = .ok (.invokestatic 95, 3) := by decide +kernel
theorem dX10_count_69 : decode cX10_count 69 = .ok (.invokestatic 158, 3) := by decide +kernel
theorem dX10_count_72 : decode cX10_count 72 = .ok (.iadd, 1) := by decide +kernel
theorem dX10_count_73 : decode cX10_count 73 = .ok (.istore_n 3, 1) := by decide +kernel
theorem dX10_count_74 : decode cX10_count 74 = .ok (.iload 4, 2) := by decide +kernel
theorem dX10_count_76 : decode cX10_count 76 = .ok (.aload_n 0, 1) := by decide +kernel
theorem dX10_count_77 : decode cX10_count 77 = .ok (.getfield 7, 3) := by decide +kernel
theorem dX10_count_80 : decode cX10_count 80 = .ok (.bipush 21, 2) := by decide +kernel
theorem dX10_count_82 : decode cX10_count 82 = .ok (.iload 5, 2) := by decide +kernel
theorem dX10_count_84 : decode cX10_count 84 = .ok (.iadd, 1) := by decide +kernel
theorem dX10_count_85 : decode cX10_count 85 = .ok (.iaload, 1) := by decide +kernel
theorem dX10_count_86 : decode cX10_count 86 = .ok (.i2l, 1) := by decide +kernel
theorem dX10_count_87 : decode cX10_count 87 = .ok (.ldc2_w 253, 3) := by decide +kernel
theorem dX10_count_90 : decode cX10_count 90 = .ok (.ldc2_w 255, 3) := by decide +kernel
theorem dX10_count_93 : decode cX10_count 93 = .ok (.invokestatic 95, 3) := by decide +kernel
theorem dX10_count_96 : decode cX10_count 96 = .ok (.invokestatic 158, 3) := by decide +kernel
theorem dX10_count_99 : decode cX10_count 99 = .ok (.iadd, 1) := by decide +kernel
theorem dX10_count_100 : decode cX10_count 100 = .ok (.istore 4, 2) := by decide +kernel
theorem dX10_count_102 : decode cX10_count 102 = .ok (.iinc 5 1, 3) := by decide +kernel
theorem dX10_count_105 : decode cX10_count 105 = .ok (.goto (-95), 3) := by decide +kernel
theorem dX10_count_108 : decode cX10_count 108 = .ok (.iload_n 1, 1) := by decide +kernel
theorem dX10_count_109 : decode cX10_count 109 = .ok (.tableswitch 130 0 8 #[51, 53, 55, 58, 65, 74, 82, 102, 107], 51) := by decide +kernel
theorem dX10_count_160 : decode cX10_count 160 = .ok (.iload_n 2, 1) := by decide +kernel
theorem dX10_count_161 : decode cX10_count 161 = .ok (.ireturn, 1) := by decide +kernel
theorem dX10_count_162 : decode cX10_count 162 = .ok (.iload_n 3, 1) := by decide +kernel
theorem dX10_count_163 : decode cX10_count 163 = .ok (.ireturn, 1) := by decide +kernel
theorem dX10_count_164 : decode cX10_count 164 = .ok (.iload 4, 2) := by decide +kernel
theorem dX10_count_166 : decode cX10_count 166 = .ok (.ireturn, 1) := by decide +kernel
theorem dX10_count_167 : decode cX10_count 167 = .ok (.aload_n 0, 1) := by decide +kernel
theorem dX10_count_168 : decode cX10_count 168 = .ok (.bipush 30, 2) := by decide +kernel
theorem dX10_count_170 : decode cX10_count 170 = .ok (.invokevirtual 230, 3) := by decide +kernel
theorem dX10_count_173 : decode cX10_count 173 = .ok (.ireturn, 1) := by decide +kernel
theorem dX10_count_174 : decode cX10_count 174 = .ok (.aload_n 0, 1) := by decide +kernel
theorem dX10_count_175 : decode cX10_count 175 = .ok (.invokevirtual 222, 3) := by decide +kernel
theorem dX10_count_178 : decode cX10_count 178 = .ok (.aload_n 0, 1) := by decide +kernel
theorem dX10_count_179 : decode cX10_count 179 = .ok (.invokevirtual 210, 3) := by decide +kernel
theorem dX10_count_182 : decode cX10_count 182 = .ok (.ireturn, 1) := by decide +kernel
theorem dX10_count_183 : decode cX10_count 183 = .ok (.aload_n 0, 1) := by decide +kernel
theorem dX10_count_184 : decode cX10_count 184 = .ok (.getfield 7, 3) := by decide +kernel
theorem dX10_count_187 : decode cX10_count 187 = .ok (.bipush 46, 2) := by decide +kernel
theorem dX10_count_189 : decode cX10_count 189 = .ok (.iaload, 1) := by decide +kernel
theorem dX10_count_190 : decode cX10_count 190 = .ok (.ireturn, 1) := by decide +kernel
theorem dX10_count_191 : decode cX10_count 191 = .ok (.aload_n 0, 1) := by decide +kernel
theorem dX10_count_192 : decode cX10_count 192 = .ok (.getfield 13, 3) := by decide +kernel
theorem dX10_count_195 : decode cX10_count 195 = .ok (.iconst 0, 1) := by decide +kernel
theorem dX10_count_196 : decode cX10_count 196 = .ok (.baload, 1) := by decide +kernel
theorem dX10_count_197 : decode cX10_count 197 = .ok (.invokestatic 158, 3) := by decide +kernel
theorem dX10_count_200 : decode cX10_count 200 = .ok (.aload_n 0, 1) := by decide +kernel
theorem dX10_count_201 : decode cX10_count 201 = .ok (.getfield 13, 3) := by decide +kernel
theorem dX10_count_204 : decode cX10_count 204 = .ok (.iconst 1, 1) := by decide +kernel
theorem dX10_count_205 : decode cX10_count 205 = .ok (.baload, 1) := by decide +kernel
theorem dX10_count_206 : decode cX10_count 206 = .ok (.invokestatic 158, 3) := by decide +kernel
theorem dX10_count_209 : decode cX10_count 209 = .ok (.iadd, 1) := by decide +kernel
theorem dX10_count_210 : decode cX10_count 210 = .ok (.ireturn, 1) := by decide +kernel
theorem dX10_count_211 : decode cX10_count 211 = .ok (.aload_n 0, 1) := by decide +kernel
theorem dX10_count_212 : decode cX10_count 212 = .ok (.getfield 90, 3) := by decide +kernel
theorem dX10_count_215 : decode cX10_count 215 = .ok (.ireturn, 1) := by decide +kernel
theorem dX10_count_216 : decode cX10_count 216 = .ok (.aload_n 0, 1) := by decide +kernel
theorem dX10_count_217 : decode cX10_count 217 = .ok (.getfield 56, 3) := by decide +kernel
theorem dX10_count_220 : decode cX10_count 220 = .ok (.iconst 0, 1) := by decide +kernel
theorem dX10_count_221 : decode cX10_count 221 = .ok (.iaload, 1) := by decide +kernel
theorem dX10_count_222 : decode cX10_count 222 = .ok (.bipush (-4), 2) := by decide +kernel
theorem dX10_count_224 : decode cX10_count 224 = .ok (.if_icmp .ne 8, 3) := by decide +kernel
theorem dX10_count_227 : decode cX10_count 227 = .ok (.bipush (-4), 2) := by decide +kernel
theorem dX10_count_229 : decode cX10_count 229 = .ok (.goto 9, 3) := by decide +kernel
theorem dX10_count_232 : decode cX10_count 232 = .ok (.aload_n 0, 1) := by decide +kernel
theorem dX10_count_233 : decode cX10_count 233 = .ok (.getfield 59, 3) := by decide +kernel
theorem dX10_count_236 : decode cX10_count 236 = .ok (.iconst 0, 1) := by decide +kernel
theorem dX10_count_237 : decode cX10_count 237 = .ok (.iaload, 1) := by decide +kernel
theorem dX10_count_238 : decode cX10_count 238 = .ok (.ireturn, 1) := by decide +kernel
theorem dX10_count_239 : decode cX10_count 239 = .ok (.iconst (-1), 1) := by decide +kernel
theorem dX10_count_240 : decode cX10_count 240 = .ok (.ireturn, 1) := by decide +kernel
theorem dJ6_bitCount_0f7a4_0 : decode cJ6_bitCount_0f7a4 0 = .ok (.iload_n 0, 1) := by decide +kernel
theorem dJ6_bitCount_0f7a4_1 : decode cJ6_bitCount_0f7a4 1 = .ok (.iload_n 0, 1) := by decide +kernel
theorem dJ6_bitCount_0f7a4_2 : decode cJ6_bitCount_0f7a4 2 = .ok (.iconst 1, 1) := by decide +kernel
theorem dJ6_bitCount_0f7a4_3 : decode cJ6_bitCount_0f7a4 3 = .ok (.iushr, 1) := by decide +kernel
theorem dJ6_bitCount_0f7a4_4 : decode cJ6_bitCount_0f7a4 4 = .ok (.ldc_w 265, 3) := by decide +kernel
theorem dJ6_bitCount_0f7a4_7 : decode cJ6_bitCount_0f7a4 7 = .ok (.iand, 1) := by decide +kernel
theorem dJ6_bitCount_0f7a4_8 : decode cJ6_bitCount_0f7a4 8 = .ok (.isub, 1) := by decide +kernel
theorem dJ6_bitCount_0f7a4_9 : decode cJ6_bitCount_0f7a4 9 = .ok (.istore_n 0, 1) := by decide +kernel
theorem dJ6_bitCount_0f7a4_10 : decode cJ6_bitCount_0f7a4 10 = .ok (.iload_n 0, 1) := by decide +kernel
theorem dJ6_bitCount_0f7a4_11 : decode cJ6_bitCount_0f7a4 11 = .ok (.ldc_w 266, 3) := by decide +kernel
theorem dJ6_bitCount_0f7a4_14 : decode cJ6_bitCount_0f7a4 14 = .ok (.iand, 1) := by decide +kernel
theorem dJ6_bitCount_0f7a4_15 : decode cJ6_bitCount_0f7a4 15 = .ok (.iload_n 0, 1) := by decide +kernel
theorem dJ6_bitCount_0f7a4_16 : decode cJ6_bitCount_0f7a4 16 = .ok (.iconst 2, 1) := by decide +kernel
theorem dJ6_bitCount_0f7a4_17 : decode cJ6_bitCount_0f7a4 17 = .ok (.iushr, 1) := by decide +kernel
theorem dJ6_bitCount_0f7a4_18 : decode cJ6_bitCount_0f7a4 18 = .ok (.ldc_w 266, 3) := by decide +kernel
theorem dJ6_bitCount_0f7a4_21 : decode cJ6_bitCount_0f7a4 21 = .ok (.iand, 1) := by decide +kernel
theorem dJ6_bitCount_0f7a4_22 : decode cJ6_bitCount_0f7a4 22 = .ok (.iadd, 1) := by decide +kernel
theorem dJ6_bitCount_0f7a4_23 : decode cJ6_bitCount_0f7a4 23 = .ok (.istore_n 0, 1) := by decide +kernel
theorem dJ6_bitCount_0f7a4_24 : decode cJ6_bitCount_0f7a4 24 = .ok (.iload_n 0, 1) := by decide +kernel
theorem dJ6_bitCount_0f7a4_25 : decode cJ6_bitCount_0f7a4 25 = .ok (.iload_n 0, 1) := by decide +kernel
theorem dJ6_bitCount_0f7a4_26 : decode cJ6_bitCount_0f7a4 26 = .ok (.iconst 4, 1) := by decide +kernel
theorem dJ6_bitCount_0f7a4_27 : decode cJ6_bitCount_0f7a4 27 = .ok (.iushr, 1) := by decide +kernel
theorem dJ6_bitCount_0f7a4_28 : decode cJ6_bitCount_0f7a4 28 = .ok (.iadd, 1) := by decide +kernel
theorem dJ6_bitCount_0f7a4_29 : decode cJ6_bitCount_0f7a4 29 = .ok (.ldc_w 267, 3) := by decide +kernel
theorem dJ6_bitCount_0f7a4_32 : decode cJ6_bitCount_0f7a4 32 = .ok (.iand, 1) := by decide +kernel
theorem dJ6_bitCount_0f7a4_33 : decode cJ6_bitCount_0f7a4 33 = .ok (.istore_n 0, 1) := by decide +kernel
theorem dJ6_bitCount_0f7a4_34 : decode cJ6_bitCount_0f7a4 34 = .ok (.iload_n 0, 1) := by decide +kernel
theorem dJ6_bitCount_0f7a4_35 : decode cJ6_bitCount_0f7a4 35 = .ok (.iload_n 0, 1) := by decide +kernel
theorem dJ6_bitCount_0f7a4_36 : decode cJ6_bitCount_0f7a4 36 = .ok (.bipush 8, 2) := by decide +kernel
theorem dJ6_bitCount_0f7a4_38 : decode cJ6_bitCount_0f7a4 38 = .ok (.iushr, 1) := by decide +kernel
theorem dJ6_bitCount_0f7a4_39 : decode cJ6_bitCount_0f7a4 39 = .ok (.iadd, 1) := by decide +kernel
theorem dJ6_bitCount_0f7a4_40 : decode cJ6_bitCount_0f7a4 40 = .ok (.istore_n 0, 1) := by decide +kernel
theorem dJ6_bitCount_0f7a4_41 : decode cJ6_bitCount_0f7a4 41 = .ok (.iload_n 0, 1) := by decide +kernel
theorem dJ6_bitCount_0f7a4_42 : decode cJ6_bitCount_0f7a4 42 = .ok (.iload_n 0, 1) := by decide +kernel
theorem dJ6_bitCount_0f7a4_43 : decode cJ6_bitCount_0f7a4 43 = .ok (.bipush 16, 2) := by decide +kernel
theorem dJ6_bitCount_0f7a4_45 : decode cJ6_bitCount_0f7a4 45 = .ok (.iushr, 1) := by decide +kernel
theorem dJ6_bitCount_0f7a4_46 : decode cJ6_bitCount_0f7a4 46 = .ok (.iadd, 1) := by decide +kernel
theorem dJ6_bitCount_0f7a4_47 : decode cJ6_bitCount_0f7a4 47 = .ok (.istore_n 0, 1) := by decide +kernel
theorem dJ6_bitCount_0f7a4_48 : decode cJ6_bitCount_0f7a4 48 = .ok (.iload_n 0, 1) := by decide +kernel
theorem dJ6_bitCount_0f7a4_49 : decode cJ6_bitCount_0f7a4 49 = .ok (.bipush 63, 2) := by decide +kernel
theorem dJ6_bitCount_0f7a4_51 : decode cJ6_bitCount_0f7a4 51 = .ok (.iand, 1) := by decide +kernel
theorem dJ6_bitCount_0f7a4_52 : decode cJ6_bitCount_0f7a4 52 = .ok (.ireturn, 1) := by decide +kernel
theorem dJ9_max_7cf53_0 : decode cJ9_max_7cf53 0 = .ok (.iload_n 0, 1) := by decide +kernel
theorem dJ9_max_7cf53_1 : decode cJ9_max_7cf53 1 = .ok (.iload_n 1, 1) := by decide +kernel
theorem dJ9_max_7cf53_2 : decode cJ9_max_7cf53 2 = .ok (.if_icmp .lt 7, 3) := by decide +kernel
theorem dJ9_max_7cf53_5 : decode cJ9_max_7cf53 5 = .ok (.iload_n 0, 1) := by decide +kernel
theorem dJ9_max_7cf53_6 : decode cJ9_max_7cf53 6 = .ok (.goto 4, 3) := by decide +kernel
theorem dJ9_max_7cf53_9 : decode cJ9_max_7cf53 9 = .ok (.iload_n 1, 1) := by decide +kernel
theorem dJ9_max_7cf53_10 : decode cJ9_max_7cf53 10 = .ok (.ireturn, 1) := by decide +kernel
theorem dJ9_min_7cf53_0 : decode cJ9_min_7cf53 0 = .ok (.iload_n 0, 1) := by decide +kernel
theorem dJ9_min_7cf53_1 : decode cJ9_min_7cf53 1 = .ok (.iload_n 1, 1) := by decide +kernel
theorem dJ9_min_7cf53_2 : decode cJ9_min_7cf53 2 = .ok (.if_icmp .gt 7, 3) := by decide +kernel
theorem dJ9_min_7cf53_5 : decode cJ9_min_7cf53 5 = .ok (.iload_n 0, 1) := by decide +kernel
theorem dJ9_min_7cf53_6 : decode cJ9_min_7cf53 6 = .ok (.goto 4, 3) := by decide +kernel
theorem dJ9_min_7cf53_9 : decode cJ9_min_7cf53 9 = .ok (.iload_n 1, 1) := by decide +kernel
theorem dJ9_min_7cf53_10 : decode cJ9_min_7cf53 10 = .ok (.ireturn, 1) := by decide +kernel
theorem dJ0_length_8abf5_0 : decode cJ0_length_8abf5 0 = .ok (.aload_n 0, 1) := by decide +kernel
theorem dJ0_length_8abf5_1 : decode cJ0_length_8abf5 1 = .ok (.getfield 9, 3) := by decide +kernel
theorem dJ0_length_8abf5_4 : decode cJ0_length_8abf5 4 = .ok (.arraylength, 1) := by decide +kernel
theorem dJ0_length_8abf5_5 : decode cJ0_length_8abf5 5 = .ok (.aload_n 0, 1) := by decide +kernel
theorem dJ0_length_8abf5_6 : decode cJ0_length_8abf5 6 = .ok (.invokevirtual 335, 3) := by decide +kernel
theorem dJ0_length_8abf5_9 : decode cJ0_length_8abf5 9 = .ok (.ishr, 1) := by decide +kernel
theorem dJ0_length_8abf5_10 : decode cJ0_length_8abf5 10 = .ok (.ireturn, 1) := by decide +kernel
theorem dJ0_charAt_5068e_0 : decode cJ0_charAt_5068e 0 = .ok (.aload_n 0, 1) := by decide +kernel
theorem dJ0_charAt_5068e_1 : decode cJ0_charAt_5068e 1 = .ok (.invokevirtual 492, 3) := by decide +kernel
theorem dJ0_charAt_5068e_4 : decode cJ0_charAt_5068e 4 = .ok (.ifCond .eq 12, 3) := by decide +kernel
theorem dJ0_charAt_5068e_7 : decode cJ0_charAt_5068e 7 = .ok (.aload_n 0, 1) := by decide +kernel
theorem dJ0_charAt_5068e_8 : decode cJ0_charAt_5068e 8 = .ok (.getfield 9, 3) := by decide +kernel
theorem dJ0_charAt_5068e_11 : decode cJ0_charAt_5068e 11 = .ok (.iload_n 1, 1) := by decide +kernel
theorem dJ0_charAt_5068e_12 : decode cJ0_charAt_5068e 12 = .ok (.invokestatic 495, 3) := by decide +kernel
theorem dJ0_charAt_5068e_15 : decode cJ0_charAt_5068e 15 = .ok (.ireturn, 1) := by decide +kernel
theorem dJ0_charAt_5068e_16 : decode cJ0_charAt_5068e 16 = .ok (.aload_n 0, 1) := by decide +kernel
theorem dJ0_charAt_5068e_17 : decode cJ0_charAt_5068e 17 = .ok (.getfield 9, 3) := by decide +kernel
theorem dJ0_charAt_5068e_20 : decode cJ0_charAt_5068e 20 = .ok (.iload_n 1, 1) := by decide +kernel
theorem dJ0_charAt_5068e_21 : decode cJ0_charAt_5068e 21 = .ok (.invokestatic 498, 3) := by decide +kernel
theorem dJ0_charAt_5068e_24 : decode cJ0_charAt_5068e 24 = .ok (.ireturn, 1) := by decide +kernel
theorem dJ0_coder_7d493_0 : decode cJ0_coder_7d493 0 = .ok (.getstatic 38, 3) := by decide +kernel
theorem dJ0_coder_7d493_3 : decode cJ0_coder_7d493 3 = .ok (.ifCond .eq 10, 3) := by decide +kernel
theorem dJ0_coder_7d493_6 : decode cJ0_coder_7d493 6 = .ok (.aload_n 0, 1) := by decide +kernel
theorem dJ0_coder_7d493_7 : decode cJ0_coder_7d493 7 = .ok (.getfield 15, 3) := by decide +kernel
theorem dJ0_coder_7d493_10 : decode cJ0_coder_7d493 10 = .ok (.goto 4, 3) := by decide +kernel
theorem dJ0_coder_7d493_13 : decode cJ0_coder_7d493 13 = .ok (.iconst 1, 1) := by decide +kernel
theorem dJ0_coder_7d493_14 : decode cJ0_coder_7d493 14 = .ok (.ireturn, 1) := by decide +kernel
theorem dJ0_isLatin1_aae02_0 : decode cJ0_isLatin1_aae02 0 = .ok (.getstatic 38, 3) := by decide +kernel
theorem dJ0_isLatin1_aae02_3 : decode cJ0_isLatin1_aae02 3 = .ok (.ifCond .eq 14, 3) := by decide +kernel
theorem dJ0_isLatin1_aae02_6 : decode cJ0_isLatin1_aae02 6 = .ok (.aload_n 0, 1) := by decide +kernel
theorem dJ0_isLatin1_aae02_7 : decode cJ0_isLatin1_aae02 7 = .ok (.getfield 15, 3) := by decide +kernel
theorem dJ0_isLatin1_aae02_10 : decode cJ0_isLatin1_aae02 10 = .ok (.ifCond .ne 7, 3) := by decide +kernel
theorem dJ0_isLatin1_aae02_13 : decode cJ0_isLatin1_aae02 13 = .ok (.iconst 1, 1) := by decide +kernel
theorem dJ0_isLatin1_aae02_14 : decode cJ0_isLatin1_aae02 14 = .ok (.goto 4, 3) := by decide +kernel
theorem dJ0_isLatin1_aae02_17 : decode cJ0_isLatin1_aae02 17 = .ok (.iconst 0, 1) := by decide +kernel
theorem dJ0_isLatin1_aae02_18 : decode cJ0_isLatin1_aae02 18 = .ok (.ireturn, 1) := by decide +kernel
theorem dJ0_checkIndex_df160_0 : decode cJ0_checkIndex_df160 0 = .ok (.iload_n 0, 1) := by decide +kernel
theorem dJ0_checkIndex_df160_1 : decode cJ0_checkIndex_df160 1 = .ok (.iload_n 1, 1) := by decide +kernel
theorem dJ0_checkIndex_df160_2 : decode cJ0_checkIndex_df160 2 = .ok (.getstatic 1053, 3) := by decide +kernel
theorem dJ0_checkIndex_df160_5 : decode cJ0_checkIndex_df160 5 = .ok (.invokestatic 1059, 3) := by decide +kernel
theorem dJ0_checkIndex_df160_8 : decode cJ0_checkIndex_df160 8 = .ok (.pop, 1) := by decide +kernel
theorem dJ0_checkIndex_df160_9 : decode cJ0_checkIndex_df160 9 = .ok (.return_, 1) := by decide +kernel
theorem dJ1_charAt_3b067_0 : decode cJ1_charAt_3b067 0 = .ok (.iload_n 1, 1) := by decide +kernel
theorem dJ1_charAt_3b067_1 : decode cJ1_charAt_3b067 1 = .ok (.aload_n 0, 1) := by decide +kernel
theorem dJ1_charAt_3b067_2 : decode cJ1_charAt_3b067 2 = .ok (.arraylength, 1) := by decide +kernel
theorem dJ1_charAt_3b067_3 : decode cJ1_charAt_3b067 3 = .ok (.invokestatic 9, 3) := by decide +kernel
theorem dJ1_charAt_3b067_6 : decode cJ1_charAt_3b067 6 = .ok (.aload_n 0, 1) := by decide +kernel
theorem dJ1_charAt_3b067_7 : decode cJ1_charAt_3b067 7 = .ok (.iload_n 1, 1) := by decide +kernel
theorem dJ1_charAt_3b067_8 : decode cJ1_charAt_3b067 8 = .ok (.baload, 1) := by decide +kernel
theorem dJ1_charAt_3b067_9 : decode cJ1_charAt_3b067 9 = .ok (.sipush 255, 3) := by decide +kernel
theorem dJ1_charAt_3b067_12 : decode cJ1_charAt_3b067 12 = .ok (.iand, 1) := by decide +kernel
theorem dJ1_charAt_3b067_13 : decode cJ1_charAt_3b067 13 = .ok (.i2c, 1) := by decide +kernel
theorem dJ1_charAt_3b067_14 : decode cJ1_charAt_3b067 14 = .ok (.ireturn, 1) := by decide +kernel
theorem dJ2_getChar_3b067_0 : decode cJ2_getChar_3b067 0 = .ok (.getstatic 44, 3) := by decide +kernel
theorem dJ2_getChar_3b067_3 : decode cJ2_getChar_3b067 3 = .ok (.ifCond .ne 25, 3) := by decide +kernel
theorem dJ2_getChar_3b067_6 : decode cJ2_getChar_3b067 6 = .ok (.iload_n 1, 1) := by decide +kernel
theorem dJ2_getChar_3b067_7 : decode cJ2_getChar_3b067 7 = .ok (.ifCond .lt 11, 3) := by decide +kernel
theorem dJ2_getChar_3b067_10 : decode cJ2_getChar_3b067 10 = .ok (.iload_n 1, 1) := by decide +kernel
theorem dJ2_getChar_3b067_11 : decode cJ2_getChar_3b067 11 = .ok (.aload_n 0, 1) := by decide +kernel
theorem dJ2_getChar_3b067_12 : decode cJ2_getChar_3b067 12 = .ok (.invokestatic 48, 3) := by decide +kernel
theorem dJ2_getChar_3b067_15 : decode cJ2_getChar_3b067 15 = .ok (.if_icmp .lt 13, 3) := by decide +kernel
theorem dJ2_getChar_3b067_18 : decode cJ2_getChar_3b067 18 = .ok (.new 52, 3) := by decide +kernel
theorem dJ2_getChar_3b067_21 : decode cJ2_getChar_3b067 21 = .ok (.dup, 1) := by decide +kernel
theorem dJ2_getChar_3b067_22 : decode cJ2_getChar_3b067 22 = .ok (.ldc 54, 2) := by decide +kernel
theorem dJ2_getChar_3b067_24 : decode cJ2_getChar_3b067 24 = .ok (.invokespecial 56, 3) := by decide +kernel
theorem dJ2_getChar_3b067_27 : decode cJ2_getChar_3b067 27 = .ok (.athrow, 1) := by decide +kernel
theorem dJ2_getChar_3b067_28 : decode cJ2_getChar_3b067 28 = .ok (.iload_n 1, 1) := by decide +kernel
theorem dJ2_getChar_3b067_29 : decode cJ2_getChar_3b067 29 = .ok (.iconst 1, 1) := by decide +kernel
theorem dJ2_getChar_3b067_30 : decode cJ2_getChar_3b067 30 = .ok (.ishl, 1) := by decide +kernel
theorem dJ2_getChar_3b067_31 : decode cJ2_getChar_3b067 31 = .ok (.istore_n 1, 1) := by decide +kernel
theorem dJ2_getChar_3b067_32 : decode cJ2_getChar_3b067 32 = .ok (.aload_n 0, 1) := by decide +kernel
theorem dJ2_getChar_3b067_33 : decode cJ2_getChar_3b067 33 = .ok (.iload_n 1, 1) := by decide +kernel
theorem dJ2_getChar_3b067_34 : decode cJ2_getChar_3b067 34 = .ok (.iinc 1 1, 3) := by decide +kernel
theorem dJ2_getChar_3b067_37 : decode cJ2_getChar_3b067 37 = .ok (.baload, 1) := by decide +kernel
theorem dJ2_getChar_3b067_38 : decode cJ2_getChar_3b067 38 = .ok (.sipush 255, 3) := by decide +kernel
theorem dJ2_getChar_3b067_41 : decode cJ2_getChar_3b067 41 = .ok (.iand, 1) := by decide +kernel
theorem dJ2_getChar_3b067_42 : decode cJ2_getChar_3b067 42 = .ok (.getstatic 59, 3) := by decide +kernel
theorem dJ2_getChar_3b067_45 : decode cJ2_getChar_3b067 45 = .ok (.ishl, 1) := by decide +kernel
theorem dJ2_getChar_3b067_46 : decode cJ2_getChar_3b067 46 = .ok (.aload_n 0, 1) := by decide +kernel
theorem dJ2_getChar_3b067_47 : decode cJ2_getChar_3b067 47 = .ok (.iload_n 1, 1) := by decide +kernel
theorem dJ2_getChar_3b067_48 : decode cJ2_getChar_3b067 48 = .ok (.baload, 1) := by decide +kernel
theorem dJ2_getChar_3b067_49 : decode cJ2_getChar_3b067 49 = .ok (.sipush 255, 3) := by decide +kernel
theorem dJ2_getChar_3b067_52 : decode cJ2_getChar_3b067 52 = .ok (.iand, 1) := by decide +kernel
theorem dJ2_getChar_3b067_53 : decode cJ2_getChar_3b067 53 = .ok (.getstatic 63, 3) := by decide +kernel
theorem dJ2_getChar_3b067_56 : decode cJ2_getChar_3b067 56 = .ok (.ishl, 1) := by decide +kernel
theorem dJ2_getChar_3b067_57 : decode cJ2_getChar_3b067 57 = .ok (.ior, 1) := by decide +kernel
theorem dJ2_getChar_3b067_58 : decode cJ2_getChar_3b067 58 = .ok (.i2c, 1) := by decide +kernel
theorem dJ2_getChar_3b067_59 : decode cJ2_getChar_3b067 59 = .ok (.ireturn, 1) := by decide +kernel
theorem dJ2_length_9d52b_0 : decode cJ2_length_9d52b 0 = .ok (.aload_n 0, 1) := by decide +kernel
theorem dJ2_length_9d52b_1 : decode cJ2_length_9d52b 1 = .ok (.arraylength, 1) := by decide +kernel
theorem dJ2_length_9d52b_2 : decode cJ2_length_9d52b 2 = .ok (.iconst 1, 1) := by decide +kernel
theorem dJ2_length_9d52b_3 : decode cJ2_length_9d52b 3 = .ok (.ishr, 1) := by decide +kernel
theorem dJ2_length_9d52b_4 : decode cJ2_length_9d52b 4 = .ok (.ireturn, 1) := by decide +kernel
end
section
theorem dJ2_charAt_3b067_0 : decode cJ2_charAt_3b067 0 = .ok (.iload_n 1, 1) := by decide +kernel
theorem dJ2_charAt_3b067_1 : decode cJ2_charAt_3b067 1 = .ok (.aload_n 0, 1) := by decide +kernel
theorem dJ2_charAt_3b067_2 : decode cJ2_charAt_3b067 2 = .ok (.invokestatic 67, 3) := by decide +kernel
theorem dJ2_charAt_3b067_5 : decode cJ2_charAt_3b067 5 = .ok (.aload_n 0, 1) := by decide +kernel
theorem dJ2_charAt_3b067_6 : decode cJ2_charAt_3b067 6 = .ok (.iload_n 1, 1) := by decide +kernel
theorem dJ2_charAt_3b067_7 : decode cJ2_charAt_3b067 7 = .ok (.invokestatic 71, 3) := by decide +kernel
theorem dJ2_charAt_3b067_10 : decode cJ2_charAt_3b067 10 = .ok (.ireturn, 1) := by decide +kernel
theorem dJ2_checkIndex_2214a_0 : decode cJ2_checkIndex_2214a 0 = .ok (.iload_n 0, 1) := by decide +kernel
theorem dJ2_checkIndex_2214a_1 : decode cJ2_checkIndex_2214a 1 = .ok (.aload_n 1, 1) := by decide +kernel
theorem dJ2_checkIndex_2214a_2 : decode cJ2_checkIndex_2214a 2 = .ok (.invokestatic 48, 3) := by decide +kernel
theorem dJ2_checkIndex_2214a_5 : decode cJ2_checkIndex_2214a 5 = .ok (.invokestatic 414, 3) := by decide +kernel
theorem dJ2_checkIndex_2214a_8 : decode cJ2_checkIndex_2214a 8 = .ok (.return_, 1) := by decide +kernel
theorem dJ3_checkIndex_8e157_0 : decode cJ3_checkIndex_8e157 0 = .ok (.iload_n 0, 1) := by decide +kernel
theorem dJ3_checkIndex_8e157_1 : decode cJ3_checkIndex_8e157 1 = .ok (.ifCond .lt 8, 3) := by decide +kernel
theorem dJ3_checkIndex_8e157_4 : decode cJ3_checkIndex_8e157 4 = .ok (.iload_n 0, 1) := by decide +kernel
theorem dJ3_checkIndex_8e157_5 : decode cJ3_checkIndex_8e157 5 = .ok (.iload_n 1, 1) := by decide +kernel
theorem dJ3_checkIndex_8e157_6 : decode cJ3_checkIndex_8e157 6 = .ok (.if_icmp .lt 10, 3) := by decide +kernel
theorem dJ3_checkIndex_8e157_9 : decode cJ3_checkIndex_8e157 9 = .ok (.aload_n 2, 1) := by decide +kernel
theorem dJ3_checkIndex_8e157_10 : decode cJ3_checkIndex_8e157 10 = .ok (.iload_n 0, 1) := by decide +kernel
theorem dJ3_checkIndex_8e157_11 : decode cJ3_checkIndex_8e157 11 = .ok (.iload_n 1, 1) := by decide +kernel
theorem dJ3_checkIndex_8e157_12 : decode cJ3_checkIndex_8e157 12 = .ok (.invokestatic 95, 3) := by decide +kernel
theorem dJ3_checkIndex_8e157_15 : decode cJ3_checkIndex_8e157 15 = .ok (.athrow, 1) := by decide +kernel
theorem dJ3_checkIndex_8e157_16 : decode cJ3_checkIndex_8e157 16 = .ok (.iload_n 0, 1) := by decide +kernel
theorem dJ3_checkIndex_8e157_17 : decode cJ3_checkIndex_8e157 17 = .ok (.ireturn, 1) := by decide +kernel
theorem dL_law_0 : decode cL_law 0 = .ok (.new 7, 3) := by decide +kernel
theorem dL_law_3 : decode cL_law 3 = .ok (.dup, 1) := by decide +kernel
theorem dL_law_4 : decode cL_law 4 = .ok (.invokespecial 9, 3) := by decide +kernel
theorem dL_law_7 : decode cL_law 7 = .ok (.astore_n 1, 1) := by decide +kernel
theorem dL_law_8 : decode cL_law 8 = .ok (.new 10, 3) := by decide +kernel
theorem dL_law_11 : decode cL_law 11 = .ok (.dup, 1) := by decide +kernel
theorem dL_law_12 : decode cL_law 12 = .ok (.invokespecial 12, 3) := by decide +kernel
theorem dL_law_15 : decode cL_law 15 = .ok (.astore_n 2, 1) := by decide +kernel
theorem dL_law_16 : decode cL_law 16 = .ok (.iconst 0, 1) := by decide +kernel
theorem dL_law_17 : decode cL_law 17 = .ok (.istore_n 3, 1) := by decide +kernel
theorem dL_law_18 : decode cL_law 18 = .ok (.iload_n 3, 1) := by decide +kernel
theorem dL_law_19 : decode cL_law 19 = .ok (.aload_n 0, 1) := by decide +kernel
theorem dL_law_20 : decode cL_law 20 = .ok (.arraylength, 1) := by decide +kernel
theorem dL_law_21 : decode cL_law 21 = .ok (.iconst 5, 1) := by decide +kernel
theorem dL_law_22 : decode cL_law 22 = .ok (.isub, 1) := by decide +kernel
theorem dL_law_23 : decode cL_law 23 = .ok (.if_icmp .gt 1188, 3) := by decide +kernel
theorem dL_law_26 : decode cL_law 26 = .ok (.aload_n 0, 1) := by decide +kernel
theorem dL_law_27 : decode cL_law 27 = .ok (.iload_n 3, 1) := by decide +kernel
theorem dL_law_28 : decode cL_law 28 = .ok (.iaload, 1) := by decide +kernel
theorem dL_law_29 : decode cL_law 29 = .ok (.bipush 63, 2) := by decide +kernel
theorem dL_law_31 : decode cL_law 31 = .ok (.iand, 1) := by decide +kernel
theorem dL_law_32 : decode cL_law 32 = .ok (.tableswitch 1173 0 34 #[156, 209, 232, 245, 258, 281, 304, 337, 370, 403, 436, 469, 518, 551, 584, 617, 640, 673, 686, 699, 722, 745, 768, 781, 850, 873, 896, 909, 952, 975, 998, 1041, 1084, 1137, 1150], 156) := by decide +kernel
theorem dL_law_188 : decode cL_law 188 = .ok (.aload_n 1, 1) := by decide +kernel
theorem dL_law_189 : decode cL_law 189 = .ok (.aload_n 0, 1) := by decide +kernel
theorem dL_law_190 : decode cL_law 190 = .ok (.iload_n 3, 1) := by decide +kernel
theorem dL_law_191 : decode cL_law 191 = .ok (.iconst 1, 1) := by decide +kernel
theorem dL_law_192 : decode cL_law 192 = .ok (.iadd, 1) := by decide +kernel
theorem dL_law_193 : decode cL_law 193 = .ok (.iaload, 1) := by decide +kernel
theorem dL_law_194 : decode cL_law 194 = .ok (.i2l, 1) := by decide +kernel
theorem dL_law_195 : decode cL_law 195 = .ok (.bipush 32, 2) := by decide +kernel
theorem dL_law_197 : decode cL_law 197 = .ok (.lshl, 1) := by decide +kernel
theorem dL_law_198 : decode cL_law 198 = .ok (.aload_n 0, 1) := by decide +kernel
theorem dL_law_199 : decode cL_law 199 = .ok (.iload_n 3, 1) := by decide +kernel
theorem dL_law_200 : decode cL_law 200 = .ok (.iconst 2, 1) := by decide +kernel
theorem dL_law_201 : decode cL_law 201 = .ok (.iadd, 1) := by decide +kernel
theorem dL_law_202 : decode cL_law 202 = .ok (.iaload, 1) := by decide +kernel
theorem dL_law_203 : decode cL_law 203 = .ok (.i2l, 1) := by decide +kernel
theorem dL_law_204 : decode cL_law 204 = .ok (.ldc2_w 13, 3) := by decide +kernel
theorem dL_law_207 : decode cL_law 207 = .ok (.land, 1) := by decide +kernel
theorem dL_law_208 : decode cL_law 208 = .ok (.lor, 1) := by decide +kernel
theorem dL_law_209 : decode cL_law 209 = .ok (.invokevirtual 15, 3) := by decide +kernel
theorem dL_law_212 : decode cL_law 212 = .ok (.aload_n 2, 1) := by decide +kernel
theorem dL_law_213 : decode cL_law 213 = .ok (.aload_n 0, 1) := by decide +kernel
theorem dL_law_214 : decode cL_law 214 = .ok (.iload_n 3, 1) := by decide +kernel
theorem dL_law_215 : decode cL_law 215 = .ok (.iconst 1, 1) := by decide +kernel
theorem dL_law_216 : decode cL_law 216 = .ok (.iadd, 1) := by decide +kernel
theorem dL_law_217 : decode cL_law 217 = .ok (.iaload, 1) := by decide +kernel
theorem dL_law_218 : decode cL_law 218 = .ok (.i2l, 1) := by decide +kernel
theorem dL_law_219 : decode cL_law 219 = .ok (.bipush 32, 2) := by decide +kernel
theorem dL_law_221 : decode cL_law 221 = .ok (.lshl, 1) := by decide +kernel
theorem dL_law_222 : decode cL_law 222 = .ok (.aload_n 0, 1) := by decide +kernel
theorem dL_law_223 : decode cL_law 223 = .ok (.iload_n 3, 1) := by decide +kernel
theorem dL_law_224 : decode cL_law 224 = .ok (.iconst 2, 1) := by decide +kernel
theorem dL_law_225 : decode cL_law 225 = .ok (.iadd, 1) := by decide +kernel
theorem dL_law_226 : decode cL_law 226 = .ok (.iaload, 1) := by decide +kernel
theorem dL_law_227 : decode cL_law 227 = .ok (.i2l, 1) := by decide +kernel
theorem dL_law_228 : decode cL_law 228 = .ok (.ldc2_w 13, 3) := by decide +kernel
theorem dL_law_231 : decode cL_law 231 = .ok (.land, 1) := by decide +kernel
theorem dL_law_232 : decode cL_law 232 = .ok (.lor, 1) := by decide +kernel
theorem dL_law_233 : decode cL_law 233 = .ok (.invokevirtual 19, 3) := by decide +kernel
theorem dL_law_236 : decode cL_law 236 = .ok (.if_icmp .eq 969, 3) := by decide +kernel
theorem dL_law_239 : decode cL_law 239 = .ok (.iconst 0, 1) := by decide +kernel
theorem dL_law_240 : decode cL_law 240 = .ok (.ireturn, 1) := by decide +kernel
theorem dL_law_241 : decode cL_law 241 = .ok (.aload_n 1, 1) := by decide +kernel
theorem dL_law_242 : decode cL_law 242 = .ok (.aload_n 0, 1) := by decide +kernel
theorem dL_law_243 : decode cL_law 243 = .ok (.iload_n 3, 1) := by decide +kernel
theorem dL_law_244 : decode cL_law 244 = .ok (.iconst 1, 1) := by decide +kernel
theorem dL_law_245 : decode cL_law 245 = .ok (.iadd, 1) := by decide +kernel
theorem dL_law_246 : decode cL_law 246 = .ok (.iaload, 1) := by decide +kernel
theorem dL_law_247 : decode cL_law 247 = .ok (.invokevirtual 20, 3) := by decide +kernel
theorem dL_law_250 : decode cL_law 250 = .ok (.aload_n 2, 1) := by decide +kernel
theorem dL_law_251 : decode cL_law 251 = .ok (.aload_n 0, 1) := by decide +kernel
theorem dL_law_252 : decode cL_law 252 = .ok (.iload_n 3, 1) := by decide +kernel
theorem dL_law_253 : decode cL_law 253 = .ok (.iconst 1, 1) := by decide +kernel
theorem dL_law_254 : decode cL_law 254 = .ok (.iadd, 1) := by decide +kernel
theorem dL_law_255 : decode cL_law 255 = .ok (.iaload, 1) := by decide +kernel
theorem dL_law_256 : decode cL_law 256 = .ok (.invokevirtual 24, 3) := by decide +kernel
theorem dL_law_259 : decode cL_law 259 = .ok (.if_icmp .eq 946, 3) := by decide +kernel
theorem dL_law_262 : decode cL_law 262 = .ok (.iconst 0, 1) := by decide +kernel
theorem dL_law_263 : decode cL_law 263 = .ok (.ireturn, 1) := by decide +kernel
theorem dL_law_264 : decode cL_law 264 = .ok (.aload_n 1, 1) := by decide +kernel
theorem dL_law_265 : decode cL_law 265 = .ok (.invokevirtual 25, 3) := by decide +kernel
theorem dL_law_268 : decode cL_law 268 = .ok (.aload_n 2, 1) := by decide +kernel
theorem dL_law_269 : decode cL_law 269 = .ok (.invokevirtual 29, 3) := by decide +kernel
theorem dL_law_272 : decode cL_law 272 = .ok (.if_icmp .eq 933, 3) := by decide +kernel
theorem dL_law_275 : decode cL_law 275 = .ok (.iconst 0, 1) := by decide +kernel
theorem dL_law_276 : decode cL_law 276 = .ok (.ireturn, 1) := by decide +kernel
theorem dL_law_277 : decode cL_law 277 = .ok (.aload_n 1, 1) := by decide +kernel
theorem dL_law_278 : decode cL_law 278 = .ok (.invokevirtual 30, 3) := by decide +kernel
theorem dL_law_281 : decode cL_law 281 = .ok (.aload_n 2, 1) := by decide +kernel
theorem dL_law_282 : decode cL_law 282 = .ok (.invokevirtual 33, 3) := by decide +kernel
theorem dL_law_285 : decode cL_law 285 = .ok (.if_icmp .eq 920, 3) := by decide +kernel
theorem dL_law_288 : decode cL_law 288 = .ok (.iconst 0, 1) := by decide +kernel
theorem dL_law_289 : decode cL_law 289 = .ok (.ireturn, 1) := by decide +kernel
theorem dL_law_290 : decode cL_law 290 = .ok (.aload_n 1, 1) := by decide +kernel
theorem dL_law_291 : decode cL_law 291 = .ok (.aload_n 0, 1) := by decide +kernel
theorem dL_law_292 : decode cL_law 292 = .ok (.iload_n 3, 1) := by decide +kernel
theorem dL_law_293 : decode cL_law 293 = .ok (.iconst 1, 1) := by decide +kernel
theorem dL_law_294 : decode cL_law 294 = .ok (.iadd, 1) := by decide +kernel
theorem dL_law_295 : decode cL_law 295 = .ok (.iaload, 1) := by decide +kernel
theorem dL_law_296 : decode cL_law 296 = .ok (.invokevirtual 34, 3) := by decide +kernel
theorem dL_law_299 : decode cL_law 299 = .ok (.aload_n 2, 1) := by decide +kernel
theorem dL_law_300 : decode cL_law 300 = .ok (.aload_n 0, 1) := by decide +kernel
theorem dL_law_301 : decode cL_law 301 = .ok (.iload_n 3, 1) := by decide +kernel
theorem dL_law_302 : decode cL_law 302 = .ok (.iconst 1, 1) := by decide +kernel
theorem dL_law_303 : decode cL_law 303 = .ok (.iadd, 1) := by decide +kernel
theorem dL_law_304 : decode cL_law 304 = .ok (.iaload, 1) := by decide +kernel
theorem dL_law_305 : decode cL_law 305 = .ok (.invokevirtual 37, 3) := by decide +kernel
theorem dL_law_308 : decode cL_law 308 = .ok (.if_icmp .eq 897, 3) := by decide +kernel
theorem dL_law_311 : decode cL_law 311 = .ok (.iconst 0, 1) := by decide +kernel
theorem dL_law_312 : decode cL_law 312 = .ok (.ireturn, 1) := by decide +kernel
theorem dL_law_313 : decode cL_law 313 = .ok (.aload_n 1, 1) := by decide +kernel
theorem dL_law_314 : decode cL_law 314 = .ok (.aload_n 0, 1) := by decide +kernel
theorem dL_law_315 : decode cL_law 315 = .ok (.iload_n 3, 1) := by decide +kernel
theorem dL_law_316 : decode cL_law 316 = .ok (.iconst 1, 1) := by decide +kernel
theorem dL_law_317 : decode cL_law 317 = .ok (.iadd, 1) := by decide +kernel
theorem dL_law_318 : decode cL_law 318 = .ok (.iaload, 1) := by decide +kernel
theorem dL_law_319 : decode cL_law 319 = .ok (.invokevirtual 38, 3) := by decide +kernel
theorem dL_law_322 : decode cL_law 322 = .ok (.aload_n 2, 1) := by decide +kernel
theorem dL_law_323 : decode cL_law 323 = .ok (.aload_n 0, 1) := by decide +kernel
theorem dL_law_324 : decode cL_law 324 = .ok (.iload_n 3, 1) := by decide +kernel
theorem dL_law_325 : decode cL_law 325 = .ok (.iconst 1, 1) := by decide +kernel
theorem dL_law_326 : decode cL_law 326 = .ok (.iadd, 1) := by decide +kernel
theorem dL_law_327 : decode cL_law 327 = .ok (.iaload, 1) := by decide +kernel
theorem dL_law_328 : decode cL_law 328 = .ok (.invokevirtual 41, 3) := by decide +kernel
theorem dL_law_331 : decode cL_law 331 = .ok (.if_icmp .eq 874, 3) := by decide +kernel
theorem dL_law_334 : decode cL_law 334 = .ok (.iconst 0, 1) := by decide +kernel
theorem dL_law_335 : decode cL_law 335 = .ok (.ireturn, 1) := by decide +kernel
theorem dL_law_336 : decode cL_law 336 = .ok (.aload_n 1, 1) := by decide +kernel
theorem dL_law_337 : decode cL_law 337 = .ok (.aload_n 0, 1) := by decide +kernel
theorem dL_law_338 : decode cL_law 338 = .ok (.iload_n 3, 1) := by decide +kernel
theorem dL_law_339 : decode cL_law 339 = .ok (.iconst 1, 1) := by decide +kernel
theorem dL_law_340 : decode cL_law 340 = .ok (.iadd, 1) := by decide +kernel
theorem dL_law_341 : decode cL_law 341 = .ok (.iaload, 1) := by decide +kernel
theorem dL_law_342 : decode cL_law 342 = .ok (.aload_n 0, 1) := by decide +kernel
theorem dL_law_343 : decode cL_law 343 = .ok (.iload_n 3, 1) := by decide +kernel
theorem dL_law_344 : decode cL_law 344 = .ok (.iconst 2, 1) := by decide +kernel
theorem dL_law_345 : decode cL_law 345 = .ok (.iadd, 1) := by decide +kernel
theorem dL_law_346 : decode cL_law 346 = .ok (.iaload, 1) := by decide +kernel
theorem dL_law_347 : decode cL_law 347 = .ok (.invokevirtual 42, 3) := by decide +kernel
theorem dL_law_350 : decode cL_law 350 = .ok (.aload_n 2, 1) := by decide +kernel
theorem dL_law_351 : decode cL_law 351 = .ok (.aload_n 0, 1) := by decide +kernel
theorem dL_law_352 : decode cL_law 352 = .ok (.iload_n 3, 1) := by decide +kernel
theorem dL_law_353 : decode cL_law 353 = .ok (.iconst 1, 1) := by decide +kernel
theorem dL_law_354 : decode cL_law 354 = .ok (.iadd, 1) := by decide +kernel
theorem dL_law_355 : decode cL_law 355 = .ok (.iaload, 1) := by decide +kernel
theorem dL_law_356 : decode cL_law 356 = .ok (.aload_n 0, 1) := by decide +kernel
theorem dL_law_357 : decode cL_law 357 = .ok (.iload_n 3, 1) := by decide +kernel
theorem dL_law_358 : decode cL_law 358 = .ok (.iconst 2, 1) := by decide +kernel
theorem dL_law_359 : decode cL_law 359 = .ok (.iadd, 1) := by decide +kernel
theorem dL_law_360 : decode cL_law 360 = .ok (.iaload, 1) := by decide +kernel
theorem dL_law_361 : decode cL_law 361 = .ok (.invokevirtual 46, 3) := by decide +kernel
theorem dL_law_364 : decode cL_law 364 = .ok (.if_icmp .eq 841, 3) := by decide +kernel
theorem dL_law_367 : decode cL_law 367 = .ok (.iconst 0, 1) := by decide +kernel
theorem dL_law_368 : decode cL_law 368 = .ok (.ireturn, 1) := by decide +kernel
theorem dL_law_369 : decode cL_law 369 = .ok (.aload_n 1, 1) := by decide +kernel
theorem dL_law_370 : decode cL_law 370 = .ok (.aload_n 0, 1) := by decide +kernel
theorem dL_law_371 : decode cL_law 371 = .ok (.iload_n 3, 1) := by decide +kernel
theorem dL_law_372 : decode cL_law 372 = .ok (.iconst 1, 1) := by decide +kernel
theorem dL_law_373 : decode cL_law 373 = .ok (.iadd, 1) := by decide +kernel
theorem dL_law_374 : decode cL_law 374 = .ok (.iaload, 1) := by decide +kernel
theorem dL_law_375 : decode cL_law 375 = .ok (.aload_n 0, 1) := by decide +kernel
theorem dL_law_376 : decode cL_law 376 = .ok (.iload_n 3, 1) := by decide +kernel
theorem dL_law_377 : decode cL_law 377 = .ok (.iconst 2, 1) := by decide +kernel
theorem dL_law_378 : decode cL_law 378 = .ok (.iadd, 1) := by decide +kernel
theorem dL_law_379 : decode cL_law 379 = .ok (.iaload, 1) := by decide +kernel
theorem dL_law_380 : decode cL_law 380 = .ok (.invokevirtual 47, 3) := by decide +kernel
theorem dL_law_383 : decode cL_law 383 = .ok (.aload_n 2, 1) := by decide +kernel
theorem dL_law_384 : decode cL_law 384 = .ok (.aload_n 0, 1) := by decide +kernel
theorem dL_law_385 : decode cL_law 385 = .ok (.iload_n 3, 1) := by decide +kernel
theorem dL_law_386 : decode cL_law 386 = .ok (.iconst 1, 1) := by decide +kernel
theorem dL_law_387 : decode cL_law 387 = .ok (.iadd, 1) := by decide +kernel
theorem dL_law_388 : decode cL_law 388 = .ok (.iaload, 1) := by decide +kernel
theorem dL_law_389 : decode cL_law 389 = .ok (.aload_n 0, 1) := by decide +kernel
theorem dL_law_390 : decode cL_law 390 = .ok (.iload_n 3, 1) := by decide +kernel
theorem dL_law_391 : decode cL_law 391 = .ok (.iconst 2, 1) := by decide +kernel
theorem dL_law_392 : decode cL_law 392 = .ok (.iadd, 1) := by decide +kernel
theorem dL_law_393 : decode cL_law 393 = .ok (.iaload, 1) := by decide +kernel
theorem dL_law_394 : decode cL_law 394 = .ok (.invokevirtual 50, 3) := by decide +kernel
theorem dL_law_397 : decode cL_law 397 = .ok (.if_icmp .eq 808, 3) := by decide +kernel
theorem dL_law_400 : decode cL_law 400 = .ok (.iconst 0, 1) := by decide +kernel
theorem dL_law_401 : decode cL_law 401 = .ok (.ireturn, 1) := by decide +kernel
theorem dL_law_402 : decode cL_law 402 = .ok (.aload_n 1, 1) := by decide +kernel
theorem dL_law_403 : decode cL_law 403 = .ok (.aload_n 0, 1) := by decide +kernel
theorem dL_law_404 : decode cL_law 404 = .ok (.iload_n 3, 1) := by decide +kernel
theorem dL_law_405 : decode cL_law 405 = .ok (.iconst 1, 1) := by decide +kernel
theorem dL_law_406 : decode cL_law 406 = .ok (.iadd, 1) := by decide +kernel
theorem dL_law_407 : decode cL_law 407 = .ok (.iaload, 1) := by decide +kernel
theorem dL_law_408 : decode cL_law 408 = .ok (.aload_n 0, 1) := by decide +kernel
theorem dL_law_409 : decode cL_law 409 = .ok (.iload_n 3, 1) := by decide +kernel
theorem dL_law_410 : decode cL_law 410 = .ok (.iconst 2, 1) := by decide +kernel
theorem dL_law_411 : decode cL_law 411 = .ok (.iadd, 1) := by decide +kernel
theorem dL_law_412 : decode cL_law 412 = .ok (.iaload, 1) := by decide +kernel
theorem dL_law_413 : decode cL_law 413 = .ok (.invokevirtual 51, 3) := by decide +kernel
theorem dL_law_416 : decode cL_law 416 = .ok (.aload_n 2, 1) := by decide +kernel
theorem dL_law_417 : decode cL_law 417 = .ok (.aload_n 0, 1) := by decide +kernel
theorem dL_law_418 : decode cL_law 418 = .ok (.iload_n 3, 1) := by decide +kernel
theorem dL_law_419 : decode cL_law 419 = .ok (.iconst 1, 1) := by decide +kernel
theorem dL_law_420 : decode cL_law 420 = .ok (.iadd, 1) := by decide +kernel
theorem dL_law_421 : decode cL_law 421 = .ok (.iaload, 1) := by decide +kernel
theorem dL_law_422 : decode cL_law 422 = .ok (.aload_n 0, 1) := by decide +kernel
theorem dL_law_423 : decode cL_law 423 = .ok (.iload_n 3, 1) := by decide +kernel
theorem dL_law_424 : decode cL_law 424 = .ok (.iconst 2, 1) := by decide +kernel
theorem dL_law_425 : decode cL_law 425 = .ok (.iadd, 1) := by decide +kernel
theorem dL_law_426 : decode cL_law 426 = .ok (.iaload, 1) := by decide +kernel
theorem dL_law_427 : decode cL_law 427 = .ok (.invokevirtual 54, 3) := by decide +kernel
theorem dL_law_430 : decode cL_law 430 = .ok (.if_icmp .eq 775, 3) := by decide +kernel
theorem dL_law_433 : decode cL_law 433 = .ok (.iconst 0, 1) := by decide +kernel
theorem dL_law_434 : decode cL_law 434 = .ok (.ireturn, 1) := by decide +kernel
theorem dL_law_435 : decode cL_law 435 = .ok (.aload_n 1, 1) := by decide +kernel
theorem dL_law_436 : decode cL_law 436 = .ok (.aload_n 0, 1) := by decide +kernel
theorem dL_law_437 : decode cL_law 437 = .ok (.iload_n 3, 1) := by decide +kernel
theorem dL_law_438 : decode cL_law 438 = .ok (.iconst 1, 1) := by decide +kernel
theorem dL_law_439 : decode cL_law 439 = .ok (.iadd, 1) := by decide +kernel
theorem dL_law_440 : decode cL_law 440 = .ok (.iaload, 1) := by decide +kernel
theorem dL_law_441 : decode cL_law 441 = .ok (.aload_n 0, 1) := by decide +kernel
theorem dL_law_442 : decode cL_law 442 = .ok (.iload_n 3, 1) := by decide +kernel
theorem dL_law_443 : decode cL_law 443 = .ok (.iconst 2, 1) := by decide +kernel
theorem dL_law_444 : decode cL_law 444 = .ok (.iadd, 1) := by decide +kernel
theorem dL_law_445 : decode cL_law 445 = .ok (.iaload, 1) := by decide +kernel
theorem dL_law_446 : decode cL_law 446 = .ok (.invokevirtual 55, 3) := by decide +kernel
theorem dL_law_449 : decode cL_law 449 = .ok (.aload_n 2, 1) := by decide +kernel
theorem dL_law_450 : decode cL_law 450 = .ok (.aload_n 0, 1) := by decide +kernel
theorem dL_law_451 : decode cL_law 451 = .ok (.iload_n 3, 1) := by decide +kernel
theorem dL_law_452 : decode cL_law 452 = .ok (.iconst 1, 1) := by decide +kernel
theorem dL_law_453 : decode cL_law 453 = .ok (.iadd, 1) := by decide +kernel
theorem dL_law_454 : decode cL_law 454 = .ok (.iaload, 1) := by decide +kernel
theorem dL_law_455 : decode cL_law 455 = .ok (.aload_n 0, 1) := by decide +kernel
theorem dL_law_456 : decode cL_law 456 = .ok (.iload_n 3, 1) := by decide +kernel
theorem dL_law_457 : decode cL_law 457 = .ok (.iconst 2, 1) := by decide +kernel
theorem dL_law_458 : decode cL_law 458 = .ok (.iadd, 1) := by decide +kernel
theorem dL_law_459 : decode cL_law 459 = .ok (.iaload, 1) := by decide +kernel
theorem dL_law_460 : decode cL_law 460 = .ok (.invokevirtual 58, 3) := by decide +kernel
theorem dL_law_463 : decode cL_law 463 = .ok (.if_icmp .eq 742, 3) := by decide +kernel
theorem dL_law_466 : decode cL_law 466 = .ok (.iconst 0, 1) := by decide +kernel
theorem dL_law_467 : decode cL_law 467 = .ok (.ireturn, 1) := by decide +kernel
theorem dL_law_468 : decode cL_law 468 = .ok (.aload_n 1, 1) := by decide +kernel
theorem dL_law_469 : decode cL_law 469 = .ok (.aload_n 0, 1) := by decide +kernel
theorem dL_law_470 : decode cL_law 470 = .ok (.iload_n 3, 1) := by decide +kernel
theorem dL_law_471 : decode cL_law 471 = .ok (.iconst 1, 1) := by decide +kernel
theorem dL_law_472 : decode cL_law 472 = .ok (.iadd, 1) := by decide +kernel
theorem dL_law_473 : decode cL_law 473 = .ok (.iaload, 1) := by decide +kernel
theorem dL_law_474 : decode cL_law 474 = .ok (.aload_n 0, 1) := by decide +kernel
theorem dL_law_475 : decode cL_law 475 = .ok (.iload_n 3, 1) := by decide +kernel
theorem dL_law_476 : decode cL_law 476 = .ok (.iconst 2, 1) := by decide +kernel
theorem dL_law_477 : decode cL_law 477 = .ok (.iadd, 1) := by decide +kernel
theorem dL_law_478 : decode cL_law 478 = .ok (.iaload, 1) := by decide +kernel
theorem dL_law_479 : decode cL_law 479 = .ok (.invokevirtual 59, 3) := by decide +kernel
theorem dL_law_482 : decode cL_law 482 = .ok (.aload_n 2, 1) := by decide +kernel
theorem dL_law_483 : decode cL_law 483 = .ok (.aload_n 0, 1) := by decide +kernel
theorem dL_law_484 : decode cL_law 484 = .ok (.iload_n 3, 1) := by decide +kernel
theorem dL_law_485 : decode cL_law 485 = .ok (.iconst 1, 1) := by decide +kernel
theorem dL_law_486 : decode cL_law 486 = .ok (.iadd, 1) := by decide +kernel
theorem dL_law_487 : decode cL_law 487 = .ok (.iaload, 1) := by decide +kernel
theorem dL_law_488 : decode cL_law 488 = .ok (.aload_n 0, 1) := by decide +kernel
theorem dL_law_489 : decode cL_law 489 = .ok (.iload_n 3, 1) := by decide +kernel
theorem dL_law_490 : decode cL_law 490 = .ok (.iconst 2, 1) := by decide +kernel
theorem dL_law_491 : decode cL_law 491 = .ok (.iadd, 1) := by decide +kernel
theorem dL_law_492 : decode cL_law 492 = .ok (.iaload, 1) := by decide +kernel
theorem dL_law_493 : decode cL_law 493 = .ok (.invokevirtual 62, 3) := by decide +kernel
theorem dL_law_496 : decode cL_law 496 = .ok (.if_icmp .eq 709, 3) := by decide +kernel
theorem dL_law_499 : decode cL_law 499 = .ok (.iconst 0, 1) := by decide +kernel
theorem dL_law_500 : decode cL_law 500 = .ok (.ireturn, 1) := by decide +kernel
theorem dL_law_501 : decode cL_law 501 = .ok (.aload_n 1, 1) := by decide +kernel
theorem dL_law_502 : decode cL_law 502 = .ok (.aload_n 0, 1) := by decide +kernel
theorem dL_law_503 : decode cL_law 503 = .ok (.iload_n 3, 1) := by decide +kernel
theorem dL_law_504 : decode cL_law 504 = .ok (.iconst 1, 1) := by decide +kernel
theorem dL_law_505 : decode cL_law 505 = .ok (.iadd, 1) := by decide +kernel
theorem dL_law_506 : decode cL_law 506 = .ok (.iaload, 1) := by decide +kernel
theorem dL_law_507 : decode cL_law 507 = .ok (.aload_n 0, 1) := by decide +kernel
theorem dL_law_508 : decode cL_law 508 = .ok (.iload_n 3, 1) := by decide +kernel
theorem dL_law_509 : decode cL_law 509 = .ok (.iconst 2, 1) := by decide +kernel
theorem dL_law_510 : decode cL_law 510 = .ok (.iadd, 1) := by decide +kernel
theorem dL_law_511 : decode cL_law 511 = .ok (.iaload, 1) := by decide +kernel
theorem dL_law_512 : decode cL_law 512 = .ok (.ifCond .eq 7, 3) := by decide +kernel
theorem dL_law_515 : decode cL_law 515 = .ok (.iconst 1, 1) := by decide +kernel
theorem dL_law_516 : decode cL_law 516 = .ok (.goto 4, 3) := by decide +kernel
theorem dL_law_519 : decode cL_law 519 = .ok (.iconst 0, 1) := by decide +kernel
theorem dL_law_520 : decode cL_law 520 = .ok (.invokevirtual 63, 3) := by decide +kernel
theorem dL_law_523 : decode cL_law 523 = .ok (.aload_n 2, 1) := by decide +kernel
theorem dL_law_524 : decode cL_law 524 = .ok (.aload_n 0, 1) := by decide +kernel
theorem dL_law_525 : decode cL_law 525 = .ok (.iload_n 3, 1) := by decide +kernel
theorem dL_law_526 : decode cL_law 526 = .ok (.iconst 1, 1) := by decide +kernel
theorem dL_law_527 : decode cL_law 527 = .ok (.iadd, 1) := by decide +kernel
theorem dL_law_528 : decode cL_law 528 = .ok (.iaload, 1) := by decide +kernel
theorem dL_law_529 : decode cL_law 529 = .ok (.aload_n 0, 1) := by decide +kernel
theorem dL_law_530 : decode cL_law 530 = .ok (.iload_n 3, 1) := by decide +kernel
theorem dL_law_531 : decode cL_law 531 = .ok (.iconst 2, 1) := by decide +kernel
theorem dL_law_532 : decode cL_law 532 = .ok (.iadd, 1) := by decide +kernel
theorem dL_law_533 : decode cL_law 533 = .ok (.iaload, 1) := by decide +kernel
theorem dL_law_534 : decode cL_law 534 = .ok (.ifCond .eq 7, 3) := by decide +kernel
theorem dL_law_537 : decode cL_law 537 = .ok (.iconst 1, 1) := by decide +kernel
theorem dL_law_538 : decode cL_law 538 = .ok (.goto 4, 3) := by decide +kernel
theorem dL_law_541 : decode cL_law 541 = .ok (.iconst 0, 1) := by decide +kernel
theorem dL_law_542 : decode cL_law 542 = .ok (.invokevirtual 67, 3) := by decide +kernel
theorem dL_law_545 : decode cL_law 545 = .ok (.if_icmp .eq 660, 3) := by decide +kernel
theorem dL_law_548 : decode cL_law 548 = .ok (.iconst 0, 1) := by decide +kernel
theorem dL_law_549 : decode cL_law 549 = .ok (.ireturn, 1) := by decide +kernel
theorem dL_law_550 : decode cL_law 550 = .ok (.aload_n 1, 1) := by decide +kernel
theorem dL_law_551 : decode cL_law 551 = .ok (.aload_n 0, 1) := by decide +kernel
theorem dL_law_552 : decode cL_law 552 = .ok (.iload_n 3, 1) := by decide +kernel
theorem dL_law_553 : decode cL_law 553 = .ok (.iconst 1, 1) := by decide +kernel
theorem dL_law_554 : decode cL_law 554 = .ok (.iadd, 1) := by decide +kernel
theorem dL_law_555 : decode cL_law 555 = .ok (.iaload, 1) := by decide +kernel
theorem dL_law_556 : decode cL_law 556 = .ok (.aload_n 0, 1) := by decide +kernel
theorem dL_law_557 : decode cL_law 557 = .ok (.iload_n 3, 1) := by decide +kernel
theorem dL_law_558 : decode cL_law 558 = .ok (.iconst 2, 1) := by decide +kernel
theorem dL_law_559 : decode cL_law 559 = .ok (.iadd, 1) := by decide +kernel
theorem dL_law_560 : decode cL_law 560 = .ok (.iaload, 1) := by decide +kernel
theorem dL_law_561 : decode cL_law 561 = .ok (.invokevirtual 68, 3) := by decide +kernel
theorem dL_law_564 : decode cL_law 564 = .ok (.aload_n 2, 1) := by decide +kernel
theorem dL_law_565 : decode cL_law 565 = .ok (.aload_n 0, 1) := by decide +kernel
theorem dL_law_566 : decode cL_law 566 = .ok (.iload_n 3, 1) := by decide +kernel
theorem dL_law_567 : decode cL_law 567 = .ok (.iconst 1, 1) := by decide +kernel
theorem dL_law_568 : decode cL_law 568 = .ok (.iadd, 1) := by decide +kernel
theorem dL_law_569 : decode cL_law 569 = .ok (.iaload, 1) := by decide +kernel
theorem dL_law_570 : decode cL_law 570 = .ok (.aload_n 0, 1) := by decide +kernel
theorem dL_law_571 : decode cL_law 571 = .ok (.iload_n 3, 1) := by decide +kernel
theorem dL_law_572 : decode cL_law 572 = .ok (.iconst 2, 1) := by decide +kernel
theorem dL_law_573 : decode cL_law 573 = .ok (.iadd, 1) := by decide +kernel
theorem dL_law_574 : decode cL_law 574 = .ok (.iaload, 1) := by decide +kernel
theorem dL_law_575 : decode cL_law 575 = .ok (.invokevirtual 71, 3) := by decide +kernel
theorem dL_law_578 : decode cL_law 578 = .ok (.if_icmp .eq 627, 3) := by decide +kernel
theorem dL_law_581 : decode cL_law 581 = .ok (.iconst 0, 1) := by decide +kernel
theorem dL_law_582 : decode cL_law 582 = .ok (.ireturn, 1) := by decide +kernel
theorem dL_law_583 : decode cL_law 583 = .ok (.aload_n 1, 1) := by decide +kernel
theorem dL_law_584 : decode cL_law 584 = .ok (.aload_n 0, 1) := by decide +kernel
theorem dL_law_585 : decode cL_law 585 = .ok (.iload_n 3, 1) := by decide +kernel
theorem dL_law_586 : decode cL_law 586 = .ok (.iconst 1, 1) := by decide +kernel
theorem dL_law_587 : decode cL_law 587 = .ok (.iadd, 1) := by decide +kernel
theorem dL_law_588 : decode cL_law 588 = .ok (.iaload, 1) := by decide +kernel
theorem dL_law_589 : decode cL_law 589 = .ok (.aload_n 0, 1) := by decide +kernel
theorem dL_law_590 : decode cL_law 590 = .ok (.iload_n 3, 1) := by decide +kernel
theorem dL_law_591 : decode cL_law 591 = .ok (.iconst 2, 1) := by decide +kernel
theorem dL_law_592 : decode cL_law 592 = .ok (.iadd, 1) := by decide +kernel
theorem dL_law_593 : decode cL_law 593 = .ok (.iaload, 1) := by decide +kernel
theorem dL_law_594 : decode cL_law 594 = .ok (.invokevirtual 72, 3) := by decide +kernel
theorem dL_law_597 : decode cL_law 597 = .ok (.aload_n 2, 1) := by decide +kernel
theorem dL_law_598 : decode cL_law 598 = .ok (.aload_n 0, 1) := by decide +kernel
theorem dL_law_599 : decode cL_law 599 = .ok (.iload_n 3, 1) := by decide +kernel
theorem dL_law_600 : decode cL_law 600 = .ok (.iconst 1, 1) := by decide +kernel
theorem dL_law_601 : decode cL_law 601 = .ok (.iadd, 1) := by decide +kernel
theorem dL_law_602 : decode cL_law 602 = .ok (.iaload, 1) := by decide +kernel
theorem dL_law_603 : decode cL_law 603 = .ok (.aload_n 0, 1) := by decide +kernel
theorem dL_law_604 : decode cL_law 604 = .ok (.iload_n 3, 1) := by decide +kernel
theorem dL_law_605 : decode cL_law 605 = .ok (.iconst 2, 1) := by decide +kernel
theorem dL_law_606 : decode cL_law 606 = .ok (.iadd, 1) := by decide +kernel
theorem dL_law_607 : decode cL_law 607 = .ok (.iaload, 1) := by decide +kernel
theorem dL_law_608 : decode cL_law 608 = .ok (.invokevirtual 75, 3) := by decide +kernel
theorem dL_law_611 : decode cL_law 611 = .ok (.if_icmp .eq 594, 3) := by decide +kernel
theorem dL_law_614 : decode cL_law 614 = .ok (.iconst 0, 1) := by decide +kernel
theorem dL_law_615 : decode cL_law 615 = .ok (.ireturn, 1) := by decide +kernel
theorem dL_law_616 : decode cL_law 616 = .ok (.aload_n 1, 1) := by decide +kernel
theorem dL_law_617 : decode cL_law 617 = .ok (.aload_n 0, 1) := by decide +kernel
theorem dL_law_618 : decode cL_law 618 = .ok (.iload_n 3, 1) := by decide +kernel
theorem dL_law_619 : decode cL_law 619 = .ok (.iconst 1, 1) := by decide +kernel
theorem dL_law_620 : decode cL_law 620 = .ok (.iadd, 1) := by decide +kernel
theorem dL_law_621 : decode cL_law 621 = .ok (.iaload, 1) := by decide +kernel
theorem dL_law_622 : decode cL_law 622 = .ok (.aload_n 0, 1) := by decide +kernel
theorem dL_law_623 : decode cL_law 623 = .ok (.iload_n 3, 1) := by decide +kernel
theorem dL_law_624 : decode cL_law 624 = .ok (.iconst 2, 1) := by decide +kernel
theorem dL_law_625 : decode cL_law 625 = .ok (.iadd, 1) := by decide +kernel
theorem dL_law_626 : decode cL_law 626 = .ok (.iaload, 1) := by decide +kernel
theorem dL_law_627 : decode cL_law 627 = .ok (.invokevirtual 76, 3) := by decide +kernel
theorem dL_law_630 : decode cL_law 630 = .ok (.aload_n 2, 1) := by decide +kernel
theorem dL_law_631 : decode cL_law 631 = .ok (.aload_n 0, 1) := by decide +kernel
theorem dL_law_632 : decode cL_law 632 = .ok (.iload_n 3, 1) := by decide +kernel
theorem dL_law_633 : decode cL_law 633 = .ok (.iconst 1, 1) := by decide +kernel
theorem dL_law_634 : decode cL_law 634 = .ok (.iadd, 1) := by decide +kernel
theorem dL_law_635 : decode cL_law 635 = .ok (.iaload, 1) := by decide +kernel
theorem dL_law_636 : decode cL_law 636 = .ok (.aload_n 0, 1) := by decide +kernel
theorem dL_law_637 : decode cL_law 637 = .ok (.iload_n 3, 1) := by decide +kernel
theorem dL_law_638 : decode cL_law 638 = .ok (.iconst 2, 1) := by decide +kernel
theorem dL_law_639 : decode cL_law 639 = .ok (.iadd, 1) := by decide +kernel
theorem dL_law_640 : decode cL_law 640 = .ok (.iaload, 1) := by decide +kernel
theorem dL_law_641 : decode cL_law 641 = .ok (.invokevirtual 79, 3) := by decide +kernel
theorem dL_law_644 : decode cL_law 644 = .ok (.if_icmp .eq 561, 3) := by decide +kernel
theorem dL_law_647 : decode cL_law 647 = .ok (.iconst 0, 1) := by decide +kernel
theorem dL_law_648 : decode cL_law 648 = .ok (.ireturn, 1) := by decide +kernel
theorem dL_law_649 : decode cL_law 649 = .ok (.aload_n 1, 1) := by decide +kernel
theorem dL_law_650 : decode cL_law 650 = .ok (.aload_n 0, 1) := by decide +kernel
theorem dL_law_651 : decode cL_law 651 = .ok (.iload_n 3, 1) := by decide +kernel
theorem dL_law_652 : decode cL_law 652 = .ok (.iconst 1, 1) := by decide +kernel
theorem dL_law_653 : decode cL_law 653 = .ok (.iadd, 1) := by decide +kernel
theorem dL_law_654 : decode cL_law 654 = .ok (.iaload, 1) := by decide +kernel
theorem dL_law_655 : decode cL_law 655 = .ok (.invokevirtual 80, 3) := by decide +kernel
theorem dL_law_658 : decode cL_law 658 = .ok (.aload_n 2, 1) := by decide +kernel
theorem dL_law_659 : decode cL_law 659 = .ok (.aload_n 0, 1) := by decide +kernel
theorem dL_law_660 : decode cL_law 660 = .ok (.iload_n 3, 1) := by decide +kernel
theorem dL_law_661 : decode cL_law 661 = .ok (.iconst 1, 1) := by decide +kernel
theorem dL_law_662 : decode cL_law 662 = .ok (.iadd, 1) := by decide +kernel
theorem dL_law_663 : decode cL_law 663 = .ok (.iaload, 1) := by decide +kernel
theorem dL_law_664 : decode cL_law 664 = .ok (.invokevirtual 83, 3) := by decide +kernel
theorem dL_law_667 : decode cL_law 667 = .ok (.if_icmp .eq 538, 3) := by decide +kernel
theorem dL_law_670 : decode cL_law 670 = .ok (.iconst 0, 1) := by decide +kernel
theorem dL_law_671 : decode cL_law 671 = .ok (.ireturn, 1) := by decide +kernel
theorem dL_law_672 : decode cL_law 672 = .ok (.aload_n 1, 1) := by decide +kernel
theorem dL_law_673 : decode cL_law 673 = .ok (.aload_n 0, 1) := by decide +kernel
theorem dL_law_674 : decode cL_law 674 = .ok (.iload_n 3, 1) := by decide +kernel
theorem dL_law_675 : decode cL_law 675 = .ok (.iconst 1, 1) := by decide +kernel
theorem dL_law_676 : decode cL_law 676 = .ok (.iadd, 1) := by decide +kernel
theorem dL_law_677 : decode cL_law 677 = .ok (.iaload, 1) := by decide +kernel
theorem dL_law_678 : decode cL_law 678 = .ok (.aload_n 0, 1) := by decide +kernel
theorem dL_law_679 : decode cL_law 679 = .ok (.iload_n 3, 1) := by decide +kernel
theorem dL_law_680 : decode cL_law 680 = .ok (.iconst 2, 1) := by decide +kernel
theorem dL_law_681 : decode cL_law 681 = .ok (.iadd, 1) := by decide +kernel
theorem dL_law_682 : decode cL_law 682 = .ok (.iaload, 1) := by decide +kernel
theorem dL_law_683 : decode cL_law 683 = .ok (.invokevirtual 84, 3) := by decide +kernel
theorem dL_law_686 : decode cL_law 686 = .ok (.aload_n 2, 1) := by decide +kernel
theorem dL_law_687 : decode cL_law 687 = .ok (.aload_n 0, 1) := by decide +kernel
theorem dL_law_688 : decode cL_law 688 = .ok (.iload_n 3, 1) := by decide +kernel
theorem dL_law_689 : decode cL_law 689 = .ok (.iconst 1, 1) := by decide +kernel
theorem dL_law_690 : decode cL_law 690 = .ok (.iadd, 1) := by decide +kernel
theorem dL_law_691 : decode cL_law 691 = .ok (.iaload, 1) := by decide +kernel
theorem dL_law_692 : decode cL_law 692 = .ok (.aload_n 0, 1) := by decide +kernel
theorem dL_law_693 : decode cL_law 693 = .ok (.iload_n 3, 1) := by decide +kernel
theorem dL_law_694 : decode cL_law 694 = .ok (.iconst 2, 1) := by decide +kernel
theorem dL_law_695 : decode cL_law 695 = .ok (.iadd, 1) := by decide +kernel
theorem dL_law_696 : decode cL_law 696 = .ok (.iaload, 1) := by decide +kernel
theorem dL_law_697 : decode cL_law 697 = .ok (.invokevirtual 87, 3) := by decide +kernel
theorem dL_law_700 : decode cL_law 700 = .ok (.if_icmp .eq 505, 3) := by decide +kernel
theorem dL_law_703 : decode cL_law 703 = .ok (.iconst 0, 1) := by decide +kernel
theorem dL_law_704 : decode cL_law 704 = .ok (.ireturn, 1) := by decide +kernel
theorem dL_law_705 : decode cL_law 705 = .ok (.aload_n 1, 1) := by decide +kernel
theorem dL_law_706 : decode cL_law 706 = .ok (.invokevirtual 88, 3) := by decide +kernel
theorem dL_law_709 : decode cL_law 709 = .ok (.aload_n 2, 1) := by decide +kernel
theorem dL_law_710 : decode cL_law 710 = .ok (.invokevirtual 91, 3) := by decide +kernel
theorem dL_law_713 : decode cL_law 713 = .ok (.if_icmp .eq 492, 3) := by decide +kernel
theorem dL_law_716 : decode cL_law 716 = .ok (.iconst 0, 1) := by decide +kernel
theorem dL_law_717 : decode cL_law 717 = .ok (.ireturn, 1) := by decide +kernel
theorem dL_law_718 : decode cL_law 718 = .ok (.aload_n 1, 1) := by decide +kernel
theorem dL_law_719 : decode cL_law 719 = .ok (.invokevirtual 92, 3) := by decide +kernel
theorem dL_law_722 : decode cL_law 722 = .ok (.aload_n 2, 1) := by decide +kernel
theorem dL_law_723 : decode cL_law 723 = .ok (.invokevirtual 95, 3) := by decide +kernel
theorem dL_law_726 : decode cL_law 726 = .ok (.if_icmp .eq 479, 3) := by decide +kernel
theorem dL_law_729 : decode cL_law 729 = .ok (.iconst 0, 1) := by decide +kernel
theorem dL_law_730 : decode cL_law 730 = .ok (.ireturn, 1) := by decide +kernel
theorem dL_law_731 : decode cL_law 731 = .ok (.aload_n 1, 1) := by decide +kernel
theorem dL_law_732 : decode cL_law 732 = .ok (.aload_n 0, 1) := by decide +kernel
theorem dL_law_733 : decode cL_law 733 = .ok (.iload_n 3, 1) := by decide +kernel
theorem dL_law_734 : decode cL_law 734 = .ok (.iconst 1, 1) := by decide +kernel
theorem dL_law_735 : decode cL_law 735 = .ok (.iadd, 1) := by decide +kernel
theorem dL_law_736 : decode cL_law 736 = .ok (.iaload, 1) := by decide +kernel
theorem dL_law_737 : decode cL_law 737 = .ok (.invokevirtual 96, 3) := by decide +kernel
theorem dL_law_740 : decode cL_law 740 = .ok (.aload_n 2, 1) := by decide +kernel
theorem dL_law_741 : decode cL_law 741 = .ok (.aload_n 0, 1) := by decide +kernel
theorem dL_law_742 : decode cL_law 742 = .ok (.iload_n 3, 1) := by decide +kernel
theorem dL_law_743 : decode cL_law 743 = .ok (.iconst 1, 1) := by decide +kernel
theorem dL_law_744 : decode cL_law 744 = .ok (.iadd, 1) := by decide +kernel
theorem dL_law_745 : decode cL_law 745 = .ok (.iaload, 1) := by decide +kernel
theorem dL_law_746 : decode cL_law 746 = .ok (.invokevirtual 99, 3) := by decide +kernel
theorem dL_law_749 : decode cL_law 749 = .ok (.if_icmp .eq 456, 3) := by decide +kernel
theorem dL_law_752 : decode cL_law 752 = .ok (.iconst 0, 1) := by decide +kernel
theorem dL_law_753 : decode cL_law 753 = .ok (.ireturn, 1) := by decide +kernel
theorem dL_law_754 : decode cL_law 754 = .ok (.aload_n 1, 1) := by decide +kernel
theorem dL_law_755 : decode cL_law 755 = .ok (.aload_n 0, 1) := by decide +kernel
theorem dL_law_756 : decode cL_law 756 = .ok (.iload_n 3, 1) := by decide +kernel
theorem dL_law_757 : decode cL_law 757 = .ok (.iconst 1, 1) := by decide +kernel
theorem dL_law_758 : decode cL_law 758 = .ok (.iadd, 1) := by decide +kernel
theorem dL_law_759 : decode cL_law 759 = .ok (.iaload, 1) := by decide +kernel
theorem dL_law_760 : decode cL_law 760 = .ok (.invokevirtual 100, 3) := by decide +kernel
theorem dL_law_763 : decode cL_law 763 = .ok (.aload_n 2, 1) := by decide +kernel
theorem dL_law_764 : decode cL_law 764 = .ok (.aload_n 0, 1) := by decide +kernel
theorem dL_law_765 : decode cL_law 765 = .ok (.iload_n 3, 1) := by decide +kernel
theorem dL_law_766 : decode cL_law 766 = .ok (.iconst 1, 1) := by decide +kernel
theorem dL_law_767 : decode cL_law 767 = .ok (.iadd, 1) := by decide +kernel
theorem dL_law_768 : decode cL_law 768 = .ok (.iaload, 1) := by decide +kernel
theorem dL_law_769 : decode cL_law 769 = .ok (.invokevirtual 103, 3) := by decide +kernel
theorem dL_law_772 : decode cL_law 772 = .ok (.if_icmp .eq 433, 3) := by decide +kernel
theorem dL_law_775 : decode cL_law 775 = .ok (.iconst 0, 1) := by decide +kernel
theorem dL_law_776 : decode cL_law 776 = .ok (.ireturn, 1) := by decide +kernel
theorem dL_law_777 : decode cL_law 777 = .ok (.aload_n 1, 1) := by decide +kernel
theorem dL_law_778 : decode cL_law 778 = .ok (.aload_n 0, 1) := by decide +kernel
theorem dL_law_779 : decode cL_law 779 = .ok (.iload_n 3, 1) := by decide +kernel
theorem dL_law_780 : decode cL_law 780 = .ok (.iconst 1, 1) := by decide +kernel
theorem dL_law_781 : decode cL_law 781 = .ok (.iadd, 1) := by decide +kernel
theorem dL_law_782 : decode cL_law 782 = .ok (.iaload, 1) := by decide +kernel
theorem dL_law_783 : decode cL_law 783 = .ok (.invokevirtual 104, 3) := by decide +kernel
theorem dL_law_786 : decode cL_law 786 = .ok (.aload_n 2, 1) := by decide +kernel
theorem dL_law_787 : decode cL_law 787 = .ok (.aload_n 0, 1) := by decide +kernel
theorem dL_law_788 : decode cL_law 788 = .ok (.iload_n 3, 1) := by decide +kernel
theorem dL_law_789 : decode cL_law 789 = .ok (.iconst 1, 1) := by decide +kernel
theorem dL_law_790 : decode cL_law 790 = .ok (.iadd, 1) := by decide +kernel
theorem dL_law_791 : decode cL_law 791 = .ok (.iaload, 1) := by decide +kernel
theorem dL_law_792 : decode cL_law 792 = .ok (.invokevirtual 107, 3) := by decide +kernel
theorem dL_law_795 : decode cL_law 795 = .ok (.if_icmp .eq 410, 3) := by decide +kernel
theorem dL_law_798 : decode cL_law 798 = .ok (.iconst 0, 1) := by decide +kernel
theorem dL_law_799 : decode cL_law 799 = .ok (.ireturn, 1) := by decide +kernel
theorem dL_law_800 : decode cL_law 800 = .ok (.aload_n 1, 1) := by decide +kernel
theorem dL_law_801 : decode cL_law 801 = .ok (.invokevirtual 108, 3) := by decide +kernel
theorem dL_law_804 : decode cL_law 804 = .ok (.aload_n 2, 1) := by decide +kernel
theorem dL_law_805 : decode cL_law 805 = .ok (.invokevirtual 111, 3) := by decide +kernel
theorem dL_law_808 : decode cL_law 808 = .ok (.if_icmp .eq 397, 3) := by decide +kernel
theorem dL_law_811 : decode cL_law 811 = .ok (.iconst 0, 1) := by decide +kernel
theorem dL_law_812 : decode cL_law 812 = .ok (.ireturn, 1) := by decide +kernel
theorem dL_law_813 : decode cL_law 813 = .ok (.aload_n 1, 1) := by decide +kernel
theorem dL_law_814 : decode cL_law 814 = .ok (.aload_n 0, 1) := by decide +kernel
theorem dL_law_815 : decode cL_law 815 = .ok (.iload_n 3, 1) := by decide +kernel
theorem dL_law_816 : decode cL_law 816 = .ok (.iconst 1, 1) := by decide +kernel
theorem dL_law_817 : decode cL_law 817 = .ok (.iadd, 1) := by decide +kernel
theorem dL_law_818 : decode cL_law 818 = .ok (.iaload, 1) := by decide +kernel
theorem dL_law_819 : decode cL_law 819 = .ok (.aload_n 0, 1) := by decide +kernel
theorem dL_law_820 : decode cL_law 820 = .ok (.iload_n 3, 1) := by decide +kernel
theorem dL_law_821 : decode cL_law 821 = .ok (.iconst 2, 1) := by decide +kernel
theorem dL_law_822 : decode cL_law 822 = .ok (.iadd, 1) := by decide +kernel
theorem dL_law_823 : decode cL_law 823 = .ok (.iaload, 1) := by decide +kernel
theorem dL_law_824 : decode cL_law 824 = .ok (.aload_n 0, 1) := by decide +kernel
theorem dL_law_825 : decode cL_law 825 = .ok (.iload_n 3, 1) := by decide +kernel
theorem dL_law_826 : decode cL_law 826 = .ok (.iconst 3, 1) := by decide +kernel
theorem dL_law_827 : decode cL_law 827 = .ok (.iadd, 1) := by decide +kernel
theorem dL_law_828 : decode cL_law 828 = .ok (.iaload, 1) := by decide +kernel
theorem dL_law_829 : decode cL_law 829 = .ok (.aload_n 0, 1) := by decide +kernel
theorem dL_law_830 : decode cL_law 830 = .ok (.iload_n 3, 1) := by decide +kernel
theorem dL_law_831 : decode cL_law 831 = .ok (.iconst 4, 1) := by decide +kernel
theorem dL_law_832 : decode cL_law 832 = .ok (.iadd, 1) := by decide +kernel
theorem dL_law_833 : decode cL_law 833 = .ok (.iaload, 1) := by decide +kernel
theorem dL_law_834 : decode cL_law 834 = .ok (.ifCond .eq 7, 3) := by decide +kernel
theorem dL_law_837 : decode cL_law 837 = .ok (.iconst 1, 1) := by decide +kernel
theorem dL_law_838 : decode cL_law 838 = .ok (.goto 4, 3) := by decide +kernel
theorem dL_law_841 : decode cL_law 841 = .ok (.iconst 0, 1) := by decide +kernel
theorem dL_law_842 : decode cL_law 842 = .ok (.invokevirtual 112, 3) := by decide +kernel
theorem dL_law_845 : decode cL_law 845 = .ok (.aload_n 2, 1) := by decide +kernel
theorem dL_law_846 : decode cL_law 846 = .ok (.aload_n 0, 1) := by decide +kernel
theorem dL_law_847 : decode cL_law 847 = .ok (.iload_n 3, 1) := by decide +kernel
theorem dL_law_848 : decode cL_law 848 = .ok (.iconst 1, 1) := by decide +kernel
theorem dL_law_849 : decode cL_law 849 = .ok (.iadd, 1) := by decide +kernel
theorem dL_law_850 : decode cL_law 850 = .ok (.iaload, 1) := by decide +kernel
theorem dL_law_851 : decode cL_law 851 = .ok (.aload_n 0, 1) := by decide +kernel
theorem dL_law_852 : decode cL_law 852 = .ok (.iload_n 3, 1) := by decide +kernel
theorem dL_law_853 : decode cL_law 853 = .ok (.iconst 2, 1) := by decide +kernel
theorem dL_law_854 : decode cL_law 854 = .ok (.iadd, 1) := by decide +kernel
theorem dL_law_855 : decode cL_law 855 = .ok (.iaload, 1) := by decide +kernel
theorem dL_law_856 : decode cL_law 856 = .ok (.aload_n 0, 1) := by decide +kernel
theorem dL_law_857 : decode cL_law 857 = .ok (.iload_n 3, 1) := by decide +kernel
theorem dL_law_858 : decode cL_law 858 = .ok (.iconst 3, 1) := by decide +kernel
theorem dL_law_859 : decode cL_law 859 = .ok (.iadd, 1) := by decide +kernel
theorem dL_law_860 : decode cL_law 860 = .ok (.iaload, 1) := by decide +kernel
theorem dL_law_861 : decode cL_law 861 = .ok (.aload_n 0, 1) := by decide +kernel
theorem dL_law_862 : decode cL_law 862 = .ok (.iload_n 3, 1) := by decide +kernel
theorem dL_law_863 : decode cL_law 863 = .ok (.iconst 4, 1) := by decide +kernel
theorem dL_law_864 : decode cL_law 864 = .ok (.iadd, 1) := by decide +kernel
theorem dL_law_865 : decode cL_law 865 = .ok (.iaload, 1) := by decide +kernel
theorem dL_law_866 : decode cL_law 866 = .ok (.ifCond .eq 7, 3) := by decide +kernel
theorem dL_law_869 : decode cL_law 869 = .ok (.iconst 1, 1) := by decide +kernel
theorem dL_law_870 : decode cL_law 870 = .ok (.goto 4, 3) := by decide +kernel
theorem dL_law_873 : decode cL_law 873 = .ok (.iconst 0, 1) := by decide +kernel
theorem dL_law_874 : decode cL_law 874 = .ok (.invokevirtual 116, 3) := by decide +kernel
theorem dL_law_877 : decode cL_law 877 = .ok (.if_icmp .eq 328, 3) := by decide +kernel
theorem dL_law_880 : decode cL_law 880 = .ok (.iconst 0, 1) := by decide +kernel
theorem dL_law_881 : decode cL_law 881 = .ok (.ireturn, 1) := by decide +kernel
theorem dL_law_882 : decode cL_law 882 = .ok (.aload_n 1, 1) := by decide +kernel
theorem dL_law_883 : decode cL_law 883 = .ok (.aload_n 0, 1) := by decide +kernel
theorem dL_law_884 : decode cL_law 884 = .ok (.iload_n 3, 1) := by decide +kernel
theorem dL_law_885 : decode cL_law 885 = .ok (.iconst 1, 1) := by decide +kernel
theorem dL_law_886 : decode cL_law 886 = .ok (.iadd, 1) := by decide +kernel
theorem dL_law_887 : decode cL_law 887 = .ok (.iaload, 1) := by decide +kernel
theorem dL_law_888 : decode cL_law 888 = .ok (.invokevirtual 117, 3) := by decide +kernel
theorem dL_law_891 : decode cL_law 891 = .ok (.aload_n 2, 1) := by decide +kernel
theorem dL_law_892 : decode cL_law 892 = .ok (.aload_n 0, 1) := by decide +kernel
theorem dL_law_893 : decode cL_law 893 = .ok (.iload_n 3, 1) := by decide +kernel
theorem dL_law_894 : decode cL_law 894 = .ok (.iconst 1, 1) := by decide +kernel
theorem dL_law_895 : decode cL_law 895 = .ok (.iadd, 1) := by decide +kernel
theorem dL_law_896 : decode cL_law 896 = .ok (.iaload, 1) := by decide +kernel
theorem dL_law_897 : decode cL_law 897 = .ok (.invokevirtual 120, 3) := by decide +kernel
theorem dL_law_900 : decode cL_law 900 = .ok (.if_icmp .eq 305, 3) := by decide +kernel
theorem dL_law_903 : decode cL_law 903 = .ok (.iconst 0, 1) := by decide +kernel
theorem dL_law_904 : decode cL_law 904 = .ok (.ireturn, 1) := by decide +kernel
theorem dL_law_905 : decode cL_law 905 = .ok (.aload_n 1, 1) := by decide +kernel
theorem dL_law_906 : decode cL_law 906 = .ok (.aload_n 0, 1) := by decide +kernel
theorem dL_law_907 : decode cL_law 907 = .ok (.iload_n 3, 1) := by decide +kernel
theorem dL_law_908 : decode cL_law 908 = .ok (.iconst 1, 1) := by decide +kernel
theorem dL_law_909 : decode cL_law 909 = .ok (.iadd, 1) := by decide +kernel
theorem dL_law_910 : decode cL_law 910 = .ok (.iaload, 1) := by decide +kernel
theorem dL_law_911 : decode cL_law 911 = .ok (.invokevirtual 121, 3) := by decide +kernel
theorem dL_law_914 : decode cL_law 914 = .ok (.aload_n 2, 1) := by decide +kernel
theorem dL_law_915 : decode cL_law 915 = .ok (.aload_n 0, 1) := by decide +kernel
theorem dL_law_916 : decode cL_law 916 = .ok (.iload_n 3, 1) := by decide +kernel
theorem dL_law_917 : decode cL_law 917 = .ok (.iconst 1, 1) := by decide +kernel
theorem dL_law_918 : decode cL_law 918 = .ok (.iadd, 1) := by decide +kernel
theorem dL_law_919 : decode cL_law 919 = .ok (.iaload, 1) := by decide +kernel
theorem dL_law_920 : decode cL_law 920 = .ok (.invokevirtual 124, 3) := by decide +kernel
theorem dL_law_923 : decode cL_law 923 = .ok (.if_icmp .eq 282, 3) := by decide +kernel
theorem dL_law_926 : decode cL_law 926 = .ok (.iconst 0, 1) := by decide +kernel
theorem dL_law_927 : decode cL_law 927 = .ok (.ireturn, 1) := by decide +kernel
theorem dL_law_928 : decode cL_law 928 = .ok (.aload_n 1, 1) := by decide +kernel
theorem dL_law_929 : decode cL_law 929 = .ok (.invokevirtual 125, 3) := by decide +kernel
theorem dL_law_932 : decode cL_law 932 = .ok (.aload_n 2, 1) := by decide +kernel
theorem dL_law_933 : decode cL_law 933 = .ok (.invokevirtual 128, 3) := by decide +kernel
theorem dL_law_936 : decode cL_law 936 = .ok (.if_icmp .eq 269, 3) := by decide +kernel
theorem dL_law_939 : decode cL_law 939 = .ok (.iconst 0, 1) := by decide +kernel
theorem dL_law_940 : decode cL_law 940 = .ok (.ireturn, 1) := by decide +kernel
theorem dL_law_941 : decode cL_law 941 = .ok (.aload_n 1, 1) := by decide +kernel
theorem dL_law_942 : decode cL_law 942 = .ok (.aload_n 0, 1) := by decide +kernel
theorem dL_law_943 : decode cL_law 943 = .ok (.iload_n 3, 1) := by decide +kernel
theorem dL_law_944 : decode cL_law 944 = .ok (.iconst 1, 1) := by decide +kernel
theorem dL_law_945 : decode cL_law 945 = .ok (.iadd, 1) := by decide +kernel
theorem dL_law_946 : decode cL_law 946 = .ok (.iaload, 1) := by decide +kernel
theorem dL_law_947 : decode cL_law 947 = .ok (.aload_n 0, 1) := by decide +kernel
theorem dL_law_948 : decode cL_law 948 = .ok (.iload_n 3, 1) := by decide +kernel
theorem dL_law_949 : decode cL_law 949 = .ok (.iconst 2, 1) := by decide +kernel
theorem dL_law_950 : decode cL_law 950 = .ok (.iadd, 1) := by decide +kernel
theorem dL_law_951 : decode cL_law 951 = .ok (.iaload, 1) := by decide +kernel
theorem dL_law_952 : decode cL_law 952 = .ok (.aload_n 0, 1) := by decide +kernel
theorem dL_law_953 : decode cL_law 953 = .ok (.iload_n 3, 1) := by decide +kernel
theorem dL_law_954 : decode cL_law 954 = .ok (.iconst 3, 1) := by decide +kernel
theorem dL_law_955 : decode cL_law 955 = .ok (.iadd, 1) := by decide +kernel
theorem dL_law_956 : decode cL_law 956 = .ok (.iaload, 1) := by decide +kernel
theorem dL_law_957 : decode cL_law 957 = .ok (.invokevirtual 129, 3) := by decide +kernel
theorem dL_law_960 : decode cL_law 960 = .ok (.aload_n 2, 1) := by decide +kernel
theorem dL_law_961 : decode cL_law 961 = .ok (.aload_n 0, 1) := by decide +kernel
theorem dL_law_962 : decode cL_law 962 = .ok (.iload_n 3, 1) := by decide +kernel
theorem dL_law_963 : decode cL_law 963 = .ok (.iconst 1, 1) := by decide +kernel
theorem dL_law_964 : decode cL_law 964 = .ok (.iadd, 1) := by decide +kernel
theorem dL_law_965 : decode cL_law 965 = .ok (.iaload, 1) := by decide +kernel
theorem dL_law_966 : decode cL_law 966 = .ok (.aload_n 0, 1) := by decide +kernel
theorem dL_law_967 : decode cL_law 967 = .ok (.iload_n 3, 1) := by decide +kernel
theorem dL_law_968 : decode cL_law 968 = .ok (.iconst 2, 1) := by decide +kernel
theorem dL_law_969 : decode cL_law 969 = .ok (.iadd, 1) := by decide +kernel
theorem dL_law_970 : decode cL_law 970 = .ok (.iaload, 1) := by decide +kernel
theorem dL_law_971 : decode cL_law 971 = .ok (.aload_n 0, 1) := by decide +kernel
theorem dL_law_972 : decode cL_law 972 = .ok (.iload_n 3, 1) := by decide +kernel
theorem dL_law_973 : decode cL_law 973 = .ok (.iconst 3, 1) := by decide +kernel
theorem dL_law_974 : decode cL_law 974 = .ok (.iadd, 1) := by decide +kernel
theorem dL_law_975 : decode cL_law 975 = .ok (.iaload, 1) := by decide +kernel
theorem dL_law_976 : decode cL_law 976 = .ok (.invokevirtual 133, 3) := by decide +kernel
theorem dL_law_979 : decode cL_law 979 = .ok (.if_icmp .eq 226, 3) := by decide +kernel
theorem dL_law_982 : decode cL_law 982 = .ok (.iconst 0, 1) := by decide +kernel
theorem dL_law_983 : decode cL_law 983 = .ok (.ireturn, 1) := by decide +kernel
theorem dL_law_984 : decode cL_law 984 = .ok (.aload_n 1, 1) := by decide +kernel
theorem dL_law_985 : decode cL_law 985 = .ok (.aload_n 0, 1) := by decide +kernel
theorem dL_law_986 : decode cL_law 986 = .ok (.iload_n 3, 1) := by decide +kernel
theorem dL_law_987 : decode cL_law 987 = .ok (.iconst 1, 1) := by decide +kernel
theorem dL_law_988 : decode cL_law 988 = .ok (.iadd, 1) := by decide +kernel
theorem dL_law_989 : decode cL_law 989 = .ok (.iaload, 1) := by decide +kernel
theorem dL_law_990 : decode cL_law 990 = .ok (.invokevirtual 134, 3) := by decide +kernel
theorem dL_law_993 : decode cL_law 993 = .ok (.aload_n 2, 1) := by decide +kernel
theorem dL_law_994 : decode cL_law 994 = .ok (.aload_n 0, 1) := by decide +kernel
theorem dL_law_995 : decode cL_law 995 = .ok (.iload_n 3, 1) := by decide +kernel
theorem dL_law_996 : decode cL_law 996 = .ok (.iconst 1, 1) := by decide +kernel
theorem dL_law_997 : decode cL_law 997 = .ok (.iadd, 1) := by decide +kernel
theorem dL_law_998 : decode cL_law 998 = .ok (.iaload, 1) := by decide +kernel
theorem dL_law_999 : decode cL_law 999 = .ok (.invokevirtual 137, 3) := by decide +kernel
theorem dL_law_1002 : decode cL_law 1002 = .ok (.if_icmp .eq 203, 3) := by decide +kernel
theorem dL_law_1005 : decode cL_law 1005 = .ok (.iconst 0, 1) := by decide +kernel
theorem dL_law_1006 : decode cL_law 1006 = .ok (.ireturn, 1) := by decide +kernel
theorem dL_law_1007 : decode cL_law 1007 = .ok (.aload_n 1, 1) := by decide +kernel
theorem dL_law_1008 : decode cL_law 1008 = .ok (.aload_n 0, 1) := by decide +kernel
theorem dL_law_1009 : decode cL_law 1009 = .ok (.iload_n 3, 1) := by decide +kernel
theorem dL_law_1010 : decode cL_law 1010 = .ok (.iconst 1, 1) := by decide +kernel
theorem dL_law_1011 : decode cL_law 1011 = .ok (.iadd, 1) := by decide +kernel
theorem dL_law_1012 : decode cL_law 1012 = .ok (.iaload, 1) := by decide +kernel
theorem dL_law_1013 : decode cL_law 1013 = .ok (.invokevirtual 138, 3) := by decide +kernel
theorem dL_law_1016 : decode cL_law 1016 = .ok (.aload_n 2, 1) := by decide +kernel
theorem dL_law_1017 : decode cL_law 1017 = .ok (.aload_n 0, 1) := by decide +kernel
theorem dL_law_1018 : decode cL_law 1018 = .ok (.iload_n 3, 1) := by decide +kernel
theorem dL_law_1019 : decode cL_law 1019 = .ok (.iconst 1, 1) := by decide +kernel
theorem dL_law_1020 : decode cL_law 1020 = .ok (.iadd, 1) := by decide +kernel
theorem dL_law_1021 : decode cL_law 1021 = .ok (.iaload, 1) := by decide +kernel
theorem dL_law_1022 : decode cL_law 1022 = .ok (.invokevirtual 141, 3) := by decide +kernel
theorem dL_law_1025 : decode cL_law 1025 = .ok (.if_icmp .eq 180, 3) := by decide +kernel
theorem dL_law_1028 : decode cL_law 1028 = .ok (.iconst 0, 1) := by decide +kernel
theorem dL_law_1029 : decode cL_law 1029 = .ok (.ireturn, 1) := by decide +kernel
theorem dL_law_1030 : decode cL_law 1030 = .ok (.aload_n 1, 1) := by decide +kernel
theorem dL_law_1031 : decode cL_law 1031 = .ok (.aload_n 0, 1) := by decide +kernel
theorem dL_law_1032 : decode cL_law 1032 = .ok (.iload_n 3, 1) := by decide +kernel
theorem dL_law_1033 : decode cL_law 1033 = .ok (.iconst 1, 1) := by decide +kernel
theorem dL_law_1034 : decode cL_law 1034 = .ok (.iadd, 1) := by decide +kernel
theorem dL_law_1035 : decode cL_law 1035 = .ok (.iaload, 1) := by decide +kernel
theorem dL_law_1036 : decode cL_law 1036 = .ok (.aload_n 0, 1) := by decide +kernel
theorem dL_law_1037 : decode cL_law 1037 = .ok (.iload_n 3, 1) := by decide +kernel
theorem dL_law_1038 : decode cL_law 1038 = .ok (.iconst 2, 1) := by decide +kernel
theorem dL_law_1039 : decode cL_law 1039 = .ok (.iadd, 1) := by decide +kernel
theorem dL_law_1040 : decode cL_law 1040 = .ok (.iaload, 1) := by decide +kernel
theorem dL_law_1041 : decode cL_law 1041 = .ok (.aload_n 0, 1) := by decide +kernel
theorem dL_law_1042 : decode cL_law 1042 = .ok (.iload_n 3, 1) := by decide +kernel
theorem dL_law_1043 : decode cL_law 1043 = .ok (.iconst 3, 1) := by decide +kernel
theorem dL_law_1044 : decode cL_law 1044 = .ok (.iadd, 1) := by decide +kernel
theorem dL_law_1045 : decode cL_law 1045 = .ok (.iaload, 1) := by decide +kernel
theorem dL_law_1046 : decode cL_law 1046 = .ok (.invokevirtual 142, 3) := by decide +kernel
theorem dL_law_1049 : decode cL_law 1049 = .ok (.aload_n 2, 1) := by decide +kernel
theorem dL_law_1050 : decode cL_law 1050 = .ok (.aload_n 0, 1) := by decide +kernel
theorem dL_law_1051 : decode cL_law 1051 = .ok (.iload_n 3, 1) := by decide +kernel
theorem dL_law_1052 : decode cL_law 1052 = .ok (.iconst 1, 1) := by decide +kernel
theorem dL_law_1053 : decode cL_law 1053 = .ok (.iadd, 1) := by decide +kernel
theorem dL_law_1054 : decode cL_law 1054 = .ok (.iaload, 1) := by decide +kernel
theorem dL_law_1055 : decode cL_law 1055 = .ok (.aload_n 0, 1) := by decide +kernel
theorem dL_law_1056 : decode cL_law 1056 = .ok (.iload_n 3, 1) := by decide +kernel
theorem dL_law_1057 : decode cL_law 1057 = .ok (.iconst 2, 1) := by decide +kernel
theorem dL_law_1058 : decode cL_law 1058 = .ok (.iadd, 1) := by decide +kernel
theorem dL_law_1059 : decode cL_law 1059 = .ok (.iaload, 1) := by decide +kernel
theorem dL_law_1060 : decode cL_law 1060 = .ok (.aload_n 0, 1) := by decide +kernel
theorem dL_law_1061 : decode cL_law 1061 = .ok (.iload_n 3, 1) := by decide +kernel
theorem dL_law_1062 : decode cL_law 1062 = .ok (.iconst 3, 1) := by decide +kernel
theorem dL_law_1063 : decode cL_law 1063 = .ok (.iadd, 1) := by decide +kernel
theorem dL_law_1064 : decode cL_law 1064 = .ok (.iaload, 1) := by decide +kernel
theorem dL_law_1065 : decode cL_law 1065 = .ok (.invokevirtual 145, 3) := by decide +kernel
theorem dL_law_1068 : decode cL_law 1068 = .ok (.if_icmp .eq 137, 3) := by decide +kernel
theorem dL_law_1071 : decode cL_law 1071 = .ok (.iconst 0, 1) := by decide +kernel
theorem dL_law_1072 : decode cL_law 1072 = .ok (.ireturn, 1) := by decide +kernel
theorem dL_law_1073 : decode cL_law 1073 = .ok (.aload_n 1, 1) := by decide +kernel
theorem dL_law_1074 : decode cL_law 1074 = .ok (.aload_n 0, 1) := by decide +kernel
theorem dL_law_1075 : decode cL_law 1075 = .ok (.iload_n 3, 1) := by decide +kernel
theorem dL_law_1076 : decode cL_law 1076 = .ok (.iconst 1, 1) := by decide +kernel
theorem dL_law_1077 : decode cL_law 1077 = .ok (.iadd, 1) := by decide +kernel
theorem dL_law_1078 : decode cL_law 1078 = .ok (.iaload, 1) := by decide +kernel
theorem dL_law_1079 : decode cL_law 1079 = .ok (.aload_n 0, 1) := by decide +kernel
theorem dL_law_1080 : decode cL_law 1080 = .ok (.iload_n 3, 1) := by decide +kernel
theorem dL_law_1081 : decode cL_law 1081 = .ok (.iconst 2, 1) := by decide +kernel
theorem dL_law_1082 : decode cL_law 1082 = .ok (.iadd, 1) := by decide +kernel
theorem dL_law_1083 : decode cL_law 1083 = .ok (.iaload, 1) := by decide +kernel
theorem dL_law_1084 : decode cL_law 1084 = .ok (.aload_n 0, 1) := by decide +kernel
theorem dL_law_1085 : decode cL_law 1085 = .ok (.iload_n 3, 1) := by decide +kernel
theorem dL_law_1086 : decode cL_law 1086 = .ok (.iconst 3, 1) := by decide +kernel
theorem dL_law_1087 : decode cL_law 1087 = .ok (.iadd, 1) := by decide +kernel
theorem dL_law_1088 : decode cL_law 1088 = .ok (.iaload, 1) := by decide +kernel
theorem dL_law_1089 : decode cL_law 1089 = .ok (.invokevirtual 146, 3) := by decide +kernel
theorem dL_law_1092 : decode cL_law 1092 = .ok (.aload_n 2, 1) := by decide +kernel
theorem dL_law_1093 : decode cL_law 1093 = .ok (.aload_n 0, 1) := by decide +kernel
theorem dL_law_1094 : decode cL_law 1094 = .ok (.iload_n 3, 1) := by decide +kernel
theorem dL_law_1095 : decode cL_law 1095 = .ok (.iconst 1, 1) := by decide +kernel
theorem dL_law_1096 : decode cL_law 1096 = .ok (.iadd, 1) := by decide +kernel
theorem dL_law_1097 : decode cL_law 1097 = .ok (.iaload, 1) := by decide +kernel
theorem dL_law_1098 : decode cL_law 1098 = .ok (.aload_n 0, 1) := by decide +kernel
theorem dL_law_1099 : decode cL_law 1099 = .ok (.iload_n 3, 1) := by decide +kernel
theorem dL_law_1100 : decode cL_law 1100 = .ok (.iconst 2, 1) := by decide +kernel
theorem dL_law_1101 : decode cL_law 1101 = .ok (.iadd, 1) := by decide +kernel
theorem dL_law_1102 : decode cL_law 1102 = .ok (.iaload, 1) := by decide +kernel
theorem dL_law_1103 : decode cL_law 1103 = .ok (.aload_n 0, 1) := by decide +kernel
theorem dL_law_1104 : decode cL_law 1104 = .ok (.iload_n 3, 1) := by decide +kernel
theorem dL_law_1105 : decode cL_law 1105 = .ok (.iconst 3, 1) := by decide +kernel
theorem dL_law_1106 : decode cL_law 1106 = .ok (.iadd, 1) := by decide +kernel
theorem dL_law_1107 : decode cL_law 1107 = .ok (.iaload, 1) := by decide +kernel
theorem dL_law_1108 : decode cL_law 1108 = .ok (.invokevirtual 149, 3) := by decide +kernel
theorem dL_law_1111 : decode cL_law 1111 = .ok (.if_icmp .eq 94, 3) := by decide +kernel
theorem dL_law_1114 : decode cL_law 1114 = .ok (.iconst 0, 1) := by decide +kernel
theorem dL_law_1115 : decode cL_law 1115 = .ok (.ireturn, 1) := by decide +kernel
theorem dL_law_1116 : decode cL_law 1116 = .ok (.aload_n 1, 1) := by decide +kernel
theorem dL_law_1117 : decode cL_law 1117 = .ok (.aload_n 0, 1) := by decide +kernel
theorem dL_law_1118 : decode cL_law 1118 = .ok (.iload_n 3, 1) := by decide +kernel
theorem dL_law_1119 : decode cL_law 1119 = .ok (.iconst 1, 1) := by decide +kernel
theorem dL_law_1120 : decode cL_law 1120 = .ok (.iadd, 1) := by decide +kernel
theorem dL_law_1121 : decode cL_law 1121 = .ok (.iaload, 1) := by decide +kernel
theorem dL_law_1122 : decode cL_law 1122 = .ok (.aload_n 0, 1) := by decide +kernel
theorem dL_law_1123 : decode cL_law 1123 = .ok (.iload_n 3, 1) := by decide +kernel
theorem dL_law_1124 : decode cL_law 1124 = .ok (.iconst 2, 1) := by decide +kernel
theorem dL_law_1125 : decode cL_law 1125 = .ok (.iadd, 1) := by decide +kernel
theorem dL_law_1126 : decode cL_law 1126 = .ok (.iaload, 1) := by decide +kernel
theorem dL_law_1127 : decode cL_law 1127 = .ok (.aload_n 0, 1) := by decide +kernel
theorem dL_law_1128 : decode cL_law 1128 = .ok (.iload_n 3, 1) := by decide +kernel
theorem dL_law_1129 : decode cL_law 1129 = .ok (.iconst 3, 1) := by decide +kernel
theorem dL_law_1130 : decode cL_law 1130 = .ok (.iadd, 1) := by decide +kernel
theorem dL_law_1131 : decode cL_law 1131 = .ok (.iaload, 1) := by decide +kernel
theorem dL_law_1132 : decode cL_law 1132 = .ok (.aload_n 0, 1) := by decide +kernel
theorem dL_law_1133 : decode cL_law 1133 = .ok (.iload_n 3, 1) := by decide +kernel
theorem dL_law_1134 : decode cL_law 1134 = .ok (.iconst 4, 1) := by decide +kernel
theorem dL_law_1135 : decode cL_law 1135 = .ok (.iadd, 1) := by decide +kernel
theorem dL_law_1136 : decode cL_law 1136 = .ok (.iaload, 1) := by decide +kernel
theorem dL_law_1137 : decode cL_law 1137 = .ok (.invokevirtual 150, 3) := by decide +kernel
theorem dL_law_1140 : decode cL_law 1140 = .ok (.aload_n 2, 1) := by decide +kernel
theorem dL_law_1141 : decode cL_law 1141 = .ok (.aload_n 0, 1) := by decide +kernel
theorem dL_law_1142 : decode cL_law 1142 = .ok (.iload_n 3, 1) := by decide +kernel
theorem dL_law_1143 : decode cL_law 1143 = .ok (.iconst 1, 1) := by decide +kernel
theorem dL_law_1144 : decode cL_law 1144 = .ok (.iadd, 1) := by decide +kernel
theorem dL_law_1145 : decode cL_law 1145 = .ok (.iaload, 1) := by decide +kernel
theorem dL_law_1146 : decode cL_law 1146 = .ok (.aload_n 0, 1) := by decide +kernel
theorem dL_law_1147 : decode cL_law 1147 = .ok (.iload_n 3, 1) := by decide +kernel
theorem dL_law_1148 : decode cL_law 1148 = .ok (.iconst 2, 1) := by decide +kernel
theorem dL_law_1149 : decode cL_law 1149 = .ok (.iadd, 1) := by decide +kernel
theorem dL_law_1150 : decode cL_law 1150 = .ok (.iaload, 1) := by decide +kernel
theorem dL_law_1151 : decode cL_law 1151 = .ok (.aload_n 0, 1) := by decide +kernel
theorem dL_law_1152 : decode cL_law 1152 = .ok (.iload_n 3, 1) := by decide +kernel
theorem dL_law_1153 : decode cL_law 1153 = .ok (.iconst 3, 1) := by decide +kernel
theorem dL_law_1154 : decode cL_law 1154 = .ok (.iadd, 1) := by decide +kernel
theorem dL_law_1155 : decode cL_law 1155 = .ok (.iaload, 1) := by decide +kernel
theorem dL_law_1156 : decode cL_law 1156 = .ok (.aload_n 0, 1) := by decide +kernel
theorem dL_law_1157 : decode cL_law 1157 = .ok (.iload_n 3, 1) := by decide +kernel
theorem dL_law_1158 : decode cL_law 1158 = .ok (.iconst 4, 1) := by decide +kernel
theorem dL_law_1159 : decode cL_law 1159 = .ok (.iadd, 1) := by decide +kernel
theorem dL_law_1160 : decode cL_law 1160 = .ok (.iaload, 1) := by decide +kernel
theorem dL_law_1161 : decode cL_law 1161 = .ok (.invokevirtual 154, 3) := by decide +kernel
theorem dL_law_1164 : decode cL_law 1164 = .ok (.if_icmp .eq 41, 3) := by decide +kernel
theorem dL_law_1167 : decode cL_law 1167 = .ok (.iconst 0, 1) := by decide +kernel
theorem dL_law_1168 : decode cL_law 1168 = .ok (.ireturn, 1) := by decide +kernel
theorem dL_law_1169 : decode cL_law 1169 = .ok (.aload_n 1, 1) := by decide +kernel
theorem dL_law_1170 : decode cL_law 1170 = .ok (.invokevirtual 155, 3) := by decide +kernel
theorem dL_law_1173 : decode cL_law 1173 = .ok (.aload_n 2, 1) := by decide +kernel
theorem dL_law_1174 : decode cL_law 1174 = .ok (.invokevirtual 158, 3) := by decide +kernel
theorem dL_law_1177 : decode cL_law 1177 = .ok (.if_icmp .eq 28, 3) := by decide +kernel
theorem dL_law_1180 : decode cL_law 1180 = .ok (.iconst 0, 1) := by decide +kernel
theorem dL_law_1181 : decode cL_law 1181 = .ok (.ireturn, 1) := by decide +kernel
theorem dL_law_1182 : decode cL_law 1182 = .ok (.aload_n 1, 1) := by decide +kernel
theorem dL_law_1183 : decode cL_law 1183 = .ok (.aload_n 0, 1) := by decide +kernel
theorem dL_law_1184 : decode cL_law 1184 = .ok (.iload_n 3, 1) := by decide +kernel
theorem dL_law_1185 : decode cL_law 1185 = .ok (.iconst 1, 1) := by decide +kernel
theorem dL_law_1186 : decode cL_law 1186 = .ok (.iadd, 1) := by decide +kernel
theorem dL_law_1187 : decode cL_law 1187 = .ok (.iaload, 1) := by decide +kernel
theorem dL_law_1188 : decode cL_law 1188 = .ok (.invokevirtual 159, 3) := by decide +kernel
theorem dL_law_1191 : decode cL_law 1191 = .ok (.aload_n 2, 1) := by decide +kernel
theorem dL_law_1192 : decode cL_law 1192 = .ok (.aload_n 0, 1) := by decide +kernel
theorem dL_law_1193 : decode cL_law 1193 = .ok (.iload_n 3, 1) := by decide +kernel
theorem dL_law_1194 : decode cL_law 1194 = .ok (.iconst 1, 1) := by decide +kernel
theorem dL_law_1195 : decode cL_law 1195 = .ok (.iadd, 1) := by decide +kernel
theorem dL_law_1196 : decode cL_law 1196 = .ok (.iaload, 1) := by decide +kernel
theorem dL_law_1197 : decode cL_law 1197 = .ok (.invokevirtual 162, 3) := by decide +kernel
theorem dL_law_1200 : decode cL_law 1200 = .ok (.if_icmp .eq 5, 3) := by decide +kernel
theorem dL_law_1203 : decode cL_law 1203 = .ok (.iconst 0, 1) := by decide +kernel
theorem dL_law_1204 : decode cL_law 1204 = .ok (.ireturn, 1) := by decide +kernel
theorem dL_law_1205 : decode cL_law 1205 = .ok (.iinc 3 5, 3) := by decide +kernel
theorem dL_law_1208 : decode cL_law 1208 = .ok (.goto (-1190), 3) := by decide +kernel
theorem dL_law_1211 : decode cL_law 1211 = .ok (.iconst 1, 1) := by decide +kernel
theorem dL_law_1212 : decode cL_law 1212 = .ok (.ireturn, 1) := by decide +kernel
end
section
/-- a world in numbers: kind, slot, owner, index (of an array: kind, 0, owner, place) -/
abbrev Mem : Type := Nat → Nat → Nat → Nat → Int32
def up (h : Mem) (k j o i : Nat) (v : Int32) : Mem := fun k' j' o' i' => if k' = k ∧ j' = j ∧ o' = o ∧ i' = i then v else h k' j' o' i'
def bb (o : Nat) : Nat := match o with | 0 => 1 | 1 => 16 | 2 => 42 | 3 => 60 | _ => 81
def sb (o : Nat) : Nat := match o with | 0 => 31 | 1 => 75 | _ => 96
def pos (k o i : Nat) : Nat := match k with
  | 0 => 0
  | 1 => bb o + 0
  | 2 => bb o + 1
  | 3 => bb o + 2
  | 4 => bb o + 3
  | 5 => bb o + 4
  | 6 => bb o + 5 + i
  | 7 => bb o + 11 + i
  | 8 => sb o + 0
  | 9 => sb o + 1
  | 10 => sb o + 2
  | 11 => sb o + 3
  | 12 => sb o + 4
  | 13 => 36
  | 14 => 37
  | 15 => 38
  | 16 => 39
  | 17 => 40
  | 18 => 41
  | 19 => 57
  | 20 => 59 + 21 * o
  | 21 => 58
  | 22 => 101 + 2 * o
  | 23 => 102 + 2 * o
  | 24 => 109
  | 25 => 110
  | 26 => 111
  | 27 => 112
  | 28 => 113
  | 29 => 114
  | 30 => 115
  | 31 => 116
  | 32 => 117
  | 33 => 118
  | 34 => 119
  | 35 => 120
  | 36 => 121
  | 37 => 122
  | 38 => 123
  | 39 => 124
  | 40 => 125
  | 41 => 126
  | _ => 127
def ad (B k o i : Nat) : Nat := B + pos k o i
def AL : List (Nat × Nat × Nat) := [(0, 0, 0), (1, 0, 0), (2, 0, 0), (3, 0, 0), (4, 0, 0), (5, 0, 0), (6, 0, 0), (6, 0, 1), (6, 0, 2), (6, 0, 3), (6, 0, 4), (6, 0, 5), (7, 0, 0), (7, 0, 1), (7, 0, 2), (7, 0, 3), (1, 1, 0), (2, 1, 0), (3, 1, 0), (4, 1, 0), (5, 1, 0), (6, 1, 0), (6, 1, 1), (6, 1, 2), (6, 1, 3), (6, 1, 4), (6, 1, 5), (7, 1, 0), (7, 1, 1), (7, 1, 2), (7, 1, 3), (8, 0, 0), (9, 0, 0), (10, 0, 0), (11, 0, 0), (12, 0, 0), (13, 0, 0), (14, 0, 0), (15, 0, 0), (16, 0, 0), (17, 0, 0), (18, 0, 0), (1, 2, 0), (2, 2, 0), (3, 2, 0), (4, 2, 0), (5, 2, 0), (6, 2, 0), (6, 2, 1), (6, 2, 2), (6, 2, 3), (6, 2, 4), (6, 2, 5), (7, 2, 0), (7, 2, 1), (7, 2, 2), (7, 2, 3), (19, 0, 0), (21, 0, 0), (20, 0, 0), (1, 3, 0), (2, 3, 0), (3, 3, 0), (4, 3, 0), (5, 3, 0), (6, 3, 0), (6, 3, 1), (6, 3, 2), (6, 3, 3), (6, 3, 4), (6, 3, 5), (7, 3, 0), (7, 3, 1), (7, 3, 2), (7, 3, 3), (8, 1, 0), (9, 1, 0), (10, 1, 0), (11, 1, 0), (12, 1, 0), (20, 1, 0), (1, 4, 0), (2, 4, 0), (3, 4, 0), (4, 4, 0), (5, 4, 0), (6, 4, 0), (6, 4, 1), (6, 4, 2), (6, 4, 3), (6, 4, 4), (6, 4, 5), (7, 4, 0), (7, 4, 1), (7, 4, 2), (7, 4, 3), (8, 2, 0), (9, 2, 0), (10, 2, 0), (11, 2, 0), (12, 2, 0), (22, 0, 0), (23, 0, 0), (22, 1, 0), (23, 1, 0), (22, 2, 0), (23, 2, 0), (22, 3, 0), (23, 3, 0), (24, 0, 0), (25, 0, 0), (26, 0, 0), (27, 0, 0), (28, 0, 0), (29, 0, 0), (30, 0, 0), (31, 0, 0), (32, 0, 0), (33, 0, 0), (34, 0, 0), (35, 0, 0), (36, 0, 0), (37, 0, 0), (38, 0, 0), (39, 0, 0), (40, 0, 0), (41, 0, 0), (42, 0, 0)]
def no (k : Nat) : Nat := match k with
  | 1 => 5
  | 2 => 5
  | 3 => 5
  | 4 => 5
  | 5 => 5
  | 6 => 5
  | 7 => 5
  | 8 => 3
  | 9 => 3
  | 10 => 3
  | 11 => 3
  | 12 => 3
  | 20 => 2
  | 22 => 4
  | 23 => 4
  | _ => 1
def ni (k : Nat) : Nat := match k with | 6 => 6 | 7 => 4 | _ => 1
def isAr (k : Nat) : Bool := match k with
  | 0 => false
  | 1 => false
  | 6 => false
  | 7 => false
  | 8 => false
  | 13 => false
  | 16 => false
  | 17 => false
  | 20 => false
  | 22 => false
  | 24 => false
  | _ => true
def objE (B k o : Nat) (r : Nat → Int32) : Nat × List Value := match k with
  | 0 => (9, [.ref (ad B 1 0 0), .ref (ad B 1 1 0), .ref (ad B 8 0 0), .ref (ad B 13 0 0), .ref (ad B 16 0 0), .ref (ad B 17 0 0), .ref (ad B 19 0 0), .ref (ad B 21 0 0), .int (r 8)])
  | 1 => (0, [.int (r 0), .ref (ad B 2 o 0), .int (r 2), .ref (ad B 3 o 0), .int (r 4), .ref (ad B 4 o 0), .int (r 6), .int (r 7), .int (r 8), .ref (ad B 5 o 0), .int (r 10)])
  | 6 => (1, [.int (r 0), .int (r 1), .int (r 2), .int (r 3)])
  | 7 => (2, [.int (r 0), .int (r 1), .int (r 2), .int (r 3), .int (r 4)])
  | 8 => (6, [.int (r 0), .ref (ad B 9 o 0), .ref (ad B 10 o 0), .ref (ad B 11 o 0), .ref (ad B 12 o 0)])
  | 13 => (4, [.int (r 0), .int (r 1), .ref (ad B 14 0 0), .ref (ad B 15 0 0)])
  | 16 => (8, [.ref (ad B 17 0 0), .ref (ad B 1 2 0), .int (r 2), .int (r 3), .int (r 4), .int (r 5), .int (r 6), .int (r 7), .int (r 8), .int (r 9)])
  | 17 => (7, [.ref (ad B 18 0 0), .int (r 1)])
  | 20 => (3, [.int (r 0), .ref (ad B 1 (o+3) 0), .ref (ad B 8 (o+1) 0)])
  | 22 => (5, [.ref (ad B 23 o 0), .int (r 1), .int (r 2)])
  | _ => (10, [.ref (ad B 25 0 0), .ref (ad B 26 0 0), .int (r 2), .int (r 3), .ref (ad B 27 0 0), .int (r 5), .int (r 6), .int (r 7), .int (r 8), .ref (ad B 28 0 0), .int (r 10), .int (r 11), .int (r 12), .int (r 13), .int (r 14), .int (r 15), .int (r 16), .ref (ad B 29 0 0), .ref (ad B 30 0 0), .ref (ad B 31 0 0), .ref (ad B 32 0 0), .ref (ad B 33 0 0), .ref (ad B 34 0 0), .ref (ad B 35 0 0), .ref (ad B 36 0 0), .ref (ad B 37 0 0), .int (r 26), .int (r 27), .ref (ad B 38 0 0), .ref (ad B 39 0 0), .ref (ad B 40 0 0), .ref (ad B 41 0 0), .ref (ad B 42 0 0), .int (r 33)])
def alen (k : Nat) : Nat := match k with
  | 2 => 8
  | 3 => 6
  | 9 => 8
  | 10 => 8
  | 11 => 8
  | 12 => 8
  | 18 => 320
  | 19 => 2
  | 23 => 40
  | 25 => 237
  | 26 => 2
  | 27 => 79
  | 28 => 320
  | 29 => 8
  | 30 => 6
  | 31 => 6
  | 42 => 160
  | _ => 4
def ety (k : Nat) : Nat := match k with | 18 => 1 | 12 => 2 | 26 => 2 | 37 => 2 | _ => 0
def arrE (B : Nat) (cy : Nat → ClassId) (k o : Nat) (a : Nat → Int32) : ClassId × vp_A := match k with
  | 3 => (cy 3, 6, .inr (.inr (.inr (.inr (fun n => some (ad B 6 o n))))))
  | 4 => (cy 4, 4, .inr (.inr (.inr (.inr (fun n => some (ad B 7 o n))))))
  | 19 => (cy 5, 2, .inr (.inr (.inr (.inr (fun n => some (ad B 20 n 0))))))
  | 21 => (cy 6, 4, .inr (.inr (.inr (.inr (fun n => some (ad B 22 n 0))))))
  | k => (cy (ety k), alen k, .inl a)
def ent (B : Nat) (cy : Nat → ClassId) (h : Mem) (q : Nat × Nat × Nat) : va_E :=
  if isAr q.1 = true then .inl (arrE B cy q.1 q.2.1 (fun n => h q.1 0 q.2.1 n)) else .inr (objE B q.1 q.2.1 (fun j => h q.1 j q.2.1 q.2.2))
def wd (B : Nat) (cy : Nat → ClassId) (h : Mem) : va_W := AL.map (fun q => (ad B q.1 q.2.1 q.2.2, ent B cy h q))
def tys (cy : Nat → ClassId) : List (ClassId × FieldType) := [(cy 0, .int), (cy 1, .byte), (cy 2, .boolean), (cy 3, .object RX1), (cy 4, .object RX2), (cy 5, .object RX3), (cy 6, .object RX5)]
theorem vlb : (List.range 43).all (fun k => (List.range (no k)).all (fun o => (List.range (ni k)).all (fun i => decide (AL[pos k o i]? = some (k, o, i))))) = true := by decide +kernel
theorem vl (k : Nat) (hk : k < 43) (o : Nat) (ho : o < no k) (i : Nat) (hi : i < ni k) : AL[pos k o i]? = some (k, o, i) := by
  have h1 := List.all_eq_true.mp vlb k (List.mem_range.mpr hk)
  have h2 := List.all_eq_true.mp h1 o (List.mem_range.mpr ho)
  have h3 := List.all_eq_true.mp h2 i (List.mem_range.mpr hi)
  exact of_decide_eq_true h3
theorem AL_pos0 : ∀ p, p < 128 → (AL[p]?).map (fun q => pos q.1 q.2.1 q.2.2) = some p := by decide +kernel
theorem AL_len : AL.length = 128 := by decide +kernel
theorem AL_pos {p : Nat} {q : Nat × Nat × Nat} (h : AL[p]? = some q) : pos q.1 q.2.1 q.2.2 = p := by
  have hp : p < 128 := by
    have := (List.getElem?_eq_some_iff.mp h).1
    rwa [AL_len] at this
  have h1 := AL_pos0 p hp
  rw [h] at h1
  exact Option.some.inj h1
theorem AL_arr : ∀ q ∈ AL, isAr q.1 = true → q.2.2 = 0 := by decide +kernel
theorem wd_get {B : Nat} {cy : Nat → ClassId} {h : Mem} {p : Nat} {e : Nat × va_E} (he : (wd B cy h)[p]? = some e) : ∃ q, AL[p]? = some q ∧ e = (ad B q.1 q.2.1 q.2.2, ent B cy h q) := by
  unfold wd at he
  rw [List.getElem?_map] at he
  cases hq : AL[p]? with
  | none => rw [hq] at he; cases he
  | some q => rw [hq] at he; exact ⟨q, rfl, (Option.some.inj he).symm⟩
theorem wd_at {B : Nat} {cy : Nat → ClassId} (h : Mem) {k o i : Nat} (hk : k < 43) (ho : o < no k) (hi : i < ni k) : (wd B cy h)[pos k o i]? = some (ad B k o i, ent B cy h (k, o, i)) := by
  unfold wd
  rw [List.getElem?_map, vl k hk o ho i hi]
  rfl
theorem wd_D {B : Nat} {cy : Nat → ClassId} {h : Mem} : va_D (fun q => B ≤ q) (wd B cy h) := by
  refine ⟨fun i j p q hp hq hpq => ?_, fun k q hq => ?_⟩
  · obtain ⟨a, ha, rfl⟩ := wd_get hp
    obtain ⟨b, hb, rfl⟩ := wd_get hq
    have e1 := AL_pos ha
    have e2 := AL_pos hb
    have : ad B a.1 a.2.1 a.2.2 = ad B b.1 b.2.1 b.2.2 := hpq
    unfold ad at this
    omega
  · obtain ⟨a, ha, rfl⟩ := wd_get hq
    exact Nat.le_add_right _ _
theorem wd_set {B : Nat} {cy : Nat → ClassId} {h h' : Mem} {k o i : Nat} {e : va_E} (hk : k < 43) (ho : o < no k) (hi : i < ni k) (hne : ∀ q ∈ AL, q ≠ (k, o, i) → ent B cy h' q = ent B cy h q) (he : ent B cy h' (k, o, i) = e) : (wd B cy h).set (pos k o i) (ad B k o i, e) = wd B cy h' := by
  apply List.ext_getElem?
  intro n
  have hl : pos k o i < (wd B cy h).length := (List.getElem?_eq_some_iff.mp (wd_at h hk ho hi)).1
  by_cases hn : n = pos k o i
  · subst hn
    rw [List.getElem?_set_self hl, wd_at h' hk ho hi, he]
  · rw [List.getElem?_set_ne (Ne.symm hn)]
    unfold wd
    rw [List.getElem?_map, List.getElem?_map]
    cases hq : AL[n]? with
    | none => rfl
    | some q =>
      have hq2 : q ≠ (k, o, i) := fun e => hn (by rw [← AL_pos hq, e])
      simp only [Option.map_some]
      rw [hne q (List.mem_of_getElem? hq) hq2]
def upr (r : Nat → Int32) (j : Nat) (v : Int32) : Nat → Int32 := fun j' => if j' = j then v else r j'
theorem up_row {h : Mem} {k j o i : Nat} {v : Int32} : (fun j' => up h k j o i v k j' o i) = upr (fun j' => h k j' o i) j v := by
  funext j'
  simp [up, upr]
theorem ent_up {B : Nat} {cy : Nat → ClassId} {h : Mem} {k j o i : Nat} {v : Int32} (ha : isAr k = false) (q : Nat × Nat × Nat) (hq : q ≠ (k, o, i)) : ent B cy (up h k j o i v) q = ent B cy h q := by
  obtain ⟨k', o', i'⟩ := q
  unfold ent
  by_cases h1 : isAr k' = true
  · have hk : k' ≠ k := fun e => by subst e; rw [ha] at h1; cases h1
    simp only [h1, if_true]
    congr 3
    funext n
    simp [up, hk]
  · simp only [h1]
    rw [if_neg (by simp), if_neg (by simp)]
    congr 2
    funext n
    have : ¬ (k' = k ∧ n = j ∧ o' = o ∧ i' = i) := fun ⟨a, _, c, d⟩ => hq (by rw [a, c, d])
    simp only [up, if_neg this]
theorem ent_upA {B : Nat} {cy : Nat → ClassId} {h : Mem} {k o n : Nat} {v : Int32} (ha : isAr k = true) (q : Nat × Nat × Nat) (hm : q ∈ AL) (hq : q ≠ (k, o, 0)) : ent B cy (up h k 0 o n v) q = ent B cy h q := by
  have h0 := AL_arr q hm
  obtain ⟨k', o', i'⟩ := q
  unfold ent
  by_cases h1 : isAr k' = true
  · have hi : i' = 0 := h0 h1
    simp only [h1, if_true]
    congr 2
    funext n'
    have : ¬ (k' = k ∧ (0 : Nat) = 0 ∧ o' = o ∧ n' = n) := fun ⟨a, _, c, d⟩ => hq (by rw [a, c, hi])
    unfold up
    rw [if_neg this]
  · have hk : k' ≠ k := fun e => by subst e; exact h1 ha
    simp only [h1]
    rw [if_neg (by simp), if_neg (by simp)]
    congr 2
    funext n
    simp [up, hk]
/-- slot j of kind k holds a number -/
def FT (k j : Nat) : Prop := ∀ (B o : Nat) (r : Nat → Int32) (v : Int32), objE B k o (upr r j v) = ((objE B k o r).1, (objE B k o r).2.set j (.int v)) ∧ (objE B k o r).2[j]? = some (.int (r j))
theorem rt_0_0 (B o : Nat) (r : Nat → Int32) : (objE B 0 o r).2[0]? = some (.ref (ad B 1 (0) 0)) := rfl
theorem rt_0_1 (B o : Nat) (r : Nat → Int32) : (objE B 0 o r).2[1]? = some (.ref (ad B 1 (1) 0)) := rfl
theorem rt_0_2 (B o : Nat) (r : Nat → Int32) : (objE B 0 o r).2[2]? = some (.ref (ad B 8 (0) 0)) := rfl
theorem rt_0_3 (B o : Nat) (r : Nat → Int32) : (objE B 0 o r).2[3]? = some (.ref (ad B 13 (0) 0)) := rfl
theorem rt_0_4 (B o : Nat) (r : Nat → Int32) : (objE B 0 o r).2[4]? = some (.ref (ad B 16 (0) 0)) := rfl
theorem rt_0_5 (B o : Nat) (r : Nat → Int32) : (objE B 0 o r).2[5]? = some (.ref (ad B 17 (0) 0)) := rfl
theorem rt_0_6 (B o : Nat) (r : Nat → Int32) : (objE B 0 o r).2[6]? = some (.ref (ad B 19 (0) 0)) := rfl
theorem rt_0_7 (B o : Nat) (r : Nat → Int32) : (objE B 0 o r).2[7]? = some (.ref (ad B 21 (0) 0)) := rfl
theorem ft_0_8 : FT 0 8 := fun _ _ _ _ => ⟨rfl, rfl⟩
theorem ft_1_0 : FT 1 0 := fun _ _ _ _ => ⟨rfl, rfl⟩
theorem rt_1_1 (B o : Nat) (r : Nat → Int32) : (objE B 1 o r).2[1]? = some (.ref (ad B 2 (o) 0)) := rfl
theorem ft_1_2 : FT 1 2 := fun _ _ _ _ => ⟨rfl, rfl⟩
theorem rt_1_3 (B o : Nat) (r : Nat → Int32) : (objE B 1 o r).2[3]? = some (.ref (ad B 3 (o) 0)) := rfl
theorem ft_1_4 : FT 1 4 := fun _ _ _ _ => ⟨rfl, rfl⟩
theorem rt_1_5 (B o : Nat) (r : Nat → Int32) : (objE B 1 o r).2[5]? = some (.ref (ad B 4 (o) 0)) := rfl
theorem ft_1_6 : FT 1 6 := fun _ _ _ _ => ⟨rfl, rfl⟩
theorem ft_1_7 : FT 1 7 := fun _ _ _ _ => ⟨rfl, rfl⟩
theorem ft_1_8 : FT 1 8 := fun _ _ _ _ => ⟨rfl, rfl⟩
theorem rt_1_9 (B o : Nat) (r : Nat → Int32) : (objE B 1 o r).2[9]? = some (.ref (ad B 5 (o) 0)) := rfl
theorem ft_1_10 : FT 1 10 := fun _ _ _ _ => ⟨rfl, rfl⟩
theorem ft_6_0 : FT 6 0 := fun _ _ _ _ => ⟨rfl, rfl⟩
theorem ft_6_1 : FT 6 1 := fun _ _ _ _ => ⟨rfl, rfl⟩
theorem ft_6_2 : FT 6 2 := fun _ _ _ _ => ⟨rfl, rfl⟩
theorem ft_6_3 : FT 6 3 := fun _ _ _ _ => ⟨rfl, rfl⟩
theorem ft_7_0 : FT 7 0 := fun _ _ _ _ => ⟨rfl, rfl⟩
theorem ft_7_1 : FT 7 1 := fun _ _ _ _ => ⟨rfl, rfl⟩
theorem ft_7_2 : FT 7 2 := fun _ _ _ _ => ⟨rfl, rfl⟩
theorem ft_7_3 : FT 7 3 := fun _ _ _ _ => ⟨rfl, rfl⟩
theorem ft_7_4 : FT 7 4 := fun _ _ _ _ => ⟨rfl, rfl⟩
theorem ft_8_0 : FT 8 0 := fun _ _ _ _ => ⟨rfl, rfl⟩
theorem rt_8_1 (B o : Nat) (r : Nat → Int32) : (objE B 8 o r).2[1]? = some (.ref (ad B 9 (o) 0)) := rfl
theorem rt_8_2 (B o : Nat) (r : Nat → Int32) : (objE B 8 o r).2[2]? = some (.ref (ad B 10 (o) 0)) := rfl
theorem rt_8_3 (B o : Nat) (r : Nat → Int32) : (objE B 8 o r).2[3]? = some (.ref (ad B 11 (o) 0)) := rfl
theorem rt_8_4 (B o : Nat) (r : Nat → Int32) : (objE B 8 o r).2[4]? = some (.ref (ad B 12 (o) 0)) := rfl
theorem ft_13_0 : FT 13 0 := fun _ _ _ _ => ⟨rfl, rfl⟩
theorem ft_13_1 : FT 13 1 := fun _ _ _ _ => ⟨rfl, rfl⟩
theorem rt_13_2 (B o : Nat) (r : Nat → Int32) : (objE B 13 o r).2[2]? = some (.ref (ad B 14 (0) 0)) := rfl
theorem rt_13_3 (B o : Nat) (r : Nat → Int32) : (objE B 13 o r).2[3]? = some (.ref (ad B 15 (0) 0)) := rfl
theorem rt_16_0 (B o : Nat) (r : Nat → Int32) : (objE B 16 o r).2[0]? = some (.ref (ad B 17 (0) 0)) := rfl
theorem rt_16_1 (B o : Nat) (r : Nat → Int32) : (objE B 16 o r).2[1]? = some (.ref (ad B 1 (2) 0)) := rfl
theorem ft_16_2 : FT 16 2 := fun _ _ _ _ => ⟨rfl, rfl⟩
theorem ft_16_3 : FT 16 3 := fun _ _ _ _ => ⟨rfl, rfl⟩
theorem ft_16_4 : FT 16 4 := fun _ _ _ _ => ⟨rfl, rfl⟩
theorem ft_16_5 : FT 16 5 := fun _ _ _ _ => ⟨rfl, rfl⟩
theorem ft_16_6 : FT 16 6 := fun _ _ _ _ => ⟨rfl, rfl⟩
theorem ft_16_7 : FT 16 7 := fun _ _ _ _ => ⟨rfl, rfl⟩
theorem ft_16_8 : FT 16 8 := fun _ _ _ _ => ⟨rfl, rfl⟩
theorem ft_16_9 : FT 16 9 := fun _ _ _ _ => ⟨rfl, rfl⟩
theorem rt_17_0 (B o : Nat) (r : Nat → Int32) : (objE B 17 o r).2[0]? = some (.ref (ad B 18 (0) 0)) := rfl
theorem ft_17_1 : FT 17 1 := fun _ _ _ _ => ⟨rfl, rfl⟩
theorem ft_20_0 : FT 20 0 := fun _ _ _ _ => ⟨rfl, rfl⟩
theorem rt_20_1 (B o : Nat) (r : Nat → Int32) : (objE B 20 o r).2[1]? = some (.ref (ad B 1 (o+3) 0)) := rfl
theorem rt_20_2 (B o : Nat) (r : Nat → Int32) : (objE B 20 o r).2[2]? = some (.ref (ad B 8 (o+1) 0)) := rfl
theorem rt_22_0 (B o : Nat) (r : Nat → Int32) : (objE B 22 o r).2[0]? = some (.ref (ad B 23 (o) 0)) := rfl
theorem ft_22_1 : FT 22 1 := fun _ _ _ _ => ⟨rfl, rfl⟩
theorem ft_22_2 : FT 22 2 := fun _ _ _ _ => ⟨rfl, rfl⟩
theorem rt_24_0 (B o : Nat) (r : Nat → Int32) : (objE B 24 o r).2[0]? = some (.ref (ad B 25 (0) 0)) := rfl
theorem rt_24_1 (B o : Nat) (r : Nat → Int32) : (objE B 24 o r).2[1]? = some (.ref (ad B 26 (0) 0)) := rfl
theorem ft_24_2 : FT 24 2 := fun _ _ _ _ => ⟨rfl, rfl⟩
theorem ft_24_3 : FT 24 3 := fun _ _ _ _ => ⟨rfl, rfl⟩
theorem rt_24_4 (B o : Nat) (r : Nat → Int32) : (objE B 24 o r).2[4]? = some (.ref (ad B 27 (0) 0)) := rfl
theorem ft_24_5 : FT 24 5 := fun _ _ _ _ => ⟨rfl, rfl⟩
theorem ft_24_6 : FT 24 6 := fun _ _ _ _ => ⟨rfl, rfl⟩
theorem ft_24_7 : FT 24 7 := fun _ _ _ _ => ⟨rfl, rfl⟩
theorem ft_24_8 : FT 24 8 := fun _ _ _ _ => ⟨rfl, rfl⟩
theorem rt_24_9 (B o : Nat) (r : Nat → Int32) : (objE B 24 o r).2[9]? = some (.ref (ad B 28 (0) 0)) := rfl
theorem ft_24_10 : FT 24 10 := fun _ _ _ _ => ⟨rfl, rfl⟩
theorem ft_24_11 : FT 24 11 := fun _ _ _ _ => ⟨rfl, rfl⟩
theorem ft_24_12 : FT 24 12 := fun _ _ _ _ => ⟨rfl, rfl⟩
theorem ft_24_13 : FT 24 13 := fun _ _ _ _ => ⟨rfl, rfl⟩
theorem ft_24_14 : FT 24 14 := fun _ _ _ _ => ⟨rfl, rfl⟩
theorem ft_24_15 : FT 24 15 := fun _ _ _ _ => ⟨rfl, rfl⟩
theorem ft_24_16 : FT 24 16 := fun _ _ _ _ => ⟨rfl, rfl⟩
theorem rt_24_17 (B o : Nat) (r : Nat → Int32) : (objE B 24 o r).2[17]? = some (.ref (ad B 29 (0) 0)) := rfl
theorem rt_24_18 (B o : Nat) (r : Nat → Int32) : (objE B 24 o r).2[18]? = some (.ref (ad B 30 (0) 0)) := rfl
theorem rt_24_19 (B o : Nat) (r : Nat → Int32) : (objE B 24 o r).2[19]? = some (.ref (ad B 31 (0) 0)) := rfl
theorem rt_24_20 (B o : Nat) (r : Nat → Int32) : (objE B 24 o r).2[20]? = some (.ref (ad B 32 (0) 0)) := rfl
theorem rt_24_21 (B o : Nat) (r : Nat → Int32) : (objE B 24 o r).2[21]? = some (.ref (ad B 33 (0) 0)) := rfl
theorem rt_24_22 (B o : Nat) (r : Nat → Int32) : (objE B 24 o r).2[22]? = some (.ref (ad B 34 (0) 0)) := rfl
theorem rt_24_23 (B o : Nat) (r : Nat → Int32) : (objE B 24 o r).2[23]? = some (.ref (ad B 35 (0) 0)) := rfl
theorem rt_24_24 (B o : Nat) (r : Nat → Int32) : (objE B 24 o r).2[24]? = some (.ref (ad B 36 (0) 0)) := rfl
theorem rt_24_25 (B o : Nat) (r : Nat → Int32) : (objE B 24 o r).2[25]? = some (.ref (ad B 37 (0) 0)) := rfl
theorem ft_24_26 : FT 24 26 := fun _ _ _ _ => ⟨rfl, rfl⟩
theorem ft_24_27 : FT 24 27 := fun _ _ _ _ => ⟨rfl, rfl⟩
theorem rt_24_28 (B o : Nat) (r : Nat → Int32) : (objE B 24 o r).2[28]? = some (.ref (ad B 38 (0) 0)) := rfl
theorem rt_24_29 (B o : Nat) (r : Nat → Int32) : (objE B 24 o r).2[29]? = some (.ref (ad B 39 (0) 0)) := rfl
theorem rt_24_30 (B o : Nat) (r : Nat → Int32) : (objE B 24 o r).2[30]? = some (.ref (ad B 40 (0) 0)) := rfl
theorem rt_24_31 (B o : Nat) (r : Nat → Int32) : (objE B 24 o r).2[31]? = some (.ref (ad B 41 (0) 0)) := rfl
theorem rt_24_32 (B o : Nat) (r : Nat → Int32) : (objE B 24 o r).2[32]? = some (.ref (ad B 42 (0) 0)) := rfl
theorem ft_24_33 : FT 24 33 := fun _ _ _ _ => ⟨rfl, rfl⟩
end
section
-- answers that may be wanting, and what must hold of them
def Ok {α : Type} (x : Option α) (K : α → Prop) : Prop := ∃ a, x = some a ∧ K a
def bnd {α β : Type} (a : α) (f : α → β) : β := f a
def gd {α : Type} (c : Prop) [Decidable c] (x : Option α) : Option α := if c then x else none
def obd {α β : Type} (x : Option α) (f : α → Option β) : Option β := match x with
  | none => none
  | some a => f a
def ob2 {α β γ : Type} (x : Option (α × β)) (f : α → β → Option γ) : Option γ := match x with
  | none => none
  | some q => f q.1 q.2
def lp {α β : Type} : Nat → (α → Option (α ⊕ β)) → α → Option β
  | 0, _, _ => none
  | n + 1, f, a => match f a with
    | none => none
    | some (.inl a') => lp n f a'
    | some (.inr e) => some e
def fu : Nat := 400
abbrev inb (i : Int32) (n : Nat) : Prop := ¬ (i < 0 ∨ n ≤ i.toNatClampNeg)
def b2i (b : Bool) : Int32 := if b = true then 1 else 0
theorem inb_lt {i : Int32} {n : Nat} (h : inb i n) : i.toNatClampNeg < n := Nat.not_le.mp fun q => h (Or.inr q)
theorem Ok.out {α : Type} {a : α} {K : α → Prop} (h : Ok (some a) K) : K a := by
  obtain ⟨b, h1, h2⟩ := h
  cases h1
  exact h2
theorem Ok.pos {α : Type} {c : Prop} {i : Decidable c} {x y : Option α} {K : α → Prop} (hc : c) (h : Ok (@ite _ c i x y) K) : Ok x K := by rwa [if_pos hc] at h
theorem Ok.neg {α : Type} {c : Prop} {i : Decidable c} {x y : Option α} {K : α → Prop} (hc : ¬ c) (h : Ok (@ite _ c i x y) K) : Ok y K := by rwa [if_neg hc] at h
theorem Ok.gd {α : Type} {c : Prop} {i : Decidable c} {x : Option α} {K : α → Prop} (h : Ok (@gd _ c i x) K) : c ∧ Ok x K := by
  by_cases hc : c
  · exact ⟨hc, by unfold _root_.Jvm.Pilot.@@N@@.gd at h; rwa [if_pos hc] at h⟩
  · unfold _root_.Jvm.Pilot.@@N@@.gd at h
    rw [if_neg hc] at h
    obtain ⟨a, h1, -⟩ := h
    cases h1
theorem Ok.obd {α β : Type} {x : Option α} {f : α → Option β} {K : β → Prop} (h : Ok (obd x f) K) : Ok x (fun a => Ok (f a) K) := by
  cases x with
  | none => obtain ⟨a, h1, -⟩ := h; cases h1
  | some a => exact ⟨a, rfl, h⟩
theorem Ok.ob2 {α β γ : Type} {x : Option (α × β)} {f : α → β → Option γ} {K : γ → Prop} (h : Ok (ob2 x f) K) : Ok x (fun a => Ok (f a.1 a.2) K) := by
  cases x with
  | none => obtain ⟨a, h1, -⟩ := h; cases h1
  | some a => exact ⟨a, rfl, h⟩
theorem Ok.mono {α : Type} {x : Option α} {K K' : α → Prop} (h : Ok x K) (hK : ∀ a, K a → K' a) : Ok x K' := by
  obtain ⟨a, h1, h2⟩ := h
  exact ⟨a, h1, hK a h2⟩
/-- a join: what comes behind it is walked once -/
theorem Ok.join {α β : Type} {x : Option α} {f : α → Option β} {K : β → Prop} {P : Prop} (h : Ok (_root_.Jvm.Pilot.@@N@@.obd x f) K) (J : α → Prop) (h1 : ∀ a, Ok (f a) K → J a) (h2 : Ok x J → P) : P := h2 (h.obd.mono h1)
theorem Ok.loop {α β : Type} {f : α → Option (α ⊕ β)} {K : β → Prop} (J : α → Prop) (hb : ∀ a, Ok (f a) (Sum.elim J K) → J a) : ∀ (n : Nat) (a : α), Ok (lp n f a) K → J a := by
  intro n
  induction n with
  | zero => intro a h; obtain ⟨b, h1, -⟩ := h; cases h1
  | succ n ih =>
    intro a h
    apply hb
    unfold lp at h
    cases hf : f a with
    | none => rw [hf] at h; obtain ⟨b, h1, -⟩ := h; cases h1
    | some z =>
      rw [hf] at h
      cases z with
      | inl a' => exact ⟨_, rfl, ih a' h⟩
      | inr e => exact ⟨_, rfl, h.out⟩
-- the words: one list for all methods
def WS : List Cond := lw_tbl.filter goodWord
theorem mw {w : Cond} (i : Nat) (h : lw_tbl[i]? = some w) (g : goodWord w = true) : w ∈ WS := List.mem_filter.mpr ⟨List.mem_of_getElem? h, g⟩
theorem WS_good {w : Cond} (h : w ∈ WS) : (w.onTables && w.keeps) = true ∨ ∃ ty, w = .arrayClass ty := good_of_word (List.mem_filter.mp h).2
theorem gin {c c' : Cond} (h : c' ∈ WS) : GoodIn (c :: WS) (c' :: WS) := by
  intro w hw
  rcases List.mem_cons.mp hw with rfl | hw
  · exact ⟨List.mem_cons_of_mem _ h, WS_good h⟩
  · exact ⟨List.mem_cons_of_mem _ hw, WS_good hw⟩
-- what all contracts share: the launch, the tables' numbers, the base, the String constants' addresses
abbrev Tht : Type := Launch × va_G × (Nat → ClassId) × Nat × (Nat → Nat) × (Nat → Nat)
abbrev tL (Θ : Tht) : Launch := Θ.1
abbrev tD (Θ : Tht) : va_G := Θ.2.1
abbrev tC (Θ : Tht) : Nat → ClassId := Θ.2.2.1
abbrev tB (Θ : Tht) : Nat := Θ.2.2.2.1
abbrev tK (Θ : Tht) : Nat → Nat := Θ.2.2.2.2.1
abbrev tV (Θ : Tht) : Nat → Nat := Θ.2.2.2.2.2
abbrev tA (Θ : Tht) : Nat → Prop := fun q => tB Θ ≤ q
abbrev rr (Θ : Tht) (k o i : Nat) : Nat := ad (tB Θ) k o i
def sTx (i : Nat) : String := match i with | 0 => "places" | 1 => "hole" | 2 => "coin" | 3 => "false" | 4 => "crab" | 5 => "right" | 6 => "left" | _ => "tide"
def sIx (i : Nat) : Nat := match i with | 0 => 65 | 1 => 74 | 2 => 79 | 3 => 119 | 4 => 84 | 5 => 133 | 6 => 135 | _ => 89
def sLen : List Nat := [6, 4, 4, 5, 4, 5, 4, 4]
def sByt : List (List Int32) := [[112, 108, 97, 99, 101, 115], [104, 111, 108, 101], [99, 111, 105, 110], [102, 97, 108, 115, 101], [99, 114, 97, 98], [114, 105, 103, 104, 116], [108, 101, 102, 116], [116, 105, 100, 101]]
/-- the calls of nest mates' private methods -/
def NW : List (String × Nat × MethodName) := [(RX8, 150, yX9_within), (RX8, 137, yX9_asNumber), (RX0, 86, yX9_within), (RX5, 22, yX9_within)]
/-- the String constants, and the two statics of the JDK that their methods read; nest mates -/
def Sx (Θ : Tht) (U : State) : Prop := vk_S 8 sLen sByt (tK Θ) (tV Θ) (tA Θ) U U.heap ∧ (∀ i, i < 8 → vk_R RX8 (sIx i) (sTx i) (tK Θ i) U) ∧ va_Z "java/lang/String" "COMPACT_STRINGS" "Z" (.int 1) (tA Θ) U U.heap ∧ va_Zq "jdk/internal/util/Preconditions" "SIOOBE_FORMATTER" "Ljava/util/function/BiFunction;" (tA Θ) U U.heap ∧ ∀ q ∈ NW, va_Nw (.methodLinkNest q.1 q.2.1 q.2.2 RX9) U
theorem Sx.go {Θ : Tht} {s U : State} {H : Heap} {locs : List Loc} (h : Sx Θ s) (hS : va_S (tA Θ) s.heap H locs) (hU : U.heap = H) (hW : s.WarmedH U.vm) : Sx Θ U := by
  obtain ⟨h1, h2, h3, h4, h5⟩ := h
  refine ⟨?_, fun i hi => (h2 i hi).warm hW, ?_, ?_, fun q hq => va_Nw.warmM hW (h5 q hq)⟩
  · rw [hU]; exact (h1.kept hS.2.1).moved hW.alike
  · rw [hU]; exact (h3.kept hS.2.1).moved hW.alike
  · rw [hU]; exact (h4.kept hS.2.1).moved hW.alike
def Wd (Θ : Tht) (h : Mem) (U : State) : Prop := va_P (tD Θ) vwCl (wd (tB Θ) (tC Θ) h) U.heap ∧ va_K (tD Θ) vwCl (tys (tC Θ)) U ∧ Sx Θ U
theorem Wd.blind {Θ : Tht} {h : Mem} {av : List Value} : FrameBlind (va_Pc av (Wd Θ h)) := by
  intro a U g mk hp
  obtain ⟨rfl, hP, hK, h1, h2, h3, h4, h5⟩ := hp
  have hA : U.vm.Alike (U.calling g mk av.toArray).vm := Vm.Alike.refl U.vm
  exact ⟨rfl, hP, va_K.moved hA hK, h1.moved hA, fun i hi => (h2 i hi).same rfl, h3.moved hA, h4.moved hA, fun q hq => va_Nw.same rfl rfl (h5 q hq)⟩
/-- contracts: a number, a truth, nothing comes back -/
def CI (Θ : Tht) (y : MethodName) (cc : ByteArray) (n : Nat) (ret : Option FieldType) (rm : Room) (av : List Value) (h : Mem) (K : Int32 × Mem → Prop) : Prop :=
  Met (tL Θ) y (.code y cc n ret :: WS) rm (va_Pc av (Wd Θ h)) (va_Qi (fun r h' => K (r, h')) (Wd Θ) (tA Θ)) 0 0 (tA Θ)
def CB (Θ : Tht) (y : MethodName) (cc : ByteArray) (n : Nat) (ret : Option FieldType) (rm : Room) (av : List Value) (h : Mem) (K : Bool × Mem → Prop) : Prop :=
  Met (tL Θ) y (.code y cc n ret :: WS) rm (va_Pc av (Wd Θ h)) (va_Qi (fun r h' => ∃ b : Bool, r = b2i b ∧ K (b, h')) (Wd Θ) (tA Θ)) 0 0 (tA Θ)
def CV (Θ : Tht) (y : MethodName) (cc : ByteArray) (n : Nat) (ret : Option FieldType) (rm : Room) (av : List Value) (h : Mem) (K : Mem → Prop) : Prop :=
  Met (tL Θ) y (.code y cc n ret :: WS) rm (va_Pc av (Wd Θ h)) (va_Qv (fun h' => K h') (Wd Θ) (tA Θ)) 0 0 (tA Θ)
-- a walk within one frame
abbrev Ctx : Type := Program × Env × Room × State × MethodId × Array Value × List Frame × Method × Code × Nat × Nat × Nat × (State → Prop)
abbrev cP (Γ : Ctx) : Program := Γ.1
abbrev cE (Γ : Ctx) : Env := Γ.2.1
abbrev cR (Γ : Ctx) : Room := Γ.2.2.1
abbrev cS (Γ : Ctx) : State := Γ.2.2.2.1
abbrev cM (Γ : Ctx) : MethodId := Γ.2.2.2.2.1
abbrev cA (Γ : Ctx) : Array Value := Γ.2.2.2.2.2.1
abbrev cF (Γ : Ctx) : List Frame := Γ.2.2.2.2.2.2.1
abbrev cT (Γ : Ctx) : Method := Γ.2.2.2.2.2.2.2.1
abbrev cC (Γ : Ctx) : Code := Γ.2.2.2.2.2.2.2.2.1
abbrev cN (Γ : Ctx) : Nat := Γ.2.2.2.2.2.2.2.2.2.1
abbrev cU (Γ : Ctx) : Nat := Γ.2.2.2.2.2.2.2.2.2.2.1
abbrev cV (Γ : Ctx) : Nat := Γ.2.2.2.2.2.2.2.2.2.2.2.1
abbrev cZ (Γ : Ctx) : State → Prop := Γ.2.2.2.2.2.2.2.2.2.2.2.2
def G (Θ : Tht) (Γ : Ctx) (pc : Nat) (lv : List (Nat × Value)) (st : List Value) (h : Mem) : Prop :=
  ∀ (H : Heap) (locs : List Loc) (ls : Array Slot), va_P (tD Θ) vwCl (wd (tB Θ) (tC Θ) h) H → va_S (tA Θ) (cS Γ).heap H locs → lv_has ls (cN Γ) lv →
    W (cP Γ) (tL Θ) (cE Γ) (cR Γ) (cS Γ) (cM Γ) (cA Γ) (cF Γ) (cT Γ) (cC Γ) H locs (cU Γ) (cV Γ) (cZ Γ) (F0 (cM Γ) pc ls st)
/-- what holds of a frame of the code cc of the class own, with nL locals and the room R -/
def Cx (Θ : Tht) (Γ : Ctx) (cc : ByteArray) (own : String) (nL : Nat) (R : Room) : Prop :=
  (cP Γ).tables.exec = Jvm.exec ∧ (cC Γ).code = cc ∧ (cC Γ).maxLocals = nL ∧ cN Γ = nL ∧ (cS Γ).vm.findClass own = some (cM Γ).cls ∧ (∀ w ∈ WS, w.before (cA Γ) (cS Γ) = true) ∧ va_K (tD Θ) vwCl (tys (tC Θ)) (cS Γ) ∧ Sx Θ (cS Γ) ∧ cR Γ = R ∧ cU Γ ≤ R.cells ∧ cV Γ ≤ R.slots
section Rules
variable {Θ : Tht} {Γ : Ctx} {cc : ByteArray} {own : String} {nL : Nat} {R : Room} {pc n : Nat} {lv : List (Nat × Value)} {st : List Value} {h : Mem}
theorem Cx.ex (C : Cx Θ Γ cc own nL R) : (cP Γ).tables.exec = Jvm.exec := C.1
theorem Cx.bt (C : Cx Θ Γ cc own nL R) : (cC Γ).code = cc := C.2.1
theorem Cx.ml (C : Cx Θ Γ cc own nL R) : (cC Γ).maxLocals = nL := C.2.2.1
theorem Cx.nl (C : Cx Θ Γ cc own nL R) : cN Γ = nL := C.2.2.2.1
theorem Cx.ow (C : Cx Θ Γ cc own nL R) : (cS Γ).vm.findClass own = some (cM Γ).cls := C.2.2.2.2.1
theorem Cx.ws (C : Cx Θ Γ cc own nL R) : ∀ w ∈ WS, w.before (cA Γ) (cS Γ) = true := C.2.2.2.2.2.1
theorem Cx.k (C : Cx Θ Γ cc own nL R) : va_K (tD Θ) vwCl (tys (tC Θ)) (cS Γ) := C.2.2.2.2.2.2.1
theorem Cx.sx (C : Cx Θ Γ cc own nL R) : Sx Θ (cS Γ) := C.2.2.2.2.2.2.2.1
theorem Cx.rm (C : Cx Θ Γ cc own nL R) : cR Γ = R := C.2.2.2.2.2.2.2.2.1
theorem Cx.uc (C : Cx Θ Γ cc own nL R) : cU Γ ≤ R.cells := C.2.2.2.2.2.2.2.2.2.1
theorem Cx.us (C : Cx Θ Γ cc own nL R) : cV Γ ≤ R.slots := C.2.2.2.2.2.2.2.2.2.2
theorem g_iconst (C : Cx Θ Γ cc own nL R) {c : Int} (v : Int32) (hd : decode cc pc = .ok (.iconst c, 1)) (hv : Int32.ofInt c = v) (hn : pc + 1 = n) (kk : G Θ Γ n lv (.int v :: st) h) : G Θ Γ pc lv st h := by
  subst hn
  exact fun H locs ls hP hS hl => lv_iconst C.ex C.bt hd hv (kk H locs ls hP hS hl)
theorem g_bipush (C : Cx Θ Γ cc own nL R) {c : Int} (v : Int32) (hd : decode cc pc = .ok (.bipush c, 2)) (hv : (Int8.ofInt c).toInt32 = v) (hn : pc + 2 = n) (kk : G Θ Γ n lv (.int v :: st) h) : G Θ Γ pc lv st h := by
  subst hn
  exact fun H locs ls hP hS hl => lv_bipush C.ex C.bt hd hv (kk H locs ls hP hS hl)
theorem g_sipush (C : Cx Θ Γ cc own nL R) {c : Int} (v : Int32) (hd : decode cc pc = .ok (.sipush c, 3)) (hv : (Int16.ofInt c).toInt32 = v) (hn : pc + 3 = n) (kk : G Θ Γ n lv (.int v :: st) h) : G Θ Γ pc lv st h := by
  subst hn
  exact fun H locs ls hP hS hl => lv_sipush C.ex C.bt hd hv (kk H locs ls hP hS hl)
theorem g_lconst (C : Cx Θ Γ cc own nL R) {c : Fin 2} (v : Int64) (hd : decode cc pc = .ok (.lconst c, 1)) (hv : Int64.ofNat (c : Nat) = v) (hn : pc + 1 = n) (kk : G Θ Γ n lv (.long v :: st) h) : G Θ Γ pc lv st h := by
  subst hn
  exact fun H locs ls hP hS hl => lv_lconst C.ex C.bt hd hv (kk H locs ls hP hS hl)
theorem g_ldc (C : Cx Θ Γ cc own nL R) {index : Nat} (v : Int32) (hc : Cond.constant own index v ∈ WS) (hd : decode cc pc = .ok (.ldc index, 2)) (hn : pc + 2 = n) (kk : G Θ Γ n lv (.int v :: st) h) : G Θ Γ pc lv st h := by
  subst hn
  exact fun H locs ls hP hS hl => lv_ldc C.ex C.bt C.ow (C.ws _ hc) hd (kk H locs ls hP hS hl)
theorem g_ldc2 (C : Cx Θ Γ cc own nL R) {index : Nat} (v : Int64) (hc : Cond.constantLong own index v ∈ WS) (hd : decode cc pc = .ok (.ldc2_w index, 3)) (hn : pc + 3 = n) (kk : G Θ Γ n lv (.long v :: st) h) : G Θ Γ pc lv st h := by
  subst hn
  exact fun H locs ls hP hS hl => lv_ldc2 C.ex C.bt C.ow (C.ws _ hc) hd (kk H locs ls hP hS hl)
theorem g_iload (C : Cx Θ Γ cc own nL R) (k : Nat) {i : Nat} {x : Int32} (hd : decode cc pc = .ok (.iload i, 2)) (hk : lv[k]? = some (i, .int x)) (hn : pc + 2 = n) (kk : G Θ Γ n lv (.int x :: st) h) : G Θ Γ pc lv st h := by
  subst hn
  exact fun H locs ls hP hS hl => lv_iload C.ex C.bt hd (lv_at hl k hk) (kk H locs ls hP hS hl)
theorem g_iload_n (C : Cx Θ Γ cc own nL R) (k : Nat) {q : Fin 4} {i : Nat} {x : Int32} (hd : decode cc pc = .ok (.iload_n q, 1)) (hq : (q : Nat) = i) (hk : lv[k]? = some (i, .int x)) (hn : pc + 1 = n) (kk : G Θ Γ n lv (.int x :: st) h) : G Θ Γ pc lv st h := by
  subst hn
  exact fun H locs ls hP hS hl => lv_iload_n C.ex C.bt hd hq (lv_at hl k hk) (kk H locs ls hP hS hl)
theorem g_lload (C : Cx Θ Γ cc own nL R) (k : Nat) {i : Nat} {x : Int64} (hd : decode cc pc = .ok (.lload i, 2)) (hk : lv[k]? = some (i, .long x)) (hn : pc + 2 = n) (kk : G Θ Γ n lv (.long x :: st) h) : G Θ Γ pc lv st h := by
  subst hn
  exact fun H locs ls hP hS hl => lv_lload C.ex C.bt hd (lv_at hl k hk) (kk H locs ls hP hS hl)
theorem g_lload_n (C : Cx Θ Γ cc own nL R) (k : Nat) {q : Fin 4} {i : Nat} {x : Int64} (hd : decode cc pc = .ok (.lload_n q, 1)) (hq : (q : Nat) = i) (hk : lv[k]? = some (i, .long x)) (hn : pc + 1 = n) (kk : G Θ Γ n lv (.long x :: st) h) : G Θ Γ pc lv st h := by
  subst hn
  exact fun H locs ls hP hS hl => lv_lload_n C.ex C.bt hd hq (lv_at hl k hk) (kk H locs ls hP hS hl)
theorem g_aload (C : Cx Θ Γ cc own nL R) (k : Nat) {i : Nat} {x : Nat} (hd : decode cc pc = .ok (.aload i, 2)) (hk : lv[k]? = some (i, .ref x)) (hn : pc + 2 = n) (kk : G Θ Γ n lv (.ref x :: st) h) : G Θ Γ pc lv st h := by
  subst hn
  exact fun H locs ls hP hS hl => lv_aload C.ex C.bt hd (lv_at hl k hk) (kk H locs ls hP hS hl)
theorem g_aload_n (C : Cx Θ Γ cc own nL R) (k : Nat) {q : Fin 4} {i : Nat} {x : Nat} (hd : decode cc pc = .ok (.aload_n q, 1)) (hq : (q : Nat) = i) (hk : lv[k]? = some (i, .ref x)) (hn : pc + 1 = n) (kk : G Θ Γ n lv (.ref x :: st) h) : G Θ Γ pc lv st h := by
  subst hn
  exact fun H locs ls hP hS hl => lv_aload_n C.ex C.bt hd hq (lv_at hl k hk) (kk H locs ls hP hS hl)
abbrev cut1 (i : Nat) (lv : List (Nat × Value)) : List (Nat × Value) := lv.filter (fun q => !(q.1 == i) && !(q.1 + 1 == i && q.2.category == 2))
theorem g_istore (C : Cx Θ Γ cc own nL R) {i : Nat} {x : Int32} (lv' : List (Nat × Value)) (hd : decode cc pc = .ok (.istore i, 2)) (hi : i < nL) (hl' : (i, Value.int x) :: cut1 i lv = lv') (hn : pc + 2 = n) (kk : G Θ Γ n lv' st h) : G Θ Γ pc lv (.int x :: st) h := by
  subst hn
  exact fun H locs ls hP hS hl => lv_istore C.ex C.bt hd hl (by rw [C.nl]; exact hi) hl' (fun ls' hl2 => kk H locs ls' hP hS hl2)
theorem g_istore_n (C : Cx Θ Γ cc own nL R) {q : Fin 4} {i : Nat} {x : Int32} (lv' : List (Nat × Value)) (hd : decode cc pc = .ok (.istore_n q, 1)) (hq : (q : Nat) = i) (hi : i < nL) (hl' : (i, Value.int x) :: cut1 i lv = lv') (hn : pc + 1 = n) (kk : G Θ Γ n lv' st h) : G Θ Γ pc lv (.int x :: st) h := by
  subst hn
  exact fun H locs ls hP hS hl => lv_istore_n C.ex C.bt hd hq hl (by rw [C.nl]; exact hi) hl' (fun ls' hl2 => kk H locs ls' hP hS hl2)
theorem g_astore (C : Cx Θ Γ cc own nL R) {i : Nat} {x : Nat} (lv' : List (Nat × Value)) (hd : decode cc pc = .ok (.astore i, 2)) (hi : i < nL) (hl' : (i, Value.ref x) :: cut1 i lv = lv') (hn : pc + 2 = n) (kk : G Θ Γ n lv' st h) : G Θ Γ pc lv (.ref x :: st) h := by
  subst hn
  exact fun H locs ls hP hS hl => lv_astore C.ex C.bt hd hl (by rw [C.nl]; exact hi) hl' (fun ls' hl2 => kk H locs ls' hP hS hl2)
theorem g_astore_n (C : Cx Θ Γ cc own nL R) {q : Fin 4} {i : Nat} {x : Nat} (lv' : List (Nat × Value)) (hd : decode cc pc = .ok (.astore_n q, 1)) (hq : (q : Nat) = i) (hi : i < nL) (hl' : (i, Value.ref x) :: cut1 i lv = lv') (hn : pc + 1 = n) (kk : G Θ Γ n lv' st h) : G Θ Γ pc lv (.ref x :: st) h := by
  subst hn
  exact fun H locs ls hP hS hl => lv_astore_n C.ex C.bt hd hq hl (by rw [C.nl]; exact hi) hl' (fun ls' hl2 => kk H locs ls' hP hS hl2)
theorem g_lstore (C : Cx Θ Γ cc own nL R) {i : Nat} {x : Int64} (lv' : List (Nat × Value)) (hd : decode cc pc = .ok (.lstore i, 2)) (hi : i + 1 < nL) (hl' : (i, Value.long x) :: lv.filter (fun q => !(q.1 == i) && (!(q.1 == i + 1) && !(q.1 + 1 == i && q.2.category == 2))) = lv') (hn : pc + 2 = n) (kk : G Θ Γ n lv' st h) : G Θ Γ pc lv (.long x :: st) h := by
  subst hn
  exact fun H locs ls hP hS hl => lv_lstore C.ex C.bt hd hl (by rw [C.nl]; exact hi) hl' (fun ls' hl2 => kk H locs ls' hP hS hl2)
/-- a number gets a name: the one that the text of the method's function gives it -/
theorem g_nm {β : Type} {e : Int32} {f : Int32 → Option β} {K : β → Prop} (hk : Ok (bnd e f) K) (kk : ∀ x, Ok (f x) K → G Θ Γ pc lv (.int x :: st) h) : G Θ Γ pc lv (.int e :: st) h := kk e hk
theorem g_nml {β : Type} {e : Int64} {f : Int64 → Option β} {K : β → Prop} (hk : Ok (bnd e f) K) (kk : ∀ x, Ok (f x) K → G Θ Γ pc lv (.long x :: st) h) : G Θ Γ pc lv (.long e :: st) h := kk e hk
theorem g_iinc (C : Cx Θ Γ cc own nL R) {β : Type} {f : Int32 → Option β} {K : β → Prop} (k : Nat) {i : Nat} {c : Int} {x v : Int32} (L : Int32 → List (Nat × Value)) (hd : decode cc pc = .ok (.iinc i c, 3)) (hk : lv[k]? = some (i, .int x)) (hv : x + Int32.ofInt c = v) (hi : i < nL) (hl' : ∀ y, (i, Value.int y) :: cut1 i lv = L y) (hn : pc + 3 = n) (ho : Ok (bnd v f) K) (kk : ∀ y, Ok (f y) K → G Θ Γ n (L y) st h) : G Θ Γ pc lv st h := by
  subst hn
  exact fun H locs ls hP hS hl => lv_iinc C.ex C.bt hd hl hk hv (by rw [C.nl]; exact hi) (hl' v) (fun ls' hl2 => kk v ho H locs ls' hP hS hl2)
theorem g_iadd (C : Cx Θ Γ cc own nL R) {x y : Int32} (hd : decode cc pc = .ok (.iadd, 1)) (hn : pc + 1 = n) (kk : G Θ Γ n lv (.int (x + y) :: st) h) : G Θ Γ pc lv (.int y :: .int x :: st) h := by
  subst hn
  exact fun H locs ls hP hS hl => lv_iadd C.ex C.bt hd (kk H locs ls hP hS hl)
theorem g_isub (C : Cx Θ Γ cc own nL R) {x y : Int32} (hd : decode cc pc = .ok (.isub, 1)) (hn : pc + 1 = n) (kk : G Θ Γ n lv (.int (x - y) :: st) h) : G Θ Γ pc lv (.int y :: .int x :: st) h := by
  subst hn
  exact fun H locs ls hP hS hl => lv_isub C.ex C.bt hd (kk H locs ls hP hS hl)
theorem g_imul (C : Cx Θ Γ cc own nL R) {x y : Int32} (hd : decode cc pc = .ok (.imul, 1)) (hn : pc + 1 = n) (kk : G Θ Γ n lv (.int (x * y) :: st) h) : G Θ Γ pc lv (.int y :: .int x :: st) h := by
  subst hn
  exact fun H locs ls hP hS hl => lv_imul C.ex C.bt hd (kk H locs ls hP hS hl)
theorem g_iand (C : Cx Θ Γ cc own nL R) {x y : Int32} (hd : decode cc pc = .ok (.iand, 1)) (hn : pc + 1 = n) (kk : G Θ Γ n lv (.int (x &&& y) :: st) h) : G Θ Γ pc lv (.int y :: .int x :: st) h := by
  subst hn
  exact fun H locs ls hP hS hl => lv_iand C.ex C.bt hd (kk H locs ls hP hS hl)
theorem g_ior (C : Cx Θ Γ cc own nL R) {x y : Int32} (hd : decode cc pc = .ok (.ior, 1)) (hn : pc + 1 = n) (kk : G Θ Γ n lv (.int (x ||| y) :: st) h) : G Θ Γ pc lv (.int y :: .int x :: st) h := by
  subst hn
  exact fun H locs ls hP hS hl => lv_ior C.ex C.bt hd (kk H locs ls hP hS hl)
theorem g_ixor (C : Cx Θ Γ cc own nL R) {x y : Int32} (hd : decode cc pc = .ok (.ixor, 1)) (hn : pc + 1 = n) (kk : G Θ Γ n lv (.int (x ^^^ y) :: st) h) : G Θ Γ pc lv (.int y :: .int x :: st) h := by
  subst hn
  exact fun H locs ls hP hS hl => lv_ixor C.ex C.bt hd (kk H locs ls hP hS hl)
theorem g_ishl (C : Cx Θ Γ cc own nL R) {x y : Int32} (hd : decode cc pc = .ok (.ishl, 1)) (hn : pc + 1 = n) (kk : G Θ Γ n lv (.int (x <<< (y &&& 31)) :: st) h) : G Θ Γ pc lv (.int y :: .int x :: st) h := by
  subst hn
  exact fun H locs ls hP hS hl => lv_ishl C.ex C.bt hd (kk H locs ls hP hS hl)
theorem g_ishr (C : Cx Θ Γ cc own nL R) {x y : Int32} (hd : decode cc pc = .ok (.ishr, 1)) (hn : pc + 1 = n) (kk : G Θ Γ n lv (.int (x >>> (y &&& 31)) :: st) h) : G Θ Γ pc lv (.int y :: .int x :: st) h := by
  subst hn
  exact fun H locs ls hP hS hl => lv_ishr C.ex C.bt hd (kk H locs ls hP hS hl)
def ush (x y : Int32) : Int32 := (x.toUInt32 >>> (y.toUInt32 &&& Int32.toUInt32 31)).toInt32
theorem g_iushr (C : Cx Θ Γ cc own nL R) {x y : Int32} (hd : decode cc pc = .ok (.iushr, 1)) (hn : pc + 1 = n) (kk : G Θ Γ n lv (.int (ush x y) :: st) h) : G Θ Γ pc lv (.int y :: .int x :: st) h := by
  subst hn
  exact fun H locs ls hP hS hl => lv_iushr C.ex C.bt hd rfl (kk H locs ls hP hS hl)
theorem g_irem (C : Cx Θ Γ cc own nL R) {β : Type} {z : Option β} {K : β → Prop} {x y : Int32} {dz : Decidable (¬ y = 0)} (hd : decode cc pc = .ok (.irem, 1)) (hn : pc + 1 = n) (hk : Ok (@gd _ (¬ y = 0) dz z) K) (kk : Ok z K → G Θ Γ n lv (.int (x - x / y * y) :: st) h) : G Θ Γ pc lv (.int y :: .int x :: st) h := by
  subst hn
  exact fun H locs ls hP hS hl => lv_irem C.ex C.bt hd hk.gd.1 (kk hk.gd.2 H locs ls hP hS hl)
theorem g_i2l (C : Cx Θ Γ cc own nL R) {x : Int32} (hd : decode cc pc = .ok (.i2l, 1)) (hn : pc + 1 = n) (kk : G Θ Γ n lv (.long x.toInt64 :: st) h) : G Θ Γ pc lv (.int x :: st) h := by
  subst hn
  exact fun H locs ls hP hS hl => lv_i2l C.ex C.bt hd rfl (kk H locs ls hP hS hl)
theorem g_l2i (C : Cx Θ Γ cc own nL R) {x : Int64} (hd : decode cc pc = .ok (.l2i, 1)) (hn : pc + 1 = n) (kk : G Θ Γ n lv (.int x.toInt32 :: st) h) : G Θ Γ pc lv (.long x :: st) h := by
  subst hn
  exact fun H locs ls hP hS hl => lv_l2i C.ex C.bt hd rfl (kk H locs ls hP hS hl)
theorem g_i2b (C : Cx Θ Γ cc own nL R) {x : Int32} (hd : decode cc pc = .ok (.i2b, 1)) (hn : pc + 1 = n) (kk : G Θ Γ n lv (.int x.toInt8.toInt32 :: st) h) : G Θ Γ pc lv (.int x :: st) h := by
  subst hn
  exact fun H locs ls hP hS hl => lv_i2b C.ex C.bt hd rfl (kk H locs ls hP hS hl)
theorem g_i2s (C : Cx Θ Γ cc own nL R) {x : Int32} (hd : decode cc pc = .ok (.i2s, 1)) (hn : pc + 1 = n) (kk : G Θ Γ n lv (.int x.toInt16.toInt32 :: st) h) : G Θ Γ pc lv (.int x :: st) h := by
  subst hn
  exact fun H locs ls hP hS hl => lv_i2s C.ex C.bt hd rfl (kk H locs ls hP hS hl)
theorem g_ladd (C : Cx Θ Γ cc own nL R) {x y : Int64} (hd : decode cc pc = .ok (.ladd, 1)) (hn : pc + 1 = n) (kk : G Θ Γ n lv (.long (x + y) :: st) h) : G Θ Γ pc lv (.long y :: .long x :: st) h := by
  subst hn
  exact fun H locs ls hP hS hl => lv_ladd C.ex C.bt hd (kk H locs ls hP hS hl)
theorem g_land (C : Cx Θ Γ cc own nL R) {x y : Int64} (hd : decode cc pc = .ok (.land, 1)) (hn : pc + 1 = n) (kk : G Θ Γ n lv (.long (x &&& y) :: st) h) : G Θ Γ pc lv (.long y :: .long x :: st) h := by
  subst hn
  exact fun H locs ls hP hS hl => lv_land C.ex C.bt hd (kk H locs ls hP hS hl)
theorem g_lor (C : Cx Θ Γ cc own nL R) {x y : Int64} (hd : decode cc pc = .ok (.lor, 1)) (hn : pc + 1 = n) (kk : G Θ Γ n lv (.long (x ||| y) :: st) h) : G Θ Γ pc lv (.long y :: .long x :: st) h := by
  subst hn
  exact fun H locs ls hP hS hl => lv_lor C.ex C.bt hd (kk H locs ls hP hS hl)
def lsl (x : Int64) (y : Int32) : Int64 := x <<< (y.toInt64 &&& 63)
def lsr (x : Int64) (y : Int32) : Int64 := x >>> (y.toInt64 &&& 63)
def lus (x : Int64) (y : Int32) : Int64 := (x.toUInt64 >>> (y.toInt64.toUInt64 &&& Int64.toUInt64 63)).toInt64
theorem g_lshl (C : Cx Θ Γ cc own nL R) {x : Int64} {y : Int32} (hd : decode cc pc = .ok (.lshl, 1)) (hn : pc + 1 = n) (kk : G Θ Γ n lv (.long (lsl x y) :: st) h) : G Θ Γ pc lv (.int y :: .long x :: st) h := by
  subst hn
  exact fun H locs ls hP hS hl => lv_lshl C.ex C.bt hd rfl (kk H locs ls hP hS hl)
theorem g_lshr (C : Cx Θ Γ cc own nL R) {x : Int64} {y : Int32} (hd : decode cc pc = .ok (.lshr, 1)) (hn : pc + 1 = n) (kk : G Θ Γ n lv (.long (lsr x y) :: st) h) : G Θ Γ pc lv (.int y :: .long x :: st) h := by
  subst hn
  exact fun H locs ls hP hS hl => lv_lshr C.ex C.bt hd rfl (kk H locs ls hP hS hl)
theorem g_lushr (C : Cx Θ Γ cc own nL R) {x : Int64} {y : Int32} (hd : decode cc pc = .ok (.lushr, 1)) (hn : pc + 1 = n) (kk : G Θ Γ n lv (.long (lus x y) :: st) h) : G Θ Γ pc lv (.int y :: .long x :: st) h := by
  subst hn
  exact fun H locs ls hP hS hl => lv_lushr C.ex C.bt hd rfl (kk H locs ls hP hS hl)
theorem g_lcmp (C : Cx Θ Γ cc own nL R) {x y : Int64} (hd : decode cc pc = .ok (.lcmp, 1)) (hn : pc + 1 = n) (kk : G Θ Γ n lv (.int (lg_cmp x y) :: st) h) : G Θ Γ pc lv (.long y :: .long x :: st) h := by
  subst hn
  exact fun H locs ls hP hS hl => W.lcmp C.ex C.bt hd (kk H locs ls hP hS hl)
theorem g_dup (C : Cx Θ Γ cc own nL R) {v : Value} (hd : decode cc pc = .ok (.dup, 1)) (hv : v.category = 1) (hn : pc + 1 = n) (kk : G Θ Γ n lv (v :: v :: st) h) : G Θ Γ pc lv (v :: st) h := by
  subst hn
  exact fun H locs ls hP hS hl => lv_dup C.ex C.bt hd hv (kk H locs ls hP hS hl)
theorem g_dup2 (C : Cx Θ Γ cc own nL R) {v w : Value} (hd : decode cc pc = .ok (.dup2, 1)) (hv : v.category = 1) (hw : w.category = 1) (hn : pc + 1 = n) (kk : G Θ Γ n lv (v :: w :: v :: w :: st) h) : G Θ Γ pc lv (v :: w :: st) h := by
  subst hn
  exact fun H locs ls hP hS hl => lv_dup2_11 C.ex C.bt hd hv hw (kk H locs ls hP hS hl)
theorem g_pop (C : Cx Θ Γ cc own nL R) {v : Value} (hd : decode cc pc = .ok (.pop, 1)) (hv : v.category = 1) (hn : pc + 1 = n) (kk : G Θ Γ n lv st h) : G Θ Γ pc lv (v :: st) h := by
  subst hn
  exact fun H locs ls hP hS hl => lv_pop C.ex C.bt hd hv (kk H locs ls hP hS hl)
theorem g_goto (C : Cx Θ Γ cc own nL R) {off : Int} (tgt : Nat) (hd : decode cc pc = .ok (.goto off, 3)) (ht : (pc : Int) + off = (tgt : Int)) (kk : G Θ Γ tgt lv st h) : G Θ Γ pc lv st h :=
  fun H locs ls hP hS hl => lv_goto C.ex C.bt hd ht (kk H locs ls hP hS hl)
section Br
variable {β : Type} {xt xf : Option β} {K : β → Prop} {x y : Int32} {off : Int}
theorem g_if_eq (C : Cx Θ Γ cc own nL R) {i : Decidable (x = 0)} (tgt : Nat) (hd : decode cc pc = .ok (.ifCond .eq off, 3)) (ht : (pc : Int) + off = (tgt : Int)) (hn : pc + 3 = n) (hk : Ok (@ite _ (x = 0) i xt xf) K) (kt : Ok xt K → G Θ Γ tgt lv st h) (kf : Ok xf K → G Θ Γ n lv st h) : G Θ Γ pc lv (.int x :: st) h := by
  subst hn
  exact fun H locs ls hP hS hl => lv_if_eq C.ex C.bt hd ht (fun c => kt (hk.pos c) H locs ls hP hS hl) (fun c => kf (hk.neg c) H locs ls hP hS hl)
theorem g_if_ne (C : Cx Θ Γ cc own nL R) {i : Decidable (x = 0)} (tgt : Nat) (hd : decode cc pc = .ok (.ifCond .ne off, 3)) (ht : (pc : Int) + off = (tgt : Int)) (hn : pc + 3 = n) (hk : Ok (@ite _ (x = 0) i xf xt) K) (kt : Ok xt K → G Θ Γ tgt lv st h) (kf : Ok xf K → G Θ Γ n lv st h) : G Θ Γ pc lv (.int x :: st) h := by
  subst hn
  exact fun H locs ls hP hS hl => lv_if_ne C.ex C.bt hd ht (fun c => kt (hk.neg c) H locs ls hP hS hl) (fun c => kf (hk.pos c) H locs ls hP hS hl)
theorem g_if_lt (C : Cx Θ Γ cc own nL R) {i : Decidable (x < 0)} (tgt : Nat) (hd : decode cc pc = .ok (.ifCond .lt off, 3)) (ht : (pc : Int) + off = (tgt : Int)) (hn : pc + 3 = n) (hk : Ok (@ite _ (x < 0) i xt xf) K) (kt : Ok xt K → G Θ Γ tgt lv st h) (kf : Ok xf K → G Θ Γ n lv st h) : G Θ Γ pc lv (.int x :: st) h := by
  subst hn
  exact fun H locs ls hP hS hl => lv_if_lt C.ex C.bt hd ht (fun c => kt (hk.pos c) H locs ls hP hS hl) (fun c => kf (hk.neg c) H locs ls hP hS hl)
theorem g_if_ge (C : Cx Θ Γ cc own nL R) {i : Decidable (0 ≤ x)} (tgt : Nat) (hd : decode cc pc = .ok (.ifCond .ge off, 3)) (ht : (pc : Int) + off = (tgt : Int)) (hn : pc + 3 = n) (hk : Ok (@ite _ (0 ≤ x) i xt xf) K) (kt : Ok xt K → G Θ Γ tgt lv st h) (kf : Ok xf K → G Θ Γ n lv st h) : G Θ Γ pc lv (.int x :: st) h := by
  subst hn
  exact fun H locs ls hP hS hl => lv_if_ge C.ex C.bt hd ht (fun c => kt (hk.pos c) H locs ls hP hS hl) (fun c => kf (hk.neg c) H locs ls hP hS hl)
theorem g_if_gt (C : Cx Θ Γ cc own nL R) {i : Decidable (0 < x)} (tgt : Nat) (hd : decode cc pc = .ok (.ifCond .gt off, 3)) (ht : (pc : Int) + off = (tgt : Int)) (hn : pc + 3 = n) (hk : Ok (@ite _ (0 < x) i xt xf) K) (kt : Ok xt K → G Θ Γ tgt lv st h) (kf : Ok xf K → G Θ Γ n lv st h) : G Θ Γ pc lv (.int x :: st) h := by
  subst hn
  exact fun H locs ls hP hS hl => lv_if_gt C.ex C.bt hd ht (fun c => kt (hk.pos c) H locs ls hP hS hl) (fun c => kf (hk.neg c) H locs ls hP hS hl)
theorem g_if_le (C : Cx Θ Γ cc own nL R) {i : Decidable (x ≤ 0)} (tgt : Nat) (hd : decode cc pc = .ok (.ifCond .le off, 3)) (ht : (pc : Int) + off = (tgt : Int)) (hn : pc + 3 = n) (hk : Ok (@ite _ (x ≤ 0) i xt xf) K) (kt : Ok xt K → G Θ Γ tgt lv st h) (kf : Ok xf K → G Θ Γ n lv st h) : G Θ Γ pc lv (.int x :: st) h := by
  subst hn
  exact fun H locs ls hP hS hl => lv_if_le C.ex C.bt hd ht (fun c => kt (hk.pos c) H locs ls hP hS hl) (fun c => kf (hk.neg c) H locs ls hP hS hl)
theorem g_ic_eq (C : Cx Θ Γ cc own nL R) {i : Decidable (x = y)} (tgt : Nat) (hd : decode cc pc = .ok (.if_icmp .eq off, 3)) (ht : (pc : Int) + off = (tgt : Int)) (hn : pc + 3 = n) (hk : Ok (@ite _ (x = y) i xt xf) K) (kt : Ok xt K → G Θ Γ tgt lv st h) (kf : Ok xf K → G Θ Γ n lv st h) : G Θ Γ pc lv (.int y :: .int x :: st) h := by
  subst hn
  exact fun H locs ls hP hS hl => lv_icmp_eq C.ex C.bt hd ht (fun c => kt (hk.pos c) H locs ls hP hS hl) (fun c => kf (hk.neg c) H locs ls hP hS hl)
theorem g_ic_ne (C : Cx Θ Γ cc own nL R) {i : Decidable (x = y)} (tgt : Nat) (hd : decode cc pc = .ok (.if_icmp .ne off, 3)) (ht : (pc : Int) + off = (tgt : Int)) (hn : pc + 3 = n) (hk : Ok (@ite _ (x = y) i xf xt) K) (kt : Ok xt K → G Θ Γ tgt lv st h) (kf : Ok xf K → G Θ Γ n lv st h) : G Θ Γ pc lv (.int y :: .int x :: st) h := by
  subst hn
  exact fun H locs ls hP hS hl => lv_icmp_ne C.ex C.bt hd ht (fun c => kt (hk.neg c) H locs ls hP hS hl) (fun c => kf (hk.pos c) H locs ls hP hS hl)
theorem g_ic_lt (C : Cx Θ Γ cc own nL R) {i : Decidable (x < y)} (tgt : Nat) (hd : decode cc pc = .ok (.if_icmp .lt off, 3)) (ht : (pc : Int) + off = (tgt : Int)) (hn : pc + 3 = n) (hk : Ok (@ite _ (x < y) i xt xf) K) (kt : Ok xt K → G Θ Γ tgt lv st h) (kf : Ok xf K → G Θ Γ n lv st h) : G Θ Γ pc lv (.int y :: .int x :: st) h := by
  subst hn
  exact fun H locs ls hP hS hl => lv_icmp_lt C.ex C.bt hd ht (fun c => kt (hk.pos c) H locs ls hP hS hl) (fun c => kf (hk.neg c) H locs ls hP hS hl)
theorem g_ic_ge (C : Cx Θ Γ cc own nL R) {i : Decidable (y ≤ x)} (tgt : Nat) (hd : decode cc pc = .ok (.if_icmp .ge off, 3)) (ht : (pc : Int) + off = (tgt : Int)) (hn : pc + 3 = n) (hk : Ok (@ite _ (y ≤ x) i xt xf) K) (kt : Ok xt K → G Θ Γ tgt lv st h) (kf : Ok xf K → G Θ Γ n lv st h) : G Θ Γ pc lv (.int y :: .int x :: st) h := by
  subst hn
  exact fun H locs ls hP hS hl => lv_icmp_ge C.ex C.bt hd ht (fun c => kt (hk.pos c) H locs ls hP hS hl) (fun c => kf (hk.neg c) H locs ls hP hS hl)
theorem g_ic_gt (C : Cx Θ Γ cc own nL R) {i : Decidable (y < x)} (tgt : Nat) (hd : decode cc pc = .ok (.if_icmp .gt off, 3)) (ht : (pc : Int) + off = (tgt : Int)) (hn : pc + 3 = n) (hk : Ok (@ite _ (y < x) i xt xf) K) (kt : Ok xt K → G Θ Γ tgt lv st h) (kf : Ok xf K → G Θ Γ n lv st h) : G Θ Γ pc lv (.int y :: .int x :: st) h := by
  subst hn
  exact fun H locs ls hP hS hl => lv_icmp_gt C.ex C.bt hd ht (fun c => kt (hk.pos c) H locs ls hP hS hl) (fun c => kf (hk.neg c) H locs ls hP hS hl)
theorem g_ic_le (C : Cx Θ Γ cc own nL R) {i : Decidable (x ≤ y)} (tgt : Nat) (hd : decode cc pc = .ok (.if_icmp .le off, 3)) (ht : (pc : Int) + off = (tgt : Int)) (hn : pc + 3 = n) (hk : Ok (@ite _ (x ≤ y) i xt xf) K) (kt : Ok xt K → G Θ Γ tgt lv st h) (kf : Ok xf K → G Θ Γ n lv st h) : G Θ Γ pc lv (.int y :: .int x :: st) h := by
  subst hn
  exact fun H locs ls hP hS hl => lv_icmp_le C.ex C.bt hd ht (fun c => kt (hk.pos c) H locs ls hP hS hl) (fun c => kf (hk.neg c) H locs ls hP hS hl)
/-- branches on the answer of a call that is a truth -/
theorem g_bf (C : Cx Θ Γ cc own nL R) {b : Bool} {i : Decidable (b = true)} (tgt : Nat) (hd : decode cc pc = .ok (.ifCond .eq off, 3)) (ht : (pc : Int) + off = (tgt : Int)) (hn : pc + 3 = n) (hk : Ok (@ite _ (b = true) i xf xt) K) (kt : Ok xt K → G Θ Γ tgt lv st h) (kf : Ok xf K → G Θ Γ n lv st h) : G Θ Γ pc lv (.int (b2i b) :: st) h := by
  subst hn
  refine fun H locs ls hP hS hl => lv_if_eq C.ex C.bt hd ht (fun c => kt (hk.neg (fun e => ?_)) H locs ls hP hS hl) (fun c => kf (hk.pos ?_) H locs ls hP hS hl)
  · subst e; exact absurd c (by decide)
  · cases b
    · exact absurd rfl c
    · rfl
theorem g_bt (C : Cx Θ Γ cc own nL R) {b : Bool} {i : Decidable (b = true)} (tgt : Nat) (hd : decode cc pc = .ok (.ifCond .ne off, 3)) (ht : (pc : Int) + off = (tgt : Int)) (hn : pc + 3 = n) (hk : Ok (@ite _ (b = true) i xt xf) K) (kt : Ok xt K → G Θ Γ tgt lv st h) (kf : Ok xf K → G Θ Γ n lv st h) : G Θ Γ pc lv (.int (b2i b) :: st) h := by
  subst hn
  refine fun H locs ls hP hS hl => lv_if_ne C.ex C.bt hd ht (fun c => kt (hk.pos ?_) H locs ls hP hS hl) (fun c => kf (hk.neg (fun e => ?_)) H locs ls hP hS hl)
  · cases b
    · exact absurd rfl c
    · rfl
  · subst e; exact absurd c (by decide)
end Br
end Rules
end
section
set_option maxRecDepth 100000 in
theorem wm_0 : (.selects RX8 yX8_takeToken yX8_takeToken : Cond) ∈ WS := mw 0 rfl rfl
set_option maxRecDepth 100000 in
theorem wm_1 : (.selects RX8 yX8_refuse yX8_refuse : Cond) ∈ WS := mw 1 rfl rfl
set_option maxRecDepth 100000 in
theorem wm_2 : (.selects RX8 yX8_takeLine yX8_takeLine : Cond) ∈ WS := mw 2 rfl rfl
set_option maxRecDepth 100000 in
theorem wm_3 : (.selects RX8 yX8_isName yX8_isName : Cond) ∈ WS := mw 3 rfl rfl
set_option maxRecDepth 100000 in
theorem wm_4 : (.selects RX8 yX8_takePlaces yX8_takePlaces : Cond) ∈ WS := mw 4 rfl rfl
set_option maxRecDepth 100000 in
theorem wm_5 : (.selects RX8 yX8_takeNumber yX8_takeNumber : Cond) ∈ WS := mw 5 rfl rfl
set_option maxRecDepth 100000 in
theorem wm_6 : (.selects RX8 yX8_endsLine yX8_endsLine : Cond) ∈ WS := mw 6 rfl rfl
set_option maxRecDepth 100000 in
theorem wm_7 : (.selects RX8 yX8_takeHole yX8_takeHole : Cond) ∈ WS := mw 7 rfl rfl
set_option maxRecDepth 100000 in
theorem wm_8 : (.selects RX8 yX8_takeCoin yX8_takeCoin : Cond) ∈ WS := mw 8 rfl rfl
set_option maxRecDepth 100000 in
theorem wm_9 : (.selects RX8 yX8_takeCrab yX8_takeCrab : Cond) ∈ WS := mw 9 rfl rfl
set_option maxRecDepth 100000 in
theorem wm_10 : (.selects RX8 yX8_takeTide yX8_takeTide : Cond) ∈ WS := mw 10 rfl rfl
set_option maxRecDepth 100000 in
theorem wm_11 : (.selects RX9 yX9_isPlace yX9_isPlace : Cond) ∈ WS := mw 11 rfl rfl
set_option maxRecDepth 100000 in
theorem wm_12 : (.selects RX9 yX9_isCoin yX9_isCoin : Cond) ∈ WS := mw 12 rfl rfl
set_option maxRecDepth 100000 in
theorem wm_13 : (.selects RX9 yX9_isCrab yX9_isCrab : Cond) ∈ WS := mw 13 rfl rfl
set_option maxRecDepth 100000 in
theorem wm_14 : (.selects RX0 yX0_act yX0_act : Cond) ∈ WS := mw 14 rfl rfl
set_option maxRecDepth 100000 in
theorem wm_15 : (.selects RX0 yX0_firstFitting yX0_firstFitting : Cond) ∈ WS := mw 15 rfl rfl
set_option maxRecDepth 100000 in
theorem wm_16 : (.selects RX0 yX0_settleFights yX0_settleFights : Cond) ∈ WS := mw 16 rfl rfl
set_option maxRecDepth 100000 in
theorem wm_17 : (.selects RX0 yX0_losesFight yX0_losesFight : Cond) ∈ WS := mw 17 rfl rfl
set_option maxRecDepth 100000 in
theorem wm_18 : (.selects RX0 yX0_openCoins yX0_openCoins : Cond) ∈ WS := mw 18 rfl rfl
set_option maxRecDepth 100000 in
theorem wm_19 : (.selects RX4 yX4_note yX4_note : Cond) ∈ WS := mw 19 rfl rfl
set_option maxRecDepth 100000 in
theorem wm_20 : (.selects RX4 yX4_turnToNext yX4_turnToNext : Cond) ∈ WS := mw 20 rfl rfl
set_option maxRecDepth 100000 in
theorem wm_21 : (.selects RX4 yX4_swap yX4_swap : Cond) ∈ WS := mw 21 rfl rfl
set_option maxRecDepth 100000 in
theorem wm_22 : (.selects RX9 yX9_isSortedBy yX9_isSortedBy : Cond) ∈ WS := mw 22 rfl rfl
set_option maxRecDepth 100000 in
theorem wm_23 : (.selects RX9 yX9_stepsWithHole yX9_stepsWithHole : Cond) ∈ WS := mw 23 rfl rfl
set_option maxRecDepth 100000 in
theorem wm_24 : (.selects RX9 yX9_isSeenWithFalse yX9_isSeenWithFalse : Cond) ∈ WS := mw 24 rfl rfl
set_option maxRecDepth 100000 in
theorem wm_25 : (.selects RX6 yX6_lastStep yX6_lastStep : Cond) ∈ WS := mw 25 rfl rfl
set_option maxRecDepth 100000 in
theorem wm_26 : (.selects RX6 yX6_holdAt yX6_holdAt : Cond) ∈ WS := mw 26 rfl rfl
set_option maxRecDepth 100000 in
theorem wm_27 : (.selects RX10 yX10_firstDraft yX10_firstDraft : Cond) ∈ WS := mw 27 rfl rfl
set_option maxRecDepth 100000 in
theorem wm_28 : (.selects RX10 yX10_keepDraft yX10_keepDraft : Cond) ∈ WS := mw 28 rfl rfl
set_option maxRecDepth 100000 in
theorem wm_29 : (.selects RX10 yX10_next yX10_next : Cond) ∈ WS := mw 29 rfl rfl
set_option maxRecDepth 100000 in
theorem wm_30 : (.selects RX10 yX10_look yX10_look : Cond) ∈ WS := mw 30 rfl rfl
set_option maxRecDepth 100000 in
theorem wm_31 : (.selects RX10 yX10_needs yX10_needs : Cond) ∈ WS := mw 31 rfl rfl
set_option maxRecDepth 100000 in
theorem wm_32 : (.selects RX10 yX10_readLine yX10_readLine : Cond) ∈ WS := mw 32 rfl rfl
set_option maxRecDepth 100000 in
theorem wm_33 : (.selects RX10 yX10_lineNow yX10_lineNow : Cond) ∈ WS := mw 33 rfl rfl
set_option maxRecDepth 100000 in
theorem wm_34 : (.selects RX10 yX10_is yX10_is : Cond) ∈ WS := mw 34 rfl rfl
set_option maxRecDepth 100000 in
theorem wm_35 : (.selects RX10 yX10_ends yX10_ends : Cond) ∈ WS := mw 35 rfl rfl
set_option maxRecDepth 100000 in
theorem wm_36 : (.selects RX10 yX10_readLineOf yX10_readLineOf : Cond) ∈ WS := mw 36 rfl rfl
set_option maxRecDepth 100000 in
theorem wm_37 : (.selects RX10 yX10_readNumber yX10_readNumber : Cond) ∈ WS := mw 37 rfl rfl
set_option maxRecDepth 100000 in
theorem wm_38 : (.selects RX10 yX10_looked yX10_looked : Cond) ∈ WS := mw 38 rfl rfl
set_option maxRecDepth 100000 in
theorem wm_39 : (.selects RX10 yX10_readHole yX10_readHole : Cond) ∈ WS := mw 39 rfl rfl
set_option maxRecDepth 100000 in
theorem wm_40 : (.selects RX10 yX10_lookedPlace yX10_lookedPlace : Cond) ∈ WS := mw 40 rfl rfl
set_option maxRecDepth 100000 in
theorem wm_41 : (.selects RX10 yX10_readCoin yX10_readCoin : Cond) ∈ WS := mw 41 rfl rfl
set_option maxRecDepth 100000 in
theorem wm_42 : (.selects RX10 yX10_readPlace yX10_readPlace : Cond) ∈ WS := mw 42 rfl rfl
set_option maxRecDepth 100000 in
theorem wm_43 : (.selects RX10 yX10_readCrab yX10_readCrab : Cond) ∈ WS := mw 43 rfl rfl
set_option maxRecDepth 100000 in
theorem wm_44 : (.selects RX10 yX10_isPlace yX10_isPlace : Cond) ∈ WS := mw 44 rfl rfl
set_option maxRecDepth 100000 in
theorem wm_45 : (.selects RX10 yX10_isCoin yX10_isCoin : Cond) ∈ WS := mw 45 rfl rfl
set_option maxRecDepth 100000 in
theorem wm_46 : (.selects RX10 yX10_starts yX10_starts : Cond) ∈ WS := mw 46 rfl rfl
set_option maxRecDepth 100000 in
theorem wm_47 : (.selects RX10 yX10_isRight yX10_isRight : Cond) ∈ WS := mw 47 rfl rfl
set_option maxRecDepth 100000 in
theorem wm_48 : (.selects RX10 yX10_rightPlace yX10_rightPlace : Cond) ∈ WS := mw 48 rfl rfl
set_option maxRecDepth 100000 in
theorem wm_49 : (.selects RX10 yX10_isCrab yX10_isCrab : Cond) ∈ WS := mw 49 rfl rfl
set_option maxRecDepth 100000 in
theorem wm_50 : (.selects RX10 yX10_heldBy yX10_heldBy : Cond) ∈ WS := mw 50 rfl rfl
set_option maxRecDepth 100000 in
theorem wm_51 : (.selects RX10 yX10_manyAt yX10_manyAt : Cond) ∈ WS := mw 51 rfl rfl
set_option maxRecDepth 100000 in
theorem wm_52 : (.selects RX10 yX10_becomes yX10_becomes : Cond) ∈ WS := mw 52 rfl rfl
set_option maxRecDepth 100000 in
theorem wm_53 : (.selects RX10 yX10_steps yX10_steps : Cond) ∈ WS := mw 53 rfl rfl
set_option maxRecDepth 100000 in
theorem wm_54 : (.selects RX10 yX10_does yX10_does : Cond) ∈ WS := mw 54 rfl rfl
set_option maxRecDepth 100000 in
theorem wm_55 : (.selects RX10 yX10_lyingFor yX10_lyingFor : Cond) ∈ WS := mw 55 rfl rfl
set_option maxRecDepth 100000 in
theorem wm_56 : (.selects RX10 yX10_doesFit yX10_doesFit : Cond) ∈ WS := mw 56 rfl rfl
set_option maxRecDepth 100000 in
theorem wm_57 : (.selects RX10 yX10_fights yX10_fights : Cond) ∈ WS := mw 57 rfl rfl
set_option maxRecDepth 100000 in
theorem wm_58 : (.selects RX10 yX10_rightMany yX10_rightMany : Cond) ∈ WS := mw 58 rfl rfl
set_option maxRecDepth 100000 in
theorem wm_59 : (.selects RX10 yX10_sortedBehind yX10_sortedBehind : Cond) ∈ WS := mw 59 rfl rfl
set_option maxRecDepth 100000 in
theorem wm_60 : (.selects RX10 yX10_nextOrder yX10_nextOrder : Cond) ∈ WS := mw 60 rfl rfl
set_option maxRecDepth 100000 in
theorem wm_61 : (.selects RX10 yX10_isSo yX10_isSo : Cond) ∈ WS := mw 61 rfl rfl
set_option maxRecDepth 100000 in
theorem wm_62 : (.selects RX10 yX10_copies yX10_copies : Cond) ∈ WS := mw 62 rfl rfl
set_option maxRecDepth 100000 in
theorem wm_63 : (.initialized RL : Cond) ∈ WS := mw 63 rfl rfl
set_option maxRecDepth 100000 in
theorem wm_64 : (.initialized RX9 : Cond) ∈ WS := mw 64 rfl rfl
set_option maxRecDepth 100000 in
theorem wm_65 : (.initialized RX0 : Cond) ∈ WS := mw 65 rfl rfl
set_option maxRecDepth 100000 in
theorem wm_66 : (.initialized RX1 : Cond) ∈ WS := mw 66 rfl rfl
set_option maxRecDepth 100000 in
theorem wm_67 : (.initialized RX2 : Cond) ∈ WS := mw 67 rfl rfl
set_option maxRecDepth 100000 in
theorem wm_68 : (.initialized RX6 : Cond) ∈ WS := mw 68 rfl rfl
set_option maxRecDepth 100000 in
theorem wm_69 : (.initialized RX4 : Cond) ∈ WS := mw 69 rfl rfl
set_option maxRecDepth 100000 in
theorem wm_70 : (.initialized RX8 : Cond) ∈ WS := mw 70 rfl rfl
set_option maxRecDepth 100000 in
theorem wm_71 : (.initialized RX7 : Cond) ∈ WS := mw 71 rfl rfl
set_option maxRecDepth 100000 in
theorem wm_72 : (.initialized RX3 : Cond) ∈ WS := mw 72 rfl rfl
set_option maxRecDepth 100000 in
theorem wm_73 : (.initialized RX5 : Cond) ∈ WS := mw 73 rfl rfl
set_option maxRecDepth 100000 in
theorem wm_74 : (.initialized RX10 : Cond) ∈ WS := mw 74 rfl rfl
set_option maxRecDepth 100000 in
theorem wm_75 : (.initialized RJ0 : Cond) ∈ WS := mw 75 rfl rfl
set_option maxRecDepth 100000 in
theorem wm_76 : (.initialized RJ1 : Cond) ∈ WS := mw 76 rfl rfl
set_option maxRecDepth 100000 in
theorem wm_77 : (.initialized RJ3 : Cond) ∈ WS := mw 77 rfl rfl
set_option maxRecDepth 100000 in
theorem wm_78 : (.initialized RJ2 : Cond) ∈ WS := mw 78 rfl rfl
set_option maxRecDepth 100000 in
theorem wm_79 : (.initialized RJ9 : Cond) ∈ WS := mw 79 rfl rfl
set_option maxRecDepth 100000 in
theorem wm_80 : (.initialized RJ6 : Cond) ∈ WS := mw 80 rfl rfl
set_option maxRecDepth 100000 in
theorem wm_83 : (.methodLink RL 9 yX9_init : Cond) ∈ WS := mw 83 rfl rfl
set_option maxRecDepth 100000 in
theorem wm_84 : (.instanceMethod yX9_init : Cond) ∈ WS := mw 84 rfl rfl
set_option maxRecDepth 100000 in
theorem wm_85 : (.code yX9_init cX9_init 2 none : Cond) ∈ WS := mw 85 rfl rfl
set_option maxRecDepth 100000 in
theorem wm_86 : (.methodLink RX9 1 objectInit : Cond) ∈ WS := mw 86 rfl rfl
set_option maxRecDepth 100000 in
theorem wm_87 : (.instanceMethod objectInit : Cond) ∈ WS := mw 87 rfl rfl
set_option maxRecDepth 100000 in
theorem wm_91 : (.methodLink RX9 9 yX0_init : Cond) ∈ WS := mw 91 rfl rfl
set_option maxRecDepth 100000 in
theorem wm_92 : (.instanceMethod yX0_init : Cond) ∈ WS := mw 92 rfl rfl
set_option maxRecDepth 100000 in
theorem wm_93 : (.code yX0_init cX0_init 2 none : Cond) ∈ WS := mw 93 rfl rfl
set_option maxRecDepth 100000 in
theorem wm_94 : (.methodLink RX0 3 objectInit : Cond) ∈ WS := mw 94 rfl rfl
set_option maxRecDepth 100000 in
theorem wm_101 : (.instanceMethod yX1_init : Cond) ∈ WS := mw 101 rfl rfl
set_option maxRecDepth 100000 in
theorem wm_102 : (.code yX1_init cX1_init 1 none : Cond) ∈ WS := mw 102 rfl rfl
set_option maxRecDepth 100000 in
theorem wm_103 : (.methodLink RX1 1 objectInit : Cond) ∈ WS := mw 103 rfl rfl
set_option maxRecDepth 100000 in
theorem wm_104 : (.fieldLink RX1 7 RX1 "size" "I" : Cond) ∈ WS := mw 104 rfl rfl
set_option maxRecDepth 100000 in
theorem wm_105 : (.fieldLink RX2 33 RX1 "size" "I" : Cond) ∈ WS := mw 105 rfl rfl
set_option maxRecDepth 100000 in
theorem wm_106 : (.fieldLink RX0 61 RX1 "size" "I" : Cond) ∈ WS := mw 106 rfl rfl
set_option maxRecDepth 100000 in
theorem wm_107 : (.fieldLink RX9 130 RX1 "size" "I" : Cond) ∈ WS := mw 107 rfl rfl
set_option maxRecDepth 100000 in
theorem wm_108 : (.fieldLink RX1 13 RX1 "isFalse" "Z" : Cond) ∈ WS := mw 108 rfl rfl
set_option maxRecDepth 100000 in
theorem wm_109 : (.fieldLink RX2 27 RX1 "isFalse" "Z" : Cond) ∈ WS := mw 109 rfl rfl
set_option maxRecDepth 100000 in
theorem wm_110 : (.fieldLink RX0 64 RX1 "isFalse" "Z" : Cond) ∈ WS := mw 110 rfl rfl
set_option maxRecDepth 100000 in
theorem wm_111 : (.fieldLink RX8 125 RX1 "isFalse" "Z" : Cond) ∈ WS := mw 111 rfl rfl
set_option maxRecDepth 100000 in
theorem wm_112 : (.fieldLink RX9 135 RX1 "isFalse" "Z" : Cond) ∈ WS := mw 112 rfl rfl
set_option maxRecDepth 100000 in
theorem wm_113 : (.fieldLink RX1 17 RX1 "where" "I" : Cond) ∈ WS := mw 113 rfl rfl
set_option maxRecDepth 100000 in
theorem wm_114 : (.fieldLink RX0 68 RX1 "where" "I" : Cond) ∈ WS := mw 114 rfl rfl
set_option maxRecDepth 100000 in
theorem wm_115 : (.fieldLink RX6 51 RX1 "where" "I" : Cond) ∈ WS := mw 115 rfl rfl
set_option maxRecDepth 100000 in
theorem wm_116 : (.fieldLink RX9 142 RX1 "where" "I" : Cond) ∈ WS := mw 116 rfl rfl
set_option maxRecDepth 100000 in
theorem wm_117 : (.fieldLink RX0 139 RX1 "goal" "I" : Cond) ∈ WS := mw 117 rfl rfl
set_option maxRecDepth 100000 in
theorem wm_130 : (.instanceMethod yX2_init : Cond) ∈ WS := mw 130 rfl rfl
set_option maxRecDepth 100000 in
theorem wm_131 : (.code yX2_init cX2_init 1 none : Cond) ∈ WS := mw 131 rfl rfl
set_option maxRecDepth 100000 in
theorem wm_132 : (.methodLink RX2 3 objectInit : Cond) ∈ WS := mw 132 rfl rfl
set_option maxRecDepth 100000 in
theorem wm_133 : (.fieldLink RX2 15 RX2 "claw" "I" : Cond) ∈ WS := mw 133 rfl rfl
set_option maxRecDepth 100000 in
theorem wm_134 : (.fieldLink RX0 74 RX2 "claw" "I" : Cond) ∈ WS := mw 134 rfl rfl
set_option maxRecDepth 100000 in
theorem wm_135 : (.fieldLink RX9 156 RX2 "claw" "I" : Cond) ∈ WS := mw 135 rfl rfl
set_option maxRecDepth 100000 in
theorem wm_136 : (.fieldLink RX2 18 RX2 "shell" "I" : Cond) ∈ WS := mw 136 rfl rfl
set_option maxRecDepth 100000 in
theorem wm_137 : (.fieldLink RX0 77 RX2 "shell" "I" : Cond) ∈ WS := mw 137 rfl rfl
set_option maxRecDepth 100000 in
theorem wm_138 : (.fieldLink RX9 161 RX2 "shell" "I" : Cond) ∈ WS := mw 138 rfl rfl
set_option maxRecDepth 100000 in
theorem wm_139 : (.fieldLink RX2 21 RX2 "hand" "I" : Cond) ∈ WS := mw 139 rfl rfl
set_option maxRecDepth 100000 in
theorem wm_140 : (.fieldLink RX0 71 RX2 "hand" "I" : Cond) ∈ WS := mw 140 rfl rfl
set_option maxRecDepth 100000 in
theorem wm_141 : (.fieldLink RX9 164 RX2 "hand" "I" : Cond) ∈ WS := mw 141 rfl rfl
set_option maxRecDepth 100000 in
theorem wm_142 : (.fieldLink RX2 24 RX2 "place" "I" : Cond) ∈ WS := mw 142 rfl rfl
set_option maxRecDepth 100000 in
theorem wm_143 : (.fieldLink RX0 80 RX2 "place" "I" : Cond) ∈ WS := mw 143 rfl rfl
set_option maxRecDepth 100000 in
theorem wm_144 : (.fieldLink RX9 167 RX2 "place" "I" : Cond) ∈ WS := mw 144 rfl rfl
set_option maxRecDepth 100000 in
theorem wm_145 : (.fieldLink RX2 9 RX2 "held" "I" : Cond) ∈ WS := mw 145 rfl rfl
set_option maxRecDepth 100000 in
theorem wm_146 : (.fieldLink RX0 83 RX2 "held" "I" : Cond) ∈ WS := mw 146 rfl rfl
set_option maxRecDepth 100000 in
theorem wm_147 : (.fieldLink RX9 174 RX2 "held" "I" : Cond) ∈ WS := mw 147 rfl rfl
set_option maxRecDepth 100000 in
theorem wm_159 : (.fieldLink RX0 9 RX0 "places" "I" : Cond) ∈ WS := mw 159 rfl rfl
set_option maxRecDepth 100000 in
theorem wm_160 : (.fieldLink RX8 103 RX0 "places" "I" : Cond) ∈ WS := mw 160 rfl rfl
set_option maxRecDepth 100000 in
theorem wm_161 : (.fieldLink RX9 97 RX0 "places" "I" : Cond) ∈ WS := mw 161 rfl rfl
set_option maxRecDepth 100000 in
theorem wm_162 : (.fieldLink RX0 15 RX0 "holes" "[I" : Cond) ∈ WS := mw 162 rfl rfl
set_option maxRecDepth 100000 in
theorem wm_163 : (.fieldLink RX8 108 RX0 "holes" "[I" : Cond) ∈ WS := mw 163 rfl rfl
set_option maxRecDepth 100000 in
theorem wm_164 : (.fieldLink RX9 119 RX0 "holes" "[I" : Cond) ∈ WS := mw 164 rfl rfl
set_option maxRecDepth 100000 in
theorem wm_165 : (.fieldLink RX0 36 RX0 "coinCount" "I" : Cond) ∈ WS := mw 165 rfl rfl
set_option maxRecDepth 100000 in
theorem wm_166 : (.fieldLink RX9 100 RX0 "coinCount" "I" : Cond) ∈ WS := mw 166 rfl rfl
set_option maxRecDepth 100000 in
theorem wm_167 : (.fieldLink RX8 112 RX0 "coinCount" "I" : Cond) ∈ WS := mw 167 rfl rfl
set_option maxRecDepth 100000 in
theorem wm_168 : (.fieldLink RX0 21 RX0 "coins" "[LCrabMint$Coin;" : Cond) ∈ WS := mw 168 rfl rfl
set_option maxRecDepth 100000 in
theorem wm_169 : (.fieldLink RX6 48 RX0 "coins" "[LCrabMint$Coin;" : Cond) ∈ WS := mw 169 rfl rfl
set_option maxRecDepth 100000 in
theorem wm_170 : (.fieldLink RX8 121 RX0 "coins" "[LCrabMint$Coin;" : Cond) ∈ WS := mw 170 rfl rfl
set_option maxRecDepth 100000 in
theorem wm_171 : (.fieldLink RX9 126 RX0 "coins" "[LCrabMint$Coin;" : Cond) ∈ WS := mw 171 rfl rfl
set_option maxRecDepth 100000 in
theorem wm_172 : (.fieldLink RX0 39 RX0 "crabCount" "I" : Cond) ∈ WS := mw 172 rfl rfl
set_option maxRecDepth 100000 in
theorem wm_173 : (.fieldLink RX4 44 RX0 "crabCount" "I" : Cond) ∈ WS := mw 173 rfl rfl
set_option maxRecDepth 100000 in
theorem wm_174 : (.fieldLink RX9 103 RX0 "crabCount" "I" : Cond) ∈ WS := mw 174 rfl rfl
set_option maxRecDepth 100000 in
theorem wm_175 : (.fieldLink RX8 130 RX0 "crabCount" "I" : Cond) ∈ WS := mw 175 rfl rfl
set_option maxRecDepth 100000 in
theorem wm_176 : (.fieldLink RX0 27 RX0 "crabs" "[LCrabMint$Crab;" : Cond) ∈ WS := mw 176 rfl rfl
set_option maxRecDepth 100000 in
theorem wm_177 : (.fieldLink RX9 152 RX0 "crabs" "[LCrabMint$Crab;" : Cond) ∈ WS := mw 177 rfl rfl
set_option maxRecDepth 100000 in
theorem wm_178 : (.fieldLink RX0 45 RX0 "tide" "I" : Cond) ∈ WS := mw 178 rfl rfl
set_option maxRecDepth 100000 in
theorem wm_179 : (.fieldLink RX9 106 RX0 "tide" "I" : Cond) ∈ WS := mw 179 rfl rfl
set_option maxRecDepth 100000 in
theorem wm_180 : (.fieldLink RX8 145 RX0 "tide" "I" : Cond) ∈ WS := mw 180 rfl rfl
set_option maxRecDepth 100000 in
theorem wm_181 : (.fieldLink RX0 48 RX0 "wet" "I" : Cond) ∈ WS := mw 181 rfl rfl
set_option maxRecDepth 100000 in
theorem wm_182 : (.fieldLink RX9 109 RX0 "wet" "I" : Cond) ∈ WS := mw 182 rfl rfl
set_option maxRecDepth 100000 in
theorem wm_183 : (.fieldLink RX8 147 RX0 "wet" "I" : Cond) ∈ WS := mw 183 rfl rfl
set_option maxRecDepth 100000 in
theorem wm_184 : (.fieldLink RX0 51 RX0 "step" "I" : Cond) ∈ WS := mw 184 rfl rfl
set_option maxRecDepth 100000 in
theorem wm_185 : (.fieldLink RX9 112 RX0 "step" "I" : Cond) ∈ WS := mw 185 rfl rfl
set_option maxRecDepth 100000 in
theorem wm_186 : (.fieldLink RX0 31 RX0 "order" "[I" : Cond) ∈ WS := mw 186 rfl rfl
set_option maxRecDepth 100000 in
theorem wm_187 : (.fieldLink RX4 31 RX0 "order" "[I" : Cond) ∈ WS := mw 187 rfl rfl
set_option maxRecDepth 100000 in
theorem wm_188 : (.fieldLink RX0 42 RX0 "acting" "I" : Cond) ∈ WS := mw 188 rfl rfl
set_option maxRecDepth 100000 in
theorem wm_215 : (.instanceMethod yX6_init : Cond) ∈ WS := mw 215 rfl rfl
set_option maxRecDepth 100000 in
theorem wm_216 : (.code yX6_init cX6_init 1 none : Cond) ∈ WS := mw 216 rfl rfl
set_option maxRecDepth 100000 in
theorem wm_217 : (.methodLink RX6 3 objectInit : Cond) ∈ WS := mw 217 rfl rfl
set_option maxRecDepth 100000 in
theorem wm_218 : (.fieldLink RX6 25 RX6 "count" "I" : Cond) ∈ WS := mw 218 rfl rfl
set_option maxRecDepth 100000 in
theorem wm_219 : (.fieldLink RX9 90 RX6 "count" "I" : Cond) ∈ WS := mw 219 rfl rfl
set_option maxRecDepth 100000 in
theorem wm_220 : (.fieldLink RX6 9 RX6 "steps" "[I" : Cond) ∈ WS := mw 220 rfl rfl
set_option maxRecDepth 100000 in
theorem wm_221 : (.fieldLink RX6 15 RX6 "coins" "[I" : Cond) ∈ WS := mw 221 rfl rfl
set_option maxRecDepth 100000 in
theorem wm_222 : (.fieldLink RX6 18 RX6 "wheres" "[I" : Cond) ∈ WS := mw 222 rfl rfl
set_option maxRecDepth 100000 in
theorem wm_223 : (.fieldLink RX6 21 RX6 "are" "[Z" : Cond) ∈ WS := mw 223 rfl rfl
set_option maxRecDepth 100000 in
theorem wm_239 : (.instanceMethod yX4_init : Cond) ∈ WS := mw 239 rfl rfl
set_option maxRecDepth 100000 in
theorem wm_240 : (.code yX4_init cX4_init 1 none : Cond) ∈ WS := mw 240 rfl rfl
set_option maxRecDepth 100000 in
theorem wm_241 : (.methodLink RX4 3 objectInit : Cond) ∈ WS := mw 241 rfl rfl
set_option maxRecDepth 100000 in
theorem wm_242 : (.fieldLink RX4 18 RX4 "count" "I" : Cond) ∈ WS := mw 242 rfl rfl
set_option maxRecDepth 100000 in
theorem wm_243 : (.fieldLink RX9 209 RX4 "count" "I" : Cond) ∈ WS := mw 243 rfl rfl
set_option maxRecDepth 100000 in
theorem wm_244 : (.fieldLink RX4 22 RX4 "fewestSteps" "I" : Cond) ∈ WS := mw 244 rfl rfl
set_option maxRecDepth 100000 in
theorem wm_245 : (.fieldLink RX9 210 RX4 "fewestSteps" "I" : Cond) ∈ WS := mw 245 rfl rfl
set_option maxRecDepth 100000 in
theorem wm_246 : (.fieldLink RX4 9 RX4 "first" "[I" : Cond) ∈ WS := mw 246 rfl rfl
set_option maxRecDepth 100000 in
theorem wm_247 : (.fieldLink RX9 213 RX4 "first" "[I" : Cond) ∈ WS := mw 247 rfl rfl
set_option maxRecDepth 100000 in
theorem wm_248 : (.fieldLink RX4 15 RX4 "order" "[I" : Cond) ∈ WS := mw 248 rfl rfl
set_option maxRecDepth 100000 in
theorem wm_261 : (.instanceMethod yX8_init : Cond) ∈ WS := mw 261 rfl rfl
set_option maxRecDepth 100000 in
theorem wm_262 : (.code yX8_init cX8_init 1 none : Cond) ∈ WS := mw 262 rfl rfl
set_option maxRecDepth 100000 in
theorem wm_263 : (.methodLink RX8 3 objectInit : Cond) ∈ WS := mw 263 rfl rfl
set_option maxRecDepth 100000 in
theorem wm_267 : (.instanceMethod yX7_init : Cond) ∈ WS := mw 267 rfl rfl
set_option maxRecDepth 100000 in
theorem wm_268 : (.code yX7_init cX7_init 1 none : Cond) ∈ WS := mw 268 rfl rfl
set_option maxRecDepth 100000 in
theorem wm_269 : (.methodLink RX7 3 objectInit : Cond) ∈ WS := mw 269 rfl rfl
set_option maxRecDepth 100000 in
theorem wm_270 : (.fieldLink RX7 9 RX7 "bytes" "[B" : Cond) ∈ WS := mw 270 rfl rfl
set_option maxRecDepth 100000 in
theorem wm_271 : (.fieldLink RX8 159 RX7 "bytes" "[B" : Cond) ∈ WS := mw 271 rfl rfl
set_option maxRecDepth 100000 in
theorem wm_272 : (.fieldLink RX9 59 RX7 "length" "I" : Cond) ∈ WS := mw 272 rfl rfl
set_option maxRecDepth 100000 in
theorem wm_273 : (.fieldLink RX7 15 RX7 "length" "I" : Cond) ∈ WS := mw 273 rfl rfl
set_option maxRecDepth 100000 in
theorem wm_274 : (.fieldLink RX8 58 RX7 "length" "I" : Cond) ∈ WS := mw 274 rfl rfl
set_option maxRecDepth 100000 in
theorem wm_282 : (.methodLink RX8 20 yX0_init : Cond) ∈ WS := mw 282 rfl rfl
set_option maxRecDepth 100000 in
theorem wm_283 : (.fieldLink RX8 12 RX8 "tape" "LCrabMint$Tape;" : Cond) ∈ WS := mw 283 rfl rfl
set_option maxRecDepth 100000 in
theorem wm_284 : (.fieldLink RX9 40 RX8 "tape" "LCrabMint$Tape;" : Cond) ∈ WS := mw 284 rfl rfl
set_option maxRecDepth 100000 in
theorem wm_285 : (.fieldLink RX8 21 RX8 "told" "LCrabMint$Beach;" : Cond) ∈ WS := mw 285 rfl rfl
set_option maxRecDepth 100000 in
theorem wm_286 : (.fieldLink RX9 83 RX8 "told" "LCrabMint$Beach;" : Cond) ∈ WS := mw 286 rfl rfl
set_option maxRecDepth 100000 in
theorem wm_287 : (.fieldLink RX8 28 RX8 "fault" "I" : Cond) ∈ WS := mw 287 rfl rfl
set_option maxRecDepth 100000 in
theorem wm_288 : (.fieldLink RX9 77 RX8 "fault" "I" : Cond) ∈ WS := mw 288 rfl rfl
set_option maxRecDepth 100000 in
theorem wm_289 : (.fieldLink RX8 32 RX8 "faultPlace" "I" : Cond) ∈ WS := mw 289 rfl rfl
set_option maxRecDepth 100000 in
theorem wm_290 : (.fieldLink RX9 80 RX8 "faultPlace" "I" : Cond) ∈ WS := mw 290 rfl rfl
set_option maxRecDepth 100000 in
theorem wm_291 : (.fieldLink RX8 35 RX8 "placesTold" "Z" : Cond) ∈ WS := mw 291 rfl rfl
set_option maxRecDepth 100000 in
theorem wm_292 : (.fieldLink RX8 39 RX8 "tideTold" "Z" : Cond) ∈ WS := mw 292 rfl rfl
set_option maxRecDepth 100000 in
theorem wm_293 : (.fieldLink RX8 49 RX8 "kind" "I" : Cond) ∈ WS := mw 293 rfl rfl
set_option maxRecDepth 100000 in
theorem wm_294 : (.fieldLink RX8 94 RX8 "from" "I" : Cond) ∈ WS := mw 294 rfl rfl
set_option maxRecDepth 100000 in
theorem wm_295 : (.fieldLink RX8 42 RX8 "to" "I" : Cond) ∈ WS := mw 295 rfl rfl
set_option maxRecDepth 100000 in
theorem wm_296 : (.fieldLink RX8 100 RX8 "value" "I" : Cond) ∈ WS := mw 296 rfl rfl
set_option maxRecDepth 100000 in
theorem wm_324 : (.instanceMethod yX3_init : Cond) ∈ WS := mw 324 rfl rfl
set_option maxRecDepth 100000 in
theorem wm_325 : (.code yX3_init cX3_init 1 none : Cond) ∈ WS := mw 325 rfl rfl
set_option maxRecDepth 100000 in
theorem wm_326 : (.methodLink RX3 1 objectInit : Cond) ∈ WS := mw 326 rfl rfl
set_option maxRecDepth 100000 in
theorem wm_328 : (.methodLink RX3 9 yX0_init : Cond) ∈ WS := mw 328 rfl rfl
set_option maxRecDepth 100000 in
theorem wm_331 : (.fieldLink RX3 23 RX3 "kept" "Z" : Cond) ∈ WS := mw 331 rfl rfl
set_option maxRecDepth 100000 in
theorem wm_332 : (.fieldLink RX9 93 RX3 "kept" "Z" : Cond) ∈ WS := mw 332 rfl rfl
set_option maxRecDepth 100000 in
theorem wm_333 : (.fieldLink RX3 10 RX3 "beach" "LCrabMint$Beach;" : Cond) ∈ WS := mw 333 rfl rfl
set_option maxRecDepth 100000 in
theorem wm_334 : (.fieldLink RX9 256 RX3 "beach" "LCrabMint$Beach;" : Cond) ∈ WS := mw 334 rfl rfl
set_option maxRecDepth 100000 in
theorem wm_335 : (.fieldLink RX3 19 RX3 "sights" "LCrabMint$Sights;" : Cond) ∈ WS := mw 335 rfl rfl
set_option maxRecDepth 100000 in
theorem wm_336 : (.fieldLink RX9 259 RX3 "sights" "LCrabMint$Sights;" : Cond) ∈ WS := mw 336 rfl rfl
set_option maxRecDepth 100000 in
theorem wm_346 : (.instanceMethod yX5_init : Cond) ∈ WS := mw 346 rfl rfl
set_option maxRecDepth 100000 in
theorem wm_347 : (.code yX5_init cX5_init 1 none : Cond) ∈ WS := mw 347 rfl rfl
set_option maxRecDepth 100000 in
theorem wm_348 : (.methodLink RX5 3 objectInit : Cond) ∈ WS := mw 348 rfl rfl
set_option maxRecDepth 100000 in
theorem wm_349 : (.fieldLink RX5 9 RX5 "cells" "[I" : Cond) ∈ WS := mw 349 rfl rfl
set_option maxRecDepth 100000 in
theorem wm_350 : (.fieldLink RX9 281 RX5 "cells" "[I" : Cond) ∈ WS := mw 350 rfl rfl
set_option maxRecDepth 100000 in
theorem wm_351 : (.fieldLink RX5 15 RX5 "lane" "I" : Cond) ∈ WS := mw 351 rfl rfl
set_option maxRecDepth 100000 in
theorem wm_352 : (.fieldLink RX9 290 RX5 "lane" "I" : Cond) ∈ WS := mw 352 rfl rfl
set_option maxRecDepth 100000 in
theorem wm_353 : (.fieldLink RX5 19 RX5 "length" "I" : Cond) ∈ WS := mw 353 rfl rfl
set_option maxRecDepth 100000 in
theorem wm_354 : (.fieldLink RX9 293 RX5 "length" "I" : Cond) ∈ WS := mw 354 rfl rfl
set_option maxRecDepth 100000 in
theorem wm_362 : (.fieldLink RX9 10 RX9 "now" "LCrabMint$Beach;" : Cond) ∈ WS := mw 362 rfl rfl
set_option maxRecDepth 100000 in
theorem wm_363 : (.fieldLink RX9 16 RX9 "trial" "LCrabMint$Beach;" : Cond) ∈ WS := mw 363 rfl rfl
set_option maxRecDepth 100000 in
theorem wm_364 : (.fieldLink RX9 22 RX9 "sights" "LCrabMint$Sights;" : Cond) ∈ WS := mw 364 rfl rfl
set_option maxRecDepth 100000 in
theorem wm_365 : (.fieldLink RX9 29 RX9 "tried" "LCrabMint$Orders;" : Cond) ∈ WS := mw 365 rfl rfl
set_option maxRecDepth 100000 in
theorem wm_366 : (.fieldLink RX9 36 RX9 "teller" "LCrabMint$Teller;" : Cond) ∈ WS := mw 366 rfl rfl
set_option maxRecDepth 100000 in
theorem wm_367 : (.fieldLink RX9 44 RX9 "tape" "LCrabMint$Tape;" : Cond) ∈ WS := mw 367 rfl rfl
set_option maxRecDepth 100000 in
theorem wm_368 : (.fieldLink RX9 47 RX9 "images" "[LCrabMint$Image;" : Cond) ∈ WS := mw 368 rfl rfl
set_option maxRecDepth 100000 in
theorem wm_369 : (.fieldLink RX9 53 RX9 "sheets" "[LCrabMint$Sheet;" : Cond) ∈ WS := mw 369 rfl rfl
set_option maxRecDepth 100000 in
theorem wm_370 : (.fieldLink RX9 287 RX9 "tornBy" "I" : Cond) ∈ WS := mw 370 rfl rfl
set_option maxRecDepth 100000 in
theorem wm_390 : (.methodLink RL 15 yX9_feed : Cond) ∈ WS := mw 390 rfl rfl
set_option maxRecDepth 100000 in
theorem wm_391 : (.instanceMethod yX9_feed : Cond) ∈ WS := mw 391 rfl rfl
set_option maxRecDepth 100000 in
theorem wm_392 : (.selects RX9 yX9_feed yX9_feed : Cond) ∈ WS := mw 392 rfl rfl
set_option maxRecDepth 100000 in
theorem wm_393 : (.code yX9_feed cX9_feed 3 (some .int) : Cond) ∈ WS := mw 393 rfl rfl
set_option maxRecDepth 100000 in
theorem wm_394 : (.methodLink RX9 65 yX7_append : Cond) ∈ WS := mw 394 rfl rfl
set_option maxRecDepth 100000 in
theorem wm_395 : (.instanceMethod yX7_append : Cond) ∈ WS := mw 395 rfl rfl
set_option maxRecDepth 100000 in
theorem wm_396 : (.selects RX7 yX7_append yX7_append : Cond) ∈ WS := mw 396 rfl rfl
set_option maxRecDepth 100000 in
theorem wm_397 : (.code yX7_append cX7_append 4 none : Cond) ∈ WS := mw 397 rfl rfl
set_option maxRecDepth 100000 in
theorem wm_398 : (.methodLink RL 20 yX9_end : Cond) ∈ WS := mw 398 rfl rfl
set_option maxRecDepth 100000 in
theorem wm_399 : (.instanceMethod yX9_end : Cond) ∈ WS := mw 399 rfl rfl
set_option maxRecDepth 100000 in
theorem wm_400 : (.selects RX9 yX9_end yX9_end : Cond) ∈ WS := mw 400 rfl rfl
set_option maxRecDepth 100000 in
theorem wm_401 : (.code yX9_end cX9_end 3 (some .int) : Cond) ∈ WS := mw 401 rfl rfl
set_option maxRecDepth 100000 in
theorem wm_402 : (.methodLink RX9 69 yX9_within : Cond) ∈ WS := mw 402 rfl rfl
set_option maxRecDepth 100000 in
theorem wm_403 : (.static yX9_within : Cond) ∈ WS := mw 403 rfl rfl
set_option maxRecDepth 100000 in
theorem wm_404 : (.code yX9_within cX9_within 3 (some .boolean) : Cond) ∈ WS := mw 404 rfl rfl
set_option maxRecDepth 100000 in
theorem wm_405 : (.methodLink RL 25 yX9_text : Cond) ∈ WS := mw 405 rfl rfl
set_option maxRecDepth 100000 in
theorem wm_406 : (.instanceMethod yX9_text : Cond) ∈ WS := mw 406 rfl rfl
set_option maxRecDepth 100000 in
theorem wm_407 : (.selects RX9 yX9_text yX9_text : Cond) ∈ WS := mw 407 rfl rfl
set_option maxRecDepth 100000 in
theorem wm_408 : (.code yX9_text cX9_text 3 (some .int) : Cond) ∈ WS := mw 408 rfl rfl
set_option maxRecDepth 100000 in
theorem wm_409 : (.methodLink RX9 73 yX8_tellAll : Cond) ∈ WS := mw 409 rfl rfl
set_option maxRecDepth 100000 in
theorem wm_410 : (.instanceMethod yX8_tellAll : Cond) ∈ WS := mw 410 rfl rfl
set_option maxRecDepth 100000 in
theorem wm_411 : (.selects RX8 yX8_tellAll yX8_tellAll : Cond) ∈ WS := mw 411 rfl rfl
set_option maxRecDepth 100000 in
theorem wm_412 : (.code yX8_tellAll cX8_tellAll 2 (some .int) : Cond) ∈ WS := mw 412 rfl rfl
set_option maxRecDepth 100000 in
theorem wm_413 : (.methodLink RX8 25 yX0_clear : Cond) ∈ WS := mw 413 rfl rfl
set_option maxRecDepth 100000 in
theorem wm_414 : (.instanceMethod yX0_clear : Cond) ∈ WS := mw 414 rfl rfl
set_option maxRecDepth 100000 in
theorem wm_415 : (.selects RX0 yX0_clear yX0_clear : Cond) ∈ WS := mw 415 rfl rfl
set_option maxRecDepth 100000 in
theorem wm_416 : (.code yX0_clear cX0_clear 2 none : Cond) ∈ WS := mw 416 rfl rfl
set_option maxRecDepth 100000 in
theorem wm_417 : (.methodLink RX8 45 yX8_takeToken : Cond) ∈ WS := mw 417 rfl rfl
set_option maxRecDepth 100000 in
theorem wm_419 : (.instanceMethod yX8_takeToken : Cond) ∈ WS := mw 419 rfl rfl
set_option maxRecDepth 100000 in
theorem wm_420 : (.code yX8_takeToken cX8_takeToken 3 (some .boolean) : Cond) ∈ WS := mw 420 rfl rfl
set_option maxRecDepth 100000 in
theorem wm_421 : (.methodLink RX8 167 yX8_kindOf : Cond) ∈ WS := mw 421 rfl rfl
set_option maxRecDepth 100000 in
theorem wm_422 : (.static yX8_kindOf : Cond) ∈ WS := mw 422 rfl rfl
set_option maxRecDepth 100000 in
theorem wm_423 : (.code yX8_kindOf cX8_kindOf 1 (some .int) : Cond) ∈ WS := mw 423 rfl rfl
set_option maxRecDepth 100000 in
theorem wm_424 : (.methodLink RX8 61 yX8_refuse : Cond) ∈ WS := mw 424 rfl rfl
set_option maxRecDepth 100000 in
theorem wm_426 : (.instanceMethod yX8_refuse : Cond) ∈ WS := mw 426 rfl rfl
set_option maxRecDepth 100000 in
theorem wm_427 : (.code yX8_refuse cX8_refuse 3 (some .boolean) : Cond) ∈ WS := mw 427 rfl rfl
set_option maxRecDepth 100000 in
theorem wm_428 : (.methodLink RX8 52 yX8_takeLine : Cond) ∈ WS := mw 428 rfl rfl
set_option maxRecDepth 100000 in
theorem wm_430 : (.instanceMethod yX8_takeLine : Cond) ∈ WS := mw 430 rfl rfl
set_option maxRecDepth 100000 in
theorem wm_431 : (.code yX8_takeLine cX8_takeLine 1 (some .boolean) : Cond) ∈ WS := mw 431 rfl rfl
set_option maxRecDepth 100000 in
theorem wm_433 : (.methodLink RX8 67 yX8_isName : Cond) ∈ WS := mw 433 rfl rfl
set_option maxRecDepth 100000 in
theorem wm_435 : (.instanceMethod yX8_isName : Cond) ∈ WS := mw 435 rfl rfl
set_option maxRecDepth 100000 in
theorem wm_436 : (.code yX8_isName cX8_isName 3 (some .boolean) : Cond) ∈ WS := mw 436 rfl rfl
set_option maxRecDepth 100000 in
theorem wm_437 : (.methodLink RX8 154 yJ0_length_8abf5 : Cond) ∈ WS := mw 437 rfl rfl
set_option maxRecDepth 100000 in
theorem wm_438 : (.instanceMethod yJ0_length_8abf5 : Cond) ∈ WS := mw 438 rfl rfl
set_option maxRecDepth 100000 in
theorem wm_439 : (.selects RJ0 yJ0_length_8abf5 yJ0_length_8abf5 : Cond) ∈ WS := mw 439 rfl rfl
set_option maxRecDepth 100000 in
theorem wm_440 : (.code yJ0_length_8abf5 cJ0_length_8abf5 1 (some .int) : Cond) ∈ WS := mw 440 rfl rfl
set_option maxRecDepth 100000 in
theorem wm_441 : (.methodLink RJ0 335 yJ0_coder_7d493 : Cond) ∈ WS := mw 441 rfl rfl
set_option maxRecDepth 100000 in
theorem wm_442 : (.instanceMethod yJ0_coder_7d493 : Cond) ∈ WS := mw 442 rfl rfl
set_option maxRecDepth 100000 in
theorem wm_443 : (.selects RJ0 yJ0_coder_7d493 yJ0_coder_7d493 : Cond) ∈ WS := mw 443 rfl rfl
set_option maxRecDepth 100000 in
theorem wm_444 : (.code yJ0_coder_7d493 cJ0_coder_7d493 1 (some .byte) : Cond) ∈ WS := mw 444 rfl rfl
set_option maxRecDepth 100000 in
theorem wm_445 : (.fieldLink RJ0 38 RJ0 "COMPACT_STRINGS" "Z" : Cond) ∈ WS := mw 445 rfl rfl
set_option maxRecDepth 100000 in
theorem wm_447 : (.methodLink RX8 163 yJ0_charAt_5068e : Cond) ∈ WS := mw 447 rfl rfl
set_option maxRecDepth 100000 in
theorem wm_448 : (.instanceMethod yJ0_charAt_5068e : Cond) ∈ WS := mw 448 rfl rfl
set_option maxRecDepth 100000 in
theorem wm_449 : (.selects RJ0 yJ0_charAt_5068e yJ0_charAt_5068e : Cond) ∈ WS := mw 449 rfl rfl
set_option maxRecDepth 100000 in
theorem wm_450 : (.code yJ0_charAt_5068e cJ0_charAt_5068e 2 (some .char) : Cond) ∈ WS := mw 450 rfl rfl
set_option maxRecDepth 100000 in
theorem wm_451 : (.methodLink RJ0 492 yJ0_isLatin1_aae02 : Cond) ∈ WS := mw 451 rfl rfl
set_option maxRecDepth 100000 in
theorem wm_452 : (.instanceMethod yJ0_isLatin1_aae02 : Cond) ∈ WS := mw 452 rfl rfl
set_option maxRecDepth 100000 in
theorem wm_453 : (.selects RJ0 yJ0_isLatin1_aae02 yJ0_isLatin1_aae02 : Cond) ∈ WS := mw 453 rfl rfl
set_option maxRecDepth 100000 in
theorem wm_454 : (.code yJ0_isLatin1_aae02 cJ0_isLatin1_aae02 1 (some .boolean) : Cond) ∈ WS := mw 454 rfl rfl
set_option maxRecDepth 100000 in
theorem wm_455 : (.methodLink RJ0 495 yJ1_charAt_3b067 : Cond) ∈ WS := mw 455 rfl rfl
set_option maxRecDepth 100000 in
theorem wm_456 : (.static yJ1_charAt_3b067 : Cond) ∈ WS := mw 456 rfl rfl
set_option maxRecDepth 100000 in
theorem wm_457 : (.code yJ1_charAt_3b067 cJ1_charAt_3b067 2 (some .char) : Cond) ∈ WS := mw 457 rfl rfl
set_option maxRecDepth 100000 in
theorem wm_458 : (.methodLink RJ1 9 yJ0_checkIndex_df160 : Cond) ∈ WS := mw 458 rfl rfl
set_option maxRecDepth 100000 in
theorem wm_459 : (.static yJ0_checkIndex_df160 : Cond) ∈ WS := mw 459 rfl rfl
set_option maxRecDepth 100000 in
theorem wm_460 : (.code yJ0_checkIndex_df160 cJ0_checkIndex_df160 2 none : Cond) ∈ WS := mw 460 rfl rfl
set_option maxRecDepth 100000 in
theorem wm_461 : (.fieldLink RJ0 1053 RJ3 "SIOOBE_FORMATTER" "Ljava/util/function/BiFunction;" : Cond) ∈ WS := mw 461 rfl rfl
set_option maxRecDepth 100000 in
theorem wm_463 : (.methodLink RJ0 1059 yJ3_checkIndex_8e157 : Cond) ∈ WS := mw 463 rfl rfl
set_option maxRecDepth 100000 in
theorem wm_464 : (.static yJ3_checkIndex_8e157 : Cond) ∈ WS := mw 464 rfl rfl
set_option maxRecDepth 100000 in
theorem wm_465 : (.code yJ3_checkIndex_8e157 cJ3_checkIndex_8e157 3 (some .int) : Cond) ∈ WS := mw 465 rfl rfl
set_option maxRecDepth 100000 in
theorem wm_466 : (.methodLink RJ0 498 yJ2_charAt_3b067 : Cond) ∈ WS := mw 466 rfl rfl
set_option maxRecDepth 100000 in
theorem wm_467 : (.static yJ2_charAt_3b067 : Cond) ∈ WS := mw 467 rfl rfl
set_option maxRecDepth 100000 in
theorem wm_468 : (.code yJ2_charAt_3b067 cJ2_charAt_3b067 2 (some .char) : Cond) ∈ WS := mw 468 rfl rfl
set_option maxRecDepth 100000 in
theorem wm_469 : (.methodLink RJ2 67 yJ2_checkIndex_2214a : Cond) ∈ WS := mw 469 rfl rfl
set_option maxRecDepth 100000 in
theorem wm_470 : (.static yJ2_checkIndex_2214a : Cond) ∈ WS := mw 470 rfl rfl
set_option maxRecDepth 100000 in
theorem wm_471 : (.code yJ2_checkIndex_2214a cJ2_checkIndex_2214a 2 none : Cond) ∈ WS := mw 471 rfl rfl
set_option maxRecDepth 100000 in
theorem wm_472 : (.methodLink RJ2 48 yJ2_length_9d52b : Cond) ∈ WS := mw 472 rfl rfl
set_option maxRecDepth 100000 in
theorem wm_473 : (.static yJ2_length_9d52b : Cond) ∈ WS := mw 473 rfl rfl
set_option maxRecDepth 100000 in
theorem wm_474 : (.code yJ2_length_9d52b cJ2_length_9d52b 1 (some .int) : Cond) ∈ WS := mw 474 rfl rfl
set_option maxRecDepth 100000 in
theorem wm_475 : (.methodLink RJ2 414 yJ0_checkIndex_df160 : Cond) ∈ WS := mw 475 rfl rfl
set_option maxRecDepth 100000 in
theorem wm_476 : (.methodLink RJ2 71 yJ2_getChar_3b067 : Cond) ∈ WS := mw 476 rfl rfl
set_option maxRecDepth 100000 in
theorem wm_477 : (.static yJ2_getChar_3b067 : Cond) ∈ WS := mw 477 rfl rfl
set_option maxRecDepth 100000 in
theorem wm_478 : (.code yJ2_getChar_3b067 cJ2_getChar_3b067 2 (some .char) : Cond) ∈ WS := mw 478 rfl rfl
set_option maxRecDepth 100000 in
theorem wm_479 : (.fieldLink RJ2 44 RJ2 "$assertionsDisabled" "Z" : Cond) ∈ WS := mw 479 rfl rfl
set_option maxRecDepth 100000 in
theorem wm_481 : (.fieldLink RJ2 59 RJ2 "HI_BYTE_SHIFT" "I" : Cond) ∈ WS := mw 481 rfl rfl
set_option maxRecDepth 100000 in
theorem wm_483 : (.fieldLink RJ2 63 RJ2 "LO_BYTE_SHIFT" "I" : Cond) ∈ WS := mw 483 rfl rfl
set_option maxRecDepth 100000 in
theorem wm_485 : (.methodLink RX8 71 yX8_takePlaces : Cond) ∈ WS := mw 485 rfl rfl
set_option maxRecDepth 100000 in
theorem wm_487 : (.instanceMethod yX8_takePlaces : Cond) ∈ WS := mw 487 rfl rfl
set_option maxRecDepth 100000 in
theorem wm_488 : (.code yX8_takePlaces cX8_takePlaces 1 (some .boolean) : Cond) ∈ WS := mw 488 rfl rfl
set_option maxRecDepth 100000 in
theorem wm_489 : (.methodLink RX8 97 yX8_takeNumber : Cond) ∈ WS := mw 489 rfl rfl
set_option maxRecDepth 100000 in
theorem wm_491 : (.instanceMethod yX8_takeNumber : Cond) ∈ WS := mw 491 rfl rfl
set_option maxRecDepth 100000 in
theorem wm_492 : (.code yX8_takeNumber cX8_takeNumber 3 (some .boolean) : Cond) ∈ WS := mw 492 rfl rfl
set_option maxRecDepth 100000 in
theorem wm_494 : (.methodLink RX8 105 yX8_endsLine : Cond) ∈ WS := mw 494 rfl rfl
set_option maxRecDepth 100000 in
theorem wm_496 : (.instanceMethod yX8_endsLine : Cond) ∈ WS := mw 496 rfl rfl
set_option maxRecDepth 100000 in
theorem wm_497 : (.code yX8_endsLine cX8_endsLine 1 (some .boolean) : Cond) ∈ WS := mw 497 rfl rfl
set_option maxRecDepth 100000 in
theorem wm_499 : (.methodLink RX8 76 yX8_takeHole : Cond) ∈ WS := mw 499 rfl rfl
set_option maxRecDepth 100000 in
theorem wm_501 : (.instanceMethod yX8_takeHole : Cond) ∈ WS := mw 501 rfl rfl
set_option maxRecDepth 100000 in
theorem wm_502 : (.code yX8_takeHole cX8_takeHole 2 (some .boolean) : Cond) ∈ WS := mw 502 rfl rfl
set_option maxRecDepth 100000 in
theorem wm_504 : (.methodLink RX8 81 yX8_takeCoin : Cond) ∈ WS := mw 504 rfl rfl
set_option maxRecDepth 100000 in
theorem wm_506 : (.instanceMethod yX8_takeCoin : Cond) ∈ WS := mw 506 rfl rfl
set_option maxRecDepth 100000 in
theorem wm_507 : (.code yX8_takeCoin cX8_takeCoin 3 (some .boolean) : Cond) ∈ WS := mw 507 rfl rfl
set_option maxRecDepth 100000 in
theorem wm_508 : (.methodLink RX8 115 yX0_addCoin : Cond) ∈ WS := mw 508 rfl rfl
set_option maxRecDepth 100000 in
theorem wm_509 : (.instanceMethod yX0_addCoin : Cond) ∈ WS := mw 509 rfl rfl
set_option maxRecDepth 100000 in
theorem wm_510 : (.selects RX0 yX0_addCoin yX0_addCoin : Cond) ∈ WS := mw 510 rfl rfl
set_option maxRecDepth 100000 in
theorem wm_511 : (.code yX0_addCoin cX0_addCoin 4 none : Cond) ∈ WS := mw 511 rfl rfl
set_option maxRecDepth 100000 in
theorem wm_514 : (.methodLink RX8 86 yX8_takeCrab : Cond) ∈ WS := mw 514 rfl rfl
set_option maxRecDepth 100000 in
theorem wm_516 : (.instanceMethod yX8_takeCrab : Cond) ∈ WS := mw 516 rfl rfl
set_option maxRecDepth 100000 in
theorem wm_517 : (.code yX8_takeCrab cX8_takeCrab 4 (some .boolean) : Cond) ∈ WS := mw 517 rfl rfl
set_option maxRecDepth 100000 in
theorem wm_521 : (.static yX9_asNumber : Cond) ∈ WS := mw 521 rfl rfl
set_option maxRecDepth 100000 in
theorem wm_522 : (.code yX9_asNumber cX9_asNumber 1 (some .int) : Cond) ∈ WS := mw 522 rfl rfl
set_option maxRecDepth 100000 in
theorem wm_523 : (.methodLink RX8 141 yX0_addCrab : Cond) ∈ WS := mw 523 rfl rfl
set_option maxRecDepth 100000 in
theorem wm_524 : (.instanceMethod yX0_addCrab : Cond) ∈ WS := mw 524 rfl rfl
set_option maxRecDepth 100000 in
theorem wm_525 : (.selects RX0 yX0_addCrab yX0_addCrab : Cond) ∈ WS := mw 525 rfl rfl
set_option maxRecDepth 100000 in
theorem wm_526 : (.code yX0_addCrab cX0_addCrab 6 none : Cond) ∈ WS := mw 526 rfl rfl
set_option maxRecDepth 100000 in
theorem wm_528 : (.methodLink RX8 91 yX8_takeTide : Cond) ∈ WS := mw 528 rfl rfl
set_option maxRecDepth 100000 in
theorem wm_530 : (.instanceMethod yX8_takeTide : Cond) ∈ WS := mw 530 rfl rfl
set_option maxRecDepth 100000 in
theorem wm_531 : (.code yX8_takeTide cX8_takeTide 1 (some .boolean) : Cond) ∈ WS := mw 531 rfl rfl
set_option maxRecDepth 100000 in
theorem wm_532 : (.methodLink RX8 55 yX0_hasItsPlaces : Cond) ∈ WS := mw 532 rfl rfl
set_option maxRecDepth 100000 in
theorem wm_533 : (.instanceMethod yX0_hasItsPlaces : Cond) ∈ WS := mw 533 rfl rfl
set_option maxRecDepth 100000 in
theorem wm_534 : (.selects RX0 yX0_hasItsPlaces yX0_hasItsPlaces : Cond) ∈ WS := mw 534 rfl rfl
set_option maxRecDepth 100000 in
theorem wm_535 : (.code yX0_hasItsPlaces cX0_hasItsPlaces 2 (some .boolean) : Cond) ∈ WS := mw 535 rfl rfl
set_option maxRecDepth 100000 in
theorem wm_536 : (.methodLink RX9 86 yX0_copyFrom : Cond) ∈ WS := mw 536 rfl rfl
set_option maxRecDepth 100000 in
theorem wm_537 : (.instanceMethod yX0_copyFrom : Cond) ∈ WS := mw 537 rfl rfl
set_option maxRecDepth 100000 in
theorem wm_538 : (.selects RX0 yX0_copyFrom yX0_copyFrom : Cond) ∈ WS := mw 538 rfl rfl
set_option maxRecDepth 100000 in
theorem wm_539 : (.code yX0_copyFrom cX0_copyFrom 3 none : Cond) ∈ WS := mw 539 rfl rfl
set_option maxRecDepth 100000 in
theorem wm_540 : (.methodLink RX0 54 yX1_copyFrom : Cond) ∈ WS := mw 540 rfl rfl
set_option maxRecDepth 100000 in
theorem wm_541 : (.instanceMethod yX1_copyFrom : Cond) ∈ WS := mw 541 rfl rfl
set_option maxRecDepth 100000 in
theorem wm_542 : (.selects RX1 yX1_copyFrom yX1_copyFrom : Cond) ∈ WS := mw 542 rfl rfl
set_option maxRecDepth 100000 in
theorem wm_543 : (.code yX1_copyFrom cX1_copyFrom 2 none : Cond) ∈ WS := mw 543 rfl rfl
set_option maxRecDepth 100000 in
theorem wm_544 : (.methodLink RX0 58 yX2_copyFrom : Cond) ∈ WS := mw 544 rfl rfl
set_option maxRecDepth 100000 in
theorem wm_545 : (.instanceMethod yX2_copyFrom : Cond) ∈ WS := mw 545 rfl rfl
set_option maxRecDepth 100000 in
theorem wm_546 : (.selects RX2 yX2_copyFrom yX2_copyFrom : Cond) ∈ WS := mw 546 rfl rfl
set_option maxRecDepth 100000 in
theorem wm_547 : (.code yX2_copyFrom cX2_copyFrom 2 none : Cond) ∈ WS := mw 547 rfl rfl
set_option maxRecDepth 100000 in
theorem wm_548 : (.methodLink RL 30 yX9_fault : Cond) ∈ WS := mw 548 rfl rfl
set_option maxRecDepth 100000 in
theorem wm_549 : (.instanceMethod yX9_fault : Cond) ∈ WS := mw 549 rfl rfl
set_option maxRecDepth 100000 in
theorem wm_550 : (.selects RX9 yX9_fault yX9_fault : Cond) ∈ WS := mw 550 rfl rfl
set_option maxRecDepth 100000 in
theorem wm_551 : (.code yX9_fault cX9_fault 1 (some .int) : Cond) ∈ WS := mw 551 rfl rfl
set_option maxRecDepth 100000 in
theorem wm_552 : (.methodLink RL 34 yX9_rule : Cond) ∈ WS := mw 552 rfl rfl
set_option maxRecDepth 100000 in
theorem wm_553 : (.instanceMethod yX9_rule : Cond) ∈ WS := mw 553 rfl rfl
set_option maxRecDepth 100000 in
theorem wm_554 : (.selects RX9 yX9_rule yX9_rule : Cond) ∈ WS := mw 554 rfl rfl
set_option maxRecDepth 100000 in
theorem wm_555 : (.code yX9_rule cX9_rule 2 (some .int) : Cond) ∈ WS := mw 555 rfl rfl
set_option maxRecDepth 100000 in
theorem wm_556 : (.methodLink RL 38 yX9_hole : Cond) ∈ WS := mw 556 rfl rfl
set_option maxRecDepth 100000 in
theorem wm_557 : (.instanceMethod yX9_hole : Cond) ∈ WS := mw 557 rfl rfl
set_option maxRecDepth 100000 in
theorem wm_558 : (.selects RX9 yX9_hole yX9_hole : Cond) ∈ WS := mw 558 rfl rfl
set_option maxRecDepth 100000 in
theorem wm_559 : (.code yX9_hole cX9_hole 2 (some .int) : Cond) ∈ WS := mw 559 rfl rfl
set_option maxRecDepth 100000 in
theorem wm_560 : (.methodLink RX9 115 yX9_isPlace : Cond) ∈ WS := mw 560 rfl rfl
set_option maxRecDepth 100000 in
theorem wm_562 : (.instanceMethod yX9_isPlace : Cond) ∈ WS := mw 562 rfl rfl
set_option maxRecDepth 100000 in
theorem wm_563 : (.code yX9_isPlace cX9_isPlace 2 (some .boolean) : Cond) ∈ WS := mw 563 rfl rfl
set_option maxRecDepth 100000 in
theorem wm_564 : (.methodLink RL 42 yX9_coin : Cond) ∈ WS := mw 564 rfl rfl
set_option maxRecDepth 100000 in
theorem wm_565 : (.instanceMethod yX9_coin : Cond) ∈ WS := mw 565 rfl rfl
set_option maxRecDepth 100000 in
theorem wm_566 : (.selects RX9 yX9_coin yX9_coin : Cond) ∈ WS := mw 566 rfl rfl
set_option maxRecDepth 100000 in
theorem wm_567 : (.code yX9_coin cX9_coin 4 (some .int) : Cond) ∈ WS := mw 567 rfl rfl
set_option maxRecDepth 100000 in
theorem wm_568 : (.methodLink RX9 123 yX9_isCoin : Cond) ∈ WS := mw 568 rfl rfl
set_option maxRecDepth 100000 in
theorem wm_570 : (.instanceMethod yX9_isCoin : Cond) ∈ WS := mw 570 rfl rfl
set_option maxRecDepth 100000 in
theorem wm_571 : (.code yX9_isCoin cX9_isCoin 2 (some .boolean) : Cond) ∈ WS := mw 571 rfl rfl
set_option maxRecDepth 100000 in
theorem wm_572 : (.methodLink RX9 138 yX9_asNumber : Cond) ∈ WS := mw 572 rfl rfl
set_option maxRecDepth 100000 in
theorem wm_573 : (.methodLink RX9 145 yX0_isRight : Cond) ∈ WS := mw 573 rfl rfl
set_option maxRecDepth 100000 in
theorem wm_574 : (.instanceMethod yX0_isRight : Cond) ∈ WS := mw 574 rfl rfl
set_option maxRecDepth 100000 in
theorem wm_575 : (.selects RX0 yX0_isRight yX0_isRight : Cond) ∈ WS := mw 575 rfl rfl
set_option maxRecDepth 100000 in
theorem wm_576 : (.code yX0_isRight cX0_isRight 3 (some .boolean) : Cond) ∈ WS := mw 576 rfl rfl
set_option maxRecDepth 100000 in
theorem wm_577 : (.methodLink RX0 90 yX0_rightPlace : Cond) ∈ WS := mw 577 rfl rfl
set_option maxRecDepth 100000 in
theorem wm_578 : (.instanceMethod yX0_rightPlace : Cond) ∈ WS := mw 578 rfl rfl
set_option maxRecDepth 100000 in
theorem wm_579 : (.selects RX0 yX0_rightPlace yX0_rightPlace : Cond) ∈ WS := mw 579 rfl rfl
set_option maxRecDepth 100000 in
theorem wm_580 : (.code yX0_rightPlace cX0_rightPlace 4 (some .int) : Cond) ∈ WS := mw 580 rfl rfl
set_option maxRecDepth 100000 in
theorem wm_581 : (.methodLink RL 47 yX9_crab : Cond) ∈ WS := mw 581 rfl rfl
set_option maxRecDepth 100000 in
theorem wm_582 : (.instanceMethod yX9_crab : Cond) ∈ WS := mw 582 rfl rfl
set_option maxRecDepth 100000 in
theorem wm_583 : (.selects RX9 yX9_crab yX9_crab : Cond) ∈ WS := mw 583 rfl rfl
set_option maxRecDepth 100000 in
theorem wm_584 : (.code yX9_crab cX9_crab 4 (some .int) : Cond) ∈ WS := mw 584 rfl rfl
set_option maxRecDepth 100000 in
theorem wm_585 : (.methodLink RX9 149 yX9_isCrab : Cond) ∈ WS := mw 585 rfl rfl
set_option maxRecDepth 100000 in
theorem wm_587 : (.instanceMethod yX9_isCrab : Cond) ∈ WS := mw 587 rfl rfl
set_option maxRecDepth 100000 in
theorem wm_588 : (.code yX9_isCrab cX9_isCrab 2 (some .boolean) : Cond) ∈ WS := mw 588 rfl rfl
set_option maxRecDepth 100000 in
theorem wm_589 : (.methodLink RX9 170 yX2_holds : Cond) ∈ WS := mw 589 rfl rfl
set_option maxRecDepth 100000 in
theorem wm_590 : (.instanceMethod yX2_holds : Cond) ∈ WS := mw 590 rfl rfl
set_option maxRecDepth 100000 in
theorem wm_591 : (.selects RX2 yX2_holds yX2_holds : Cond) ∈ WS := mw 591 rfl rfl
set_option maxRecDepth 100000 in
theorem wm_592 : (.code yX2_holds cX2_holds 1 (some .boolean) : Cond) ∈ WS := mw 592 rfl rfl
set_option maxRecDepth 100000 in
theorem wm_593 : (.methodLink RL 51 yX9_dig : Cond) ∈ WS := mw 593 rfl rfl
set_option maxRecDepth 100000 in
theorem wm_594 : (.instanceMethod yX9_dig : Cond) ∈ WS := mw 594 rfl rfl
set_option maxRecDepth 100000 in
theorem wm_595 : (.selects RX9 yX9_dig yX9_dig : Cond) ∈ WS := mw 595 rfl rfl
set_option maxRecDepth 100000 in
theorem wm_596 : (.code yX9_dig cX9_dig 4 (some .int) : Cond) ∈ WS := mw 596 rfl rfl
set_option maxRecDepth 100000 in
theorem wm_597 : (.methodLink RX9 177 yX0_countBetween : Cond) ∈ WS := mw 597 rfl rfl
set_option maxRecDepth 100000 in
theorem wm_598 : (.instanceMethod yX0_countBetween : Cond) ∈ WS := mw 598 rfl rfl
set_option maxRecDepth 100000 in
theorem wm_599 : (.selects RX0 yX0_countBetween yX0_countBetween : Cond) ∈ WS := mw 599 rfl rfl
set_option maxRecDepth 100000 in
theorem wm_600 : (.code yX0_countBetween cX0_countBetween 5 (some .int) : Cond) ∈ WS := mw 600 rfl rfl
set_option maxRecDepth 100000 in
theorem wm_602 : (.methodLink RL 55 yX9_mint : Cond) ∈ WS := mw 602 rfl rfl
set_option maxRecDepth 100000 in
theorem wm_603 : (.instanceMethod yX9_mint : Cond) ∈ WS := mw 603 rfl rfl
set_option maxRecDepth 100000 in
theorem wm_604 : (.selects RX9 yX9_mint yX9_mint : Cond) ∈ WS := mw 604 rfl rfl
set_option maxRecDepth 100000 in
theorem wm_605 : (.code yX9_mint cX9_mint 3 (some .int) : Cond) ∈ WS := mw 605 rfl rfl
set_option maxRecDepth 100000 in
theorem wm_606 : (.methodLink RX9 181 yX0_addCoin : Cond) ∈ WS := mw 606 rfl rfl
set_option maxRecDepth 100000 in
theorem wm_607 : (.methodLink RL 59 yX9_lie : Cond) ∈ WS := mw 607 rfl rfl
set_option maxRecDepth 100000 in
theorem wm_608 : (.instanceMethod yX9_lie : Cond) ∈ WS := mw 608 rfl rfl
set_option maxRecDepth 100000 in
theorem wm_609 : (.selects RX9 yX9_lie yX9_lie : Cond) ∈ WS := mw 609 rfl rfl
set_option maxRecDepth 100000 in
theorem wm_610 : (.code yX9_lie cX9_lie 4 (some .int) : Cond) ∈ WS := mw 610 rfl rfl
set_option maxRecDepth 100000 in
theorem wm_611 : (.methodLink RX9 185 yX0_layDown : Cond) ∈ WS := mw 611 rfl rfl
set_option maxRecDepth 100000 in
theorem wm_612 : (.instanceMethod yX0_layDown : Cond) ∈ WS := mw 612 rfl rfl
set_option maxRecDepth 100000 in
theorem wm_613 : (.selects RX0 yX0_layDown yX0_layDown : Cond) ∈ WS := mw 613 rfl rfl
set_option maxRecDepth 100000 in
theorem wm_614 : (.code yX0_layDown cX0_layDown 4 none : Cond) ∈ WS := mw 614 rfl rfl
set_option maxRecDepth 100000 in
theorem wm_615 : (.methodLink RL 63 yX9_fake : Cond) ∈ WS := mw 615 rfl rfl
set_option maxRecDepth 100000 in
theorem wm_616 : (.instanceMethod yX9_fake : Cond) ∈ WS := mw 616 rfl rfl
set_option maxRecDepth 100000 in
theorem wm_617 : (.selects RX9 yX9_fake yX9_fake : Cond) ∈ WS := mw 617 rfl rfl
set_option maxRecDepth 100000 in
theorem wm_618 : (.code yX9_fake cX9_fake 4 (some .int) : Cond) ∈ WS := mw 618 rfl rfl
set_option maxRecDepth 100000 in
theorem wm_619 : (.methodLink RL 68 yX9_set : Cond) ∈ WS := mw 619 rfl rfl
set_option maxRecDepth 100000 in
theorem wm_620 : (.instanceMethod yX9_set : Cond) ∈ WS := mw 620 rfl rfl
set_option maxRecDepth 100000 in
theorem wm_621 : (.selects RX9 yX9_set yX9_set : Cond) ∈ WS := mw 621 rfl rfl
set_option maxRecDepth 100000 in
theorem wm_622 : (.code yX9_set cX9_set 4 (some .int) : Cond) ∈ WS := mw 622 rfl rfl
set_option maxRecDepth 100000 in
theorem wm_623 : (.methodLink RL 72 yX9_hand : Cond) ∈ WS := mw 623 rfl rfl
set_option maxRecDepth 100000 in
theorem wm_624 : (.instanceMethod yX9_hand : Cond) ∈ WS := mw 624 rfl rfl
set_option maxRecDepth 100000 in
theorem wm_625 : (.selects RX9 yX9_hand yX9_hand : Cond) ∈ WS := mw 625 rfl rfl
set_option maxRecDepth 100000 in
theorem wm_626 : (.code yX9_hand cX9_hand 4 (some .int) : Cond) ∈ WS := mw 626 rfl rfl
set_option maxRecDepth 100000 in
theorem wm_627 : (.methodLink RL 76 yX9_tide : Cond) ∈ WS := mw 627 rfl rfl
set_option maxRecDepth 100000 in
theorem wm_628 : (.instanceMethod yX9_tide : Cond) ∈ WS := mw 628 rfl rfl
set_option maxRecDepth 100000 in
theorem wm_629 : (.selects RX9 yX9_tide yX9_tide : Cond) ∈ WS := mw 629 rfl rfl
set_option maxRecDepth 100000 in
theorem wm_630 : (.code yX9_tide cX9_tide 4 (some .int) : Cond) ∈ WS := mw 630 rfl rfl
set_option maxRecDepth 100000 in
theorem wm_631 : (.methodLink RL 80 yX9_go : Cond) ∈ WS := mw 631 rfl rfl
set_option maxRecDepth 100000 in
theorem wm_632 : (.instanceMethod yX9_go : Cond) ∈ WS := mw 632 rfl rfl
set_option maxRecDepth 100000 in
theorem wm_633 : (.selects RX9 yX9_go yX9_go : Cond) ∈ WS := mw 633 rfl rfl
set_option maxRecDepth 100000 in
theorem wm_634 : (.code yX9_go cX9_go 2 (some .int) : Cond) ∈ WS := mw 634 rfl rfl
set_option maxRecDepth 100000 in
theorem wm_635 : (.methodLink RX9 188 yX0_goSteps : Cond) ∈ WS := mw 635 rfl rfl
set_option maxRecDepth 100000 in
theorem wm_636 : (.instanceMethod yX0_goSteps : Cond) ∈ WS := mw 636 rfl rfl
set_option maxRecDepth 100000 in
theorem wm_637 : (.selects RX0 yX0_goSteps yX0_goSteps : Cond) ∈ WS := mw 637 rfl rfl
set_option maxRecDepth 100000 in
theorem wm_638 : (.code yX0_goSteps cX0_goSteps 3 none : Cond) ∈ WS := mw 638 rfl rfl
set_option maxRecDepth 100000 in
theorem wm_639 : (.methodLink RX0 107 yX0_goStep : Cond) ∈ WS := mw 639 rfl rfl
set_option maxRecDepth 100000 in
theorem wm_640 : (.instanceMethod yX0_goStep : Cond) ∈ WS := mw 640 rfl rfl
set_option maxRecDepth 100000 in
theorem wm_641 : (.selects RX0 yX0_goStep yX0_goStep : Cond) ∈ WS := mw 641 rfl rfl
set_option maxRecDepth 100000 in
theorem wm_642 : (.code yX0_goStep cX0_goStep 2 none : Cond) ∈ WS := mw 642 rfl rfl
set_option maxRecDepth 100000 in
theorem wm_643 : (.methodLink RX0 110 yX0_act : Cond) ∈ WS := mw 643 rfl rfl
set_option maxRecDepth 100000 in
theorem wm_645 : (.instanceMethod yX0_act : Cond) ∈ WS := mw 645 rfl rfl
set_option maxRecDepth 100000 in
theorem wm_646 : (.code yX0_act cX0_act 4 none : Cond) ∈ WS := mw 646 rfl rfl
set_option maxRecDepth 100000 in
theorem wm_647 : (.methodLink RX0 121 yX2_holds : Cond) ∈ WS := mw 647 rfl rfl
set_option maxRecDepth 100000 in
theorem wm_648 : (.methodLink RX0 125 yX2_walk : Cond) ∈ WS := mw 648 rfl rfl
set_option maxRecDepth 100000 in
theorem wm_649 : (.instanceMethod yX2_walk : Cond) ∈ WS := mw 649 rfl rfl
set_option maxRecDepth 100000 in
theorem wm_650 : (.selects RX2 yX2_walk yX2_walk : Cond) ∈ WS := mw 650 rfl rfl
set_option maxRecDepth 100000 in
theorem wm_651 : (.code yX2_walk cX2_walk 2 none : Cond) ∈ WS := mw 651 rfl rfl
set_option maxRecDepth 100000 in
theorem wm_652 : (.methodLink RX0 128 yX0_firstFitting : Cond) ∈ WS := mw 652 rfl rfl
set_option maxRecDepth 100000 in
theorem wm_654 : (.instanceMethod yX0_firstFitting : Cond) ∈ WS := mw 654 rfl rfl
set_option maxRecDepth 100000 in
theorem wm_655 : (.code yX0_firstFitting cX0_firstFitting 3 (some .int) : Cond) ∈ WS := mw 655 rfl rfl
set_option maxRecDepth 100000 in
theorem wm_656 : (.methodLink RX0 132 yX2_isFitBy : Cond) ∈ WS := mw 656 rfl rfl
set_option maxRecDepth 100000 in
theorem wm_657 : (.instanceMethod yX2_isFitBy : Cond) ∈ WS := mw 657 rfl rfl
set_option maxRecDepth 100000 in
theorem wm_658 : (.selects RX2 yX2_isFitBy yX2_isFitBy : Cond) ∈ WS := mw 658 rfl rfl
set_option maxRecDepth 100000 in
theorem wm_659 : (.code yX2_isFitBy cX2_isFitBy 2 (some .boolean) : Cond) ∈ WS := mw 659 rfl rfl
set_option maxRecDepth 100000 in
theorem wm_660 : (.methodLink RX0 114 yX0_settleFights : Cond) ∈ WS := mw 660 rfl rfl
set_option maxRecDepth 100000 in
theorem wm_662 : (.instanceMethod yX0_settleFights : Cond) ∈ WS := mw 662 rfl rfl
set_option maxRecDepth 100000 in
theorem wm_663 : (.code yX0_settleFights cX0_settleFights 3 none : Cond) ∈ WS := mw 663 rfl rfl
set_option maxRecDepth 100000 in
theorem wm_664 : (.methodLink RX0 135 yX0_losesFight : Cond) ∈ WS := mw 664 rfl rfl
set_option maxRecDepth 100000 in
theorem wm_666 : (.instanceMethod yX0_losesFight : Cond) ∈ WS := mw 666 rfl rfl
set_option maxRecDepth 100000 in
theorem wm_667 : (.code yX0_losesFight cX0_losesFight 5 (some .boolean) : Cond) ∈ WS := mw 667 rfl rfl
set_option maxRecDepth 100000 in
theorem wm_668 : (.methodLink RX0 117 yX0_washAway : Cond) ∈ WS := mw 668 rfl rfl
set_option maxRecDepth 100000 in
theorem wm_669 : (.instanceMethod yX0_washAway : Cond) ∈ WS := mw 669 rfl rfl
set_option maxRecDepth 100000 in
theorem wm_670 : (.selects RX0 yX0_washAway yX0_washAway : Cond) ∈ WS := mw 670 rfl rfl
set_option maxRecDepth 100000 in
theorem wm_671 : (.code yX0_washAway cX0_washAway 4 none : Cond) ∈ WS := mw 671 rfl rfl
set_option maxRecDepth 100000 in
theorem wm_672 : (.methodLink RX9 192 yX0_countRight : Cond) ∈ WS := mw 672 rfl rfl
set_option maxRecDepth 100000 in
theorem wm_673 : (.instanceMethod yX0_countRight : Cond) ∈ WS := mw 673 rfl rfl
set_option maxRecDepth 100000 in
theorem wm_674 : (.selects RX0 yX0_countRight yX0_countRight : Cond) ∈ WS := mw 674 rfl rfl
set_option maxRecDepth 100000 in
theorem wm_675 : (.code yX0_countRight cX0_countRight 3 (some .int) : Cond) ∈ WS := mw 675 rfl rfl
set_option maxRecDepth 100000 in
theorem wm_676 : (.methodLink RX0 94 yX0_isRight : Cond) ∈ WS := mw 676 rfl rfl
set_option maxRecDepth 100000 in
theorem wm_677 : (.methodLink RL 84 yX9_ahead : Cond) ∈ WS := mw 677 rfl rfl
set_option maxRecDepth 100000 in
theorem wm_678 : (.instanceMethod yX9_ahead : Cond) ∈ WS := mw 678 rfl rfl
set_option maxRecDepth 100000 in
theorem wm_679 : (.selects RX9 yX9_ahead yX9_ahead : Cond) ∈ WS := mw 679 rfl rfl
set_option maxRecDepth 100000 in
theorem wm_680 : (.code yX9_ahead cX9_ahead 3 (some .int) : Cond) ∈ WS := mw 680 rfl rfl
set_option maxRecDepth 100000 in
theorem wm_681 : (.methodLink RL 88 yX9_grow : Cond) ∈ WS := mw 681 rfl rfl
set_option maxRecDepth 100000 in
theorem wm_682 : (.instanceMethod yX9_grow : Cond) ∈ WS := mw 682 rfl rfl
set_option maxRecDepth 100000 in
theorem wm_683 : (.selects RX9 yX9_grow yX9_grow : Cond) ∈ WS := mw 683 rfl rfl
set_option maxRecDepth 100000 in
theorem wm_684 : (.code yX9_grow cX9_grow 1 (some .int) : Cond) ∈ WS := mw 684 rfl rfl
set_option maxRecDepth 100000 in
theorem wm_685 : (.methodLink RX9 195 yX0_growWeeks : Cond) ∈ WS := mw 685 rfl rfl
set_option maxRecDepth 100000 in
theorem wm_686 : (.instanceMethod yX0_growWeeks : Cond) ∈ WS := mw 686 rfl rfl
set_option maxRecDepth 100000 in
theorem wm_687 : (.selects RX0 yX0_growWeeks yX0_growWeeks : Cond) ∈ WS := mw 687 rfl rfl
set_option maxRecDepth 100000 in
theorem wm_688 : (.code yX0_growWeeks cX0_growWeeks 3 none : Cond) ∈ WS := mw 688 rfl rfl
set_option maxRecDepth 100000 in
theorem wm_689 : (.methodLink RX0 98 yJ9_min_7cf53 : Cond) ∈ WS := mw 689 rfl rfl
set_option maxRecDepth 100000 in
theorem wm_690 : (.static yJ9_min_7cf53 : Cond) ∈ WS := mw 690 rfl rfl
set_option maxRecDepth 100000 in
theorem wm_691 : (.code yJ9_min_7cf53 cJ9_min_7cf53 2 (some .int) : Cond) ∈ WS := mw 691 rfl rfl
set_option maxRecDepth 100000 in
theorem wm_692 : (.methodLink RX9 198 yX0_greatestClaw : Cond) ∈ WS := mw 692 rfl rfl
set_option maxRecDepth 100000 in
theorem wm_693 : (.instanceMethod yX0_greatestClaw : Cond) ∈ WS := mw 693 rfl rfl
set_option maxRecDepth 100000 in
theorem wm_694 : (.selects RX0 yX0_greatestClaw yX0_greatestClaw : Cond) ∈ WS := mw 694 rfl rfl
set_option maxRecDepth 100000 in
theorem wm_695 : (.code yX0_greatestClaw cX0_greatestClaw 3 (some .int) : Cond) ∈ WS := mw 695 rfl rfl
set_option maxRecDepth 100000 in
theorem wm_696 : (.methodLink RX0 104 yJ9_max_7cf53 : Cond) ∈ WS := mw 696 rfl rfl
set_option maxRecDepth 100000 in
theorem wm_697 : (.static yJ9_max_7cf53 : Cond) ∈ WS := mw 697 rfl rfl
set_option maxRecDepth 100000 in
theorem wm_698 : (.code yJ9_max_7cf53 cJ9_max_7cf53 2 (some .int) : Cond) ∈ WS := mw 698 rfl rfl
set_option maxRecDepth 100000 in
theorem wm_699 : (.methodLink RL 92 yX9_sorted : Cond) ∈ WS := mw 699 rfl rfl
set_option maxRecDepth 100000 in
theorem wm_700 : (.instanceMethod yX9_sorted : Cond) ∈ WS := mw 700 rfl rfl
set_option maxRecDepth 100000 in
theorem wm_701 : (.selects RX9 yX9_sorted yX9_sorted : Cond) ∈ WS := mw 701 rfl rfl
set_option maxRecDepth 100000 in
theorem wm_702 : (.code yX9_sorted cX9_sorted 1 (some .int) : Cond) ∈ WS := mw 702 rfl rfl
set_option maxRecDepth 100000 in
theorem wm_703 : (.methodLink RX9 201 yX0_stepsUntilSorted : Cond) ∈ WS := mw 703 rfl rfl
set_option maxRecDepth 100000 in
theorem wm_704 : (.instanceMethod yX0_stepsUntilSorted : Cond) ∈ WS := mw 704 rfl rfl
set_option maxRecDepth 100000 in
theorem wm_705 : (.selects RX0 yX0_stepsUntilSorted yX0_stepsUntilSorted : Cond) ∈ WS := mw 705 rfl rfl
set_option maxRecDepth 100000 in
theorem wm_706 : (.code yX0_stepsUntilSorted cX0_stepsUntilSorted 4 (some .int) : Cond) ∈ WS := mw 706 rfl rfl
set_option maxRecDepth 100000 in
theorem wm_707 : (.methodLink RX0 142 yX0_openCoins : Cond) ∈ WS := mw 707 rfl rfl
set_option maxRecDepth 100000 in
theorem wm_709 : (.instanceMethod yX0_openCoins : Cond) ∈ WS := mw 709 rfl rfl
set_option maxRecDepth 100000 in
theorem wm_710 : (.code yX0_openCoins cX0_openCoins 4 (some .int) : Cond) ∈ WS := mw 710 rfl rfl
set_option maxRecDepth 100000 in
theorem wm_711 : (.methodLink RL 96 yX9_orders : Cond) ∈ WS := mw 711 rfl rfl
set_option maxRecDepth 100000 in
theorem wm_712 : (.instanceMethod yX9_orders : Cond) ∈ WS := mw 712 rfl rfl
set_option maxRecDepth 100000 in
theorem wm_713 : (.selects RX9 yX9_orders yX9_orders : Cond) ∈ WS := mw 713 rfl rfl
set_option maxRecDepth 100000 in
theorem wm_714 : (.code yX9_orders cX9_orders 3 (some .int) : Cond) ∈ WS := mw 714 rfl rfl
set_option maxRecDepth 100000 in
theorem wm_715 : (.methodLink RX9 205 yX4_tryAll : Cond) ∈ WS := mw 715 rfl rfl
set_option maxRecDepth 100000 in
theorem wm_716 : (.instanceMethod yX4_tryAll : Cond) ∈ WS := mw 716 rfl rfl
set_option maxRecDepth 100000 in
theorem wm_717 : (.selects RX4 yX4_tryAll yX4_tryAll : Cond) ∈ WS := mw 717 rfl rfl
set_option maxRecDepth 100000 in
theorem wm_718 : (.code yX4_tryAll cX4_tryAll 5 none : Cond) ∈ WS := mw 718 rfl rfl
set_option maxRecDepth 100000 in
theorem wm_719 : (.methodLink RX4 25 yX0_copyFrom : Cond) ∈ WS := mw 719 rfl rfl
set_option maxRecDepth 100000 in
theorem wm_720 : (.methodLink RX4 32 yX4_copyOrder : Cond) ∈ WS := mw 720 rfl rfl
set_option maxRecDepth 100000 in
theorem wm_721 : (.static yX4_copyOrder : Cond) ∈ WS := mw 721 rfl rfl
set_option maxRecDepth 100000 in
theorem wm_722 : (.code yX4_copyOrder cX4_copyOrder 3 none : Cond) ∈ WS := mw 722 rfl rfl
set_option maxRecDepth 100000 in
theorem wm_723 : (.methodLink RX4 36 yX0_stepsUntilSorted : Cond) ∈ WS := mw 723 rfl rfl
set_option maxRecDepth 100000 in
theorem wm_724 : (.methodLink RX4 40 yX4_note : Cond) ∈ WS := mw 724 rfl rfl
set_option maxRecDepth 100000 in
theorem wm_726 : (.instanceMethod yX4_note : Cond) ∈ WS := mw 726 rfl rfl
set_option maxRecDepth 100000 in
theorem wm_727 : (.code yX4_note cX4_note 2 none : Cond) ∈ WS := mw 727 rfl rfl
set_option maxRecDepth 100000 in
theorem wm_728 : (.methodLink RX4 47 yX4_turnToNext : Cond) ∈ WS := mw 728 rfl rfl
set_option maxRecDepth 100000 in
theorem wm_730 : (.instanceMethod yX4_turnToNext : Cond) ∈ WS := mw 730 rfl rfl
set_option maxRecDepth 100000 in
theorem wm_731 : (.code yX4_turnToNext cX4_turnToNext 6 (some .boolean) : Cond) ∈ WS := mw 731 rfl rfl
set_option maxRecDepth 100000 in
theorem wm_732 : (.methodLink RX4 51 yX4_swap : Cond) ∈ WS := mw 732 rfl rfl
set_option maxRecDepth 100000 in
theorem wm_734 : (.instanceMethod yX4_swap : Cond) ∈ WS := mw 734 rfl rfl
set_option maxRecDepth 100000 in
theorem wm_735 : (.code yX4_swap cX4_swap 4 none : Cond) ∈ WS := mw 735 rfl rfl
set_option maxRecDepth 100000 in
theorem wm_736 : (.methodLink RL 100 yX9_fewest : Cond) ∈ WS := mw 736 rfl rfl
set_option maxRecDepth 100000 in
theorem wm_737 : (.instanceMethod yX9_fewest : Cond) ∈ WS := mw 737 rfl rfl
set_option maxRecDepth 100000 in
theorem wm_738 : (.selects RX9 yX9_fewest yX9_fewest : Cond) ∈ WS := mw 738 rfl rfl
set_option maxRecDepth 100000 in
theorem wm_739 : (.code yX9_fewest cX9_fewest 5 (some .int) : Cond) ∈ WS := mw 739 rfl rfl
set_option maxRecDepth 100000 in
theorem wm_740 : (.methodLink RX9 216 yJ6_bitCount_0f7a4 : Cond) ∈ WS := mw 740 rfl rfl
set_option maxRecDepth 100000 in
theorem wm_741 : (.static yJ6_bitCount_0f7a4 : Cond) ∈ WS := mw 741 rfl rfl
set_option maxRecDepth 100000 in
theorem wm_742 : (.code yJ6_bitCount_0f7a4 cJ6_bitCount_0f7a4 1 (some .int) : Cond) ∈ WS := mw 742 rfl rfl
set_option maxRecDepth 100000 in
theorem wm_743 : (.constant RJ6 265 (1431655765) : Cond) ∈ WS := mw 743 rfl rfl
set_option maxRecDepth 100000 in
theorem wm_744 : (.constant RJ6 266 (858993459) : Cond) ∈ WS := mw 744 rfl rfl
set_option maxRecDepth 100000 in
theorem wm_745 : (.constant RJ6 267 (252645135) : Cond) ∈ WS := mw 745 rfl rfl
set_option maxRecDepth 100000 in
theorem wm_746 : (.methodLink RX9 221 yX9_isSortedBy : Cond) ∈ WS := mw 746 rfl rfl
set_option maxRecDepth 100000 in
theorem wm_748 : (.instanceMethod yX9_isSortedBy : Cond) ∈ WS := mw 748 rfl rfl
set_option maxRecDepth 100000 in
theorem wm_749 : (.code yX9_isSortedBy cX9_isSortedBy 2 (some .boolean) : Cond) ∈ WS := mw 749 rfl rfl
set_option maxRecDepth 100000 in
theorem wm_750 : (.methodLink RX9 294 yX0_sendAwayAllBut : Cond) ∈ WS := mw 750 rfl rfl
set_option maxRecDepth 100000 in
theorem wm_751 : (.instanceMethod yX0_sendAwayAllBut : Cond) ∈ WS := mw 751 rfl rfl
set_option maxRecDepth 100000 in
theorem wm_752 : (.selects RX0 yX0_sendAwayAllBut yX0_sendAwayAllBut : Cond) ∈ WS := mw 752 rfl rfl
set_option maxRecDepth 100000 in
theorem wm_753 : (.code yX0_sendAwayAllBut cX0_sendAwayAllBut 3 none : Cond) ∈ WS := mw 753 rfl rfl
set_option maxRecDepth 100000 in
theorem wm_754 : (.methodLink RL 104 yX9_better : Cond) ∈ WS := mw 754 rfl rfl
set_option maxRecDepth 100000 in
theorem wm_755 : (.instanceMethod yX9_better : Cond) ∈ WS := mw 755 rfl rfl
set_option maxRecDepth 100000 in
theorem wm_756 : (.selects RX9 yX9_better yX9_better : Cond) ∈ WS := mw 756 rfl rfl
set_option maxRecDepth 100000 in
theorem wm_757 : (.code yX9_better cX9_better 8 (some .int) : Cond) ∈ WS := mw 757 rfl rfl
set_option maxRecDepth 100000 in
theorem wm_758 : (.methodLink RX9 224 yX9_stepsWithHole : Cond) ∈ WS := mw 758 rfl rfl
set_option maxRecDepth 100000 in
theorem wm_760 : (.instanceMethod yX9_stepsWithHole : Cond) ∈ WS := mw 760 rfl rfl
set_option maxRecDepth 100000 in
theorem wm_761 : (.code yX9_stepsWithHole cX9_stepsWithHole 4 (some .int) : Cond) ∈ WS := mw 761 rfl rfl
set_option maxRecDepth 100000 in
theorem wm_762 : (.methodLink RL 108 yX9_weeks : Cond) ∈ WS := mw 762 rfl rfl
set_option maxRecDepth 100000 in
theorem wm_763 : (.instanceMethod yX9_weeks : Cond) ∈ WS := mw 763 rfl rfl
set_option maxRecDepth 100000 in
theorem wm_764 : (.selects RX9 yX9_weeks yX9_weeks : Cond) ∈ WS := mw 764 rfl rfl
set_option maxRecDepth 100000 in
theorem wm_765 : (.code yX9_weeks cX9_weeks 3 (some .int) : Cond) ∈ WS := mw 765 rfl rfl
set_option maxRecDepth 100000 in
theorem wm_766 : (.methodLink RL 112 yX9_see : Cond) ∈ WS := mw 766 rfl rfl
set_option maxRecDepth 100000 in
theorem wm_767 : (.instanceMethod yX9_see : Cond) ∈ WS := mw 767 rfl rfl
set_option maxRecDepth 100000 in
theorem wm_768 : (.selects RX9 yX9_see yX9_see : Cond) ∈ WS := mw 768 rfl rfl
set_option maxRecDepth 100000 in
theorem wm_769 : (.code yX9_see cX9_see 5 (some .int) : Cond) ∈ WS := mw 769 rfl rfl
set_option maxRecDepth 100000 in
theorem wm_770 : (.methodLink RX9 228 yX9_isWhere : Cond) ∈ WS := mw 770 rfl rfl
set_option maxRecDepth 100000 in
theorem wm_771 : (.static yX9_isWhere : Cond) ∈ WS := mw 771 rfl rfl
set_option maxRecDepth 100000 in
theorem wm_772 : (.code yX9_isWhere cX9_isWhere 1 (some .boolean) : Cond) ∈ WS := mw 772 rfl rfl
set_option maxRecDepth 100000 in
theorem wm_773 : (.methodLink RX9 231 yX6_add : Cond) ∈ WS := mw 773 rfl rfl
set_option maxRecDepth 100000 in
theorem wm_774 : (.instanceMethod yX6_add : Cond) ∈ WS := mw 774 rfl rfl
set_option maxRecDepth 100000 in
theorem wm_775 : (.selects RX6 yX6_add yX6_add : Cond) ∈ WS := mw 775 rfl rfl
set_option maxRecDepth 100000 in
theorem wm_776 : (.code yX6_add cX6_add 5 none : Cond) ∈ WS := mw 776 rfl rfl
set_option maxRecDepth 100000 in
theorem wm_777 : (.methodLink RL 117 yX9_forget : Cond) ∈ WS := mw 777 rfl rfl
set_option maxRecDepth 100000 in
theorem wm_778 : (.instanceMethod yX9_forget : Cond) ∈ WS := mw 778 rfl rfl
set_option maxRecDepth 100000 in
theorem wm_779 : (.selects RX9 yX9_forget yX9_forget : Cond) ∈ WS := mw 779 rfl rfl
set_option maxRecDepth 100000 in
theorem wm_780 : (.code yX9_forget cX9_forget 3 (some .int) : Cond) ∈ WS := mw 780 rfl rfl
set_option maxRecDepth 100000 in
theorem wm_781 : (.methodLink RL 121 yX9_fakes : Cond) ∈ WS := mw 781 rfl rfl
set_option maxRecDepth 100000 in
theorem wm_782 : (.instanceMethod yX9_fakes : Cond) ∈ WS := mw 782 rfl rfl
set_option maxRecDepth 100000 in
theorem wm_783 : (.selects RX9 yX9_fakes yX9_fakes : Cond) ∈ WS := mw 783 rfl rfl
set_option maxRecDepth 100000 in
theorem wm_784 : (.code yX9_fakes cX9_fakes 8 (some .int) : Cond) ∈ WS := mw 784 rfl rfl
set_option maxRecDepth 100000 in
theorem wm_785 : (.methodLink RX9 235 yX9_isSeenWithFalse : Cond) ∈ WS := mw 785 rfl rfl
set_option maxRecDepth 100000 in
theorem wm_787 : (.instanceMethod yX9_isSeenWithFalse : Cond) ∈ WS := mw 787 rfl rfl
set_option maxRecDepth 100000 in
theorem wm_788 : (.code yX9_isSeenWithFalse cX9_isSeenWithFalse 3 (some .boolean) : Cond) ∈ WS := mw 788 rfl rfl
set_option maxRecDepth 100000 in
theorem wm_789 : (.methodLink RX9 238 yX6_holdFor : Cond) ∈ WS := mw 789 rfl rfl
set_option maxRecDepth 100000 in
theorem wm_790 : (.instanceMethod yX6_holdFor : Cond) ∈ WS := mw 790 rfl rfl
set_option maxRecDepth 100000 in
theorem wm_791 : (.selects RX6 yX6_holdFor yX6_holdFor : Cond) ∈ WS := mw 791 rfl rfl
set_option maxRecDepth 100000 in
theorem wm_792 : (.code yX6_holdFor cX6_holdFor 4 (some .boolean) : Cond) ∈ WS := mw 792 rfl rfl
set_option maxRecDepth 100000 in
theorem wm_793 : (.methodLink RX6 29 yX6_lastStep : Cond) ∈ WS := mw 793 rfl rfl
set_option maxRecDepth 100000 in
theorem wm_795 : (.instanceMethod yX6_lastStep : Cond) ∈ WS := mw 795 rfl rfl
set_option maxRecDepth 100000 in
theorem wm_796 : (.code yX6_lastStep cX6_lastStep 3 (some .int) : Cond) ∈ WS := mw 796 rfl rfl
set_option maxRecDepth 100000 in
theorem wm_797 : (.methodLink RX6 42 yJ9_max_7cf53 : Cond) ∈ WS := mw 797 rfl rfl
set_option maxRecDepth 100000 in
theorem wm_798 : (.methodLink RX6 33 yX6_holdAt : Cond) ∈ WS := mw 798 rfl rfl
set_option maxRecDepth 100000 in
theorem wm_800 : (.instanceMethod yX6_holdAt : Cond) ∈ WS := mw 800 rfl rfl
set_option maxRecDepth 100000 in
theorem wm_801 : (.code yX6_holdAt cX6_holdAt 4 (some .boolean) : Cond) ∈ WS := mw 801 rfl rfl
set_option maxRecDepth 100000 in
theorem wm_802 : (.methodLink RX6 37 yX0_goStep : Cond) ∈ WS := mw 802 rfl rfl
set_option maxRecDepth 100000 in
theorem wm_803 : (.methodLink RL 125 yX9_wrong : Cond) ∈ WS := mw 803 rfl rfl
set_option maxRecDepth 100000 in
theorem wm_804 : (.instanceMethod yX9_wrong : Cond) ∈ WS := mw 804 rfl rfl
set_option maxRecDepth 100000 in
theorem wm_805 : (.selects RX9 yX9_wrong yX9_wrong : Cond) ∈ WS := mw 805 rfl rfl
set_option maxRecDepth 100000 in
theorem wm_806 : (.code yX9_wrong cX9_wrong 3 (some .int) : Cond) ∈ WS := mw 806 rfl rfl
set_option maxRecDepth 100000 in
theorem wm_807 : (.methodLink RL 129 yX9_gulls : Cond) ∈ WS := mw 807 rfl rfl
set_option maxRecDepth 100000 in
theorem wm_808 : (.instanceMethod yX9_gulls : Cond) ∈ WS := mw 808 rfl rfl
set_option maxRecDepth 100000 in
theorem wm_809 : (.selects RX9 yX9_gulls yX9_gulls : Cond) ∈ WS := mw 809 rfl rfl
set_option maxRecDepth 100000 in
theorem wm_810 : (.code yX9_gulls cX9_gulls 6 (some .int) : Cond) ∈ WS := mw 810 rfl rfl
set_option maxRecDepth 100000 in
theorem wm_811 : (.constant RX9 242 (1103515245) : Cond) ∈ WS := mw 811 rfl rfl
set_option maxRecDepth 100000 in
theorem wm_812 : (.methodLink RX9 243 yX0_comeGulls : Cond) ∈ WS := mw 812 rfl rfl
set_option maxRecDepth 100000 in
theorem wm_813 : (.instanceMethod yX0_comeGulls : Cond) ∈ WS := mw 813 rfl rfl
set_option maxRecDepth 100000 in
theorem wm_814 : (.selects RX0 yX0_comeGulls yX0_comeGulls : Cond) ∈ WS := mw 814 rfl rfl
set_option maxRecDepth 100000 in
theorem wm_815 : (.code yX0_comeGulls cX0_comeGulls 3 none : Cond) ∈ WS := mw 815 rfl rfl
set_option maxRecDepth 100000 in
theorem wm_816 : (.methodLink RX9 246 yX0_goStep : Cond) ∈ WS := mw 816 rfl rfl
set_option maxRecDepth 100000 in
theorem wm_817 : (.methodLink RL 134 yX9_keep : Cond) ∈ WS := mw 817 rfl rfl
set_option maxRecDepth 100000 in
theorem wm_818 : (.instanceMethod yX9_keep : Cond) ∈ WS := mw 818 rfl rfl
set_option maxRecDepth 100000 in
theorem wm_819 : (.selects RX9 yX9_keep yX9_keep : Cond) ∈ WS := mw 819 rfl rfl
set_option maxRecDepth 100000 in
theorem wm_820 : (.code yX9_keep cX9_keep 3 (some .int) : Cond) ∈ WS := mw 820 rfl rfl
set_option maxRecDepth 100000 in
theorem wm_821 : (.methodLink RX9 249 yX9_isImage : Cond) ∈ WS := mw 821 rfl rfl
set_option maxRecDepth 100000 in
theorem wm_822 : (.static yX9_isImage : Cond) ∈ WS := mw 822 rfl rfl
set_option maxRecDepth 100000 in
theorem wm_823 : (.code yX9_isImage cX9_isImage 1 (some .boolean) : Cond) ∈ WS := mw 823 rfl rfl
set_option maxRecDepth 100000 in
theorem wm_824 : (.methodLink RX9 252 yX3_take : Cond) ∈ WS := mw 824 rfl rfl
set_option maxRecDepth 100000 in
theorem wm_825 : (.instanceMethod yX3_take : Cond) ∈ WS := mw 825 rfl rfl
set_option maxRecDepth 100000 in
theorem wm_826 : (.selects RX3 yX3_take yX3_take : Cond) ∈ WS := mw 826 rfl rfl
set_option maxRecDepth 100000 in
theorem wm_827 : (.code yX3_take cX3_take 3 none : Cond) ∈ WS := mw 827 rfl rfl
set_option maxRecDepth 100000 in
theorem wm_828 : (.methodLink RX3 27 yX0_copyFrom : Cond) ∈ WS := mw 828 rfl rfl
set_option maxRecDepth 100000 in
theorem wm_829 : (.methodLink RX3 31 yX6_copyFrom : Cond) ∈ WS := mw 829 rfl rfl
set_option maxRecDepth 100000 in
theorem wm_830 : (.instanceMethod yX6_copyFrom : Cond) ∈ WS := mw 830 rfl rfl
set_option maxRecDepth 100000 in
theorem wm_831 : (.selects RX6 yX6_copyFrom yX6_copyFrom : Cond) ∈ WS := mw 831 rfl rfl
set_option maxRecDepth 100000 in
theorem wm_832 : (.code yX6_copyFrom cX6_copyFrom 3 none : Cond) ∈ WS := mw 832 rfl rfl
set_option maxRecDepth 100000 in
theorem wm_833 : (.methodLink RL 138 yX9_back : Cond) ∈ WS := mw 833 rfl rfl
set_option maxRecDepth 100000 in
theorem wm_834 : (.instanceMethod yX9_back : Cond) ∈ WS := mw 834 rfl rfl
set_option maxRecDepth 100000 in
theorem wm_835 : (.selects RX9 yX9_back yX9_back : Cond) ∈ WS := mw 835 rfl rfl
set_option maxRecDepth 100000 in
theorem wm_836 : (.code yX9_back cX9_back 2 (some .int) : Cond) ∈ WS := mw 836 rfl rfl
set_option maxRecDepth 100000 in
theorem wm_837 : (.methodLink RX9 260 yX6_copyFrom : Cond) ∈ WS := mw 837 rfl rfl
set_option maxRecDepth 100000 in
theorem wm_838 : (.methodLink RL 142 yX9_sheet : Cond) ∈ WS := mw 838 rfl rfl
set_option maxRecDepth 100000 in
theorem wm_839 : (.instanceMethod yX9_sheet : Cond) ∈ WS := mw 839 rfl rfl
set_option maxRecDepth 100000 in
theorem wm_840 : (.selects RX9 yX9_sheet yX9_sheet : Cond) ∈ WS := mw 840 rfl rfl
set_option maxRecDepth 100000 in
theorem wm_841 : (.code yX9_sheet cX9_sheet 4 (some .int) : Cond) ∈ WS := mw 841 rfl rfl
set_option maxRecDepth 100000 in
theorem wm_842 : (.methodLink RX9 263 yX9_isSheet : Cond) ∈ WS := mw 842 rfl rfl
set_option maxRecDepth 100000 in
theorem wm_843 : (.static yX9_isSheet : Cond) ∈ WS := mw 843 rfl rfl
set_option maxRecDepth 100000 in
theorem wm_844 : (.code yX9_isSheet cX9_isSheet 1 (some .boolean) : Cond) ∈ WS := mw 844 rfl rfl
set_option maxRecDepth 100000 in
theorem wm_845 : (.methodLink RX9 266 yX9_isLane : Cond) ∈ WS := mw 845 rfl rfl
set_option maxRecDepth 100000 in
theorem wm_846 : (.static yX9_isLane : Cond) ∈ WS := mw 846 rfl rfl
set_option maxRecDepth 100000 in
theorem wm_847 : (.code yX9_isLane cX9_isLane 1 (some .boolean) : Cond) ∈ WS := mw 847 rfl rfl
set_option maxRecDepth 100000 in
theorem wm_848 : (.methodLink RX9 269 yX5_renew : Cond) ∈ WS := mw 848 rfl rfl
set_option maxRecDepth 100000 in
theorem wm_849 : (.instanceMethod yX5_renew : Cond) ∈ WS := mw 849 rfl rfl
set_option maxRecDepth 100000 in
theorem wm_850 : (.selects RX5 yX5_renew yX5_renew : Cond) ∈ WS := mw 850 rfl rfl
set_option maxRecDepth 100000 in
theorem wm_851 : (.code yX5_renew cX5_renew 4 none : Cond) ∈ WS := mw 851 rfl rfl
set_option maxRecDepth 100000 in
theorem wm_852 : (.methodLink RL 146 yX9_lay : Cond) ∈ WS := mw 852 rfl rfl
set_option maxRecDepth 100000 in
theorem wm_853 : (.instanceMethod yX9_lay : Cond) ∈ WS := mw 853 rfl rfl
set_option maxRecDepth 100000 in
theorem wm_854 : (.selects RX9 yX9_lay yX9_lay : Cond) ∈ WS := mw 854 rfl rfl
set_option maxRecDepth 100000 in
theorem wm_855 : (.code yX9_lay cX9_lay 5 (some .int) : Cond) ∈ WS := mw 855 rfl rfl
set_option maxRecDepth 100000 in
theorem wm_856 : (.methodLink RX9 272 yX5_faultAt : Cond) ∈ WS := mw 856 rfl rfl
set_option maxRecDepth 100000 in
theorem wm_857 : (.instanceMethod yX5_faultAt : Cond) ∈ WS := mw 857 rfl rfl
set_option maxRecDepth 100000 in
theorem wm_858 : (.selects RX5 yX5_faultAt yX5_faultAt : Cond) ∈ WS := mw 858 rfl rfl
set_option maxRecDepth 100000 in
theorem wm_859 : (.code yX5_faultAt cX5_faultAt 2 (some .int) : Cond) ∈ WS := mw 859 rfl rfl
set_option maxRecDepth 100000 in
theorem wm_861 : (.methodLink RX9 275 yX5_put : Cond) ∈ WS := mw 861 rfl rfl
set_option maxRecDepth 100000 in
theorem wm_862 : (.instanceMethod yX5_put : Cond) ∈ WS := mw 862 rfl rfl
set_option maxRecDepth 100000 in
theorem wm_863 : (.selects RX5 yX5_put yX5_put : Cond) ∈ WS := mw 863 rfl rfl
set_option maxRecDepth 100000 in
theorem wm_864 : (.code yX5_put cX5_put 3 none : Cond) ∈ WS := mw 864 rfl rfl
set_option maxRecDepth 100000 in
theorem wm_865 : (.methodLink RX5 26 yX5_faultAt : Cond) ∈ WS := mw 865 rfl rfl
set_option maxRecDepth 100000 in
theorem wm_866 : (.methodLink RL 150 yX9_read : Cond) ∈ WS := mw 866 rfl rfl
set_option maxRecDepth 100000 in
theorem wm_867 : (.instanceMethod yX9_read : Cond) ∈ WS := mw 867 rfl rfl
set_option maxRecDepth 100000 in
theorem wm_868 : (.selects RX9 yX9_read yX9_read : Cond) ∈ WS := mw 868 rfl rfl
set_option maxRecDepth 100000 in
theorem wm_869 : (.code yX9_read cX9_read 10 (some .int) : Cond) ∈ WS := mw 869 rfl rfl
set_option maxRecDepth 100000 in
theorem wm_870 : (.methodLink RX9 278 yX5_faultAtPair : Cond) ∈ WS := mw 870 rfl rfl
set_option maxRecDepth 100000 in
theorem wm_871 : (.instanceMethod yX5_faultAtPair : Cond) ∈ WS := mw 871 rfl rfl
set_option maxRecDepth 100000 in
theorem wm_872 : (.selects RX5 yX5_faultAtPair yX5_faultAtPair : Cond) ∈ WS := mw 872 rfl rfl
set_option maxRecDepth 100000 in
theorem wm_873 : (.code yX5_faultAtPair cX5_faultAtPair 4 (some .int) : Cond) ∈ WS := mw 873 rfl rfl
set_option maxRecDepth 100000 in
theorem wm_874 : (.methodLink RX9 284 yX9_mint : Cond) ∈ WS := mw 874 rfl rfl
set_option maxRecDepth 100000 in
theorem wm_875 : (.methodLink RL 155 yX9_torn : Cond) ∈ WS := mw 875 rfl rfl
set_option maxRecDepth 100000 in
theorem wm_876 : (.instanceMethod yX9_torn : Cond) ∈ WS := mw 876 rfl rfl
set_option maxRecDepth 100000 in
theorem wm_877 : (.selects RX9 yX9_torn yX9_torn : Cond) ∈ WS := mw 877 rfl rfl
set_option maxRecDepth 100000 in
theorem wm_878 : (.code yX9_torn cX9_torn 1 (some .int) : Cond) ∈ WS := mw 878 rfl rfl
set_option maxRecDepth 100000 in
theorem wm_879 : (.methodLink RL 159 yX9_count : Cond) ∈ WS := mw 879 rfl rfl
set_option maxRecDepth 100000 in
theorem wm_880 : (.instanceMethod yX9_count : Cond) ∈ WS := mw 880 rfl rfl
set_option maxRecDepth 100000 in
theorem wm_881 : (.selects RX9 yX9_count yX9_count : Cond) ∈ WS := mw 881 rfl rfl
set_option maxRecDepth 100000 in
theorem wm_882 : (.code yX9_count cX9_count 2 (some .int) : Cond) ∈ WS := mw 882 rfl rfl
set_option maxRecDepth 100000 in
theorem wm_885 : (.methodLink RL 12 yX10_init : Cond) ∈ WS := mw 885 rfl rfl
set_option maxRecDepth 100000 in
theorem wm_886 : (.instanceMethod yX10_init : Cond) ∈ WS := mw 886 rfl rfl
set_option maxRecDepth 100000 in
theorem wm_887 : (.code yX10_init cX10_init 2 none : Cond) ∈ WS := mw 887 rfl rfl
set_option maxRecDepth 100000 in
theorem wm_888 : (.methodLink RX10 1 objectInit : Cond) ∈ WS := mw 888 rfl rfl
set_option maxRecDepth 100000 in
theorem wm_889 : (.methodLink RX10 65 yX10_firstDraft : Cond) ∈ WS := mw 889 rfl rfl
set_option maxRecDepth 100000 in
theorem wm_891 : (.instanceMethod yX10_firstDraft : Cond) ∈ WS := mw 891 rfl rfl
set_option maxRecDepth 100000 in
theorem wm_892 : (.code yX10_firstDraft cX10_firstDraft 2 none : Cond) ∈ WS := mw 892 rfl rfl
set_option maxRecDepth 100000 in
theorem wm_893 : (.methodLink RX10 68 yX10_keepDraft : Cond) ∈ WS := mw 893 rfl rfl
set_option maxRecDepth 100000 in
theorem wm_895 : (.instanceMethod yX10_keepDraft : Cond) ∈ WS := mw 895 rfl rfl
set_option maxRecDepth 100000 in
theorem wm_896 : (.code yX10_keepDraft cX10_keepDraft 2 none : Cond) ∈ WS := mw 896 rfl rfl
set_option maxRecDepth 100000 in
theorem wm_897 : (.fieldLink RX10 7 RX10 "st" "[I" : Cond) ∈ WS := mw 897 rfl rfl
set_option maxRecDepth 100000 in
theorem wm_898 : (.fieldLink RX10 13 RX10 "isKept" "[Z" : Cond) ∈ WS := mw 898 rfl rfl
set_option maxRecDepth 100000 in
theorem wm_899 : (.fieldLink RX10 84 RX10 "places" "I" : Cond) ∈ WS := mw 899 rfl rfl
set_option maxRecDepth 100000 in
theorem wm_900 : (.fieldLink RX10 87 RX10 "crabs" "I" : Cond) ∈ WS := mw 900 rfl rfl
set_option maxRecDepth 100000 in
theorem wm_901 : (.fieldLink RX10 17 RX10 "draft" "[I" : Cond) ∈ WS := mw 901 rfl rfl
set_option maxRecDepth 100000 in
theorem wm_902 : (.fieldLink RX10 71 RX10 "dPlaces" "I" : Cond) ∈ WS := mw 902 rfl rfl
set_option maxRecDepth 100000 in
theorem wm_903 : (.fieldLink RX10 75 RX10 "dCrabs" "I" : Cond) ∈ WS := mw 903 rfl rfl
set_option maxRecDepth 100000 in
theorem wm_904 : (.fieldLink RX10 78 RX10 "toldLines" "I" : Cond) ∈ WS := mw 904 rfl rfl
set_option maxRecDepth 100000 in
theorem wm_905 : (.fieldLink RX10 81 RX10 "highest" "I" : Cond) ∈ WS := mw 905 rfl rfl
set_option maxRecDepth 100000 in
theorem wm_906 : (.fieldLink RX10 20 RX10 "tape" "[I" : Cond) ∈ WS := mw 906 rfl rfl
set_option maxRecDepth 100000 in
theorem wm_907 : (.fieldLink RX10 90 RX10 "taped" "I" : Cond) ∈ WS := mw 907 rfl rfl
set_option maxRecDepth 100000 in
theorem wm_908 : (.fieldLink RX10 108 RX10 "pos" "I" : Cond) ∈ WS := mw 908 rfl rfl
set_option maxRecDepth 100000 in
theorem wm_909 : (.fieldLink RX10 102 RX10 "from" "I" : Cond) ∈ WS := mw 909 rfl rfl
set_option maxRecDepth 100000 in
theorem wm_910 : (.fieldLink RX10 123 RX10 "sort" "I" : Cond) ∈ WS := mw 910 rfl rfl
set_option maxRecDepth 100000 in
theorem wm_911 : (.fieldLink RX10 134 RX10 "value" "I" : Cond) ∈ WS := mw 911 rfl rfl
set_option maxRecDepth 100000 in
theorem wm_912 : (.fieldLink RX10 99 RX10 "fault" "I" : Cond) ∈ WS := mw 912 rfl rfl
set_option maxRecDepth 100000 in
theorem wm_913 : (.fieldLink RX10 105 RX10 "wrongAt" "I" : Cond) ∈ WS := mw 913 rfl rfl
set_option maxRecDepth 100000 in
theorem wm_914 : (.fieldLink RX10 23 RX10 "holes" "[I" : Cond) ∈ WS := mw 914 rfl rfl
set_option maxRecDepth 100000 in
theorem wm_915 : (.fieldLink RX10 26 RX10 "fakeNow" "[I" : Cond) ∈ WS := mw 915 rfl rfl
set_option maxRecDepth 100000 in
theorem wm_916 : (.fieldLink RX10 29 RX10 "at" "[I" : Cond) ∈ WS := mw 916 rfl rfl
set_option maxRecDepth 100000 in
theorem wm_917 : (.fieldLink RX10 32 RX10 "claw" "[I" : Cond) ∈ WS := mw 917 rfl rfl
set_option maxRecDepth 100000 in
theorem wm_918 : (.fieldLink RX10 35 RX10 "shell" "[I" : Cond) ∈ WS := mw 918 rfl rfl
set_option maxRecDepth 100000 in
theorem wm_919 : (.fieldLink RX10 38 RX10 "hands" "[I" : Cond) ∈ WS := mw 919 rfl rfl
set_option maxRecDepth 100000 in
theorem wm_920 : (.fieldLink RX10 41 RX10 "place" "[I" : Cond) ∈ WS := mw 920 rfl rfl
set_option maxRecDepth 100000 in
theorem wm_921 : (.fieldLink RX10 44 RX10 "order" "[I" : Cond) ∈ WS := mw 921 rfl rfl
set_option maxRecDepth 100000 in
theorem wm_922 : (.fieldLink RX10 47 RX10 "drops" "[Z" : Cond) ∈ WS := mw 922 rfl rfl
set_option maxRecDepth 100000 in
theorem wm_923 : (.fieldLink RX10 181 RX10 "ordered" "I" : Cond) ∈ WS := mw 923 rfl rfl
set_option maxRecDepth 100000 in
theorem wm_924 : (.fieldLink RX10 184 RX10 "clock" "I" : Cond) ∈ WS := mw 924 rfl rfl
set_option maxRecDepth 100000 in
theorem wm_925 : (.fieldLink RX10 50 RX10 "nowOrder" "[I" : Cond) ∈ WS := mw 925 rfl rfl
set_option maxRecDepth 100000 in
theorem wm_926 : (.fieldLink RX10 53 RX10 "bestOrder" "[I" : Cond) ∈ WS := mw 926 rfl rfl
set_option maxRecDepth 100000 in
theorem wm_927 : (.fieldLink RX10 56 RX10 "lanes" "[I" : Cond) ∈ WS := mw 927 rfl rfl
set_option maxRecDepth 100000 in
theorem wm_928 : (.fieldLink RX10 59 RX10 "sizes" "[I" : Cond) ∈ WS := mw 928 rfl rfl
set_option maxRecDepth 100000 in
theorem wm_929 : (.fieldLink RX10 62 RX10 "cells" "[I" : Cond) ∈ WS := mw 929 rfl rfl
set_option maxRecDepth 100000 in
theorem wm_930 : (.fieldLink RX10 278 RX10 "torn" "I" : Cond) ∈ WS := mw 930 rfl rfl
set_option maxRecDepth 100000 in
theorem wm_1000 : (.methodLink RL 19 yX10_feed : Cond) ∈ WS := mw 1000 rfl rfl
set_option maxRecDepth 100000 in
theorem wm_1001 : (.instanceMethod yX10_feed : Cond) ∈ WS := mw 1001 rfl rfl
set_option maxRecDepth 100000 in
theorem wm_1002 : (.selects RX10 yX10_feed yX10_feed : Cond) ∈ WS := mw 1002 rfl rfl
set_option maxRecDepth 100000 in
theorem wm_1003 : (.code yX10_feed cX10_feed 4 (some .int) : Cond) ∈ WS := mw 1003 rfl rfl
set_option maxRecDepth 100000 in
theorem wm_1004 : (.constantLong RX10 93 (255) : Cond) ∈ WS := mw 1004 rfl rfl
set_option maxRecDepth 100000 in
theorem wm_1005 : (.methodLink RL 24 yX10_end : Cond) ∈ WS := mw 1005 rfl rfl
set_option maxRecDepth 100000 in
theorem wm_1006 : (.instanceMethod yX10_end : Cond) ∈ WS := mw 1006 rfl rfl
set_option maxRecDepth 100000 in
theorem wm_1007 : (.selects RX10 yX10_end yX10_end : Cond) ∈ WS := mw 1007 rfl rfl
set_option maxRecDepth 100000 in
theorem wm_1008 : (.code yX10_end cX10_end 3 (some .int) : Cond) ∈ WS := mw 1008 rfl rfl
set_option maxRecDepth 100000 in
theorem wm_1009 : (.methodLink RX10 95 yX10_in : Cond) ∈ WS := mw 1009 rfl rfl
set_option maxRecDepth 100000 in
theorem wm_1010 : (.static yX10_in : Cond) ∈ WS := mw 1010 rfl rfl
set_option maxRecDepth 100000 in
theorem wm_1011 : (.code yX10_in cX10_in 6 (some .boolean) : Cond) ∈ WS := mw 1011 rfl rfl
set_option maxRecDepth 100000 in
theorem wm_1012 : (.methodLink RL 29 yX10_text : Cond) ∈ WS := mw 1012 rfl rfl
set_option maxRecDepth 100000 in
theorem wm_1013 : (.instanceMethod yX10_text : Cond) ∈ WS := mw 1013 rfl rfl
set_option maxRecDepth 100000 in
theorem wm_1014 : (.selects RX10 yX10_text yX10_text : Cond) ∈ WS := mw 1014 rfl rfl
set_option maxRecDepth 100000 in
theorem wm_1015 : (.code yX10_text cX10_text 2 (some .int) : Cond) ∈ WS := mw 1015 rfl rfl
set_option maxRecDepth 100000 in
theorem wm_1016 : (.methodLink RX10 145 yX10_next : Cond) ∈ WS := mw 1016 rfl rfl
set_option maxRecDepth 100000 in
theorem wm_1018 : (.instanceMethod yX10_next : Cond) ∈ WS := mw 1018 rfl rfl
set_option maxRecDepth 100000 in
theorem wm_1019 : (.code yX10_next cX10_next 2 none : Cond) ∈ WS := mw 1019 rfl rfl
set_option maxRecDepth 100000 in
theorem wm_1020 : (.methodLink RX10 111 yX10_look : Cond) ∈ WS := mw 1020 rfl rfl
set_option maxRecDepth 100000 in
theorem wm_1022 : (.instanceMethod yX10_look : Cond) ∈ WS := mw 1022 rfl rfl
set_option maxRecDepth 100000 in
theorem wm_1023 : (.code yX10_look cX10_look 2 (some .int) : Cond) ∈ WS := mw 1023 rfl rfl
set_option maxRecDepth 100000 in
theorem wm_1024 : (.constantLong RX10 126 (97) : Cond) ∈ WS := mw 1024 rfl rfl
set_option maxRecDepth 100000 in
theorem wm_1025 : (.constantLong RX10 128 (122) : Cond) ∈ WS := mw 1025 rfl rfl
set_option maxRecDepth 100000 in
theorem wm_1026 : (.constantLong RX10 130 (48) : Cond) ∈ WS := mw 1026 rfl rfl
set_option maxRecDepth 100000 in
theorem wm_1027 : (.constantLong RX10 132 (57) : Cond) ∈ WS := mw 1027 rfl rfl
set_option maxRecDepth 100000 in
theorem wm_1028 : (.methodLink RX10 137 yX10_needs : Cond) ∈ WS := mw 1028 rfl rfl
set_option maxRecDepth 100000 in
theorem wm_1030 : (.instanceMethod yX10_needs : Cond) ∈ WS := mw 1030 rfl rfl
set_option maxRecDepth 100000 in
theorem wm_1031 : (.code yX10_needs cX10_needs 3 none : Cond) ∈ WS := mw 1031 rfl rfl
set_option maxRecDepth 100000 in
theorem wm_1032 : (.methodLink RX10 178 yX10_readLine : Cond) ∈ WS := mw 1032 rfl rfl
set_option maxRecDepth 100000 in
theorem wm_1034 : (.instanceMethod yX10_readLine : Cond) ∈ WS := mw 1034 rfl rfl
set_option maxRecDepth 100000 in
theorem wm_1035 : (.code yX10_readLine cX10_readLine 2 none : Cond) ∈ WS := mw 1035 rfl rfl
set_option maxRecDepth 100000 in
theorem wm_1036 : (.methodLink RX10 171 yX10_lineNow : Cond) ∈ WS := mw 1036 rfl rfl
set_option maxRecDepth 100000 in
theorem wm_1038 : (.instanceMethod yX10_lineNow : Cond) ∈ WS := mw 1038 rfl rfl
set_option maxRecDepth 100000 in
theorem wm_1039 : (.code yX10_lineNow cX10_lineNow 1 (some .int) : Cond) ∈ WS := mw 1039 rfl rfl
set_option maxRecDepth 100000 in
theorem wm_1040 : (.methodLink RX10 115 yX10_is : Cond) ∈ WS := mw 1040 rfl rfl
set_option maxRecDepth 100000 in
theorem wm_1042 : (.instanceMethod yX10_is : Cond) ∈ WS := mw 1042 rfl rfl
set_option maxRecDepth 100000 in
theorem wm_1043 : (.code yX10_is cX10_is 5 (some .boolean) : Cond) ∈ WS := mw 1043 rfl rfl
set_option maxRecDepth 100000 in
theorem wm_1044 : (.methodLink RX10 119 yX10_ends : Cond) ∈ WS := mw 1044 rfl rfl
set_option maxRecDepth 100000 in
theorem wm_1046 : (.instanceMethod yX10_ends : Cond) ∈ WS := mw 1046 rfl rfl
set_option maxRecDepth 100000 in
theorem wm_1047 : (.code yX10_ends cX10_ends 4 (some .boolean) : Cond) ∈ WS := mw 1047 rfl rfl
set_option maxRecDepth 100000 in
theorem wm_1048 : (.methodLink RX10 174 yX10_readLineOf : Cond) ∈ WS := mw 1048 rfl rfl
set_option maxRecDepth 100000 in
theorem wm_1050 : (.instanceMethod yX10_readLineOf : Cond) ∈ WS := mw 1050 rfl rfl
set_option maxRecDepth 100000 in
theorem wm_1051 : (.code yX10_readLineOf cX10_readLineOf 2 none : Cond) ∈ WS := mw 1051 rfl rfl
set_option maxRecDepth 100000 in
theorem wm_1052 : (.methodLink RX10 152 yX10_readNumber : Cond) ∈ WS := mw 1052 rfl rfl
set_option maxRecDepth 100000 in
theorem wm_1054 : (.instanceMethod yX10_readNumber : Cond) ∈ WS := mw 1054 rfl rfl
set_option maxRecDepth 100000 in
theorem wm_1055 : (.code yX10_readNumber cX10_readNumber 4 (some .int) : Cond) ∈ WS := mw 1055 rfl rfl
set_option maxRecDepth 100000 in
theorem wm_1056 : (.methodLink RX10 141 yX10_looked : Cond) ∈ WS := mw 1056 rfl rfl
set_option maxRecDepth 100000 in
theorem wm_1058 : (.instanceMethod yX10_looked : Cond) ∈ WS := mw 1058 rfl rfl
set_option maxRecDepth 100000 in
theorem wm_1059 : (.code yX10_looked cX10_looked 3 (some .int) : Cond) ∈ WS := mw 1059 rfl rfl
set_option maxRecDepth 100000 in
theorem wm_1060 : (.methodLink RX10 162 yX10_readHole : Cond) ∈ WS := mw 1060 rfl rfl
set_option maxRecDepth 100000 in
theorem wm_1062 : (.instanceMethod yX10_readHole : Cond) ∈ WS := mw 1062 rfl rfl
set_option maxRecDepth 100000 in
theorem wm_1063 : (.code yX10_readHole cX10_readHole 3 none : Cond) ∈ WS := mw 1063 rfl rfl
set_option maxRecDepth 100000 in
theorem wm_1064 : (.methodLink RX10 148 yX10_lookedPlace : Cond) ∈ WS := mw 1064 rfl rfl
set_option maxRecDepth 100000 in
theorem wm_1066 : (.instanceMethod yX10_lookedPlace : Cond) ∈ WS := mw 1066 rfl rfl
set_option maxRecDepth 100000 in
theorem wm_1067 : (.code yX10_lookedPlace cX10_lookedPlace 2 (some .int) : Cond) ∈ WS := mw 1067 rfl rfl
set_option maxRecDepth 100000 in
theorem wm_1068 : (.methodLink RX10 165 yX10_readCoin : Cond) ∈ WS := mw 1068 rfl rfl
set_option maxRecDepth 100000 in
theorem wm_1070 : (.instanceMethod yX10_readCoin : Cond) ∈ WS := mw 1070 rfl rfl
set_option maxRecDepth 100000 in
theorem wm_1071 : (.code yX10_readCoin cX10_readCoin 2 none : Cond) ∈ WS := mw 1071 rfl rfl
set_option maxRecDepth 100000 in
theorem wm_1072 : (.methodLink RX10 155 yX10_readPlace : Cond) ∈ WS := mw 1072 rfl rfl
set_option maxRecDepth 100000 in
theorem wm_1074 : (.instanceMethod yX10_readPlace : Cond) ∈ WS := mw 1074 rfl rfl
set_option maxRecDepth 100000 in
theorem wm_1075 : (.code yX10_readPlace cX10_readPlace 2 (some .int) : Cond) ∈ WS := mw 1075 rfl rfl
set_option maxRecDepth 100000 in
theorem wm_1076 : (.methodLink RX10 168 yX10_readCrab : Cond) ∈ WS := mw 1076 rfl rfl
set_option maxRecDepth 100000 in
theorem wm_1078 : (.instanceMethod yX10_readCrab : Cond) ∈ WS := mw 1078 rfl rfl
set_option maxRecDepth 100000 in
theorem wm_1079 : (.code yX10_readCrab cX10_readCrab 3 none : Cond) ∈ WS := mw 1079 rfl rfl
set_option maxRecDepth 100000 in
theorem wm_1080 : (.methodLink RX10 158 yX10_flag : Cond) ∈ WS := mw 1080 rfl rfl
set_option maxRecDepth 100000 in
theorem wm_1081 : (.static yX10_flag : Cond) ∈ WS := mw 1081 rfl rfl
set_option maxRecDepth 100000 in
theorem wm_1082 : (.code yX10_flag cX10_flag 1 (some .int) : Cond) ∈ WS := mw 1082 rfl rfl
set_option maxRecDepth 100000 in
theorem wm_1083 : (.methodLink RL 33 yX10_fault : Cond) ∈ WS := mw 1083 rfl rfl
set_option maxRecDepth 100000 in
theorem wm_1084 : (.instanceMethod yX10_fault : Cond) ∈ WS := mw 1084 rfl rfl
set_option maxRecDepth 100000 in
theorem wm_1085 : (.selects RX10 yX10_fault yX10_fault : Cond) ∈ WS := mw 1085 rfl rfl
set_option maxRecDepth 100000 in
theorem wm_1086 : (.code yX10_fault cX10_fault 1 (some .int) : Cond) ∈ WS := mw 1086 rfl rfl
set_option maxRecDepth 100000 in
theorem wm_1087 : (.methodLink RL 37 yX10_rule : Cond) ∈ WS := mw 1087 rfl rfl
set_option maxRecDepth 100000 in
theorem wm_1088 : (.instanceMethod yX10_rule : Cond) ∈ WS := mw 1088 rfl rfl
set_option maxRecDepth 100000 in
theorem wm_1089 : (.selects RX10 yX10_rule yX10_rule : Cond) ∈ WS := mw 1089 rfl rfl
set_option maxRecDepth 100000 in
theorem wm_1090 : (.code yX10_rule cX10_rule 2 (some .int) : Cond) ∈ WS := mw 1090 rfl rfl
set_option maxRecDepth 100000 in
theorem wm_1091 : (.methodLink RL 41 yX10_hole : Cond) ∈ WS := mw 1091 rfl rfl
set_option maxRecDepth 100000 in
theorem wm_1092 : (.instanceMethod yX10_hole : Cond) ∈ WS := mw 1092 rfl rfl
set_option maxRecDepth 100000 in
theorem wm_1093 : (.selects RX10 yX10_hole yX10_hole : Cond) ∈ WS := mw 1093 rfl rfl
set_option maxRecDepth 100000 in
theorem wm_1094 : (.code yX10_hole cX10_hole 2 (some .int) : Cond) ∈ WS := mw 1094 rfl rfl
set_option maxRecDepth 100000 in
theorem wm_1095 : (.methodLink RX10 216 yX10_isPlace : Cond) ∈ WS := mw 1095 rfl rfl
set_option maxRecDepth 100000 in
theorem wm_1097 : (.instanceMethod yX10_isPlace : Cond) ∈ WS := mw 1097 rfl rfl
set_option maxRecDepth 100000 in
theorem wm_1098 : (.code yX10_isPlace cX10_isPlace 2 (some .boolean) : Cond) ∈ WS := mw 1098 rfl rfl
set_option maxRecDepth 100000 in
theorem wm_1099 : (.methodLink RL 46 yX10_coin : Cond) ∈ WS := mw 1099 rfl rfl
set_option maxRecDepth 100000 in
theorem wm_1100 : (.instanceMethod yX10_coin : Cond) ∈ WS := mw 1100 rfl rfl
set_option maxRecDepth 100000 in
theorem wm_1101 : (.selects RX10 yX10_coin yX10_coin : Cond) ∈ WS := mw 1101 rfl rfl
set_option maxRecDepth 100000 in
theorem wm_1102 : (.code yX10_coin cX10_coin 3 (some .int) : Cond) ∈ WS := mw 1102 rfl rfl
set_option maxRecDepth 100000 in
theorem wm_1103 : (.methodLink RX10 219 yX10_isCoin : Cond) ∈ WS := mw 1103 rfl rfl
set_option maxRecDepth 100000 in
theorem wm_1105 : (.instanceMethod yX10_isCoin : Cond) ∈ WS := mw 1105 rfl rfl
set_option maxRecDepth 100000 in
theorem wm_1106 : (.code yX10_isCoin cX10_isCoin 2 (some .boolean) : Cond) ∈ WS := mw 1106 rfl rfl
set_option maxRecDepth 100000 in
theorem wm_1107 : (.methodLink RX10 222 yX10_starts : Cond) ∈ WS := mw 1107 rfl rfl
set_option maxRecDepth 100000 in
theorem wm_1109 : (.instanceMethod yX10_starts : Cond) ∈ WS := mw 1109 rfl rfl
set_option maxRecDepth 100000 in
theorem wm_1110 : (.code yX10_starts cX10_starts 2 none : Cond) ∈ WS := mw 1110 rfl rfl
set_option maxRecDepth 100000 in
theorem wm_1111 : (.methodLink RX10 206 yX10_isRight : Cond) ∈ WS := mw 1111 rfl rfl
set_option maxRecDepth 100000 in
theorem wm_1113 : (.instanceMethod yX10_isRight : Cond) ∈ WS := mw 1113 rfl rfl
set_option maxRecDepth 100000 in
theorem wm_1114 : (.code yX10_isRight cX10_isRight 3 (some .boolean) : Cond) ∈ WS := mw 1114 rfl rfl
set_option maxRecDepth 100000 in
theorem wm_1115 : (.methodLink RX10 203 yX10_rightPlace : Cond) ∈ WS := mw 1115 rfl rfl
set_option maxRecDepth 100000 in
theorem wm_1117 : (.instanceMethod yX10_rightPlace : Cond) ∈ WS := mw 1117 rfl rfl
set_option maxRecDepth 100000 in
theorem wm_1118 : (.code yX10_rightPlace cX10_rightPlace 5 (some .int) : Cond) ∈ WS := mw 1118 rfl rfl
set_option maxRecDepth 100000 in
theorem wm_1119 : (.methodLink RL 50 yX10_crab : Cond) ∈ WS := mw 1119 rfl rfl
set_option maxRecDepth 100000 in
theorem wm_1120 : (.instanceMethod yX10_crab : Cond) ∈ WS := mw 1120 rfl rfl
set_option maxRecDepth 100000 in
theorem wm_1121 : (.selects RX10 yX10_crab yX10_crab : Cond) ∈ WS := mw 1121 rfl rfl
set_option maxRecDepth 100000 in
theorem wm_1122 : (.code yX10_crab cX10_crab 3 (some .int) : Cond) ∈ WS := mw 1122 rfl rfl
set_option maxRecDepth 100000 in
theorem wm_1123 : (.methodLink RX10 225 yX10_isCrab : Cond) ∈ WS := mw 1123 rfl rfl
set_option maxRecDepth 100000 in
theorem wm_1125 : (.instanceMethod yX10_isCrab : Cond) ∈ WS := mw 1125 rfl rfl
set_option maxRecDepth 100000 in
theorem wm_1126 : (.code yX10_isCrab cX10_isCrab 2 (some .boolean) : Cond) ∈ WS := mw 1126 rfl rfl
set_option maxRecDepth 100000 in
theorem wm_1127 : (.methodLink RX10 191 yX10_heldBy : Cond) ∈ WS := mw 1127 rfl rfl
set_option maxRecDepth 100000 in
theorem wm_1129 : (.instanceMethod yX10_heldBy : Cond) ∈ WS := mw 1129 rfl rfl
set_option maxRecDepth 100000 in
theorem wm_1130 : (.code yX10_heldBy cX10_heldBy 4 (some .int) : Cond) ∈ WS := mw 1130 rfl rfl
set_option maxRecDepth 100000 in
theorem wm_1131 : (.methodLink RL 54 yX10_dig : Cond) ∈ WS := mw 1131 rfl rfl
set_option maxRecDepth 100000 in
theorem wm_1132 : (.instanceMethod yX10_dig : Cond) ∈ WS := mw 1132 rfl rfl
set_option maxRecDepth 100000 in
theorem wm_1133 : (.selects RX10 yX10_dig yX10_dig : Cond) ∈ WS := mw 1133 rfl rfl
set_option maxRecDepth 100000 in
theorem wm_1134 : (.code yX10_dig cX10_dig 3 (some .int) : Cond) ∈ WS := mw 1134 rfl rfl
set_option maxRecDepth 100000 in
theorem wm_1135 : (.constantLong RX10 228 (9) : Cond) ∈ WS := mw 1135 rfl rfl
set_option maxRecDepth 100000 in
theorem wm_1136 : (.methodLink RX10 230 yX10_manyAt : Cond) ∈ WS := mw 1136 rfl rfl
set_option maxRecDepth 100000 in
theorem wm_1138 : (.instanceMethod yX10_manyAt : Cond) ∈ WS := mw 1138 rfl rfl
set_option maxRecDepth 100000 in
theorem wm_1139 : (.code yX10_manyAt cX10_manyAt 4 (some .int) : Cond) ∈ WS := mw 1139 rfl rfl
set_option maxRecDepth 100000 in
theorem wm_1140 : (.methodLink RX10 233 yX10_becomes : Cond) ∈ WS := mw 1140 rfl rfl
set_option maxRecDepth 100000 in
theorem wm_1142 : (.instanceMethod yX10_becomes : Cond) ∈ WS := mw 1142 rfl rfl
set_option maxRecDepth 100000 in
theorem wm_1143 : (.code yX10_becomes cX10_becomes 4 (some .int) : Cond) ∈ WS := mw 1143 rfl rfl
set_option maxRecDepth 100000 in
theorem wm_1144 : (.methodLink RL 58 yX10_mint : Cond) ∈ WS := mw 1144 rfl rfl
set_option maxRecDepth 100000 in
theorem wm_1145 : (.instanceMethod yX10_mint : Cond) ∈ WS := mw 1145 rfl rfl
set_option maxRecDepth 100000 in
theorem wm_1146 : (.selects RX10 yX10_mint yX10_mint : Cond) ∈ WS := mw 1146 rfl rfl
set_option maxRecDepth 100000 in
theorem wm_1147 : (.code yX10_mint cX10_mint 4 (some .int) : Cond) ∈ WS := mw 1147 rfl rfl
set_option maxRecDepth 100000 in
theorem wm_1148 : (.methodLink RL 62 yX10_lie : Cond) ∈ WS := mw 1148 rfl rfl
set_option maxRecDepth 100000 in
theorem wm_1149 : (.instanceMethod yX10_lie : Cond) ∈ WS := mw 1149 rfl rfl
set_option maxRecDepth 100000 in
theorem wm_1150 : (.selects RX10 yX10_lie yX10_lie : Cond) ∈ WS := mw 1150 rfl rfl
set_option maxRecDepth 100000 in
theorem wm_1151 : (.code yX10_lie cX10_lie 3 (some .int) : Cond) ∈ WS := mw 1151 rfl rfl
set_option maxRecDepth 100000 in
theorem wm_1152 : (.methodLink RL 67 yX10_fake : Cond) ∈ WS := mw 1152 rfl rfl
set_option maxRecDepth 100000 in
theorem wm_1153 : (.instanceMethod yX10_fake : Cond) ∈ WS := mw 1153 rfl rfl
set_option maxRecDepth 100000 in
theorem wm_1154 : (.selects RX10 yX10_fake yX10_fake : Cond) ∈ WS := mw 1154 rfl rfl
set_option maxRecDepth 100000 in
theorem wm_1155 : (.code yX10_fake cX10_fake 3 (some .int) : Cond) ∈ WS := mw 1155 rfl rfl
set_option maxRecDepth 100000 in
theorem wm_1156 : (.methodLink RL 71 yX10_set : Cond) ∈ WS := mw 1156 rfl rfl
set_option maxRecDepth 100000 in
theorem wm_1157 : (.instanceMethod yX10_set : Cond) ∈ WS := mw 1157 rfl rfl
set_option maxRecDepth 100000 in
theorem wm_1158 : (.selects RX10 yX10_set yX10_set : Cond) ∈ WS := mw 1158 rfl rfl
set_option maxRecDepth 100000 in
theorem wm_1159 : (.code yX10_set cX10_set 3 (some .int) : Cond) ∈ WS := mw 1159 rfl rfl
set_option maxRecDepth 100000 in
theorem wm_1160 : (.methodLink RL 75 yX10_hand : Cond) ∈ WS := mw 1160 rfl rfl
set_option maxRecDepth 100000 in
theorem wm_1161 : (.instanceMethod yX10_hand : Cond) ∈ WS := mw 1161 rfl rfl
set_option maxRecDepth 100000 in
theorem wm_1162 : (.selects RX10 yX10_hand yX10_hand : Cond) ∈ WS := mw 1162 rfl rfl
set_option maxRecDepth 100000 in
theorem wm_1163 : (.code yX10_hand cX10_hand 3 (some .int) : Cond) ∈ WS := mw 1163 rfl rfl
set_option maxRecDepth 100000 in
theorem wm_1164 : (.methodLink RL 79 yX10_tide : Cond) ∈ WS := mw 1164 rfl rfl
set_option maxRecDepth 100000 in
theorem wm_1165 : (.instanceMethod yX10_tide : Cond) ∈ WS := mw 1165 rfl rfl
set_option maxRecDepth 100000 in
theorem wm_1166 : (.selects RX10 yX10_tide yX10_tide : Cond) ∈ WS := mw 1166 rfl rfl
set_option maxRecDepth 100000 in
theorem wm_1167 : (.code yX10_tide cX10_tide 3 (some .int) : Cond) ∈ WS := mw 1167 rfl rfl
set_option maxRecDepth 100000 in
theorem wm_1168 : (.constantLong RX10 236 (8) : Cond) ∈ WS := mw 1168 rfl rfl
set_option maxRecDepth 100000 in
theorem wm_1169 : (.methodLink RL 83 yX10_go : Cond) ∈ WS := mw 1169 rfl rfl
set_option maxRecDepth 100000 in
theorem wm_1170 : (.instanceMethod yX10_go : Cond) ∈ WS := mw 1170 rfl rfl
set_option maxRecDepth 100000 in
theorem wm_1171 : (.selects RX10 yX10_go yX10_go : Cond) ∈ WS := mw 1171 rfl rfl
set_option maxRecDepth 100000 in
theorem wm_1172 : (.code yX10_go cX10_go 3 (some .int) : Cond) ∈ WS := mw 1172 rfl rfl
set_option maxRecDepth 100000 in
theorem wm_1173 : (.constantLong RX10 238 (60) : Cond) ∈ WS := mw 1173 rfl rfl
set_option maxRecDepth 100000 in
theorem wm_1174 : (.methodLink RX10 213 yX10_steps : Cond) ∈ WS := mw 1174 rfl rfl
set_option maxRecDepth 100000 in
theorem wm_1176 : (.instanceMethod yX10_steps : Cond) ∈ WS := mw 1176 rfl rfl
set_option maxRecDepth 100000 in
theorem wm_1177 : (.code yX10_steps cX10_steps 3 none : Cond) ∈ WS := mw 1177 rfl rfl
set_option maxRecDepth 100000 in
theorem wm_1178 : (.methodLink RX10 197 yX10_does : Cond) ∈ WS := mw 1178 rfl rfl
set_option maxRecDepth 100000 in
theorem wm_1180 : (.instanceMethod yX10_does : Cond) ∈ WS := mw 1180 rfl rfl
set_option maxRecDepth 100000 in
theorem wm_1181 : (.code yX10_does cX10_does 5 none : Cond) ∈ WS := mw 1181 rfl rfl
set_option maxRecDepth 100000 in
theorem wm_1182 : (.methodLink RX10 194 yX10_lyingFor : Cond) ∈ WS := mw 1182 rfl rfl
set_option maxRecDepth 100000 in
theorem wm_1184 : (.instanceMethod yX10_lyingFor : Cond) ∈ WS := mw 1184 rfl rfl
set_option maxRecDepth 100000 in
theorem wm_1185 : (.code yX10_lyingFor cX10_lyingFor 4 (some .int) : Cond) ∈ WS := mw 1185 rfl rfl
set_option maxRecDepth 100000 in
theorem wm_1186 : (.methodLink RX10 187 yX10_doesFit : Cond) ∈ WS := mw 1186 rfl rfl
set_option maxRecDepth 100000 in
theorem wm_1188 : (.instanceMethod yX10_doesFit : Cond) ∈ WS := mw 1188 rfl rfl
set_option maxRecDepth 100000 in
theorem wm_1189 : (.code yX10_doesFit cX10_doesFit 3 (some .boolean) : Cond) ∈ WS := mw 1189 rfl rfl
set_option maxRecDepth 100000 in
theorem wm_1190 : (.methodLink RX10 200 yX10_fights : Cond) ∈ WS := mw 1190 rfl rfl
set_option maxRecDepth 100000 in
theorem wm_1192 : (.instanceMethod yX10_fights : Cond) ∈ WS := mw 1192 rfl rfl
set_option maxRecDepth 100000 in
theorem wm_1193 : (.code yX10_fights cX10_fights 8 none : Cond) ∈ WS := mw 1193 rfl rfl
set_option maxRecDepth 100000 in
theorem wm_1194 : (.methodLink RX10 210 yX10_rightMany : Cond) ∈ WS := mw 1194 rfl rfl
set_option maxRecDepth 100000 in
theorem wm_1196 : (.instanceMethod yX10_rightMany : Cond) ∈ WS := mw 1196 rfl rfl
set_option maxRecDepth 100000 in
theorem wm_1197 : (.code yX10_rightMany cX10_rightMany 3 (some .int) : Cond) ∈ WS := mw 1197 rfl rfl
set_option maxRecDepth 100000 in
theorem wm_1198 : (.methodLink RL 87 yX10_ahead : Cond) ∈ WS := mw 1198 rfl rfl
set_option maxRecDepth 100000 in
theorem wm_1199 : (.instanceMethod yX10_ahead : Cond) ∈ WS := mw 1199 rfl rfl
set_option maxRecDepth 100000 in
theorem wm_1200 : (.selects RX10 yX10_ahead yX10_ahead : Cond) ∈ WS := mw 1200 rfl rfl
set_option maxRecDepth 100000 in
theorem wm_1201 : (.code yX10_ahead cX10_ahead 4 (some .int) : Cond) ∈ WS := mw 1201 rfl rfl
set_option maxRecDepth 100000 in
theorem wm_1202 : (.methodLink RL 91 yX10_grow : Cond) ∈ WS := mw 1202 rfl rfl
set_option maxRecDepth 100000 in
theorem wm_1203 : (.instanceMethod yX10_grow : Cond) ∈ WS := mw 1203 rfl rfl
set_option maxRecDepth 100000 in
theorem wm_1204 : (.selects RX10 yX10_grow yX10_grow : Cond) ∈ WS := mw 1204 rfl rfl
set_option maxRecDepth 100000 in
theorem wm_1205 : (.code yX10_grow cX10_grow 3 (some .int) : Cond) ∈ WS := mw 1205 rfl rfl
set_option maxRecDepth 100000 in
theorem wm_1206 : (.methodLink RL 95 yX10_sorted : Cond) ∈ WS := mw 1206 rfl rfl
set_option maxRecDepth 100000 in
theorem wm_1207 : (.instanceMethod yX10_sorted : Cond) ∈ WS := mw 1207 rfl rfl
set_option maxRecDepth 100000 in
theorem wm_1208 : (.selects RX10 yX10_sorted yX10_sorted : Cond) ∈ WS := mw 1208 rfl rfl
set_option maxRecDepth 100000 in
theorem wm_1209 : (.code yX10_sorted cX10_sorted 1 (some .int) : Cond) ∈ WS := mw 1209 rfl rfl
set_option maxRecDepth 100000 in
theorem wm_1210 : (.methodLink RX10 240 yX10_sortedBehind : Cond) ∈ WS := mw 1210 rfl rfl
set_option maxRecDepth 100000 in
theorem wm_1212 : (.instanceMethod yX10_sortedBehind : Cond) ∈ WS := mw 1212 rfl rfl
set_option maxRecDepth 100000 in
theorem wm_1213 : (.code yX10_sortedBehind cX10_sortedBehind 2 (some .int) : Cond) ∈ WS := mw 1213 rfl rfl
set_option maxRecDepth 100000 in
theorem wm_1214 : (.methodLink RL 99 yX10_orders : Cond) ∈ WS := mw 1214 rfl rfl
set_option maxRecDepth 100000 in
theorem wm_1215 : (.instanceMethod yX10_orders : Cond) ∈ WS := mw 1215 rfl rfl
set_option maxRecDepth 100000 in
theorem wm_1216 : (.selects RX10 yX10_orders yX10_orders : Cond) ∈ WS := mw 1216 rfl rfl
set_option maxRecDepth 100000 in
theorem wm_1217 : (.code yX10_orders cX10_orders 8 (some .int) : Cond) ∈ WS := mw 1217 rfl rfl
set_option maxRecDepth 100000 in
theorem wm_1218 : (.constantLong RX10 243 (10) : Cond) ∈ WS := mw 1218 rfl rfl
set_option maxRecDepth 100000 in
theorem wm_1219 : (.constantLong RX10 245 (13) : Cond) ∈ WS := mw 1219 rfl rfl
set_option maxRecDepth 100000 in
theorem wm_1220 : (.methodLink RX10 247 yX10_nextOrder : Cond) ∈ WS := mw 1220 rfl rfl
set_option maxRecDepth 100000 in
theorem wm_1222 : (.instanceMethod yX10_nextOrder : Cond) ∈ WS := mw 1222 rfl rfl
set_option maxRecDepth 100000 in
theorem wm_1223 : (.code yX10_nextOrder cX10_nextOrder 6 (some .boolean) : Cond) ∈ WS := mw 1223 rfl rfl
set_option maxRecDepth 100000 in
theorem wm_1224 : (.methodLink RL 103 yX10_fewest : Cond) ∈ WS := mw 1224 rfl rfl
set_option maxRecDepth 100000 in
theorem wm_1225 : (.instanceMethod yX10_fewest : Cond) ∈ WS := mw 1225 rfl rfl
set_option maxRecDepth 100000 in
theorem wm_1226 : (.selects RX10 yX10_fewest yX10_fewest : Cond) ∈ WS := mw 1226 rfl rfl
set_option maxRecDepth 100000 in
theorem wm_1227 : (.code yX10_fewest cX10_fewest 7 (some .int) : Cond) ∈ WS := mw 1227 rfl rfl
set_option maxRecDepth 100000 in
theorem wm_1228 : (.methodLink RL 107 yX10_better : Cond) ∈ WS := mw 1228 rfl rfl
set_option maxRecDepth 100000 in
theorem wm_1229 : (.instanceMethod yX10_better : Cond) ∈ WS := mw 1229 rfl rfl
set_option maxRecDepth 100000 in
theorem wm_1230 : (.selects RX10 yX10_better yX10_better : Cond) ∈ WS := mw 1230 rfl rfl
set_option maxRecDepth 100000 in
theorem wm_1231 : (.code yX10_better cX10_better 8 (some .int) : Cond) ∈ WS := mw 1231 rfl rfl
set_option maxRecDepth 100000 in
theorem wm_1232 : (.methodLink RL 111 yX10_weeks : Cond) ∈ WS := mw 1232 rfl rfl
set_option maxRecDepth 100000 in
theorem wm_1233 : (.instanceMethod yX10_weeks : Cond) ∈ WS := mw 1233 rfl rfl
set_option maxRecDepth 100000 in
theorem wm_1234 : (.selects RX10 yX10_weeks yX10_weeks : Cond) ∈ WS := mw 1234 rfl rfl
set_option maxRecDepth 100000 in
theorem wm_1235 : (.code yX10_weeks cX10_weeks 4 (some .int) : Cond) ∈ WS := mw 1235 rfl rfl
set_option maxRecDepth 100000 in
theorem wm_1236 : (.methodLink RL 116 yX10_see : Cond) ∈ WS := mw 1236 rfl rfl
set_option maxRecDepth 100000 in
theorem wm_1237 : (.instanceMethod yX10_see : Cond) ∈ WS := mw 1237 rfl rfl
set_option maxRecDepth 100000 in
theorem wm_1238 : (.selects RX10 yX10_see yX10_see : Cond) ∈ WS := mw 1238 rfl rfl
set_option maxRecDepth 100000 in
theorem wm_1239 : (.code yX10_see cX10_see 6 (some .int) : Cond) ∈ WS := mw 1239 rfl rfl
set_option maxRecDepth 100000 in
theorem wm_1240 : (.constantLong RX10 253 (20) : Cond) ∈ WS := mw 1240 rfl rfl
set_option maxRecDepth 100000 in
theorem wm_1241 : (.methodLink RX10 257 yX10_isWhere : Cond) ∈ WS := mw 1241 rfl rfl
set_option maxRecDepth 100000 in
theorem wm_1242 : (.static yX10_isWhere : Cond) ∈ WS := mw 1242 rfl rfl
set_option maxRecDepth 100000 in
theorem wm_1243 : (.code yX10_isWhere cX10_isWhere 1 (some .boolean) : Cond) ∈ WS := mw 1243 rfl rfl
set_option maxRecDepth 100000 in
theorem wm_1244 : (.constantLong RX10 251 (7) : Cond) ∈ WS := mw 1244 rfl rfl
set_option maxRecDepth 100000 in
theorem wm_1245 : (.constantLong RX10 255 (27) : Cond) ∈ WS := mw 1245 rfl rfl
set_option maxRecDepth 100000 in
theorem wm_1246 : (.methodLink RL 120 yX10_forget : Cond) ∈ WS := mw 1246 rfl rfl
set_option maxRecDepth 100000 in
theorem wm_1247 : (.instanceMethod yX10_forget : Cond) ∈ WS := mw 1247 rfl rfl
set_option maxRecDepth 100000 in
theorem wm_1248 : (.selects RX10 yX10_forget yX10_forget : Cond) ∈ WS := mw 1248 rfl rfl
set_option maxRecDepth 100000 in
theorem wm_1249 : (.code yX10_forget cX10_forget 3 (some .int) : Cond) ∈ WS := mw 1249 rfl rfl
set_option maxRecDepth 100000 in
theorem wm_1250 : (.methodLink RL 124 yX10_fakes : Cond) ∈ WS := mw 1250 rfl rfl
set_option maxRecDepth 100000 in
theorem wm_1251 : (.instanceMethod yX10_fakes : Cond) ∈ WS := mw 1251 rfl rfl
set_option maxRecDepth 100000 in
theorem wm_1252 : (.selects RX10 yX10_fakes yX10_fakes : Cond) ∈ WS := mw 1252 rfl rfl
set_option maxRecDepth 100000 in
theorem wm_1253 : (.code yX10_fakes cX10_fakes 9 (some .int) : Cond) ∈ WS := mw 1253 rfl rfl
set_option maxRecDepth 100000 in
theorem wm_1254 : (.constantLong RX10 260 (3) : Cond) ∈ WS := mw 1254 rfl rfl
set_option maxRecDepth 100000 in
theorem wm_1255 : (.methodLink RX10 262 yX10_isSo : Cond) ∈ WS := mw 1255 rfl rfl
set_option maxRecDepth 100000 in
theorem wm_1257 : (.instanceMethod yX10_isSo : Cond) ∈ WS := mw 1257 rfl rfl
set_option maxRecDepth 100000 in
theorem wm_1258 : (.code yX10_isSo cX10_isSo 5 (some .boolean) : Cond) ∈ WS := mw 1258 rfl rfl
set_option maxRecDepth 100000 in
theorem wm_1259 : (.methodLink RL 128 yX10_wrong : Cond) ∈ WS := mw 1259 rfl rfl
set_option maxRecDepth 100000 in
theorem wm_1260 : (.instanceMethod yX10_wrong : Cond) ∈ WS := mw 1260 rfl rfl
set_option maxRecDepth 100000 in
theorem wm_1261 : (.selects RX10 yX10_wrong yX10_wrong : Cond) ∈ WS := mw 1261 rfl rfl
set_option maxRecDepth 100000 in
theorem wm_1262 : (.code yX10_wrong cX10_wrong 3 (some .int) : Cond) ∈ WS := mw 1262 rfl rfl
set_option maxRecDepth 100000 in
theorem wm_1263 : (.methodLink RL 133 yX10_gulls : Cond) ∈ WS := mw 1263 rfl rfl
set_option maxRecDepth 100000 in
theorem wm_1264 : (.instanceMethod yX10_gulls : Cond) ∈ WS := mw 1264 rfl rfl
set_option maxRecDepth 100000 in
theorem wm_1265 : (.selects RX10 yX10_gulls yX10_gulls : Cond) ∈ WS := mw 1265 rfl rfl
set_option maxRecDepth 100000 in
theorem wm_1266 : (.code yX10_gulls cX10_gulls 8 (some .int) : Cond) ∈ WS := mw 1266 rfl rfl
set_option maxRecDepth 100000 in
theorem wm_1267 : (.constant RX10 265 (1103515245) : Cond) ∈ WS := mw 1267 rfl rfl
set_option maxRecDepth 100000 in
theorem wm_1268 : (.methodLink RL 137 yX10_keep : Cond) ∈ WS := mw 1268 rfl rfl
set_option maxRecDepth 100000 in
theorem wm_1269 : (.instanceMethod yX10_keep : Cond) ∈ WS := mw 1269 rfl rfl
set_option maxRecDepth 100000 in
theorem wm_1270 : (.selects RX10 yX10_keep yX10_keep : Cond) ∈ WS := mw 1270 rfl rfl
set_option maxRecDepth 100000 in
theorem wm_1271 : (.code yX10_keep cX10_keep 3 (some .int) : Cond) ∈ WS := mw 1271 rfl rfl
set_option maxRecDepth 100000 in
theorem wm_1272 : (.methodLink RX10 266 yX10_copies : Cond) ∈ WS := mw 1272 rfl rfl
set_option maxRecDepth 100000 in
theorem wm_1274 : (.instanceMethod yX10_copies : Cond) ∈ WS := mw 1274 rfl rfl
set_option maxRecDepth 100000 in
theorem wm_1275 : (.code yX10_copies cX10_copies 4 none : Cond) ∈ WS := mw 1275 rfl rfl
set_option maxRecDepth 100000 in
theorem wm_1276 : (.methodLink RL 141 yX10_back : Cond) ∈ WS := mw 1276 rfl rfl
set_option maxRecDepth 100000 in
theorem wm_1277 : (.instanceMethod yX10_back : Cond) ∈ WS := mw 1277 rfl rfl
set_option maxRecDepth 100000 in
theorem wm_1278 : (.selects RX10 yX10_back yX10_back : Cond) ∈ WS := mw 1278 rfl rfl
set_option maxRecDepth 100000 in
theorem wm_1279 : (.code yX10_back cX10_back 2 (some .int) : Cond) ∈ WS := mw 1279 rfl rfl
set_option maxRecDepth 100000 in
theorem wm_1280 : (.methodLink RL 145 yX10_sheet : Cond) ∈ WS := mw 1280 rfl rfl
set_option maxRecDepth 100000 in
theorem wm_1281 : (.instanceMethod yX10_sheet : Cond) ∈ WS := mw 1281 rfl rfl
set_option maxRecDepth 100000 in
theorem wm_1282 : (.selects RX10 yX10_sheet yX10_sheet : Cond) ∈ WS := mw 1282 rfl rfl
set_option maxRecDepth 100000 in
theorem wm_1283 : (.code yX10_sheet cX10_sheet 5 (some .int) : Cond) ∈ WS := mw 1283 rfl rfl
set_option maxRecDepth 100000 in
theorem wm_1284 : (.methodLink RX10 272 yX10_isSheet : Cond) ∈ WS := mw 1284 rfl rfl
set_option maxRecDepth 100000 in
theorem wm_1285 : (.static yX10_isSheet : Cond) ∈ WS := mw 1285 rfl rfl
set_option maxRecDepth 100000 in
theorem wm_1286 : (.code yX10_isSheet cX10_isSheet 2 (some .boolean) : Cond) ∈ WS := mw 1286 rfl rfl
set_option maxRecDepth 100000 in
theorem wm_1287 : (.constantLong RX10 270 (2) : Cond) ∈ WS := mw 1287 rfl rfl
set_option maxRecDepth 100000 in
theorem wm_1288 : (.methodLink RL 149 yX10_lay : Cond) ∈ WS := mw 1288 rfl rfl
set_option maxRecDepth 100000 in
theorem wm_1289 : (.instanceMethod yX10_lay : Cond) ∈ WS := mw 1289 rfl rfl
set_option maxRecDepth 100000 in
theorem wm_1290 : (.selects RX10 yX10_lay yX10_lay : Cond) ∈ WS := mw 1290 rfl rfl
set_option maxRecDepth 100000 in
theorem wm_1291 : (.code yX10_lay cX10_lay 4 (some .int) : Cond) ∈ WS := mw 1291 rfl rfl
set_option maxRecDepth 100000 in
theorem wm_1292 : (.methodLink RL 154 yX10_read : Cond) ∈ WS := mw 1292 rfl rfl
set_option maxRecDepth 100000 in
theorem wm_1293 : (.instanceMethod yX10_read : Cond) ∈ WS := mw 1293 rfl rfl
set_option maxRecDepth 100000 in
theorem wm_1294 : (.selects RX10 yX10_read yX10_read : Cond) ∈ WS := mw 1294 rfl rfl
set_option maxRecDepth 100000 in
theorem wm_1295 : (.code yX10_read cX10_read 12 (some .int) : Cond) ∈ WS := mw 1295 rfl rfl
set_option maxRecDepth 100000 in
theorem wm_1296 : (.methodLink RX10 275 yX10_mint : Cond) ∈ WS := mw 1296 rfl rfl
set_option maxRecDepth 100000 in
theorem wm_1297 : (.methodLink RL 158 yX10_torn : Cond) ∈ WS := mw 1297 rfl rfl
set_option maxRecDepth 100000 in
theorem wm_1298 : (.instanceMethod yX10_torn : Cond) ∈ WS := mw 1298 rfl rfl
set_option maxRecDepth 100000 in
theorem wm_1299 : (.selects RX10 yX10_torn yX10_torn : Cond) ∈ WS := mw 1299 rfl rfl
set_option maxRecDepth 100000 in
theorem wm_1300 : (.code yX10_torn cX10_torn 1 (some .int) : Cond) ∈ WS := mw 1300 rfl rfl
set_option maxRecDepth 100000 in
theorem wm_1301 : (.methodLink RL 162 yX10_count : Cond) ∈ WS := mw 1301 rfl rfl
set_option maxRecDepth 100000 in
theorem wm_1302 : (.instanceMethod yX10_count : Cond) ∈ WS := mw 1302 rfl rfl
set_option maxRecDepth 100000 in
theorem wm_1303 : (.selects RX10 yX10_count yX10_count : Cond) ∈ WS := mw 1303 rfl rfl
set_option maxRecDepth 100000 in
theorem wm_1304 : (.code yX10_count cX10_count 6 (some .int) : Cond) ∈ WS := mw 1304 rfl rfl
set_option maxRecDepth 100000 in
theorem wm_1305 : (.constantLong RL 13 (4294967295) : Cond) ∈ WS := mw 1305 rfl rfl
set_option maxRecDepth 100000 in
theorem wm_1306 : (.fieldLink RJ0 9 RJ0 "value" "[B" : Cond) ∈ WS := mw 1306 rfl rfl
set_option maxRecDepth 100000 in
theorem wm_1307 : (.fieldLink RJ0 15 RJ0 "coder" "B" : Cond) ∈ WS := mw 1307 rfl rfl
end
section
/-- kind k holds the objects of the class C (number ci of vwCl) -/
def KC (k ci : Nat) (C : String) (T : u_T) (N : Nat) (ty : Nat → FieldType) : Prop :=
  isAr k = false ∧ k < 43 ∧ (∀ (B o : Nat) (r : Nat → Int32), (objE B k o r).1 = ci ∧ (objE B k o r).2.length = N) ∧ vwCl[ci]? = some (C, T, N) ∧ (∀ w ∈ u_ws C T N, w ∈ WS) ∧ (∀ j, j < N → parseFieldDescriptor (T j).2.2.1 = some (ty j)) ∧ (∀ a, a < N → ∀ b, b < N → a ≠ b → (T a).2.1 ≠ (T b).2.1) ∧ ∀ j, j < N → (T j).1 = C
theorem uin {C : String} {T : u_T} {N : Nat} (h : ∀ w ∈ u_ws C T N, w ∈ lw_tbl) (g : (u_ws C T N).all goodWord = true) : ∀ w ∈ u_ws C T N, w ∈ WS := fun w hw => List.mem_filter.mpr ⟨h w hw, List.all_eq_true.mp g w hw⟩
set_option maxRecDepth 100000 in
theorem kc_0 : KC 0 9 RX9 TX9 9 tyX9 := ⟨rfl, by decide, fun _ _ _ => ⟨rfl, rfl⟩, rfl, uin (by decide +kernel) (by decide +kernel), tyX9_ok, nmX9, by decide +kernel⟩
set_option maxRecDepth 100000 in
theorem kc_1 : KC 1 0 RX0 TX0 11 tyX0 := ⟨rfl, by decide, fun _ _ _ => ⟨rfl, rfl⟩, rfl, uin (by decide +kernel) (by decide +kernel), tyX0_ok, nmX0, by decide +kernel⟩
set_option maxRecDepth 100000 in
theorem kc_6 : KC 6 1 RX1 TX1 4 tyX1 := ⟨rfl, by decide, fun _ _ _ => ⟨rfl, rfl⟩, rfl, uin (by decide +kernel) (by decide +kernel), tyX1_ok, nmX1, by decide +kernel⟩
set_option maxRecDepth 100000 in
theorem kc_7 : KC 7 2 RX2 TX2 5 tyX2 := ⟨rfl, by decide, fun _ _ _ => ⟨rfl, rfl⟩, rfl, uin (by decide +kernel) (by decide +kernel), tyX2_ok, nmX2, by decide +kernel⟩
set_option maxRecDepth 100000 in
theorem kc_8 : KC 8 6 RX6 TX6 5 tyX6 := ⟨rfl, by decide, fun _ _ _ => ⟨rfl, rfl⟩, rfl, uin (by decide +kernel) (by decide +kernel), tyX6_ok, nmX6, by decide +kernel⟩
set_option maxRecDepth 100000 in
theorem kc_13 : KC 13 4 RX4 TX4 4 tyX4 := ⟨rfl, by decide, fun _ _ _ => ⟨rfl, rfl⟩, rfl, uin (by decide +kernel) (by decide +kernel), tyX4_ok, nmX4, by decide +kernel⟩
set_option maxRecDepth 100000 in
theorem kc_16 : KC 16 8 RX8 TX8 10 tyX8 := ⟨rfl, by decide, fun _ _ _ => ⟨rfl, rfl⟩, rfl, uin (by decide +kernel) (by decide +kernel), tyX8_ok, nmX8, by decide +kernel⟩
set_option maxRecDepth 100000 in
theorem kc_17 : KC 17 7 RX7 TX7 2 tyX7 := ⟨rfl, by decide, fun _ _ _ => ⟨rfl, rfl⟩, rfl, uin (by decide +kernel) (by decide +kernel), tyX7_ok, nmX7, by decide +kernel⟩
set_option maxRecDepth 100000 in
theorem kc_20 : KC 20 3 RX3 TX3 3 tyX3 := ⟨rfl, by decide, fun _ _ _ => ⟨rfl, rfl⟩, rfl, uin (by decide +kernel) (by decide +kernel), tyX3_ok, nmX3, by decide +kernel⟩
set_option maxRecDepth 100000 in
theorem kc_22 : KC 22 5 RX5 TX5 3 tyX5 := ⟨rfl, by decide, fun _ _ _ => ⟨rfl, rfl⟩, rfl, uin (by decide +kernel) (by decide +kernel), tyX5_ok, nmX5, by decide +kernel⟩
set_option maxRecDepth 100000 in
theorem kc_24 : KC 24 10 RX10 TX10 34 tyX10 := ⟨rfl, by decide, fun _ _ _ => ⟨rfl, rfl⟩, rfl, uin (by decide +kernel) (by decide +kernel), tyX10_ok, nmX10, by decide +kernel⟩
section Rules2
variable {Θ : Tht} {Γ : Ctx} {cc : ByteArray} {own : String} {nL : Nat} {R : Room} {pc n : Nat} {lv : List (Nat × Value)} {st : List Value} {h : Mem}
theorem ent_obj {B : Nat} {cy : Nat → ClassId} {h : Mem} {k o i : Nat} (ha : isAr k = false) : ent B cy h (k, o, i) = .inr (objE B k o (fun j => h k j o i)) := by
  unfold ent
  simp [ha]
theorem ent_arr {B : Nat} {cy : Nat → ClassId} {h : Mem} {k o i : Nat} (ha : isAr k = true) : ent B cy h (k, o, i) = .inl (arrE B cy k o (fun j => h k 0 o j)) := by
  unfold ent
  simp [ha]
theorem wd_obj {B : Nat} {cy : Nat → ClassId} {h : Mem} {k o i ci N : Nat} {C : String} {T : u_T} {ty : Nat → FieldType} (kc : KC k ci C T N ty) (ho : o < no k) (hi : i < ni k) : (wd B cy h)[pos k o i]? = some (ad B k o i, .inr (ci, (objE B k o (fun j => h k j o i)).2)) := by
  rw [wd_at h kc.2.1 ho hi, ent_obj kc.1]
  have := (kc.2.2.1 B o (fun j => h k j o i)).1
  rw [← this]
/-- a field is read -/
theorem g_get (C0 : Cx Θ Γ cc own nL R) {k j o i ci N idx : Nat} {C : String} {T : u_T} {ty : Nat → FieldType} {v : Value} (kc : KC k ci C T N ty) (ho : o < no k) (hi : i < ni k) (hj : j < N) (hv : (objE (tB Θ) k o (fun j => h k j o i)).2[j]? = some v) (hl : Cond.fieldLink own idx C (T j).2.1 (T j).2.2.1 ∈ WS) (hd : decode cc pc = .ok (.getfield idx, 3)) (hn : pc + 3 = n) (kk : G Θ Γ n lv (v :: st) h) : G Θ Γ pc lv (.ref (rr Θ k o i) :: st) h := by
  subst hn
  intro H locs ls hP hS hL
  exact va_get C0.ex C0.bt C0.ws kc.2.2.2.2.1 C0.ow C0.k hP (pos k o i) (wd_obj kc ho hi) kc.2.2.2.1 j hj (C0.ws _ hl) (fun x hx => by rw [kc.2.2.2.2.2.2.2 j hj] at hx; exact hx) hv hd (kk H locs ls hP hS hL)
theorem g_getI (C0 : Cx Θ Γ cc own nL R) {k j o i ci N idx : Nat} {C : String} {T : u_T} {ty : Nat → FieldType} (kc : KC k ci C T N ty) (ft : FT k j) (ho : o < no k) (hi : i < ni k) (hj : j < N) (hl : Cond.fieldLink own idx C (T j).2.1 (T j).2.2.1 ∈ WS) (hd : decode cc pc = .ok (.getfield idx, 3)) (hn : pc + 3 = n) (kk : G Θ Γ n lv (.int (h k j o i) :: st) h) : G Θ Γ pc lv (.ref (rr Θ k o i) :: st) h :=
  g_get C0 kc ho hi hj (ft _ o _ 0).2 hl hd hn kk
theorem g_getR (C0 : Cx Θ Γ cc own nL R) {k j o i ci N idx q : Nat} {C : String} {T : u_T} {ty : Nat → FieldType} (kc : KC k ci C T N ty) (rt : ∀ (r : Nat → Int32), (objE (tB Θ) k o r).2[j]? = some (.ref q)) (ho : o < no k) (hi : i < ni k) (hj : j < N) (hl : Cond.fieldLink own idx C (T j).2.1 (T j).2.2.1 ∈ WS) (hd : decode cc pc = .ok (.getfield idx, 3)) (hn : pc + 3 = n) (kk : G Θ Γ n lv (.ref q :: st) h) : G Θ Γ pc lv (.ref (rr Θ k o i) :: st) h :=
  g_get C0 kc ho hi hj (rt _) hl hd hn kk
theorem wd_upO {B : Nat} {cy : Nat → ClassId} {h : Mem} {k j o i ci N : Nat} {C : String} {T : u_T} {ty : Nat → FieldType} (kc : KC k ci C T N ty) (ft : FT k j) (ho : o < no k) (hi : i < ni k) (v : Int32) : (wd B cy h).set (pos k o i) (ad B k o i, .inr (ci, (objE B k o (fun j => h k j o i)).2.set j (.int v))) = wd B cy (up h k j o i v) := by
  refine wd_set kc.2.1 ho hi (fun q _ hq => ent_up kc.1 q hq) ?_
  rw [ent_obj kc.1, up_row, (ft B o _ v).1, (kc.2.2.1 B o _).1]
/-- a number is written into a field -/
theorem g_putI (C0 : Cx Θ Γ cc own nL R) {β : Type} {f : Mem → Option β} {K : β → Prop} {k j o i ci N idx : Nat} {C : String} {T : u_T} {ty : Nat → FieldType} {v : Int32} (kc : KC k ci C T N ty) (ft : FT k j) (ho : o < no k) (hi : i < ni k) (hj : j < N) (hf : (T j).2.2.2 = false) (hw : narrow (ty j) (.int v) = .int v ∧ fits (ty j) (.int v) = true) (hl : Cond.fieldLink own idx C (T j).2.1 (T j).2.2.1 ∈ WS) (hd : decode cc pc = .ok (.putfield idx, 3)) (hn : pc + 3 = n) (hk : Ok (bnd (up h k j o i v) f) K) (kk : ∀ h', Ok (f h') K → G Θ Γ n lv st h') : G Θ Γ pc lv (.int v :: .ref (rr Θ k o i) :: st) h := by
  subst hn
  intro H locs ls hP hS hL
  refine va_put C0.ex C0.bt C0.ws kc.2.2.2.2.1 ty kc.2.2.2.2.2.1 kc.2.2.2.2.2.2.1 C0.ow C0.k hP wd_D hS (pos k o i) (wd_obj kc ho hi) kc.2.2.2.1 j hj (C0.ws _ hl) (fun x hx => by rw [kc.2.2.2.2.2.2.2 j hj] at hx; exact hx) hf (kc.2.2.2.2.2.1 j hj) hw.1 hw.2 (by rw [(kc.2.2.1 _ _ _).2]; exact hj) hd (fun H1 locs1 hP1 _ hS1 => ?_)
  rw [wd_upO kc ft ho hi v] at hP1
  exact kk _ hk H1 locs1 ls hP1 hS1 hL
theorem fitI (v : Int32) : narrow .int (.int v) = .int v ∧ fits .int (.int v) = true := ⟨rfl, rfl⟩
theorem fitB (b : Bool) : narrow .boolean (.int (b2i b)) = .int (b2i b) ∧ fits .boolean (.int (b2i b)) = true := by cases b <;> decide
theorem fitZ {v : Int32} (hv : v = 0 ∨ v = 1) : narrow .boolean (.int v) = .int v ∧ fits .boolean (.int v) = true := by rcases hv with rfl | rfl <;> decide
/-- an array of numbers -/
def AN (k t : Nat) (ty : FieldType) (len : Nat) : Prop := isAr k = true ∧ k < 43 ∧ (∀ cy : Nat → ClassId, (tys cy)[t]? = some (cy t, ty)) ∧ ni k = 1 ∧ ∀ (B : Nat) (cy : Nat → ClassId) (o : Nat) (a : Nat → Int32), arrE B cy k o a = (cy t, len, .inl a)
theorem wd_arr {B : Nat} {cy : Nat → ClassId} {h : Mem} {k t o len : Nat} {ty : FieldType} (an : AN k t ty len) (ho : o < no k) : (wd B cy h)[pos k o 0]? = some (ad B k o 0, .inl (cy t, len, .inl (fun j => h k 0 o j))) := by
  rw [wd_at h an.2.1 ho (by rw [an.2.2.2.1]; exact Nat.zero_lt_one), ent_arr an.1, an.2.2.2.2]
theorem wd_upA {B : Nat} {cy : Nat → ClassId} {h : Mem} {k t o len : Nat} {ty : FieldType} (an : AN k t ty len) (ho : o < no k) (i : Nat) (v : Int32) : (wd B cy h).set (pos k o 0) (ad B k o 0, .inl (cy t, len, .inl (upd (fun j => h k 0 o j) i v))) = wd B cy (up h k 0 o i v) := by
  refine wd_set an.2.1 ho (by rw [an.2.2.2.1]; exact Nat.zero_lt_one) (fun q hm hq => ent_upA an.1 q hm hq) ?_
  rw [ent_arr an.1, an.2.2.2.2]
  have : (fun j => up h k 0 o i v k 0 o j) = upd (fun j => h k 0 o j) i v := by
    funext j
    simp [up, upd]
  rw [this]
section Arr
variable {β : Type} {z : Option β} {K : β → Prop} {k o len : Nat} {i : Int32}
theorem g_iald (C : Cx Θ Γ cc own nL R) {dz : Decidable (inb i len)} (an : AN k 0 .int len) (ho : o < no k) (hd : decode cc pc = .ok (.iaload, 1)) (hn : pc + 1 = n) (hk : Ok (@gd _ (inb i len) dz z) K) (kk : inb i len → Ok z K → G Θ Γ n lv (.int (h k 0 o i.toNatClampNeg) :: st) h) : G Θ Γ pc lv (.int i :: .ref (rr Θ k o 0) :: st) h := by
  subst hn
  exact fun H locs ls hP hS hl => va_iald C.ex C.bt C.k hP (pos k o 0) 0 (wd_arr an ho) (an.2.2.1 _) hk.gd.1 hd (kk hk.gd.1 hk.gd.2 H locs ls hP hS hl)
theorem g_bald (C : Cx Θ Γ cc own nL R) {dz : Decidable (inb i len)} (an : AN k 1 .byte len) (ho : o < no k) (hd : decode cc pc = .ok (.baload, 1)) (hn : pc + 1 = n) (hk : Ok (@gd _ (inb i len) dz z) K) (kk : inb i len → Ok z K → G Θ Γ n lv (.int (h k 0 o i.toNatClampNeg) :: st) h) : G Θ Γ pc lv (.int i :: .ref (rr Θ k o 0) :: st) h := by
  subst hn
  exact fun H locs ls hP hS hl => va_bald C.ex C.bt C.k hP (pos k o 0) 1 (wd_arr an ho) (an.2.2.1 _) hk.gd.1 hd (kk hk.gd.1 hk.gd.2 H locs ls hP hS hl)
theorem g_zald (C : Cx Θ Γ cc own nL R) {dz : Decidable (inb i len)} (an : AN k 2 .boolean len) (ho : o < no k) (hd : decode cc pc = .ok (.baload, 1)) (hn : pc + 1 = n) (hk : Ok (@gd _ (inb i len) dz z) K) (kk : inb i len → Ok z K → G Θ Γ n lv (.int (h k 0 o i.toNatClampNeg) :: st) h) : G Θ Γ pc lv (.int i :: .ref (rr Θ k o 0) :: st) h := by
  subst hn
  exact fun H locs ls hP hS hl => va_zald C.ex C.bt C.k hP (pos k o 0) 2 (wd_arr an ho) (an.2.2.1 _) hk.gd.1 hd (kk hk.gd.1 hk.gd.2 H locs ls hP hS hl)
theorem g_iast (C : Cx Θ Γ cc own nL R) {dz : Decidable (inb i len)} {f : Mem → Option β} {v : Int32} (an : AN k 0 .int len) (ho : o < no k) (hd : decode cc pc = .ok (.iastore, 1)) (hn : pc + 1 = n) (hk : Ok (@gd _ (inb i len) dz (bnd (up h k 0 o i.toNatClampNeg v) f)) K) (kk : inb i len → ∀ h', Ok (f h') K → G Θ Γ n lv st h') : G Θ Γ pc lv (.int v :: .int i :: .ref (rr Θ k o 0) :: st) h := by
  subst hn
  refine fun H locs ls hP hS hl => va_iast C.ex C.bt C.k hP wd_D hS (pos k o 0) 0 (wd_arr an ho) (an.2.2.1 _) hk.gd.1 hd (fun H1 locs1 hP1 _ hS1 => ?_)
  rw [wd_upA an ho] at hP1
  exact kk hk.gd.1 _ hk.gd.2 H1 locs1 ls hP1 hS1 hl
theorem g_bast (C : Cx Θ Γ cc own nL R) {dz : Decidable (inb i len)} {f : Mem → Option β} {v : Int32} (an : AN k 1 .byte len) (ho : o < no k) (hd : decode cc pc = .ok (.bastore, 1)) (hn : pc + 1 = n) (hk : Ok (@gd _ (inb i len) dz (bnd (up h k 0 o i.toNatClampNeg (vp_nar .byte v)) f)) K) (kk : inb i len → ∀ h', Ok (f h') K → G Θ Γ n lv st h') : G Θ Γ pc lv (.int v :: .int i :: .ref (rr Θ k o 0) :: st) h := by
  subst hn
  refine fun H locs ls hP hS hl => va_bast C.ex C.bt C.k hP wd_D hS (pos k o 0) 1 (wd_arr an ho) (an.2.2.1 _) hk.gd.1 hd (fun H1 locs1 hP1 _ hS1 => ?_)
  rw [wd_upA an ho] at hP1
  exact kk hk.gd.1 _ hk.gd.2 H1 locs1 ls hP1 hS1 hl
theorem g_zast (C : Cx Θ Γ cc own nL R) {dz : Decidable (inb i len)} {f : Mem → Option β} {v : Int32} (an : AN k 2 .boolean len) (ho : o < no k) (hd : decode cc pc = .ok (.bastore, 1)) (hn : pc + 1 = n) (hk : Ok (@gd _ (inb i len) dz (bnd (up h k 0 o i.toNatClampNeg (vp_nar .boolean v)) f)) K) (kk : inb i len → ∀ h', Ok (f h') K → G Θ Γ n lv st h') : G Θ Γ pc lv (.int v :: .int i :: .ref (rr Θ k o 0) :: st) h := by
  subst hn
  refine fun H locs ls hP hS hl => va_zast C.ex C.bt C.k hP wd_D hS (pos k o 0) 2 (wd_arr an ho) (an.2.2.1 _) hk.gd.1 hd (fun H1 locs1 hP1 _ hS1 => ?_)
  rw [wd_upA an ho] at hP1
  exact kk hk.gd.1 _ hk.gd.2 H1 locs1 ls hP1 hS1 hl
/-- an array of references -/
def AR (k t : Nat) (E : String) (len : Nat) (q : Nat → Nat → Nat → Nat) : Prop := isAr k = true ∧ k < 43 ∧ (∀ cy : Nat → ClassId, (tys cy)[t]? = some (cy t, .object E)) ∧ ni k = 1 ∧ ∀ (B : Nat) (cy : Nat → ClassId) (o : Nat) (a : Nat → Int32), arrE B cy k o a = (cy t, len, .inr (.inr (.inr (.inr (fun n => some (q B o n))))))
theorem g_aald (C : Cx Θ Γ cc own nL R) {dz : Decidable (inb i len)} {t : Nat} {E : String} {q : Nat → Nat → Nat → Nat} (ar : AR k t E len q) (ho : o < no k) (hd : decode cc pc = .ok (.aaload, 1)) (hn : pc + 1 = n) (hk : Ok (@gd _ (inb i len) dz z) K) (kk : inb i len → Ok z K → G Θ Γ n lv (.ref (q (tB Θ) o i.toNatClampNeg) :: st) h) : G Θ Γ pc lv (.int i :: .ref (rr Θ k o 0) :: st) h := by
  subst hn
  have he : (wd (tB Θ) (tC Θ) h)[pos k o 0]? = some (ad (tB Θ) k o 0, .inl (tC Θ t, len, .inr (.inr (.inr (.inr (fun n => some (q (tB Θ) o n))))))) := by
    rw [wd_at h ar.2.1 ho (by rw [ar.2.2.2.1]; exact Nat.zero_lt_one), ent_arr ar.1, ar.2.2.2.2]
  exact fun H locs ls hP hS hl => va_aldq C.ex C.bt C.k hP (pos k o 0) t he (ar.2.2.1 _) hk.gd.1 hd (kk hk.gd.1 hk.gd.2 H locs ls hP hS hl)
end Arr
theorem an_2 : AN 2 0 .int 8 := ⟨rfl, by decide, fun _ => rfl, rfl, fun _ _ _ _ => rfl⟩
theorem ar_3 : AR 3 3 RX1 6 (fun B o n => ad B 6 o n) := ⟨rfl, by decide, fun _ => rfl, rfl, fun _ _ _ _ => rfl⟩
theorem ar_4 : AR 4 4 RX2 4 (fun B o n => ad B 7 o n) := ⟨rfl, by decide, fun _ => rfl, rfl, fun _ _ _ _ => rfl⟩
theorem an_5 : AN 5 0 .int 4 := ⟨rfl, by decide, fun _ => rfl, rfl, fun _ _ _ _ => rfl⟩
theorem an_9 : AN 9 0 .int 8 := ⟨rfl, by decide, fun _ => rfl, rfl, fun _ _ _ _ => rfl⟩
theorem an_10 : AN 10 0 .int 8 := ⟨rfl, by decide, fun _ => rfl, rfl, fun _ _ _ _ => rfl⟩
theorem an_11 : AN 11 0 .int 8 := ⟨rfl, by decide, fun _ => rfl, rfl, fun _ _ _ _ => rfl⟩
theorem an_12 : AN 12 2 .boolean 8 := ⟨rfl, by decide, fun _ => rfl, rfl, fun _ _ _ _ => rfl⟩
theorem an_14 : AN 14 0 .int 4 := ⟨rfl, by decide, fun _ => rfl, rfl, fun _ _ _ _ => rfl⟩
theorem an_15 : AN 15 0 .int 4 := ⟨rfl, by decide, fun _ => rfl, rfl, fun _ _ _ _ => rfl⟩
theorem an_18 : AN 18 1 .byte 320 := ⟨rfl, by decide, fun _ => rfl, rfl, fun _ _ _ _ => rfl⟩
theorem ar_19 : AR 19 5 RX3 2 (fun B o n => ad B 20 n 0) := ⟨rfl, by decide, fun _ => rfl, rfl, fun _ _ _ _ => rfl⟩
theorem ar_21 : AR 21 6 RX5 4 (fun B o n => ad B 22 n 0) := ⟨rfl, by decide, fun _ => rfl, rfl, fun _ _ _ _ => rfl⟩
theorem an_23 : AN 23 0 .int 40 := ⟨rfl, by decide, fun _ => rfl, rfl, fun _ _ _ _ => rfl⟩
theorem an_25 : AN 25 0 .int 237 := ⟨rfl, by decide, fun _ => rfl, rfl, fun _ _ _ _ => rfl⟩
theorem an_26 : AN 26 2 .boolean 2 := ⟨rfl, by decide, fun _ => rfl, rfl, fun _ _ _ _ => rfl⟩
theorem an_27 : AN 27 0 .int 79 := ⟨rfl, by decide, fun _ => rfl, rfl, fun _ _ _ _ => rfl⟩
theorem an_28 : AN 28 0 .int 320 := ⟨rfl, by decide, fun _ => rfl, rfl, fun _ _ _ _ => rfl⟩
theorem an_29 : AN 29 0 .int 8 := ⟨rfl, by decide, fun _ => rfl, rfl, fun _ _ _ _ => rfl⟩
theorem an_30 : AN 30 0 .int 6 := ⟨rfl, by decide, fun _ => rfl, rfl, fun _ _ _ _ => rfl⟩
theorem an_31 : AN 31 0 .int 6 := ⟨rfl, by decide, fun _ => rfl, rfl, fun _ _ _ _ => rfl⟩
theorem an_32 : AN 32 0 .int 4 := ⟨rfl, by decide, fun _ => rfl, rfl, fun _ _ _ _ => rfl⟩
theorem an_33 : AN 33 0 .int 4 := ⟨rfl, by decide, fun _ => rfl, rfl, fun _ _ _ _ => rfl⟩
theorem an_34 : AN 34 0 .int 4 := ⟨rfl, by decide, fun _ => rfl, rfl, fun _ _ _ _ => rfl⟩
theorem an_35 : AN 35 0 .int 4 := ⟨rfl, by decide, fun _ => rfl, rfl, fun _ _ _ _ => rfl⟩
theorem an_36 : AN 36 0 .int 4 := ⟨rfl, by decide, fun _ => rfl, rfl, fun _ _ _ _ => rfl⟩
theorem an_37 : AN 37 2 .boolean 4 := ⟨rfl, by decide, fun _ => rfl, rfl, fun _ _ _ _ => rfl⟩
theorem an_38 : AN 38 0 .int 4 := ⟨rfl, by decide, fun _ => rfl, rfl, fun _ _ _ _ => rfl⟩
theorem an_39 : AN 39 0 .int 4 := ⟨rfl, by decide, fun _ => rfl, rfl, fun _ _ _ _ => rfl⟩
theorem an_40 : AN 40 0 .int 4 := ⟨rfl, by decide, fun _ => rfl, rfl, fun _ _ _ _ => rfl⟩
theorem an_41 : AN 41 0 .int 4 := ⟨rfl, by decide, fun _ => rfl, rfl, fun _ _ _ _ => rfl⟩
theorem an_42 : AN 42 0 .int 160 := ⟨rfl, by decide, fun _ => rfl, rfl, fun _ _ _ _ => rfl⟩
-- calls
/-- what a call site links: an instance method, a static one, a nest mate's static one -/
def cLV (own : String) (idx : Nat) (y : MethodName) (cc' : ByteArray) (n' : Nat) (ret' : Option FieldType) (na : Nat) : Prop := Cond.methodLink own idx y ∈ WS ∧ Cond.instanceMethod y ∈ WS ∧ Cond.selects y.cls y y ∈ WS ∧ Cond.initialized y.cls ∈ WS ∧ Cond.code y cc' n' ret' ∈ WS ∧ y.cls ≠ "java/lang/invoke/MethodHandle" ∧ y.cls ≠ "java/lang/invoke/VarHandle" ∧ (parseMethodDescriptor y.desc).map (fun d => d.parameters.length) = some na
def cLS (own : String) (idx : Nat) (y : MethodName) (cc' : ByteArray) (n' : Nat) (ret' : Option FieldType) (na : Nat) : Prop := Cond.methodLink own idx y ∈ WS ∧ Cond.static y ∈ WS ∧ Cond.initialized y.cls ∈ WS ∧ Cond.code y cc' n' ret' ∈ WS ∧ y.cls ≠ "java/lang/invoke/MethodHandle" ∧ y.cls ≠ "java/lang/invoke/VarHandle" ∧ (parseMethodDescriptor y.desc).map (fun d => d.parameters.length) = some na
def cLN (own : String) (idx : Nat) (y : MethodName) (cc' : ByteArray) (n' : Nat) (ret' : Option FieldType) (na : Nat) : Prop := (own, idx, y) ∈ NW ∧ Cond.static y ∈ WS ∧ Cond.initialized y.cls ∈ WS ∧ Cond.code y cc' n' ret' ∈ WS ∧ y.cls ≠ "java/lang/invoke/MethodHandle" ∧ y.cls ≠ "java/lang/invoke/VarHandle" ∧ (parseMethodDescriptor y.desc).map (fun d => d.parameters.length) = some na
section Call
variable {y : MethodName} {cc' : ByteArray} {n' idx na : Nat} {ret' : Option FieldType} {rm' : Room} {Pc : Array Value → State → Prop} {Qc : Array Value → State → Outcome → State → Prop}
theorem cxB (C : Cx Θ Γ cc own nL R) (hc : Cond.code y cc' n' ret' ∈ WS) (hl : Cond.methodLink own idx y ∈ WS) (hi : Cond.initialized y.cls ∈ WS) (hd : y.cls ≠ "java/lang/invoke/MethodHandle" ∧ y.cls ≠ "java/lang/invoke/VarHandle" ∧ (parseMethodDescriptor y.desc).map (fun d => d.parameters.length) = some na) (hrc : rm'.cells = 0 ∧ rm'.slots = 0) (hR : rm'.frames + 1 ≤ R.frames ∧ 8 + (n' + 11) + rm'.locals ≤ R.locals) :
    CallB (cR Γ) (cS Γ) (cA Γ) own idx y cc' n' ret' (.code y cc' n' ret' :: WS) rm' 0 0 na := by
  have ht : ∀ w ∈ (Cond.code y cc' n' ret' :: WS), w.before (cA Γ) (cS Γ) = true := fun w hw => (List.mem_cons.mp hw).elim (fun e => by rw [e]; exact C.ws _ hc) (C.ws w)
  exact callB_of na ht (gin hc) rfl hrc.1 hrc.2 (C.ws _ hi) (C.ws _ hl) hd (by rw [C.rm]; exact hR)
theorem cx_fix (C : Cx Θ Γ cc own nL R) : CallFix (cP Γ) (cM Γ) (cC Γ) cc nL (cS Γ) (cA Γ) WS own := ⟨C.ex, C.bt, C.ml, C.ow, C.ws⟩
theorem pre_s {av : List Value} {H : Heap} {locs : List Loc} (C : Cx Θ Γ cc own nL R) (hP : va_P (tD Θ) vwCl (wd (tB Θ) (tC Θ) h) H) (hS : va_S (tA Θ) (cS Γ).heap H locs) : PreS (cS Γ) H (va_Pc av (Wd Θ h)) av :=
  ⟨Wd.blind, fun U hU hW => ⟨rfl, by rw [hU]; exact hP, va_K.moved hW.alike C.k, C.sx.go hS hU hW⟩⟩
theorem runV {ci N k o i : Nat} {T : u_T} {ty : Nat → FieldType} {As rest : List Value} {H : Heap} {locs : List Loc} {ls : Array Slot} (C : Cx Θ Γ cc own nL R) (hM : Met (tL Θ) y (.code y cc' n' ret' :: WS) rm' (va_Pc (.ref (rr Θ k o i) :: As) (Wd Θ h)) Qc 0 0 (tA Θ)) (L : cLV own idx y cc' n' ret' na) (kc : KC k ci y.cls T N ty) (ho : o < no k) (hi : i < ni k) (hrc : rm'.cells = 0 ∧ rm'.slots = 0) (hR : rm'.frames + 1 ≤ R.frames ∧ 8 + (n' + 11) + rm'.locals ≤ R.locals)
    (hd : decode cc pc = .ok (.invokevirtual idx, 3)) (hna : As.length = na) (hst : st = As.reverse ++ .ref (rr Θ k o i) :: rest) (hw : (rest.map fun v => v.category).sum ≤ 8) (hP : va_P (tD Θ) vwCl (wd (tB Θ) (tC Θ) h) H) (hS : va_S (tA Θ) (cS Γ).heap H locs) (hL : lv_has ls (cN Γ) lv) :
    va_Run (cP Γ) (tL Θ) (cE Γ) (cR Γ) (cS Γ) (cM Γ) (cA Γ) (cF Γ) (cT Γ) (cC Γ) H locs (cU Γ) (cV Γ) 0 0 (F0 (cM Γ) pc ls st) rest (Qc (Value.ref (rr Θ k o i) :: As).toArray) (tA Θ) := by
  obtain ⟨l1, l2, l3, l4, l5, l6⟩ := L
  exact va_runV (cx_fix C) hM ⟨cxB C l5 l1 l4 l6 hrc hR, C.ws _ l2, C.ws _ l3⟩ ⟨Wd.blind, va_recv C.k hP kc.2.2.2.1 (wd_obj kc ho hi), (pre_s C hP hS).2⟩ rfl hna (by rw [← C.nl]; exact hL.1) hst (lv_room hw) hd ⟨by rw [C.rm]; exact C.uc, by rw [C.rm]; exact C.us⟩
theorem runS {av rest : List Value} {H : Heap} {locs : List Loc} {ls : Array Slot} (C : Cx Θ Γ cc own nL R) (hM : Met (tL Θ) y (.code y cc' n' ret' :: WS) rm' (va_Pc av (Wd Θ h)) Qc 0 0 (tA Θ)) (L : cLS own idx y cc' n' ret' na) (hrc : rm'.cells = 0 ∧ rm'.slots = 0) (hR : rm'.frames + 1 ≤ R.frames ∧ 8 + (n' + 11) + rm'.locals ≤ R.locals)
    (hd : decode cc pc = .ok (.invokestatic idx, 3)) (hna : av.length = na) (hst : st = av.reverse ++ rest) (hw : (rest.map fun v => v.category).sum ≤ 8) (hP : va_P (tD Θ) vwCl (wd (tB Θ) (tC Θ) h) H) (hS : va_S (tA Θ) (cS Γ).heap H locs) (hL : lv_has ls (cN Γ) lv) :
    va_Run (cP Γ) (tL Θ) (cE Γ) (cR Γ) (cS Γ) (cM Γ) (cA Γ) (cF Γ) (cT Γ) (cC Γ) H locs (cU Γ) (cV Γ) 0 0 (F0 (cM Γ) pc ls st) rest (Qc av.toArray) (tA Θ) := by
  obtain ⟨l1, l2, l4, l5, l6⟩ := L
  exact va_runS (cx_fix C) hM ⟨cxB C l5 l1 l4 l6 hrc hR, C.ws _ l2⟩ (pre_s C hP hS) rfl hna (by rw [← C.nl]; exact hL.1) hst (lv_room hw) hd ⟨by rw [C.rm]; exact C.uc, by rw [C.rm]; exact C.us⟩
theorem runN {av rest : List Value} {H : Heap} {locs : List Loc} {ls : Array Slot} (C : Cx Θ Γ cc own nL R) (hM : Met (tL Θ) y (.code y cc' n' ret' :: WS) rm' (va_Pc av (Wd Θ h)) Qc 0 0 (tA Θ)) (L : cLN own idx y cc' n' ret' na) (hrc : rm'.cells = 0 ∧ rm'.slots = 0) (hR : rm'.frames + 1 ≤ R.frames ∧ 8 + (n' + 11) + rm'.locals ≤ R.locals)
    (hd : decode cc pc = .ok (.invokestatic idx, 3)) (hna : av.length = na) (hst : st = av.reverse ++ rest) (hw : (rest.map fun v => v.category).sum ≤ 8) (hP : va_P (tD Θ) vwCl (wd (tB Θ) (tC Θ) h) H) (hS : va_S (tA Θ) (cS Γ).heap H locs) (hL : lv_has ls (cN Γ) lv) :
    va_Run (cP Γ) (tL Θ) (cE Γ) (cR Γ) (cS Γ) (cM Γ) (cA Γ) (cF Γ) (cT Γ) (cC Γ) H locs (cU Γ) (cV Γ) 0 0 (F0 (cM Γ) pc ls st) rest (Qc av.toArray) (tA Θ) := by
  obtain ⟨l1, l2, l4, l5, l6⟩ := L
  have ht : ∀ w ∈ (Cond.code y cc' n' ret' :: WS), w.before (cA Γ) (cS Γ) = true := fun w hw => (List.mem_cons.mp hw).elim (fun e => by rw [e]; exact C.ws _ l5) (C.ws w)
  exact va_runSN (cx_fix C) hM ⟨va_cnB na ht (gin l5) rfl hrc.1 hrc.2 (C.sx.2.2.2.2 _ l1) (C.ws _ l4) l6 (by rw [C.rm]; exact hR), C.ws _ l2, trivial⟩ (pre_s C hP hS) rfl hna (by rw [← C.nl]; exact hL.1) hst (lv_room hw) hd ⟨by rw [C.rm]; exact C.uc, by rw [C.rm]; exact C.us⟩

theorem g_cVI (C : Cx Θ Γ cc own nL R) {β : Type} {K : β → Prop} {x : Option (Int32 × Mem)} {f : Int32 → Mem → Option β} {ci N k o i : Nat} {T : u_T} {ty : Nat → FieldType} {As rest : List Value} (hk : Ok (ob2 x f) K) (hM : ∀ K', Ok x K' → CI Θ y cc' n' ret' rm' (.ref (rr Θ k o i) :: As) h K') (L : cLV own idx y cc' n' ret' na) (kc : KC k ci y.cls T N ty) (ho : o < no k) (hi : i < ni k) (hrc : rm'.cells = 0 ∧ rm'.slots = 0) (hR : rm'.frames + 1 ≤ R.frames ∧ 8 + (n' + 11) + rm'.locals ≤ R.locals) (hd : decode cc pc = .ok (.invokevirtual idx, 3)) (hna : As.length = na) (hst : st = As.reverse ++ .ref (rr Θ k o i) :: rest) (hw : (rest.map fun v => v.category).sum ≤ 8) (hn : pc + 3 = n) (kk : ∀ r h', Ok (f r h') K → G Θ Γ n lv (.int r :: rest) h') : G Θ Γ pc lv st h := by
  subst hn
  intro H locs ls hP hS hL
  refine va_calli (runV C (hM _ hk.ob2) L kc ho hi hrc hR hd hna hst hw hP hS hL) hS (fun q _ hq => hq) (fun q hq => hq) (fun r u t H1 locs1 ht hvm hp hB hz hk1 hS1 => ?_)
  rw [← ht] at hS1 ⊢
  exact kk r u hp _ _ ls hB.1 hS1 hL
theorem g_cVB (C : Cx Θ Γ cc own nL R) {β : Type} {K : β → Prop} {x : Option (Bool × Mem)} {f : Bool → Mem → Option β} {ci N k o i : Nat} {T : u_T} {ty : Nat → FieldType} {As rest : List Value} (hk : Ok (ob2 x f) K) (hM : ∀ K', Ok x K' → CB Θ y cc' n' ret' rm' (.ref (rr Θ k o i) :: As) h K') (L : cLV own idx y cc' n' ret' na) (kc : KC k ci y.cls T N ty) (ho : o < no k) (hi : i < ni k) (hrc : rm'.cells = 0 ∧ rm'.slots = 0) (hR : rm'.frames + 1 ≤ R.frames ∧ 8 + (n' + 11) + rm'.locals ≤ R.locals) (hd : decode cc pc = .ok (.invokevirtual idx, 3)) (hna : As.length = na) (hst : st = As.reverse ++ .ref (rr Θ k o i) :: rest) (hw : (rest.map fun v => v.category).sum ≤ 8) (hn : pc + 3 = n) (kk : ∀ r h', Ok (f r h') K → G Θ Γ n lv (.int (b2i r) :: rest) h') : G Θ Γ pc lv st h := by
  subst hn
  intro H locs ls hP hS hL
  refine va_calli (runV C (hM _ hk.ob2) L kc ho hi hrc hR hd hna hst hw hP hS hL) hS (fun q _ hq => hq) (fun q hq => hq) (fun r u t H1 locs1 ht hvm hp hB hz hk1 hS1 => ?_)
  obtain ⟨b, rfl, hp⟩ := hp
  rw [← ht] at hS1 ⊢
  exact kk b u hp _ _ ls hB.1 hS1 hL
theorem g_cVV (C : Cx Θ Γ cc own nL R) {β : Type} {K : β → Prop} {x : Option Mem} {f : Mem → Option β} {ci N k o i : Nat} {T : u_T} {ty : Nat → FieldType} {As rest : List Value} (hk : Ok (obd x f) K) (hM : ∀ K', Ok x K' → CV Θ y cc' n' ret' rm' (.ref (rr Θ k o i) :: As) h K') (L : cLV own idx y cc' n' ret' na) (kc : KC k ci y.cls T N ty) (ho : o < no k) (hi : i < ni k) (hrc : rm'.cells = 0 ∧ rm'.slots = 0) (hR : rm'.frames + 1 ≤ R.frames ∧ 8 + (n' + 11) + rm'.locals ≤ R.locals) (hd : decode cc pc = .ok (.invokevirtual idx, 3)) (hna : As.length = na) (hst : st = As.reverse ++ .ref (rr Θ k o i) :: rest) (hw : (rest.map fun v => v.category).sum ≤ 8) (hn : pc + 3 = n) (kk : ∀ h', Ok (f h') K → G Θ Γ n lv rest h') : G Θ Γ pc lv st h := by
  subst hn
  intro H locs ls hP hS hL
  refine va_callv (runV C (hM _ hk.obd) L kc ho hi hrc hR hd hna hst hw hP hS hL) hS (fun q _ hq => hq) (fun q hq => hq) (fun u t H1 locs1 ht hvm hp hB hz hk1 hS1 => ?_)
  rw [← ht] at hS1 ⊢
  exact kk u hp _ _ ls hB.1 hS1 hL
theorem g_cSI (C : Cx Θ Γ cc own nL R) {β : Type} {K : β → Prop} {x : Option (Int32 × Mem)} {f : Int32 → Mem → Option β} {av rest : List Value} (hk : Ok (ob2 x f) K) (hM : ∀ K', Ok x K' → CI Θ y cc' n' ret' rm' av h K') (L : cLS own idx y cc' n' ret' na) (hrc : rm'.cells = 0 ∧ rm'.slots = 0) (hR : rm'.frames + 1 ≤ R.frames ∧ 8 + (n' + 11) + rm'.locals ≤ R.locals) (hd : decode cc pc = .ok (.invokestatic idx, 3)) (hna : av.length = na) (hst : st = av.reverse ++ rest) (hw : (rest.map fun v => v.category).sum ≤ 8) (hn : pc + 3 = n) (kk : ∀ r h', Ok (f r h') K → G Θ Γ n lv (.int r :: rest) h') : G Θ Γ pc lv st h := by
  subst hn
  intro H locs ls hP hS hL
  refine va_calli (runS C (hM _ hk.ob2) L hrc hR hd hna hst hw hP hS hL) hS (fun q _ hq => hq) (fun q hq => hq) (fun r u t H1 locs1 ht hvm hp hB hz hk1 hS1 => ?_)
  rw [← ht] at hS1 ⊢
  exact kk r u hp _ _ ls hB.1 hS1 hL
theorem g_cSB (C : Cx Θ Γ cc own nL R) {β : Type} {K : β → Prop} {x : Option (Bool × Mem)} {f : Bool → Mem → Option β} {av rest : List Value} (hk : Ok (ob2 x f) K) (hM : ∀ K', Ok x K' → CB Θ y cc' n' ret' rm' av h K') (L : cLS own idx y cc' n' ret' na) (hrc : rm'.cells = 0 ∧ rm'.slots = 0) (hR : rm'.frames + 1 ≤ R.frames ∧ 8 + (n' + 11) + rm'.locals ≤ R.locals) (hd : decode cc pc = .ok (.invokestatic idx, 3)) (hna : av.length = na) (hst : st = av.reverse ++ rest) (hw : (rest.map fun v => v.category).sum ≤ 8) (hn : pc + 3 = n) (kk : ∀ r h', Ok (f r h') K → G Θ Γ n lv (.int (b2i r) :: rest) h') : G Θ Γ pc lv st h := by
  subst hn
  intro H locs ls hP hS hL
  refine va_calli (runS C (hM _ hk.ob2) L hrc hR hd hna hst hw hP hS hL) hS (fun q _ hq => hq) (fun q hq => hq) (fun r u t H1 locs1 ht hvm hp hB hz hk1 hS1 => ?_)
  obtain ⟨b, rfl, hp⟩ := hp
  rw [← ht] at hS1 ⊢
  exact kk b u hp _ _ ls hB.1 hS1 hL
theorem g_cSV (C : Cx Θ Γ cc own nL R) {β : Type} {K : β → Prop} {x : Option Mem} {f : Mem → Option β} {av rest : List Value} (hk : Ok (obd x f) K) (hM : ∀ K', Ok x K' → CV Θ y cc' n' ret' rm' av h K') (L : cLS own idx y cc' n' ret' na) (hrc : rm'.cells = 0 ∧ rm'.slots = 0) (hR : rm'.frames + 1 ≤ R.frames ∧ 8 + (n' + 11) + rm'.locals ≤ R.locals) (hd : decode cc pc = .ok (.invokestatic idx, 3)) (hna : av.length = na) (hst : st = av.reverse ++ rest) (hw : (rest.map fun v => v.category).sum ≤ 8) (hn : pc + 3 = n) (kk : ∀ h', Ok (f h') K → G Θ Γ n lv rest h') : G Θ Γ pc lv st h := by
  subst hn
  intro H locs ls hP hS hL
  refine va_callv (runS C (hM _ hk.obd) L hrc hR hd hna hst hw hP hS hL) hS (fun q _ hq => hq) (fun q hq => hq) (fun u t H1 locs1 ht hvm hp hB hz hk1 hS1 => ?_)
  rw [← ht] at hS1 ⊢
  exact kk u hp _ _ ls hB.1 hS1 hL
theorem g_cNI (C : Cx Θ Γ cc own nL R) {β : Type} {K : β → Prop} {x : Option (Int32 × Mem)} {f : Int32 → Mem → Option β} {av rest : List Value} (hk : Ok (ob2 x f) K) (hM : ∀ K', Ok x K' → CI Θ y cc' n' ret' rm' av h K') (L : cLN own idx y cc' n' ret' na) (hrc : rm'.cells = 0 ∧ rm'.slots = 0) (hR : rm'.frames + 1 ≤ R.frames ∧ 8 + (n' + 11) + rm'.locals ≤ R.locals) (hd : decode cc pc = .ok (.invokestatic idx, 3)) (hna : av.length = na) (hst : st = av.reverse ++ rest) (hw : (rest.map fun v => v.category).sum ≤ 8) (hn : pc + 3 = n) (kk : ∀ r h', Ok (f r h') K → G Θ Γ n lv (.int r :: rest) h') : G Θ Γ pc lv st h := by
  subst hn
  intro H locs ls hP hS hL
  refine va_calli (runN C (hM _ hk.ob2) L hrc hR hd hna hst hw hP hS hL) hS (fun q _ hq => hq) (fun q hq => hq) (fun r u t H1 locs1 ht hvm hp hB hz hk1 hS1 => ?_)
  rw [← ht] at hS1 ⊢
  exact kk r u hp _ _ ls hB.1 hS1 hL
theorem g_cNB (C : Cx Θ Γ cc own nL R) {β : Type} {K : β → Prop} {x : Option (Bool × Mem)} {f : Bool → Mem → Option β} {av rest : List Value} (hk : Ok (ob2 x f) K) (hM : ∀ K', Ok x K' → CB Θ y cc' n' ret' rm' av h K') (L : cLN own idx y cc' n' ret' na) (hrc : rm'.cells = 0 ∧ rm'.slots = 0) (hR : rm'.frames + 1 ≤ R.frames ∧ 8 + (n' + 11) + rm'.locals ≤ R.locals) (hd : decode cc pc = .ok (.invokestatic idx, 3)) (hna : av.length = na) (hst : st = av.reverse ++ rest) (hw : (rest.map fun v => v.category).sum ≤ 8) (hn : pc + 3 = n) (kk : ∀ r h', Ok (f r h') K → G Θ Γ n lv (.int (b2i r) :: rest) h') : G Θ Γ pc lv st h := by
  subst hn
  intro H locs ls hP hS hL
  refine va_calli (runN C (hM _ hk.ob2) L hrc hR hd hna hst hw hP hS hL) hS (fun q _ hq => hq) (fun q hq => hq) (fun r u t H1 locs1 ht hvm hp hB hz hk1 hS1 => ?_)
  obtain ⟨b, rfl, hp⟩ := hp
  rw [← ht] at hS1 ⊢
  exact kk b u hp _ _ ls hB.1 hS1 hL
theorem g_cNV (C : Cx Θ Γ cc own nL R) {β : Type} {K : β → Prop} {x : Option Mem} {f : Mem → Option β} {av rest : List Value} (hk : Ok (obd x f) K) (hM : ∀ K', Ok x K' → CV Θ y cc' n' ret' rm' av h K') (L : cLN own idx y cc' n' ret' na) (hrc : rm'.cells = 0 ∧ rm'.slots = 0) (hR : rm'.frames + 1 ≤ R.frames ∧ 8 + (n' + 11) + rm'.locals ≤ R.locals) (hd : decode cc pc = .ok (.invokestatic idx, 3)) (hna : av.length = na) (hst : st = av.reverse ++ rest) (hw : (rest.map fun v => v.category).sum ≤ 8) (hn : pc + 3 = n) (kk : ∀ h', Ok (f h') K → G Θ Γ n lv rest h') : G Θ Γ pc lv st h := by
  subst hn
  intro H locs ls hP hS hL
  refine va_callv (runN C (hM _ hk.obd) L hrc hR hd hna hst hw hP hS hL) hS (fun q _ hq => hq) (fun q hq => hq) (fun u t H1 locs1 ht hvm hp hB hz hk1 hS1 => ?_)
  rw [← ht] at hS1 ⊢
  exact kk u hp _ _ ls hB.1 hS1 hL
end Call
-- entries and returns
def RtI (Θ : Tht) (Γ : Ctx) (cc : ByteArray) (K : Int32 × Mem → Prop) : Prop := ∀ (pc : Nat) (lv : List (Nat × Value)) (h : Mem) (r : Int32), decode cc pc = .ok (.ireturn, 1) → K (r, h) → G Θ Γ pc lv [.int r] h
def RtB (Θ : Tht) (Γ : Ctx) (cc : ByteArray) (K : Bool × Mem → Prop) : Prop := ∀ (pc : Nat) (lv : List (Nat × Value)) (h : Mem) (b : Bool), decode cc pc = .ok (.ireturn, 1) → K (b, h) → G Θ Γ pc lv [.int (b2i b)] h
def RtV (Θ : Tht) (Γ : Ctx) (cc : ByteArray) (K : Mem → Prop) : Prop := ∀ (pc : Nat) (lv : List (Nat × Value)) (h : Mem), decode cc pc = .ok (.return_, 1) → K h → G Θ Γ pc lv [] h
theorem nar_b2i (b : Bool) : narrow .boolean (.int (b2i b)) = .int (b2i b) := (fitB b).1
section Ent
variable {y : MethodName} {rm : Room} {av : List Value}
theorem ent_cx {p : Program} {e : Env} {s : State} {m : MethodId} {args : Array Value} {below : List Frame} {meth : Method} {c : Code} {s₁ : State} {Z : State → Prop} {ret : Option FieldType} (B : BodyLoose p (tL Θ) y (headSpec (.code y cc nL ret :: WS) rm) cc nL ret e s m args below meth c s₁) (hml : c.maxLocals = nL) (hv : va_Pc av (Wd Θ h) args s) : Cx Θ (p, e, rm, s, m, args, below, meth, c, nL, 0, 0, Z) cc y.cls nL rm := by
  have hts := atoms_spec (ws := .code y cc nL ret :: WS) B.pre
  exact ⟨B.exec, B.bytes, hml, rfl, findClass_of_methodNamed B.named, fun w hw => hts w (List.mem_cons_of_mem _ hw), hv.2.2.1, hv.2.2.2, rfl, Nat.zero_le _, Nat.zero_le _⟩
theorem CV.of (K : Mem → Prop) (lv : List (Nat × Value)) (hy : plainName y.cls = true) (hl : (lg_sl av).length ≤ nL) (hlv : lv_args 0 av = lv) (body : ∀ Γ, Cx Θ Γ cc y.cls nL rm → RtV Θ Γ cc K → G Θ Γ 0 lv [] h) : CV Θ y cc nL none rm av h K := by
  refine Met.ofW (cc := cc) (maxL := nL) (ret := none) hy rfl ?_
  intro p e s m args below meth c s₁ B hml hv
  have C := ent_cx (Z := MQ below (va_Qv (fun h' => K h') (Wd Θ) (tA Θ)) args s 0 0 (tA Θ)) B hml hv
  obtain ⟨rfl, hP, hK, hX⟩ := hv
  rw [lg_entry_eq]
  have hlocks := B.notSynchronized
  refine body _ C (fun pc lv h' hd hk H locs ls hP' hS' hL' => ?_) s.heap [] _ hP va_S.rf (by rw [← hlv]; exact lv_entry av hl)
  exact W.vret B.exec B.bytes B.returns (fun t ht hW => ⟨⟨h', rfl, hk, by rw [ht]; exact hP', va_K.moved hW.alike hK, hX.go hS' ht hW⟩, hS'.F ht⟩) hS'.2.2 hd hlocks
theorem CI.of (K : Int32 × Mem → Prop) (lv : List (Nat × Value)) (hy : plainName y.cls = true) (hl : (lg_sl av).length ≤ nL) (hlv : lv_args 0 av = lv) (body : ∀ Γ, Cx Θ Γ cc y.cls nL rm → RtI Θ Γ cc K → G Θ Γ 0 lv [] h) : CI Θ y cc nL (some .int) rm av h K := by
  refine Met.ofW (cc := cc) (maxL := nL) (ret := some .int) hy rfl ?_
  intro p e s m args below meth c s₁ B hml hv
  have C := ent_cx (Z := MQ below (va_Qi (fun r h' => K (r, h')) (Wd Θ) (tA Θ)) args s 0 0 (tA Θ)) B hml hv
  obtain ⟨rfl, hP, hK, hX⟩ := hv
  rw [lg_entry_eq]
  have hlocks := B.notSynchronized
  refine body _ C (fun pc lv h' r hd hk H locs ls hP' hS' hL' => ?_) s.heap [] _ hP va_S.rf (by rw [← hlv]; exact lv_entry av hl)
  exact W.iret B.exec B.bytes B.returns (fun t ht hW => ⟨⟨r, h', rfl, hk, by rw [ht]; exact hP', va_K.moved hW.alike hK, hX.go hS' ht hW⟩, hS'.F ht⟩) hS'.2.2 hd hlocks
theorem CB.of (K : Bool × Mem → Prop) (lv : List (Nat × Value)) (hy : plainName y.cls = true) (hl : (lg_sl av).length ≤ nL) (hlv : lv_args 0 av = lv) (body : ∀ Γ, Cx Θ Γ cc y.cls nL rm → RtB Θ Γ cc K → G Θ Γ 0 lv [] h) : CB Θ y cc nL (some .boolean) rm av h K := by
  refine Met.ofW (cc := cc) (maxL := nL) (ret := some .boolean) hy rfl ?_
  intro p e s m args below meth c s₁ B hml hv
  have C := ent_cx (Z := MQ below (va_Qi (fun r h' => ∃ b : Bool, r = b2i b ∧ K (b, h')) (Wd Θ) (tA Θ)) args s 0 0 (tA Θ)) B hml hv
  obtain ⟨rfl, hP, hK, hX⟩ := hv
  rw [lg_entry_eq]
  have hlocks := B.notSynchronized
  refine body _ C (fun pc lv h' b hd hk H locs ls hP' hS' hL' => ?_) s.heap [] _ hP va_S.rf (by rw [← hlv]; exact lv_entry av hl)
  exact W.zret B.exec B.bytes B.returns (nar_b2i b) (fun t ht hW => ⟨⟨b2i b, h', rfl, ⟨b, rfl, hk⟩, by rw [ht]; exact hP', va_K.moved hW.alike hK, hX.go hS' ht hW⟩, hS'.F ht⟩) hS'.2.2 hd hlocks
end Ent
end Rules2
end
