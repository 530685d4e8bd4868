section
-- ===== PART A: goes FIRST, ahead of the names: the tables' words, and 'selects' of the private methods out of them =====
/-- a private method of a class that the tables say can be made, by its rows of tables_1 -/
def lw_okq (q : MethodName × Nat) : Prop := (q.1.cls ≠ "java/lang/invoke/MethodHandle" ∧ q.1.cls ≠ "java/lang/invoke/VarHandle") ∧ Cond.instantiable q.1.cls q.2 ∈ tables_1 ∧ Cond.privateMethod q.1 ∈ tables_1 ∧ Cond.instanceMethod q.1 ∈ tables_1
theorem lw_p0 : lw_okq (⟨"TwinOrchard", "balancedApples", "(I)I"⟩, 13) := ⟨⟨by decide +kernel, by decide +kernel⟩, List.mem_of_getElem? (i := 14) (by decide +kernel), List.mem_of_getElem? (i := 98) (by decide +kernel), List.mem_of_getElem? (i := 99) (by decide +kernel)⟩
theorem lw_p1 : lw_okq (⟨"TwinOrchard", "heaviestUpTo", "(I)I"⟩, 13) := ⟨⟨by decide +kernel, by decide +kernel⟩, List.mem_of_getElem? (i := 14) (by decide +kernel), List.mem_of_getElem? (i := 108) (by decide +kernel), List.mem_of_getElem? (i := 109) (by decide +kernel)⟩
theorem lw_p2 : lw_okq (⟨"TwinOrchard", "reachWithSort", "(II)V"⟩, 13) := ⟨⟨by decide +kernel, by decide +kernel⟩, List.mem_of_getElem? (i := 14) (by decide +kernel), List.mem_of_getElem? (i := 112) (by decide +kernel), List.mem_of_getElem? (i := 113) (by decide +kernel)⟩
theorem lw_p3 : lw_okq (⟨"TwinOrchard", "allTrees", "()I"⟩, 13) := ⟨⟨by decide +kernel, by decide +kernel⟩, List.mem_of_getElem? (i := 14) (by decide +kernel), List.mem_of_getElem? (i := 120) (by decide +kernel), List.mem_of_getElem? (i := 121) (by decide +kernel)⟩
theorem lw_p4 : lw_okq (⟨"TwinOrchard", "hasTree", "(I)Z"⟩, 13) := ⟨⟨by decide +kernel, by decide +kernel⟩, List.mem_of_getElem? (i := 14) (by decide +kernel), List.mem_of_getElem? (i := 124) (by decide +kernel), List.mem_of_getElem? (i := 125) (by decide +kernel)⟩
theorem lw_p5 : lw_okq (⟨"java/lang/Throwable", "fillInStackTrace", "(I)Ljava/lang/Throwable;"⟩, 6) := ⟨⟨by decide +kernel, by decide +kernel⟩, List.mem_of_getElem? (i := 179) (by decide +kernel), List.mem_of_getElem? (i := 177) (by decide +kernel), List.mem_of_getElem? (i := 178) (by decide +kernel)⟩
theorem lw_p6 : lw_okq (⟨"TwinOrchard", "allTired", "()I"⟩, 13) := ⟨⟨by decide +kernel, by decide +kernel⟩, List.mem_of_getElem? (i := 14) (by decide +kernel), List.mem_of_getElem? (i := 209) (by decide +kernel), List.mem_of_getElem? (i := 210) (by decide +kernel)⟩
theorem lw_p7 : lw_okq (⟨"TwinOrchard", "applesInBarn", "()I"⟩, 13) := ⟨⟨by decide +kernel, by decide +kernel⟩, List.mem_of_getElem? (i := 14) (by decide +kernel), List.mem_of_getElem? (i := 213) (by decide +kernel), List.mem_of_getElem? (i := 214) (by decide +kernel)⟩
theorem lw_p8 : lw_okq (⟨"TwinOrchard", "weightInBarn", "()I"⟩, 13) := ⟨⟨by decide +kernel, by decide +kernel⟩, List.mem_of_getElem? (i := 14) (by decide +kernel), List.mem_of_getElem? (i := 217) (by decide +kernel), List.mem_of_getElem? (i := 218) (by decide +kernel)⟩
theorem lw_p9 : lw_okq (⟨"TwinOrchard", "unlikePairs", "()I"⟩, 13) := ⟨⟨by decide +kernel, by decide +kernel⟩, List.mem_of_getElem? (i := 14) (by decide +kernel), List.mem_of_getElem? (i := 221) (by decide +kernel), List.mem_of_getElem? (i := 222) (by decide +kernel)⟩
theorem lw_p10 : lw_okq (⟨"TwinOrchard", "treesOfSort", "(I)I"⟩, 13) := ⟨⟨by decide +kernel, by decide +kernel⟩, List.mem_of_getElem? (i := 14) (by decide +kernel), List.mem_of_getElem? (i := 239) (by decide +kernel), List.mem_of_getElem? (i := 240) (by decide +kernel)⟩
theorem lw_p11 : lw_okq (⟨"TwinOrchard", "applesNow", "(I)I"⟩, 13) := ⟨⟨by decide +kernel, by decide +kernel⟩, List.mem_of_getElem? (i := 14) (by decide +kernel), List.mem_of_getElem? (i := 251) (by decide +kernel), List.mem_of_getElem? (i := 252) (by decide +kernel)⟩
theorem lw_p12 : lw_okq (⟨"TwinOrchard", "lookAt", "(I)V"⟩, 13) := ⟨⟨by decide +kernel, by decide +kernel⟩, List.mem_of_getElem? (i := 14) (by decide +kernel), List.mem_of_getElem? (i := 255) (by decide +kernel), List.mem_of_getElem? (i := 256) (by decide +kernel)⟩
theorem lw_p13 : lw_okq (⟨"TwinOrchard$Tree", "apples", "()I"⟩, 4) := ⟨⟨by decide +kernel, by decide +kernel⟩, List.mem_of_getElem? (i := 22) (by decide +kernel), List.mem_of_getElem? (i := 259) (by decide +kernel), List.mem_of_getElem? (i := 260) (by decide +kernel)⟩
theorem lw_p14 : lw_okq (⟨"TwinOrchard", "plantAt", "(III)Z"⟩, 13) := ⟨⟨by decide +kernel, by decide +kernel⟩, List.mem_of_getElem? (i := 14) (by decide +kernel), List.mem_of_getElem? (i := 308) (by decide +kernel), List.mem_of_getElem? (i := 309) (by decide +kernel)⟩
theorem lw_p15 : lw_okq (⟨"TwinOrchard", "canPay", "(II)Z"⟩, 13) := ⟨⟨by decide +kernel, by decide +kernel⟩, List.mem_of_getElem? (i := 14) (by decide +kernel), List.mem_of_getElem? (i := 312) (by decide +kernel), List.mem_of_getElem? (i := 313) (by decide +kernel)⟩
def lw_privs_1 : List (MethodName × Nat) := [(⟨"TwinOrchard", "balancedApples", "(I)I"⟩, 13), (⟨"TwinOrchard", "heaviestUpTo", "(I)I"⟩, 13), (⟨"TwinOrchard", "reachWithSort", "(II)V"⟩, 13), (⟨"TwinOrchard", "allTrees", "()I"⟩, 13), (⟨"TwinOrchard", "hasTree", "(I)Z"⟩, 13), (⟨"java/lang/Throwable", "fillInStackTrace", "(I)Ljava/lang/Throwable;"⟩, 6), (⟨"TwinOrchard", "allTired", "()I"⟩, 13), (⟨"TwinOrchard", "applesInBarn", "()I"⟩, 13), (⟨"TwinOrchard", "weightInBarn", "()I"⟩, 13), (⟨"TwinOrchard", "unlikePairs", "()I"⟩, 13), (⟨"TwinOrchard", "treesOfSort", "(I)I"⟩, 13), (⟨"TwinOrchard", "applesNow", "(I)I"⟩, 13), (⟨"TwinOrchard", "lookAt", "(I)V"⟩, 13), (⟨"TwinOrchard$Tree", "apples", "()I"⟩, 4), (⟨"TwinOrchard", "plantAt", "(III)Z"⟩, 13), (⟨"TwinOrchard", "canPay", "(II)Z"⟩, 13)]
theorem lw_r1 : ∀ q ∈ lw_privs_1, lw_okq q := List.forall_mem_cons.mpr ⟨lw_p0, List.forall_mem_cons.mpr ⟨lw_p1, List.forall_mem_cons.mpr ⟨lw_p2, List.forall_mem_cons.mpr ⟨lw_p3, List.forall_mem_cons.mpr ⟨lw_p4, List.forall_mem_cons.mpr ⟨lw_p5, List.forall_mem_cons.mpr ⟨lw_p6, List.forall_mem_cons.mpr ⟨lw_p7, List.forall_mem_cons.mpr ⟨lw_p8, List.forall_mem_cons.mpr ⟨lw_p9, List.forall_mem_cons.mpr ⟨lw_p10, List.forall_mem_cons.mpr ⟨lw_p11, List.forall_mem_cons.mpr ⟨lw_p12, List.forall_mem_cons.mpr ⟨lw_p13, List.forall_mem_cons.mpr ⟨lw_p14, List.forall_mem_cons.mpr ⟨lw_p15, fun _ h => absurd h List.not_mem_nil⟩⟩⟩⟩⟩⟩⟩⟩⟩⟩⟩⟩⟩⟩⟩⟩
theorem lw_p16 : lw_okq (⟨"TwinOrchard", "pay", "(II)V"⟩, 13) := ⟨⟨by decide +kernel, by decide +kernel⟩, List.mem_of_getElem? (i := 14) (by decide +kernel), List.mem_of_getElem? (i := 319) (by decide +kernel), List.mem_of_getElem? (i := 320) (by decide +kernel)⟩
theorem lw_p17 : lw_okq (⟨"TwinOrchard", "pruneAt", "(II)Z"⟩, 13) := ⟨⟨by decide +kernel, by decide +kernel⟩, List.mem_of_getElem? (i := 14) (by decide +kernel), List.mem_of_getElem? (i := 334) (by decide +kernel), List.mem_of_getElem? (i := 335) (by decide +kernel)⟩
theorem lw_p18 : lw_okq (⟨"TwinOrchard", "canPrune", "(II)Z"⟩, 13) := ⟨⟨by decide +kernel, by decide +kernel⟩, List.mem_of_getElem? (i := 14) (by decide +kernel), List.mem_of_getElem? (i := 338) (by decide +kernel), List.mem_of_getElem? (i := 339) (by decide +kernel)⟩
theorem lw_p19 : lw_okq (⟨"TwinOrchard$Tree", "shorten", "(I)V"⟩, 4) := ⟨⟨by decide +kernel, by decide +kernel⟩, List.mem_of_getElem? (i := 22) (by decide +kernel), List.mem_of_getElem? (i := 342) (by decide +kernel), List.mem_of_getElem? (i := 343) (by decide +kernel)⟩
theorem lw_p20 : lw_okq (⟨"TwinOrchard", "keepLooked", "(I)V"⟩, 13) := ⟨⟨by decide +kernel, by decide +kernel⟩, List.mem_of_getElem? (i := 14) (by decide +kernel), List.mem_of_getElem? (i := 346) (by decide +kernel), List.mem_of_getElem? (i := 347) (by decide +kernel)⟩
theorem lw_p21 : lw_okq (⟨"TwinOrchard", "graftAt", "(II)Z"⟩, 13) := ⟨⟨by decide +kernel, by decide +kernel⟩, List.mem_of_getElem? (i := 14) (by decide +kernel), List.mem_of_getElem? (i := 357) (by decide +kernel), List.mem_of_getElem? (i := 358) (by decide +kernel)⟩
theorem lw_p22 : lw_okq (⟨"TwinOrchard", "fellAt", "(I)Z"⟩, 13) := ⟨⟨by decide +kernel, by decide +kernel⟩, List.mem_of_getElem? (i := 14) (by decide +kernel), List.mem_of_getElem? (i := 368) (by decide +kernel), List.mem_of_getElem? (i := 369) (by decide +kernel)⟩
theorem lw_p23 : lw_okq (⟨"TwinOrchard", "passAt", "(II)I"⟩, 13) := ⟨⟨by decide +kernel, by decide +kernel⟩, List.mem_of_getElem? (i := 14) (by decide +kernel), List.mem_of_getElem? (i := 425) (by decide +kernel), List.mem_of_getElem? (i := 426) (by decide +kernel)⟩
theorem lw_p24 : lw_okq (⟨"TwinOrchard", "liveLooked", "(I)I"⟩, 13) := ⟨⟨by decide +kernel, by decide +kernel⟩, List.mem_of_getElem? (i := 14) (by decide +kernel), List.mem_of_getElem? (i := 429) (by decide +kernel), List.mem_of_getElem? (i := 430) (by decide +kernel)⟩
theorem lw_p25 : lw_okq (⟨"TwinOrchard$Tree", "liveYear", "(I)I"⟩, 4) := ⟨⟨by decide +kernel, by decide +kernel⟩, List.mem_of_getElem? (i := 22) (by decide +kernel), List.mem_of_getElem? (i := 436) (by decide +kernel), List.mem_of_getElem? (i := 437) (by decide +kernel)⟩
theorem lw_p26 : lw_okq (⟨"TwinOrchard$Tree", "freeze", "(I)V"⟩, 4) := ⟨⟨by decide +kernel, by decide +kernel⟩, List.mem_of_getElem? (i := 22) (by decide +kernel), List.mem_of_getElem? (i := 440) (by decide +kernel), List.mem_of_getElem? (i := 441) (by decide +kernel)⟩
theorem lw_p27 : lw_okq (⟨"TwinOrchard$Tree", "grow", "()V"⟩, 4) := ⟨⟨by decide +kernel, by decide +kernel⟩, List.mem_of_getElem? (i := 22) (by decide +kernel), List.mem_of_getElem? (i := 446) (by decide +kernel), List.mem_of_getElem? (i := 447) (by decide +kernel)⟩
theorem lw_p28 : lw_okq (⟨"TwinOrchard", "gainOfPruning", "(III)I"⟩, 13) := ⟨⟨by decide +kernel, by decide +kernel⟩, List.mem_of_getElem? (i := 14) (by decide +kernel), List.mem_of_getElem? (i := 465) (by decide +kernel), List.mem_of_getElem? (i := 466) (by decide +kernel)⟩
theorem lw_p29 : lw_okq (⟨"TwinOrchardModel", "fail", "(I)I"⟩, 8) := ⟨⟨by decide +kernel, by decide +kernel⟩, List.mem_of_getElem? (i := 469) (by decide +kernel), List.mem_of_getElem? (i := 514) (by decide +kernel), List.mem_of_getElem? (i := 515) (by decide +kernel)⟩
theorem lw_p30 : lw_okq (⟨"TwinOrchardModel", "both", "(IIIII)I"⟩, 8) := ⟨⟨by decide +kernel, by decide +kernel⟩, List.mem_of_getElem? (i := 469) (by decide +kernel), List.mem_of_getElem? (i := 529) (by decide +kernel), List.mem_of_getElem? (i := 530) (by decide +kernel)⟩
theorem lw_p31 : lw_okq (⟨"TwinOrchardModel", "does", "(IIIII)Z"⟩, 8) := ⟨⟨by decide +kernel, by decide +kernel⟩, List.mem_of_getElem? (i := 469) (by decide +kernel), List.mem_of_getElem? (i := 533) (by decide +kernel), List.mem_of_getElem? (i := 534) (by decide +kernel)⟩
def lw_privs_2 : List (MethodName × Nat) := [(⟨"TwinOrchard", "pay", "(II)V"⟩, 13), (⟨"TwinOrchard", "pruneAt", "(II)Z"⟩, 13), (⟨"TwinOrchard", "canPrune", "(II)Z"⟩, 13), (⟨"TwinOrchard$Tree", "shorten", "(I)V"⟩, 4), (⟨"TwinOrchard", "keepLooked", "(I)V"⟩, 13), (⟨"TwinOrchard", "graftAt", "(II)Z"⟩, 13), (⟨"TwinOrchard", "fellAt", "(I)Z"⟩, 13), (⟨"TwinOrchard", "passAt", "(II)I"⟩, 13), (⟨"TwinOrchard", "liveLooked", "(I)I"⟩, 13), (⟨"TwinOrchard$Tree", "liveYear", "(I)I"⟩, 4), (⟨"TwinOrchard$Tree", "freeze", "(I)V"⟩, 4), (⟨"TwinOrchard$Tree", "grow", "()V"⟩, 4), (⟨"TwinOrchard", "gainOfPruning", "(III)I"⟩, 13), (⟨"TwinOrchardModel", "fail", "(I)I"⟩, 8), (⟨"TwinOrchardModel", "both", "(IIIII)I"⟩, 8), (⟨"TwinOrchardModel", "does", "(IIIII)Z"⟩, 8)]
theorem lw_r2 : ∀ q ∈ lw_privs_2, lw_okq q := List.forall_mem_cons.mpr ⟨lw_p16, List.forall_mem_cons.mpr ⟨lw_p17, List.forall_mem_cons.mpr ⟨lw_p18, List.forall_mem_cons.mpr ⟨lw_p19, List.forall_mem_cons.mpr ⟨lw_p20, List.forall_mem_cons.mpr ⟨lw_p21, List.forall_mem_cons.mpr ⟨lw_p22, List.forall_mem_cons.mpr ⟨lw_p23, List.forall_mem_cons.mpr ⟨lw_p24, List.forall_mem_cons.mpr ⟨lw_p25, List.forall_mem_cons.mpr ⟨lw_p26, List.forall_mem_cons.mpr ⟨lw_p27, List.forall_mem_cons.mpr ⟨lw_p28, List.forall_mem_cons.mpr ⟨lw_p29, List.forall_mem_cons.mpr ⟨lw_p30, List.forall_mem_cons.mpr ⟨lw_p31, fun _ h => absurd h List.not_mem_nil⟩⟩⟩⟩⟩⟩⟩⟩⟩⟩⟩⟩⟩⟩⟩⟩
theorem lw_p32 : lw_okq (⟨"TwinOrchardModel", "can", "(III)Z"⟩, 8) := ⟨⟨by decide +kernel, by decide +kernel⟩, List.mem_of_getElem? (i := 469) (by decide +kernel), List.mem_of_getElem? (i := 539) (by decide +kernel), List.mem_of_getElem? (i := 540) (by decide +kernel)⟩
theorem lw_p33 : lw_okq (⟨"TwinOrchardModel", "tr", "(II)I"⟩, 8) := ⟨⟨by decide +kernel, by decide +kernel⟩, List.mem_of_getElem? (i := 469) (by decide +kernel), List.mem_of_getElem? (i := 543) (by decide +kernel), List.mem_of_getElem? (i := 544) (by decide +kernel)⟩
theorem lw_p34 : lw_okq (⟨"TwinOrchardModel", "change", "(IIII)V"⟩, 8) := ⟨⟨by decide +kernel, by decide +kernel⟩, List.mem_of_getElem? (i := 469) (by decide +kernel), List.mem_of_getElem? (i := 547) (by decide +kernel), List.mem_of_getElem? (i := 548) (by decide +kernel)⟩
theorem lw_p35 : lw_okq (⟨"TwinOrchardModel", "set", "(III)V"⟩, 8) := ⟨⟨by decide +kernel, by decide +kernel⟩, List.mem_of_getElem? (i := 469) (by decide +kernel), List.mem_of_getElem? (i := 554) (by decide +kernel), List.mem_of_getElem? (i := 555) (by decide +kernel)⟩
theorem lw_p36 : lw_okq (⟨"TwinOrchardModel", "treeTold", "(II)I"⟩, 8) := ⟨⟨by decide +kernel, by decide +kernel⟩, List.mem_of_getElem? (i := 469) (by decide +kernel), List.mem_of_getElem? (i := 575) (by decide +kernel), List.mem_of_getElem? (i := 576) (by decide +kernel)⟩
theorem lw_p37 : lw_okq (⟨"TwinOrchardModel", "apples", "(I)I"⟩, 8) := ⟨⟨by decide +kernel, by decide +kernel⟩, List.mem_of_getElem? (i := 469) (by decide +kernel), List.mem_of_getElem? (i := 579) (by decide +kernel), List.mem_of_getElem? (i := 580) (by decide +kernel)⟩
theorem lw_p38 : lw_okq (⟨"TwinOrchardModel", "sortTold", "(II)I"⟩, 8) := ⟨⟨by decide +kernel, by decide +kernel⟩, List.mem_of_getElem? (i := 469) (by decide +kernel), List.mem_of_getElem? (i := 587) (by decide +kernel), List.mem_of_getElem? (i := 588) (by decide +kernel)⟩
theorem lw_p39 : lw_okq (⟨"TwinOrchardModel", "counted", "(I)I"⟩, 8) := ⟨⟨by decide +kernel, by decide +kernel⟩, List.mem_of_getElem? (i := 469) (by decide +kernel), List.mem_of_getElem? (i := 595) (by decide +kernel), List.mem_of_getElem? (i := 596) (by decide +kernel)⟩
theorem lw_p40 : lw_okq (⟨"TwinOrchardModel", "all", "(I)I"⟩, 8) := ⟨⟨by decide +kernel, by decide +kernel⟩, List.mem_of_getElem? (i := 469) (by decide +kernel), List.mem_of_getElem? (i := 599) (by decide +kernel), List.mem_of_getElem? (i := 600) (by decide +kernel)⟩
theorem lw_p41 : lw_okq (⟨"TwinOrchardModel", "yearsOn", "(I)I"⟩, 8) := ⟨⟨by decide +kernel, by decide +kernel⟩, List.mem_of_getElem? (i := 469) (by decide +kernel), List.mem_of_getElem? (i := 624) (by decide +kernel), List.mem_of_getElem? (i := 625) (by decide +kernel)⟩
theorem lw_p42 : lw_okq (⟨"TwinOrchardModel", "yearOn", "()I"⟩, 8) := ⟨⟨by decide +kernel, by decide +kernel⟩, List.mem_of_getElem? (i := 469) (by decide +kernel), List.mem_of_getElem? (i := 628) (by decide +kernel), List.mem_of_getElem? (i := 629) (by decide +kernel)⟩
theorem lw_p43 : lw_okq (⟨"TwinOrchardModel", "kept", "()[[I"⟩, 8) := ⟨⟨by decide +kernel, by decide +kernel⟩, List.mem_of_getElem? (i := 469) (by decide +kernel), List.mem_of_getElem? (i := 636) (by decide +kernel), List.mem_of_getElem? (i := 637) (by decide +kernel)⟩
theorem lw_p44 : lw_okq (⟨"TwinOrchardModel", "bringBack", "([[I)V"⟩, 8) := ⟨⟨by decide +kernel, by decide +kernel⟩, List.mem_of_getElem? (i := 469) (by decide +kernel), List.mem_of_getElem? (i := 648) (by decide +kernel), List.mem_of_getElem? (i := 649) (by decide +kernel)⟩
def lw_privs_3 : List (MethodName × Nat) := [(⟨"TwinOrchardModel", "can", "(III)Z"⟩, 8), (⟨"TwinOrchardModel", "tr", "(II)I"⟩, 8), (⟨"TwinOrchardModel", "change", "(IIII)V"⟩, 8), (⟨"TwinOrchardModel", "set", "(III)V"⟩, 8), (⟨"TwinOrchardModel", "treeTold", "(II)I"⟩, 8), (⟨"TwinOrchardModel", "apples", "(I)I"⟩, 8), (⟨"TwinOrchardModel", "sortTold", "(II)I"⟩, 8), (⟨"TwinOrchardModel", "counted", "(I)I"⟩, 8), (⟨"TwinOrchardModel", "all", "(I)I"⟩, 8), (⟨"TwinOrchardModel", "yearsOn", "(I)I"⟩, 8), (⟨"TwinOrchardModel", "yearOn", "()I"⟩, 8), (⟨"TwinOrchardModel", "kept", "()[[I"⟩, 8), (⟨"TwinOrchardModel", "bringBack", "([[I)V"⟩, 8)]
theorem lw_r3 : ∀ q ∈ lw_privs_3, lw_okq q := List.forall_mem_cons.mpr ⟨lw_p32, List.forall_mem_cons.mpr ⟨lw_p33, List.forall_mem_cons.mpr ⟨lw_p34, List.forall_mem_cons.mpr ⟨lw_p35, List.forall_mem_cons.mpr ⟨lw_p36, List.forall_mem_cons.mpr ⟨lw_p37, List.forall_mem_cons.mpr ⟨lw_p38, List.forall_mem_cons.mpr ⟨lw_p39, List.forall_mem_cons.mpr ⟨lw_p40, List.forall_mem_cons.mpr ⟨lw_p41, List.forall_mem_cons.mpr ⟨lw_p42, List.forall_mem_cons.mpr ⟨lw_p43, List.forall_mem_cons.mpr ⟨lw_p44, fun _ h => absurd h List.not_mem_nil⟩⟩⟩⟩⟩⟩⟩⟩⟩⟩⟩⟩⟩
def lw_privs : List (MethodName × Nat) := lw_privs_1 ++ (lw_privs_2 ++ (lw_privs_3))
def lw_tbl : List Cond := k2_sels lw_privs ++ tables_1
theorem lw_privs_ok : ∀ q ∈ lw_privs, lw_okq q := by
  show ∀ q ∈ lw_privs_1 ++ (lw_privs_2 ++ (lw_privs_3)), lw_okq q
  exact List.forall_mem_append.mpr ⟨lw_r1, List.forall_mem_append.mpr ⟨lw_r2, lw_r3⟩⟩
/-- the streams that the claim lets the run draw from -/
abbrev lw_cs : List Choice := [Jvm.Choice.named "NaN.bits"]
theorem lw_bits : nanBits ∈ lw_cs := by first | decide | exact List.mem_cons_self | simp [lw_cs, nanBits]
-- ===== end of PART A; then your names; then what follows =====
end
section
/-! ===== BEGIN words of one list among another's, by their places ===== -/
theorem goodIn_r {big : List Cond} (ws : List Cond) (ps : List Nat) (hp : ws = ps.filterMap (fun i => big[i]?)) (h : ws.all goodWord = true) : GoodIn big ws := by
  intro w hw
  have h1 := List.all_eq_true.mp h w hw
  rw [hp] at hw
  obtain ⟨i, -, hi⟩ := List.mem_filterMap.mp hw
  have hm : w ∈ big := by first | exact List.mem_of_getElem? hi | exact List.getElem?_mem hi
  exact ⟨hm, good_of_word h1⟩
theorem goodIn_app {big a b : List Cond} (ha : GoodIn big a) (hb : GoodIn big b) : GoodIn big (a ++ b) := fun w h => (List.mem_append.mp h).elim (ha w) (hb w)
theorem goodIn_ca {big a b : List Cond} {c : Cond} (ha : GoodIn big (c :: a)) (hb : GoodIn big b) : GoodIn big (c :: (a ++ b)) := fun w h => (List.mem_cons.mp h).elim (fun e => ha w (List.mem_cons.mpr (Or.inl e))) (fun h => (List.mem_append.mp h).elim (fun h => ha w (List.mem_cons.mpr (Or.inr h))) (hb w))
theorem goodIn_sub {big ws : List Cond} (hm : ∀ w ∈ ws, w ∈ big) (h : ws.all goodWord = true) : GoodIn big ws := fun w hw => ⟨hm w hw, good_of_word (List.all_eq_true.mp h w hw)⟩
/-! ===== END ===== -/

/-! ===== BEGIN exceptions that leave a method, and their catching by the caller (launches without stack traces) ===== -/
section VXA
/-! The laws vx_back, vx_callV, vx_callS, vx_callSW, vx_throw0, vx_throwS follow proofs of the library, with one case more: JvmDerived/Free/Laws.lean (Back.of_free), Shelf42/LK1.lean (callV, callS), Shelf/KitTraced.lean (throwNew0V, throwNewS). -/
/-- where a method has thrown q: the class by its name, the cell, what was written, the world -/
def vx_T (XC : String → State → State → Prop) (st : State) (q : Addr) (t : State) (mc ms : Nat) (free : Addr → Prop) : Prop :=
  ∃ (E : String) (ce : Cell) (L : List Loc), XC E st t ∧ t.heap[q]? = some ce ∧ ce.vm = .none ∧ st.vm.findClass E = some ce.cls ∧ st.WarmedH t.vm ∧ st.sameButNew ({ t with vm := st.vm } : State) L mc ms ∧ ∀ z ∈ L, free z.base
def vx_Q (Qc : Array Value → State → Outcome → State → Prop) (XC : String → State → State → Prop) (mc ms : Nat) (free : Addr → Prop) : Array Value → State → Outcome → State → Prop := fun a st o t =>
  (Qc a st o t ∧ ∃ L, FrameEnd st o t L mc ms ∧ ∀ q ∈ L, free q.base) ∨ ∃ q, o = .threw q ∧ vx_T XC st q t mc ms free
/-- a callee that returns or throws -/
def vx_Met (l : Launch) (y : MethodName) (ws : List Cond) (rm : Room) (Pc : Array Value → State → Prop) (Qc : Array Value → State → Outcome → State → Prop) (XC : String → State → State → Prop) (mc ms : Nat) (free : Addr → Prop) : Prop :=
  MetFree l y (headSpec ws rm) Pc (fun _ _ _ _ _ => True) (vx_Q Qc XC mc ms free)
def vx_Post (XC : String → State → State → Prop) (mc ms : Nat) (free : Addr → Prop) : Pt → Array Value → Addr → Pt → Prop := fun A a q B =>
  ∃ (g : JFrame) (mk : MethodId) (t : State) (L : List Loc) (E : String) (ce : Cell), B.U.heap = t.heap ∧ B.U.vm = t.vm ∧ XC E (A.U.calling g mk a) t ∧ t.heap[q]? = some ce ∧ ce.vm = .none ∧ A.U.vm.findClass E = some ce.cls ∧ B.locs = A.locs ++ L ∧ (∀ z ∈ L, free z.base) ∧ B.cells = A.cells + mc ∧ B.slots = A.slots + ms
def vx_Back (l : Launch) (R : Room) (p : Program) (e : Env) (below : List Frame) (s : State) (sargs : Array Value) (y : MethodName) (len W9 : Nat)
    (Pre : Pt → Array Value → Prop) (Post : Pt → Array Value → Option Value → Pt → Prop) (PostX : Pt → Array Value → Addr → Pt → Prop) : Prop :=
  ∀ (m : MethodId) (meth : Method) (c : Code) (A : Pt) (g : JFrame) (ig : Instr) (mk : MethodId) (a : Array Value),
    Stand p l e R s m sargs below meth c A.U A.locs A.cells A.slots → g.method = m → g.locals.size = c.maxLocals → decode c.code g.pc = .ok (ig, len) →
    2 * g.monitorRoom + (g.stack.map fun v => v.category).sum ≤ W9 → A.U.methodNamed? y = some mk → Pre A a →
    (∃ (v : Option Value) (B : Pt), Stand p l e R s m sargs below meth c B.U B.locs B.cells B.slots ∧ Post A a v B ∧
      Steps p.tables e below (doInvoke e (A.U.setTop g) [] mk a).1 (B.U.setTop { g with pc := g.pc + len, stack := v.toList ++ g.stack })) ∨
    (∃ (q : Addr) (B : Pt), Stand p l e R s m sargs below meth c B.U B.locs B.cells B.slots ∧ PostX A a q B ∧
      Steps p.tables e below (doInvoke e (A.U.setTop g) [] mk a).1 ((B.U.setTop g).pushFrame (.throwing q)))
section Payer
variable {l : Launch} {R : Room} {p : Program} {e : Env} {below : List Frame} {s : State} {sargs : Array Value} {y : MethodName} {len W9 : Nat}
theorem vx_back {ws : List Cond} {rm : Room} {Pc : Array Value → State → Prop} {Qc : Array Value → State → Outcome → State → Prop} {XC : String → State → State → Prop} {mc ms : Nat} {free : Addr → Prop} {bytes : ByteArray} {maxL : Nat} {ret : Option FieldType}
    (hM : vx_Met l y ws rm Pc Qc XC mc ms free) (hblind : FrameBlind Pc) (hrc : rm.cells = mc) (hrs : rm.slots = ms)
    (hframes : rm.frames + 1 ≤ R.frames) (hlocals : W9 + (maxL + 11) + rm.locals ≤ R.locals)
    (hws : ∀ w ∈ ws, ∀ a' U, s.WarmedH U.vm → w.before a' U = true) (hcode : Cond.code y bytes maxL ret ∈ ws) (hinit : ∀ a' U, s.WarmedH U.vm → (Cond.initialized y.cls).before a' U = true) :
    vx_Back l R p e below s sargs y len W9 (PreOf R mc ms Pc) (PostOf Qc mc ms free) (vx_Post XC mc ms free) := by
  intro m meth c A g ig mk a X hg hsize hdg hW hn hp
  have h1 : (headSpec ws rm).pre.before a A.U = true := atoms_intro fun w hw => hws w hw _ _ X.warmed
  have h2 : (Cond.code y bytes maxL ret).before a A.U = true := hws _ hcode _ _ X.warmed
  have h3 : (Cond.initialized y.cls).before a A.U = true := hinit _ _ X.warmed
  have h4 : A.cells + (headSpec ws rm).room.cells ≤ R.cells := by rw [show (headSpec ws rm).room.cells = mc from hrc]; exact hp.1
  have h5 : A.slots + (headSpec ws rm).room.slots ≤ R.slots := by rw [show (headSpec ws rm).room.slots = ms from hrs]; exact hp.2.1
  have hPc : Pc a (A.U.calling g mk a) := hblind _ _ _ _ hp.2.2
  obtain ⟨U, Ls, c0, s0⟩ := A
  dsimp only [Pt.U, Pt.locs, Pt.cells, Pt.slots] at h1 h2 h3 h4 h5 X hn hPc ⊢
  obtain ⟨methY, cY, hmY, hcY, -, hlY, -, -, -, -⟩ := Cond.code_spec hn h2
  obtain ⟨kY, hkY, -⟩ := className_of_methodNamed hn
  have hinitY : kY.init = .initialized := Cond.initialized_spec (findClass_of_methodNamed hn) hkY h3
  have h : At U g.method c below := by rw [hg]; exact X.here
  have hlocals9 : W9 + (maxL + 11) + (headSpec ws rm).room.locals ≤ R.locals := hlocals
  have happ : (headSpec ws rm).appliesLoose y e.platform (U.calling g mk a) = true :=
    Spec.appliesLoose_calling (g := g) h hdg hn hkY hinitY
      (X.room_calling (g := g) (R' := (headSpec ws rm).room) hsize hmY hcY hframes (by rw [hlY]; omega) h4 h5) h1
  obtain ⟨mid, hmid⟩ := h.above
  have hfr : (U.setTop g).frames = (.java g :: mid) ++ below := by rw [State.frames_setTop' g h.top, hmid]; rfl
  obtain ⟨o, s₂, hsteps, -, hend, hq⟩ := Steps.callFree hM p X.admits X.cas X.clock (acts := []) hfr happ hPc trivial
  have hq' : vx_Q Qc XC mc ms free a (U.calling g mk a) o s₂ := hq
  rw [State.frames_setTop' g h.top] at hend
  obtain ⟨g₀, hg0⟩ := Option.isSome_iff_exists.mp h.top
  obtain ⟨r, hr⟩ := State.topJava?_eq_some.mp hg0
  have hr' : (({ U with heap := s₂.heap, slotsUsed := s₂.slotsUsed } : State).setVm s₂.vm).frames = .java g₀ :: r := hr
  rcases hq' with ⟨hqc, L, hfe, hL⟩ | ⟨q, rfl, E, ce, L, hx, hce, hcv, hcl, hW₂, hsm, hL⟩
  · obtain ⟨⟨v, rfl⟩, hW₂, e2, q2, q3, q4, q5, q6⟩ := id hfe
    have e3 : s₂ = ({ (U.calling g mk a).setFrames s₂.frames with heap := s₂.heap, slotsUsed := s₂.slotsUsed } : State).setVm s₂.vm := by
      have : s₂ = ({ s₂ with vm := (U.calling g mk a).vm } : State).setVm s₂.vm := rfl
      rw [e2] at this
      exact this
    obtain ⟨c₂, i₂, len₂, hc₂, hd₂, hf₂⟩ := hend
    have hW' : U.WarmedH s₂.vm := hW₂
    have hcc : c₂ = c := by
      have h1 : s₂.code? g.method = U.code? g.method := by
        rw [State.code?_eq, State.code?_eq, hW'.alike.method?]
      exact Option.some.inj (hc₂.symm.trans (h1.trans h.code))
    subst hcc
    have hlen : len₂ = len := by rw [hdg] at hd₂; cases hd₂; rfl
    subst hlen
    have hs₂ : s₂ = (({ U with heap := s₂.heap, slotsUsed := s₂.slotsUsed } : State).setVm s₂.vm).setTop { g with pc := g.pc + len₂, stack := v.toList ++ g.stack } := by
      refine e3.trans ?_
      rw [hf₂, State.calling_eq h.top, State.setFrames_setFrames, State.setTop_of_frames _ hr', hr]
      rfl
    have hsame : U.sameButNew ({ U with heap := s₂.heap, slotsUsed := s₂.slotsUsed } : State) L mc ms := by
      refine ⟨?_, q2, q3, q4, q5, q6⟩
      obtain ⟨t, ht, -⟩ := State.frames_cons hr
      show ({ U with heap := s₂.heap, slotsUsed := s₂.slotsUsed } : State) = { U.setFrames U.frames with heap := s₂.heap, slotsUsed := s₂.slotsUsed }
      rw [State.setFrames_self ht]
    subst hg
    refine Or.inl ⟨v, ⟨(({ U with heap := s₂.heap, slotsUsed := s₂.slotsUsed } : State).setVm s₂.vm), Ls ++ L, c0 + mc, s0 + ms⟩,
      ⟨X.admits, X.cas, X.clock, X.frames, X.room, X.hears, X.method, X.code, (X.here.setHeapUsed s₂.heap s₂.slotsUsed).setVm hW'.alike, X.tail, State.WarmedH.trans X.warmed hW', X.limits, X.bytes, X.same.trans (hsame.setVm s.vm)⟩,
      ⟨g, mk, s₂, L, rfl, rfl, hqc, rfl, hL, rfl, rfl⟩, ?_⟩
    show Steps p.tables e below _ ((({ U with heap := s₂.heap, slotsUsed := s₂.slotsUsed } : State).setVm s₂.vm).setTop { g with pc := g.pc + len₂, stack := v.toList ++ g.stack })
    rw [← hs₂]
    exact hsteps
  · obtain ⟨e2, q2, q3, q4, q5, q6⟩ := id hsm
    have e3 : s₂ = ({ (U.calling g mk a).setFrames s₂.frames with heap := s₂.heap, slotsUsed := s₂.slotsUsed } : State).setVm s₂.vm := by
      have : s₂ = ({ s₂ with vm := (U.calling g mk a).vm } : State).setVm s₂.vm := rfl
      rw [e2] at this
      exact this
    have hf₂ : s₂.frames = .throwing q :: .java g :: U.frames.tail := hend
    have hW' : U.WarmedH s₂.vm := hW₂
    have hs₂ : s₂ = ((({ U with heap := s₂.heap, slotsUsed := s₂.slotsUsed } : State).setVm s₂.vm).setTop g).pushFrame (.throwing q) := by
      refine e3.trans ?_
      rw [hf₂, State.calling_eq h.top, State.setFrames_setFrames, State.pushFrame, State.frames_setTop _ hr', State.setTop_of_frames _ hr', State.setFrames_setFrames, hr]
      rfl
    have hsame : U.sameButNew ({ U with heap := s₂.heap, slotsUsed := s₂.slotsUsed } : State) L mc ms := by
      refine ⟨?_, q2, q3, q4, q5, q6⟩
      obtain ⟨t, ht, -⟩ := State.frames_cons hr
      show ({ U with heap := s₂.heap, slotsUsed := s₂.slotsUsed } : State) = { U.setFrames U.frames with heap := s₂.heap, slotsUsed := s₂.slotsUsed }
      rw [State.setFrames_self ht]
    subst hg
    refine Or.inr ⟨q, ⟨(({ U with heap := s₂.heap, slotsUsed := s₂.slotsUsed } : State).setVm s₂.vm), Ls ++ L, c0 + mc, s0 + ms⟩,
      ⟨X.admits, X.cas, X.clock, X.frames, X.room, X.hears, X.method, X.code, (X.here.setHeapUsed s₂.heap s₂.slotsUsed).setVm hW'.alike, X.tail, State.WarmedH.trans X.warmed hW', X.limits, X.bytes, X.same.trans (hsame.setVm s.vm)⟩,
      ⟨g, mk, s₂, L, E, ce, rfl, rfl, hx, hce, hcv, hcl, rfl, hL, rfl, rfl⟩, ?_⟩
    show Steps p.tables e below _ (((({ U with heap := s₂.heap, slotsUsed := s₂.slotsUsed } : State).setVm s₂.vm).setTop g).pushFrame (.throwing q))
    rw [← hs₂]
    exact hsteps
end Payer
section Calls
variable {p : Program} {l : Launch} {e : Env} {R : Room} {s : State} {m : MethodId} {args : Array Value} {below : List Frame} {meth : Method} {c : Code} {T : State} {locs : List Loc} {cells slots : Nat}
theorem vx_callV (X : Stand p l e R s m args below meth c T locs cells slots) (hexec : p.tables.exec = Jvm.exec) {own C : String} {index : Nat} {y : MethodName} {bytes : ByteArray} {maxL : Nat} {ret : Option FieldType}
    (hown : s.vm.findClass own = some m.cls) (hlink : (Cond.methodLink own index y).before args s = true) (hinst : (Cond.instanceMethod y).before args s = true) (hsel : (Cond.selects C y y).before args s = true)
    (hcode : (Cond.code y bytes maxL ret).before args s = true) (hy : y.cls ≠ "java/lang/invoke/MethodHandle" ∧ y.cls ≠ "java/lang/invoke/VarHandle")
    {W9 : Nat} {Pre : Pt → Array Value → Prop} {Post : Pt → Array Value → Option Value → Pt → Prop} {PostX : Pt → Array Value → Addr → Pt → Prop} (hK : vx_Back l R p e below s args y 3 W9 Pre Post PostX)
    {b : Addr} {cellB : Cell} (hcell : T.heap[b]? = some cellB) (hobj : cellB.vm.isStatics = false) (hcls : s.vm.findClass C = some cellB.cls)
    {g : JFrame} (hg : g.method = m) (hsize : g.locals.size = c.maxLocals) {argsL rest : List Value} (hlen : ∀ sig, parseMethodDescriptor y.desc = some sig → argsL.length = sig.parameters.length)
    (hstack : g.stack = argsL.reverse ++ .ref b :: rest) (hW : 2 * g.monitorRoom + (rest.map fun v => v.category).sum ≤ W9) (hdg : decode c.code g.pc = .ok (.invokevirtual index, 3))
    (hpre : ∀ vm₁, s.WarmedH vm₁ → Pre ⟨T.setVm vm₁, locs, cells, slots⟩ (Value.ref b :: argsL).toArray) :
    (∃ (v : Option Value) (vm₁ : Vm) (B : Pt), s.WarmedH vm₁ ∧ Stand p l e R s m args below meth c B.U B.locs B.cells B.slots ∧ Post ⟨T.setVm vm₁, locs, cells, slots⟩ (Value.ref b :: argsL).toArray v B ∧
      ∀ target, Steps p.tables e below (B.U.setTop { g with pc := g.pc + 3, stack := v.toList ++ rest }) target → Steps p.tables e below (T.setTop g) target) ∨
    (∃ (q : Addr) (vm₁ : Vm) (B : Pt), s.WarmedH vm₁ ∧ Stand p l e R s m args below meth c B.U B.locs B.cells B.slots ∧ PostX ⟨T.setVm vm₁, locs, cells, slots⟩ (Value.ref b :: argsL).toArray q B ∧
      Steps p.tables e below (T.setTop g) ((B.U.setTop { g with stack := rest }).pushFrame (.throwing q))) := by
  obtain ⟨mk, methM, hnamed, hmethM, hstM, habM⟩ := Cond.instanceMethod_spec hinst
  obtain ⟨methM', cM, hmethM', -, -, -, -, -, -, hsigM⟩ := Cond.code_spec hnamed hcode
  cases hmethM.symm.trans hmethM'
  obtain ⟨c2, r2, m2, q1, q2, q3, q4, kP, hkP, hkPi⟩ := Cond.selects_spec hsel
  cases hcls.symm.trans q1
  cases (State.methodFound?_of_named hnamed hy).symm.trans q2
  cases hnamed.symm.trans q3
  have hselP : selectMethod e.platform s.vm cellB.cls mk = .method mk := by rw [Launch.admits_selectMethod X.admits]; exact q4
  obtain ⟨vm₁, X₁, hstep₁⟩ := X.invokevirtual hexec hown hlink hnamed hmethM hstM hkP hkPi hy (a := b) (cell := cellB) hcell
    (fun z h => by rw [h] at hobj; cases hobj) hselP hmethM habM hkP hkPi (g := g) hg (argsL := argsL) (rest := rest) (hlen _ hsigM) hstack hdg
  rcases hK m meth c ⟨T.setVm vm₁, locs, cells, slots⟩ { g with stack := rest } (.invokevirtual index) mk (Value.ref b :: argsL).toArray X₁ hg hsize hdg hW (X₁.named hnamed) (hpre vm₁ X₁.warmed) with ⟨v, B, X', hpost, hsteps⟩ | ⟨q, B, X', hpost, hsteps⟩
  · exact Or.inl ⟨v, vm₁, B, X₁.warmed, X', hpost, fun target h => hstep₁ _ fun acts => by rw [doInvoke_state]; exact hsteps.trans h⟩
  · exact Or.inr ⟨q, vm₁, B, X₁.warmed, X', hpost, hstep₁ _ fun acts => by rw [doInvoke_state]; exact hsteps⟩
theorem vx_callS (X : Stand p l e R s m args below meth c T locs cells slots) (hexec : p.tables.exec = Jvm.exec) {own : String} {index : Nat} {y : MethodName} {bytes : ByteArray} {maxL : Nat} {ret : Option FieldType}
    (hown : s.vm.findClass own = some m.cls) (hlink : (Cond.methodLink own index y).before args s = true) (hstat : (Cond.static y).before args s = true) (hinit : (Cond.initialized y.cls).before args s = true)
    (hcode : (Cond.code y bytes maxL ret).before args s = true) (hy : y.cls ≠ "java/lang/invoke/MethodHandle" ∧ y.cls ≠ "java/lang/invoke/VarHandle")
    {W9 : Nat} {Pre : Pt → Array Value → Prop} {Post : Pt → Array Value → Option Value → Pt → Prop} {PostX : Pt → Array Value → Addr → Pt → Prop} (hK : vx_Back l R p e below s args y 3 W9 Pre Post PostX)
    {g : JFrame} (hg : g.method = m) (hsize : g.locals.size = c.maxLocals) {argsL rest : List Value} (hlen : ∀ sig, parseMethodDescriptor y.desc = some sig → argsL.length = sig.parameters.length)
    (hstack : g.stack = argsL.reverse ++ rest) (hW : 2 * g.monitorRoom + (rest.map fun v => v.category).sum ≤ W9) (hdg : decode c.code g.pc = .ok (.invokestatic index, 3))
    (hpre : ∀ vm₁, s.WarmedH vm₁ → Pre ⟨T.setVm vm₁, locs, cells, slots⟩ argsL.toArray) :
    (∃ (v : Option Value) (vm₁ : Vm) (B : Pt), s.WarmedH vm₁ ∧ Stand p l e R s m args below meth c B.U B.locs B.cells B.slots ∧ Post ⟨T.setVm vm₁, locs, cells, slots⟩ argsL.toArray v B ∧
      ∀ target, Steps p.tables e below (B.U.setTop { g with pc := g.pc + 3, stack := v.toList ++ rest }) target → Steps p.tables e below (T.setTop g) target) ∨
    (∃ (q : Addr) (vm₁ : Vm) (B : Pt), s.WarmedH vm₁ ∧ Stand p l e R s m args below meth c B.U B.locs B.cells B.slots ∧ PostX ⟨T.setVm vm₁, locs, cells, slots⟩ argsL.toArray q B ∧
      Steps p.tables e below (T.setTop g) ((B.U.setTop { g with stack := rest }).pushFrame (.throwing q))) := by
  obtain ⟨mk, hnamed⟩ := Cond.code_named hcode
  obtain ⟨methM, cM, hmethM, -, -, -, -, -, -, hsigM⟩ := Cond.code_spec hnamed hcode
  have hstatic : methM.isStatic = true := Cond.static_spec hnamed hmethM hstat
  obtain ⟨kP, hkP, -⟩ := className_of_methodNamed hnamed
  have hinitP : kP.init = .initialized := Cond.initialized_spec (findClass_of_methodNamed hnamed) hkP hinit
  obtain ⟨vm₁, X₁, hstep₁⟩ := X.invokestatic hexec hown hlink hnamed hmethM hstatic hkP hinitP hy (g := g) hg (argsL := argsL) (rest := rest) (hlen _ hsigM) hstack hdg
  rcases hK m meth c ⟨T.setVm vm₁, locs, cells, slots⟩ { g with stack := rest } (.invokestatic index) mk argsL.toArray X₁ hg hsize hdg hW (X₁.named hnamed) (hpre vm₁ X₁.warmed) with ⟨v, B, X', hpost, hsteps⟩ | ⟨q, B, X', hpost, hsteps⟩
  · exact Or.inl ⟨v, vm₁, B, X₁.warmed, X', hpost, fun target h => hstep₁ _ fun acts => by rw [doInvoke_state]; exact hsteps.trans h⟩
  · exact Or.inr ⟨q, vm₁, B, X₁.warmed, X', hpost, hstep₁ _ fun acts => by rw [doInvoke_state]; exact hsteps⟩
end Calls
theorem vx_cls {s : State} {T : State} {vm₁ : Vm} {E : String} {k : ClassId} (hW : s.WarmedH vm₁) (h : (T.setVm vm₁).vm.findClass E = some k) : s.vm.findClass E = some k := by
  have h1 : vm₁.findClass E = some k := h
  rw [hW.alike.findClass] at h1
  exact h1
/-- the method's frame g, with q thrown over it -/
def vx_W (p : Program) (l : Launch) (e : Env) (R : Room) (s : State) (m : MethodId) (args : Array Value) (below : List Frame) (meth : Method) (c : Code) (H : Heap) (locs : List Loc) (cells slots : Nat) (Q : State → Prop) (g : JFrame) (q : Addr) : Prop :=
  ∀ T : State, T.heap = H → Stand p l e R s m args below meth c T locs cells slots → ∃ t, Steps p.tables e below ((T.setTop g).pushFrame (.throwing q)) t ∧ Q t
def vx_Run (p : Program) (l : Launch) (e : Env) (R : Room) (s : State) (m : MethodId) (args : Array Value) (below : List Frame) (meth : Method) (c : Code) (H : Heap) (locs : List Loc) (cells slots mc ms : Nat) (g : JFrame) (rest : List Value) (Qa : State → Outcome → State → Prop) (XC : String → State → State → Prop) (free : Addr → Prop) : Prop :=
  ∀ T : State, T.heap = H → Stand p l e R s m args below meth c T locs cells slots →
    (∃ (v : Option Value) (st₀ t T' : State) (L : List Loc), st₀.heap = H ∧ Stand p l e R s m args below meth c T' (locs ++ L) (cells + mc) (slots + ms) ∧ (∀ q ∈ L, free q.base) ∧ T'.heap = t.heap ∧ T'.vm = t.vm ∧ Qa st₀ (.returned v) t ∧
      Goes p e below T g T' { g with pc := g.pc + 3, stack := v.toList ++ rest }) ∨
    (∃ (q : Addr) (st₀ t T' : State) (L : List Loc) (E : String) (ce : Cell), st₀.heap = H ∧ Stand p l e R s m args below meth c T' (locs ++ L) (cells + mc) (slots + ms) ∧ (∀ z ∈ L, free z.base) ∧ T'.heap = t.heap ∧ T'.vm = t.vm ∧ XC E st₀ t ∧ t.heap[q]? = some ce ∧ ce.vm = .none ∧ s.vm.findClass E = some ce.cls ∧
      Steps p.tables e below (T.setTop g) ((T'.setTop { g with stack := rest }).pushFrame (.throwing q)))
def vx_X {S : Type} (px : S → Prop) (B : String → S → State → Prop) (A : Nat → Prop) : String → State → State → Prop := fun E st t => ∃ u : S, px u ∧ B E u t ∧ va_F A st t
section Runs
variable {p : Program} {l : Launch} {e : Env} {R : Room} {s : State} {m : MethodId} {args : Array Value} {below : List Frame} {meth : Method} {c : Code} {H : Heap} {locs : List Loc} {cells slots : Nat}
variable {y : MethodName} {bytes cc : ByteArray} {maxL nL mc ms n index : Nat} {ret : Option FieldType} {ws : List Cond} {rm : Room} {Pc : Array Value → State → Prop} {Qc : Array Value → State → Outcome → State → Prop} {XC : String → State → State → Prop} {free : Addr → Prop} {Ts : List Cond} {own C : String} {b : Addr} {As rest : List Value} {g : JFrame}
theorem vx_callBack (cb : CallB R s args own index y bytes maxL ret ws rm mc ms n) (hM : vx_Met l y ws rm Pc Qc XC mc ms free) (hbl : FrameBlind Pc) : vx_Back l R p e below s args y 3 8 (PreOf R mc ms Pc) (PostOf Qc mc ms free) (vx_Post XC mc ms free) := by
  obtain ⟨hrc, hrs, hfr, hlo, hws, hcw, -, hini, -⟩ := cb
  exact vx_back (bytes := bytes) (maxL := maxL) (ret := ret) hM hbl hrc hrs hfr hlo hws hcw (fun a' U hW => word_at hW (Or.inl (by first | rfl | simp [Cond.onTables, Cond.keeps, Cond.steady])) hini)
theorem vx_runV (S : CallFix p m c cc nL s args Ts own) (hM : vx_Met l y ws rm Pc Qc XC mc ms free) (cw : CallW R s args own C index y bytes maxL ret ws rm mc ms n) (hp : PreV s H C b Pc As)
    (hg : g.method = m) (hn : As.length = n) (hsize : g.locals.size = nL) (hstack : g.stack = As.reverse ++ .ref b :: rest) (hW : 2 * g.monitorRoom + (rest.map fun v => v.category).sum ≤ 8) (hdg : decode cc g.pc = .ok (.invokevirtual index, 3)) (hf : cells + mc ≤ R.cells ∧ slots + ms ≤ R.slots) :
    vx_Run p l e R s m args below meth c H locs cells slots mc ms g rest (Qc (Value.ref b :: As).toArray) XC free := by
  have hK : vx_Back l R p e below s args y 3 8 (PreOf R mc ms Pc) (PostOf Qc mc ms free) (vx_Post XC mc ms free) := vx_callBack cw.1 hM hp.1
  obtain ⟨⟨-, -, -, -, -, -, hcode, -, hy, hlen, hl⟩, hin, hse⟩ := cw
  obtain ⟨hx, hb, hml, ho, -⟩ := S
  obtain ⟨-, ⟨cellB, hcB, hoB, hclB⟩, hPc⟩ := hp
  intro T hT X
  rcases vx_callV X hx (C := C) (bytes := bytes) (maxL := maxL) (ret := ret) ho hl hin hse hcode hy hK (by rw [hT]; exact hcB) hoB hclB hg (hsize.trans hml.symm) (argsL := As) (rest := rest) (fun sig h => hn.trans (hlen sig h)) hstack hW (by rw [hb]; exact hdg)
    (fun vm₁ hW₁ => ⟨hf.1, hf.2, hPc (T.setVm vm₁) hT hW₁⟩) with ⟨v, vm₁, ⟨U', l2, c2, s2⟩, hW₁, X', ⟨g', mk, t, L, e1, e2, hq, h1, hL, h2, h3⟩, st⟩ | ⟨q, vm₁, ⟨U', l2, c2, s2⟩, hW₁, X', ⟨g', mk, t, L, E, ce, e1, e2, hq, hce, hcv, hcl, h1, hL, h2, h3⟩, st⟩
  · dsimp only [Pt.U, Pt.locs, Pt.cells, Pt.slots] at X' e1 e2 h1 h2 h3 st
    subst h1; subst h2; subst h3
    exact Or.inl ⟨v, (T.setVm vm₁).calling g' mk (Value.ref b :: As).toArray, t, U', L, hT, X', hL, e1, e2, hq, st⟩
  · dsimp only [Pt.U, Pt.locs, Pt.cells, Pt.slots] at X' e1 e2 h1 h2 h3 st hcl
    subst h1; subst h2; subst h3
    exact Or.inr ⟨q, (T.setVm vm₁).calling g' mk (Value.ref b :: As).toArray, t, U', L, E, ce, hT, X', hL, e1, e2, hq, hce, hcv, vx_cls hW₁ hcl, st⟩
theorem vx_runS (S : CallFix p m c cc nL s args Ts own) (hM : vx_Met l y ws rm Pc Qc XC mc ms free) (cw : CallB R s args own index y bytes maxL ret ws rm mc ms n ∧ (Cond.static y).before args s = true) (hp : PreS s H Pc As)
    (hg : g.method = m) (hn : As.length = n) (hsize : g.locals.size = nL) (hstack : g.stack = As.reverse ++ rest) (hW : 2 * g.monitorRoom + (rest.map fun v => v.category).sum ≤ 8) (hdg : decode cc g.pc = .ok (.invokestatic index, 3)) (hf : cells + mc ≤ R.cells ∧ slots + ms ≤ R.slots) :
    vx_Run p l e R s m args below meth c H locs cells slots mc ms g rest (Qc As.toArray) XC free := by
  have hK : vx_Back l R p e below s args y 3 8 (PreOf R mc ms Pc) (PostOf Qc mc ms free) (vx_Post XC mc ms free) := vx_callBack cw.1 hM hp.1
  obtain ⟨⟨-, -, -, -, -, -, hcode, hini, hy, hlen, hl⟩, hstt⟩ := cw
  obtain ⟨hx, hb, hml, ho, -⟩ := S
  intro T hT X
  rcases vx_callS X hx (bytes := bytes) (maxL := maxL) (ret := ret) ho hl hstt hini hcode hy hK hg (hsize.trans hml.symm) (argsL := As) (rest := rest) (fun sig h => hn.trans (hlen sig h)) hstack hW (by rw [hb]; exact hdg)
    (fun vm₁ hW₁ => ⟨hf.1, hf.2, hp.2 (T.setVm vm₁) hT hW₁⟩) with ⟨v, vm₁, ⟨U', l2, c2, s2⟩, hW₁, X', ⟨g', mk, t, L, e1, e2, hq, h1, hL, h2, h3⟩, st⟩ | ⟨q, vm₁, ⟨U', l2, c2, s2⟩, hW₁, X', ⟨g', mk, t, L, E, ce, e1, e2, hq, hce, hcv, hcl, h1, hL, h2, h3⟩, st⟩
  · dsimp only [Pt.U, Pt.locs, Pt.cells, Pt.slots] at X' e1 e2 h1 h2 h3 st
    subst h1; subst h2; subst h3
    exact Or.inl ⟨v, (T.setVm vm₁).calling g' mk As.toArray, t, U', L, hT, X', hL, e1, e2, hq, st⟩
  · dsimp only [Pt.U, Pt.locs, Pt.cells, Pt.slots] at X' e1 e2 h1 h2 h3 st hcl
    subst h1; subst h2; subst h3
    exact Or.inr ⟨q, (T.setVm vm₁).calling g' mk As.toArray, t, U', L, E, ce, hT, X', hL, e1, e2, hq, hce, hcv, vx_cls hW₁ hcl, st⟩
end Runs
section Rows
variable {p : Program} {l : Launch} {e : Env} {R : Room} {s : State} {m : MethodId} {args : Array Value} {below : List Frame} {meth : Method} {c : Code} {H : Heap} {locs : List Loc} {cells slots : Nat} {Q : State → Prop}
variable {mc ms : Nat} {free : Addr → Prop} {A0 A1 : Nat → Prop} {H0 : Heap} {a : Array Value} {pc : Nat} {ls : Array Slot} {st0 rest : List Value}
theorem vx_keep {st₀ t T' : State} {L : List Loc} (h0 : st₀.heap = H) (e1 : T'.heap = t.heap) (hS : va_S A0 H0 H locs) (hA : ∀ q, q < H.size → A1 q → A0 q) (hf : ∀ q, free q → A0 q) (hL : ∀ q ∈ L, free q.base) (hF : va_F A1 st₀ t) :
    H.size ≤ T'.heap.size ∧ (∀ q : Nat, q < H.size → ¬ A1 q → T'.heap[q]? = H[q]?) ∧ va_S A0 H0 T'.heap (locs ++ L) := by
  obtain ⟨hz, hk⟩ := hF
  rw [h0] at hz hk
  exact ⟨by rw [e1]; exact hz, fun q h1 h2 => by rw [e1]; exact hk q h1 h2,
    ⟨Nat.le_trans hS.1 (by rw [e1]; exact hz), fun q h1 h2 => by rw [e1, hk q (Nat.lt_of_lt_of_le h1 hS.1) (fun z => h2 (hA q (Nat.lt_of_lt_of_le h1 hS.1) z))]; exact hS.2.1 q h1 h2, fun q hq => by
      rcases List.mem_append.mp hq with h | h
      · exact hS.2.2 q h
      · exact hf _ (hL q h)⟩⟩
theorem vx_calli {S SX : Type} {post : Int32 → S → Prop} {px : SX → Prop} {B : S → State → Prop} {BX : String → SX → State → Prop} {AX : Nat → Prop} (hr : vx_Run p l e R s m args below meth c H locs cells slots mc ms (F0 m pc ls st0) rest (va_Qi post B A1 a) (vx_X px BX AX) free) (hS : va_S A0 H0 H locs) (hA : ∀ q, q < H.size → A1 q → A0 q) (hf : ∀ q, free q → A0 q) (hAX : ∀ q, q < H.size → AX q → A0 q)
    (kx : ∀ (E : String) (ce : Cell) (q9 : Addr) (u : SX) (t : State) (H1 : Heap) (locs1 : List Loc), t.heap = H1 → s.vm.Alike t.vm → px u → BX E u t → H.size ≤ H1.size → (∀ q : Nat, q < H.size → ¬ AX q → H1[q]? = H[q]?) → va_S A0 H0 H1 locs1 → H1[q9]? = some ce → ce.vm = .none → s.vm.findClass E = some ce.cls → vx_W p l e R s m args below meth c H1 locs1 (cells + mc) (slots + ms) Q (F0 m pc ls rest) q9)
    (kk : ∀ (r : Int32) (u : S) (t : State) (H1 : Heap) (locs1 : List Loc), t.heap = H1 → s.vm.Alike t.vm → post r u → B u t → H.size ≤ H1.size → (∀ q : Nat, q < H.size → ¬ A1 q → H1[q]? = H[q]?) → va_S A0 H0 H1 locs1 → W p l e R s m args below meth c H1 locs1 (cells + mc) (slots + ms) Q (F0 m (pc + 3) ls (.int r :: rest))) : W p l e R s m args below meth c H locs cells slots Q (F0 m pc ls st0) := by
  intro T hT X
  rcases hr T hT X with ⟨v, st₀, t, T', L, h0, X', hL, e1, e2, ⟨⟨r, u, hv, hp, hb⟩, hF⟩, st⟩ | ⟨q, st₀, t, T', L, E, ce, h0, X', hL, e1, e2, ⟨u, hp, hb, hF⟩, hce, hcv, hcl, st⟩
  · cases hv
    obtain ⟨k1, k2, k3⟩ := vx_keep h0 e1 hS hA hf hL hF
    obtain ⟨t2, a1, b1⟩ := kk r u t T'.heap (locs ++ L) e1.symm (by rw [← e2]; exact X'.warmed.alike) hp hb k1 k2 k3 T' rfl X'
    exact ⟨t2, st t2 a1, b1⟩
  · obtain ⟨k1, k2, k3⟩ := vx_keep h0 e1 hS hAX hf hL hF
    obtain ⟨t2, a1, b1⟩ := kx E ce q u t T'.heap (locs ++ L) e1.symm (by rw [← e2]; exact X'.warmed.alike) hp hb k1 k2 k3 (by rw [e1]; exact hce) hcv hcl T' rfl X'
    exact ⟨t2, st.trans a1, b1⟩
theorem vx_calll {S SX : Type} {post : Int64 → S → Prop} {px : SX → Prop} {B : S → State → Prop} {BX : String → SX → State → Prop} {AX : Nat → Prop} (hr : vx_Run p l e R s m args below meth c H locs cells slots mc ms (F0 m pc ls st0) rest (va_Ql post B A1 a) (vx_X px BX AX) free) (hS : va_S A0 H0 H locs) (hA : ∀ q, q < H.size → A1 q → A0 q) (hf : ∀ q, free q → A0 q) (hAX : ∀ q, q < H.size → AX q → A0 q)
    (kx : ∀ (E : String) (ce : Cell) (q9 : Addr) (u : SX) (t : State) (H1 : Heap) (locs1 : List Loc), t.heap = H1 → s.vm.Alike t.vm → px u → BX E u t → H.size ≤ H1.size → (∀ q : Nat, q < H.size → ¬ AX q → H1[q]? = H[q]?) → va_S A0 H0 H1 locs1 → H1[q9]? = some ce → ce.vm = .none → s.vm.findClass E = some ce.cls → vx_W p l e R s m args below meth c H1 locs1 (cells + mc) (slots + ms) Q (F0 m pc ls rest) q9)
    (kk : ∀ (r : Int64) (u : S) (t : State) (H1 : Heap) (locs1 : List Loc), t.heap = H1 → s.vm.Alike t.vm → post r u → B u t → H.size ≤ H1.size → (∀ q : Nat, q < H.size → ¬ A1 q → H1[q]? = H[q]?) → va_S A0 H0 H1 locs1 → W p l e R s m args below meth c H1 locs1 (cells + mc) (slots + ms) Q (F0 m (pc + 3) ls (.long r :: rest))) : W p l e R s m args below meth c H locs cells slots Q (F0 m pc ls st0) := by
  intro T hT X
  rcases hr T hT X with ⟨v, st₀, t, T', L, h0, X', hL, e1, e2, ⟨⟨r, u, hv, hp, hb⟩, hF⟩, st⟩ | ⟨q, st₀, t, T', L, E, ce, h0, X', hL, e1, e2, ⟨u, hp, hb, hF⟩, hce, hcv, hcl, st⟩
  · cases hv
    obtain ⟨k1, k2, k3⟩ := vx_keep h0 e1 hS hA hf hL hF
    obtain ⟨t2, a1, b1⟩ := kk r u t T'.heap (locs ++ L) e1.symm (by rw [← e2]; exact X'.warmed.alike) hp hb k1 k2 k3 T' rfl X'
    exact ⟨t2, st t2 a1, b1⟩
  · obtain ⟨k1, k2, k3⟩ := vx_keep h0 e1 hS hAX hf hL hF
    obtain ⟨t2, a1, b1⟩ := kx E ce q u t T'.heap (locs ++ L) e1.symm (by rw [← e2]; exact X'.warmed.alike) hp hb k1 k2 k3 (by rw [e1]; exact hce) hcv hcl T' rfl X'
    exact ⟨t2, st.trans a1, b1⟩
theorem vx_callf {S SX : Type} {post : UInt32 → S → Prop} {px : SX → Prop} {B : S → State → Prop} {BX : String → SX → State → Prop} {AX : Nat → Prop} (hr : vx_Run p l e R s m args below meth c H locs cells slots mc ms (F0 m pc ls st0) rest (va_Qf post B A1 a) (vx_X px BX AX) free) (hS : va_S A0 H0 H locs) (hA : ∀ q, q < H.size → A1 q → A0 q) (hf : ∀ q, free q → A0 q) (hAX : ∀ q, q < H.size → AX q → A0 q)
    (kx : ∀ (E : String) (ce : Cell) (q9 : Addr) (u : SX) (t : State) (H1 : Heap) (locs1 : List Loc), t.heap = H1 → s.vm.Alike t.vm → px u → BX E u t → H.size ≤ H1.size → (∀ q : Nat, q < H.size → ¬ AX q → H1[q]? = H[q]?) → va_S A0 H0 H1 locs1 → H1[q9]? = some ce → ce.vm = .none → s.vm.findClass E = some ce.cls → vx_W p l e R s m args below meth c H1 locs1 (cells + mc) (slots + ms) Q (F0 m pc ls rest) q9)
    (kk : ∀ (r : UInt32) (u : S) (t : State) (H1 : Heap) (locs1 : List Loc), t.heap = H1 → s.vm.Alike t.vm → post r u → B u t → H.size ≤ H1.size → (∀ q : Nat, q < H.size → ¬ A1 q → H1[q]? = H[q]?) → va_S A0 H0 H1 locs1 → W p l e R s m args below meth c H1 locs1 (cells + mc) (slots + ms) Q (F0 m (pc + 3) ls (.float r :: rest))) : W p l e R s m args below meth c H locs cells slots Q (F0 m pc ls st0) := by
  intro T hT X
  rcases hr T hT X with ⟨v, st₀, t, T', L, h0, X', hL, e1, e2, ⟨⟨r, u, hv, hp, hb⟩, hF⟩, st⟩ | ⟨q, st₀, t, T', L, E, ce, h0, X', hL, e1, e2, ⟨u, hp, hb, hF⟩, hce, hcv, hcl, st⟩
  · cases hv
    obtain ⟨k1, k2, k3⟩ := vx_keep h0 e1 hS hA hf hL hF
    obtain ⟨t2, a1, b1⟩ := kk r u t T'.heap (locs ++ L) e1.symm (by rw [← e2]; exact X'.warmed.alike) hp hb k1 k2 k3 T' rfl X'
    exact ⟨t2, st t2 a1, b1⟩
  · obtain ⟨k1, k2, k3⟩ := vx_keep h0 e1 hS hAX hf hL hF
    obtain ⟨t2, a1, b1⟩ := kx E ce q u t T'.heap (locs ++ L) e1.symm (by rw [← e2]; exact X'.warmed.alike) hp hb k1 k2 k3 (by rw [e1]; exact hce) hcv hcl T' rfl X'
    exact ⟨t2, st.trans a1, b1⟩
theorem vx_calld {S SX : Type} {post : UInt64 → S → Prop} {px : SX → Prop} {B : S → State → Prop} {BX : String → SX → State → Prop} {AX : Nat → Prop} (hr : vx_Run p l e R s m args below meth c H locs cells slots mc ms (F0 m pc ls st0) rest (va_Qd post B A1 a) (vx_X px BX AX) free) (hS : va_S A0 H0 H locs) (hA : ∀ q, q < H.size → A1 q → A0 q) (hf : ∀ q, free q → A0 q) (hAX : ∀ q, q < H.size → AX q → A0 q)
    (kx : ∀ (E : String) (ce : Cell) (q9 : Addr) (u : SX) (t : State) (H1 : Heap) (locs1 : List Loc), t.heap = H1 → s.vm.Alike t.vm → px u → BX E u t → H.size ≤ H1.size → (∀ q : Nat, q < H.size → ¬ AX q → H1[q]? = H[q]?) → va_S A0 H0 H1 locs1 → H1[q9]? = some ce → ce.vm = .none → s.vm.findClass E = some ce.cls → vx_W p l e R s m args below meth c H1 locs1 (cells + mc) (slots + ms) Q (F0 m pc ls rest) q9)
    (kk : ∀ (r : UInt64) (u : S) (t : State) (H1 : Heap) (locs1 : List Loc), t.heap = H1 → s.vm.Alike t.vm → post r u → B u t → H.size ≤ H1.size → (∀ q : Nat, q < H.size → ¬ A1 q → H1[q]? = H[q]?) → va_S A0 H0 H1 locs1 → W p l e R s m args below meth c H1 locs1 (cells + mc) (slots + ms) Q (F0 m (pc + 3) ls (.double r :: rest))) : W p l e R s m args below meth c H locs cells slots Q (F0 m pc ls st0) := by
  intro T hT X
  rcases hr T hT X with ⟨v, st₀, t, T', L, h0, X', hL, e1, e2, ⟨⟨r, u, hv, hp, hb⟩, hF⟩, st⟩ | ⟨q, st₀, t, T', L, E, ce, h0, X', hL, e1, e2, ⟨u, hp, hb, hF⟩, hce, hcv, hcl, st⟩
  · cases hv
    obtain ⟨k1, k2, k3⟩ := vx_keep h0 e1 hS hA hf hL hF
    obtain ⟨t2, a1, b1⟩ := kk r u t T'.heap (locs ++ L) e1.symm (by rw [← e2]; exact X'.warmed.alike) hp hb k1 k2 k3 T' rfl X'
    exact ⟨t2, st t2 a1, b1⟩
  · obtain ⟨k1, k2, k3⟩ := vx_keep h0 e1 hS hAX hf hL hF
    obtain ⟨t2, a1, b1⟩ := kx E ce q u t T'.heap (locs ++ L) e1.symm (by rw [← e2]; exact X'.warmed.alike) hp hb k1 k2 k3 (by rw [e1]; exact hce) hcv hcl T' rfl X'
    exact ⟨t2, st.trans a1, b1⟩
theorem vx_callv {S SX : Type} {post : S → Prop} {px : SX → Prop} {B : S → State → Prop} {BX : String → SX → State → Prop} {AX : Nat → Prop} (hr : vx_Run p l e R s m args below meth c H locs cells slots mc ms (F0 m pc ls st0) rest (va_Qv post B A1 a) (vx_X px BX AX) free) (hS : va_S A0 H0 H locs) (hA : ∀ q, q < H.size → A1 q → A0 q) (hf : ∀ q, free q → A0 q) (hAX : ∀ q, q < H.size → AX q → A0 q)
    (kx : ∀ (E : String) (ce : Cell) (q9 : Addr) (u : SX) (t : State) (H1 : Heap) (locs1 : List Loc), t.heap = H1 → s.vm.Alike t.vm → px u → BX E u t → H.size ≤ H1.size → (∀ q : Nat, q < H.size → ¬ AX q → H1[q]? = H[q]?) → va_S A0 H0 H1 locs1 → H1[q9]? = some ce → ce.vm = .none → s.vm.findClass E = some ce.cls → vx_W p l e R s m args below meth c H1 locs1 (cells + mc) (slots + ms) Q (F0 m pc ls rest) q9)
    (kk : ∀ (u : S) (t : State) (H1 : Heap) (locs1 : List Loc), t.heap = H1 → s.vm.Alike t.vm → post u → B u t → H.size ≤ H1.size → (∀ q : Nat, q < H.size → ¬ A1 q → H1[q]? = H[q]?) → va_S A0 H0 H1 locs1 → W p l e R s m args below meth c H1 locs1 (cells + mc) (slots + ms) Q (F0 m (pc + 3) ls (rest))) : W p l e R s m args below meth c H locs cells slots Q (F0 m pc ls st0) := by
  intro T hT X
  rcases hr T hT X with ⟨v, st₀, t, T', L, h0, X', hL, e1, e2, ⟨⟨u, hv, hp, hb⟩, hF⟩, st⟩ | ⟨q, st₀, t, T', L, E, ce, h0, X', hL, e1, e2, ⟨u, hp, hb, hF⟩, hce, hcv, hcl, st⟩
  · cases hv
    obtain ⟨k1, k2, k3⟩ := vx_keep h0 e1 hS hA hf hL hF
    obtain ⟨t2, a1, b1⟩ := kk u t T'.heap (locs ++ L) e1.symm (by rw [← e2]; exact X'.warmed.alike) hp hb k1 k2 k3 T' rfl X'
    exact ⟨t2, st t2 a1, b1⟩
  · obtain ⟨k1, k2, k3⟩ := vx_keep h0 e1 hS hAX hf hL hF
    obtain ⟨t2, a1, b1⟩ := kx E ce q u t T'.heap (locs ++ L) e1.symm (by rw [← e2]; exact X'.warmed.alike) hp hb k1 k2 k3 (by rw [e1]; exact hce) hcv hcl T' rfl X'
    exact ⟨t2, st.trans a1, b1⟩
/-- caught by the row x of this method's table; the rows ahead don't take it -/
theorem vx_catch {own name : String} {E : String} {ce : Cell} {q : Addr} (hown : s.vm.findClass own = some m.cls) (pre : List ExceptionTableEntry) (x : ExceptionTableEntry) (suf : List ExceptionTableEntry) (hsplit : c.exceptionTable.toList = pre ++ x :: suf)
    (hpass : ∀ z ∈ pre, covers z pc = false ∨ (z.catchType ≠ 0 ∧ ∃ nm : String, (Cond.classLink own z.catchType nm).before args s = true ∧ va_Nc E nm s)) (hx : covers x pc = true) (h0 : x.catchType ≠ 0)
    (hlink : (Cond.classLink own x.catchType name).before args s = true) (hcast : (Cond.castable E name).before args s = true) (hcell : H[q]? = some ce) (hv : ce.vm = .none) (hcl : s.vm.findClass E = some ce.cls)
    (kk : W p l e R s m args below meth c H locs cells slots Q (F0 m x.handlerPc ls [.ref q])) : vx_W p l e R s m args below meth c H locs cells slots Q (F0 m pc ls rest) q := by
  intro T hT X
  have hpl : e.platform.magicAccessors = ({} : Platform).magicAccessors := by rw [X.admits.platform]
  obtain ⟨c3, c4, hc3, hc4, hasg⟩ := Cond.castable_spec hcast
  cases Option.some.inj (hc3.symm.trans hcl)
  obtain ⟨c5, hc5, hcl5⟩ := Cond.classLink_spec hown hlink e.platform hpl
  cases Option.some.inj (hc4.symm.trans hc5)
  obtain ⟨vm', X', st⟩ := X.thenCaughtThrough q (g := F0 m pc ls rest) rfl (Steps.refl _) (by rw [hT]; exact hcell) (by rw [hv]; rfl) (by obtain ⟨k9, h9, -⟩ := Vm.findClass_spec hcl; exact ⟨k9, h9⟩) pre x suf hsplit
    (fun z hz => by
      rcases hpass z hz with h | ⟨hz0, nm, hl1, hn1⟩
      · exact Or.inl h
      · obtain ⟨c6, hc6, hcl6⟩ := Cond.classLink_spec hown hl1 e.platform hpl
        obtain ⟨a8, b8, h1, h2, h3⟩ := hn1
        cases Option.some.inj (h1.symm.trans hcl)
        cases Option.some.inj (h2.symm.trans hc6)
        exact Or.inr ⟨hz0, _, hcl6, h3⟩) hx (Or.inr ⟨h0, c4, hcl5, hasg⟩)
  obtain ⟨t, a1, b1⟩ := kk (T.setVm vm') hT X'
  exact ⟨t, st.trans a1, b1⟩
end Rows
section Ends
variable {p : Program} {l : Launch} {e : Env} {R : Room} {s : State} {m : MethodId} {args : Array Value} {below : List Frame} {meth : Method} {c : Code} {H : Heap} {locs : List Loc} {cells slots : Nat} {Q : State → Prop}
variable {mc ms : Nat} {free : Addr → Prop} {A0 A1 : Nat → Prop} {H0 : Heap} {a : Array Value} {ls : Array Slot} {st0 rest : List Value}
variable {Qc : Array Value → State → Outcome → State → Prop} {XC : String → State → State → Prop}
/-- what a body that may throw owes at its end -/
def vx_MQ (below : List Frame) (Qc : Array Value → State → Outcome → State → Prop) (XC : String → State → State → Prop) (a : Array Value) (s : State) (mc ms : Nat) (free : Addr → Prop) : State → Prop := fun t =>
  ∃ o, t.status = .running ∧ Ended t below o ∧ vx_Q Qc XC mc ms free a s o t
theorem vx_ret {g : JFrame} {mc ms : Nat} (k : W p l e R s m args below meth c H locs cells slots (MQ below Qc args s mc ms free) g) : W p l e R s m args below meth c H locs cells slots (vx_MQ below Qc XC args s mc ms free) g := by
  intro T hT X
  obtain ⟨t, a1, o, b1, b2, b3, b4⟩ := k T hT X
  exact ⟨t, a1, o, b1, b2, Or.inl ⟨b3, b4⟩⟩
/-- not caught here: it goes on to the caller -/
theorem vx_widen {g : JFrame} {q : Addr} {k n : Nat} (h1 : cells ≤ k) (h2 : slots ≤ n) (kk : vx_W p l e R s m args below meth c H locs k n Q g q) : vx_W p l e R s m args below meth c H locs cells slots Q g q := fun T hT X => kk T hT (stand_widen X h1 h2)
theorem vx_out {pc : Nat} {E : String} {ce : Cell} {q : Addr} {mc ms : Nat} (hout : ∀ x ∈ c.exceptionTable.toList, covers x pc = false) (hlocks : meth.locks = false) (hcell : H[q]? = some ce) (hv : ce.vm = .none) (hcl : s.vm.findClass E = some ce.cls)
    (hx : ∀ t : State, t.heap = H → s.vm.Alike t.vm → XC E s t) (hf : ∀ z ∈ locs, free z.base) (hc : cells ≤ mc) (hs : slots ≤ ms) :
    vx_W p l e R s m args below meth c H locs cells slots (vx_MQ below Qc XC args s mc ms free) (F0 m pc ls rest) q := by
  intro T hT X
  obtain ⟨st1, hrun, hend, hW, hsm⟩ := X.leaveThrown q (g := F0 m pc ls rest) rfl rfl rfl hout hlocks
  have hcell9 : (T.setFrames (.throwing q :: below)).heap[q]? = some ce := by
    show T.heap[q]? = some ce
    rw [hT]; exact hcell
  exact ⟨_, st1, .threw q, hrun, hend, Or.inr ⟨q, rfl, E, ce, locs, hx _ hT hW.alike, hcell9, hv, hcl, hW, hsm.mono hc hs, hf⟩⟩
theorem vx_frame {U : State} {k n : Nat} (h : s.sameButNew ({ U with vm := s.vm } : State) locs k n) : s.heap.size ≤ U.heap.size ∧ ∀ q : Nat, q < s.heap.size → (∀ z ∈ locs, z.base ≠ q) → U.heap[q]? = s.heap[q]? := by
  obtain ⟨-, h2, -, -, -, h6⟩ := h
  refine ⟨h2, fun q hq hz => ?_⟩
  obtain ⟨c9, e1, e2, e3, e4⟩ := h6 q _ (Array.getElem?_eq_getElem hq)
  have hs : c9.slots = (s.heap[q]).slots := Array.ext_getElem? fun i => e4 i fun hm => hz _ hm rfl
  have h9 : c9 = s.heap[q] := by
    rw [hs] at e2
    exact e2
  have e5 : U.heap[q]? = some c9 := e1
  rw [e5, h9, Array.getElem?_eq_getElem hq]
/-- the words of a throw but the four that speak of the heap -/
def vx_no (w : Cond) : Bool := decide (w ≠ .isRef (.static Bundle.tN "UNASSIGNED_STACK" Bundle.steD)) && decide (w ≠ .isRef (.static Bundle.tN "SUPPRESSED_SENTINEL" Bundle.listD)) && decide (w ≠ .laysStatic Bundle.tN "UNASSIGNED_STACK" Bundle.steD) && decide (w ≠ .laysStatic Bundle.tN "SUPPRESSED_SENTINEL" Bundle.listD)
def vx_at0 (own : String) (ic : Nat) (X : String) (names : List String) : List Cond := (Bundle.ownAtoms0 own ic X names).filter vx_no
def vx_atS (own : String) (ic : Nat) (X : String) (names : List String) : List Cond := (Bundle.ownAtoms own ic X names).filter vx_no
/-- a word that the tables alone decide, or a good one -/
def vx_ot (w : Cond) : Bool := w.onTables || goodWord w
theorem vx_ot_at {args a' : Array Value} {s U : State} {w : Cond} (hW : s.WarmedH U.vm) (hvm : s.vm = U.vm) (hg : vx_ot w = true) (h : w.before args s = true) : w.before a' U = true := by
  simp only [vx_ot, Bool.or_eq_true] at hg
  rcases hg with hg | hg
  · exact va_tabs hg hvm h
  · exact word_at hW (good_of_word hg) h
/-- a list's words: the good ones out of the method's own list, the others by premises of their own -/
theorem vx_hat {args : Array Value} {s : State} {L B : List Cond} (h1 : ∀ w ∈ L.filter goodWord, w.before args s = true) (h2 : ∀ w ∈ L.filter (fun w => !goodWord w), w ∈ B) (h3 : ∀ w ∈ B, w.before args s = true) : ∀ w ∈ L, w.before args s = true := by
  intro w hw
  by_cases g : goodWord w = true
  · exact h1 w (List.mem_filter.mpr ⟨hw, g⟩)
  · refine h3 w (h2 w (List.mem_filter.mpr ⟨hw, ?_⟩))
    show (!goodWord w) = true
    cases hgw : goodWord w
    · rfl
    · exact absurd hgw g
theorem vx_c {args : Array Value} {s : State} {w : Cond} {B : List Cond} (h : w.before args s = true) (t : ∀ w ∈ B, w.before args s = true) : ∀ w' ∈ w :: B, w'.before args s = true := fun w' h' => (List.mem_cons.mp h').elim (fun e => by rw [e]; exact h) (t w')
theorem vx_n {args : Array Value} {s : State} : ∀ w ∈ ([] : List Cond), w.before args s = true := fun _ h => nomatch h
theorem vx_own {args : Array Value} {s : State} {L : List Cond} (h1 : ∀ w ∈ L.filter vx_no, w.before args s = true)
    (hU : (Cond.isRef (.static Bundle.tN "UNASSIGNED_STACK" Bundle.steD)).before args s = true) (hN : (Cond.isRef (.static Bundle.tN "SUPPRESSED_SENTINEL" Bundle.listD)).before args s = true)
    (lU : (Cond.laysStatic Bundle.tN "UNASSIGNED_STACK" Bundle.steD).before args s = true) (lN : (Cond.laysStatic Bundle.tN "SUPPRESSED_SENTINEL" Bundle.listD).before args s = true) : ∀ w ∈ L, w.before args s = true := by
  intro w hw
  by_cases e1 : w = .isRef (.static Bundle.tN "UNASSIGNED_STACK" Bundle.steD)
  · rw [e1]; exact hU
  · by_cases e2 : w = .isRef (.static Bundle.tN "SUPPRESSED_SENTINEL" Bundle.listD)
    · rw [e2]; exact hN
    · by_cases e3 : w = .laysStatic Bundle.tN "UNASSIGNED_STACK" Bundle.steD
      · rw [e3]; exact lU
      · by_cases e4 : w = .laysStatic Bundle.tN "SUPPRESSED_SENTINEL" Bundle.listD
        · rw [e4]; exact lN
        · exact h1 w (List.mem_filter.mpr ⟨hw, by unfold vx_no; rw [decide_eq_true e1, decide_eq_true e2, decide_eq_true e3, decide_eq_true e4]; rfl⟩)
/-- where a static field lies, its class's statics cell in H -/
def vx_L (C n d : String) (A : Nat → Prop) (U : State) (H : Heap) : Prop := ∃ (c : ClassId) (k : Class) (i : Nat) (f : Field) (a : Nat) (cell : Cell), U.vm.findClass C = some c ∧ U.fieldFound? C n d = some (c, k, i, f) ∧ f.isStatic = true ∧ k.statics = some a ∧ H[a]? = some cell ∧ cell.vm.isStatics = true ∧ cell.cls = c ∧ f.slot < cell.slots.size ∧ k.staticTypes[f.slot]? = some f.type ∧ ¬ A a
theorem vx_L.moved {C n d : String} {A : Nat → Prop} {u U : State} {H : Heap} (hvm : u.vm.Alike U.vm) (h : vx_L C n d A u H) : vx_L C n d A U H := by
  obtain ⟨c, k, i, f, a, cell, h1, h2, h3, h4, h5, h6, h7, h8, h9, h10⟩ := h
  obtain ⟨k', hi', he⟩ := State.fieldFound?_setVm hvm h2
  exact ⟨c, k', i, f, a, cell, by rw [hvm.findClass]; exact h1, hi', h3, by rw [he]; exact h4, h5, h6, h7, h8, by rw [he]; exact h9, h10⟩
theorem vx_L.kept {C n d : String} {A : Nat → Prop} {U : State} {H H1 : Heap} (h : vx_L C n d A U H) (hq : ∀ a : Nat, a < H.size → ¬ A a → H1[a]? = H[a]?) : vx_L C n d A U H1 := by
  obtain ⟨c, k, i, f, a, cell, h1, h2, h3, h4, h5, h6, h7, h8, h9, h10⟩ := h
  exact ⟨c, k, i, f, a, cell, h1, h2, h3, h4, by rw [hq a (Array.getElem?_eq_some_iff.mp h5).1 h10]; exact h5, h6, h7, h8, h9, h10⟩
theorem vx_L.narrow {C n d : String} {A B : Nat → Prop} {U : State} {H : Heap} (h : vx_L C n d A U H) (hAB : ∀ q, B q → A q) : vx_L C n d B U H := by
  obtain ⟨c, k, i, f, a, cell, h1, h2, h3, h4, h5, h6, h7, h8, h9, h10⟩ := h
  exact ⟨c, k, i, f, a, cell, h1, h2, h3, h4, h5, h6, h7, h8, h9, fun z => h10 (hAB _ z)⟩
theorem vx_L.word {C n d : String} {A : Nat → Prop} {s : State} {args : Array Value} (h : vx_L C n d A s s.heap) : (Cond.laysStatic C n d).before args s = true := by
  obtain ⟨c, k, i, f, a, cell, h1, h2, h3, h4, h5, h6, h7, h8, h9, -⟩ := h
  show (Cond.laysStatic C n d).holds args s none s [] = true
  exact Cond.laysStatic_of h1 h2 h3 h4 h5 h6 h7 h8 h9
/-- .. and what it holds: null or some reference -/
def vx_Zq (C n d : String) (A : Nat → Prop) (U : State) (H : Heap) : Prop := va_Zq C n d A U H ∧ vx_L C n d A U H
theorem vx_Zq.moved {C n d : String} {A : Nat → Prop} {u U : State} {H : Heap} (hvm : u.vm.Alike U.vm) (h : vx_Zq C n d A u H) : vx_Zq C n d A U H := ⟨va_Zq.moved hvm h.1, vx_L.moved hvm h.2⟩
theorem vx_Zq.kept {C n d : String} {A : Nat → Prop} {U : State} {H H1 : Heap} (h : vx_Zq C n d A U H) (hq : ∀ a : Nat, a < H.size → ¬ A a → H1[a]? = H[a]?) : vx_Zq C n d A U H1 := ⟨va_Zq.kept h.1 hq, vx_L.kept h.2 hq⟩
theorem vx_Zq.narrow {C n d : String} {A B : Nat → Prop} {U : State} {H : Heap} (h : vx_Zq C n d A U H) (hAB : ∀ q, B q → A q) : vx_Zq C n d B U H := ⟨va_Zq.narrow h.1 hAB, vx_L.narrow h.2 hAB⟩
theorem vx_Zqof {args : Array Value} {s : State} {C n d : String} {A : Nat → Prop} (hl : (Cond.laysStatic C n d).before args s = true) (hini : (Cond.initialized C).before args s = true) (h : (Cond.isRef (.static C n d)).before args s = true) (hA : ∀ a : Nat, a < s.heap.size → ¬ A a) : vx_Zq C n d A s s.heap := by
  refine ⟨va_Zqof hl hini h hA, ?_⟩
  obtain ⟨c, k, i, f, a, cell, h1, h2, h3, h4, h5, h6, h7, h8, h9⟩ := Cond.laysStatic_spec hl
  exact ⟨c, k, i, f, a, cell, h1, h2, h3, h4, h5, h6, h7, h8, h9, hA a (Array.getElem?_eq_some_iff.mp h5).1⟩
theorem vx_isRef {C n d : String} {v : Value} {A : Nat → Prop} {s : State} {args : Array Value} (h : va_Z C n d v A s s.heap) (hv : v.isRef = true) : (Cond.isRef (.static C n d)).before args s = true := by
  obtain ⟨cf, kf, fi, f, a, cell, h1, h2, h3, h4, h5, h6, h7, -⟩ := h
  have he : (Term.static C n d).eval args s none [] s = some v := by
    simp [Term.eval, State.fieldNamed?, h1, h2, h4, h5, h6, h7]
  simp only [Cond.before, Cond.holds, Cond.value, he]
  cases v <;> simp_all [Value.isRef]
theorem vx_isRefq {C n d : String} {A : Nat → Prop} {s : State} {args : Array Value} (h : va_Zq C n d A s s.heap) : (Cond.isRef (.static C n d)).before args s = true := by
  rcases h with h | ⟨t, h⟩
  · exact vx_isRef h rfl
  · exact vx_isRef h rfl
/-- the same frame, seen from here: as if the method were called anew in this heap -/
theorem vx_rebase {T : State} (X : Stand p l e R s m args below meth c T locs cells slots) {R' : Room} (hf : R'.frames ≤ R.frames) (hl : R'.locals ≤ R.locals) (hc : cells + R'.cells ≤ R.cells) (hs : slots + R'.slots ≤ R.slots) :
    Stand p l e R' ((T.setVm s.vm).setFrames (.invoking m args :: below)) m args below meth c T [] 0 0 := by
  have htop : (T.setVm s.vm).topJava?.isSome := X.here.top
  have hF : ((T.setVm s.vm).setFrames (.invoking m args :: below)).frames = .invoking m args :: below := State.frames_setFrames _ (State.cur_lt_of_top htop)
  obtain ⟨g₀, hg0⟩ := Option.isSome_iff_exists.mp htop
  obtain ⟨r, hr⟩ := State.topJava?_eq_some.mp hg0
  have hl9 : e.platform.stackLimits (T.setVm s.vm).me = e.platform.stackLimits s.me := X.limits
  have hb9 : (T.setVm s.vm).me.stackBytes = s.me.stackBytes := X.bytes
  refine ⟨X.admits, X.cas, X.clock, hF, ?_, X.hears, X.method, X.code, X.here, X.tail, X.warmed, ?_, ?_, ?_⟩
  · have h := X.room
    have hU : ((T.setVm s.vm).setFrames (.invoking m args :: below)).localsInUse = s.localsInUse := by
      rw [State.localsInUse_invoking hF (meth := meth) (c := c) X.method X.code, State.localsInUse_invoking X.frames X.method X.code]
    simp only [State.hasRoom, Bool.and_eq_true, decide_eq_true_eq] at h ⊢
    obtain ⟨⟨⟨⟨h1, h2, h3, h4, h5, h6⟩, h7⟩, h8⟩, h9⟩ := h
    rw [X.frames, List.length_cons] at h2 h3
    have q1 := X.heapSize
    have q2 := X.used
    simp only [hF, hU, List.length_cons, State.stackLimits_setFrames, State.stackBytes_setFrames, hl9, hb9]
    refine ⟨⟨⟨⟨by omega, by omega, by omega, by omega, by omega, h6⟩, ?_⟩, ?_⟩, X.book⟩
    · show T.heap.size + R'.cells ≤ e.platform.maxCells
      omega
    · show T.slotsUsed + R'.slots ≤ e.platform.maxSlots
      omega
  · rw [State.stackLimits_setFrames]; rfl
  · rw [State.stackBytes_setFrames]; rfl
  · refine ⟨?_, Nat.le_refl _, Nat.le_refl _, ?_, ?_, fun a c9 h9 => ⟨c9, h9, rfl, rfl, fun _ _ => rfl⟩⟩
    · obtain ⟨t, ht, -⟩ := State.frames_cons hr
      show T.setVm s.vm = { ((T.setVm s.vm).setFrames (.invoking m args :: below)).setFrames (T.setVm s.vm).frames with heap := T.heap, slotsUsed := T.slotsUsed }
      rw [State.setFrames_setFrames, State.setFrames_self ht]
      rfl
    · show T.slotsUsed = T.slotsUsed + ((T.heap.toList.drop T.heap.size).map (·.slots.size)).sum
      rw [List.drop_eq_nil_of_le (Nat.le_of_eq Array.length_toList)]
      rfl
    · show ((T.heap.toList.drop T.heap.size).map (·.slots.size)).sum ≤ 0
      rw [List.drop_eq_nil_of_le (Nat.le_of_eq Array.length_toList)]
      exact Nat.le_refl _
/-- 'throw new E()': new; dup; invokespecial; athrow -/
theorem vx_throw0 {cc : ByteArray} {pc : Nat} (hexec : p.tables.exec = Jvm.exec) (hb : c.code = cc) (hl : l.stackTraces = false) {own cls : String} {names : List String} {ik ic mc ms : Nat} {A : Nat → Prop}
    (hown : s.vm.findClass own = some m.cls) (hcls : Bundle.fit cls = true) (hnames : ∀ n ∈ names, Bundle.fit n = true)
    (hk : (Cond.classLink own ik cls).before args s = true) (hini : (Cond.initialized cls).before args s = true) (hat : ∀ w ∈ vx_at0 own ic cls names, w.before args s = true)
    (hgood : ∀ w ∈ Cond.classLink own ik cls :: Cond.initialized cls :: vx_at0 own ic cls names, vx_ot w = true)
    (hU : vx_Zq Bundle.tN "UNASSIGNED_STACK" Bundle.steD A s s.heap) (hN : vx_Zq Bundle.tN "SUPPRESSED_SENTINEL" Bundle.listD A s s.heap) (hS : va_S A s.heap H locs) (hsize : ls.size = c.maxLocals)
    (d0 : decode cc pc = .ok (.new ik, 3)) (d3 : decode cc (pc + 3) = .ok (.dup, 1)) (d4 : decode cc (pc + 4) = .ok (.invokespecial ic, 3)) (d7 : decode cc (pc + 7) = .ok (.athrow, 1))
    (hout : ∀ x ∈ c.exceptionTable.toList, covers x (pc + 7) = false)
    (hRframes : names.length + 3 < R.frames) (hRlocals : (rest.map fun v => v.category).sum + (13 * (names.length + 1) + 42) ≤ R.locals) (hRcells : cells + 1 ≤ R.cells) (hRslots : slots + 6 ≤ R.slots) (hlocks : meth.locks = false)
    (hx : ∀ t : State, s.vm.Alike t.vm → H.size ≤ t.heap.size → (∀ q : Nat, q < H.size → t.heap[q]? = H[q]?) → XC cls s t)
    (hf : ∀ z ∈ locs, free z.base) (hc : cells + 1 ≤ mc) (hs : slots + 6 ≤ ms) :
    W p l e R s m args below meth c H locs cells slots (vx_MQ below Qc XC args s mc ms free) (F0 m pc ls rest) := by
  intro T hT X
  have htr : e.platform.stackTraces = false := (show e.platform.stackTraces = l.stackTraces by rw [X.admits.platform]).trans hl
  have Y := vx_rebase X (R' := { frames := R.frames, locals := R.locals, cells := 1, slots := 6 }) (Nat.le_refl _) (Nat.le_refl _) hRcells hRslots
  obtain ⟨s', hA⟩ : ∃ z, z = (T.setVm s.vm).setFrames (.invoking m args :: below) := ⟨_, rfl⟩
  rw [← hA] at Y
  have hvm : s'.vm = s.vm := by rw [hA]; rfl
  have hhp : s'.heap = H := by rw [hA]; exact hT
  have hW0 : s.WarmedH s'.vm := by rw [hvm]; exact State.WarmedH.refl s
  have hat' : ∀ w ∈ vx_at0 own ic cls names, w.before args s' = true := fun w hw => vx_ot_at hW0 hvm.symm (hgood w (List.mem_cons_of_mem _ (List.mem_cons_of_mem _ hw))) (hat w hw)
  have hk' : (Cond.classLink own ik cls).before args s' = true := vx_ot_at hW0 hvm.symm (hgood _ List.mem_cons_self) hk
  have hini' : (Cond.initialized cls).before args s' = true := vx_ot_at hW0 hvm.symm (hgood _ (List.mem_cons_of_mem _ List.mem_cons_self)) hini
  have hU' : vx_Zq Bundle.tN "UNASSIGNED_STACK" Bundle.steD A s' s'.heap := by rw [hhp]; exact vx_Zq.moved hW0.alike (hU.kept hS.2.1)
  have hN' : vx_Zq Bundle.tN "SUPPRESSED_SENTINEL" Bundle.listD A s' s'.heap := by rw [hhp]; exact vx_Zq.moved hW0.alike (hN.kept hS.2.1)
  have h : ∀ w ∈ Bundle.ownAtoms0 own ic cls names, w.before args s' = true := vx_own hat' (vx_isRefq hU'.1) (vx_isRefq hN'.1) hU'.2.word hN'.2.word
  have hown' : s'.vm.findClass own = some m.cls := by rw [hvm]; exact hown
  have hins : (Cond.instantiable cls 6).before args s' = true := h _ (by simp [Bundle.ownAtoms0])
  obtain ⟨vm₁, cX, kX, hfX, hkX, -, -, X₁, st1⟩ := Y.newCold hexec (own := own) (C := cls) (index := ik) (n := 6) hown' hk' hins hini'
    (g := F0 m pc ls rest) rfl (by rw [hb]; exact d0) (Nat.le_refl _) (Nat.le_refl _)
  generalize hT1 : (T.setVm vm₁).pushCell { cls := cX, slots := kX.instanceTypes.map defaultValue, vm := .none } = T1 at X₁ st1
  have hcat : (Value.ref T.heap.size).category = 1 := rfl
  have hcellA : T1.heap[T.heap.size]? = some (freshCell cX kX) := by rw [← hT1]; exact State.heap_pushCell_size _ _
  have d3' : decode c.code (pc + 3) = .ok (.dup, 1) := by rw [hb]; exact d3
  obtain ⟨U, hsteps, hrun, hend, hW, hsame, ce, hce, hO⟩ := X₁.ctorThrow0 hexec htr (own := own) (cls := cls) (names := names) (ic := ic) hown' hcls hnames h (fun x hx => nomatch hx) hfX hkX hcellA (by rw [hhp, hT]; exact Nat.le_refl _)
    (g := { method := m, pc := pc + 4, locals := ls, stack := .ref T.heap.size :: .ref T.heap.size :: rest, locked := none }) rfl hsize rfl rfl (rest := rest) rfl
    (by rw [hb]; exact d4) (by rw [hb]; exact d7) hout hRframes (by simp only [List.map_cons, List.sum_cons, hcat]; omega) hlocks
  obtain ⟨f1, f2⟩ := vx_frame hsame
  rw [hhp] at f1 f2
  have hWs : s.WarmedH U.vm := State.WarmedH.trans hW0 hW
  have hcl : s.vm.findClass cls = some ce.cls := by
    have h9 := hO.cls
    rw [hvm] at h9
    exact h9
  have hall : s.sameButNew ({ U with vm := s.vm } : State) locs mc ms := by
    subst hA
    obtain ⟨e1, e2⟩ := hsame
    rw [State.setFrames_setFrames] at e1
    have h2 : (T.setVm s.vm).sameButNew ({ U with vm := s.vm } : State) [] (0 + 1) (0 + 6) := ⟨e1, e2⟩
    have h3 := X.same.trans h2
    rw [List.append_nil] at h3
    exact h3.mono hc hs
  refine ⟨U, ?_, .threw T.heap.size, hrun, hend, Or.inr ⟨T.heap.size, rfl, cls, ce, locs, hx U hWs.alike f1 (fun q hq => f2 q hq (fun z hz => nomatch hz)), hce, hO.vm, hcl, hWs, hall, hf⟩⟩
  refine st1 _ ?_
  show Steps p.tables e below (T1.setTop { method := m, pc := pc + 3, locals := ls, stack := .ref T.heap.size :: rest, locked := none }) _
  jvm_step X₁.here [X₁.here.top, hexec, d3', Value.category]
  exact hsteps
/-- 'throw new E("text")': new; dup; ldc; invokespecial; athrow -/
theorem vx_throwS {cc : ByteArray} {pc : Nat} (hexec : p.tables.exec = Jvm.exec) (hb : c.code = cc) (hl : l.stackTraces = false) {own cls text : String} {names : List String} {ik is ic mc ms sa : Nat} {A : Nat → Prop}
    (hown : s.vm.findClass own = some m.cls) (hcls : Bundle.fit cls = true) (hnames : ∀ n ∈ names, Bundle.fit n = true)
    (hk : (Cond.classLink own ik cls).before args s = true) (hini : (Cond.initialized cls).before args s = true) (hstr : vk_R own is text sa s) (hat : ∀ w ∈ vx_atS own ic cls names, w.before args s = true)
    (hgood : ∀ w ∈ Cond.classLink own ik cls :: Cond.initialized cls :: vx_atS own ic cls names, vx_ot w = true)
    (hU : vx_Zq Bundle.tN "UNASSIGNED_STACK" Bundle.steD A s s.heap) (hN : vx_Zq Bundle.tN "SUPPRESSED_SENTINEL" Bundle.listD A s s.heap) (hS : va_S A s.heap H locs) (hsize : ls.size = c.maxLocals)
    (d0 : decode cc pc = .ok (.new ik, 3)) (d3 : decode cc (pc + 3) = .ok (.dup, 1)) (d4 : decode cc (pc + 4) = .ok (.ldc is, 2)) (d6 : decode cc (pc + 6) = .ok (.invokespecial ic, 3)) (d9 : decode cc (pc + 9) = .ok (.athrow, 1))
    (hout : ∀ x ∈ c.exceptionTable.toList, covers x (pc + 9) = false)
    (hRframes : names.length + 3 < R.frames) (hRlocals : (rest.map fun v => v.category).sum + (13 * (names.length + 1) + 43) ≤ R.locals) (hRcells : cells + 1 ≤ R.cells) (hRslots : slots + 6 ≤ R.slots) (hlocks : meth.locks = false)
    (hx : ∀ t : State, s.vm.Alike t.vm → H.size ≤ t.heap.size → (∀ q : Nat, q < H.size → t.heap[q]? = H[q]?) → XC cls s t)
    (hf : ∀ z ∈ locs, free z.base) (hc : cells + 1 ≤ mc) (hs : slots + 6 ≤ ms) :
    W p l e R s m args below meth c H locs cells slots (vx_MQ below Qc XC args s mc ms free) (F0 m pc ls rest) := by
  intro T hT X
  have htr : e.platform.stackTraces = false := (show e.platform.stackTraces = l.stackTraces by rw [X.admits.platform]).trans hl
  have Y := vx_rebase X (R' := { frames := R.frames, locals := R.locals, cells := 1, slots := 6 }) (Nat.le_refl _) (Nat.le_refl _) hRcells hRslots
  obtain ⟨s', hA⟩ : ∃ z, z = (T.setVm s.vm).setFrames (.invoking m args :: below) := ⟨_, rfl⟩
  rw [← hA] at Y
  have hvm : s'.vm = s.vm := by rw [hA]; rfl
  have hhp : s'.heap = H := by rw [hA]; exact hT
  have hW0 : s.WarmedH s'.vm := by rw [hvm]; exact State.WarmedH.refl s
  have hat' : ∀ w ∈ vx_atS own ic cls names, w.before args s' = true := fun w hw => vx_ot_at hW0 hvm.symm (hgood w (List.mem_cons_of_mem _ (List.mem_cons_of_mem _ hw))) (hat w hw)
  have hk' : (Cond.classLink own ik cls).before args s' = true := vx_ot_at hW0 hvm.symm (hgood _ List.mem_cons_self) hk
  have hini' : (Cond.initialized cls).before args s' = true := vx_ot_at hW0 hvm.symm (hgood _ (List.mem_cons_of_mem _ List.mem_cons_self)) hini
  have hU' : vx_Zq Bundle.tN "UNASSIGNED_STACK" Bundle.steD A s' s'.heap := by rw [hhp]; exact vx_Zq.moved hW0.alike (hU.kept hS.2.1)
  have hN' : vx_Zq Bundle.tN "SUPPRESSED_SENTINEL" Bundle.listD A s' s'.heap := by rw [hhp]; exact vx_Zq.moved hW0.alike (hN.kept hS.2.1)
  have h : ∀ w ∈ Bundle.ownAtoms own ic cls names, w.before args s' = true := vx_own hat' (vx_isRefq hU'.1) (vx_isRefq hN'.1) hU'.2.word hN'.2.word
  have hown' : s'.vm.findClass own = some m.cls := by rw [hvm]; exact hown
  have hins : (Cond.instantiable cls 6).before args s' = true := h _ (by simp [Bundle.ownAtoms])
  obtain ⟨vm₁, cX, kX, hfX, hkX, -, -, X₁, st1⟩ := Y.newCold hexec (own := own) (C := cls) (index := ik) (n := 6) hown' hk' hins hini'
    (g := F0 m pc ls rest) rfl (by rw [hb]; exact d0) (Nat.le_refl _) (Nat.le_refl _)
  generalize hT1 : (T.setVm vm₁).pushCell { cls := cX, slots := kX.instanceTypes.map defaultValue, vm := .none } = T1 at X₁ st1
  have hcat : (Value.ref T.heap.size).category = 1 := rfl
  have hcellA : T1.heap[T.heap.size]? = some (freshCell cX kX) := by rw [← hT1]; exact State.heap_pushCell_size _ _
  have d3' : decode c.code (pc + 3) = .ok (.dup, 1) := by rw [hb]; exact d3
  have d4' : decode c.code (pc + 4) = .ok (.ldc is, 2) := by rw [hb]; exact d4
  have hstr' : vk_R own is text sa s' := vk_R.warm hW0 hstr
  obtain ⟨U, hsteps, hrun, hend, hW, hsame, ce, hce, hO⟩ := X₁.ctorThrowS hexec htr (own := own) (cls := cls) (names := names) (ic := ic) hown' hcls hnames h (fun x hx => nomatch hx) hfX hkX hcellA (by rw [hhp, hT]; exact Nat.le_refl _) (msg := .ref sa) rfl
    (g := { method := m, pc := pc + 6, locals := ls, stack := .ref sa :: .ref T.heap.size :: .ref T.heap.size :: rest, locked := none }) rfl hsize rfl rfl (rest := rest) rfl
    (by rw [hb]; exact d6) (by rw [hb]; exact d9) hout hRframes (by simp only [List.map_cons, List.sum_cons, hcat]; omega) hlocks
  obtain ⟨f1, f2⟩ := vx_frame hsame
  rw [hhp] at f1 f2
  have hWs : s.WarmedH U.vm := State.WarmedH.trans hW0 hW
  have hcl : s.vm.findClass cls = some ce.cls := by
    have h9 := hO.cls
    rw [hvm] at h9
    exact h9
  have hall : s.sameButNew ({ U with vm := s.vm } : State) locs mc ms := by
    subst hA
    obtain ⟨e1, e2⟩ := hsame
    rw [State.setFrames_setFrames] at e1
    have h2 : (T.setVm s.vm).sameButNew ({ U with vm := s.vm } : State) [] (0 + 1) (0 + 6) := ⟨e1, e2⟩
    have h3 := X.same.trans h2
    rw [List.append_nil] at h3
    exact h3.mono hc hs
  refine ⟨U, ?_, .threw T.heap.size, hrun, hend, Or.inr ⟨T.heap.size, rfl, cls, ce, locs, hx U hWs.alike f1 (fun q hq => f2 q hq (fun z hz => nomatch hz)), hce, hO.vm, hcl, hWs, hall, hf⟩⟩
  refine st1 _ ?_
  show Steps p.tables e below (T1.setTop { method := m, pc := pc + 3, locals := ls, stack := .ref T.heap.size :: rest, locked := none }) _
  jvm_step X₁.here [X₁.here.top, hexec, d3', Value.category]
  exact X₁.ldcString hexec (own := own) (text := text) (index := is) (a := sa) hown' hstr'.1 hstr'.2
    (g := { method := m, pc := pc + 4, locals := ls, stack := .ref T.heap.size :: .ref T.heap.size :: rest, locked := none }) rfl d4' _ hsteps
/-- 'throw new E("text")', the text by a wide index -/
theorem vx_throwSW {cc : ByteArray} {pc : Nat} (hexec : p.tables.exec = Jvm.exec) (hb : c.code = cc) (hl : l.stackTraces = false) {own cls text : String} {names : List String} {ik is ic mc ms sa : Nat} {A : Nat → Prop}
    (hown : s.vm.findClass own = some m.cls) (hcls : Bundle.fit cls = true) (hnames : ∀ n ∈ names, Bundle.fit n = true)
    (hk : (Cond.classLink own ik cls).before args s = true) (hini : (Cond.initialized cls).before args s = true) (hstr : vk_R own is text sa s) (hat : ∀ w ∈ vx_atS own ic cls names, w.before args s = true)
    (hgood : ∀ w ∈ Cond.classLink own ik cls :: Cond.initialized cls :: vx_atS own ic cls names, vx_ot w = true)
    (hU : vx_Zq Bundle.tN "UNASSIGNED_STACK" Bundle.steD A s s.heap) (hN : vx_Zq Bundle.tN "SUPPRESSED_SENTINEL" Bundle.listD A s s.heap) (hS : va_S A s.heap H locs) (hsize : ls.size = c.maxLocals)
    (d0 : decode cc pc = .ok (.new ik, 3)) (d3 : decode cc (pc + 3) = .ok (.dup, 1)) (d4 : decode cc (pc + 4) = .ok (.ldc_w is, 3)) (d7 : decode cc (pc + 7) = .ok (.invokespecial ic, 3)) (d10 : decode cc (pc + 10) = .ok (.athrow, 1))
    (hout : ∀ x ∈ c.exceptionTable.toList, covers x (pc + 10) = false)
    (hRframes : names.length + 3 < R.frames) (hRlocals : (rest.map fun v => v.category).sum + (13 * (names.length + 1) + 43) ≤ R.locals) (hRcells : cells + 1 ≤ R.cells) (hRslots : slots + 6 ≤ R.slots) (hlocks : meth.locks = false)
    (hx : ∀ t : State, s.vm.Alike t.vm → H.size ≤ t.heap.size → (∀ q : Nat, q < H.size → t.heap[q]? = H[q]?) → XC cls s t)
    (hf : ∀ z ∈ locs, free z.base) (hc : cells + 1 ≤ mc) (hs : slots + 6 ≤ ms) :
    W p l e R s m args below meth c H locs cells slots (vx_MQ below Qc XC args s mc ms free) (F0 m pc ls rest) := by
  intro T hT X
  have htr : e.platform.stackTraces = false := (show e.platform.stackTraces = l.stackTraces by rw [X.admits.platform]).trans hl
  have Y := vx_rebase X (R' := { frames := R.frames, locals := R.locals, cells := 1, slots := 6 }) (Nat.le_refl _) (Nat.le_refl _) hRcells hRslots
  obtain ⟨s', hA⟩ : ∃ z, z = (T.setVm s.vm).setFrames (.invoking m args :: below) := ⟨_, rfl⟩
  rw [← hA] at Y
  have hvm : s'.vm = s.vm := by rw [hA]; rfl
  have hhp : s'.heap = H := by rw [hA]; exact hT
  have hW0 : s.WarmedH s'.vm := by rw [hvm]; exact State.WarmedH.refl s
  have hat' : ∀ w ∈ vx_atS own ic cls names, w.before args s' = true := fun w hw => vx_ot_at hW0 hvm.symm (hgood w (List.mem_cons_of_mem _ (List.mem_cons_of_mem _ hw))) (hat w hw)
  have hk' : (Cond.classLink own ik cls).before args s' = true := vx_ot_at hW0 hvm.symm (hgood _ List.mem_cons_self) hk
  have hini' : (Cond.initialized cls).before args s' = true := vx_ot_at hW0 hvm.symm (hgood _ (List.mem_cons_of_mem _ List.mem_cons_self)) hini
  have hU' : vx_Zq Bundle.tN "UNASSIGNED_STACK" Bundle.steD A s' s'.heap := by rw [hhp]; exact vx_Zq.moved hW0.alike (hU.kept hS.2.1)
  have hN' : vx_Zq Bundle.tN "SUPPRESSED_SENTINEL" Bundle.listD A s' s'.heap := by rw [hhp]; exact vx_Zq.moved hW0.alike (hN.kept hS.2.1)
  have h : ∀ w ∈ Bundle.ownAtoms own ic cls names, w.before args s' = true := vx_own hat' (vx_isRefq hU'.1) (vx_isRefq hN'.1) hU'.2.word hN'.2.word
  have hown' : s'.vm.findClass own = some m.cls := by rw [hvm]; exact hown
  have hins : (Cond.instantiable cls 6).before args s' = true := h _ (by simp [Bundle.ownAtoms])
  obtain ⟨vm₁, cX, kX, hfX, hkX, -, -, X₁, st1⟩ := Y.newCold hexec (own := own) (C := cls) (index := ik) (n := 6) hown' hk' hins hini'
    (g := F0 m pc ls rest) rfl (by rw [hb]; exact d0) (Nat.le_refl _) (Nat.le_refl _)
  generalize hT1 : (T.setVm vm₁).pushCell { cls := cX, slots := kX.instanceTypes.map defaultValue, vm := .none } = T1 at X₁ st1
  have hcat : (Value.ref T.heap.size).category = 1 := rfl
  have hcellA : T1.heap[T.heap.size]? = some (freshCell cX kX) := by rw [← hT1]; exact State.heap_pushCell_size _ _
  have d3' : decode c.code (pc + 3) = .ok (.dup, 1) := by rw [hb]; exact d3
  have d4' : decode c.code (pc + 4) = .ok (.ldc_w is, 3) := by rw [hb]; exact d4
  have hstr' : vk_R own is text sa s' := vk_R.warm hW0 hstr
  obtain ⟨U, hsteps, hrun, hend, hW, hsame, ce, hce, hO⟩ := X₁.ctorThrowS hexec htr (own := own) (cls := cls) (names := names) (ic := ic) hown' hcls hnames h (fun x hx => nomatch hx) hfX hkX hcellA (by rw [hhp, hT]; exact Nat.le_refl _) (msg := .ref sa) rfl
    (g := { method := m, pc := pc + 7, locals := ls, stack := .ref sa :: .ref T.heap.size :: .ref T.heap.size :: rest, locked := none }) rfl hsize rfl rfl (rest := rest) rfl
    (by rw [hb]; exact d7) (by rw [hb]; exact d10) hout hRframes (by simp only [List.map_cons, List.sum_cons, hcat]; omega) hlocks
  obtain ⟨f1, f2⟩ := vx_frame hsame
  rw [hhp] at f1 f2
  have hWs : s.WarmedH U.vm := State.WarmedH.trans hW0 hW
  have hcl : s.vm.findClass cls = some ce.cls := by
    have h9 := hO.cls
    rw [hvm] at h9
    exact h9
  have hall : s.sameButNew ({ U with vm := s.vm } : State) locs mc ms := by
    subst hA
    obtain ⟨e1, e2⟩ := hsame
    rw [State.setFrames_setFrames] at e1
    have h2 : (T.setVm s.vm).sameButNew ({ U with vm := s.vm } : State) [] (0 + 1) (0 + 6) := ⟨e1, e2⟩
    have h3 := X.same.trans h2
    rw [List.append_nil] at h3
    exact h3.mono hc hs
  refine ⟨U, ?_, .threw T.heap.size, hrun, hend, Or.inr ⟨T.heap.size, rfl, cls, ce, locs, hx U hWs.alike f1 (fun q hq => f2 q hq (fun z hz => nomatch hz)), hce, hO.vm, hcl, hWs, hall, hf⟩⟩
  refine st1 _ ?_
  show Steps p.tables e below (T1.setTop { method := m, pc := pc + 3, locals := ls, stack := .ref T.heap.size :: rest, locked := none }) _
  jvm_step X₁.here [X₁.here.top, hexec, d3', Value.category]
  exact X₁.ldcStringW hexec (own := own) (text := text) (index := is) (a := sa) hown' hstr'.1 hstr'.2
    (g := { method := m, pc := pc + 4, locals := ls, stack := .ref T.heap.size :: .ref T.heap.size :: rest, locked := none }) rfl d4' _ hsteps
end Ends
section Bodies
variable {l : Launch}
theorem vx_ofW {y : MethodName} {ws ws' : List Cond} {rm : Room} {Pc : Array Value → State → Prop} {Qc : Array Value → State → Outcome → State → Prop} {XC : String → State → State → Prop} {mc ms : Nat} {free : Addr → Prop} {cc : ByteArray} {maxL : Nat} {ret : Option FieldType}
    (hy : plainName y.cls = true) (hw : ws = Cond.code y cc maxL ret :: ws')
    (body : ∀ p e s m args below meth c s₁, BodyLoose p l y (headSpec ws rm) cc maxL ret e s m args below meth c s₁ → c.maxLocals = maxL → (∀ x ∈ c.exceptionTable.toList, False) → Pc args s →
      W p l e (headSpec ws rm).room s m args below meth c s.heap [] 0 0 (vx_MQ below Qc XC args s mc ms free) (entryFrame m args maxL)) : vx_Met l y ws rm Pc Qc XC mc ms free := by
  refine MetFree.of_bodyS (code := cc) (maxLocals := maxL) (ret := ret) hy ?_ ?_
  · intro args s m h hn
    obtain ⟨meth, c, h1, h2, h3, h4, h5, h6, -, -⟩ := Cond.code_spec hn (atoms_spec (ws := ws) h _ (by rw [hw]; exact List.mem_cons_self))
    exact ⟨meth, c, h1, h2, h3, h4, h5, h6⟩
  · intro p e s m args below meth c s₁ B hml hP _
    have hh0 : s₁.heap = s.heap := by rw [B.state]; rfl
    have ht : ∀ x ∈ c.exceptionTable.toList, False := by
      obtain ⟨meth9, c9, h1, h2, -, -, -, -, h7, -⟩ := Cond.code_spec B.named (atoms_spec (ws := ws) B.pre _ (by rw [hw]; exact List.mem_cons_self))
      cases Option.some.inj (h1.symm.trans B.method)
      cases Option.some.inj (h2.symm.trans (Stand.of_body B).code)
      intro x hx
      rw [Array.isEmpty_iff.mp h7] at hx
      cases hx
    obtain ⟨t, a1, o, b1, b2, b3⟩ := body p e s m args below meth c s₁ B hml ht hP s₁ hh0 (Stand.of_body B)
    exact ⟨t, o, a1, b1, b2, b3⟩
/-- the table of a body with handlers -/
theorem vx_table {p : Program} {x y : MethodName} {S : Spec} {cc bytes : ByteArray} {maxL maxL' : Nat} {ret ret' : Option FieldType} {e : Env} {s s₁ : State} {m : MethodId} {args : Array Value} {below : List Frame} {meth : Method} {c : Code} {hh : List (Nat × Nat × Nat × Nat)}
    (B : BodyLoose p l y S cc maxL ret e s m args below meth c s₁) (h : (Cond.codeWith y bytes maxL' ret' hh).before args s = true) : c.exceptionTable.toList = tableOf hh := by
  obtain ⟨m9, meth9, c9, hn9, h1, h2, -, -, h6, -⟩ := Cond.codeWith_spec h
  cases Option.some.inj (hn9.symm.trans B.named)
  cases Option.some.inj (h1.symm.trans B.method)
  cases Option.some.inj (h2.symm.trans (Stand.of_body B).code)
  rw [← h6, table_eq]
end Bodies
end VXA
/-! ===== END ===== -/
/-! ===== BEGIN a static call of a method with an exception table ===== -/
section VXS
variable {p : Program} {l : Launch} {e : Env} {R : Room} {s : State} {m : MethodId} {args : Array Value} {below : List Frame} {meth : Method} {c : Code} {T : State} {H : Heap} {locs : List Loc} {cells slots : Nat}
abbrev vx_CSW (R : Room) (s : State) (args : Array Value) (own : String) (index : Nat) (y : MethodName) (bytes : ByteArray) (maxL : Nat) (ret : Option FieldType) (hh : List (Nat × Nat × Nat × Nat)) (ws : List Cond) (rm : Room) (mc ms n : Nat) : Prop :=
  (rm.cells = mc ∧ rm.slots = ms ∧ rm.frames + 1 ≤ R.frames ∧ 8 + (maxL + 11) + rm.locals ≤ R.locals ∧ (∀ w ∈ ws, ∀ (a' : Array Value) (U : State), s.WarmedH U.vm → w.before a' U = true) ∧ Cond.codeWith y bytes maxL ret hh ∈ ws) ∧
  (Cond.codeWith y bytes maxL ret hh).before args s = true ∧ (Cond.initialized y.cls).before args s = true ∧ (y.cls ≠ "java/lang/invoke/MethodHandle" ∧ y.cls ≠ "java/lang/invoke/VarHandle") ∧
  (∀ sig, parseMethodDescriptor y.desc = some sig → n = sig.parameters.length) ∧ (Cond.methodLink own index y).before args s = true ∧ (Cond.static y).before args s = true
theorem vx_cwSW {own : String} {index maxL mc ms : Nat} {y : MethodName} {bytes : ByteArray} {ret : Option FieldType} {hh : List (Nat × Nat × Nat × Nat)} {Ts ws ws' : List Cond} {rm : Room} (n : Nat) (ht : ∀ w ∈ Ts, w.before args s = true) (hT : GoodIn Ts (va_wsS own index y ws)) (hw : ws = Cond.codeWith y bytes maxL ret hh :: ws') (hrc : rm.cells = mc) (hrs : rm.slots = ms)
    (hd : y.cls ≠ "java/lang/invoke/MethodHandle" ∧ y.cls ≠ "java/lang/invoke/VarHandle" ∧ (parseMethodDescriptor y.desc).map (fun d => d.parameters.length) = some n) (hR : rm.frames + 1 ≤ R.frames ∧ 8 + (maxL + 11) + rm.locals ≤ R.locals) :
    vx_CSW R s args own index y bytes maxL ret hh ws rm mc ms n := by
  have ok : ∀ w ∈ va_wsS own index y ws, w.before args s = true := fun w h => ht w (hT w h).1
  have hG : GoodIn Ts ws := fun w h => hT w (by unfold va_wsS; exact List.mem_append_right _ h)
  have hc : Cond.codeWith y bytes maxL ret hh ∈ ws := by rw [hw]; exact List.mem_cons_self
  refine ⟨⟨hrc, hrs, hR.1, hR.2, pay_in ht hG, hc⟩, ht _ (hG _ hc).1, ok _ (by simp [va_wsS]), ⟨hd.1, hd.2.1⟩, fun sig h => ?_, ok _ (by simp [va_wsS]), ok _ (by simp [va_wsS])⟩
  have h2 := hd.2.2
  rw [h] at h2
  exact (Option.some.inj h2).symm
theorem vx_callSW (X : Stand p l e R s m args below meth c T locs cells slots) (hexec : p.tables.exec = Jvm.exec) {own : String} {index : Nat} {y : MethodName} {bytes : ByteArray} {maxL : Nat} {ret : Option FieldType} {hh : List (Nat × Nat × Nat × Nat)}
    (hown : s.vm.findClass own = some m.cls) (hlink : (Cond.methodLink own index y).before args s = true) (hstat : (Cond.static y).before args s = true) (hinit : (Cond.initialized y.cls).before args s = true)
    (hcode : (Cond.codeWith y bytes maxL ret hh).before args s = true) (hy : y.cls ≠ "java/lang/invoke/MethodHandle" ∧ y.cls ≠ "java/lang/invoke/VarHandle")
    {W9 : Nat} {Pre : Pt → Array Value → Prop} {Post : Pt → Array Value → Option Value → Pt → Prop} (hK : Back l R p e below s args y 3 W9 Pre Post)
    {g : JFrame} (hg : g.method = m) (hsize : g.locals.size = c.maxLocals) {argsL rest : List Value} (hlen : ∀ sig, parseMethodDescriptor y.desc = some sig → argsL.length = sig.parameters.length)
    (hstack : g.stack = argsL.reverse ++ rest) (hW : 2 * g.monitorRoom + (rest.map fun v => v.category).sum ≤ W9) (hdg : decode c.code g.pc = .ok (.invokestatic index, 3))
    (hpre : ∀ vm₁, s.WarmedH vm₁ → Pre ⟨T.setVm vm₁, locs, cells, slots⟩ argsL.toArray) :
    ∃ (v : Option Value) (vm₁ : Vm) (B : Pt), s.WarmedH vm₁ ∧ Stand p l e R s m args below meth c B.U B.locs B.cells B.slots ∧ Post ⟨T.setVm vm₁, locs, cells, slots⟩ argsL.toArray v B ∧
      ∀ target, Steps p.tables e below (B.U.setTop { g with pc := g.pc + 3, stack := v.toList ++ rest }) target → Steps p.tables e below (T.setTop g) target := by
  obtain ⟨mk, methM, cM, hnamed, hmethM, -, -, -, -, -, -, hsigM⟩ := Cond.codeWith_spec hcode
  have hstatic : methM.isStatic = true := Cond.static_spec hnamed hmethM hstat
  obtain ⟨kP, hkP, -⟩ := className_of_methodNamed hnamed
  have hinitP : kP.init = .initialized := Cond.initialized_spec (findClass_of_methodNamed hnamed) hkP hinit
  obtain ⟨vm₁, X₁, hstep₁⟩ := X.invokestatic hexec hown hlink hnamed hmethM hstatic hkP hinitP hy (g := g) hg (argsL := argsL) (rest := rest) (hlen _ hsigM) hstack hdg
  obtain ⟨v, B, X', hpost, hsteps⟩ := hK m meth c ⟨T.setVm vm₁, locs, cells, slots⟩ { g with stack := rest } (.invokestatic index) mk argsL.toArray X₁ hg hsize hdg hW (X₁.named hnamed) (hpre vm₁ X₁.warmed)
  exact ⟨v, vm₁, B, X₁.warmed, X', hpost, fun target h => hstep₁ _ fun acts => by rw [doInvoke_state]; exact hsteps.trans h⟩
theorem vx_runSW {y : MethodName} {bytes cc : ByteArray} {maxL nL mc ms n index : Nat} {ret : Option FieldType} {hh : List (Nat × Nat × Nat × Nat)} {ws : List Cond} {rm : Room} {Pc : Array Value → State → Prop} {Qc : Array Value → State → Outcome → State → Prop} {free : Addr → Prop} {Ts : List Cond} {own : String} {As rest : List Value} {g : JFrame}
    (S : CallFix p m c cc nL s args Ts own) (hM : Met l y ws rm Pc Qc mc ms free) (cw : vx_CSW R s args own index y bytes maxL ret hh ws rm mc ms n) (hp : PreS s H Pc As)
    (hg : g.method = m) (hn : As.length = n) (hsize : g.locals.size = nL) (hstack : g.stack = As.reverse ++ rest) (hW : 2 * g.monitorRoom + (rest.map fun v => v.category).sum ≤ 8) (hdg : decode cc g.pc = .ok (.invokestatic index, 3)) (hf : cells + mc ≤ R.cells ∧ slots + ms ≤ R.slots) :
    va_Run p l e R s m args below meth c H locs cells slots mc ms g rest (Qc As.toArray) (free) := by
  obtain ⟨⟨hrc, hrs, hfr, hlo, hws, hcw⟩, hcode, hini, hy, hlen, hl, hstt⟩ := cw
  have hK : Back l R p e below s args y 3 8 (PreOf R mc ms Pc) (PostOf Qc mc ms free) := va_backW (hh := hh) (bytes := bytes) (maxL := maxL) (ret := ret) hM hp.1 hrc hrs hfr hlo hws hcw (fun a' U hW => word_at hW (Or.inl (by first | rfl | simp [Cond.onTables, Cond.keeps, Cond.steady])) hini)
  obtain ⟨hx, hb, hml, ho, -⟩ := S
  intro T hT X
  obtain ⟨v, vm₁, ⟨U', l2, c2, s2⟩, hW₁, X', ⟨g', mk, t, L, e1, e2, hq, h1, hL, h2, h3⟩, st⟩ := vx_callSW X hx (hh := hh) (bytes := bytes) (maxL := maxL) (ret := ret) ho hl hstt hini hcode hy hK hg (hsize.trans hml.symm) (argsL := As) (rest := rest) (fun sig h => hn.trans (hlen sig h)) hstack hW (by rw [hb]; exact hdg)
    (fun vm₁ hW₁ => ⟨hf.1, hf.2, hp.2 (T.setVm vm₁) hT hW₁⟩)
  dsimp only [Pt.U, Pt.locs, Pt.cells, Pt.slots] at X' e1 e2 h1 h2 h3 st
  subst h1; subst h2; subst h3
  exact ⟨v, (T.setVm vm₁).calling g' mk As.toArray, t, U', L, hT, X', hL, e1, e2, hq, st⟩
/-- not caught here, past rows that name other classes: it goes on to the caller -/
theorem vx_outP {p : Program} {l : Launch} {e : Env} {R : Room} {s : State} {m : MethodId} {args : Array Value} {below : List Frame} {meth : Method} {c : Code} {H : Heap} {locs : List Loc} {cells slots : Nat} {free : Addr → Prop} {ls : Array Slot} {rest : List Value} {Qc : Array Value → State → Outcome → State → Prop} {XC : String → State → State → Prop}
    {pc : Nat} {own E : String} {ce : Cell} {q : Addr} {mc ms : Nat} (hown : s.vm.findClass own = some m.cls) (hlocks : meth.locks = false)
    (hpass : ∀ z ∈ c.exceptionTable.toList, covers z pc = false ∨ (z.catchType ≠ 0 ∧ ∃ nm : String, (Cond.classLink own z.catchType nm).before args s = true ∧ va_Nc E nm s)) (hcell : H[q]? = some ce) (hv : ce.vm = .none) (hcl : s.vm.findClass E = some ce.cls)
    (hx : ∀ t : State, t.heap = H → s.vm.Alike t.vm → XC E s t) (hf : ∀ z ∈ locs, free z.base) (hc : cells ≤ mc) (hs : slots ≤ ms) :
    vx_W p l e R s m args below meth c H locs cells slots (vx_MQ below Qc XC args s mc ms free) (F0 m pc ls rest) q := by
  intro T hT X
  have hpl : e.platform.magicAccessors = ({} : Platform).magicAccessors := by rw [X.admits.platform]
  obtain ⟨vm', hW', X', st⟩ := X.outThrough hlocks q (g := F0 m pc ls rest) rfl rfl rfl (cell := ce) (by rw [hT]; exact hcell) (by rw [hv]; rfl)
    (by obtain ⟨k9, h9, -⟩ := Vm.findClass_spec hcl; exact ⟨k9, h9⟩) (fun z hz => by
      rcases hpass z hz with h | ⟨hz0, nm, hl1, hn1⟩
      · exact Or.inl h
      · obtain ⟨c6, hc6, hcl6⟩ := Cond.classLink_spec hown hl1 e.platform hpl
        obtain ⟨a8, b8, h1, h2, h3⟩ := hn1
        cases Option.some.inj (h1.symm.trans hcl)
        cases Option.some.inj (h2.symm.trans hc6)
        exact Or.inr ⟨hz0, _, hcl6, h3⟩)
  obtain ⟨g₀, hfr⟩ := X'.frames_eq
  have hcell9 : ((T.setVm vm').setFrames (.throwing q :: below)).heap[q]? = some ce := by
    show T.heap[q]? = some ce
    rw [hT]; exact hcell
  have hend : Ended ((T.setVm vm').setFrames (.throwing q :: below)) below (.threw q) := State.frames_setFrames _ (State.cur_lt_of_frames hfr)
  refine ⟨(T.setVm vm').setFrames (.throwing q :: below), ?_, .threw q, X'.here.running, hend, Or.inr ⟨q, rfl, E, ce, locs, hx _ hT (X'.ends _).1.alike, hcell9, hv, hcl, (X'.ends _).1, (X'.ends _).2.mono hc hs, hf⟩⟩
  rw [X.pushThrowing_eq]
  exact st
/-- a thing of a world lies in the heap -/
theorem vx_lt {D : va_G} {cl : List vw_C} {ws : va_W} {H1 : Heap} (h : va_P D cl ws H1) {k : Nat} {q : Nat × va_E} (hk : ws[k]? = some q) : q.1 < H1.size := (h k q hk).lt
end VXS
/-! ===== END ===== -/
/-! ===== BEGIN methods with a table of their own: called by a name, returning or throwing ===== -/
section VXH
/-! vx_backW, vx_callVX, vx_callSX, vx_callVW, vx_runVW, vx_runVX, vx_runSX, vx_ofWH follow the same proofs as their sisters above (Free/Laws.lean, Shelf42/LK1.lean); vx_outP calls Shelf42/NT130.lean (outThrough). -/
section
variable {l : Launch} {R : Room} {p : Program} {e : Env} {below : List Frame} {s : State} {sargs : Array Value} {y : MethodName} {len W9 : Nat}
theorem vx_backW {ws : List Cond} {rm : Room} {Pc : Array Value → State → Prop} {Qc : Array Value → State → Outcome → State → Prop} {XC : String → State → State → Prop} {mc ms : Nat} {free : Addr → Prop} {bytes : ByteArray} {maxL : Nat} {ret : Option FieldType} {hh : List (Nat × Nat × Nat × Nat)}
    (hM : vx_Met l y ws rm Pc Qc XC mc ms free) (hblind : FrameBlind Pc) (hrc : rm.cells = mc) (hrs : rm.slots = ms)
    (hframes : rm.frames + 1 ≤ R.frames) (hlocals : W9 + (maxL + 11) + rm.locals ≤ R.locals)
    (hws : ∀ w ∈ ws, ∀ a' U, s.WarmedH U.vm → w.before a' U = true) (hcode : Cond.codeWith y bytes maxL ret hh ∈ ws) (hinit : ∀ a' U, s.WarmedH U.vm → (Cond.initialized y.cls).before a' U = true) :
    vx_Back l R p e below s sargs y len W9 (PreOf R mc ms Pc) (PostOf Qc mc ms free) (vx_Post XC mc ms free) := by
  intro m meth c A g ig mk a X hg hsize hdg hW hn hp
  have h1 : (headSpec ws rm).pre.before a A.U = true := atoms_intro fun w hw => hws w hw _ _ X.warmed
  have h2 : (Cond.codeWith y bytes maxL ret hh).before a A.U = true := hws _ hcode _ _ X.warmed
  have h3 : (Cond.initialized y.cls).before a A.U = true := hinit _ _ X.warmed
  have h4 : A.cells + (headSpec ws rm).room.cells ≤ R.cells := by rw [show (headSpec ws rm).room.cells = mc from hrc]; exact hp.1
  have h5 : A.slots + (headSpec ws rm).room.slots ≤ R.slots := by rw [show (headSpec ws rm).room.slots = ms from hrs]; exact hp.2.1
  have hPc : Pc a (A.U.calling g mk a) := hblind _ _ _ _ hp.2.2
  obtain ⟨U, Ls, c0, s0⟩ := A
  dsimp only [Pt.U, Pt.locs, Pt.cells, Pt.slots] at h1 h2 h3 h4 h5 X hn hPc ⊢
  obtain ⟨m9, methY, cY, hn9, hmY, hcY, -, hlY, -⟩ := Cond.codeWith_spec h2
  cases Option.some.inj (hn9.symm.trans hn)
  obtain ⟨kY, hkY, -⟩ := className_of_methodNamed hn
  have hinitY : kY.init = .initialized := Cond.initialized_spec (findClass_of_methodNamed hn) hkY h3
  have h : At U g.method c below := by rw [hg]; exact X.here
  have hlocals9 : W9 + (maxL + 11) + (headSpec ws rm).room.locals ≤ R.locals := hlocals
  have happ : (headSpec ws rm).appliesLoose y e.platform (U.calling g mk a) = true :=
    Spec.appliesLoose_calling (g := g) h hdg hn hkY hinitY
      (X.room_calling (g := g) (R' := (headSpec ws rm).room) hsize hmY hcY hframes (by rw [hlY]; omega) h4 h5) h1
  obtain ⟨mid, hmid⟩ := h.above
  have hfr : (U.setTop g).frames = (.java g :: mid) ++ below := by rw [State.frames_setTop' g h.top, hmid]; rfl
  obtain ⟨o, s₂, hsteps, -, hend, hq⟩ := Steps.callFree hM p X.admits X.cas X.clock (acts := []) hfr happ hPc trivial
  have hq' : vx_Q Qc XC mc ms free a (U.calling g mk a) o s₂ := hq
  rw [State.frames_setTop' g h.top] at hend
  obtain ⟨g₀, hg0⟩ := Option.isSome_iff_exists.mp h.top
  obtain ⟨r, hr⟩ := State.topJava?_eq_some.mp hg0
  have hr' : (({ U with heap := s₂.heap, slotsUsed := s₂.slotsUsed } : State).setVm s₂.vm).frames = .java g₀ :: r := hr
  rcases hq' with ⟨hqc, L, hfe, hL⟩ | ⟨q, rfl, E, ce, L, hx, hce, hcv, hcl, hW₂, hsm, hL⟩
  · obtain ⟨⟨v, rfl⟩, hW₂, e2, q2, q3, q4, q5, q6⟩ := id hfe
    have e3 : s₂ = ({ (U.calling g mk a).setFrames s₂.frames with heap := s₂.heap, slotsUsed := s₂.slotsUsed } : State).setVm s₂.vm := by
      have : s₂ = ({ s₂ with vm := (U.calling g mk a).vm } : State).setVm s₂.vm := rfl
      rw [e2] at this
      exact this
    obtain ⟨c₂, i₂, len₂, hc₂, hd₂, hf₂⟩ := hend
    have hW' : U.WarmedH s₂.vm := hW₂
    have hcc : c₂ = c := by
      have h1 : s₂.code? g.method = U.code? g.method := by
        rw [State.code?_eq, State.code?_eq, hW'.alike.method?]
      exact Option.some.inj (hc₂.symm.trans (h1.trans h.code))
    subst hcc
    have hlen : len₂ = len := by rw [hdg] at hd₂; cases hd₂; rfl
    subst hlen
    have hs₂ : s₂ = (({ U with heap := s₂.heap, slotsUsed := s₂.slotsUsed } : State).setVm s₂.vm).setTop { g with pc := g.pc + len₂, stack := v.toList ++ g.stack } := by
      refine e3.trans ?_
      rw [hf₂, State.calling_eq h.top, State.setFrames_setFrames, State.setTop_of_frames _ hr', hr]
      rfl
    have hsame : U.sameButNew ({ U with heap := s₂.heap, slotsUsed := s₂.slotsUsed } : State) L mc ms := by
      refine ⟨?_, q2, q3, q4, q5, q6⟩
      obtain ⟨t, ht, -⟩ := State.frames_cons hr
      show ({ U with heap := s₂.heap, slotsUsed := s₂.slotsUsed } : State) = { U.setFrames U.frames with heap := s₂.heap, slotsUsed := s₂.slotsUsed }
      rw [State.setFrames_self ht]
    subst hg
    refine Or.inl ⟨v, ⟨(({ U with heap := s₂.heap, slotsUsed := s₂.slotsUsed } : State).setVm s₂.vm), Ls ++ L, c0 + mc, s0 + ms⟩,
      ⟨X.admits, X.cas, X.clock, X.frames, X.room, X.hears, X.method, X.code, (X.here.setHeapUsed s₂.heap s₂.slotsUsed).setVm hW'.alike, X.tail, State.WarmedH.trans X.warmed hW', X.limits, X.bytes, X.same.trans (hsame.setVm s.vm)⟩,
      ⟨g, mk, s₂, L, rfl, rfl, hqc, rfl, hL, rfl, rfl⟩, ?_⟩
    show Steps p.tables e below _ ((({ U with heap := s₂.heap, slotsUsed := s₂.slotsUsed } : State).setVm s₂.vm).setTop { g with pc := g.pc + len₂, stack := v.toList ++ g.stack })
    rw [← hs₂]
    exact hsteps
  · obtain ⟨e2, q2, q3, q4, q5, q6⟩ := id hsm
    have e3 : s₂ = ({ (U.calling g mk a).setFrames s₂.frames with heap := s₂.heap, slotsUsed := s₂.slotsUsed } : State).setVm s₂.vm := by
      have : s₂ = ({ s₂ with vm := (U.calling g mk a).vm } : State).setVm s₂.vm := rfl
      rw [e2] at this
      exact this
    have hf₂ : s₂.frames = .throwing q :: .java g :: U.frames.tail := hend
    have hW' : U.WarmedH s₂.vm := hW₂
    have hs₂ : s₂ = ((({ U with heap := s₂.heap, slotsUsed := s₂.slotsUsed } : State).setVm s₂.vm).setTop g).pushFrame (.throwing q) := by
      refine e3.trans ?_
      rw [hf₂, State.calling_eq h.top, State.setFrames_setFrames, State.pushFrame, State.frames_setTop _ hr', State.setTop_of_frames _ hr', State.setFrames_setFrames, hr]
      rfl
    have hsame : U.sameButNew ({ U with heap := s₂.heap, slotsUsed := s₂.slotsUsed } : State) L mc ms := by
      refine ⟨?_, q2, q3, q4, q5, q6⟩
      obtain ⟨t, ht, -⟩ := State.frames_cons hr
      show ({ U with heap := s₂.heap, slotsUsed := s₂.slotsUsed } : State) = { U.setFrames U.frames with heap := s₂.heap, slotsUsed := s₂.slotsUsed }
      rw [State.setFrames_self ht]
    subst hg
    refine Or.inr ⟨q, ⟨(({ U with heap := s₂.heap, slotsUsed := s₂.slotsUsed } : State).setVm s₂.vm), Ls ++ L, c0 + mc, s0 + ms⟩,
      ⟨X.admits, X.cas, X.clock, X.frames, X.room, X.hears, X.method, X.code, (X.here.setHeapUsed s₂.heap s₂.slotsUsed).setVm hW'.alike, X.tail, State.WarmedH.trans X.warmed hW', X.limits, X.bytes, X.same.trans (hsame.setVm s.vm)⟩,
      ⟨g, mk, s₂, L, E, ce, rfl, rfl, hx, hce, hcv, hcl, rfl, hL, rfl, rfl⟩, ?_⟩
    show Steps p.tables e below _ (((({ U with heap := s₂.heap, slotsUsed := s₂.slotsUsed } : State).setVm s₂.vm).setTop g).pushFrame (.throwing q))
    rw [← hs₂]
    exact hsteps
end
variable {p : Program} {l : Launch} {e : Env} {R : Room} {s : State} {m : MethodId} {args : Array Value} {below : List Frame} {meth : Method} {c : Code} {T : State} {H : Heap} {locs : List Loc} {cells slots : Nat}
theorem vx_callVX (X : Stand p l e R s m args below meth c T locs cells slots) (hexec : p.tables.exec = Jvm.exec) {own C : String} {index : Nat} {y : MethodName} {bytes : ByteArray} {maxL : Nat} {ret : Option FieldType} {hh : List (Nat × Nat × Nat × Nat)}
    (hown : s.vm.findClass own = some m.cls) (hlink : (Cond.methodLink own index y).before args s = true) (hinst : (Cond.instanceMethod y).before args s = true) (hsel : (Cond.selects C y y).before args s = true)
    (hcode : (Cond.codeWith y bytes maxL ret hh).before args s = true) (hy : y.cls ≠ "java/lang/invoke/MethodHandle" ∧ y.cls ≠ "java/lang/invoke/VarHandle")
    {W9 : Nat} {Pre : Pt → Array Value → Prop} {Post : Pt → Array Value → Option Value → Pt → Prop} {PostX : Pt → Array Value → Addr → Pt → Prop} (hK : vx_Back l R p e below s args y 3 W9 Pre Post PostX)
    {b : Addr} {cellB : Cell} (hcell : T.heap[b]? = some cellB) (hobj : cellB.vm.isStatics = false) (hcls : s.vm.findClass C = some cellB.cls)
    {g : JFrame} (hg : g.method = m) (hsize : g.locals.size = c.maxLocals) {argsL rest : List Value} (hlen : ∀ sig, parseMethodDescriptor y.desc = some sig → argsL.length = sig.parameters.length)
    (hstack : g.stack = argsL.reverse ++ .ref b :: rest) (hW : 2 * g.monitorRoom + (rest.map fun v => v.category).sum ≤ W9) (hdg : decode c.code g.pc = .ok (.invokevirtual index, 3))
    (hpre : ∀ vm₁, s.WarmedH vm₁ → Pre ⟨T.setVm vm₁, locs, cells, slots⟩ (Value.ref b :: argsL).toArray) :
    (∃ (v : Option Value) (vm₁ : Vm) (B : Pt), s.WarmedH vm₁ ∧ Stand p l e R s m args below meth c B.U B.locs B.cells B.slots ∧ Post ⟨T.setVm vm₁, locs, cells, slots⟩ (Value.ref b :: argsL).toArray v B ∧
      ∀ target, Steps p.tables e below (B.U.setTop { g with pc := g.pc + 3, stack := v.toList ++ rest }) target → Steps p.tables e below (T.setTop g) target) ∨
    (∃ (q : Addr) (vm₁ : Vm) (B : Pt), s.WarmedH vm₁ ∧ Stand p l e R s m args below meth c B.U B.locs B.cells B.slots ∧ PostX ⟨T.setVm vm₁, locs, cells, slots⟩ (Value.ref b :: argsL).toArray q B ∧
      Steps p.tables e below (T.setTop g) ((B.U.setTop { g with stack := rest }).pushFrame (.throwing q))) := by
  obtain ⟨mk, methM, hnamed, hmethM, hstM, habM⟩ := Cond.instanceMethod_spec hinst
  obtain ⟨m8, methM', cM, hn8, hmethM', -, -, -, -, -, -, hsigM⟩ := Cond.codeWith_spec hcode
  cases Option.some.inj (hn8.symm.trans hnamed)
  cases hmethM.symm.trans hmethM'
  obtain ⟨c2, r2, m2, q1, q2, q3, q4, kP, hkP, hkPi⟩ := Cond.selects_spec hsel
  cases hcls.symm.trans q1
  cases (State.methodFound?_of_named hnamed hy).symm.trans q2
  cases hnamed.symm.trans q3
  have hselP : selectMethod e.platform s.vm cellB.cls mk = .method mk := by rw [Launch.admits_selectMethod X.admits]; exact q4
  obtain ⟨vm₁, X₁, hstep₁⟩ := X.invokevirtual hexec hown hlink hnamed hmethM hstM hkP hkPi hy (a := b) (cell := cellB) hcell
    (fun z h => by rw [h] at hobj; cases hobj) hselP hmethM habM hkP hkPi (g := g) hg (argsL := argsL) (rest := rest) (hlen _ hsigM) hstack hdg
  rcases hK m meth c ⟨T.setVm vm₁, locs, cells, slots⟩ { g with stack := rest } (.invokevirtual index) mk (Value.ref b :: argsL).toArray X₁ hg hsize hdg hW (X₁.named hnamed) (hpre vm₁ X₁.warmed) with ⟨v, B, X', hpost, hsteps⟩ | ⟨q, B, X', hpost, hsteps⟩
  · exact Or.inl ⟨v, vm₁, B, X₁.warmed, X', hpost, fun target h => hstep₁ _ fun acts => by rw [doInvoke_state]; exact hsteps.trans h⟩
  · exact Or.inr ⟨q, vm₁, B, X₁.warmed, X', hpost, hstep₁ _ fun acts => by rw [doInvoke_state]; exact hsteps⟩
theorem vx_callSX (X : Stand p l e R s m args below meth c T locs cells slots) (hexec : p.tables.exec = Jvm.exec) {own : String} {index : Nat} {y : MethodName} {bytes : ByteArray} {maxL : Nat} {ret : Option FieldType} {hh : List (Nat × Nat × Nat × Nat)}
    (hown : s.vm.findClass own = some m.cls) (hlink : (Cond.methodLink own index y).before args s = true) (hstat : (Cond.static y).before args s = true) (hinit : (Cond.initialized y.cls).before args s = true)
    (hcode : (Cond.codeWith y bytes maxL ret hh).before args s = true) (hy : y.cls ≠ "java/lang/invoke/MethodHandle" ∧ y.cls ≠ "java/lang/invoke/VarHandle")
    {W9 : Nat} {Pre : Pt → Array Value → Prop} {Post : Pt → Array Value → Option Value → Pt → Prop} {PostX : Pt → Array Value → Addr → Pt → Prop} (hK : vx_Back l R p e below s args y 3 W9 Pre Post PostX)
    {g : JFrame} (hg : g.method = m) (hsize : g.locals.size = c.maxLocals) {argsL rest : List Value} (hlen : ∀ sig, parseMethodDescriptor y.desc = some sig → argsL.length = sig.parameters.length)
    (hstack : g.stack = argsL.reverse ++ rest) (hW : 2 * g.monitorRoom + (rest.map fun v => v.category).sum ≤ W9) (hdg : decode c.code g.pc = .ok (.invokestatic index, 3))
    (hpre : ∀ vm₁, s.WarmedH vm₁ → Pre ⟨T.setVm vm₁, locs, cells, slots⟩ argsL.toArray) :
    (∃ (v : Option Value) (vm₁ : Vm) (B : Pt), s.WarmedH vm₁ ∧ Stand p l e R s m args below meth c B.U B.locs B.cells B.slots ∧ Post ⟨T.setVm vm₁, locs, cells, slots⟩ argsL.toArray v B ∧
      ∀ target, Steps p.tables e below (B.U.setTop { g with pc := g.pc + 3, stack := v.toList ++ rest }) target → Steps p.tables e below (T.setTop g) target) ∨
    (∃ (q : Addr) (vm₁ : Vm) (B : Pt), s.WarmedH vm₁ ∧ Stand p l e R s m args below meth c B.U B.locs B.cells B.slots ∧ PostX ⟨T.setVm vm₁, locs, cells, slots⟩ argsL.toArray q B ∧
      Steps p.tables e below (T.setTop g) ((B.U.setTop { g with stack := rest }).pushFrame (.throwing q))) := by
  obtain ⟨mk, methM, cM, hnamed, hmethM, -, -, -, -, -, -, hsigM⟩ := Cond.codeWith_spec hcode
  have hstatic : methM.isStatic = true := Cond.static_spec hnamed hmethM hstat
  obtain ⟨kP, hkP, -⟩ := className_of_methodNamed hnamed
  have hinitP : kP.init = .initialized := Cond.initialized_spec (findClass_of_methodNamed hnamed) hkP hinit
  obtain ⟨vm₁, X₁, hstep₁⟩ := X.invokestatic hexec hown hlink hnamed hmethM hstatic hkP hinitP hy (g := g) hg (argsL := argsL) (rest := rest) (hlen _ hsigM) hstack hdg
  rcases hK m meth c ⟨T.setVm vm₁, locs, cells, slots⟩ { g with stack := rest } (.invokestatic index) mk argsL.toArray X₁ hg hsize hdg hW (X₁.named hnamed) (hpre vm₁ X₁.warmed) with ⟨v, B, X', hpost, hsteps⟩ | ⟨q, B, X', hpost, hsteps⟩
  · exact Or.inl ⟨v, vm₁, B, X₁.warmed, X', hpost, fun target h => hstep₁ _ fun acts => by rw [doInvoke_state]; exact hsteps.trans h⟩
  · exact Or.inr ⟨q, vm₁, B, X₁.warmed, X', hpost, hstep₁ _ fun acts => by rw [doInvoke_state]; exact hsteps⟩
theorem vx_callVW (X : Stand p l e R s m args below meth c T locs cells slots) (hexec : p.tables.exec = Jvm.exec) {own C : String} {index : Nat} {y : MethodName} {bytes : ByteArray} {maxL : Nat} {ret : Option FieldType} {hh : List (Nat × Nat × Nat × Nat)}
    (hown : s.vm.findClass own = some m.cls) (hlink : (Cond.methodLink own index y).before args s = true) (hinst : (Cond.instanceMethod y).before args s = true) (hsel : (Cond.selects C y y).before args s = true)
    (hcode : (Cond.codeWith y bytes maxL ret hh).before args s = true) (hy : y.cls ≠ "java/lang/invoke/MethodHandle" ∧ y.cls ≠ "java/lang/invoke/VarHandle")
    {W9 : Nat} {Pre : Pt → Array Value → Prop} {Post : Pt → Array Value → Option Value → Pt → Prop} (hK : Back l R p e below s args y 3 W9 Pre Post)
    {b : Addr} {cellB : Cell} (hcell : T.heap[b]? = some cellB) (hobj : cellB.vm.isStatics = false) (hcls : s.vm.findClass C = some cellB.cls)
    {g : JFrame} (hg : g.method = m) (hsize : g.locals.size = c.maxLocals) {argsL rest : List Value} (hlen : ∀ sig, parseMethodDescriptor y.desc = some sig → argsL.length = sig.parameters.length)
    (hstack : g.stack = argsL.reverse ++ .ref b :: rest) (hW : 2 * g.monitorRoom + (rest.map fun v => v.category).sum ≤ W9) (hdg : decode c.code g.pc = .ok (.invokevirtual index, 3))
    (hpre : ∀ vm₁, s.WarmedH vm₁ → Pre ⟨T.setVm vm₁, locs, cells, slots⟩ (Value.ref b :: argsL).toArray) :
    ∃ (v : Option Value) (vm₁ : Vm) (B : Pt), s.WarmedH vm₁ ∧ Stand p l e R s m args below meth c B.U B.locs B.cells B.slots ∧ Post ⟨T.setVm vm₁, locs, cells, slots⟩ (Value.ref b :: argsL).toArray v B ∧
      ∀ target, Steps p.tables e below (B.U.setTop { g with pc := g.pc + 3, stack := v.toList ++ rest }) target → Steps p.tables e below (T.setTop g) target := by
  obtain ⟨mk, methM, hnamed, hmethM, hstM, habM⟩ := Cond.instanceMethod_spec hinst
  obtain ⟨m8, methM', cM, hn8, hmethM', -, -, -, -, -, -, hsigM⟩ := Cond.codeWith_spec hcode
  cases Option.some.inj (hn8.symm.trans hnamed)
  cases hmethM.symm.trans hmethM'
  obtain ⟨c2, r2, m2, q1, q2, q3, q4, kP, hkP, hkPi⟩ := Cond.selects_spec hsel
  cases hcls.symm.trans q1
  cases (State.methodFound?_of_named hnamed hy).symm.trans q2
  cases hnamed.symm.trans q3
  have hselP : selectMethod e.platform s.vm cellB.cls mk = .method mk := by rw [Launch.admits_selectMethod X.admits]; exact q4
  obtain ⟨vm₁, X₁, hstep₁⟩ := X.invokevirtual hexec hown hlink hnamed hmethM hstM hkP hkPi hy (a := b) (cell := cellB) hcell
    (fun z h => by rw [h] at hobj; cases hobj) hselP hmethM habM hkP hkPi (g := g) hg (argsL := argsL) (rest := rest) (hlen _ hsigM) hstack hdg
  obtain ⟨v, B, X', hpost, hsteps⟩ := hK m meth c ⟨T.setVm vm₁, locs, cells, slots⟩ { g with stack := rest } (.invokevirtual index) mk (Value.ref b :: argsL).toArray X₁ hg hsize hdg hW (X₁.named hnamed) (hpre vm₁ X₁.warmed)
  exact ⟨v, vm₁, B, X₁.warmed, X', hpost, fun target h => hstep₁ _ fun acts => by rw [doInvoke_state]; exact hsteps.trans h⟩
abbrev vx_CVW (R : Room) (s : State) (args : Array Value) (own C : String) (index : Nat) (y : MethodName) (bytes : ByteArray) (maxL : Nat) (ret : Option FieldType) (hh : List (Nat × Nat × Nat × Nat)) (ws : List Cond) (rm : Room) (mc ms n : Nat) : Prop :=
  (rm.cells = mc ∧ rm.slots = ms ∧ rm.frames + 1 ≤ R.frames ∧ 8 + (maxL + 11) + rm.locals ≤ R.locals ∧ (∀ w ∈ ws, ∀ (a' : Array Value) (U : State), s.WarmedH U.vm → w.before a' U = true) ∧ Cond.codeWith y bytes maxL ret hh ∈ ws) ∧
  (Cond.codeWith y bytes maxL ret hh).before args s = true ∧ (Cond.initialized y.cls).before args s = true ∧ (y.cls ≠ "java/lang/invoke/MethodHandle" ∧ y.cls ≠ "java/lang/invoke/VarHandle") ∧
  (∀ sig, parseMethodDescriptor y.desc = some sig → n = sig.parameters.length) ∧ (Cond.methodLink own index y).before args s = true ∧ (Cond.instanceMethod y).before args s = true ∧ (Cond.selects C y y).before args s = true
theorem vx_cwVW {own C : String} {index maxL mc ms : Nat} {y : MethodName} {bytes : ByteArray} {ret : Option FieldType} {hh : List (Nat × Nat × Nat × Nat)} {Ts ws ws' : List Cond} {rm : Room} (n : Nat) (ht : ∀ w ∈ Ts, w.before args s = true) (hT : GoodIn Ts (wsV own index C y ws)) (hw : ws = Cond.codeWith y bytes maxL ret hh :: ws') (hrc : rm.cells = mc) (hrs : rm.slots = ms)
    (hd : y.cls = C ∧ y.cls ≠ "java/lang/invoke/MethodHandle" ∧ y.cls ≠ "java/lang/invoke/VarHandle" ∧ (parseMethodDescriptor y.desc).map (fun d => d.parameters.length) = some n) (hR : rm.frames + 1 ≤ R.frames ∧ 8 + (maxL + 11) + rm.locals ≤ R.locals) :
    vx_CVW R s args own C index y bytes maxL ret hh ws rm mc ms n := by
  obtain ⟨hC, hd⟩ := hd
  subst hC
  have ok : ∀ w ∈ wsV own index y.cls y ws, w.before args s = true := fun w h => ht w (hT w h).1
  have hG : GoodIn Ts ws := fun w h => hT w (by unfold wsV; exact List.mem_append_right _ h)
  have hc : Cond.codeWith y bytes maxL ret hh ∈ ws := by rw [hw]; exact List.mem_cons_self
  refine ⟨⟨hrc, hrs, hR.1, hR.2, pay_in ht hG, hc⟩, ht _ (hG _ hc).1, ok _ (by simp [wsV]), ⟨hd.1, hd.2.1⟩, fun sig h => ?_, ok _ (by simp [wsV]), ok _ (by simp [wsV]), ok _ (by simp [wsV])⟩
  have h2 := hd.2.2
  rw [h] at h2
  exact (Option.some.inj h2).symm
theorem vx_runVW {y : MethodName} {bytes cc : ByteArray} {maxL nL mc ms n index : Nat} {ret : Option FieldType} {hh : List (Nat × Nat × Nat × Nat)} {ws : List Cond} {rm : Room} {Pc : Array Value → State → Prop} {Qc : Array Value → State → Outcome → State → Prop} {free : Addr → Prop} {Ts : List Cond} {own C : String} {b : Addr} {As rest : List Value} {g : JFrame}
    (S : CallFix p m c cc nL s args Ts own) (hM : Met l y ws rm Pc Qc mc ms free) (cw : vx_CVW R s args own C index y bytes maxL ret hh ws rm mc ms n) (hp : PreV s H C b Pc As)
    (hg : g.method = m) (hn : As.length = n) (hsize : g.locals.size = nL) (hstack : g.stack = As.reverse ++ .ref b :: rest) (hW : 2 * g.monitorRoom + (rest.map fun v => v.category).sum ≤ 8) (hdg : decode cc g.pc = .ok (.invokevirtual index, 3)) (hf : cells + mc ≤ R.cells ∧ slots + ms ≤ R.slots) :
    va_Run p l e R s m args below meth c H locs cells slots mc ms g rest (Qc (Value.ref b :: As).toArray) free := by
  obtain ⟨⟨hrc, hrs, hfr, hlo, hws, hcw⟩, hcode, hini, hy, hlen, hl, hin, hse⟩ := cw
  have hK : Back l R p e below s args y 3 8 (PreOf R mc ms Pc) (PostOf Qc mc ms free) := va_backW (hh := hh) (bytes := bytes) (maxL := maxL) (ret := ret) hM hp.1 hrc hrs hfr hlo hws hcw (fun a' U hW => word_at hW (Or.inl (by first | rfl | simp [Cond.onTables, Cond.keeps, Cond.steady])) hini)
  obtain ⟨hx, hb, hml, ho, -⟩ := S
  obtain ⟨-, ⟨cellB, hcB, hoB, hclB⟩, hPc⟩ := hp
  intro T hT X
  obtain ⟨v, vm₁, ⟨U', l2, c2, s2⟩, hW₁, X', ⟨g', mk, t, L, e1, e2, hq, h1, hL, h2, h3⟩, st⟩ := vx_callVW X hx (C := C) (hh := hh) (bytes := bytes) (maxL := maxL) (ret := ret) ho hl hin hse hcode hy hK (by rw [hT]; exact hcB) hoB hclB hg (hsize.trans hml.symm) (argsL := As) (rest := rest) (fun sig h => hn.trans (hlen sig h)) hstack hW (by rw [hb]; exact hdg)
    (fun vm₁ hW₁ => ⟨hf.1, hf.2, hPc (T.setVm vm₁) hT hW₁⟩)
  dsimp only [Pt.U, Pt.locs, Pt.cells, Pt.slots] at X' e1 e2 h1 h2 h3 st
  subst h1; subst h2; subst h3
  exact ⟨v, (T.setVm vm₁).calling g' mk (Value.ref b :: As).toArray, t, U', L, hT, X', hL, e1, e2, hq, st⟩
section
variable {y : MethodName} {bytes cc : ByteArray} {maxL nL mc ms n index : Nat} {ret : Option FieldType} {ws : List Cond} {rm : Room} {Pc : Array Value → State → Prop} {Qc : Array Value → State → Outcome → State → Prop} {XC : String → State → State → Prop} {free : Addr → Prop} {Ts : List Cond} {own C : String} {b : Addr} {As rest : List Value} {g : JFrame}
theorem vx_runVX {hh : List (Nat × Nat × Nat × Nat)} (S : CallFix p m c cc nL s args Ts own) (hM : vx_Met l y ws rm Pc Qc XC mc ms free) (cw : vx_CVW R s args own C index y bytes maxL ret hh ws rm mc ms n) (hp : PreV s H C b Pc As)
    (hg : g.method = m) (hn : As.length = n) (hsize : g.locals.size = nL) (hstack : g.stack = As.reverse ++ .ref b :: rest) (hW : 2 * g.monitorRoom + (rest.map fun v => v.category).sum ≤ 8) (hdg : decode cc g.pc = .ok (.invokevirtual index, 3)) (hf : cells + mc ≤ R.cells ∧ slots + ms ≤ R.slots) :
    vx_Run p l e R s m args below meth c H locs cells slots mc ms g rest (Qc (Value.ref b :: As).toArray) XC free := by
  obtain ⟨⟨hrc, hrs, hfr, hlo, hws, hcw⟩, hcode, hini, hy, hlen, hl, hin, hse⟩ := cw
  have hK : vx_Back l R p e below s args y 3 8 (PreOf R mc ms Pc) (PostOf Qc mc ms free) (vx_Post XC mc ms free) := vx_backW (hh := hh) (bytes := bytes) (maxL := maxL) (ret := ret) hM hp.1 hrc hrs hfr hlo hws hcw (fun a' U hW => word_at hW (Or.inl (by first | rfl | simp [Cond.onTables, Cond.keeps, Cond.steady])) hini)
  obtain ⟨hx, hb, hml, ho, -⟩ := S
  obtain ⟨-, ⟨cellB, hcB, hoB, hclB⟩, hPc⟩ := hp
  intro T hT X
  rcases vx_callVX X hx (C := C) (hh := hh) (bytes := bytes) (maxL := maxL) (ret := ret) ho hl hin hse hcode hy hK (by rw [hT]; exact hcB) hoB hclB hg (hsize.trans hml.symm) (argsL := As) (rest := rest) (fun sig h => hn.trans (hlen sig h)) hstack hW (by rw [hb]; exact hdg)
    (fun vm₁ hW₁ => ⟨hf.1, hf.2, hPc (T.setVm vm₁) hT hW₁⟩) with ⟨v, vm₁, ⟨U', l2, c2, s2⟩, hW₁, X', ⟨g', mk, t, L, e1, e2, hq, h1, hL, h2, h3⟩, st⟩ | ⟨q, vm₁, ⟨U', l2, c2, s2⟩, hW₁, X', ⟨g', mk, t, L, E, ce, e1, e2, hq, hce, hcv, hcl, h1, hL, h2, h3⟩, st⟩
  · dsimp only [Pt.U, Pt.locs, Pt.cells, Pt.slots] at X' e1 e2 h1 h2 h3 st
    subst h1; subst h2; subst h3
    exact Or.inl ⟨v, (T.setVm vm₁).calling g' mk (Value.ref b :: As).toArray, t, U', L, hT, X', hL, e1, e2, hq, st⟩
  · dsimp only [Pt.U, Pt.locs, Pt.cells, Pt.slots] at X' e1 e2 h1 h2 h3 st hcl
    subst h1; subst h2; subst h3
    exact Or.inr ⟨q, (T.setVm vm₁).calling g' mk (Value.ref b :: As).toArray, t, U', L, E, ce, hT, X', hL, e1, e2, hq, hce, hcv, vx_cls hW₁ hcl, st⟩
theorem vx_runSX {hh : List (Nat × Nat × Nat × Nat)} (S : CallFix p m c cc nL s args Ts own) (hM : vx_Met l y ws rm Pc Qc XC mc ms free) (cw : vx_CSW R s args own index y bytes maxL ret hh ws rm mc ms n) (hp : PreS s H Pc As)
    (hg : g.method = m) (hn : As.length = n) (hsize : g.locals.size = nL) (hstack : g.stack = As.reverse ++ rest) (hW : 2 * g.monitorRoom + (rest.map fun v => v.category).sum ≤ 8) (hdg : decode cc g.pc = .ok (.invokestatic index, 3)) (hf : cells + mc ≤ R.cells ∧ slots + ms ≤ R.slots) :
    vx_Run p l e R s m args below meth c H locs cells slots mc ms g rest (Qc As.toArray) XC free := by
  obtain ⟨⟨hrc, hrs, hfr, hlo, hws, hcw⟩, hcode, hini, hy, hlen, hl, hstt⟩ := cw
  have hK : vx_Back l R p e below s args y 3 8 (PreOf R mc ms Pc) (PostOf Qc mc ms free) (vx_Post XC mc ms free) := vx_backW (hh := hh) (bytes := bytes) (maxL := maxL) (ret := ret) hM hp.1 hrc hrs hfr hlo hws hcw (fun a' U hW => word_at hW (Or.inl (by first | rfl | simp [Cond.onTables, Cond.keeps, Cond.steady])) hini)
  obtain ⟨hx, hb, hml, ho, -⟩ := S
  intro T hT X
  rcases vx_callSX X hx (hh := hh) (bytes := bytes) (maxL := maxL) (ret := ret) ho hl hstt hini hcode hy hK hg (hsize.trans hml.symm) (argsL := As) (rest := rest) (fun sig h => hn.trans (hlen sig h)) hstack hW (by rw [hb]; exact hdg)
    (fun vm₁ hW₁ => ⟨hf.1, hf.2, hp.2 (T.setVm vm₁) hT hW₁⟩) with ⟨v, vm₁, ⟨U', l2, c2, s2⟩, hW₁, X', ⟨g', mk, t, L, e1, e2, hq, h1, hL, h2, h3⟩, st⟩ | ⟨q, vm₁, ⟨U', l2, c2, s2⟩, hW₁, X', ⟨g', mk, t, L, E, ce, e1, e2, hq, hce, hcv, hcl, h1, hL, h2, h3⟩, st⟩
  · dsimp only [Pt.U, Pt.locs, Pt.cells, Pt.slots] at X' e1 e2 h1 h2 h3 st
    subst h1; subst h2; subst h3
    exact Or.inl ⟨v, (T.setVm vm₁).calling g' mk As.toArray, t, U', L, hT, X', hL, e1, e2, hq, st⟩
  · dsimp only [Pt.U, Pt.locs, Pt.cells, Pt.slots] at X' e1 e2 h1 h2 h3 st hcl
    subst h1; subst h2; subst h3
    exact Or.inr ⟨q, (T.setVm vm₁).calling g' mk As.toArray, t, U', L, E, ce, hT, X', hL, e1, e2, hq, hce, hcv, vx_cls hW₁ hcl, st⟩
end
end VXH
theorem vx_ofWH {l : Launch} {y : MethodName} {ws ws' : List Cond} {rm : Room} {Pc : Array Value → State → Prop} {Qc : Array Value → State → Outcome → State → Prop} {XC : String → State → State → Prop} {mc ms : Nat} {free : Addr → Prop} {cc : ByteArray} {maxL : Nat} {ret : Option FieldType} {hh : List (Nat × Nat × Nat × Nat)}
    (hy : plainName y.cls = true) (hw : ws = Cond.codeWith y cc maxL ret hh :: ws')
    (body : ∀ p e s m args below meth c s₁, BodyLoose p l y (headSpec ws rm) cc maxL ret e s m args below meth c s₁ → c.maxLocals = maxL → Pc args s →
      W p l e (headSpec ws rm).room s m args below meth c s.heap [] 0 0 (vx_MQ below Qc XC args s mc ms free) (entryFrame m args maxL)) : vx_Met l y ws rm Pc Qc XC mc ms free := by
  refine MetFree.of_bodyS (code := cc) (maxLocals := maxL) (ret := ret) hy ?_ ?_
  · intro args s m h hn
    obtain ⟨m9, meth, c, hn9, h1, h2, h3, h4, -, h5, h6, -⟩ := Cond.codeWith_spec (atoms_spec (ws := ws) h _ (by rw [hw]; exact List.mem_cons_self))
    cases hn.symm.trans hn9
    exact ⟨meth, c, h1, h2, h3, h4, h5, h6⟩
  · intro p e s m args below meth c s₁ B hml hP _
    have hh0 : s₁.heap = s.heap := by rw [B.state]; rfl
    obtain ⟨t, a1, o, b1, b2, b3⟩ := body p e s m args below meth c s₁ B hml hP s₁ hh0 (Stand.of_body B)
    exact ⟨t, o, a1, b1, b2, b3⟩
/-! ===== END ===== -/

/-! ===== BEGIN printed: names, fields, word lists, decode rows ===== -/
def RX0 : String := "TwinOrchard$Tree"
def TX0 : u_T := fun k => match k with
  | 0 => ("TwinOrchard$Tree", "vigour", "I", false)
  | 1 => ("TwinOrchard$Tree", "hardiness", "I", false)
  | 2 => ("TwinOrchard$Tree", "branches", "I", false)
  | _ => ("TwinOrchard$Tree", "tired", "Z", false)
def tyX0 : Nat → FieldType := fun k => match k with
  | 0 => .int
  | 1 => .int
  | 2 => .int
  | _ => .boolean
abbrev wsX00 : List Cond := u_ws RX0 TX0 4
theorem nmX0 : ∀ a, a < 4 → ∀ b, b < 4 → a ≠ b → (TX0 a).2.1 ≠ (TX0 b).2.1 := by decide +kernel
theorem tyX0_ok : ∀ k, k < 4 → parseFieldDescriptor (TX0 k).2.2.1 = some (tyX0 k) := by decide +kernel
abbrev cX0_init : ByteArray := prog_2_method_1_code
def yX0_init : MethodName := ⟨RX0, "<init>", "()V"⟩
abbrev cX0_shorten : ByteArray := prog_2_method_2_code
def yX0_shorten : MethodName := ⟨RX0, "shorten", "(I)V"⟩
abbrev cX0_apples : ByteArray := prog_2_method_3_code
def yX0_apples : MethodName := ⟨RX0, "apples", "()I"⟩
abbrev cX0_liveYear : ByteArray := prog_2_method_4_code
def yX0_liveYear : MethodName := ⟨RX0, "liveYear", "(I)I"⟩
abbrev cX0_freeze : ByteArray := prog_2_method_5_code
def yX0_freeze : MethodName := ⟨RX0, "freeze", "(I)V"⟩
abbrev cX0_grow : ByteArray := prog_2_method_6_code
def yX0_grow : MethodName := ⟨RX0, "grow", "()V"⟩
def RX1 : String := "TwinOrchard"
def TX1 : u_T := fun k => match k with
  | 0 => ("TwinOrchard", "weights", "[I", true)
  | 1 => ("TwinOrchard", "hardiness", "[I", true)
  | 2 => ("TwinOrchard", "barn", "[I", true)
  | 3 => ("TwinOrchard", "frosts", "[I", true)
  | 4 => ("TwinOrchard", "kinds", "[I", true)
  | 5 => ("TwinOrchard", "branches", "[I", true)
  | 6 => ("TwinOrchard", "vigours", "[I", true)
  | 7 => ("TwinOrchard", "tired", "[Z", true)
  | 8 => ("TwinOrchard", "strength", "[I", true)
  | 9 => ("TwinOrchard", "year", "I", false)
  | 10 => ("TwinOrchard", "carriedLeftMore", "I", false)
  | 11 => ("TwinOrchard", "looked", "LTwinOrchard$Tree;", true)
  | _ => ("TwinOrchard", "fewest", "[I", true)
def tyX1 : Nat → FieldType := fun k => match k with
  | 0 => .array .int
  | 1 => .array .int
  | 2 => .array .int
  | 3 => .array .int
  | 4 => .array .int
  | 5 => .array .int
  | 6 => .array .int
  | 7 => .array .boolean
  | 8 => .array .int
  | 9 => .int
  | 10 => .int
  | 11 => .object "TwinOrchard$Tree"
  | _ => .array .int
abbrev wsX10 : List Cond := u_ws RX1 TX1 13
theorem nmX1 : ∀ a, a < 13 → ∀ b, b < 13 → a ≠ b → (TX1 a).2.1 ≠ (TX1 b).2.1 := by decide +kernel
theorem tyX1_ok : ∀ k, k < 13 → parseFieldDescriptor (TX1 k).2.2.1 = some (tyX1 k) := by decide +kernel
abbrev cX1_init : ByteArray := prog_1_method_1_code
def yX1_init : MethodName := ⟨RX1, "<init>", "()V"⟩
abbrev cX1_setSort : ByteArray := prog_1_method_2_code
def yX1_setSort : MethodName := ⟨RX1, "setSort", "(III)I"⟩
abbrev cX1_setFrost : ByteArray := prog_1_method_3_code
def yX1_setFrost : MethodName := ⟨RX1, "setFrost", "(II)I"⟩
abbrev cX1_plant : ByteArray := prog_1_method_4_code
def yX1_plant : MethodName := ⟨RX1, "plant", "(IIII)I"⟩
abbrev cX1_prune : ByteArray := prog_1_method_5_code
def yX1_prune : MethodName := ⟨RX1, "prune", "(III)I"⟩
abbrev cX1_graft : ByteArray := prog_1_method_6_code
def yX1_graft : MethodName := ⟨RX1, "graft", "(III)I"⟩
abbrev cX1_fell : ByteArray := prog_1_method_7_code
def yX1_fell : MethodName := ⟨RX1, "fell", "(II)I"⟩
abbrev cX1_tree : ByteArray := prog_1_method_8_code
def yX1_tree : MethodName := ⟨RX1, "tree", "(III)I"⟩
abbrev cX1_sort : ByteArray := prog_1_method_9_code
def yX1_sort : MethodName := ⟨RX1, "sort", "(II)I"⟩
abbrev cX1_count : ByteArray := prog_1_method_10_code
def yX1_count : MethodName := ⟨RX1, "count", "(I)I"⟩
abbrev cX1_leans : ByteArray := prog_1_method_11_code
def yX1_leans : MethodName := ⟨RX1, "leans", "(I)I"⟩
abbrev cX1_carry : ByteArray := prog_1_method_12_code
def yX1_carry : MethodName := ⟨RX1, "carry", "(III)I"⟩
abbrev cX1_tilt : ByteArray := prog_1_method_13_code
def yX1_tilt : MethodName := ⟨RX1, "tilt", "()I"⟩
abbrev cX1_balance : ByteArray := prog_1_method_14_code
def yX1_balance : MethodName := ⟨RX1, "balance", "()I"⟩
abbrev cX1_pass : ByteArray := prog_1_method_15_code
def yX1_pass : MethodName := ⟨RX1, "pass", "(I)I"⟩
abbrev cX1_foresee : ByteArray := prog_1_method_16_code
def yX1_foresee : MethodName := ⟨RX1, "foresee", "(II)I"⟩
abbrev cX1_advise : ByteArray := prog_1_method_17_code
def yX1_advise : MethodName := ⟨RX1, "advise", "(I)I"⟩
abbrev cX1_mean : ByteArray := prog_1_method_18_code
def yX1_mean : MethodName := ⟨RX1, "mean", "()D"⟩
abbrev cX1_digest : ByteArray := prog_1_method_19_code
def yX1_digest : MethodName := ⟨RX1, "digest", "()J"⟩
abbrev cX1_isWithin : ByteArray := prog_1_method_20_code
def yX1_isWithin : MethodName := ⟨RX1, "isWithin", "(III)Z"⟩
abbrev cX1_isSort : ByteArray := prog_1_method_21_code
def yX1_isSort : MethodName := ⟨RX1, "isSort", "(I)Z"⟩
abbrev cX1_isPlace : ByteArray := prog_1_method_22_code
def yX1_isPlace : MethodName := ⟨RX1, "isPlace", "(II)Z"⟩
abbrev cX1_spotOf : ByteArray := prog_1_method_23_code
def yX1_spotOf : MethodName := ⟨RX1, "spotOf", "(II)I"⟩
abbrev cX1_mirrorOf : ByteArray := prog_1_method_24_code
def yX1_mirrorOf : MethodName := ⟨RX1, "mirrorOf", "(I)I"⟩
abbrev cX1_twinOf : ByteArray := prog_1_method_25_code
def yX1_twinOf : MethodName := ⟨RX1, "twinOf", "(I)I"⟩
abbrev cX1_hasTree : ByteArray := prog_1_method_26_code
def yX1_hasTree : MethodName := ⟨RX1, "hasTree", "(I)Z"⟩
abbrev cX1_whoDidIt : ByteArray := prog_1_method_27_code
def yX1_whoDidIt : MethodName := ⟨RX1, "whoDidIt", "(ZZ)I"⟩
abbrev cX1_canPay : ByteArray := prog_1_method_28_code
def yX1_canPay : MethodName := ⟨RX1, "canPay", "(II)Z"⟩
abbrev cX1_pay : ByteArray := prog_1_method_29_code
def yX1_pay : MethodName := ⟨RX1, "pay", "(II)V"⟩
abbrev cX1_plantAt : ByteArray := prog_1_method_30_code
def yX1_plantAt : MethodName := ⟨RX1, "plantAt", "(III)Z"⟩
abbrev cX1_canPrune : ByteArray := prog_1_method_31_code
def yX1_canPrune : MethodName := ⟨RX1, "canPrune", "(II)Z"⟩
abbrev cX1_pruneAt : ByteArray := prog_1_method_32_code
def yX1_pruneAt : MethodName := ⟨RX1, "pruneAt", "(II)Z"⟩
abbrev cX1_graftAt : ByteArray := prog_1_method_33_code
def yX1_graftAt : MethodName := ⟨RX1, "graftAt", "(II)Z"⟩
abbrev cX1_fellAt : ByteArray := prog_1_method_34_code
def yX1_fellAt : MethodName := ⟨RX1, "fellAt", "(I)Z"⟩
abbrev cX1_treesOfSort : ByteArray := prog_1_method_35_code
def yX1_treesOfSort : MethodName := ⟨RX1, "treesOfSort", "(I)I"⟩
abbrev cX1_allTrees : ByteArray := prog_1_method_36_code
def yX1_allTrees : MethodName := ⟨RX1, "allTrees", "()I"⟩
abbrev cX1_allTired : ByteArray := prog_1_method_37_code
def yX1_allTired : MethodName := ⟨RX1, "allTired", "()I"⟩
abbrev cX1_applesInBarn : ByteArray := prog_1_method_38_code
def yX1_applesInBarn : MethodName := ⟨RX1, "applesInBarn", "()I"⟩
abbrev cX1_weightInBarn : ByteArray := prog_1_method_39_code
def yX1_weightInBarn : MethodName := ⟨RX1, "weightInBarn", "()I"⟩
abbrev cX1_unlikePairs : ByteArray := prog_1_method_40_code
def yX1_unlikePairs : MethodName := ⟨RX1, "unlikePairs", "()I"⟩
abbrev cX1_balancedApples : ByteArray := prog_1_method_41_code
def yX1_balancedApples : MethodName := ⟨RX1, "balancedApples", "(I)I"⟩
abbrev cX1_heaviestUpTo : ByteArray := prog_1_method_42_code
def yX1_heaviestUpTo : MethodName := ⟨RX1, "heaviestUpTo", "(I)I"⟩
abbrev cX1_reachWithSort : ByteArray := prog_1_method_43_code
def yX1_reachWithSort : MethodName := ⟨RX1, "reachWithSort", "(II)V"⟩
abbrev cX1_lookAt : ByteArray := prog_1_method_44_code
def yX1_lookAt : MethodName := ⟨RX1, "lookAt", "(I)V"⟩
abbrev cX1_keepLooked : ByteArray := prog_1_method_45_code
def yX1_keepLooked : MethodName := ⟨RX1, "keepLooked", "(I)V"⟩
abbrev cX1_applesNow : ByteArray := prog_1_method_46_code
def yX1_applesNow : MethodName := ⟨RX1, "applesNow", "(I)I"⟩
abbrev cX1_liveLooked : ByteArray := prog_1_method_47_code
def yX1_liveLooked : MethodName := ⟨RX1, "liveLooked", "(I)I"⟩
abbrev cX1_passAt : ByteArray := prog_1_method_48_code
def yX1_passAt : MethodName := ⟨RX1, "passAt", "(II)I"⟩
abbrev cX1_gainOfPruning : ByteArray := prog_1_method_49_code
def yX1_gainOfPruning : MethodName := ⟨RX1, "gainOfPruning", "(III)I"⟩
def RX2 : String := "TwinOrchardModel"
def TX2 : u_T := fun k => match k with
  | 0 => ("TwinOrchardModel", "thrown", "I", false)
  | 1 => ("TwinOrchardModel", "weights", "[I", true)
  | 2 => ("TwinOrchardModel", "bears", "[I", true)
  | 3 => ("TwinOrchardModel", "frosts", "[I", true)
  | 4 => ("TwinOrchardModel", "trees", "[I", true)
  | 5 => ("TwinOrchardModel", "barn", "[I", true)
  | 6 => ("TwinOrchardModel", "numbers", "[I", true)
  | _ => ("TwinOrchardModel", "tilt", "I", false)
def tyX2 : Nat → FieldType := fun k => match k with
  | 0 => .int
  | 1 => .array .int
  | 2 => .array .int
  | 3 => .array .int
  | 4 => .array .int
  | 5 => .array .int
  | 6 => .array .int
  | _ => .int
abbrev wsX20 : List Cond := u_ws RX2 TX2 8
theorem nmX2 : ∀ a, a < 8 → ∀ b, b < 8 → a ≠ b → (TX2 a).2.1 ≠ (TX2 b).2.1 := by decide +kernel
theorem tyX2_ok : ∀ k, k < 8 → parseFieldDescriptor (TX2 k).2.2.1 = some (tyX2 k) := by decide +kernel
abbrev cX2_init : ByteArray := prog_4_method_1_code
def yX2_init : MethodName := ⟨RX2, "<init>", "()V"⟩
abbrev cX2_thrown : ByteArray := prog_4_method_2_code
def yX2_thrown : MethodName := ⟨RX2, "thrown", "()I"⟩
abbrev cX2_fail : ByteArray := prog_4_method_3_code
def yX2_fail : MethodName := ⟨RX2, "fail", "(I)I"⟩
abbrev cX2_isIn : ByteArray := prog_4_method_4_code
def yX2_isIn : MethodName := ⟨RX2, "isIn", "(III)Z"⟩
abbrev cX2_isSpot : ByteArray := prog_4_method_5_code
def yX2_isSpot : MethodName := ⟨RX2, "isSpot", "(II)Z"⟩
abbrev cX2_isSort : ByteArray := prog_4_method_6_code
def yX2_isSort : MethodName := ⟨RX2, "isSort", "(I)Z"⟩
abbrev cX2_tr : ByteArray := prog_4_method_7_code
def yX2_tr : MethodName := ⟨RX2, "tr", "(II)I"⟩
abbrev cX2_set : ByteArray := prog_4_method_8_code
def yX2_set : MethodName := ⟨RX2, "set", "(III)V"⟩
abbrev cX2_setSort : ByteArray := prog_4_method_9_code
def yX2_setSort : MethodName := ⟨RX2, "setSort", "(III)I"⟩
abbrev cX2_setFrost : ByteArray := prog_4_method_10_code
def yX2_setFrost : MethodName := ⟨RX2, "setFrost", "(II)I"⟩
abbrev cX2_can : ByteArray := prog_4_method_11_code
def yX2_can : MethodName := ⟨RX2, "can", "(III)Z"⟩
abbrev cX2_change : ByteArray := prog_4_method_12_code
def yX2_change : MethodName := ⟨RX2, "change", "(IIII)V"⟩
abbrev cX2_does : ByteArray := prog_4_method_13_code
def yX2_does : MethodName := ⟨RX2, "does", "(IIIII)Z"⟩
abbrev cX2_both : ByteArray := prog_4_method_14_code
def yX2_both : MethodName := ⟨RX2, "both", "(IIIII)I"⟩
abbrev cX2_plant : ByteArray := prog_4_method_15_code
def yX2_plant : MethodName := ⟨RX2, "plant", "(IIII)I"⟩
abbrev cX2_prune : ByteArray := prog_4_method_16_code
def yX2_prune : MethodName := ⟨RX2, "prune", "(III)I"⟩
abbrev cX2_graft : ByteArray := prog_4_method_17_code
def yX2_graft : MethodName := ⟨RX2, "graft", "(III)I"⟩
abbrev cX2_fell : ByteArray := prog_4_method_18_code
def yX2_fell : MethodName := ⟨RX2, "fell", "(II)I"⟩
abbrev cX2_apples : ByteArray := prog_4_method_19_code
def yX2_apples : MethodName := ⟨RX2, "apples", "(I)I"⟩
abbrev cX2_treeTold : ByteArray := prog_4_method_20_code
def yX2_treeTold : MethodName := ⟨RX2, "treeTold", "(II)I"⟩
abbrev cX2_tree : ByteArray := prog_4_method_21_code
def yX2_tree : MethodName := ⟨RX2, "tree", "(III)I"⟩
abbrev cX2_sortTold : ByteArray := prog_4_method_22_code
def yX2_sortTold : MethodName := ⟨RX2, "sortTold", "(II)I"⟩
abbrev cX2_sort : ByteArray := prog_4_method_23_code
def yX2_sort : MethodName := ⟨RX2, "sort", "(II)I"⟩
abbrev cX2_all : ByteArray := prog_4_method_24_code
def yX2_all : MethodName := ⟨RX2, "all", "(I)I"⟩
abbrev cX2_counted : ByteArray := prog_4_method_25_code
def yX2_counted : MethodName := ⟨RX2, "counted", "(I)I"⟩
abbrev cX2_count : ByteArray := prog_4_method_26_code
def yX2_count : MethodName := ⟨RX2, "count", "(I)I"⟩
abbrev cX2_leans : ByteArray := prog_4_method_27_code
def yX2_leans : MethodName := ⟨RX2, "leans", "(I)I"⟩
abbrev cX2_carry : ByteArray := prog_4_method_28_code
def yX2_carry : MethodName := ⟨RX2, "carry", "(III)I"⟩
abbrev cX2_tilt : ByteArray := prog_4_method_29_code
def yX2_tilt : MethodName := ⟨RX2, "tilt", "()I"⟩
abbrev cX2_balance : ByteArray := prog_4_method_30_code
def yX2_balance : MethodName := ⟨RX2, "balance", "()I"⟩
abbrev cX2_yearOn : ByteArray := prog_4_method_31_code
def yX2_yearOn : MethodName := ⟨RX2, "yearOn", "()I"⟩
abbrev cX2_yearsOn : ByteArray := prog_4_method_32_code
def yX2_yearsOn : MethodName := ⟨RX2, "yearsOn", "(I)I"⟩
abbrev cX2_pass : ByteArray := prog_4_method_33_code
def yX2_pass : MethodName := ⟨RX2, "pass", "(I)I"⟩
abbrev cX2_kept : ByteArray := prog_4_method_34_code
def yX2_kept : MethodName := ⟨RX2, "kept", "()[[I"⟩
abbrev cX2_bringBack : ByteArray := prog_4_method_35_code
def yX2_bringBack : MethodName := ⟨RX2, "bringBack", "([[I)V"⟩
abbrev cX2_foresee : ByteArray := prog_4_method_36_code
def yX2_foresee : MethodName := ⟨RX2, "foresee", "(II)I"⟩
abbrev cX2_advise : ByteArray := prog_4_method_37_code
def yX2_advise : MethodName := ⟨RX2, "advise", "(I)I"⟩
abbrev cX2_mean : ByteArray := prog_4_method_38_code
def yX2_mean : MethodName := ⟨RX2, "mean", "()D"⟩
abbrev cX2_digest : ByteArray := prog_4_method_39_code
def yX2_digest : MethodName := ⟨RX2, "digest", "()J"⟩
def RJx145de : String := "java/io/Serializable"
def TJx145de : u_T := fun k => match k with
  | _ => ("", "", "", false)
def tyJx145de : Nat → FieldType := fun k => match k with
  | _ => .int
abbrev wsJx145de0 : List Cond := u_ws RJx145de TJx145de 0
theorem nmJx145de : ∀ a, a < 0 → ∀ b, b < 0 → a ≠ b → (TJx145de a).2.1 ≠ (TJx145de b).2.1 := by decide +kernel
theorem tyJx145de_ok : ∀ k, k < 0 → parseFieldDescriptor (TJx145de k).2.2.1 = some (tyJx145de k) := by decide +kernel
def RJx8e188 : String := "java/lang/Cloneable"
def TJx8e188 : u_T := fun k => match k with
  | _ => ("", "", "", false)
def tyJx8e188 : Nat → FieldType := fun k => match k with
  | _ => .int
abbrev wsJx8e1880 : List Cond := u_ws RJx8e188 TJx8e188 0
theorem nmJx8e188 : ∀ a, a < 0 → ∀ b, b < 0 → a ≠ b → (TJx8e188 a).2.1 ≠ (TJx8e188 b).2.1 := by decide +kernel
theorem tyJx8e188_ok : ∀ k, k < 0 → parseFieldDescriptor (TJx8e188 k).2.2.1 = some (tyJx8e188 k) := by decide +kernel
def RJ9 : String := "java/lang/Math"
def TJ9 : u_T := fun k => match k with
  | _ => ("", "", "", false)
def tyJ9 : Nat → FieldType := fun k => match k with
  | _ => .int
abbrev wsJ90 : List Cond := u_ws RJ9 TJ9 0
theorem nmJ9 : ∀ a, a < 0 → ∀ b, b < 0 → a ≠ b → (TJ9 a).2.1 ≠ (TJ9 b).2.1 := by decide +kernel
theorem tyJ9_ok : ∀ k, k < 0 → parseFieldDescriptor (TJ9 k).2.2.1 = some (tyJ9 k) := by decide +kernel
abbrev cJ9_floorMod_7cf53 : ByteArray := prog_10_method_50_code
def yJ9_floorMod_7cf53 : MethodName := ⟨RJ9, "floorMod", "(II)I"⟩
abbrev cJ9_max_7cf53 : ByteArray := prog_10_method_65_code
def yJ9_max_7cf53 : MethodName := ⟨RJ9, "max", "(II)I"⟩
abbrev cJ9_min_7cf53 : ByteArray := prog_10_method_69_code
def yJ9_min_7cf53 : MethodName := ⟨RJ9, "min", "(II)I"⟩
def RJ0 : String := "java/lang/String"
def TJ0 : u_T := fun k => match k with
  | _ => ("", "", "", false)
def tyJ0 : Nat → FieldType := fun k => match k with
  | _ => .int
abbrev wsJ00 : List Cond := u_ws RJ0 TJ0 0
theorem nmJ0 : ∀ a, a < 0 → ∀ b, b < 0 → a ≠ b → (TJ0 a).2.1 ≠ (TJ0 b).2.1 := by decide +kernel
theorem tyJ0_ok : ∀ k, k < 0 → parseFieldDescriptor (TJ0 k).2.2.1 = some (tyJ0 k) := by decide +kernel
def RJ10 : String := "java/lang/System"
def TJ10 : u_T := fun k => match k with
  | _ => ("", "", "", false)
def tyJ10 : Nat → FieldType := fun k => match k with
  | _ => .int
abbrev wsJ100 : List Cond := u_ws RJ10 TJ10 0
theorem nmJ10 : ∀ a, a < 0 → ∀ b, b < 0 → a ≠ b → (TJ10 a).2.1 ≠ (TJ10 b).2.1 := by decide +kernel
theorem tyJ10_ok : ∀ k, k < 0 → parseFieldDescriptor (TJ10 k).2.2.1 = some (tyJ10 k) := by decide +kernel
def RJ7 : String := "java/util/Arrays"
def TJ7 : u_T := fun k => match k with
  | _ => ("", "", "", false)
def tyJ7 : Nat → FieldType := fun k => match k with
  | _ => .int
abbrev wsJ70 : List Cond := u_ws RJ7 TJ7 0
theorem nmJ7 : ∀ a, a < 0 → ∀ b, b < 0 → a ≠ b → (TJ7 a).2.1 ≠ (TJ7 b).2.1 := by decide +kernel
theorem tyJ7_ok : ∀ k, k < 0 → parseFieldDescriptor (TJ7 k).2.2.1 = some (tyJ7 k) := by decide +kernel
abbrev cJ7_fill_53178 : ByteArray := prog_15_method_103_code
def yJ7_fill_53178 : MethodName := ⟨RJ7, "fill", "([II)V"⟩
def RL : String := "TwinOrchardLaw"
abbrev cL_setSort : ByteArray := method_3_code
def yL_setSort : MethodName := ⟨RL, "setSort", "(LTwinOrchard;III[J)I"⟩
abbrev cL_setFrost : ByteArray := method_4_code
def yL_setFrost : MethodName := ⟨RL, "setFrost", "(LTwinOrchard;II[J)I"⟩
abbrev cL_plant : ByteArray := method_5_code
def yL_plant : MethodName := ⟨RL, "plant", "(LTwinOrchard;IIII[J)I"⟩
abbrev cL_prune : ByteArray := method_6_code
def yL_prune : MethodName := ⟨RL, "prune", "(LTwinOrchard;III[J)I"⟩
abbrev cL_graft : ByteArray := method_7_code
def yL_graft : MethodName := ⟨RL, "graft", "(LTwinOrchard;III[J)I"⟩
abbrev cL_fell : ByteArray := method_8_code
def yL_fell : MethodName := ⟨RL, "fell", "(LTwinOrchard;II[J)I"⟩
abbrev cL_tree : ByteArray := method_9_code
def yL_tree : MethodName := ⟨RL, "tree", "(LTwinOrchard;III[J)I"⟩
abbrev cL_sort : ByteArray := method_10_code
def yL_sort : MethodName := ⟨RL, "sort", "(LTwinOrchard;II[J)I"⟩
abbrev cL_count : ByteArray := method_11_code
def yL_count : MethodName := ⟨RL, "count", "(LTwinOrchard;I[J)I"⟩
abbrev cL_leans : ByteArray := method_12_code
def yL_leans : MethodName := ⟨RL, "leans", "(LTwinOrchard;I[J)I"⟩
abbrev cL_carry : ByteArray := method_13_code
def yL_carry : MethodName := ⟨RL, "carry", "(LTwinOrchard;III[J)I"⟩
abbrev cL_pass : ByteArray := method_14_code
def yL_pass : MethodName := ⟨RL, "pass", "(LTwinOrchard;I[J)I"⟩
abbrev cL_foresee : ByteArray := method_15_code
def yL_foresee : MethodName := ⟨RL, "foresee", "(LTwinOrchard;II[J)I"⟩
abbrev cL_advise : ByteArray := method_16_code
def yL_advise : MethodName := ⟨RL, "advise", "(LTwinOrchard;I[J)I"⟩
abbrev cL_law : ByteArray := code
def yL_law : MethodName := ⟨RL, "law", "([I)Z"⟩
def wsX0_init : List Cond := .code yX0_init cX0_init 1 none :: ([.methodLink RX0 3 objectInit, .instanceMethod objectInit, .code objectInit ⟨#[0xb1]⟩ 1 none])
def wsX0_shorten : List Cond := .code yX0_shorten cX0_shorten 2 none :: ([.fieldLink RX0 9 "TwinOrchard$Tree" "branches" "I", .fieldLink RX0 15 "TwinOrchard$Tree" "tired" "Z"] ++ wsX00)
def wsX0_apples : List Cond := .code yX0_apples cX0_apples 2 (some .int) :: ([.fieldLink RX0 9 "TwinOrchard$Tree" "branches" "I", .fieldLink RX0 19 "TwinOrchard$Tree" "vigour" "I", .fieldLink RX0 15 "TwinOrchard$Tree" "tired" "Z"] ++ wsX00)
def wsX0_freeze : List Cond := .code yX0_freeze cX0_freeze 3 none :: ([.fieldLink RX0 33 "TwinOrchard$Tree" "hardiness" "I", .methodLink RX0 36 Lib.Math.max.name, .static Lib.Math.max.name, .initialized "java/lang/Math", .code Lib.Math.max.name Lib.Math.max.code 2 (some .int), .fieldLink RX0 9 "TwinOrchard$Tree" "branches" "I"] ++ wsX00)
def wsX0_grow : List Cond := .code yX0_grow cX0_grow 2 none :: ([.fieldLink RX0 19 "TwinOrchard$Tree" "vigour" "I", .fieldLink RX0 9 "TwinOrchard$Tree" "branches" "I", .methodLink RX0 42 Lib.Math.min.name, .static Lib.Math.min.name, .initialized "java/lang/Math", .code Lib.Math.min.name Lib.Math.min.code 2 (some .int)] ++ wsX00)
def wsX0_liveYear : List Cond := .code yX0_liveYear cX0_liveYear 3 (some .int) :: ([.fieldLink RX0 15 "TwinOrchard$Tree" "tired" "Z", .methodLink RX0 22 yX0_freeze, .instanceMethod yX0_freeze, .selects RX0 yX0_freeze yX0_freeze, .initialized RX0, .code yX0_freeze cX0_freeze 3 none, .fieldLink RX0 33 "TwinOrchard$Tree" "hardiness" "I", .methodLink RX0 36 Lib.Math.max.name, .static Lib.Math.max.name, .initialized "java/lang/Math", .code Lib.Math.max.name Lib.Math.max.code 2 (some .int), .fieldLink RX0 9 "TwinOrchard$Tree" "branches" "I", .methodLink RX0 26 yX0_apples, .instanceMethod yX0_apples, .selects RX0 yX0_apples yX0_apples, .code yX0_apples cX0_apples 2 (some .int), .fieldLink RX0 19 "TwinOrchard$Tree" "vigour" "I", .methodLink RX0 30 yX0_grow, .instanceMethod yX0_grow, .selects RX0 yX0_grow yX0_grow, .code yX0_grow cX0_grow 2 none, .methodLink RX0 42 Lib.Math.min.name, .static Lib.Math.min.name, .code Lib.Math.min.name Lib.Math.min.code 2 (some .int)] ++ wsX00)
def wsJ7_fill_53178 : List Cond := .code yJ7_fill_53178 cJ7_fill_53178 4 none :: ([])
def wsX1_init_r1 : List Cond := [Cond.methodLink RX1 1 objectInit, Cond.instanceMethod objectInit, Cond.code objectInit ⟨#[0xb1]⟩ 1 none, Cond.arrayClass .int, Cond.fieldLink RX1 9 "TwinOrchard" "weights" "[I", Cond.fieldLink RX1 13 "TwinOrchard" "hardiness" "[I", Cond.fieldLink RX1 16 "TwinOrchard" "barn" "[I", Cond.fieldLink RX1 19 "TwinOrchard" "frosts" "[I", Cond.fieldLink RX1 22 "TwinOrchard" "kinds" "[I", Cond.fieldLink RX1 25 "TwinOrchard" "branches" "[I", Cond.fieldLink RX1 28 "TwinOrchard" "vigours" "[I", Cond.arrayClass .boolean, Cond.fieldLink RX1 31 "TwinOrchard" "tired" "[Z", Cond.fieldLink RX1 35 "TwinOrchard" "strength" "[I", Cond.fieldLink RX1 38 "TwinOrchard" "year" "I", Cond.fieldLink RX1 42 "TwinOrchard" "carriedLeftMore" "I", Cond.classLink RX1 45 RX0, Cond.instantiable RX0 4, Cond.initialized RX0, Cond.fieldLink RX1 48 "TwinOrchard" "looked" "LTwinOrchard$Tree;", Cond.fieldLink RX1 52 "TwinOrchard" "fewest" "[I", Cond.instanceMethod yX0_init, Cond.code yX0_init cX0_init 1 none, Cond.methodLink RX0 3 objectInit]
def wsX1_init_r2 : List Cond := [Cond.methodLink RX1 55 yJ7_fill_53178, Cond.static yJ7_fill_53178, Cond.initialized RJ7, Cond.code yJ7_fill_53178 cJ7_fill_53178 4 none]
def wsX1_init : List Cond := .code yX1_init cX1_init 1 none :: ((wsX1_init_r1 ++ wsX1_init_r2) ++ wsX10 ++ wsX00)
def wsX1_isWithin : List Cond := .code yX1_isWithin cX1_isWithin 3 (some .boolean) :: ([])
def wsX1_isSort : List Cond := .code yX1_isSort cX1_isSort 1 (some .boolean) :: ([.methodLink RX1 72 yX1_isWithin, .static yX1_isWithin, .initialized RX1, .code yX1_isWithin cX1_isWithin 3 (some .boolean)])
def wsX1_setSort : List Cond := .code yX1_setSort cX1_setSort 5 (some .int) :: ([.classLink RX1 65 "java/lang/IndexOutOfBoundsException", .initialized "java/lang/IndexOutOfBoundsException", .classLink RX1 76 "java/lang/IllegalArgumentException", .initialized "java/lang/IllegalArgumentException", .fieldLink RX1 9 "TwinOrchard" "weights" "[I", .fieldLink RX1 13 "TwinOrchard" "hardiness" "[I", .methodLink RX1 61 yX1_isSort, .static yX1_isSort, .initialized RX1, .code yX1_isSort cX1_isSort 1 (some .boolean), .methodLink RX1 72 yX1_isWithin, .static yX1_isWithin, .code yX1_isWithin cX1_isWithin 3 (some .boolean)] ++ wsX10 ++ (vx_atS RX1 69 "java/lang/IndexOutOfBoundsException" ["java/lang/RuntimeException", "java/lang/Exception"]).filter goodWord ++ (vx_atS RX1 80 "java/lang/IllegalArgumentException" ["java/lang/RuntimeException", "java/lang/Exception"]).filter goodWord)
def wsX1_setFrost : List Cond := .code yX1_setFrost cX1_setFrost 4 (some .int) :: ([.classLink RX1 65 "java/lang/IndexOutOfBoundsException", .initialized "java/lang/IndexOutOfBoundsException", .classLink RX1 76 "java/lang/IllegalArgumentException", .initialized "java/lang/IllegalArgumentException", .fieldLink RX1 19 "TwinOrchard" "frosts" "[I", .methodLink RX1 72 yX1_isWithin, .static yX1_isWithin, .initialized RX1, .code yX1_isWithin cX1_isWithin 3 (some .boolean)] ++ wsX10 ++ (vx_atS RX1 69 "java/lang/IndexOutOfBoundsException" ["java/lang/RuntimeException", "java/lang/Exception"]).filter goodWord ++ (vx_atS RX1 80 "java/lang/IllegalArgumentException" ["java/lang/RuntimeException", "java/lang/Exception"]).filter goodWord)
def wsX1_isPlace : List Cond := .code yX1_isPlace cX1_isPlace 2 (some .boolean) :: ([.methodLink RX1 72 yX1_isWithin, .static yX1_isWithin, .initialized RX1, .code yX1_isWithin cX1_isWithin 3 (some .boolean)])
def wsX1_spotOf : List Cond := .code yX1_spotOf cX1_spotOf 2 (some .int) :: ([])
def wsX1_hasTree : List Cond := .code yX1_hasTree cX1_hasTree 2 (some .boolean) :: ([.fieldLink RX1 22 "TwinOrchard" "kinds" "[I"] ++ wsX10)
def wsX1_twinOf : List Cond := .code yX1_twinOf cX1_twinOf 1 (some .int) :: ([])
def wsX1_canPay : List Cond := .code yX1_canPay cX1_canPay 3 (some .boolean) :: ([.fieldLink RX1 35 "TwinOrchard" "strength" "[I", .methodLink RX1 202 yX1_twinOf, .static yX1_twinOf, .initialized RX1, .code yX1_twinOf cX1_twinOf 1 (some .int)] ++ wsX10)
def wsX1_pay : List Cond := .code yX1_pay cX1_pay 3 none :: ([.fieldLink RX1 35 "TwinOrchard" "strength" "[I", .methodLink RX1 202 yX1_twinOf, .static yX1_twinOf, .initialized RX1, .code yX1_twinOf cX1_twinOf 1 (some .int)] ++ wsX10)
def wsX1_plantAt : List Cond := .code yX1_plantAt cX1_plantAt 4 (some .boolean) :: ([.fieldLink RX1 22 "TwinOrchard" "kinds" "[I", .fieldLink RX1 25 "TwinOrchard" "branches" "[I", .fieldLink RX1 28 "TwinOrchard" "vigours" "[I", .fieldLink RX1 31 "TwinOrchard" "tired" "[Z", .methodLink RX1 121 yX1_hasTree, .instanceMethod yX1_hasTree, .selects RX1 yX1_hasTree yX1_hasTree, .initialized RX1, .code yX1_hasTree cX1_hasTree 2 (some .boolean), .methodLink RX1 205 yX1_canPay, .instanceMethod yX1_canPay, .selects RX1 yX1_canPay yX1_canPay, .code yX1_canPay cX1_canPay 3 (some .boolean), .fieldLink RX1 35 "TwinOrchard" "strength" "[I", .methodLink RX1 202 yX1_twinOf, .static yX1_twinOf, .code yX1_twinOf cX1_twinOf 1 (some .int), .methodLink RX1 208 yX1_pay, .instanceMethod yX1_pay, .selects RX1 yX1_pay yX1_pay, .code yX1_pay cX1_pay 3 none] ++ wsX10)
def wsX1_mirrorOf : List Cond := .code yX1_mirrorOf cX1_mirrorOf 2 (some .int) :: ([])
def wsX1_whoDidIt : List Cond := .code yX1_whoDidIt cX1_whoDidIt 2 (some .int) :: ([])
def wsX1_plant_r1 : List Cond := [Cond.classLink RX1 65 "java/lang/IndexOutOfBoundsException", Cond.initialized "java/lang/IndexOutOfBoundsException", Cond.classLink RX1 76 "java/lang/IllegalArgumentException", Cond.initialized "java/lang/IllegalArgumentException", Cond.methodLink RX1 85 yX1_isPlace, Cond.static yX1_isPlace, Cond.initialized RX1, Cond.code yX1_isPlace cX1_isPlace 2 (some .boolean), Cond.methodLink RX1 72 yX1_isWithin, Cond.static yX1_isWithin, Cond.code yX1_isWithin cX1_isWithin 3 (some .boolean), Cond.methodLink RX1 61 yX1_isSort, Cond.static yX1_isSort, Cond.code yX1_isSort cX1_isSort 1 (some .boolean), Cond.methodLink RX1 93 yX1_spotOf, Cond.static yX1_spotOf, Cond.code yX1_spotOf cX1_spotOf 2 (some .int), Cond.methodLink RX1 97 yX1_plantAt, Cond.instanceMethod yX1_plantAt, Cond.selects RX1 yX1_plantAt yX1_plantAt, Cond.code yX1_plantAt cX1_plantAt 4 (some .boolean), Cond.fieldLink RX1 22 "TwinOrchard" "kinds" "[I", Cond.fieldLink RX1 25 "TwinOrchard" "branches" "[I", Cond.fieldLink RX1 28 "TwinOrchard" "vigours" "[I"]
def wsX1_plant_r2 : List Cond := [Cond.fieldLink RX1 31 "TwinOrchard" "tired" "[Z", Cond.methodLink RX1 121 yX1_hasTree, Cond.instanceMethod yX1_hasTree, Cond.selects RX1 yX1_hasTree yX1_hasTree, Cond.code yX1_hasTree cX1_hasTree 2 (some .boolean), Cond.methodLink RX1 205 yX1_canPay, Cond.instanceMethod yX1_canPay, Cond.selects RX1 yX1_canPay yX1_canPay, Cond.code yX1_canPay cX1_canPay 3 (some .boolean), Cond.fieldLink RX1 35 "TwinOrchard" "strength" "[I", Cond.methodLink RX1 202 yX1_twinOf, Cond.static yX1_twinOf, Cond.code yX1_twinOf cX1_twinOf 1 (some .int), Cond.methodLink RX1 208 yX1_pay, Cond.instanceMethod yX1_pay, Cond.selects RX1 yX1_pay yX1_pay, Cond.code yX1_pay cX1_pay 3 none, Cond.methodLink RX1 100 yX1_mirrorOf, Cond.static yX1_mirrorOf, Cond.code yX1_mirrorOf cX1_mirrorOf 2 (some .int), Cond.methodLink RX1 104 yX1_whoDidIt, Cond.static yX1_whoDidIt, Cond.code yX1_whoDidIt cX1_whoDidIt 2 (some .int)]
def wsX1_plant : List Cond := .code yX1_plant cX1_plant 8 (some .int) :: ((wsX1_plant_r1 ++ wsX1_plant_r2) ++ wsX10 ++ (vx_atS RX1 69 "java/lang/IndexOutOfBoundsException" ["java/lang/RuntimeException", "java/lang/Exception"]).filter goodWord ++ (vx_atS RX1 80 "java/lang/IllegalArgumentException" ["java/lang/RuntimeException", "java/lang/Exception"]).filter goodWord)
def wsX1_canPrune : List Cond := .code yX1_canPrune cX1_canPrune 3 (some .boolean) :: ([.fieldLink RX1 25 "TwinOrchard" "branches" "[I", .methodLink RX1 121 yX1_hasTree, .instanceMethod yX1_hasTree, .selects RX1 yX1_hasTree yX1_hasTree, .initialized RX1, .code yX1_hasTree cX1_hasTree 2 (some .boolean), .fieldLink RX1 22 "TwinOrchard" "kinds" "[I", .methodLink RX1 205 yX1_canPay, .instanceMethod yX1_canPay, .selects RX1 yX1_canPay yX1_canPay, .code yX1_canPay cX1_canPay 3 (some .boolean), .fieldLink RX1 35 "TwinOrchard" "strength" "[I", .methodLink RX1 202 yX1_twinOf, .static yX1_twinOf, .code yX1_twinOf cX1_twinOf 1 (some .int)] ++ wsX10)
def wsX1_lookAt : List Cond := .code yX1_lookAt cX1_lookAt 2 none :: ([.fieldLink RX1 48 "TwinOrchard" "looked" "LTwinOrchard$Tree;", .fieldLink RX1 28 "TwinOrchard" "vigours" "[I", .fieldLink RX1 25 "TwinOrchard" "branches" "[I", .fieldLink RX1 31 "TwinOrchard" "tired" "[Z", .fieldLink RX1 13 "TwinOrchard" "hardiness" "[I", .fieldLink RX1 22 "TwinOrchard" "kinds" "[I", .methodLink RX1 121 yX1_hasTree, .instanceMethod yX1_hasTree, .selects RX1 yX1_hasTree yX1_hasTree, .initialized RX1, .code yX1_hasTree cX1_hasTree 2 (some .boolean)] ++ wsX10 ++ wsX00)
def wsX1_keepLooked : List Cond := .code yX1_keepLooked cX1_keepLooked 2 none :: ([.fieldLink RX1 25 "TwinOrchard" "branches" "[I", .fieldLink RX1 48 "TwinOrchard" "looked" "LTwinOrchard$Tree;", .fieldLink RX1 31 "TwinOrchard" "tired" "[Z"] ++ wsX10 ++ wsX00)
def wsX1_pruneAt_r1 : List Cond := [Cond.fieldLink RX1 48 "TwinOrchard" "looked" "LTwinOrchard$Tree;", Cond.methodLink RX1 212 yX1_canPrune, Cond.instanceMethod yX1_canPrune, Cond.selects RX1 yX1_canPrune yX1_canPrune, Cond.initialized RX1, Cond.code yX1_canPrune cX1_canPrune 3 (some .boolean), Cond.fieldLink RX1 25 "TwinOrchard" "branches" "[I", Cond.methodLink RX1 121 yX1_hasTree, Cond.instanceMethod yX1_hasTree, Cond.selects RX1 yX1_hasTree yX1_hasTree, Cond.code yX1_hasTree cX1_hasTree 2 (some .boolean), Cond.fieldLink RX1 22 "TwinOrchard" "kinds" "[I", Cond.methodLink RX1 205 yX1_canPay, Cond.instanceMethod yX1_canPay, Cond.selects RX1 yX1_canPay yX1_canPay, Cond.code yX1_canPay cX1_canPay 3 (some .boolean), Cond.fieldLink RX1 35 "TwinOrchard" "strength" "[I", Cond.methodLink RX1 202 yX1_twinOf, Cond.static yX1_twinOf, Cond.code yX1_twinOf cX1_twinOf 1 (some .int), Cond.methodLink RX1 208 yX1_pay, Cond.instanceMethod yX1_pay, Cond.selects RX1 yX1_pay yX1_pay, Cond.code yX1_pay cX1_pay 3 none]
def wsX1_pruneAt_r2 : List Cond := [Cond.methodLink RX1 170 yX1_lookAt, Cond.instanceMethod yX1_lookAt, Cond.selects RX1 yX1_lookAt yX1_lookAt, Cond.code yX1_lookAt cX1_lookAt 2 none, Cond.fieldLink RX1 28 "TwinOrchard" "vigours" "[I", Cond.fieldLink RX1 31 "TwinOrchard" "tired" "[Z", Cond.fieldLink RX1 13 "TwinOrchard" "hardiness" "[I", Cond.instanceMethod yX0_shorten, Cond.initialized RX0, Cond.selects RX0 yX0_shorten yX0_shorten, Cond.code yX0_shorten cX0_shorten 2 none, Cond.fieldLink RX0 9 "TwinOrchard$Tree" "branches" "I", Cond.fieldLink RX0 15 "TwinOrchard$Tree" "tired" "Z", Cond.methodLink RX1 218 yX1_keepLooked, Cond.instanceMethod yX1_keepLooked, Cond.selects RX1 yX1_keepLooked yX1_keepLooked, Cond.code yX1_keepLooked cX1_keepLooked 2 none]
def wsX1_pruneAt : List Cond := .code yX1_pruneAt cX1_pruneAt 3 (some .boolean) :: ((wsX1_pruneAt_r1 ++ wsX1_pruneAt_r2) ++ wsX10 ++ wsX00)
def wsX1_prune_r1 : List Cond := [Cond.classLink RX1 65 "java/lang/IndexOutOfBoundsException", Cond.initialized "java/lang/IndexOutOfBoundsException", Cond.classLink RX1 76 "java/lang/IllegalArgumentException", Cond.initialized "java/lang/IllegalArgumentException", Cond.methodLink RX1 85 yX1_isPlace, Cond.static yX1_isPlace, Cond.initialized RX1, Cond.code yX1_isPlace cX1_isPlace 2 (some .boolean), Cond.methodLink RX1 72 yX1_isWithin, Cond.static yX1_isWithin, Cond.code yX1_isWithin cX1_isWithin 3 (some .boolean), Cond.methodLink RX1 93 yX1_spotOf, Cond.static yX1_spotOf, Cond.code yX1_spotOf cX1_spotOf 2 (some .int), Cond.methodLink RX1 110 yX1_pruneAt, Cond.instanceMethod yX1_pruneAt, Cond.selects RX1 yX1_pruneAt yX1_pruneAt, Cond.code yX1_pruneAt cX1_pruneAt 3 (some .boolean), Cond.fieldLink RX1 48 "TwinOrchard" "looked" "LTwinOrchard$Tree;", Cond.methodLink RX1 212 yX1_canPrune, Cond.instanceMethod yX1_canPrune, Cond.selects RX1 yX1_canPrune yX1_canPrune, Cond.code yX1_canPrune cX1_canPrune 3 (some .boolean), Cond.fieldLink RX1 25 "TwinOrchard" "branches" "[I"]
def wsX1_prune_r2 : List Cond := [Cond.methodLink RX1 121 yX1_hasTree, Cond.instanceMethod yX1_hasTree, Cond.selects RX1 yX1_hasTree yX1_hasTree, Cond.code yX1_hasTree cX1_hasTree 2 (some .boolean), Cond.fieldLink RX1 22 "TwinOrchard" "kinds" "[I", Cond.methodLink RX1 205 yX1_canPay, Cond.instanceMethod yX1_canPay, Cond.selects RX1 yX1_canPay yX1_canPay, Cond.code yX1_canPay cX1_canPay 3 (some .boolean), Cond.fieldLink RX1 35 "TwinOrchard" "strength" "[I", Cond.methodLink RX1 202 yX1_twinOf, Cond.static yX1_twinOf, Cond.code yX1_twinOf cX1_twinOf 1 (some .int), Cond.methodLink RX1 208 yX1_pay, Cond.instanceMethod yX1_pay, Cond.selects RX1 yX1_pay yX1_pay, Cond.code yX1_pay cX1_pay 3 none, Cond.methodLink RX1 170 yX1_lookAt, Cond.instanceMethod yX1_lookAt, Cond.selects RX1 yX1_lookAt yX1_lookAt, Cond.code yX1_lookAt cX1_lookAt 2 none, Cond.fieldLink RX1 28 "TwinOrchard" "vigours" "[I", Cond.fieldLink RX1 31 "TwinOrchard" "tired" "[Z", Cond.fieldLink RX1 13 "TwinOrchard" "hardiness" "[I"]
def wsX1_prune_r3 : List Cond := [Cond.instanceMethod yX0_shorten, Cond.initialized RX0, Cond.selects RX0 yX0_shorten yX0_shorten, Cond.code yX0_shorten cX0_shorten 2 none, Cond.fieldLink RX0 9 "TwinOrchard$Tree" "branches" "I", Cond.fieldLink RX0 15 "TwinOrchard$Tree" "tired" "Z", Cond.methodLink RX1 218 yX1_keepLooked, Cond.instanceMethod yX1_keepLooked, Cond.selects RX1 yX1_keepLooked yX1_keepLooked, Cond.code yX1_keepLooked cX1_keepLooked 2 none, Cond.methodLink RX1 100 yX1_mirrorOf, Cond.static yX1_mirrorOf, Cond.code yX1_mirrorOf cX1_mirrorOf 2 (some .int), Cond.methodLink RX1 104 yX1_whoDidIt, Cond.static yX1_whoDidIt, Cond.code yX1_whoDidIt cX1_whoDidIt 2 (some .int)]
def wsX1_prune : List Cond := .code yX1_prune cX1_prune 7 (some .int) :: ((wsX1_prune_r1 ++ (wsX1_prune_r2 ++ wsX1_prune_r3)) ++ wsX10 ++ wsX00 ++ (vx_atS RX1 69 "java/lang/IndexOutOfBoundsException" ["java/lang/RuntimeException", "java/lang/Exception"]).filter goodWord ++ (vx_atS RX1 80 "java/lang/IllegalArgumentException" ["java/lang/RuntimeException", "java/lang/Exception"]).filter goodWord)
def wsX1_graftAt : List Cond := .code yX1_graftAt cX1_graftAt 3 (some .boolean) :: ([.fieldLink RX1 22 "TwinOrchard" "kinds" "[I", .fieldLink RX1 25 "TwinOrchard" "branches" "[I", .methodLink RX1 221 Lib.Math.max.name, .static Lib.Math.max.name, .initialized "java/lang/Math", .code Lib.Math.max.name Lib.Math.max.code 2 (some .int), .methodLink RX1 121 yX1_hasTree, .instanceMethod yX1_hasTree, .selects RX1 yX1_hasTree yX1_hasTree, .initialized RX1, .code yX1_hasTree cX1_hasTree 2 (some .boolean), .methodLink RX1 205 yX1_canPay, .instanceMethod yX1_canPay, .selects RX1 yX1_canPay yX1_canPay, .code yX1_canPay cX1_canPay 3 (some .boolean), .fieldLink RX1 35 "TwinOrchard" "strength" "[I", .methodLink RX1 202 yX1_twinOf, .static yX1_twinOf, .code yX1_twinOf cX1_twinOf 1 (some .int), .methodLink RX1 208 yX1_pay, .instanceMethod yX1_pay, .selects RX1 yX1_pay yX1_pay, .code yX1_pay cX1_pay 3 none] ++ wsX10)
def wsX1_graft_r1 : List Cond := [Cond.classLink RX1 65 "java/lang/IndexOutOfBoundsException", Cond.initialized "java/lang/IndexOutOfBoundsException", Cond.classLink RX1 76 "java/lang/IllegalArgumentException", Cond.initialized "java/lang/IllegalArgumentException", Cond.methodLink RX1 85 yX1_isPlace, Cond.static yX1_isPlace, Cond.initialized RX1, Cond.code yX1_isPlace cX1_isPlace 2 (some .boolean), Cond.methodLink RX1 72 yX1_isWithin, Cond.static yX1_isWithin, Cond.code yX1_isWithin cX1_isWithin 3 (some .boolean), Cond.methodLink RX1 61 yX1_isSort, Cond.static yX1_isSort, Cond.code yX1_isSort cX1_isSort 1 (some .boolean), Cond.methodLink RX1 93 yX1_spotOf, Cond.static yX1_spotOf, Cond.code yX1_spotOf cX1_spotOf 2 (some .int), Cond.methodLink RX1 113 yX1_graftAt, Cond.instanceMethod yX1_graftAt, Cond.selects RX1 yX1_graftAt yX1_graftAt, Cond.code yX1_graftAt cX1_graftAt 3 (some .boolean), Cond.fieldLink RX1 22 "TwinOrchard" "kinds" "[I", Cond.fieldLink RX1 25 "TwinOrchard" "branches" "[I", Cond.methodLink RX1 221 Lib.Math.max.name]
def wsX1_graft_r2 : List Cond := [Cond.static Lib.Math.max.name, Cond.initialized "java/lang/Math", Cond.code Lib.Math.max.name Lib.Math.max.code 2 (some .int), Cond.methodLink RX1 121 yX1_hasTree, Cond.instanceMethod yX1_hasTree, Cond.selects RX1 yX1_hasTree yX1_hasTree, Cond.code yX1_hasTree cX1_hasTree 2 (some .boolean), Cond.methodLink RX1 205 yX1_canPay, Cond.instanceMethod yX1_canPay, Cond.selects RX1 yX1_canPay yX1_canPay, Cond.code yX1_canPay cX1_canPay 3 (some .boolean), Cond.fieldLink RX1 35 "TwinOrchard" "strength" "[I", Cond.methodLink RX1 202 yX1_twinOf, Cond.static yX1_twinOf, Cond.code yX1_twinOf cX1_twinOf 1 (some .int), Cond.methodLink RX1 208 yX1_pay, Cond.instanceMethod yX1_pay, Cond.selects RX1 yX1_pay yX1_pay, Cond.code yX1_pay cX1_pay 3 none, Cond.methodLink RX1 100 yX1_mirrorOf, Cond.static yX1_mirrorOf, Cond.code yX1_mirrorOf cX1_mirrorOf 2 (some .int), Cond.methodLink RX1 104 yX1_whoDidIt, Cond.static yX1_whoDidIt]
def wsX1_graft_r3 : List Cond := [Cond.code yX1_whoDidIt cX1_whoDidIt 2 (some .int)]
def wsX1_graft : List Cond := .code yX1_graft cX1_graft 7 (some .int) :: ((wsX1_graft_r1 ++ (wsX1_graft_r2 ++ wsX1_graft_r3)) ++ wsX10 ++ (vx_atS RX1 69 "java/lang/IndexOutOfBoundsException" ["java/lang/RuntimeException", "java/lang/Exception"]).filter goodWord ++ (vx_atS RX1 80 "java/lang/IllegalArgumentException" ["java/lang/RuntimeException", "java/lang/Exception"]).filter goodWord)
def wsX1_fellAt : List Cond := .code yX1_fellAt cX1_fellAt 2 (some .boolean) :: ([.fieldLink RX1 22 "TwinOrchard" "kinds" "[I", .fieldLink RX1 25 "TwinOrchard" "branches" "[I", .fieldLink RX1 28 "TwinOrchard" "vigours" "[I", .fieldLink RX1 31 "TwinOrchard" "tired" "[Z", .methodLink RX1 121 yX1_hasTree, .instanceMethod yX1_hasTree, .selects RX1 yX1_hasTree yX1_hasTree, .initialized RX1, .code yX1_hasTree cX1_hasTree 2 (some .boolean), .methodLink RX1 205 yX1_canPay, .instanceMethod yX1_canPay, .selects RX1 yX1_canPay yX1_canPay, .code yX1_canPay cX1_canPay 3 (some .boolean), .fieldLink RX1 35 "TwinOrchard" "strength" "[I", .methodLink RX1 202 yX1_twinOf, .static yX1_twinOf, .code yX1_twinOf cX1_twinOf 1 (some .int), .methodLink RX1 208 yX1_pay, .instanceMethod yX1_pay, .selects RX1 yX1_pay yX1_pay, .code yX1_pay cX1_pay 3 none] ++ wsX10)
def wsX1_fell_r1 : List Cond := [Cond.classLink RX1 65 "java/lang/IndexOutOfBoundsException", Cond.initialized "java/lang/IndexOutOfBoundsException", Cond.methodLink RX1 85 yX1_isPlace, Cond.static yX1_isPlace, Cond.initialized RX1, Cond.code yX1_isPlace cX1_isPlace 2 (some .boolean), Cond.methodLink RX1 72 yX1_isWithin, Cond.static yX1_isWithin, Cond.code yX1_isWithin cX1_isWithin 3 (some .boolean), Cond.methodLink RX1 93 yX1_spotOf, Cond.static yX1_spotOf, Cond.code yX1_spotOf cX1_spotOf 2 (some .int), Cond.methodLink RX1 116 yX1_fellAt, Cond.instanceMethod yX1_fellAt, Cond.selects RX1 yX1_fellAt yX1_fellAt, Cond.code yX1_fellAt cX1_fellAt 2 (some .boolean), Cond.fieldLink RX1 22 "TwinOrchard" "kinds" "[I", Cond.fieldLink RX1 25 "TwinOrchard" "branches" "[I", Cond.fieldLink RX1 28 "TwinOrchard" "vigours" "[I", Cond.fieldLink RX1 31 "TwinOrchard" "tired" "[Z", Cond.methodLink RX1 121 yX1_hasTree, Cond.instanceMethod yX1_hasTree, Cond.selects RX1 yX1_hasTree yX1_hasTree, Cond.code yX1_hasTree cX1_hasTree 2 (some .boolean)]
def wsX1_fell_r2 : List Cond := [Cond.methodLink RX1 205 yX1_canPay, Cond.instanceMethod yX1_canPay, Cond.selects RX1 yX1_canPay yX1_canPay, Cond.code yX1_canPay cX1_canPay 3 (some .boolean), Cond.fieldLink RX1 35 "TwinOrchard" "strength" "[I", Cond.methodLink RX1 202 yX1_twinOf, Cond.static yX1_twinOf, Cond.code yX1_twinOf cX1_twinOf 1 (some .int), Cond.methodLink RX1 208 yX1_pay, Cond.instanceMethod yX1_pay, Cond.selects RX1 yX1_pay yX1_pay, Cond.code yX1_pay cX1_pay 3 none, Cond.methodLink RX1 100 yX1_mirrorOf, Cond.static yX1_mirrorOf, Cond.code yX1_mirrorOf cX1_mirrorOf 2 (some .int), Cond.methodLink RX1 104 yX1_whoDidIt, Cond.static yX1_whoDidIt, Cond.code yX1_whoDidIt cX1_whoDidIt 2 (some .int)]
def wsX1_fell : List Cond := .code yX1_fell cX1_fell 6 (some .int) :: ((wsX1_fell_r1 ++ wsX1_fell_r2) ++ wsX10 ++ (vx_atS RX1 69 "java/lang/IndexOutOfBoundsException" ["java/lang/RuntimeException", "java/lang/Exception"]).filter goodWord)
def wsX1_applesNow : List Cond := .code yX1_applesNow cX1_applesNow 2 (some .int) :: ([.fieldLink RX1 48 "TwinOrchard" "looked" "LTwinOrchard$Tree;", .methodLink RX1 170 yX1_lookAt, .instanceMethod yX1_lookAt, .selects RX1 yX1_lookAt yX1_lookAt, .initialized RX1, .code yX1_lookAt cX1_lookAt 2 none, .fieldLink RX1 28 "TwinOrchard" "vigours" "[I", .fieldLink RX1 25 "TwinOrchard" "branches" "[I", .fieldLink RX1 31 "TwinOrchard" "tired" "[Z", .fieldLink RX1 13 "TwinOrchard" "hardiness" "[I", .fieldLink RX1 22 "TwinOrchard" "kinds" "[I", .methodLink RX1 121 yX1_hasTree, .instanceMethod yX1_hasTree, .selects RX1 yX1_hasTree yX1_hasTree, .code yX1_hasTree cX1_hasTree 2 (some .boolean), .instanceMethod yX0_apples, .initialized RX0, .selects RX0 yX0_apples yX0_apples, .code yX0_apples cX0_apples 2 (some .int), .fieldLink RX0 9 "TwinOrchard$Tree" "branches" "I", .fieldLink RX0 19 "TwinOrchard$Tree" "vigour" "I", .fieldLink RX0 15 "TwinOrchard$Tree" "tired" "Z"] ++ wsX10 ++ wsX00)
def wsX1_tree_r1 : List Cond := [Cond.classLink RX1 65 "java/lang/IndexOutOfBoundsException", Cond.initialized "java/lang/IndexOutOfBoundsException", Cond.fieldLink RX1 25 "TwinOrchard" "branches" "[I", Cond.fieldLink RX1 28 "TwinOrchard" "vigours" "[I", Cond.fieldLink RX1 22 "TwinOrchard" "kinds" "[I", Cond.fieldLink RX1 31 "TwinOrchard" "tired" "[Z", Cond.methodLink RX1 85 yX1_isPlace, Cond.static yX1_isPlace, Cond.initialized RX1, Cond.code yX1_isPlace cX1_isPlace 2 (some .boolean), Cond.methodLink RX1 72 yX1_isWithin, Cond.static yX1_isWithin, Cond.code yX1_isWithin cX1_isWithin 3 (some .boolean), Cond.methodLink RX1 93 yX1_spotOf, Cond.static yX1_spotOf, Cond.code yX1_spotOf cX1_spotOf 2 (some .int), Cond.methodLink RX1 121 yX1_hasTree, Cond.instanceMethod yX1_hasTree, Cond.selects RX1 yX1_hasTree yX1_hasTree, Cond.code yX1_hasTree cX1_hasTree 2 (some .boolean), Cond.methodLink RX1 124 yX1_applesNow, Cond.instanceMethod yX1_applesNow, Cond.selects RX1 yX1_applesNow yX1_applesNow, Cond.code yX1_applesNow cX1_applesNow 2 (some .int)]
def wsX1_tree_r2 : List Cond := [Cond.fieldLink RX1 48 "TwinOrchard" "looked" "LTwinOrchard$Tree;", Cond.methodLink RX1 170 yX1_lookAt, Cond.instanceMethod yX1_lookAt, Cond.selects RX1 yX1_lookAt yX1_lookAt, Cond.code yX1_lookAt cX1_lookAt 2 none, Cond.fieldLink RX1 13 "TwinOrchard" "hardiness" "[I", Cond.instanceMethod yX0_apples, Cond.initialized RX0, Cond.selects RX0 yX0_apples yX0_apples, Cond.code yX0_apples cX0_apples 2 (some .int), Cond.fieldLink RX0 9 "TwinOrchard$Tree" "branches" "I", Cond.fieldLink RX0 19 "TwinOrchard$Tree" "vigour" "I", Cond.fieldLink RX0 15 "TwinOrchard$Tree" "tired" "Z"]
def wsX1_tree : List Cond := .code yX1_tree cX1_tree 5 (some .int) :: ((wsX1_tree_r1 ++ wsX1_tree_r2) ++ wsX10 ++ wsX00 ++ (vx_atS RX1 69 "java/lang/IndexOutOfBoundsException" ["java/lang/RuntimeException", "java/lang/Exception"]).filter goodWord)
def wsX1_treesOfSort : List Cond := .code yX1_treesOfSort cX1_treesOfSort 4 (some .int) :: ([.fieldLink RX1 22 "TwinOrchard" "kinds" "[I"] ++ wsX10)
def wsX1_sort : List Cond := .code yX1_sort cX1_sort 3 (some .int) :: ([.classLink RX1 65 "java/lang/IndexOutOfBoundsException", .initialized "java/lang/IndexOutOfBoundsException", .fieldLink RX1 9 "TwinOrchard" "weights" "[I", .fieldLink RX1 13 "TwinOrchard" "hardiness" "[I", .fieldLink RX1 16 "TwinOrchard" "barn" "[I", .methodLink RX1 61 yX1_isSort, .static yX1_isSort, .initialized RX1, .code yX1_isSort cX1_isSort 1 (some .boolean), .methodLink RX1 72 yX1_isWithin, .static yX1_isWithin, .code yX1_isWithin cX1_isWithin 3 (some .boolean), .methodLink RX1 129 yX1_treesOfSort, .instanceMethod yX1_treesOfSort, .selects RX1 yX1_treesOfSort yX1_treesOfSort, .code yX1_treesOfSort cX1_treesOfSort 4 (some .int), .fieldLink RX1 22 "TwinOrchard" "kinds" "[I"] ++ wsX10 ++ (vx_atS RX1 69 "java/lang/IndexOutOfBoundsException" ["java/lang/RuntimeException", "java/lang/Exception"]).filter goodWord)
def wsX1_allTrees : List Cond := .code yX1_allTrees cX1_allTrees 3 (some .int) :: ([.methodLink RX1 121 yX1_hasTree, .instanceMethod yX1_hasTree, .selects RX1 yX1_hasTree yX1_hasTree, .initialized RX1, .code yX1_hasTree cX1_hasTree 2 (some .boolean), .fieldLink RX1 22 "TwinOrchard" "kinds" "[I"] ++ wsX10)
def wsX1_allTired : List Cond := .code yX1_allTired cX1_allTired 3 (some .int) :: ([.fieldLink RX1 31 "TwinOrchard" "tired" "[Z"] ++ wsX10)
def wsX1_applesInBarn : List Cond := .code yX1_applesInBarn cX1_applesInBarn 3 (some .int) :: ([.fieldLink RX1 16 "TwinOrchard" "barn" "[I"] ++ wsX10)
def wsX1_weightInBarn : List Cond := .code yX1_weightInBarn cX1_weightInBarn 3 (some .int) :: ([.fieldLink RX1 16 "TwinOrchard" "barn" "[I", .fieldLink RX1 9 "TwinOrchard" "weights" "[I"] ++ wsX10)
def wsX1_unlikePairs : List Cond := .code yX1_unlikePairs cX1_unlikePairs 6 (some .int) :: ([.fieldLink RX1 22 "TwinOrchard" "kinds" "[I", .fieldLink RX1 25 "TwinOrchard" "branches" "[I", .methodLink RX1 93 yX1_spotOf, .static yX1_spotOf, .initialized RX1, .code yX1_spotOf cX1_spotOf 2 (some .int), .methodLink RX1 100 yX1_mirrorOf, .static yX1_mirrorOf, .code yX1_mirrorOf cX1_mirrorOf 2 (some .int)] ++ wsX10)
def wsX1_count_r1 : List Cond := [Cond.classLink RX1 65 "java/lang/IndexOutOfBoundsException", Cond.initialized "java/lang/IndexOutOfBoundsException", Cond.fieldLink RX1 38 "TwinOrchard" "year" "I", Cond.fieldLink RX1 35 "TwinOrchard" "strength" "[I", Cond.methodLink RX1 72 yX1_isWithin, Cond.static yX1_isWithin, Cond.initialized RX1, Cond.code yX1_isWithin cX1_isWithin 3 (some .boolean), Cond.methodLink RX1 134 yX1_allTrees, Cond.instanceMethod yX1_allTrees, Cond.selects RX1 yX1_allTrees yX1_allTrees, Cond.code yX1_allTrees cX1_allTrees 3 (some .int), Cond.methodLink RX1 121 yX1_hasTree, Cond.instanceMethod yX1_hasTree, Cond.selects RX1 yX1_hasTree yX1_hasTree, Cond.code yX1_hasTree cX1_hasTree 2 (some .boolean), Cond.fieldLink RX1 22 "TwinOrchard" "kinds" "[I", Cond.methodLink RX1 138 yX1_allTired, Cond.instanceMethod yX1_allTired, Cond.selects RX1 yX1_allTired yX1_allTired, Cond.code yX1_allTired cX1_allTired 3 (some .int), Cond.fieldLink RX1 31 "TwinOrchard" "tired" "[Z", Cond.methodLink RX1 141 yX1_applesInBarn, Cond.instanceMethod yX1_applesInBarn]
def wsX1_count_r2 : List Cond := [Cond.selects RX1 yX1_applesInBarn yX1_applesInBarn, Cond.code yX1_applesInBarn cX1_applesInBarn 3 (some .int), Cond.fieldLink RX1 16 "TwinOrchard" "barn" "[I", Cond.methodLink RX1 144 yX1_weightInBarn, Cond.instanceMethod yX1_weightInBarn, Cond.selects RX1 yX1_weightInBarn yX1_weightInBarn, Cond.code yX1_weightInBarn cX1_weightInBarn 3 (some .int), Cond.fieldLink RX1 9 "TwinOrchard" "weights" "[I", Cond.methodLink RX1 147 yX1_unlikePairs, Cond.instanceMethod yX1_unlikePairs, Cond.selects RX1 yX1_unlikePairs yX1_unlikePairs, Cond.code yX1_unlikePairs cX1_unlikePairs 6 (some .int), Cond.fieldLink RX1 25 "TwinOrchard" "branches" "[I", Cond.methodLink RX1 93 yX1_spotOf, Cond.static yX1_spotOf, Cond.code yX1_spotOf cX1_spotOf 2 (some .int), Cond.methodLink RX1 100 yX1_mirrorOf, Cond.static yX1_mirrorOf, Cond.code yX1_mirrorOf cX1_mirrorOf 2 (some .int)]
def wsX1_count : List Cond := .code yX1_count cX1_count 2 (some .int) :: ((wsX1_count_r1 ++ wsX1_count_r2) ++ wsX10 ++ (vx_atS RX1 69 "java/lang/IndexOutOfBoundsException" ["java/lang/RuntimeException", "java/lang/Exception"]).filter goodWord)
def wsX1_leans_r1 : List Cond := [Cond.classLink RX1 65 "java/lang/IndexOutOfBoundsException", Cond.initialized "java/lang/IndexOutOfBoundsException", Cond.methodLink RX1 72 yX1_isWithin, Cond.static yX1_isWithin, Cond.initialized RX1, Cond.code yX1_isWithin cX1_isWithin 3 (some .boolean), Cond.methodLink RX1 93 yX1_spotOf, Cond.static yX1_spotOf, Cond.code yX1_spotOf cX1_spotOf 2 (some .int), Cond.methodLink RX1 124 yX1_applesNow, Cond.instanceMethod yX1_applesNow, Cond.selects RX1 yX1_applesNow yX1_applesNow, Cond.code yX1_applesNow cX1_applesNow 2 (some .int), Cond.fieldLink RX1 48 "TwinOrchard" "looked" "LTwinOrchard$Tree;", Cond.methodLink RX1 170 yX1_lookAt, Cond.instanceMethod yX1_lookAt, Cond.selects RX1 yX1_lookAt yX1_lookAt, Cond.code yX1_lookAt cX1_lookAt 2 none, Cond.fieldLink RX1 28 "TwinOrchard" "vigours" "[I", Cond.fieldLink RX1 25 "TwinOrchard" "branches" "[I", Cond.fieldLink RX1 31 "TwinOrchard" "tired" "[Z", Cond.fieldLink RX1 13 "TwinOrchard" "hardiness" "[I", Cond.fieldLink RX1 22 "TwinOrchard" "kinds" "[I", Cond.methodLink RX1 121 yX1_hasTree]
def wsX1_leans_r2 : List Cond := [Cond.instanceMethod yX1_hasTree, Cond.selects RX1 yX1_hasTree yX1_hasTree, Cond.code yX1_hasTree cX1_hasTree 2 (some .boolean), Cond.instanceMethod yX0_apples, Cond.initialized RX0, Cond.selects RX0 yX0_apples yX0_apples, Cond.code yX0_apples cX0_apples 2 (some .int), Cond.fieldLink RX0 9 "TwinOrchard$Tree" "branches" "I", Cond.fieldLink RX0 19 "TwinOrchard$Tree" "vigour" "I", Cond.fieldLink RX0 15 "TwinOrchard$Tree" "tired" "Z", Cond.methodLink RX1 100 yX1_mirrorOf, Cond.static yX1_mirrorOf, Cond.code yX1_mirrorOf cX1_mirrorOf 2 (some .int)]
def wsX1_leans : List Cond := .code yX1_leans cX1_leans 5 (some .int) :: ((wsX1_leans_r1 ++ wsX1_leans_r2) ++ wsX10 ++ wsX00 ++ (vx_atS RX1 69 "java/lang/IndexOutOfBoundsException" ["java/lang/RuntimeException", "java/lang/Exception"]).filter goodWord)
def wsX1_carry : List Cond := .code yX1_carry cX1_carry 4 (some .int) :: ([.classLink RX1 65 "java/lang/IndexOutOfBoundsException", .initialized "java/lang/IndexOutOfBoundsException", .classLink RX1 76 "java/lang/IllegalArgumentException", .initialized "java/lang/IllegalArgumentException", .classLink RX1 154 "java/lang/IllegalStateException", .initialized "java/lang/IllegalStateException", .fieldLink RX1 16 "TwinOrchard" "barn" "[I", .fieldLink RX1 42 "TwinOrchard" "carriedLeftMore" "I", .fieldLink RX1 9 "TwinOrchard" "weights" "[I", .methodLink RX1 61 yX1_isSort, .static yX1_isSort, .initialized RX1, .code yX1_isSort cX1_isSort 1 (some .boolean), .methodLink RX1 72 yX1_isWithin, .static yX1_isWithin, .code yX1_isWithin cX1_isWithin 3 (some .boolean)] ++ wsX10 ++ (vx_atS RX1 69 "java/lang/IndexOutOfBoundsException" ["java/lang/RuntimeException", "java/lang/Exception"]).filter goodWord ++ (vx_atS RX1 80 "java/lang/IllegalArgumentException" ["java/lang/RuntimeException", "java/lang/Exception"]).filter goodWord ++ (vx_atS RX1 158 "java/lang/IllegalStateException" ["java/lang/RuntimeException", "java/lang/Exception"]).filter goodWord)
def wsX1_tilt : List Cond := .code yX1_tilt cX1_tilt 1 (some .int) :: ([.fieldLink RX1 42 "TwinOrchard" "carriedLeftMore" "I"] ++ wsX10)
def wsX1_balancedApples : List Cond := .code yX1_balancedApples cX1_balancedApples 2 (some .int) :: ([.fieldLink RX1 16 "TwinOrchard" "barn" "[I", .methodLink RX1 226 Lib.Math.min.name, .static Lib.Math.min.name, .initialized "java/lang/Math", .code Lib.Math.min.name Lib.Math.min.code 2 (some .int), .methodLink RX1 221 Lib.Math.max.name, .static Lib.Math.max.name, .code Lib.Math.max.name Lib.Math.max.code 2 (some .int)] ++ wsX10)
def wsX1_reachWithSort : List Cond := .code yX1_reachWithSort cX1_reachWithSort 5 none :: ([.fieldLink RX1 52 "TwinOrchard" "fewest" "[I"] ++ wsX10)
def wsX1_heaviestUpTo : List Cond := .code yX1_heaviestUpTo cX1_heaviestUpTo 3 (some .int) :: ([.fieldLink RX1 52 "TwinOrchard" "fewest" "[I", .fieldLink RX1 9 "TwinOrchard" "weights" "[I", .methodLink RX1 226 Lib.Math.min.name, .static Lib.Math.min.name, .initialized "java/lang/Math", .code Lib.Math.min.name Lib.Math.min.code 2 (some .int), .methodLink RX1 55 yJ7_fill_53178, .static yJ7_fill_53178, .initialized RJ7, .code yJ7_fill_53178 cJ7_fill_53178 4 none, .methodLink RX1 159 yX1_balancedApples, .instanceMethod yX1_balancedApples, .selects RX1 yX1_balancedApples yX1_balancedApples, .initialized RX1, .code yX1_balancedApples cX1_balancedApples 2 (some .int), .fieldLink RX1 16 "TwinOrchard" "barn" "[I", .methodLink RX1 221 Lib.Math.max.name, .static Lib.Math.max.name, .code Lib.Math.max.name Lib.Math.max.code 2 (some .int), .methodLink RX1 229 yX1_reachWithSort, .instanceMethod yX1_reachWithSort, .selects RX1 yX1_reachWithSort yX1_reachWithSort, .code yX1_reachWithSort cX1_reachWithSort 5 none] ++ wsX10)
def wsX1_balance_r1 : List Cond := [Cond.fieldLink RX1 9 "TwinOrchard" "weights" "[I", Cond.methodLink RX1 159 yX1_balancedApples, Cond.instanceMethod yX1_balancedApples, Cond.selects RX1 yX1_balancedApples yX1_balancedApples, Cond.initialized RX1, Cond.code yX1_balancedApples cX1_balancedApples 2 (some .int), Cond.fieldLink RX1 16 "TwinOrchard" "barn" "[I", Cond.methodLink RX1 226 Lib.Math.min.name, Cond.static Lib.Math.min.name, Cond.initialized "java/lang/Math", Cond.code Lib.Math.min.name Lib.Math.min.code 2 (some .int), Cond.methodLink RX1 221 Lib.Math.max.name, Cond.static Lib.Math.max.name, Cond.code Lib.Math.max.name Lib.Math.max.code 2 (some .int), Cond.methodLink RX1 162 yX1_heaviestUpTo, Cond.instanceMethod yX1_heaviestUpTo, Cond.selects RX1 yX1_heaviestUpTo yX1_heaviestUpTo, Cond.code yX1_heaviestUpTo cX1_heaviestUpTo 3 (some .int), Cond.fieldLink RX1 52 "TwinOrchard" "fewest" "[I", Cond.methodLink RX1 55 yJ7_fill_53178, Cond.static yJ7_fill_53178, Cond.initialized RJ7, Cond.code yJ7_fill_53178 cJ7_fill_53178 4 none, Cond.methodLink RX1 229 yX1_reachWithSort]
def wsX1_balance_r2 : List Cond := [Cond.instanceMethod yX1_reachWithSort, Cond.selects RX1 yX1_reachWithSort yX1_reachWithSort, Cond.code yX1_reachWithSort cX1_reachWithSort 5 none]
def wsX1_balance : List Cond := .code yX1_balance cX1_balance 3 (some .int) :: ((wsX1_balance_r1 ++ wsX1_balance_r2) ++ wsX10)
def wsJ9_floorMod_7cf53 : List Cond := .code yJ9_floorMod_7cf53 cJ9_floorMod_7cf53 3 (some .int) :: ([])
def wsX1_liveLooked_r1 : List Cond := [Cond.fieldLink RX1 48 "TwinOrchard" "looked" "LTwinOrchard$Tree;", Cond.fieldLink RX1 19 "TwinOrchard" "frosts" "[I", Cond.fieldLink RX1 38 "TwinOrchard" "year" "I", Cond.methodLink RX1 240 yJ9_floorMod_7cf53, Cond.static yJ9_floorMod_7cf53, Cond.initialized RJ9, Cond.code yJ9_floorMod_7cf53 cJ9_floorMod_7cf53 3 (some .int), Cond.instanceMethod yX0_liveYear, Cond.initialized RX0, Cond.selects RX0 yX0_liveYear yX0_liveYear, Cond.code yX0_liveYear cX0_liveYear 3 (some .int), Cond.fieldLink RX0 15 "TwinOrchard$Tree" "tired" "Z", Cond.methodLink RX0 22 yX0_freeze, Cond.instanceMethod yX0_freeze, Cond.selects RX0 yX0_freeze yX0_freeze, Cond.code yX0_freeze cX0_freeze 3 none, Cond.fieldLink RX0 33 "TwinOrchard$Tree" "hardiness" "I", Cond.methodLink RX0 36 Lib.Math.max.name, Cond.static Lib.Math.max.name, Cond.initialized "java/lang/Math", Cond.code Lib.Math.max.name Lib.Math.max.code 2 (some .int), Cond.fieldLink RX0 9 "TwinOrchard$Tree" "branches" "I", Cond.methodLink RX0 26 yX0_apples, Cond.instanceMethod yX0_apples]
def wsX1_liveLooked_r2 : List Cond := [Cond.selects RX0 yX0_apples yX0_apples, Cond.code yX0_apples cX0_apples 2 (some .int), Cond.fieldLink RX0 19 "TwinOrchard$Tree" "vigour" "I", Cond.methodLink RX0 30 yX0_grow, Cond.instanceMethod yX0_grow, Cond.selects RX0 yX0_grow yX0_grow, Cond.code yX0_grow cX0_grow 2 none, Cond.methodLink RX0 42 Lib.Math.min.name, Cond.static Lib.Math.min.name, Cond.code Lib.Math.min.name Lib.Math.min.code 2 (some .int)]
def wsX1_liveLooked : List Cond := .code yX1_liveLooked cX1_liveLooked 4 (some .int) :: ((wsX1_liveLooked_r1 ++ wsX1_liveLooked_r2) ++ wsX10 ++ wsX00)
def wsX1_passAt_r1 : List Cond := [Cond.fieldLink RX1 16 "TwinOrchard" "barn" "[I", Cond.fieldLink RX1 22 "TwinOrchard" "kinds" "[I", Cond.methodLink RX1 170 yX1_lookAt, Cond.instanceMethod yX1_lookAt, Cond.selects RX1 yX1_lookAt yX1_lookAt, Cond.initialized RX1, Cond.code yX1_lookAt cX1_lookAt 2 none, Cond.fieldLink RX1 48 "TwinOrchard" "looked" "LTwinOrchard$Tree;", Cond.fieldLink RX1 28 "TwinOrchard" "vigours" "[I", Cond.fieldLink RX1 25 "TwinOrchard" "branches" "[I", Cond.fieldLink RX1 31 "TwinOrchard" "tired" "[Z", Cond.fieldLink RX1 13 "TwinOrchard" "hardiness" "[I", Cond.methodLink RX1 121 yX1_hasTree, Cond.instanceMethod yX1_hasTree, Cond.selects RX1 yX1_hasTree yX1_hasTree, Cond.code yX1_hasTree cX1_hasTree 2 (some .boolean), Cond.methodLink RX1 174 yX1_liveLooked, Cond.instanceMethod yX1_liveLooked, Cond.selects RX1 yX1_liveLooked yX1_liveLooked, Cond.code yX1_liveLooked cX1_liveLooked 4 (some .int), Cond.fieldLink RX1 19 "TwinOrchard" "frosts" "[I", Cond.fieldLink RX1 38 "TwinOrchard" "year" "I", Cond.methodLink RX1 240 yJ9_floorMod_7cf53, Cond.static yJ9_floorMod_7cf53]
def wsX1_passAt_r2 : List Cond := [Cond.initialized RJ9, Cond.code yJ9_floorMod_7cf53 cJ9_floorMod_7cf53 3 (some .int), Cond.instanceMethod yX0_liveYear, Cond.initialized RX0, Cond.selects RX0 yX0_liveYear yX0_liveYear, Cond.code yX0_liveYear cX0_liveYear 3 (some .int), Cond.fieldLink RX0 15 "TwinOrchard$Tree" "tired" "Z", Cond.methodLink RX0 22 yX0_freeze, Cond.instanceMethod yX0_freeze, Cond.selects RX0 yX0_freeze yX0_freeze, Cond.code yX0_freeze cX0_freeze 3 none, Cond.fieldLink RX0 33 "TwinOrchard$Tree" "hardiness" "I", Cond.methodLink RX0 36 Lib.Math.max.name, Cond.static Lib.Math.max.name, Cond.initialized "java/lang/Math", Cond.code Lib.Math.max.name Lib.Math.max.code 2 (some .int), Cond.fieldLink RX0 9 "TwinOrchard$Tree" "branches" "I", Cond.methodLink RX0 26 yX0_apples, Cond.instanceMethod yX0_apples, Cond.selects RX0 yX0_apples yX0_apples, Cond.code yX0_apples cX0_apples 2 (some .int), Cond.fieldLink RX0 19 "TwinOrchard$Tree" "vigour" "I", Cond.methodLink RX0 30 yX0_grow, Cond.instanceMethod yX0_grow]
def wsX1_passAt_r3 : List Cond := [Cond.selects RX0 yX0_grow yX0_grow, Cond.code yX0_grow cX0_grow 2 none, Cond.methodLink RX0 42 Lib.Math.min.name, Cond.static Lib.Math.min.name, Cond.code Lib.Math.min.name Lib.Math.min.code 2 (some .int), Cond.methodLink RX1 218 yX1_keepLooked, Cond.instanceMethod yX1_keepLooked, Cond.selects RX1 yX1_keepLooked yX1_keepLooked, Cond.code yX1_keepLooked cX1_keepLooked 2 none]
def wsX1_passAt : List Cond := .code yX1_passAt cX1_passAt 4 (some .int) :: ((wsX1_passAt_r1 ++ (wsX1_passAt_r2 ++ wsX1_passAt_r3)) ++ wsX10 ++ wsX00)
def wsX1_pass_r1 : List Cond := [Cond.classLink RX1 76 "java/lang/IllegalArgumentException", Cond.initialized "java/lang/IllegalArgumentException", Cond.fieldLink RX1 38 "TwinOrchard" "year" "I", Cond.fieldLink RX1 35 "TwinOrchard" "strength" "[I", Cond.methodLink RX1 72 yX1_isWithin, Cond.static yX1_isWithin, Cond.initialized RX1, Cond.code yX1_isWithin cX1_isWithin 3 (some .boolean), Cond.methodLink RX1 121 yX1_hasTree, Cond.instanceMethod yX1_hasTree, Cond.selects RX1 yX1_hasTree yX1_hasTree, Cond.code yX1_hasTree cX1_hasTree 2 (some .boolean), Cond.fieldLink RX1 22 "TwinOrchard" "kinds" "[I", Cond.methodLink RX1 167 yX1_passAt, Cond.instanceMethod yX1_passAt, Cond.selects RX1 yX1_passAt yX1_passAt, Cond.code yX1_passAt cX1_passAt 4 (some .int), Cond.fieldLink RX1 16 "TwinOrchard" "barn" "[I", Cond.methodLink RX1 170 yX1_lookAt, Cond.instanceMethod yX1_lookAt, Cond.selects RX1 yX1_lookAt yX1_lookAt, Cond.code yX1_lookAt cX1_lookAt 2 none, Cond.fieldLink RX1 48 "TwinOrchard" "looked" "LTwinOrchard$Tree;", Cond.fieldLink RX1 28 "TwinOrchard" "vigours" "[I"]
def wsX1_pass_r2 : List Cond := [Cond.fieldLink RX1 25 "TwinOrchard" "branches" "[I", Cond.fieldLink RX1 31 "TwinOrchard" "tired" "[Z", Cond.fieldLink RX1 13 "TwinOrchard" "hardiness" "[I", Cond.methodLink RX1 174 yX1_liveLooked, Cond.instanceMethod yX1_liveLooked, Cond.selects RX1 yX1_liveLooked yX1_liveLooked, Cond.code yX1_liveLooked cX1_liveLooked 4 (some .int), Cond.fieldLink RX1 19 "TwinOrchard" "frosts" "[I", Cond.methodLink RX1 240 yJ9_floorMod_7cf53, Cond.static yJ9_floorMod_7cf53, Cond.initialized RJ9, Cond.code yJ9_floorMod_7cf53 cJ9_floorMod_7cf53 3 (some .int), Cond.instanceMethod yX0_liveYear, Cond.initialized RX0, Cond.selects RX0 yX0_liveYear yX0_liveYear, Cond.code yX0_liveYear cX0_liveYear 3 (some .int), Cond.fieldLink RX0 15 "TwinOrchard$Tree" "tired" "Z", Cond.methodLink RX0 22 yX0_freeze, Cond.instanceMethod yX0_freeze, Cond.selects RX0 yX0_freeze yX0_freeze, Cond.code yX0_freeze cX0_freeze 3 none, Cond.fieldLink RX0 33 "TwinOrchard$Tree" "hardiness" "I", Cond.methodLink RX0 36 Lib.Math.max.name, Cond.static Lib.Math.max.name]
def wsX1_pass_r3 : List Cond := [Cond.initialized "java/lang/Math", Cond.code Lib.Math.max.name Lib.Math.max.code 2 (some .int), Cond.fieldLink RX0 9 "TwinOrchard$Tree" "branches" "I", Cond.methodLink RX0 26 yX0_apples, Cond.instanceMethod yX0_apples, Cond.selects RX0 yX0_apples yX0_apples, Cond.code yX0_apples cX0_apples 2 (some .int), Cond.fieldLink RX0 19 "TwinOrchard$Tree" "vigour" "I", Cond.methodLink RX0 30 yX0_grow, Cond.instanceMethod yX0_grow, Cond.selects RX0 yX0_grow yX0_grow, Cond.code yX0_grow cX0_grow 2 none, Cond.methodLink RX0 42 Lib.Math.min.name, Cond.static Lib.Math.min.name, Cond.code Lib.Math.min.name Lib.Math.min.code 2 (some .int), Cond.methodLink RX1 218 yX1_keepLooked, Cond.instanceMethod yX1_keepLooked, Cond.selects RX1 yX1_keepLooked yX1_keepLooked, Cond.code yX1_keepLooked cX1_keepLooked 2 none, Cond.methodLink RX1 55 yJ7_fill_53178, Cond.static yJ7_fill_53178, Cond.initialized RJ7, Cond.code yJ7_fill_53178 cJ7_fill_53178 4 none]
def wsX1_pass : List Cond := .code yX1_pass cX1_pass 4 (some .int) :: ((wsX1_pass_r1 ++ (wsX1_pass_r2 ++ wsX1_pass_r3)) ++ wsX10 ++ wsX00 ++ (vx_atS RX1 80 "java/lang/IllegalArgumentException" ["java/lang/RuntimeException", "java/lang/Exception"]).filter goodWord)
def wsX1_foresee_r1 : List Cond := [Cond.classLink RX1 76 "java/lang/IllegalArgumentException", Cond.initialized "java/lang/IllegalArgumentException", Cond.classLink RX1 65 "java/lang/IndexOutOfBoundsException", Cond.initialized "java/lang/IndexOutOfBoundsException", Cond.fieldLink RX1 48 "TwinOrchard" "looked" "LTwinOrchard$Tree;", Cond.methodLink RX1 72 yX1_isWithin, Cond.static yX1_isWithin, Cond.initialized RX1, Cond.code yX1_isWithin cX1_isWithin 3 (some .boolean), Cond.methodLink RX1 121 yX1_hasTree, Cond.instanceMethod yX1_hasTree, Cond.selects RX1 yX1_hasTree yX1_hasTree, Cond.code yX1_hasTree cX1_hasTree 2 (some .boolean), Cond.fieldLink RX1 22 "TwinOrchard" "kinds" "[I", Cond.methodLink RX1 170 yX1_lookAt, Cond.instanceMethod yX1_lookAt, Cond.selects RX1 yX1_lookAt yX1_lookAt, Cond.code yX1_lookAt cX1_lookAt 2 none, Cond.fieldLink RX1 28 "TwinOrchard" "vigours" "[I", Cond.fieldLink RX1 25 "TwinOrchard" "branches" "[I", Cond.fieldLink RX1 31 "TwinOrchard" "tired" "[Z", Cond.fieldLink RX1 13 "TwinOrchard" "hardiness" "[I", Cond.methodLink RX1 174 yX1_liveLooked, Cond.instanceMethod yX1_liveLooked]
def wsX1_foresee_r2 : List Cond := [Cond.selects RX1 yX1_liveLooked yX1_liveLooked, Cond.code yX1_liveLooked cX1_liveLooked 4 (some .int), Cond.fieldLink RX1 19 "TwinOrchard" "frosts" "[I", Cond.fieldLink RX1 38 "TwinOrchard" "year" "I", Cond.methodLink RX1 240 yJ9_floorMod_7cf53, Cond.static yJ9_floorMod_7cf53, Cond.initialized RJ9, Cond.code yJ9_floorMod_7cf53 cJ9_floorMod_7cf53 3 (some .int), Cond.instanceMethod yX0_liveYear, Cond.initialized RX0, Cond.selects RX0 yX0_liveYear yX0_liveYear, Cond.code yX0_liveYear cX0_liveYear 3 (some .int), Cond.fieldLink RX0 15 "TwinOrchard$Tree" "tired" "Z", Cond.methodLink RX0 22 yX0_freeze, Cond.instanceMethod yX0_freeze, Cond.selects RX0 yX0_freeze yX0_freeze, Cond.code yX0_freeze cX0_freeze 3 none, Cond.fieldLink RX0 33 "TwinOrchard$Tree" "hardiness" "I", Cond.methodLink RX0 36 Lib.Math.max.name, Cond.static Lib.Math.max.name, Cond.initialized "java/lang/Math", Cond.code Lib.Math.max.name Lib.Math.max.code 2 (some .int), Cond.fieldLink RX0 9 "TwinOrchard$Tree" "branches" "I", Cond.methodLink RX0 26 yX0_apples]
def wsX1_foresee_r3 : List Cond := [Cond.instanceMethod yX0_apples, Cond.selects RX0 yX0_apples yX0_apples, Cond.code yX0_apples cX0_apples 2 (some .int), Cond.fieldLink RX0 19 "TwinOrchard$Tree" "vigour" "I", Cond.methodLink RX0 30 yX0_grow, Cond.instanceMethod yX0_grow, Cond.selects RX0 yX0_grow yX0_grow, Cond.code yX0_grow cX0_grow 2 none, Cond.methodLink RX0 42 Lib.Math.min.name, Cond.static Lib.Math.min.name, Cond.code Lib.Math.min.name Lib.Math.min.code 2 (some .int)]
def wsX1_foresee : List Cond := .code yX1_foresee cX1_foresee 7 (some .int) :: ((wsX1_foresee_r1 ++ (wsX1_foresee_r2 ++ wsX1_foresee_r3)) ++ wsX10 ++ wsX00 ++ (vx_atS RX1 80 "java/lang/IllegalArgumentException" ["java/lang/RuntimeException", "java/lang/Exception"]).filter goodWord ++ (vx_atS RX1 69 "java/lang/IndexOutOfBoundsException" ["java/lang/RuntimeException", "java/lang/Exception"]).filter goodWord)
def wsX1_gainOfPruning_r1 : List Cond := [Cond.fieldLink RX1 48 "TwinOrchard" "looked" "LTwinOrchard$Tree;", Cond.methodLink RX1 212 yX1_canPrune, Cond.instanceMethod yX1_canPrune, Cond.selects RX1 yX1_canPrune yX1_canPrune, Cond.initialized RX1, Cond.code yX1_canPrune cX1_canPrune 3 (some .boolean), Cond.fieldLink RX1 25 "TwinOrchard" "branches" "[I", Cond.methodLink RX1 121 yX1_hasTree, Cond.instanceMethod yX1_hasTree, Cond.selects RX1 yX1_hasTree yX1_hasTree, Cond.code yX1_hasTree cX1_hasTree 2 (some .boolean), Cond.fieldLink RX1 22 "TwinOrchard" "kinds" "[I", Cond.methodLink RX1 205 yX1_canPay, Cond.instanceMethod yX1_canPay, Cond.selects RX1 yX1_canPay yX1_canPay, Cond.code yX1_canPay cX1_canPay 3 (some .boolean), Cond.fieldLink RX1 35 "TwinOrchard" "strength" "[I", Cond.methodLink RX1 202 yX1_twinOf, Cond.static yX1_twinOf, Cond.code yX1_twinOf cX1_twinOf 1 (some .int), Cond.methodLink RX1 170 yX1_lookAt, Cond.instanceMethod yX1_lookAt, Cond.selects RX1 yX1_lookAt yX1_lookAt, Cond.code yX1_lookAt cX1_lookAt 2 none]
def wsX1_gainOfPruning_r2 : List Cond := [Cond.fieldLink RX1 28 "TwinOrchard" "vigours" "[I", Cond.fieldLink RX1 31 "TwinOrchard" "tired" "[Z", Cond.fieldLink RX1 13 "TwinOrchard" "hardiness" "[I", Cond.methodLink RX1 174 yX1_liveLooked, Cond.instanceMethod yX1_liveLooked, Cond.selects RX1 yX1_liveLooked yX1_liveLooked, Cond.code yX1_liveLooked cX1_liveLooked 4 (some .int), Cond.fieldLink RX1 19 "TwinOrchard" "frosts" "[I", Cond.fieldLink RX1 38 "TwinOrchard" "year" "I", Cond.methodLink RX1 240 yJ9_floorMod_7cf53, Cond.static yJ9_floorMod_7cf53, Cond.initialized RJ9, Cond.code yJ9_floorMod_7cf53 cJ9_floorMod_7cf53 3 (some .int), Cond.instanceMethod yX0_liveYear, Cond.initialized RX0, Cond.selects RX0 yX0_liveYear yX0_liveYear, Cond.code yX0_liveYear cX0_liveYear 3 (some .int), Cond.fieldLink RX0 15 "TwinOrchard$Tree" "tired" "Z", Cond.methodLink RX0 22 yX0_freeze, Cond.instanceMethod yX0_freeze, Cond.selects RX0 yX0_freeze yX0_freeze, Cond.code yX0_freeze cX0_freeze 3 none, Cond.fieldLink RX0 33 "TwinOrchard$Tree" "hardiness" "I", Cond.methodLink RX0 36 Lib.Math.max.name]
def wsX1_gainOfPruning_r3 : List Cond := [Cond.static Lib.Math.max.name, Cond.initialized "java/lang/Math", Cond.code Lib.Math.max.name Lib.Math.max.code 2 (some .int), Cond.fieldLink RX0 9 "TwinOrchard$Tree" "branches" "I", Cond.methodLink RX0 26 yX0_apples, Cond.instanceMethod yX0_apples, Cond.selects RX0 yX0_apples yX0_apples, Cond.code yX0_apples cX0_apples 2 (some .int), Cond.fieldLink RX0 19 "TwinOrchard$Tree" "vigour" "I", Cond.methodLink RX0 30 yX0_grow, Cond.instanceMethod yX0_grow, Cond.selects RX0 yX0_grow yX0_grow, Cond.code yX0_grow cX0_grow 2 none, Cond.methodLink RX0 42 Lib.Math.min.name, Cond.static Lib.Math.min.name, Cond.code Lib.Math.min.name Lib.Math.min.code 2 (some .int), Cond.instanceMethod yX0_shorten, Cond.selects RX0 yX0_shorten yX0_shorten, Cond.code yX0_shorten cX0_shorten 2 none]
def wsX1_gainOfPruning : List Cond := .code yX1_gainOfPruning cX1_gainOfPruning 5 (some .int) :: ((wsX1_gainOfPruning_r1 ++ (wsX1_gainOfPruning_r2 ++ wsX1_gainOfPruning_r3)) ++ wsX10 ++ wsX00)
def wsX1_advise_r1 : List Cond := [Cond.classLink RX1 76 "java/lang/IllegalArgumentException", Cond.initialized "java/lang/IllegalArgumentException", Cond.methodLink RX1 72 yX1_isWithin, Cond.static yX1_isWithin, Cond.initialized RX1, Cond.code yX1_isWithin cX1_isWithin 3 (some .boolean), Cond.methodLink RX1 182 yX1_gainOfPruning, Cond.instanceMethod yX1_gainOfPruning, Cond.selects RX1 yX1_gainOfPruning yX1_gainOfPruning, Cond.code yX1_gainOfPruning cX1_gainOfPruning 5 (some .int), Cond.fieldLink RX1 48 "TwinOrchard" "looked" "LTwinOrchard$Tree;", Cond.methodLink RX1 212 yX1_canPrune, Cond.instanceMethod yX1_canPrune, Cond.selects RX1 yX1_canPrune yX1_canPrune, Cond.code yX1_canPrune cX1_canPrune 3 (some .boolean), Cond.fieldLink RX1 25 "TwinOrchard" "branches" "[I", Cond.methodLink RX1 121 yX1_hasTree, Cond.instanceMethod yX1_hasTree, Cond.selects RX1 yX1_hasTree yX1_hasTree, Cond.code yX1_hasTree cX1_hasTree 2 (some .boolean), Cond.fieldLink RX1 22 "TwinOrchard" "kinds" "[I", Cond.methodLink RX1 205 yX1_canPay, Cond.instanceMethod yX1_canPay, Cond.selects RX1 yX1_canPay yX1_canPay]
def wsX1_advise_r2 : List Cond := [Cond.code yX1_canPay cX1_canPay 3 (some .boolean), Cond.fieldLink RX1 35 "TwinOrchard" "strength" "[I", Cond.methodLink RX1 202 yX1_twinOf, Cond.static yX1_twinOf, Cond.code yX1_twinOf cX1_twinOf 1 (some .int), Cond.methodLink RX1 170 yX1_lookAt, Cond.instanceMethod yX1_lookAt, Cond.selects RX1 yX1_lookAt yX1_lookAt, Cond.code yX1_lookAt cX1_lookAt 2 none, Cond.fieldLink RX1 28 "TwinOrchard" "vigours" "[I", Cond.fieldLink RX1 31 "TwinOrchard" "tired" "[Z", Cond.fieldLink RX1 13 "TwinOrchard" "hardiness" "[I", Cond.methodLink RX1 174 yX1_liveLooked, Cond.instanceMethod yX1_liveLooked, Cond.selects RX1 yX1_liveLooked yX1_liveLooked, Cond.code yX1_liveLooked cX1_liveLooked 4 (some .int), Cond.fieldLink RX1 19 "TwinOrchard" "frosts" "[I", Cond.fieldLink RX1 38 "TwinOrchard" "year" "I", Cond.methodLink RX1 240 yJ9_floorMod_7cf53, Cond.static yJ9_floorMod_7cf53, Cond.initialized RJ9, Cond.code yJ9_floorMod_7cf53 cJ9_floorMod_7cf53 3 (some .int), Cond.instanceMethod yX0_liveYear, Cond.initialized RX0]
def wsX1_advise_r3 : List Cond := [Cond.selects RX0 yX0_liveYear yX0_liveYear, Cond.code yX0_liveYear cX0_liveYear 3 (some .int), Cond.fieldLink RX0 15 "TwinOrchard$Tree" "tired" "Z", Cond.methodLink RX0 22 yX0_freeze, Cond.instanceMethod yX0_freeze, Cond.selects RX0 yX0_freeze yX0_freeze, Cond.code yX0_freeze cX0_freeze 3 none, Cond.fieldLink RX0 33 "TwinOrchard$Tree" "hardiness" "I", Cond.methodLink RX0 36 Lib.Math.max.name, Cond.static Lib.Math.max.name, Cond.initialized "java/lang/Math", Cond.code Lib.Math.max.name Lib.Math.max.code 2 (some .int), Cond.fieldLink RX0 9 "TwinOrchard$Tree" "branches" "I", Cond.methodLink RX0 26 yX0_apples, Cond.instanceMethod yX0_apples, Cond.selects RX0 yX0_apples yX0_apples, Cond.code yX0_apples cX0_apples 2 (some .int), Cond.fieldLink RX0 19 "TwinOrchard$Tree" "vigour" "I", Cond.methodLink RX0 30 yX0_grow, Cond.instanceMethod yX0_grow, Cond.selects RX0 yX0_grow yX0_grow, Cond.code yX0_grow cX0_grow 2 none, Cond.methodLink RX0 42 Lib.Math.min.name, Cond.static Lib.Math.min.name]
def wsX1_advise_r4 : List Cond := [Cond.code Lib.Math.min.name Lib.Math.min.code 2 (some .int), Cond.instanceMethod yX0_shorten, Cond.selects RX0 yX0_shorten yX0_shorten, Cond.code yX0_shorten cX0_shorten 2 none, Cond.methodLink RX1 100 yX1_mirrorOf, Cond.static yX1_mirrorOf, Cond.code yX1_mirrorOf cX1_mirrorOf 2 (some .int)]
def wsX1_advise : List Cond := .code yX1_advise cX1_advise 7 (some .int) :: ((wsX1_advise_r1 ++ (wsX1_advise_r2 ++ (wsX1_advise_r3 ++ wsX1_advise_r4))) ++ wsX10 ++ wsX00 ++ (vx_atS RX1 80 "java/lang/IllegalArgumentException" ["java/lang/RuntimeException", "java/lang/Exception"]).filter goodWord)
def wsX1_mean : List Cond := .code yX1_mean cX1_mean 4 (some .double) :: ([.fieldLink RX1 25 "TwinOrchard" "branches" "[I", .methodLink RX1 134 yX1_allTrees, .instanceMethod yX1_allTrees, .selects RX1 yX1_allTrees yX1_allTrees, .initialized RX1, .code yX1_allTrees cX1_allTrees 3 (some .int), .methodLink RX1 121 yX1_hasTree, .instanceMethod yX1_hasTree, .selects RX1 yX1_hasTree yX1_hasTree, .code yX1_hasTree cX1_hasTree 2 (some .boolean), .fieldLink RX1 22 "TwinOrchard" "kinds" "[I"] ++ wsX10)
def wsX1_digest_r1 : List Cond := [Cond.constantLong RX1 186 (863), Cond.constantLong RX1 188 (31), Cond.fieldLink RX1 19 "TwinOrchard" "frosts" "[I", Cond.methodLink RX1 190 yX1_count, Cond.instanceMethod yX1_count, Cond.selects RX1 yX1_count yX1_count, Cond.initialized RX1, Cond.code yX1_count cX1_count 2 (some .int), Cond.classLink RX1 65 "java/lang/IndexOutOfBoundsException", Cond.initialized "java/lang/IndexOutOfBoundsException", Cond.fieldLink RX1 38 "TwinOrchard" "year" "I", Cond.fieldLink RX1 35 "TwinOrchard" "strength" "[I", Cond.methodLink RX1 72 yX1_isWithin, Cond.static yX1_isWithin, Cond.code yX1_isWithin cX1_isWithin 3 (some .boolean), Cond.methodLink RX1 134 yX1_allTrees, Cond.instanceMethod yX1_allTrees, Cond.selects RX1 yX1_allTrees yX1_allTrees, Cond.code yX1_allTrees cX1_allTrees 3 (some .int), Cond.methodLink RX1 121 yX1_hasTree, Cond.instanceMethod yX1_hasTree, Cond.selects RX1 yX1_hasTree yX1_hasTree, Cond.code yX1_hasTree cX1_hasTree 2 (some .boolean), Cond.fieldLink RX1 22 "TwinOrchard" "kinds" "[I"]
def wsX1_digest_r2 : List Cond := [Cond.methodLink RX1 138 yX1_allTired, Cond.instanceMethod yX1_allTired, Cond.selects RX1 yX1_allTired yX1_allTired, Cond.code yX1_allTired cX1_allTired 3 (some .int), Cond.fieldLink RX1 31 "TwinOrchard" "tired" "[Z", Cond.methodLink RX1 141 yX1_applesInBarn, Cond.instanceMethod yX1_applesInBarn, Cond.selects RX1 yX1_applesInBarn yX1_applesInBarn, Cond.code yX1_applesInBarn cX1_applesInBarn 3 (some .int), Cond.fieldLink RX1 16 "TwinOrchard" "barn" "[I", Cond.methodLink RX1 144 yX1_weightInBarn, Cond.instanceMethod yX1_weightInBarn, Cond.selects RX1 yX1_weightInBarn yX1_weightInBarn, Cond.code yX1_weightInBarn cX1_weightInBarn 3 (some .int), Cond.fieldLink RX1 9 "TwinOrchard" "weights" "[I", Cond.methodLink RX1 147 yX1_unlikePairs, Cond.instanceMethod yX1_unlikePairs, Cond.selects RX1 yX1_unlikePairs yX1_unlikePairs, Cond.code yX1_unlikePairs cX1_unlikePairs 6 (some .int), Cond.fieldLink RX1 25 "TwinOrchard" "branches" "[I", Cond.methodLink RX1 93 yX1_spotOf, Cond.static yX1_spotOf, Cond.code yX1_spotOf cX1_spotOf 2 (some .int), Cond.methodLink RX1 100 yX1_mirrorOf]
def wsX1_digest_r3 : List Cond := [Cond.static yX1_mirrorOf, Cond.code yX1_mirrorOf cX1_mirrorOf 2 (some .int), Cond.methodLink RX1 193 yX1_sort, Cond.instanceMethod yX1_sort, Cond.selects RX1 yX1_sort yX1_sort, Cond.code yX1_sort cX1_sort 3 (some .int), Cond.fieldLink RX1 13 "TwinOrchard" "hardiness" "[I", Cond.methodLink RX1 61 yX1_isSort, Cond.static yX1_isSort, Cond.code yX1_isSort cX1_isSort 1 (some .boolean), Cond.methodLink RX1 129 yX1_treesOfSort, Cond.instanceMethod yX1_treesOfSort, Cond.selects RX1 yX1_treesOfSort yX1_treesOfSort, Cond.code yX1_treesOfSort cX1_treesOfSort 4 (some .int), Cond.methodLink RX1 196 yX1_tree, Cond.instanceMethod yX1_tree, Cond.selects RX1 yX1_tree yX1_tree, Cond.code yX1_tree cX1_tree 5 (some .int), Cond.fieldLink RX1 28 "TwinOrchard" "vigours" "[I", Cond.methodLink RX1 85 yX1_isPlace, Cond.static yX1_isPlace, Cond.code yX1_isPlace cX1_isPlace 2 (some .boolean), Cond.methodLink RX1 124 yX1_applesNow, Cond.instanceMethod yX1_applesNow]
def wsX1_digest_r4 : List Cond := [Cond.selects RX1 yX1_applesNow yX1_applesNow, Cond.code yX1_applesNow cX1_applesNow 2 (some .int), Cond.fieldLink RX1 48 "TwinOrchard" "looked" "LTwinOrchard$Tree;", Cond.methodLink RX1 170 yX1_lookAt, Cond.instanceMethod yX1_lookAt, Cond.selects RX1 yX1_lookAt yX1_lookAt, Cond.code yX1_lookAt cX1_lookAt 2 none, Cond.instanceMethod yX0_apples, Cond.initialized RX0, Cond.selects RX0 yX0_apples yX0_apples, Cond.code yX0_apples cX0_apples 2 (some .int), Cond.fieldLink RX0 9 "TwinOrchard$Tree" "branches" "I", Cond.fieldLink RX0 19 "TwinOrchard$Tree" "vigour" "I", Cond.fieldLink RX0 15 "TwinOrchard$Tree" "tired" "Z", Cond.methodLink RX1 199 yX1_tilt, Cond.instanceMethod yX1_tilt, Cond.selects RX1 yX1_tilt yX1_tilt, Cond.code yX1_tilt cX1_tilt 1 (some .int), Cond.fieldLink RX1 42 "TwinOrchard" "carriedLeftMore" "I"]
def wsX1_digest : List Cond := .code yX1_digest cX1_digest 5 (some .long) :: ((wsX1_digest_r1 ++ (wsX1_digest_r2 ++ (wsX1_digest_r3 ++ wsX1_digest_r4))) ++ wsX10 ++ wsX00 ++ (vx_atS RX1 69 "java/lang/IndexOutOfBoundsException" ["java/lang/RuntimeException", "java/lang/Exception"]).filter goodWord)
def wsX2_init : List Cond := .code yX2_init cX2_init 2 none :: ([.methodLink RX2 1 objectInit, .instanceMethod objectInit, .code objectInit ⟨#[0xb1]⟩ 1 none, .arrayClass .int, .fieldLink RX2 9 "TwinOrchardModel" "weights" "[I", .fieldLink RX2 13 "TwinOrchardModel" "bears" "[I", .fieldLink RX2 16 "TwinOrchardModel" "frosts" "[I", .fieldLink RX2 19 "TwinOrchardModel" "trees" "[I", .fieldLink RX2 22 "TwinOrchardModel" "barn" "[I", .fieldLink RX2 25 "TwinOrchardModel" "numbers" "[I"] ++ wsX20)
def wsX2_thrown : List Cond := .code yX2_thrown cX2_thrown 1 (some .int) :: ([.fieldLink RX2 28 "TwinOrchardModel" "thrown" "I"] ++ wsX20)
def wsX2_fail : List Cond := .code yX2_fail cX2_fail 2 (some .int) :: ([.fieldLink RX2 28 "TwinOrchardModel" "thrown" "I"] ++ wsX20)
def wsX2_isIn : List Cond := .code yX2_isIn cX2_isIn 3 (some .boolean) :: ([])
def wsX2_isSpot : List Cond := .code yX2_isSpot cX2_isSpot 2 (some .boolean) :: ([.methodLink RX2 32 yX2_isIn, .static yX2_isIn, .initialized RX2, .code yX2_isIn cX2_isIn 3 (some .boolean)])
def wsX2_isSort : List Cond := .code yX2_isSort cX2_isSort 1 (some .boolean) :: ([.methodLink RX2 32 yX2_isIn, .static yX2_isIn, .initialized RX2, .code yX2_isIn cX2_isIn 3 (some .boolean)])
def wsX2_tr : List Cond := .code yX2_tr cX2_tr 3 (some .int) :: ([.fieldLink RX2 19 "TwinOrchardModel" "trees" "[I"] ++ wsX20)
def wsX2_set : List Cond := .code yX2_set cX2_set 4 none :: ([.fieldLink RX2 19 "TwinOrchardModel" "trees" "[I"] ++ wsX20)
def wsX2_setSort : List Cond := .code yX2_setSort cX2_setSort 5 (some .int) :: ([.fieldLink RX2 28 "TwinOrchardModel" "thrown" "I", .fieldLink RX2 9 "TwinOrchardModel" "weights" "[I", .fieldLink RX2 13 "TwinOrchardModel" "bears" "[I", .methodLink RX2 36 yX2_isSort, .static yX2_isSort, .initialized RX2, .code yX2_isSort cX2_isSort 1 (some .boolean), .methodLink RX2 32 yX2_isIn, .static yX2_isIn, .code yX2_isIn cX2_isIn 3 (some .boolean), .methodLink RX2 40 yX2_fail, .instanceMethod yX2_fail, .selects RX2 yX2_fail yX2_fail, .code yX2_fail cX2_fail 2 (some .int)] ++ wsX20)
def wsX2_setFrost : List Cond := .code yX2_setFrost cX2_setFrost 4 (some .int) :: ([.fieldLink RX2 28 "TwinOrchardModel" "thrown" "I", .fieldLink RX2 16 "TwinOrchardModel" "frosts" "[I", .methodLink RX2 32 yX2_isIn, .static yX2_isIn, .initialized RX2, .code yX2_isIn cX2_isIn 3 (some .boolean), .methodLink RX2 40 yX2_fail, .instanceMethod yX2_fail, .selects RX2 yX2_fail yX2_fail, .code yX2_fail cX2_fail 2 (some .int)] ++ wsX20)
def wsX2_can : List Cond := .code yX2_can cX2_can 5 (some .boolean) :: ([.methodLink RX2 44 yX2_tr, .instanceMethod yX2_tr, .selects RX2 yX2_tr yX2_tr, .initialized RX2, .code yX2_tr cX2_tr 3 (some .int), .fieldLink RX2 19 "TwinOrchardModel" "trees" "[I"] ++ wsX20)
def wsX2_change : List Cond := .code yX2_change cX2_change 7 none :: ([.arrayClass .int, .fieldLink RX2 19 "TwinOrchardModel" "trees" "[I", .methodLink RX2 48 arraycopyName, .native arraycopyName, .static arraycopyName, .initialized "java/lang/System", .methodLink RX2 58 Lib.Math.max.name, .static Lib.Math.max.name, .initialized "java/lang/Math", .code Lib.Math.max.name Lib.Math.max.code 2 (some .int), .methodLink RX2 44 yX2_tr, .instanceMethod yX2_tr, .selects RX2 yX2_tr yX2_tr, .initialized RX2, .code yX2_tr cX2_tr 3 (some .int), .methodLink RX2 54 yX2_set, .instanceMethod yX2_set, .selects RX2 yX2_set yX2_set, .code yX2_set cX2_set 4 none] ++ wsX20)
def wsX2_does_r1 : List Cond := [Cond.fieldLink RX2 25 "TwinOrchardModel" "numbers" "[I", Cond.fieldLink RX2 63 "TwinOrchardModel" "COSTS" "[I", Cond.methodLink RX2 66 yX2_can, Cond.instanceMethod yX2_can, Cond.selects RX2 yX2_can yX2_can, Cond.initialized RX2, Cond.code yX2_can cX2_can 5 (some .boolean), Cond.methodLink RX2 44 yX2_tr, Cond.instanceMethod yX2_tr, Cond.selects RX2 yX2_tr yX2_tr, Cond.code yX2_tr cX2_tr 3 (some .int), Cond.fieldLink RX2 19 "TwinOrchardModel" "trees" "[I", Cond.methodLink RX2 69 yX2_change, Cond.instanceMethod yX2_change, Cond.selects RX2 yX2_change yX2_change, Cond.code yX2_change cX2_change 7 none, Cond.arrayClass .int, Cond.methodLink RX2 48 arraycopyName, Cond.native arraycopyName, Cond.static arraycopyName, Cond.initialized "java/lang/System", Cond.methodLink RX2 58 Lib.Math.max.name, Cond.static Lib.Math.max.name, Cond.initialized "java/lang/Math"]
def wsX2_does_r2 : List Cond := [Cond.code Lib.Math.max.name Lib.Math.max.code 2 (some .int), Cond.methodLink RX2 54 yX2_set, Cond.instanceMethod yX2_set, Cond.selects RX2 yX2_set yX2_set, Cond.code yX2_set cX2_set 4 none]
def wsX2_does : List Cond := .code yX2_does cX2_does 8 (some .boolean) :: ((wsX2_does_r1 ++ wsX2_does_r2) ++ wsX20)
def wsX2_both_r1 : List Cond := [Cond.methodLink RX2 73 yX2_does, Cond.instanceMethod yX2_does, Cond.selects RX2 yX2_does yX2_does, Cond.initialized RX2, Cond.code yX2_does cX2_does 8 (some .boolean), Cond.fieldLink RX2 25 "TwinOrchardModel" "numbers" "[I", Cond.fieldLink RX2 63 "TwinOrchardModel" "COSTS" "[I", Cond.methodLink RX2 66 yX2_can, Cond.instanceMethod yX2_can, Cond.selects RX2 yX2_can yX2_can, Cond.code yX2_can cX2_can 5 (some .boolean), Cond.methodLink RX2 44 yX2_tr, Cond.instanceMethod yX2_tr, Cond.selects RX2 yX2_tr yX2_tr, Cond.code yX2_tr cX2_tr 3 (some .int), Cond.fieldLink RX2 19 "TwinOrchardModel" "trees" "[I", Cond.methodLink RX2 69 yX2_change, Cond.instanceMethod yX2_change, Cond.selects RX2 yX2_change yX2_change, Cond.code yX2_change cX2_change 7 none, Cond.arrayClass .int, Cond.methodLink RX2 48 arraycopyName, Cond.native arraycopyName, Cond.static arraycopyName]
def wsX2_both_r2 : List Cond := [Cond.initialized "java/lang/System", Cond.methodLink RX2 58 Lib.Math.max.name, Cond.static Lib.Math.max.name, Cond.initialized "java/lang/Math", Cond.code Lib.Math.max.name Lib.Math.max.code 2 (some .int), Cond.methodLink RX2 54 yX2_set, Cond.instanceMethod yX2_set, Cond.selects RX2 yX2_set yX2_set, Cond.code yX2_set cX2_set 4 none]
def wsX2_both : List Cond := .code yX2_both cX2_both 8 (some .int) :: ((wsX2_both_r1 ++ wsX2_both_r2) ++ wsX20)
def wsX2_plant_r1 : List Cond := [Cond.fieldLink RX2 28 "TwinOrchardModel" "thrown" "I", Cond.methodLink RX2 77 yX2_isSpot, Cond.static yX2_isSpot, Cond.initialized RX2, Cond.code yX2_isSpot cX2_isSpot 2 (some .boolean), Cond.methodLink RX2 32 yX2_isIn, Cond.static yX2_isIn, Cond.code yX2_isIn cX2_isIn 3 (some .boolean), Cond.methodLink RX2 40 yX2_fail, Cond.instanceMethod yX2_fail, Cond.selects RX2 yX2_fail yX2_fail, Cond.code yX2_fail cX2_fail 2 (some .int), Cond.methodLink RX2 36 yX2_isSort, Cond.static yX2_isSort, Cond.code yX2_isSort cX2_isSort 1 (some .boolean), Cond.methodLink RX2 81 yX2_both, Cond.instanceMethod yX2_both, Cond.selects RX2 yX2_both yX2_both, Cond.code yX2_both cX2_both 8 (some .int), Cond.methodLink RX2 73 yX2_does, Cond.instanceMethod yX2_does, Cond.selects RX2 yX2_does yX2_does, Cond.code yX2_does cX2_does 8 (some .boolean), Cond.fieldLink RX2 25 "TwinOrchardModel" "numbers" "[I"]
def wsX2_plant_r2 : List Cond := [Cond.fieldLink RX2 63 "TwinOrchardModel" "COSTS" "[I", Cond.methodLink RX2 66 yX2_can, Cond.instanceMethod yX2_can, Cond.selects RX2 yX2_can yX2_can, Cond.code yX2_can cX2_can 5 (some .boolean), Cond.methodLink RX2 44 yX2_tr, Cond.instanceMethod yX2_tr, Cond.selects RX2 yX2_tr yX2_tr, Cond.code yX2_tr cX2_tr 3 (some .int), Cond.fieldLink RX2 19 "TwinOrchardModel" "trees" "[I", Cond.methodLink RX2 69 yX2_change, Cond.instanceMethod yX2_change, Cond.selects RX2 yX2_change yX2_change, Cond.code yX2_change cX2_change 7 none, Cond.arrayClass .int, Cond.methodLink RX2 48 arraycopyName, Cond.native arraycopyName, Cond.static arraycopyName, Cond.initialized "java/lang/System", Cond.methodLink RX2 58 Lib.Math.max.name, Cond.static Lib.Math.max.name, Cond.initialized "java/lang/Math", Cond.code Lib.Math.max.name Lib.Math.max.code 2 (some .int), Cond.methodLink RX2 54 yX2_set]
def wsX2_plant_r3 : List Cond := [Cond.instanceMethod yX2_set, Cond.selects RX2 yX2_set yX2_set, Cond.code yX2_set cX2_set 4 none]
def wsX2_plant : List Cond := .code yX2_plant cX2_plant 5 (some .int) :: ((wsX2_plant_r1 ++ (wsX2_plant_r2 ++ wsX2_plant_r3)) ++ wsX20)
def wsX2_prune_r1 : List Cond := [Cond.fieldLink RX2 28 "TwinOrchardModel" "thrown" "I", Cond.methodLink RX2 77 yX2_isSpot, Cond.static yX2_isSpot, Cond.initialized RX2, Cond.code yX2_isSpot cX2_isSpot 2 (some .boolean), Cond.methodLink RX2 32 yX2_isIn, Cond.static yX2_isIn, Cond.code yX2_isIn cX2_isIn 3 (some .boolean), Cond.methodLink RX2 40 yX2_fail, Cond.instanceMethod yX2_fail, Cond.selects RX2 yX2_fail yX2_fail, Cond.code yX2_fail cX2_fail 2 (some .int), Cond.methodLink RX2 81 yX2_both, Cond.instanceMethod yX2_both, Cond.selects RX2 yX2_both yX2_both, Cond.code yX2_both cX2_both 8 (some .int), Cond.methodLink RX2 73 yX2_does, Cond.instanceMethod yX2_does, Cond.selects RX2 yX2_does yX2_does, Cond.code yX2_does cX2_does 8 (some .boolean), Cond.fieldLink RX2 25 "TwinOrchardModel" "numbers" "[I", Cond.fieldLink RX2 63 "TwinOrchardModel" "COSTS" "[I", Cond.methodLink RX2 66 yX2_can, Cond.instanceMethod yX2_can]
def wsX2_prune_r2 : List Cond := [Cond.selects RX2 yX2_can yX2_can, Cond.code yX2_can cX2_can 5 (some .boolean), Cond.methodLink RX2 44 yX2_tr, Cond.instanceMethod yX2_tr, Cond.selects RX2 yX2_tr yX2_tr, Cond.code yX2_tr cX2_tr 3 (some .int), Cond.fieldLink RX2 19 "TwinOrchardModel" "trees" "[I", Cond.methodLink RX2 69 yX2_change, Cond.instanceMethod yX2_change, Cond.selects RX2 yX2_change yX2_change, Cond.code yX2_change cX2_change 7 none, Cond.arrayClass .int, Cond.methodLink RX2 48 arraycopyName, Cond.native arraycopyName, Cond.static arraycopyName, Cond.initialized "java/lang/System", Cond.methodLink RX2 58 Lib.Math.max.name, Cond.static Lib.Math.max.name, Cond.initialized "java/lang/Math", Cond.code Lib.Math.max.name Lib.Math.max.code 2 (some .int), Cond.methodLink RX2 54 yX2_set, Cond.instanceMethod yX2_set, Cond.selects RX2 yX2_set yX2_set, Cond.code yX2_set cX2_set 4 none]
def wsX2_prune : List Cond := .code yX2_prune cX2_prune 4 (some .int) :: ((wsX2_prune_r1 ++ wsX2_prune_r2) ++ wsX20)
def wsX2_graft_r1 : List Cond := [Cond.fieldLink RX2 28 "TwinOrchardModel" "thrown" "I", Cond.methodLink RX2 77 yX2_isSpot, Cond.static yX2_isSpot, Cond.initialized RX2, Cond.code yX2_isSpot cX2_isSpot 2 (some .boolean), Cond.methodLink RX2 32 yX2_isIn, Cond.static yX2_isIn, Cond.code yX2_isIn cX2_isIn 3 (some .boolean), Cond.methodLink RX2 40 yX2_fail, Cond.instanceMethod yX2_fail, Cond.selects RX2 yX2_fail yX2_fail, Cond.code yX2_fail cX2_fail 2 (some .int), Cond.methodLink RX2 36 yX2_isSort, Cond.static yX2_isSort, Cond.code yX2_isSort cX2_isSort 1 (some .boolean), Cond.methodLink RX2 81 yX2_both, Cond.instanceMethod yX2_both, Cond.selects RX2 yX2_both yX2_both, Cond.code yX2_both cX2_both 8 (some .int), Cond.methodLink RX2 73 yX2_does, Cond.instanceMethod yX2_does, Cond.selects RX2 yX2_does yX2_does, Cond.code yX2_does cX2_does 8 (some .boolean), Cond.fieldLink RX2 25 "TwinOrchardModel" "numbers" "[I"]
def wsX2_graft_r2 : List Cond := [Cond.fieldLink RX2 63 "TwinOrchardModel" "COSTS" "[I", Cond.methodLink RX2 66 yX2_can, Cond.instanceMethod yX2_can, Cond.selects RX2 yX2_can yX2_can, Cond.code yX2_can cX2_can 5 (some .boolean), Cond.methodLink RX2 44 yX2_tr, Cond.instanceMethod yX2_tr, Cond.selects RX2 yX2_tr yX2_tr, Cond.code yX2_tr cX2_tr 3 (some .int), Cond.fieldLink RX2 19 "TwinOrchardModel" "trees" "[I", Cond.methodLink RX2 69 yX2_change, Cond.instanceMethod yX2_change, Cond.selects RX2 yX2_change yX2_change, Cond.code yX2_change cX2_change 7 none, Cond.arrayClass .int, Cond.methodLink RX2 48 arraycopyName, Cond.native arraycopyName, Cond.static arraycopyName, Cond.initialized "java/lang/System", Cond.methodLink RX2 58 Lib.Math.max.name, Cond.static Lib.Math.max.name, Cond.initialized "java/lang/Math", Cond.code Lib.Math.max.name Lib.Math.max.code 2 (some .int), Cond.methodLink RX2 54 yX2_set]
def wsX2_graft_r3 : List Cond := [Cond.instanceMethod yX2_set, Cond.selects RX2 yX2_set yX2_set, Cond.code yX2_set cX2_set 4 none]
def wsX2_graft : List Cond := .code yX2_graft cX2_graft 4 (some .int) :: ((wsX2_graft_r1 ++ (wsX2_graft_r2 ++ wsX2_graft_r3)) ++ wsX20)
def wsX2_fell_r1 : List Cond := [Cond.fieldLink RX2 28 "TwinOrchardModel" "thrown" "I", Cond.methodLink RX2 77 yX2_isSpot, Cond.static yX2_isSpot, Cond.initialized RX2, Cond.code yX2_isSpot cX2_isSpot 2 (some .boolean), Cond.methodLink RX2 32 yX2_isIn, Cond.static yX2_isIn, Cond.code yX2_isIn cX2_isIn 3 (some .boolean), Cond.methodLink RX2 81 yX2_both, Cond.instanceMethod yX2_both, Cond.selects RX2 yX2_both yX2_both, Cond.code yX2_both cX2_both 8 (some .int), Cond.methodLink RX2 73 yX2_does, Cond.instanceMethod yX2_does, Cond.selects RX2 yX2_does yX2_does, Cond.code yX2_does cX2_does 8 (some .boolean), Cond.fieldLink RX2 25 "TwinOrchardModel" "numbers" "[I", Cond.fieldLink RX2 63 "TwinOrchardModel" "COSTS" "[I", Cond.methodLink RX2 66 yX2_can, Cond.instanceMethod yX2_can, Cond.selects RX2 yX2_can yX2_can, Cond.code yX2_can cX2_can 5 (some .boolean), Cond.methodLink RX2 44 yX2_tr, Cond.instanceMethod yX2_tr]
def wsX2_fell_r2 : List Cond := [Cond.selects RX2 yX2_tr yX2_tr, Cond.code yX2_tr cX2_tr 3 (some .int), Cond.fieldLink RX2 19 "TwinOrchardModel" "trees" "[I", Cond.methodLink RX2 69 yX2_change, Cond.instanceMethod yX2_change, Cond.selects RX2 yX2_change yX2_change, Cond.code yX2_change cX2_change 7 none, Cond.arrayClass .int, Cond.methodLink RX2 48 arraycopyName, Cond.native arraycopyName, Cond.static arraycopyName, Cond.initialized "java/lang/System", Cond.methodLink RX2 58 Lib.Math.max.name, Cond.static Lib.Math.max.name, Cond.initialized "java/lang/Math", Cond.code Lib.Math.max.name Lib.Math.max.code 2 (some .int), Cond.methodLink RX2 54 yX2_set, Cond.instanceMethod yX2_set, Cond.selects RX2 yX2_set yX2_set, Cond.code yX2_set cX2_set 4 none, Cond.methodLink RX2 40 yX2_fail, Cond.instanceMethod yX2_fail, Cond.selects RX2 yX2_fail yX2_fail, Cond.code yX2_fail cX2_fail 2 (some .int)]
def wsX2_fell : List Cond := .code yX2_fell cX2_fell 3 (some .int) :: ((wsX2_fell_r1 ++ wsX2_fell_r2) ++ wsX20)
def wsX2_apples : List Cond := .code yX2_apples cX2_apples 3 (some .int) :: ([.methodLink RX2 44 yX2_tr, .instanceMethod yX2_tr, .selects RX2 yX2_tr yX2_tr, .initialized RX2, .code yX2_tr cX2_tr 3 (some .int), .fieldLink RX2 19 "TwinOrchardModel" "trees" "[I"] ++ wsX20)
def wsX2_treeTold : List Cond := .code yX2_treeTold cX2_treeTold 3 (some .int) :: ([.methodLink RX2 85 yX2_apples, .instanceMethod yX2_apples, .selects RX2 yX2_apples yX2_apples, .initialized RX2, .code yX2_apples cX2_apples 3 (some .int), .methodLink RX2 44 yX2_tr, .instanceMethod yX2_tr, .selects RX2 yX2_tr yX2_tr, .code yX2_tr cX2_tr 3 (some .int), .fieldLink RX2 19 "TwinOrchardModel" "trees" "[I"] ++ wsX20)
def wsX2_tree_r1 : List Cond := [Cond.fieldLink RX2 28 "TwinOrchardModel" "thrown" "I", Cond.methodLink RX2 77 yX2_isSpot, Cond.static yX2_isSpot, Cond.initialized RX2, Cond.code yX2_isSpot cX2_isSpot 2 (some .boolean), Cond.methodLink RX2 32 yX2_isIn, Cond.static yX2_isIn, Cond.code yX2_isIn cX2_isIn 3 (some .boolean), Cond.methodLink RX2 88 yX2_treeTold, Cond.instanceMethod yX2_treeTold, Cond.selects RX2 yX2_treeTold yX2_treeTold, Cond.code yX2_treeTold cX2_treeTold 3 (some .int), Cond.methodLink RX2 85 yX2_apples, Cond.instanceMethod yX2_apples, Cond.selects RX2 yX2_apples yX2_apples, Cond.code yX2_apples cX2_apples 3 (some .int), Cond.methodLink RX2 44 yX2_tr, Cond.instanceMethod yX2_tr, Cond.selects RX2 yX2_tr yX2_tr, Cond.code yX2_tr cX2_tr 3 (some .int), Cond.fieldLink RX2 19 "TwinOrchardModel" "trees" "[I", Cond.methodLink RX2 40 yX2_fail, Cond.instanceMethod yX2_fail, Cond.selects RX2 yX2_fail yX2_fail]
def wsX2_tree_r2 : List Cond := [Cond.code yX2_fail cX2_fail 2 (some .int)]
def wsX2_tree : List Cond := .code yX2_tree cX2_tree 4 (some .int) :: ((wsX2_tree_r1 ++ wsX2_tree_r2) ++ wsX20)
def wsX2_sortTold : List Cond := .code yX2_sortTold cX2_sortTold 5 (some .int) :: ([.fieldLink RX2 9 "TwinOrchardModel" "weights" "[I", .fieldLink RX2 13 "TwinOrchardModel" "bears" "[I", .fieldLink RX2 22 "TwinOrchardModel" "barn" "[I", .methodLink RX2 44 yX2_tr, .instanceMethod yX2_tr, .selects RX2 yX2_tr yX2_tr, .initialized RX2, .code yX2_tr cX2_tr 3 (some .int), .fieldLink RX2 19 "TwinOrchardModel" "trees" "[I"] ++ wsX20)
def wsX2_sort : List Cond := .code yX2_sort cX2_sort 3 (some .int) :: ([.fieldLink RX2 28 "TwinOrchardModel" "thrown" "I", .methodLink RX2 36 yX2_isSort, .static yX2_isSort, .initialized RX2, .code yX2_isSort cX2_isSort 1 (some .boolean), .methodLink RX2 32 yX2_isIn, .static yX2_isIn, .code yX2_isIn cX2_isIn 3 (some .boolean), .methodLink RX2 91 yX2_sortTold, .instanceMethod yX2_sortTold, .selects RX2 yX2_sortTold yX2_sortTold, .code yX2_sortTold cX2_sortTold 5 (some .int), .fieldLink RX2 9 "TwinOrchardModel" "weights" "[I", .fieldLink RX2 13 "TwinOrchardModel" "bears" "[I", .fieldLink RX2 22 "TwinOrchardModel" "barn" "[I", .methodLink RX2 44 yX2_tr, .instanceMethod yX2_tr, .selects RX2 yX2_tr yX2_tr, .code yX2_tr cX2_tr 3 (some .int), .fieldLink RX2 19 "TwinOrchardModel" "trees" "[I", .methodLink RX2 40 yX2_fail, .instanceMethod yX2_fail, .selects RX2 yX2_fail yX2_fail, .code yX2_fail cX2_fail 2 (some .int)] ++ wsX20)
def wsX2_all : List Cond := .code yX2_all cX2_all 4 (some .int) :: ([.methodLink RX2 44 yX2_tr, .instanceMethod yX2_tr, .selects RX2 yX2_tr yX2_tr, .initialized RX2, .code yX2_tr cX2_tr 3 (some .int), .fieldLink RX2 19 "TwinOrchardModel" "trees" "[I"] ++ wsX20)
def wsX2_counted : List Cond := .code yX2_counted cX2_counted 6 (some .int) :: ([.fieldLink RX2 25 "TwinOrchardModel" "numbers" "[I", .fieldLink RX2 22 "TwinOrchardModel" "barn" "[I", .fieldLink RX2 9 "TwinOrchardModel" "weights" "[I", .methodLink RX2 94 yX2_all, .instanceMethod yX2_all, .selects RX2 yX2_all yX2_all, .initialized RX2, .code yX2_all cX2_all 4 (some .int), .methodLink RX2 44 yX2_tr, .instanceMethod yX2_tr, .selects RX2 yX2_tr yX2_tr, .code yX2_tr cX2_tr 3 (some .int), .fieldLink RX2 19 "TwinOrchardModel" "trees" "[I"] ++ wsX20)
def wsX2_count_r1 : List Cond := [Cond.fieldLink RX2 28 "TwinOrchardModel" "thrown" "I", Cond.methodLink RX2 32 yX2_isIn, Cond.static yX2_isIn, Cond.initialized RX2, Cond.code yX2_isIn cX2_isIn 3 (some .boolean), Cond.methodLink RX2 97 yX2_counted, Cond.instanceMethod yX2_counted, Cond.selects RX2 yX2_counted yX2_counted, Cond.code yX2_counted cX2_counted 6 (some .int), Cond.fieldLink RX2 25 "TwinOrchardModel" "numbers" "[I", Cond.fieldLink RX2 22 "TwinOrchardModel" "barn" "[I", Cond.fieldLink RX2 9 "TwinOrchardModel" "weights" "[I", Cond.methodLink RX2 94 yX2_all, Cond.instanceMethod yX2_all, Cond.selects RX2 yX2_all yX2_all, Cond.code yX2_all cX2_all 4 (some .int), Cond.methodLink RX2 44 yX2_tr, Cond.instanceMethod yX2_tr, Cond.selects RX2 yX2_tr yX2_tr, Cond.code yX2_tr cX2_tr 3 (some .int), Cond.fieldLink RX2 19 "TwinOrchardModel" "trees" "[I", Cond.methodLink RX2 40 yX2_fail, Cond.instanceMethod yX2_fail, Cond.selects RX2 yX2_fail yX2_fail]
def wsX2_count_r2 : List Cond := [Cond.code yX2_fail cX2_fail 2 (some .int)]
def wsX2_count : List Cond := .code yX2_count cX2_count 2 (some .int) :: ((wsX2_count_r1 ++ wsX2_count_r2) ++ wsX20)
def wsX2_leans : List Cond := .code yX2_leans cX2_leans 4 (some .int) :: ([.fieldLink RX2 28 "TwinOrchardModel" "thrown" "I", .methodLink RX2 32 yX2_isIn, .static yX2_isIn, .initialized RX2, .code yX2_isIn cX2_isIn 3 (some .boolean), .methodLink RX2 40 yX2_fail, .instanceMethod yX2_fail, .selects RX2 yX2_fail yX2_fail, .code yX2_fail cX2_fail 2 (some .int), .methodLink RX2 85 yX2_apples, .instanceMethod yX2_apples, .selects RX2 yX2_apples yX2_apples, .code yX2_apples cX2_apples 3 (some .int), .methodLink RX2 44 yX2_tr, .instanceMethod yX2_tr, .selects RX2 yX2_tr yX2_tr, .code yX2_tr cX2_tr 3 (some .int), .fieldLink RX2 19 "TwinOrchardModel" "trees" "[I"] ++ wsX20)
def wsX2_carry : List Cond := .code yX2_carry cX2_carry 4 (some .int) :: ([.fieldLink RX2 28 "TwinOrchardModel" "thrown" "I", .fieldLink RX2 22 "TwinOrchardModel" "barn" "[I", .fieldLink RX2 100 "TwinOrchardModel" "tilt" "I", .fieldLink RX2 9 "TwinOrchardModel" "weights" "[I", .methodLink RX2 36 yX2_isSort, .static yX2_isSort, .initialized RX2, .code yX2_isSort cX2_isSort 1 (some .boolean), .methodLink RX2 32 yX2_isIn, .static yX2_isIn, .code yX2_isIn cX2_isIn 3 (some .boolean), .methodLink RX2 40 yX2_fail, .instanceMethod yX2_fail, .selects RX2 yX2_fail yX2_fail, .code yX2_fail cX2_fail 2 (some .int)] ++ wsX20)
def wsX2_tilt : List Cond := .code yX2_tilt cX2_tilt 1 (some .int) :: ([.fieldLink RX2 28 "TwinOrchardModel" "thrown" "I", .fieldLink RX2 100 "TwinOrchardModel" "tilt" "I"] ++ wsX20)
def wsX2_balance : List Cond := .code yX2_balance cX2_balance 6 (some .int) :: ([.fieldLink RX2 28 "TwinOrchardModel" "thrown" "I", .fieldLink RX2 9 "TwinOrchardModel" "weights" "[I", .fieldLink RX2 22 "TwinOrchardModel" "barn" "[I", .methodLink RX2 103 Lib.Math.min.name, .static Lib.Math.min.name, .initialized "java/lang/Math", .code Lib.Math.min.name Lib.Math.min.code 2 (some .int), .arrayClass .boolean] ++ wsX20)
def wsX2_yearOn_r1 : List Cond := [Cond.fieldLink RX2 16 "TwinOrchardModel" "frosts" "[I", Cond.fieldLink RX2 25 "TwinOrchardModel" "numbers" "[I", Cond.fieldLink RX2 13 "TwinOrchardModel" "bears" "[I", Cond.methodLink RX2 58 Lib.Math.max.name, Cond.static Lib.Math.max.name, Cond.initialized "java/lang/Math", Cond.code Lib.Math.max.name Lib.Math.max.code 2 (some .int), Cond.fieldLink RX2 22 "TwinOrchardModel" "barn" "[I", Cond.methodLink RX2 103 Lib.Math.min.name, Cond.static Lib.Math.min.name, Cond.code Lib.Math.min.name Lib.Math.min.code 2 (some .int), Cond.methodLink RX2 44 yX2_tr, Cond.instanceMethod yX2_tr, Cond.selects RX2 yX2_tr yX2_tr, Cond.initialized RX2, Cond.code yX2_tr cX2_tr 3 (some .int), Cond.fieldLink RX2 19 "TwinOrchardModel" "trees" "[I", Cond.methodLink RX2 54 yX2_set, Cond.instanceMethod yX2_set, Cond.selects RX2 yX2_set yX2_set, Cond.code yX2_set cX2_set 4 none, Cond.methodLink RX2 85 yX2_apples, Cond.instanceMethod yX2_apples, Cond.selects RX2 yX2_apples yX2_apples]
def wsX2_yearOn_r2 : List Cond := [Cond.code yX2_apples cX2_apples 3 (some .int)]
def wsX2_yearOn : List Cond := .code yX2_yearOn cX2_yearOn 6 (some .int) :: ((wsX2_yearOn_r1 ++ wsX2_yearOn_r2) ++ wsX20)
def wsX2_yearsOn_r1 : List Cond := [Cond.methodLink RX2 106 yX2_yearOn, Cond.instanceMethod yX2_yearOn, Cond.selects RX2 yX2_yearOn yX2_yearOn, Cond.initialized RX2, Cond.code yX2_yearOn cX2_yearOn 6 (some .int), Cond.fieldLink RX2 16 "TwinOrchardModel" "frosts" "[I", Cond.fieldLink RX2 25 "TwinOrchardModel" "numbers" "[I", Cond.fieldLink RX2 13 "TwinOrchardModel" "bears" "[I", Cond.methodLink RX2 58 Lib.Math.max.name, Cond.static Lib.Math.max.name, Cond.initialized "java/lang/Math", Cond.code Lib.Math.max.name Lib.Math.max.code 2 (some .int), Cond.fieldLink RX2 22 "TwinOrchardModel" "barn" "[I", Cond.methodLink RX2 103 Lib.Math.min.name, Cond.static Lib.Math.min.name, Cond.code Lib.Math.min.name Lib.Math.min.code 2 (some .int), Cond.methodLink RX2 44 yX2_tr, Cond.instanceMethod yX2_tr, Cond.selects RX2 yX2_tr yX2_tr, Cond.code yX2_tr cX2_tr 3 (some .int), Cond.fieldLink RX2 19 "TwinOrchardModel" "trees" "[I", Cond.methodLink RX2 54 yX2_set, Cond.instanceMethod yX2_set, Cond.selects RX2 yX2_set yX2_set]
def wsX2_yearsOn_r2 : List Cond := [Cond.code yX2_set cX2_set 4 none, Cond.methodLink RX2 85 yX2_apples, Cond.instanceMethod yX2_apples, Cond.selects RX2 yX2_apples yX2_apples, Cond.code yX2_apples cX2_apples 3 (some .int)]
def wsX2_yearsOn : List Cond := .code yX2_yearsOn cX2_yearsOn 4 (some .int) :: ((wsX2_yearsOn_r1 ++ wsX2_yearsOn_r2) ++ wsX20)
def wsX2_pass_r1 : List Cond := [Cond.fieldLink RX2 28 "TwinOrchardModel" "thrown" "I", Cond.methodLink RX2 32 yX2_isIn, Cond.static yX2_isIn, Cond.initialized RX2, Cond.code yX2_isIn cX2_isIn 3 (some .boolean), Cond.methodLink RX2 110 yX2_yearsOn, Cond.instanceMethod yX2_yearsOn, Cond.selects RX2 yX2_yearsOn yX2_yearsOn, Cond.code yX2_yearsOn cX2_yearsOn 4 (some .int), Cond.methodLink RX2 106 yX2_yearOn, Cond.instanceMethod yX2_yearOn, Cond.selects RX2 yX2_yearOn yX2_yearOn, Cond.code yX2_yearOn cX2_yearOn 6 (some .int), Cond.fieldLink RX2 16 "TwinOrchardModel" "frosts" "[I", Cond.fieldLink RX2 25 "TwinOrchardModel" "numbers" "[I", Cond.fieldLink RX2 13 "TwinOrchardModel" "bears" "[I", Cond.methodLink RX2 58 Lib.Math.max.name, Cond.static Lib.Math.max.name, Cond.initialized "java/lang/Math", Cond.code Lib.Math.max.name Lib.Math.max.code 2 (some .int), Cond.fieldLink RX2 22 "TwinOrchardModel" "barn" "[I", Cond.methodLink RX2 103 Lib.Math.min.name, Cond.static Lib.Math.min.name, Cond.code Lib.Math.min.name Lib.Math.min.code 2 (some .int)]
def wsX2_pass_r2 : List Cond := [Cond.methodLink RX2 44 yX2_tr, Cond.instanceMethod yX2_tr, Cond.selects RX2 yX2_tr yX2_tr, Cond.code yX2_tr cX2_tr 3 (some .int), Cond.fieldLink RX2 19 "TwinOrchardModel" "trees" "[I", Cond.methodLink RX2 54 yX2_set, Cond.instanceMethod yX2_set, Cond.selects RX2 yX2_set yX2_set, Cond.code yX2_set cX2_set 4 none, Cond.methodLink RX2 85 yX2_apples, Cond.instanceMethod yX2_apples, Cond.selects RX2 yX2_apples yX2_apples, Cond.code yX2_apples cX2_apples 3 (some .int), Cond.methodLink RX2 40 yX2_fail, Cond.instanceMethod yX2_fail, Cond.selects RX2 yX2_fail yX2_fail, Cond.code yX2_fail cX2_fail 2 (some .int)]
def wsX2_pass : List Cond := .code yX2_pass cX2_pass 2 (some .int) :: ((wsX2_pass_r1 ++ wsX2_pass_r2) ++ wsX20)
def wsX2_kept : List Cond := .code yX2_kept cX2_kept 1 (some (.array (.array .int))) :: ([.classLink RX2 113 "[I", .fieldLink RX2 19 "TwinOrchardModel" "trees" "[I", .methodLink RX2 114 ⟨"[I", "clone", "()Ljava/lang/Object;"⟩, .sameMethod "[I" "java/lang/Object" "clone" "()Ljava/lang/Object;", .native ⟨"java/lang/Object", "clone", "()Ljava/lang/Object;"⟩, .instanceMethod ⟨"java/lang/Object", "clone", "()Ljava/lang/Object;"⟩, .selects "[I" ⟨"[I", "clone", "()Ljava/lang/Object;"⟩ ⟨"java/lang/Object", "clone", "()Ljava/lang/Object;"⟩, .fieldLink RX2 22 "TwinOrchardModel" "barn" "[I", .fieldLink RX2 25 "TwinOrchardModel" "numbers" "[I"] ++ wsX20)
def wsX2_bringBack : List Cond := .code yX2_bringBack cX2_bringBack 4 none :: ([.classLink RX2 113 "[I", .fieldLink RX2 19 "TwinOrchardModel" "trees" "[I", .fieldLink RX2 22 "TwinOrchardModel" "barn" "[I", .fieldLink RX2 25 "TwinOrchardModel" "numbers" "[I", .methodLink RX2 48 arraycopyName, .native arraycopyName, .static arraycopyName, .initialized "java/lang/System"] ++ wsX20)
def wsX2_foresee_r1 : List Cond := [Cond.fieldLink RX2 28 "TwinOrchardModel" "thrown" "I", Cond.methodLink RX2 32 yX2_isIn, Cond.static yX2_isIn, Cond.initialized RX2, Cond.code yX2_isIn cX2_isIn 3 (some .boolean), Cond.methodLink RX2 40 yX2_fail, Cond.instanceMethod yX2_fail, Cond.selects RX2 yX2_fail yX2_fail, Cond.code yX2_fail cX2_fail 2 (some .int), Cond.methodLink RX2 118 yX2_kept, Cond.instanceMethod yX2_kept, Cond.selects RX2 yX2_kept yX2_kept, Cond.code yX2_kept cX2_kept 1 (some (.array (.array .int))), Cond.classLink RX2 113 "[I", Cond.fieldLink RX2 19 "TwinOrchardModel" "trees" "[I", Cond.methodLink RX2 114 ⟨"[I", "clone", "()Ljava/lang/Object;"⟩, Cond.sameMethod "[I" "java/lang/Object" "clone" "()Ljava/lang/Object;", Cond.native ⟨"java/lang/Object", "clone", "()Ljava/lang/Object;"⟩, Cond.instanceMethod ⟨"java/lang/Object", "clone", "()Ljava/lang/Object;"⟩, Cond.selects "[I" ⟨"[I", "clone", "()Ljava/lang/Object;"⟩ ⟨"java/lang/Object", "clone", "()Ljava/lang/Object;"⟩, Cond.fieldLink RX2 22 "TwinOrchardModel" "barn" "[I", Cond.fieldLink RX2 25 "TwinOrchardModel" "numbers" "[I", Cond.methodLink RX2 110 yX2_yearsOn, Cond.instanceMethod yX2_yearsOn]
def wsX2_foresee_r2 : List Cond := [Cond.selects RX2 yX2_yearsOn yX2_yearsOn, Cond.code yX2_yearsOn cX2_yearsOn 4 (some .int), Cond.methodLink RX2 106 yX2_yearOn, Cond.instanceMethod yX2_yearOn, Cond.selects RX2 yX2_yearOn yX2_yearOn, Cond.code yX2_yearOn cX2_yearOn 6 (some .int), Cond.fieldLink RX2 16 "TwinOrchardModel" "frosts" "[I", Cond.fieldLink RX2 13 "TwinOrchardModel" "bears" "[I", Cond.methodLink RX2 58 Lib.Math.max.name, Cond.static Lib.Math.max.name, Cond.initialized "java/lang/Math", Cond.code Lib.Math.max.name Lib.Math.max.code 2 (some .int), Cond.methodLink RX2 103 Lib.Math.min.name, Cond.static Lib.Math.min.name, Cond.code Lib.Math.min.name Lib.Math.min.code 2 (some .int), Cond.methodLink RX2 44 yX2_tr, Cond.instanceMethod yX2_tr, Cond.selects RX2 yX2_tr yX2_tr, Cond.code yX2_tr cX2_tr 3 (some .int), Cond.methodLink RX2 54 yX2_set, Cond.instanceMethod yX2_set, Cond.selects RX2 yX2_set yX2_set, Cond.code yX2_set cX2_set 4 none, Cond.methodLink RX2 85 yX2_apples]
def wsX2_foresee_r3 : List Cond := [Cond.instanceMethod yX2_apples, Cond.selects RX2 yX2_apples yX2_apples, Cond.code yX2_apples cX2_apples 3 (some .int), Cond.methodLink RX2 94 yX2_all, Cond.instanceMethod yX2_all, Cond.selects RX2 yX2_all yX2_all, Cond.code yX2_all cX2_all 4 (some .int), Cond.methodLink RX2 122 yX2_bringBack, Cond.instanceMethod yX2_bringBack, Cond.selects RX2 yX2_bringBack yX2_bringBack, Cond.code yX2_bringBack cX2_bringBack 4 none, Cond.methodLink RX2 48 arraycopyName, Cond.native arraycopyName, Cond.static arraycopyName, Cond.initialized "java/lang/System"]
def wsX2_foresee : List Cond := .code yX2_foresee cX2_foresee 6 (some .int) :: ((wsX2_foresee_r1 ++ (wsX2_foresee_r2 ++ wsX2_foresee_r3)) ++ wsX20)
def wsX2_advise_r1 : List Cond := [Cond.fieldLink RX2 28 "TwinOrchardModel" "thrown" "I", Cond.methodLink RX2 32 yX2_isIn, Cond.static yX2_isIn, Cond.initialized RX2, Cond.code yX2_isIn cX2_isIn 3 (some .boolean), Cond.methodLink RX2 40 yX2_fail, Cond.instanceMethod yX2_fail, Cond.selects RX2 yX2_fail yX2_fail, Cond.code yX2_fail cX2_fail 2 (some .int), Cond.methodLink RX2 118 yX2_kept, Cond.instanceMethod yX2_kept, Cond.selects RX2 yX2_kept yX2_kept, Cond.code yX2_kept cX2_kept 1 (some (.array (.array .int))), Cond.classLink RX2 113 "[I", Cond.fieldLink RX2 19 "TwinOrchardModel" "trees" "[I", Cond.methodLink RX2 114 ⟨"[I", "clone", "()Ljava/lang/Object;"⟩, Cond.sameMethod "[I" "java/lang/Object" "clone" "()Ljava/lang/Object;", Cond.native ⟨"java/lang/Object", "clone", "()Ljava/lang/Object;"⟩, Cond.instanceMethod ⟨"java/lang/Object", "clone", "()Ljava/lang/Object;"⟩, Cond.selects "[I" ⟨"[I", "clone", "()Ljava/lang/Object;"⟩ ⟨"java/lang/Object", "clone", "()Ljava/lang/Object;"⟩, Cond.fieldLink RX2 22 "TwinOrchardModel" "barn" "[I", Cond.fieldLink RX2 25 "TwinOrchardModel" "numbers" "[I", Cond.methodLink RX2 110 yX2_yearsOn, Cond.instanceMethod yX2_yearsOn]
def wsX2_advise_r2 : List Cond := [Cond.selects RX2 yX2_yearsOn yX2_yearsOn, Cond.code yX2_yearsOn cX2_yearsOn 4 (some .int), Cond.methodLink RX2 106 yX2_yearOn, Cond.instanceMethod yX2_yearOn, Cond.selects RX2 yX2_yearOn yX2_yearOn, Cond.code yX2_yearOn cX2_yearOn 6 (some .int), Cond.fieldLink RX2 16 "TwinOrchardModel" "frosts" "[I", Cond.fieldLink RX2 13 "TwinOrchardModel" "bears" "[I", Cond.methodLink RX2 58 Lib.Math.max.name, Cond.static Lib.Math.max.name, Cond.initialized "java/lang/Math", Cond.code Lib.Math.max.name Lib.Math.max.code 2 (some .int), Cond.methodLink RX2 103 Lib.Math.min.name, Cond.static Lib.Math.min.name, Cond.code Lib.Math.min.name Lib.Math.min.code 2 (some .int), Cond.methodLink RX2 44 yX2_tr, Cond.instanceMethod yX2_tr, Cond.selects RX2 yX2_tr yX2_tr, Cond.code yX2_tr cX2_tr 3 (some .int), Cond.methodLink RX2 54 yX2_set, Cond.instanceMethod yX2_set, Cond.selects RX2 yX2_set yX2_set, Cond.code yX2_set cX2_set 4 none, Cond.methodLink RX2 85 yX2_apples]
def wsX2_advise_r3 : List Cond := [Cond.instanceMethod yX2_apples, Cond.selects RX2 yX2_apples yX2_apples, Cond.code yX2_apples cX2_apples 3 (some .int), Cond.methodLink RX2 122 yX2_bringBack, Cond.instanceMethod yX2_bringBack, Cond.selects RX2 yX2_bringBack yX2_bringBack, Cond.code yX2_bringBack cX2_bringBack 4 none, Cond.methodLink RX2 48 arraycopyName, Cond.native arraycopyName, Cond.static arraycopyName, Cond.initialized "java/lang/System", Cond.methodLink RX2 81 yX2_both, Cond.instanceMethod yX2_both, Cond.selects RX2 yX2_both yX2_both, Cond.code yX2_both cX2_both 8 (some .int), Cond.methodLink RX2 73 yX2_does, Cond.instanceMethod yX2_does, Cond.selects RX2 yX2_does yX2_does, Cond.code yX2_does cX2_does 8 (some .boolean), Cond.fieldLink RX2 63 "TwinOrchardModel" "COSTS" "[I", Cond.methodLink RX2 66 yX2_can, Cond.instanceMethod yX2_can, Cond.selects RX2 yX2_can yX2_can, Cond.code yX2_can cX2_can 5 (some .boolean)]
def wsX2_advise_r4 : List Cond := [Cond.methodLink RX2 69 yX2_change, Cond.instanceMethod yX2_change, Cond.selects RX2 yX2_change yX2_change, Cond.code yX2_change cX2_change 7 none, Cond.arrayClass .int]
def wsX2_advise : List Cond := .code yX2_advise cX2_advise 8 (some .int) :: ((wsX2_advise_r1 ++ (wsX2_advise_r2 ++ (wsX2_advise_r3 ++ wsX2_advise_r4))) ++ wsX20)
def wsX2_mean : List Cond := .code yX2_mean cX2_mean 1 (some .double) :: ([.fieldLink RX2 28 "TwinOrchardModel" "thrown" "I", .methodLink RX2 94 yX2_all, .instanceMethod yX2_all, .selects RX2 yX2_all yX2_all, .initialized RX2, .code yX2_all cX2_all 4 (some .int), .methodLink RX2 44 yX2_tr, .instanceMethod yX2_tr, .selects RX2 yX2_tr yX2_tr, .code yX2_tr cX2_tr 3 (some .int), .fieldLink RX2 19 "TwinOrchardModel" "trees" "[I"] ++ wsX20)
def wsX2_digest_r1 : List Cond := [Cond.fieldLink RX2 28 "TwinOrchardModel" "thrown" "I", Cond.constantLong RX2 126 (863), Cond.constantLong RX2 128 (31), Cond.fieldLink RX2 16 "TwinOrchardModel" "frosts" "[I", Cond.fieldLink RX2 100 "TwinOrchardModel" "tilt" "I", Cond.methodLink RX2 97 yX2_counted, Cond.instanceMethod yX2_counted, Cond.selects RX2 yX2_counted yX2_counted, Cond.initialized RX2, Cond.code yX2_counted cX2_counted 6 (some .int), Cond.fieldLink RX2 25 "TwinOrchardModel" "numbers" "[I", Cond.fieldLink RX2 22 "TwinOrchardModel" "barn" "[I", Cond.fieldLink RX2 9 "TwinOrchardModel" "weights" "[I", Cond.methodLink RX2 94 yX2_all, Cond.instanceMethod yX2_all, Cond.selects RX2 yX2_all yX2_all, Cond.code yX2_all cX2_all 4 (some .int), Cond.methodLink RX2 44 yX2_tr, Cond.instanceMethod yX2_tr, Cond.selects RX2 yX2_tr yX2_tr, Cond.code yX2_tr cX2_tr 3 (some .int), Cond.fieldLink RX2 19 "TwinOrchardModel" "trees" "[I", Cond.methodLink RX2 91 yX2_sortTold, Cond.instanceMethod yX2_sortTold]
def wsX2_digest_r2 : List Cond := [Cond.selects RX2 yX2_sortTold yX2_sortTold, Cond.code yX2_sortTold cX2_sortTold 5 (some .int), Cond.fieldLink RX2 13 "TwinOrchardModel" "bears" "[I", Cond.methodLink RX2 88 yX2_treeTold, Cond.instanceMethod yX2_treeTold, Cond.selects RX2 yX2_treeTold yX2_treeTold, Cond.code yX2_treeTold cX2_treeTold 3 (some .int), Cond.methodLink RX2 85 yX2_apples, Cond.instanceMethod yX2_apples, Cond.selects RX2 yX2_apples yX2_apples, Cond.code yX2_apples cX2_apples 3 (some .int)]
def wsX2_digest : List Cond := .code yX2_digest cX2_digest 7 (some .long) :: ((wsX2_digest_r1 ++ wsX2_digest_r2) ++ wsX20)
def wsJ9_max_7cf53 : List Cond := .code yJ9_max_7cf53 cJ9_max_7cf53 2 (some .int) :: ([])
def wsJ9_min_7cf53 : List Cond := .code yJ9_min_7cf53 cJ9_min_7cf53 2 (some .int) :: ([])
def wsL_setSort : List Cond := .codeWith yL_setSort cL_setSort 6 (some .int) [(0, 12, 15, 13), (0, 12, 19, 15)] :: ([.classLink RL 13 "java/lang/IndexOutOfBoundsException", .classLink RL 15 "java/lang/IllegalArgumentException", .methodLink RL 7 yX1_setSort, .instanceMethod yX1_setSort, .selects RX1 yX1_setSort yX1_setSort, .initialized RX1, .code yX1_setSort cX1_setSort 5 (some .int), .classLink RX1 65 "java/lang/IndexOutOfBoundsException", .initialized "java/lang/IndexOutOfBoundsException", .classLink RX1 76 "java/lang/IllegalArgumentException", .initialized "java/lang/IllegalArgumentException", .fieldLink RX1 9 "TwinOrchard" "weights" "[I", .fieldLink RX1 13 "TwinOrchard" "hardiness" "[I", .methodLink RX1 61 yX1_isSort, .static yX1_isSort, .code yX1_isSort cX1_isSort 1 (some .boolean), .methodLink RX1 72 yX1_isWithin, .static yX1_isWithin, .code yX1_isWithin cX1_isWithin 3 (some .boolean)] ++ wsX10 ++ (vx_atS RX1 69 "java/lang/IndexOutOfBoundsException" ["java/lang/RuntimeException", "java/lang/Exception"]).filter goodWord ++ (vx_atS RX1 80 "java/lang/IllegalArgumentException" ["java/lang/RuntimeException", "java/lang/Exception"]).filter goodWord)
def wsL_setFrost : List Cond := .codeWith yL_setFrost cL_setFrost 5 (some .int) [(0, 10, 13, 13), (0, 10, 17, 15)] :: ([.classLink RL 13 "java/lang/IndexOutOfBoundsException", .classLink RL 15 "java/lang/IllegalArgumentException", .methodLink RL 17 yX1_setFrost, .instanceMethod yX1_setFrost, .selects RX1 yX1_setFrost yX1_setFrost, .initialized RX1, .code yX1_setFrost cX1_setFrost 4 (some .int), .classLink RX1 65 "java/lang/IndexOutOfBoundsException", .initialized "java/lang/IndexOutOfBoundsException", .classLink RX1 76 "java/lang/IllegalArgumentException", .initialized "java/lang/IllegalArgumentException", .fieldLink RX1 19 "TwinOrchard" "frosts" "[I", .methodLink RX1 72 yX1_isWithin, .static yX1_isWithin, .code yX1_isWithin cX1_isWithin 3 (some .boolean)] ++ wsX10 ++ (vx_atS RX1 69 "java/lang/IndexOutOfBoundsException" ["java/lang/RuntimeException", "java/lang/Exception"]).filter goodWord ++ (vx_atS RX1 80 "java/lang/IllegalArgumentException" ["java/lang/RuntimeException", "java/lang/Exception"]).filter goodWord)
def wsL_plant_r1 : List Cond := [Cond.classLink RL 13 "java/lang/IndexOutOfBoundsException", Cond.classLink RL 15 "java/lang/IllegalArgumentException", Cond.methodLink RL 21 yX1_plant, Cond.instanceMethod yX1_plant, Cond.selects RX1 yX1_plant yX1_plant, Cond.initialized RX1, Cond.code yX1_plant cX1_plant 8 (some .int), Cond.classLink RX1 65 "java/lang/IndexOutOfBoundsException", Cond.initialized "java/lang/IndexOutOfBoundsException", Cond.classLink RX1 76 "java/lang/IllegalArgumentException", Cond.initialized "java/lang/IllegalArgumentException", Cond.methodLink RX1 85 yX1_isPlace, Cond.static yX1_isPlace, Cond.code yX1_isPlace cX1_isPlace 2 (some .boolean), Cond.methodLink RX1 72 yX1_isWithin, Cond.static yX1_isWithin, Cond.code yX1_isWithin cX1_isWithin 3 (some .boolean), Cond.methodLink RX1 61 yX1_isSort, Cond.static yX1_isSort, Cond.code yX1_isSort cX1_isSort 1 (some .boolean), Cond.methodLink RX1 93 yX1_spotOf, Cond.static yX1_spotOf, Cond.code yX1_spotOf cX1_spotOf 2 (some .int), Cond.methodLink RX1 97 yX1_plantAt]
def wsL_plant_r2 : List Cond := [Cond.instanceMethod yX1_plantAt, Cond.selects RX1 yX1_plantAt yX1_plantAt, Cond.code yX1_plantAt cX1_plantAt 4 (some .boolean), Cond.fieldLink RX1 22 "TwinOrchard" "kinds" "[I", Cond.fieldLink RX1 25 "TwinOrchard" "branches" "[I", Cond.fieldLink RX1 28 "TwinOrchard" "vigours" "[I", Cond.fieldLink RX1 31 "TwinOrchard" "tired" "[Z", Cond.methodLink RX1 121 yX1_hasTree, Cond.instanceMethod yX1_hasTree, Cond.selects RX1 yX1_hasTree yX1_hasTree, Cond.code yX1_hasTree cX1_hasTree 2 (some .boolean), Cond.methodLink RX1 205 yX1_canPay, Cond.instanceMethod yX1_canPay, Cond.selects RX1 yX1_canPay yX1_canPay, Cond.code yX1_canPay cX1_canPay 3 (some .boolean), Cond.fieldLink RX1 35 "TwinOrchard" "strength" "[I", Cond.methodLink RX1 202 yX1_twinOf, Cond.static yX1_twinOf, Cond.code yX1_twinOf cX1_twinOf 1 (some .int), Cond.methodLink RX1 208 yX1_pay, Cond.instanceMethod yX1_pay, Cond.selects RX1 yX1_pay yX1_pay, Cond.code yX1_pay cX1_pay 3 none, Cond.methodLink RX1 100 yX1_mirrorOf]
def wsL_plant_r3 : List Cond := [Cond.static yX1_mirrorOf, Cond.code yX1_mirrorOf cX1_mirrorOf 2 (some .int), Cond.methodLink RX1 104 yX1_whoDidIt, Cond.static yX1_whoDidIt, Cond.code yX1_whoDidIt cX1_whoDidIt 2 (some .int)]
def wsL_plant : List Cond := .codeWith yL_plant cL_plant 7 (some .int) [(0, 14, 17, 13), (0, 14, 21, 15)] :: ((wsL_plant_r1 ++ (wsL_plant_r2 ++ wsL_plant_r3)) ++ wsX10 ++ (vx_atS RX1 69 "java/lang/IndexOutOfBoundsException" ["java/lang/RuntimeException", "java/lang/Exception"]).filter goodWord ++ (vx_atS RX1 80 "java/lang/IllegalArgumentException" ["java/lang/RuntimeException", "java/lang/Exception"]).filter goodWord)
def wsL_prune_r1 : List Cond := [Cond.classLink RL 13 "java/lang/IndexOutOfBoundsException", Cond.classLink RL 15 "java/lang/IllegalArgumentException", Cond.methodLink RL 25 yX1_prune, Cond.instanceMethod yX1_prune, Cond.selects RX1 yX1_prune yX1_prune, Cond.initialized RX1, Cond.code yX1_prune cX1_prune 7 (some .int), Cond.classLink RX1 65 "java/lang/IndexOutOfBoundsException", Cond.initialized "java/lang/IndexOutOfBoundsException", Cond.classLink RX1 76 "java/lang/IllegalArgumentException", Cond.initialized "java/lang/IllegalArgumentException", Cond.methodLink RX1 85 yX1_isPlace, Cond.static yX1_isPlace, Cond.code yX1_isPlace cX1_isPlace 2 (some .boolean), Cond.methodLink RX1 72 yX1_isWithin, Cond.static yX1_isWithin, Cond.code yX1_isWithin cX1_isWithin 3 (some .boolean), Cond.methodLink RX1 93 yX1_spotOf, Cond.static yX1_spotOf, Cond.code yX1_spotOf cX1_spotOf 2 (some .int), Cond.methodLink RX1 110 yX1_pruneAt, Cond.instanceMethod yX1_pruneAt, Cond.selects RX1 yX1_pruneAt yX1_pruneAt, Cond.code yX1_pruneAt cX1_pruneAt 3 (some .boolean)]
def wsL_prune_r2 : List Cond := [Cond.fieldLink RX1 48 "TwinOrchard" "looked" "LTwinOrchard$Tree;", Cond.methodLink RX1 212 yX1_canPrune, Cond.instanceMethod yX1_canPrune, Cond.selects RX1 yX1_canPrune yX1_canPrune, Cond.code yX1_canPrune cX1_canPrune 3 (some .boolean), Cond.fieldLink RX1 25 "TwinOrchard" "branches" "[I", Cond.methodLink RX1 121 yX1_hasTree, Cond.instanceMethod yX1_hasTree, Cond.selects RX1 yX1_hasTree yX1_hasTree, Cond.code yX1_hasTree cX1_hasTree 2 (some .boolean), Cond.fieldLink RX1 22 "TwinOrchard" "kinds" "[I", Cond.methodLink RX1 205 yX1_canPay, Cond.instanceMethod yX1_canPay, Cond.selects RX1 yX1_canPay yX1_canPay, Cond.code yX1_canPay cX1_canPay 3 (some .boolean), Cond.fieldLink RX1 35 "TwinOrchard" "strength" "[I", Cond.methodLink RX1 202 yX1_twinOf, Cond.static yX1_twinOf, Cond.code yX1_twinOf cX1_twinOf 1 (some .int), Cond.methodLink RX1 208 yX1_pay, Cond.instanceMethod yX1_pay, Cond.selects RX1 yX1_pay yX1_pay, Cond.code yX1_pay cX1_pay 3 none, Cond.methodLink RX1 170 yX1_lookAt]
def wsL_prune_r3 : List Cond := [Cond.instanceMethod yX1_lookAt, Cond.selects RX1 yX1_lookAt yX1_lookAt, Cond.code yX1_lookAt cX1_lookAt 2 none, Cond.fieldLink RX1 28 "TwinOrchard" "vigours" "[I", Cond.fieldLink RX1 31 "TwinOrchard" "tired" "[Z", Cond.fieldLink RX1 13 "TwinOrchard" "hardiness" "[I", Cond.instanceMethod yX0_shorten, Cond.initialized RX0, Cond.selects RX0 yX0_shorten yX0_shorten, Cond.code yX0_shorten cX0_shorten 2 none, Cond.fieldLink RX0 9 "TwinOrchard$Tree" "branches" "I", Cond.fieldLink RX0 15 "TwinOrchard$Tree" "tired" "Z", Cond.methodLink RX1 218 yX1_keepLooked, Cond.instanceMethod yX1_keepLooked, Cond.selects RX1 yX1_keepLooked yX1_keepLooked, Cond.code yX1_keepLooked cX1_keepLooked 2 none, Cond.methodLink RX1 100 yX1_mirrorOf, Cond.static yX1_mirrorOf, Cond.code yX1_mirrorOf cX1_mirrorOf 2 (some .int), Cond.methodLink RX1 104 yX1_whoDidIt, Cond.static yX1_whoDidIt, Cond.code yX1_whoDidIt cX1_whoDidIt 2 (some .int)]
def wsL_prune : List Cond := .codeWith yL_prune cL_prune 6 (some .int) [(0, 12, 15, 13), (0, 12, 19, 15)] :: ((wsL_prune_r1 ++ (wsL_prune_r2 ++ wsL_prune_r3)) ++ wsX10 ++ wsX00 ++ (vx_atS RX1 69 "java/lang/IndexOutOfBoundsException" ["java/lang/RuntimeException", "java/lang/Exception"]).filter goodWord ++ (vx_atS RX1 80 "java/lang/IllegalArgumentException" ["java/lang/RuntimeException", "java/lang/Exception"]).filter goodWord)
def wsL_graft_r1 : List Cond := [Cond.classLink RL 13 "java/lang/IndexOutOfBoundsException", Cond.classLink RL 15 "java/lang/IllegalArgumentException", Cond.methodLink RL 28 yX1_graft, Cond.instanceMethod yX1_graft, Cond.selects RX1 yX1_graft yX1_graft, Cond.initialized RX1, Cond.code yX1_graft cX1_graft 7 (some .int), Cond.classLink RX1 65 "java/lang/IndexOutOfBoundsException", Cond.initialized "java/lang/IndexOutOfBoundsException", Cond.classLink RX1 76 "java/lang/IllegalArgumentException", Cond.initialized "java/lang/IllegalArgumentException", Cond.methodLink RX1 85 yX1_isPlace, Cond.static yX1_isPlace, Cond.code yX1_isPlace cX1_isPlace 2 (some .boolean), Cond.methodLink RX1 72 yX1_isWithin, Cond.static yX1_isWithin, Cond.code yX1_isWithin cX1_isWithin 3 (some .boolean), Cond.methodLink RX1 61 yX1_isSort, Cond.static yX1_isSort, Cond.code yX1_isSort cX1_isSort 1 (some .boolean), Cond.methodLink RX1 93 yX1_spotOf, Cond.static yX1_spotOf, Cond.code yX1_spotOf cX1_spotOf 2 (some .int), Cond.methodLink RX1 113 yX1_graftAt]
def wsL_graft_r2 : List Cond := [Cond.instanceMethod yX1_graftAt, Cond.selects RX1 yX1_graftAt yX1_graftAt, Cond.code yX1_graftAt cX1_graftAt 3 (some .boolean), Cond.fieldLink RX1 22 "TwinOrchard" "kinds" "[I", Cond.fieldLink RX1 25 "TwinOrchard" "branches" "[I", Cond.methodLink RX1 221 Lib.Math.max.name, Cond.static Lib.Math.max.name, Cond.initialized "java/lang/Math", Cond.code Lib.Math.max.name Lib.Math.max.code 2 (some .int), Cond.methodLink RX1 121 yX1_hasTree, Cond.instanceMethod yX1_hasTree, Cond.selects RX1 yX1_hasTree yX1_hasTree, Cond.code yX1_hasTree cX1_hasTree 2 (some .boolean), Cond.methodLink RX1 205 yX1_canPay, Cond.instanceMethod yX1_canPay, Cond.selects RX1 yX1_canPay yX1_canPay, Cond.code yX1_canPay cX1_canPay 3 (some .boolean), Cond.fieldLink RX1 35 "TwinOrchard" "strength" "[I", Cond.methodLink RX1 202 yX1_twinOf, Cond.static yX1_twinOf, Cond.code yX1_twinOf cX1_twinOf 1 (some .int), Cond.methodLink RX1 208 yX1_pay, Cond.instanceMethod yX1_pay, Cond.selects RX1 yX1_pay yX1_pay]
def wsL_graft_r3 : List Cond := [Cond.code yX1_pay cX1_pay 3 none, Cond.methodLink RX1 100 yX1_mirrorOf, Cond.static yX1_mirrorOf, Cond.code yX1_mirrorOf cX1_mirrorOf 2 (some .int), Cond.methodLink RX1 104 yX1_whoDidIt, Cond.static yX1_whoDidIt, Cond.code yX1_whoDidIt cX1_whoDidIt 2 (some .int)]
def wsL_graft : List Cond := .codeWith yL_graft cL_graft 6 (some .int) [(0, 12, 15, 13), (0, 12, 19, 15)] :: ((wsL_graft_r1 ++ (wsL_graft_r2 ++ wsL_graft_r3)) ++ wsX10 ++ (vx_atS RX1 69 "java/lang/IndexOutOfBoundsException" ["java/lang/RuntimeException", "java/lang/Exception"]).filter goodWord ++ (vx_atS RX1 80 "java/lang/IllegalArgumentException" ["java/lang/RuntimeException", "java/lang/Exception"]).filter goodWord)
def wsL_fell_r1 : List Cond := [Cond.classLink RL 13 "java/lang/IndexOutOfBoundsException", Cond.methodLink RL 31 yX1_fell, Cond.instanceMethod yX1_fell, Cond.selects RX1 yX1_fell yX1_fell, Cond.initialized RX1, Cond.code yX1_fell cX1_fell 6 (some .int), Cond.classLink RX1 65 "java/lang/IndexOutOfBoundsException", Cond.initialized "java/lang/IndexOutOfBoundsException", Cond.methodLink RX1 85 yX1_isPlace, Cond.static yX1_isPlace, Cond.code yX1_isPlace cX1_isPlace 2 (some .boolean), Cond.methodLink RX1 72 yX1_isWithin, Cond.static yX1_isWithin, Cond.code yX1_isWithin cX1_isWithin 3 (some .boolean), Cond.methodLink RX1 93 yX1_spotOf, Cond.static yX1_spotOf, Cond.code yX1_spotOf cX1_spotOf 2 (some .int), Cond.methodLink RX1 116 yX1_fellAt, Cond.instanceMethod yX1_fellAt, Cond.selects RX1 yX1_fellAt yX1_fellAt, Cond.code yX1_fellAt cX1_fellAt 2 (some .boolean), Cond.fieldLink RX1 22 "TwinOrchard" "kinds" "[I", Cond.fieldLink RX1 25 "TwinOrchard" "branches" "[I", Cond.fieldLink RX1 28 "TwinOrchard" "vigours" "[I"]
def wsL_fell_r2 : List Cond := [Cond.fieldLink RX1 31 "TwinOrchard" "tired" "[Z", Cond.methodLink RX1 121 yX1_hasTree, Cond.instanceMethod yX1_hasTree, Cond.selects RX1 yX1_hasTree yX1_hasTree, Cond.code yX1_hasTree cX1_hasTree 2 (some .boolean), Cond.methodLink RX1 205 yX1_canPay, Cond.instanceMethod yX1_canPay, Cond.selects RX1 yX1_canPay yX1_canPay, Cond.code yX1_canPay cX1_canPay 3 (some .boolean), Cond.fieldLink RX1 35 "TwinOrchard" "strength" "[I", Cond.methodLink RX1 202 yX1_twinOf, Cond.static yX1_twinOf, Cond.code yX1_twinOf cX1_twinOf 1 (some .int), Cond.methodLink RX1 208 yX1_pay, Cond.instanceMethod yX1_pay, Cond.selects RX1 yX1_pay yX1_pay, Cond.code yX1_pay cX1_pay 3 none, Cond.methodLink RX1 100 yX1_mirrorOf, Cond.static yX1_mirrorOf, Cond.code yX1_mirrorOf cX1_mirrorOf 2 (some .int), Cond.methodLink RX1 104 yX1_whoDidIt, Cond.static yX1_whoDidIt, Cond.code yX1_whoDidIt cX1_whoDidIt 2 (some .int)]
def wsL_fell : List Cond := .codeWith yL_fell cL_fell 5 (some .int) [(0, 10, 13, 13)] :: ((wsL_fell_r1 ++ wsL_fell_r2) ++ wsX10 ++ (vx_atS RX1 69 "java/lang/IndexOutOfBoundsException" ["java/lang/RuntimeException", "java/lang/Exception"]).filter goodWord)
def wsL_tree_r1 : List Cond := [Cond.classLink RL 13 "java/lang/IndexOutOfBoundsException", Cond.methodLink RL 34 yX1_tree, Cond.instanceMethod yX1_tree, Cond.selects RX1 yX1_tree yX1_tree, Cond.initialized RX1, Cond.code yX1_tree cX1_tree 5 (some .int), Cond.classLink RX1 65 "java/lang/IndexOutOfBoundsException", Cond.initialized "java/lang/IndexOutOfBoundsException", Cond.fieldLink RX1 25 "TwinOrchard" "branches" "[I", Cond.fieldLink RX1 28 "TwinOrchard" "vigours" "[I", Cond.fieldLink RX1 22 "TwinOrchard" "kinds" "[I", Cond.fieldLink RX1 31 "TwinOrchard" "tired" "[Z", Cond.methodLink RX1 85 yX1_isPlace, Cond.static yX1_isPlace, Cond.code yX1_isPlace cX1_isPlace 2 (some .boolean), Cond.methodLink RX1 72 yX1_isWithin, Cond.static yX1_isWithin, Cond.code yX1_isWithin cX1_isWithin 3 (some .boolean), Cond.methodLink RX1 93 yX1_spotOf, Cond.static yX1_spotOf, Cond.code yX1_spotOf cX1_spotOf 2 (some .int), Cond.methodLink RX1 121 yX1_hasTree, Cond.instanceMethod yX1_hasTree, Cond.selects RX1 yX1_hasTree yX1_hasTree]
def wsL_tree_r2 : List Cond := [Cond.code yX1_hasTree cX1_hasTree 2 (some .boolean), Cond.methodLink RX1 124 yX1_applesNow, Cond.instanceMethod yX1_applesNow, Cond.selects RX1 yX1_applesNow yX1_applesNow, Cond.code yX1_applesNow cX1_applesNow 2 (some .int), Cond.fieldLink RX1 48 "TwinOrchard" "looked" "LTwinOrchard$Tree;", Cond.methodLink RX1 170 yX1_lookAt, Cond.instanceMethod yX1_lookAt, Cond.selects RX1 yX1_lookAt yX1_lookAt, Cond.code yX1_lookAt cX1_lookAt 2 none, Cond.fieldLink RX1 13 "TwinOrchard" "hardiness" "[I", Cond.instanceMethod yX0_apples, Cond.initialized RX0, Cond.selects RX0 yX0_apples yX0_apples, Cond.code yX0_apples cX0_apples 2 (some .int), Cond.fieldLink RX0 9 "TwinOrchard$Tree" "branches" "I", Cond.fieldLink RX0 19 "TwinOrchard$Tree" "vigour" "I", Cond.fieldLink RX0 15 "TwinOrchard$Tree" "tired" "Z"]
def wsL_tree : List Cond := .codeWith yL_tree cL_tree 6 (some .int) [(0, 12, 15, 13)] :: ((wsL_tree_r1 ++ wsL_tree_r2) ++ wsX10 ++ wsX00 ++ (vx_atS RX1 69 "java/lang/IndexOutOfBoundsException" ["java/lang/RuntimeException", "java/lang/Exception"]).filter goodWord)
def wsL_sort : List Cond := .codeWith yL_sort cL_sort 5 (some .int) [(0, 10, 13, 13)] :: ([.classLink RL 13 "java/lang/IndexOutOfBoundsException", .methodLink RL 37 yX1_sort, .instanceMethod yX1_sort, .selects RX1 yX1_sort yX1_sort, .initialized RX1, .code yX1_sort cX1_sort 3 (some .int), .classLink RX1 65 "java/lang/IndexOutOfBoundsException", .initialized "java/lang/IndexOutOfBoundsException", .fieldLink RX1 9 "TwinOrchard" "weights" "[I", .fieldLink RX1 13 "TwinOrchard" "hardiness" "[I", .fieldLink RX1 16 "TwinOrchard" "barn" "[I", .methodLink RX1 61 yX1_isSort, .static yX1_isSort, .code yX1_isSort cX1_isSort 1 (some .boolean), .methodLink RX1 72 yX1_isWithin, .static yX1_isWithin, .code yX1_isWithin cX1_isWithin 3 (some .boolean), .methodLink RX1 129 yX1_treesOfSort, .instanceMethod yX1_treesOfSort, .selects RX1 yX1_treesOfSort yX1_treesOfSort, .code yX1_treesOfSort cX1_treesOfSort 4 (some .int), .fieldLink RX1 22 "TwinOrchard" "kinds" "[I"] ++ wsX10 ++ (vx_atS RX1 69 "java/lang/IndexOutOfBoundsException" ["java/lang/RuntimeException", "java/lang/Exception"]).filter goodWord)
def wsL_count_r1 : List Cond := [Cond.classLink RL 13 "java/lang/IndexOutOfBoundsException", Cond.methodLink RL 40 yX1_count, Cond.instanceMethod yX1_count, Cond.selects RX1 yX1_count yX1_count, Cond.initialized RX1, Cond.code yX1_count cX1_count 2 (some .int), Cond.classLink RX1 65 "java/lang/IndexOutOfBoundsException", Cond.initialized "java/lang/IndexOutOfBoundsException", Cond.fieldLink RX1 38 "TwinOrchard" "year" "I", Cond.fieldLink RX1 35 "TwinOrchard" "strength" "[I", Cond.methodLink RX1 72 yX1_isWithin, Cond.static yX1_isWithin, Cond.code yX1_isWithin cX1_isWithin 3 (some .boolean), Cond.methodLink RX1 134 yX1_allTrees, Cond.instanceMethod yX1_allTrees, Cond.selects RX1 yX1_allTrees yX1_allTrees, Cond.code yX1_allTrees cX1_allTrees 3 (some .int), Cond.methodLink RX1 121 yX1_hasTree, Cond.instanceMethod yX1_hasTree, Cond.selects RX1 yX1_hasTree yX1_hasTree, Cond.code yX1_hasTree cX1_hasTree 2 (some .boolean), Cond.fieldLink RX1 22 "TwinOrchard" "kinds" "[I", Cond.methodLink RX1 138 yX1_allTired, Cond.instanceMethod yX1_allTired]
def wsL_count_r2 : List Cond := [Cond.selects RX1 yX1_allTired yX1_allTired, Cond.code yX1_allTired cX1_allTired 3 (some .int), Cond.fieldLink RX1 31 "TwinOrchard" "tired" "[Z", Cond.methodLink RX1 141 yX1_applesInBarn, Cond.instanceMethod yX1_applesInBarn, Cond.selects RX1 yX1_applesInBarn yX1_applesInBarn, Cond.code yX1_applesInBarn cX1_applesInBarn 3 (some .int), Cond.fieldLink RX1 16 "TwinOrchard" "barn" "[I", Cond.methodLink RX1 144 yX1_weightInBarn, Cond.instanceMethod yX1_weightInBarn, Cond.selects RX1 yX1_weightInBarn yX1_weightInBarn, Cond.code yX1_weightInBarn cX1_weightInBarn 3 (some .int), Cond.fieldLink RX1 9 "TwinOrchard" "weights" "[I", Cond.methodLink RX1 147 yX1_unlikePairs, Cond.instanceMethod yX1_unlikePairs, Cond.selects RX1 yX1_unlikePairs yX1_unlikePairs, Cond.code yX1_unlikePairs cX1_unlikePairs 6 (some .int), Cond.fieldLink RX1 25 "TwinOrchard" "branches" "[I", Cond.methodLink RX1 93 yX1_spotOf, Cond.static yX1_spotOf, Cond.code yX1_spotOf cX1_spotOf 2 (some .int), Cond.methodLink RX1 100 yX1_mirrorOf, Cond.static yX1_mirrorOf, Cond.code yX1_mirrorOf cX1_mirrorOf 2 (some .int)]
def wsL_count : List Cond := .codeWith yL_count cL_count 4 (some .int) [(0, 9, 12, 13)] :: ((wsL_count_r1 ++ wsL_count_r2) ++ wsX10 ++ (vx_atS RX1 69 "java/lang/IndexOutOfBoundsException" ["java/lang/RuntimeException", "java/lang/Exception"]).filter goodWord)
def wsL_leans_r1 : List Cond := [Cond.classLink RL 13 "java/lang/IndexOutOfBoundsException", Cond.methodLink RL 44 yX1_leans, Cond.instanceMethod yX1_leans, Cond.selects RX1 yX1_leans yX1_leans, Cond.initialized RX1, Cond.code yX1_leans cX1_leans 5 (some .int), Cond.classLink RX1 65 "java/lang/IndexOutOfBoundsException", Cond.initialized "java/lang/IndexOutOfBoundsException", Cond.methodLink RX1 72 yX1_isWithin, Cond.static yX1_isWithin, Cond.code yX1_isWithin cX1_isWithin 3 (some .boolean), Cond.methodLink RX1 93 yX1_spotOf, Cond.static yX1_spotOf, Cond.code yX1_spotOf cX1_spotOf 2 (some .int), Cond.methodLink RX1 124 yX1_applesNow, Cond.instanceMethod yX1_applesNow, Cond.selects RX1 yX1_applesNow yX1_applesNow, Cond.code yX1_applesNow cX1_applesNow 2 (some .int), Cond.fieldLink RX1 48 "TwinOrchard" "looked" "LTwinOrchard$Tree;", Cond.methodLink RX1 170 yX1_lookAt, Cond.instanceMethod yX1_lookAt, Cond.selects RX1 yX1_lookAt yX1_lookAt, Cond.code yX1_lookAt cX1_lookAt 2 none, Cond.fieldLink RX1 28 "TwinOrchard" "vigours" "[I"]
def wsL_leans_r2 : List Cond := [Cond.fieldLink RX1 25 "TwinOrchard" "branches" "[I", Cond.fieldLink RX1 31 "TwinOrchard" "tired" "[Z", Cond.fieldLink RX1 13 "TwinOrchard" "hardiness" "[I", Cond.fieldLink RX1 22 "TwinOrchard" "kinds" "[I", Cond.methodLink RX1 121 yX1_hasTree, Cond.instanceMethod yX1_hasTree, Cond.selects RX1 yX1_hasTree yX1_hasTree, Cond.code yX1_hasTree cX1_hasTree 2 (some .boolean), Cond.instanceMethod yX0_apples, Cond.initialized RX0, Cond.selects RX0 yX0_apples yX0_apples, Cond.code yX0_apples cX0_apples 2 (some .int), Cond.fieldLink RX0 9 "TwinOrchard$Tree" "branches" "I", Cond.fieldLink RX0 19 "TwinOrchard$Tree" "vigour" "I", Cond.fieldLink RX0 15 "TwinOrchard$Tree" "tired" "Z", Cond.methodLink RX1 100 yX1_mirrorOf, Cond.static yX1_mirrorOf, Cond.code yX1_mirrorOf cX1_mirrorOf 2 (some .int)]
def wsL_leans : List Cond := .codeWith yL_leans cL_leans 4 (some .int) [(0, 9, 12, 13)] :: ((wsL_leans_r1 ++ wsL_leans_r2) ++ wsX10 ++ wsX00 ++ (vx_atS RX1 69 "java/lang/IndexOutOfBoundsException" ["java/lang/RuntimeException", "java/lang/Exception"]).filter goodWord)
def wsL_carry : List Cond := .codeWith yL_carry cL_carry 6 (some .int) [(0, 12, 15, 13), (0, 12, 19, 15), (0, 12, 23, 50)] :: ([.classLink RL 13 "java/lang/IndexOutOfBoundsException", .classLink RL 15 "java/lang/IllegalArgumentException", .classLink RL 50 "java/lang/IllegalStateException", .methodLink RL 47 yX1_carry, .instanceMethod yX1_carry, .selects RX1 yX1_carry yX1_carry, .initialized RX1, .code yX1_carry cX1_carry 4 (some .int), .classLink RX1 65 "java/lang/IndexOutOfBoundsException", .initialized "java/lang/IndexOutOfBoundsException", .classLink RX1 76 "java/lang/IllegalArgumentException", .initialized "java/lang/IllegalArgumentException", .classLink RX1 154 "java/lang/IllegalStateException", .initialized "java/lang/IllegalStateException", .fieldLink RX1 16 "TwinOrchard" "barn" "[I", .fieldLink RX1 42 "TwinOrchard" "carriedLeftMore" "I", .fieldLink RX1 9 "TwinOrchard" "weights" "[I", .methodLink RX1 61 yX1_isSort, .static yX1_isSort, .code yX1_isSort cX1_isSort 1 (some .boolean), .methodLink RX1 72 yX1_isWithin, .static yX1_isWithin, .code yX1_isWithin cX1_isWithin 3 (some .boolean)] ++ wsX10 ++ (vx_atS RX1 69 "java/lang/IndexOutOfBoundsException" ["java/lang/RuntimeException", "java/lang/Exception"]).filter goodWord ++ (vx_atS RX1 80 "java/lang/IllegalArgumentException" ["java/lang/RuntimeException", "java/lang/Exception"]).filter goodWord ++ (vx_atS RX1 158 "java/lang/IllegalStateException" ["java/lang/RuntimeException", "java/lang/Exception"]).filter goodWord)
def wsL_pass_r1 : List Cond := [Cond.classLink RL 15 "java/lang/IllegalArgumentException", Cond.methodLink RL 52 yX1_pass, Cond.instanceMethod yX1_pass, Cond.selects RX1 yX1_pass yX1_pass, Cond.initialized RX1, Cond.code yX1_pass cX1_pass 4 (some .int), Cond.classLink RX1 76 "java/lang/IllegalArgumentException", Cond.initialized "java/lang/IllegalArgumentException", Cond.fieldLink RX1 38 "TwinOrchard" "year" "I", Cond.fieldLink RX1 35 "TwinOrchard" "strength" "[I", Cond.methodLink RX1 72 yX1_isWithin, Cond.static yX1_isWithin, Cond.code yX1_isWithin cX1_isWithin 3 (some .boolean), Cond.methodLink RX1 121 yX1_hasTree, Cond.instanceMethod yX1_hasTree, Cond.selects RX1 yX1_hasTree yX1_hasTree, Cond.code yX1_hasTree cX1_hasTree 2 (some .boolean), Cond.fieldLink RX1 22 "TwinOrchard" "kinds" "[I", Cond.methodLink RX1 167 yX1_passAt, Cond.instanceMethod yX1_passAt, Cond.selects RX1 yX1_passAt yX1_passAt, Cond.code yX1_passAt cX1_passAt 4 (some .int), Cond.fieldLink RX1 16 "TwinOrchard" "barn" "[I", Cond.methodLink RX1 170 yX1_lookAt]
def wsL_pass_r2 : List Cond := [Cond.instanceMethod yX1_lookAt, Cond.selects RX1 yX1_lookAt yX1_lookAt, Cond.code yX1_lookAt cX1_lookAt 2 none, Cond.fieldLink RX1 48 "TwinOrchard" "looked" "LTwinOrchard$Tree;", Cond.fieldLink RX1 28 "TwinOrchard" "vigours" "[I", Cond.fieldLink RX1 25 "TwinOrchard" "branches" "[I", Cond.fieldLink RX1 31 "TwinOrchard" "tired" "[Z", Cond.fieldLink RX1 13 "TwinOrchard" "hardiness" "[I", Cond.methodLink RX1 174 yX1_liveLooked, Cond.instanceMethod yX1_liveLooked, Cond.selects RX1 yX1_liveLooked yX1_liveLooked, Cond.code yX1_liveLooked cX1_liveLooked 4 (some .int), Cond.fieldLink RX1 19 "TwinOrchard" "frosts" "[I", Cond.methodLink RX1 240 yJ9_floorMod_7cf53, Cond.static yJ9_floorMod_7cf53, Cond.initialized RJ9, Cond.code yJ9_floorMod_7cf53 cJ9_floorMod_7cf53 3 (some .int), Cond.instanceMethod yX0_liveYear, Cond.initialized RX0, Cond.selects RX0 yX0_liveYear yX0_liveYear, Cond.code yX0_liveYear cX0_liveYear 3 (some .int), Cond.fieldLink RX0 15 "TwinOrchard$Tree" "tired" "Z", Cond.methodLink RX0 22 yX0_freeze, Cond.instanceMethod yX0_freeze]
def wsL_pass_r3 : List Cond := [Cond.selects RX0 yX0_freeze yX0_freeze, Cond.code yX0_freeze cX0_freeze 3 none, Cond.fieldLink RX0 33 "TwinOrchard$Tree" "hardiness" "I", Cond.methodLink RX0 36 Lib.Math.max.name, Cond.static Lib.Math.max.name, Cond.initialized "java/lang/Math", Cond.code Lib.Math.max.name Lib.Math.max.code 2 (some .int), Cond.fieldLink RX0 9 "TwinOrchard$Tree" "branches" "I", Cond.methodLink RX0 26 yX0_apples, Cond.instanceMethod yX0_apples, Cond.selects RX0 yX0_apples yX0_apples, Cond.code yX0_apples cX0_apples 2 (some .int), Cond.fieldLink RX0 19 "TwinOrchard$Tree" "vigour" "I", Cond.methodLink RX0 30 yX0_grow, Cond.instanceMethod yX0_grow, Cond.selects RX0 yX0_grow yX0_grow, Cond.code yX0_grow cX0_grow 2 none, Cond.methodLink RX0 42 Lib.Math.min.name, Cond.static Lib.Math.min.name, Cond.code Lib.Math.min.name Lib.Math.min.code 2 (some .int), Cond.methodLink RX1 218 yX1_keepLooked, Cond.instanceMethod yX1_keepLooked, Cond.selects RX1 yX1_keepLooked yX1_keepLooked, Cond.code yX1_keepLooked cX1_keepLooked 2 none]
def wsL_pass_r4 : List Cond := [Cond.methodLink RX1 55 yJ7_fill_53178, Cond.static yJ7_fill_53178, Cond.initialized RJ7, Cond.code yJ7_fill_53178 cJ7_fill_53178 4 none]
def wsL_pass : List Cond := .codeWith yL_pass cL_pass 4 (some .int) [(0, 9, 12, 15)] :: ((wsL_pass_r1 ++ (wsL_pass_r2 ++ (wsL_pass_r3 ++ wsL_pass_r4))) ++ wsX10 ++ wsX00 ++ (vx_atS RX1 80 "java/lang/IllegalArgumentException" ["java/lang/RuntimeException", "java/lang/Exception"]).filter goodWord)
def wsL_foresee_r1 : List Cond := [Cond.classLink RL 15 "java/lang/IllegalArgumentException", Cond.classLink RL 13 "java/lang/IndexOutOfBoundsException", Cond.methodLink RL 55 yX1_foresee, Cond.instanceMethod yX1_foresee, Cond.selects RX1 yX1_foresee yX1_foresee, Cond.initialized RX1, Cond.code yX1_foresee cX1_foresee 7 (some .int), Cond.classLink RX1 76 "java/lang/IllegalArgumentException", Cond.initialized "java/lang/IllegalArgumentException", Cond.classLink RX1 65 "java/lang/IndexOutOfBoundsException", Cond.initialized "java/lang/IndexOutOfBoundsException", Cond.fieldLink RX1 48 "TwinOrchard" "looked" "LTwinOrchard$Tree;", Cond.methodLink RX1 72 yX1_isWithin, Cond.static yX1_isWithin, Cond.code yX1_isWithin cX1_isWithin 3 (some .boolean), Cond.methodLink RX1 121 yX1_hasTree, Cond.instanceMethod yX1_hasTree, Cond.selects RX1 yX1_hasTree yX1_hasTree, Cond.code yX1_hasTree cX1_hasTree 2 (some .boolean), Cond.fieldLink RX1 22 "TwinOrchard" "kinds" "[I", Cond.methodLink RX1 170 yX1_lookAt, Cond.instanceMethod yX1_lookAt, Cond.selects RX1 yX1_lookAt yX1_lookAt, Cond.code yX1_lookAt cX1_lookAt 2 none]
def wsL_foresee_r2 : List Cond := [Cond.fieldLink RX1 28 "TwinOrchard" "vigours" "[I", Cond.fieldLink RX1 25 "TwinOrchard" "branches" "[I", Cond.fieldLink RX1 31 "TwinOrchard" "tired" "[Z", Cond.fieldLink RX1 13 "TwinOrchard" "hardiness" "[I", Cond.methodLink RX1 174 yX1_liveLooked, Cond.instanceMethod yX1_liveLooked, Cond.selects RX1 yX1_liveLooked yX1_liveLooked, Cond.code yX1_liveLooked cX1_liveLooked 4 (some .int), Cond.fieldLink RX1 19 "TwinOrchard" "frosts" "[I", Cond.fieldLink RX1 38 "TwinOrchard" "year" "I", Cond.methodLink RX1 240 yJ9_floorMod_7cf53, Cond.static yJ9_floorMod_7cf53, Cond.initialized RJ9, Cond.code yJ9_floorMod_7cf53 cJ9_floorMod_7cf53 3 (some .int), Cond.instanceMethod yX0_liveYear, Cond.initialized RX0, Cond.selects RX0 yX0_liveYear yX0_liveYear, Cond.code yX0_liveYear cX0_liveYear 3 (some .int), Cond.fieldLink RX0 15 "TwinOrchard$Tree" "tired" "Z", Cond.methodLink RX0 22 yX0_freeze, Cond.instanceMethod yX0_freeze, Cond.selects RX0 yX0_freeze yX0_freeze, Cond.code yX0_freeze cX0_freeze 3 none, Cond.fieldLink RX0 33 "TwinOrchard$Tree" "hardiness" "I"]
def wsL_foresee_r3 : List Cond := [Cond.methodLink RX0 36 Lib.Math.max.name, Cond.static Lib.Math.max.name, Cond.initialized "java/lang/Math", Cond.code Lib.Math.max.name Lib.Math.max.code 2 (some .int), Cond.fieldLink RX0 9 "TwinOrchard$Tree" "branches" "I", Cond.methodLink RX0 26 yX0_apples, Cond.instanceMethod yX0_apples, Cond.selects RX0 yX0_apples yX0_apples, Cond.code yX0_apples cX0_apples 2 (some .int), Cond.fieldLink RX0 19 "TwinOrchard$Tree" "vigour" "I", Cond.methodLink RX0 30 yX0_grow, Cond.instanceMethod yX0_grow, Cond.selects RX0 yX0_grow yX0_grow, Cond.code yX0_grow cX0_grow 2 none, Cond.methodLink RX0 42 Lib.Math.min.name, Cond.static Lib.Math.min.name, Cond.code Lib.Math.min.name Lib.Math.min.code 2 (some .int)]
def wsL_foresee : List Cond := .codeWith yL_foresee cL_foresee 5 (some .int) [(0, 10, 13, 15), (0, 10, 17, 13)] :: ((wsL_foresee_r1 ++ (wsL_foresee_r2 ++ wsL_foresee_r3)) ++ wsX10 ++ wsX00 ++ (vx_atS RX1 80 "java/lang/IllegalArgumentException" ["java/lang/RuntimeException", "java/lang/Exception"]).filter goodWord ++ (vx_atS RX1 69 "java/lang/IndexOutOfBoundsException" ["java/lang/RuntimeException", "java/lang/Exception"]).filter goodWord)
def wsL_advise_r1 : List Cond := [Cond.classLink RL 15 "java/lang/IllegalArgumentException", Cond.methodLink RL 58 yX1_advise, Cond.instanceMethod yX1_advise, Cond.selects RX1 yX1_advise yX1_advise, Cond.initialized RX1, Cond.code yX1_advise cX1_advise 7 (some .int), Cond.classLink RX1 76 "java/lang/IllegalArgumentException", Cond.initialized "java/lang/IllegalArgumentException", Cond.methodLink RX1 72 yX1_isWithin, Cond.static yX1_isWithin, Cond.code yX1_isWithin cX1_isWithin 3 (some .boolean), Cond.methodLink RX1 182 yX1_gainOfPruning, Cond.instanceMethod yX1_gainOfPruning, Cond.selects RX1 yX1_gainOfPruning yX1_gainOfPruning, Cond.code yX1_gainOfPruning cX1_gainOfPruning 5 (some .int), Cond.fieldLink RX1 48 "TwinOrchard" "looked" "LTwinOrchard$Tree;", Cond.methodLink RX1 212 yX1_canPrune, Cond.instanceMethod yX1_canPrune, Cond.selects RX1 yX1_canPrune yX1_canPrune, Cond.code yX1_canPrune cX1_canPrune 3 (some .boolean), Cond.fieldLink RX1 25 "TwinOrchard" "branches" "[I", Cond.methodLink RX1 121 yX1_hasTree, Cond.instanceMethod yX1_hasTree, Cond.selects RX1 yX1_hasTree yX1_hasTree]
def wsL_advise_r2 : List Cond := [Cond.code yX1_hasTree cX1_hasTree 2 (some .boolean), Cond.fieldLink RX1 22 "TwinOrchard" "kinds" "[I", Cond.methodLink RX1 205 yX1_canPay, Cond.instanceMethod yX1_canPay, Cond.selects RX1 yX1_canPay yX1_canPay, Cond.code yX1_canPay cX1_canPay 3 (some .boolean), Cond.fieldLink RX1 35 "TwinOrchard" "strength" "[I", Cond.methodLink RX1 202 yX1_twinOf, Cond.static yX1_twinOf, Cond.code yX1_twinOf cX1_twinOf 1 (some .int), Cond.methodLink RX1 170 yX1_lookAt, Cond.instanceMethod yX1_lookAt, Cond.selects RX1 yX1_lookAt yX1_lookAt, Cond.code yX1_lookAt cX1_lookAt 2 none, Cond.fieldLink RX1 28 "TwinOrchard" "vigours" "[I", Cond.fieldLink RX1 31 "TwinOrchard" "tired" "[Z", Cond.fieldLink RX1 13 "TwinOrchard" "hardiness" "[I", Cond.methodLink RX1 174 yX1_liveLooked, Cond.instanceMethod yX1_liveLooked, Cond.selects RX1 yX1_liveLooked yX1_liveLooked, Cond.code yX1_liveLooked cX1_liveLooked 4 (some .int), Cond.fieldLink RX1 19 "TwinOrchard" "frosts" "[I", Cond.fieldLink RX1 38 "TwinOrchard" "year" "I", Cond.methodLink RX1 240 yJ9_floorMod_7cf53]
def wsL_advise_r3 : List Cond := [Cond.static yJ9_floorMod_7cf53, Cond.initialized RJ9, Cond.code yJ9_floorMod_7cf53 cJ9_floorMod_7cf53 3 (some .int), Cond.instanceMethod yX0_liveYear, Cond.initialized RX0, Cond.selects RX0 yX0_liveYear yX0_liveYear, Cond.code yX0_liveYear cX0_liveYear 3 (some .int), Cond.fieldLink RX0 15 "TwinOrchard$Tree" "tired" "Z", Cond.methodLink RX0 22 yX0_freeze, Cond.instanceMethod yX0_freeze, Cond.selects RX0 yX0_freeze yX0_freeze, Cond.code yX0_freeze cX0_freeze 3 none, Cond.fieldLink RX0 33 "TwinOrchard$Tree" "hardiness" "I", Cond.methodLink RX0 36 Lib.Math.max.name, Cond.static Lib.Math.max.name, Cond.initialized "java/lang/Math", Cond.code Lib.Math.max.name Lib.Math.max.code 2 (some .int), Cond.fieldLink RX0 9 "TwinOrchard$Tree" "branches" "I", Cond.methodLink RX0 26 yX0_apples, Cond.instanceMethod yX0_apples, Cond.selects RX0 yX0_apples yX0_apples, Cond.code yX0_apples cX0_apples 2 (some .int), Cond.fieldLink RX0 19 "TwinOrchard$Tree" "vigour" "I", Cond.methodLink RX0 30 yX0_grow]
def wsL_advise_r4 : List Cond := [Cond.instanceMethod yX0_grow, Cond.selects RX0 yX0_grow yX0_grow, Cond.code yX0_grow cX0_grow 2 none, Cond.methodLink RX0 42 Lib.Math.min.name, Cond.static Lib.Math.min.name, Cond.code Lib.Math.min.name Lib.Math.min.code 2 (some .int), Cond.instanceMethod yX0_shorten, Cond.selects RX0 yX0_shorten yX0_shorten, Cond.code yX0_shorten cX0_shorten 2 none, Cond.methodLink RX1 100 yX1_mirrorOf, Cond.static yX1_mirrorOf, Cond.code yX1_mirrorOf cX1_mirrorOf 2 (some .int)]
def wsL_advise : List Cond := .codeWith yL_advise cL_advise 4 (some .int) [(0, 9, 12, 15)] :: ((wsL_advise_r1 ++ (wsL_advise_r2 ++ (wsL_advise_r3 ++ wsL_advise_r4))) ++ wsX10 ++ wsX00 ++ (vx_atS RX1 80 "java/lang/IllegalArgumentException" ["java/lang/RuntimeException", "java/lang/Exception"]).filter goodWord)
def wsL_law0_r1 : List Cond := [Cond.classLink RL 8 RX1, Cond.instantiable RX1 13, Cond.initialized RX1, Cond.classLink RL 62 RX2, Cond.instantiable RX2 8, Cond.initialized RX2, Cond.arrayClass .long, Cond.methodLink RL 61 yX1_init, Cond.instanceMethod yX1_init, Cond.code yX1_init cX1_init 1 none, Cond.methodLink RX1 1 objectInit, Cond.instanceMethod objectInit, Cond.code objectInit ⟨#[0xb1]⟩ 1 none, Cond.arrayClass .int, Cond.fieldLink RX1 9 "TwinOrchard" "weights" "[I", Cond.fieldLink RX1 13 "TwinOrchard" "hardiness" "[I", Cond.fieldLink RX1 16 "TwinOrchard" "barn" "[I", Cond.fieldLink RX1 19 "TwinOrchard" "frosts" "[I", Cond.fieldLink RX1 22 "TwinOrchard" "kinds" "[I", Cond.fieldLink RX1 25 "TwinOrchard" "branches" "[I", Cond.fieldLink RX1 28 "TwinOrchard" "vigours" "[I", Cond.arrayClass .boolean, Cond.fieldLink RX1 31 "TwinOrchard" "tired" "[Z", Cond.fieldLink RX1 35 "TwinOrchard" "strength" "[I"]
def wsL_law0_r2 : List Cond := [Cond.fieldLink RX1 38 "TwinOrchard" "year" "I", Cond.fieldLink RX1 42 "TwinOrchard" "carriedLeftMore" "I", Cond.classLink RX1 45 RX0, Cond.instantiable RX0 4, Cond.initialized RX0, Cond.fieldLink RX1 48 "TwinOrchard" "looked" "LTwinOrchard$Tree;", Cond.fieldLink RX1 52 "TwinOrchard" "fewest" "[I", Cond.instanceMethod yX0_init, Cond.code yX0_init cX0_init 1 none, Cond.methodLink RX0 3 objectInit, Cond.methodLink RX1 55 yJ7_fill_53178, Cond.static yJ7_fill_53178, Cond.initialized RJ7, Cond.code yJ7_fill_53178 cJ7_fill_53178 4 none, Cond.methodLink RL 64 yX2_init, Cond.instanceMethod yX2_init, Cond.code yX2_init cX2_init 2 none, Cond.methodLink RX2 1 objectInit, Cond.fieldLink RX2 9 "TwinOrchardModel" "weights" "[I", Cond.fieldLink RX2 13 "TwinOrchardModel" "bears" "[I", Cond.fieldLink RX2 16 "TwinOrchardModel" "frosts" "[I", Cond.fieldLink RX2 19 "TwinOrchardModel" "trees" "[I", Cond.fieldLink RX2 22 "TwinOrchardModel" "barn" "[I", Cond.fieldLink RX2 25 "TwinOrchardModel" "numbers" "[I"]
def wsL_law0_r3 : List Cond := [Cond.methodLink RL 65 yL_setSort, Cond.static yL_setSort, Cond.initialized RL, Cond.codeWith yL_setSort cL_setSort 6 (some .int) [(0, 12, 15, 13), (0, 12, 19, 15)], Cond.classLink RL 13 "java/lang/IndexOutOfBoundsException", Cond.classLink RL 15 "java/lang/IllegalArgumentException", Cond.methodLink RL 7 yX1_setSort, Cond.instanceMethod yX1_setSort, Cond.selects RX1 yX1_setSort yX1_setSort, Cond.code yX1_setSort cX1_setSort 5 (some .int), Cond.classLink RX1 65 "java/lang/IndexOutOfBoundsException", Cond.initialized "java/lang/IndexOutOfBoundsException", Cond.classLink RX1 76 "java/lang/IllegalArgumentException", Cond.initialized "java/lang/IllegalArgumentException", Cond.methodLink RX1 61 yX1_isSort, Cond.static yX1_isSort, Cond.code yX1_isSort cX1_isSort 1 (some .boolean), Cond.methodLink RX1 72 yX1_isWithin, Cond.static yX1_isWithin, Cond.code yX1_isWithin cX1_isWithin 3 (some .boolean), Cond.methodLink RL 70 yX2_setSort, Cond.instanceMethod yX2_setSort, Cond.selects RX2 yX2_setSort yX2_setSort, Cond.code yX2_setSort cX2_setSort 5 (some .int)]
def wsL_law0_r4 : List Cond := [Cond.fieldLink RX2 28 "TwinOrchardModel" "thrown" "I", Cond.methodLink RX2 36 yX2_isSort, Cond.static yX2_isSort, Cond.code yX2_isSort cX2_isSort 1 (some .boolean), Cond.methodLink RX2 32 yX2_isIn, Cond.static yX2_isIn, Cond.code yX2_isIn cX2_isIn 3 (some .boolean), Cond.methodLink RX2 40 yX2_fail, Cond.instanceMethod yX2_fail, Cond.selects RX2 yX2_fail yX2_fail, Cond.code yX2_fail cX2_fail 2 (some .int), Cond.methodLink RL 71 yX2_thrown, Cond.instanceMethod yX2_thrown, Cond.selects RX2 yX2_thrown yX2_thrown, Cond.code yX2_thrown cX2_thrown 1 (some .int), Cond.methodLink RL 75 yL_setFrost, Cond.static yL_setFrost, Cond.codeWith yL_setFrost cL_setFrost 5 (some .int) [(0, 10, 13, 13), (0, 10, 17, 15)], Cond.methodLink RL 17 yX1_setFrost, Cond.instanceMethod yX1_setFrost, Cond.selects RX1 yX1_setFrost yX1_setFrost, Cond.code yX1_setFrost cX1_setFrost 4 (some .int), Cond.methodLink RL 78 yX2_setFrost, Cond.instanceMethod yX2_setFrost]
def wsL_law0_r5 : List Cond := [Cond.selects RX2 yX2_setFrost yX2_setFrost, Cond.code yX2_setFrost cX2_setFrost 4 (some .int), Cond.methodLink RL 79 yL_plant, Cond.static yL_plant, Cond.codeWith yL_plant cL_plant 7 (some .int) [(0, 14, 17, 13), (0, 14, 21, 15)], Cond.methodLink RL 21 yX1_plant, Cond.instanceMethod yX1_plant, Cond.selects RX1 yX1_plant yX1_plant, Cond.code yX1_plant cX1_plant 8 (some .int), Cond.methodLink RX1 85 yX1_isPlace, Cond.static yX1_isPlace, Cond.code yX1_isPlace cX1_isPlace 2 (some .boolean), Cond.methodLink RX1 93 yX1_spotOf, Cond.static yX1_spotOf, Cond.code yX1_spotOf cX1_spotOf 2 (some .int), Cond.methodLink RX1 97 yX1_plantAt, Cond.instanceMethod yX1_plantAt, Cond.selects RX1 yX1_plantAt yX1_plantAt, Cond.code yX1_plantAt cX1_plantAt 4 (some .boolean), Cond.methodLink RX1 121 yX1_hasTree, Cond.instanceMethod yX1_hasTree, Cond.selects RX1 yX1_hasTree yX1_hasTree, Cond.code yX1_hasTree cX1_hasTree 2 (some .boolean), Cond.methodLink RX1 205 yX1_canPay]
def wsL_law0_r6 : List Cond := [Cond.instanceMethod yX1_canPay, Cond.selects RX1 yX1_canPay yX1_canPay, Cond.code yX1_canPay cX1_canPay 3 (some .boolean), Cond.methodLink RX1 202 yX1_twinOf, Cond.static yX1_twinOf, Cond.code yX1_twinOf cX1_twinOf 1 (some .int), Cond.methodLink RX1 208 yX1_pay, Cond.instanceMethod yX1_pay, Cond.selects RX1 yX1_pay yX1_pay, Cond.code yX1_pay cX1_pay 3 none, Cond.methodLink RX1 100 yX1_mirrorOf, Cond.static yX1_mirrorOf, Cond.code yX1_mirrorOf cX1_mirrorOf 2 (some .int), Cond.methodLink RX1 104 yX1_whoDidIt, Cond.static yX1_whoDidIt, Cond.code yX1_whoDidIt cX1_whoDidIt 2 (some .int), Cond.methodLink RL 82 yX2_plant, Cond.instanceMethod yX2_plant, Cond.selects RX2 yX2_plant yX2_plant, Cond.code yX2_plant cX2_plant 5 (some .int), Cond.methodLink RX2 77 yX2_isSpot, Cond.static yX2_isSpot, Cond.code yX2_isSpot cX2_isSpot 2 (some .boolean), Cond.methodLink RX2 81 yX2_both]
def wsL_law0_r7 : List Cond := [Cond.instanceMethod yX2_both, Cond.selects RX2 yX2_both yX2_both, Cond.code yX2_both cX2_both 8 (some .int), Cond.methodLink RX2 73 yX2_does, Cond.instanceMethod yX2_does, Cond.selects RX2 yX2_does yX2_does, Cond.code yX2_does cX2_does 8 (some .boolean), Cond.fieldLink RX2 63 "TwinOrchardModel" "COSTS" "[I", Cond.methodLink RX2 66 yX2_can, Cond.instanceMethod yX2_can, Cond.selects RX2 yX2_can yX2_can, Cond.code yX2_can cX2_can 5 (some .boolean), Cond.methodLink RX2 44 yX2_tr, Cond.instanceMethod yX2_tr, Cond.selects RX2 yX2_tr yX2_tr, Cond.code yX2_tr cX2_tr 3 (some .int), Cond.methodLink RX2 69 yX2_change, Cond.instanceMethod yX2_change, Cond.selects RX2 yX2_change yX2_change, Cond.code yX2_change cX2_change 7 none, Cond.methodLink RX2 48 arraycopyName, Cond.native arraycopyName, Cond.static arraycopyName, Cond.initialized "java/lang/System"]
def wsL_law0_r8 : List Cond := [Cond.methodLink RX2 58 Lib.Math.max.name, Cond.static Lib.Math.max.name, Cond.initialized "java/lang/Math", Cond.code Lib.Math.max.name Lib.Math.max.code 2 (some .int), Cond.methodLink RX2 54 yX2_set, Cond.instanceMethod yX2_set, Cond.selects RX2 yX2_set yX2_set, Cond.code yX2_set cX2_set 4 none, Cond.methodLink RL 83 yL_prune, Cond.static yL_prune, Cond.codeWith yL_prune cL_prune 6 (some .int) [(0, 12, 15, 13), (0, 12, 19, 15)], Cond.methodLink RL 25 yX1_prune, Cond.instanceMethod yX1_prune, Cond.selects RX1 yX1_prune yX1_prune, Cond.code yX1_prune cX1_prune 7 (some .int), Cond.methodLink RX1 110 yX1_pruneAt, Cond.instanceMethod yX1_pruneAt, Cond.selects RX1 yX1_pruneAt yX1_pruneAt, Cond.code yX1_pruneAt cX1_pruneAt 3 (some .boolean), Cond.methodLink RX1 212 yX1_canPrune, Cond.instanceMethod yX1_canPrune, Cond.selects RX1 yX1_canPrune yX1_canPrune, Cond.code yX1_canPrune cX1_canPrune 3 (some .boolean), Cond.methodLink RX1 170 yX1_lookAt]
def wsL_law0_r9 : List Cond := [Cond.instanceMethod yX1_lookAt, Cond.selects RX1 yX1_lookAt yX1_lookAt, Cond.code yX1_lookAt cX1_lookAt 2 none, Cond.instanceMethod yX0_shorten, Cond.selects RX0 yX0_shorten yX0_shorten, Cond.code yX0_shorten cX0_shorten 2 none, Cond.fieldLink RX0 9 "TwinOrchard$Tree" "branches" "I", Cond.fieldLink RX0 15 "TwinOrchard$Tree" "tired" "Z", Cond.methodLink RX1 218 yX1_keepLooked, Cond.instanceMethod yX1_keepLooked, Cond.selects RX1 yX1_keepLooked yX1_keepLooked, Cond.code yX1_keepLooked cX1_keepLooked 2 none, Cond.methodLink RL 85 yX2_prune, Cond.instanceMethod yX2_prune, Cond.selects RX2 yX2_prune yX2_prune, Cond.code yX2_prune cX2_prune 4 (some .int), Cond.methodLink RL 86 yL_graft, Cond.static yL_graft, Cond.codeWith yL_graft cL_graft 6 (some .int) [(0, 12, 15, 13), (0, 12, 19, 15)], Cond.methodLink RL 28 yX1_graft, Cond.instanceMethod yX1_graft, Cond.selects RX1 yX1_graft yX1_graft, Cond.code yX1_graft cX1_graft 7 (some .int), Cond.methodLink RX1 113 yX1_graftAt]
def wsL_law0_r10 : List Cond := [Cond.instanceMethod yX1_graftAt, Cond.selects RX1 yX1_graftAt yX1_graftAt, Cond.code yX1_graftAt cX1_graftAt 3 (some .boolean), Cond.methodLink RX1 221 Lib.Math.max.name, Cond.methodLink RL 88 yX2_graft, Cond.instanceMethod yX2_graft, Cond.selects RX2 yX2_graft yX2_graft, Cond.code yX2_graft cX2_graft 4 (some .int), Cond.methodLink RL 89 yL_fell, Cond.static yL_fell, Cond.codeWith yL_fell cL_fell 5 (some .int) [(0, 10, 13, 13)], Cond.methodLink RL 31 yX1_fell, Cond.instanceMethod yX1_fell, Cond.selects RX1 yX1_fell yX1_fell, Cond.code yX1_fell cX1_fell 6 (some .int), Cond.methodLink RX1 116 yX1_fellAt, Cond.instanceMethod yX1_fellAt, Cond.selects RX1 yX1_fellAt yX1_fellAt, Cond.code yX1_fellAt cX1_fellAt 2 (some .boolean), Cond.methodLink RL 91 yX2_fell, Cond.instanceMethod yX2_fell, Cond.selects RX2 yX2_fell yX2_fell, Cond.code yX2_fell cX2_fell 3 (some .int), Cond.methodLink RL 92 yL_tree]
def wsL_law0_r11 : List Cond := [Cond.static yL_tree, Cond.codeWith yL_tree cL_tree 6 (some .int) [(0, 12, 15, 13)], Cond.methodLink RL 34 yX1_tree, Cond.instanceMethod yX1_tree, Cond.selects RX1 yX1_tree yX1_tree, Cond.code yX1_tree cX1_tree 5 (some .int), Cond.methodLink RX1 124 yX1_applesNow, Cond.instanceMethod yX1_applesNow, Cond.selects RX1 yX1_applesNow yX1_applesNow, Cond.code yX1_applesNow cX1_applesNow 2 (some .int), Cond.instanceMethod yX0_apples, Cond.selects RX0 yX0_apples yX0_apples, Cond.code yX0_apples cX0_apples 2 (some .int), Cond.fieldLink RX0 19 "TwinOrchard$Tree" "vigour" "I", Cond.methodLink RL 94 yX2_tree, Cond.instanceMethod yX2_tree, Cond.selects RX2 yX2_tree yX2_tree, Cond.code yX2_tree cX2_tree 4 (some .int), Cond.methodLink RX2 88 yX2_treeTold, Cond.instanceMethod yX2_treeTold, Cond.selects RX2 yX2_treeTold yX2_treeTold, Cond.code yX2_treeTold cX2_treeTold 3 (some .int), Cond.methodLink RX2 85 yX2_apples, Cond.instanceMethod yX2_apples]
def wsL_law0_r12 : List Cond := [Cond.selects RX2 yX2_apples yX2_apples, Cond.code yX2_apples cX2_apples 3 (some .int), Cond.methodLink RL 95 yL_sort, Cond.static yL_sort, Cond.codeWith yL_sort cL_sort 5 (some .int) [(0, 10, 13, 13)], Cond.methodLink RL 37 yX1_sort, Cond.instanceMethod yX1_sort, Cond.selects RX1 yX1_sort yX1_sort, Cond.code yX1_sort cX1_sort 3 (some .int), Cond.methodLink RX1 129 yX1_treesOfSort, Cond.instanceMethod yX1_treesOfSort, Cond.selects RX1 yX1_treesOfSort yX1_treesOfSort, Cond.code yX1_treesOfSort cX1_treesOfSort 4 (some .int), Cond.methodLink RL 97 yX2_sort, Cond.instanceMethod yX2_sort, Cond.selects RX2 yX2_sort yX2_sort, Cond.code yX2_sort cX2_sort 3 (some .int), Cond.methodLink RX2 91 yX2_sortTold, Cond.instanceMethod yX2_sortTold, Cond.selects RX2 yX2_sortTold yX2_sortTold, Cond.code yX2_sortTold cX2_sortTold 5 (some .int), Cond.methodLink RL 98 yL_count, Cond.static yL_count, Cond.codeWith yL_count cL_count 4 (some .int) [(0, 9, 12, 13)]]
def wsL_law0_r13 : List Cond := [Cond.methodLink RL 40 yX1_count, Cond.instanceMethod yX1_count, Cond.selects RX1 yX1_count yX1_count, Cond.code yX1_count cX1_count 2 (some .int), Cond.methodLink RX1 134 yX1_allTrees, Cond.instanceMethod yX1_allTrees, Cond.selects RX1 yX1_allTrees yX1_allTrees, Cond.code yX1_allTrees cX1_allTrees 3 (some .int), Cond.methodLink RX1 138 yX1_allTired, Cond.instanceMethod yX1_allTired, Cond.selects RX1 yX1_allTired yX1_allTired, Cond.code yX1_allTired cX1_allTired 3 (some .int), Cond.methodLink RX1 141 yX1_applesInBarn, Cond.instanceMethod yX1_applesInBarn, Cond.selects RX1 yX1_applesInBarn yX1_applesInBarn, Cond.code yX1_applesInBarn cX1_applesInBarn 3 (some .int), Cond.methodLink RX1 144 yX1_weightInBarn, Cond.instanceMethod yX1_weightInBarn, Cond.selects RX1 yX1_weightInBarn yX1_weightInBarn, Cond.code yX1_weightInBarn cX1_weightInBarn 3 (some .int), Cond.methodLink RX1 147 yX1_unlikePairs, Cond.instanceMethod yX1_unlikePairs, Cond.selects RX1 yX1_unlikePairs yX1_unlikePairs, Cond.code yX1_unlikePairs cX1_unlikePairs 6 (some .int)]
def wsL_law0_r14 : List Cond := [Cond.methodLink RL 101 yX2_count, Cond.instanceMethod yX2_count, Cond.selects RX2 yX2_count yX2_count, Cond.code yX2_count cX2_count 2 (some .int), Cond.methodLink RX2 97 yX2_counted, Cond.instanceMethod yX2_counted, Cond.selects RX2 yX2_counted yX2_counted, Cond.code yX2_counted cX2_counted 6 (some .int), Cond.methodLink RX2 94 yX2_all, Cond.instanceMethod yX2_all, Cond.selects RX2 yX2_all yX2_all, Cond.code yX2_all cX2_all 4 (some .int), Cond.methodLink RL 102 yL_leans, Cond.static yL_leans, Cond.codeWith yL_leans cL_leans 4 (some .int) [(0, 9, 12, 13)], Cond.methodLink RL 44 yX1_leans, Cond.instanceMethod yX1_leans, Cond.selects RX1 yX1_leans yX1_leans, Cond.code yX1_leans cX1_leans 5 (some .int), Cond.methodLink RL 104 yX2_leans, Cond.instanceMethod yX2_leans, Cond.selects RX2 yX2_leans yX2_leans, Cond.code yX2_leans cX2_leans 4 (some .int), Cond.methodLink RL 105 yL_carry]
def wsL_law0_r15 : List Cond := [Cond.static yL_carry, Cond.codeWith yL_carry cL_carry 6 (some .int) [(0, 12, 15, 13), (0, 12, 19, 15), (0, 12, 23, 50)], Cond.classLink RL 50 "java/lang/IllegalStateException", Cond.methodLink RL 47 yX1_carry, Cond.instanceMethod yX1_carry, Cond.selects RX1 yX1_carry yX1_carry, Cond.code yX1_carry cX1_carry 4 (some .int), Cond.classLink RX1 154 "java/lang/IllegalStateException", Cond.initialized "java/lang/IllegalStateException", Cond.methodLink RL 107 yX2_carry, Cond.instanceMethod yX2_carry, Cond.selects RX2 yX2_carry yX2_carry, Cond.code yX2_carry cX2_carry 4 (some .int), Cond.fieldLink RX2 100 "TwinOrchardModel" "tilt" "I", Cond.methodLink RL 108 yX1_tilt, Cond.instanceMethod yX1_tilt, Cond.selects RX1 yX1_tilt yX1_tilt, Cond.code yX1_tilt cX1_tilt 1 (some .int), Cond.methodLink RL 111 yX2_tilt, Cond.instanceMethod yX2_tilt, Cond.selects RX2 yX2_tilt yX2_tilt, Cond.code yX2_tilt cX2_tilt 1 (some .int), Cond.methodLink RL 112 yX1_balance, Cond.instanceMethod yX1_balance]
def wsL_law0_r16 : List Cond := [Cond.selects RX1 yX1_balance yX1_balance, Cond.code yX1_balance cX1_balance 3 (some .int), Cond.methodLink RX1 159 yX1_balancedApples, Cond.instanceMethod yX1_balancedApples, Cond.selects RX1 yX1_balancedApples yX1_balancedApples, Cond.code yX1_balancedApples cX1_balancedApples 2 (some .int), Cond.methodLink RX1 226 Lib.Math.min.name, Cond.static Lib.Math.min.name, Cond.code Lib.Math.min.name Lib.Math.min.code 2 (some .int), Cond.methodLink RX1 162 yX1_heaviestUpTo, Cond.instanceMethod yX1_heaviestUpTo, Cond.selects RX1 yX1_heaviestUpTo yX1_heaviestUpTo, Cond.code yX1_heaviestUpTo cX1_heaviestUpTo 3 (some .int), Cond.methodLink RX1 229 yX1_reachWithSort, Cond.instanceMethod yX1_reachWithSort, Cond.selects RX1 yX1_reachWithSort yX1_reachWithSort, Cond.code yX1_reachWithSort cX1_reachWithSort 5 none, Cond.methodLink RL 115 yX2_balance, Cond.instanceMethod yX2_balance, Cond.selects RX2 yX2_balance yX2_balance, Cond.code yX2_balance cX2_balance 6 (some .int), Cond.methodLink RX2 103 Lib.Math.min.name, Cond.methodLink RL 116 yL_pass, Cond.static yL_pass]
def wsL_law0_r17 : List Cond := [Cond.codeWith yL_pass cL_pass 4 (some .int) [(0, 9, 12, 15)], Cond.methodLink RL 52 yX1_pass, Cond.instanceMethod yX1_pass, Cond.selects RX1 yX1_pass yX1_pass, Cond.code yX1_pass cX1_pass 4 (some .int), Cond.methodLink RX1 167 yX1_passAt, Cond.instanceMethod yX1_passAt, Cond.selects RX1 yX1_passAt yX1_passAt, Cond.code yX1_passAt cX1_passAt 4 (some .int), Cond.methodLink RX1 174 yX1_liveLooked, Cond.instanceMethod yX1_liveLooked, Cond.selects RX1 yX1_liveLooked yX1_liveLooked, Cond.code yX1_liveLooked cX1_liveLooked 4 (some .int), Cond.methodLink RX1 240 yJ9_floorMod_7cf53, Cond.static yJ9_floorMod_7cf53, Cond.initialized RJ9, Cond.code yJ9_floorMod_7cf53 cJ9_floorMod_7cf53 3 (some .int), Cond.instanceMethod yX0_liveYear, Cond.selects RX0 yX0_liveYear yX0_liveYear, Cond.code yX0_liveYear cX0_liveYear 3 (some .int), Cond.methodLink RX0 22 yX0_freeze, Cond.instanceMethod yX0_freeze, Cond.selects RX0 yX0_freeze yX0_freeze, Cond.code yX0_freeze cX0_freeze 3 none]
def wsL_law0_r18 : List Cond := [Cond.fieldLink RX0 33 "TwinOrchard$Tree" "hardiness" "I", Cond.methodLink RX0 36 Lib.Math.max.name, Cond.methodLink RX0 26 yX0_apples, Cond.methodLink RX0 30 yX0_grow, Cond.instanceMethod yX0_grow, Cond.selects RX0 yX0_grow yX0_grow, Cond.code yX0_grow cX0_grow 2 none, Cond.methodLink RX0 42 Lib.Math.min.name, Cond.methodLink RL 118 yX2_pass, Cond.instanceMethod yX2_pass, Cond.selects RX2 yX2_pass yX2_pass, Cond.code yX2_pass cX2_pass 2 (some .int), Cond.methodLink RX2 110 yX2_yearsOn, Cond.instanceMethod yX2_yearsOn, Cond.selects RX2 yX2_yearsOn yX2_yearsOn, Cond.code yX2_yearsOn cX2_yearsOn 4 (some .int), Cond.methodLink RX2 106 yX2_yearOn, Cond.instanceMethod yX2_yearOn, Cond.selects RX2 yX2_yearOn yX2_yearOn, Cond.code yX2_yearOn cX2_yearOn 6 (some .int), Cond.methodLink RL 119 yL_foresee, Cond.static yL_foresee, Cond.codeWith yL_foresee cL_foresee 5 (some .int) [(0, 10, 13, 15), (0, 10, 17, 13)], Cond.methodLink RL 55 yX1_foresee]
def wsL_law0_r19 : List Cond := [Cond.instanceMethod yX1_foresee, Cond.selects RX1 yX1_foresee yX1_foresee, Cond.code yX1_foresee cX1_foresee 7 (some .int), Cond.methodLink RL 121 yX2_foresee, Cond.instanceMethod yX2_foresee, Cond.selects RX2 yX2_foresee yX2_foresee, Cond.code yX2_foresee cX2_foresee 6 (some .int), Cond.methodLink RX2 118 yX2_kept, Cond.instanceMethod yX2_kept, Cond.selects RX2 yX2_kept yX2_kept, Cond.code yX2_kept cX2_kept 1 (some (.array (.array .int))), Cond.classLink RX2 113 "[I", Cond.methodLink RX2 114 ⟨"[I", "clone", "()Ljava/lang/Object;"⟩, Cond.sameMethod "[I" "java/lang/Object" "clone" "()Ljava/lang/Object;", Cond.native ⟨"java/lang/Object", "clone", "()Ljava/lang/Object;"⟩, Cond.instanceMethod ⟨"java/lang/Object", "clone", "()Ljava/lang/Object;"⟩, Cond.selects "[I" ⟨"[I", "clone", "()Ljava/lang/Object;"⟩ ⟨"java/lang/Object", "clone", "()Ljava/lang/Object;"⟩, Cond.methodLink RX2 122 yX2_bringBack, Cond.instanceMethod yX2_bringBack, Cond.selects RX2 yX2_bringBack yX2_bringBack, Cond.code yX2_bringBack cX2_bringBack 4 none, Cond.methodLink RL 122 yL_advise, Cond.static yL_advise, Cond.codeWith yL_advise cL_advise 4 (some .int) [(0, 9, 12, 15)]]
def wsL_law0_r20 : List Cond := [Cond.methodLink RL 58 yX1_advise, Cond.instanceMethod yX1_advise, Cond.selects RX1 yX1_advise yX1_advise, Cond.code yX1_advise cX1_advise 7 (some .int), Cond.methodLink RX1 182 yX1_gainOfPruning, Cond.instanceMethod yX1_gainOfPruning, Cond.selects RX1 yX1_gainOfPruning yX1_gainOfPruning, Cond.code yX1_gainOfPruning cX1_gainOfPruning 5 (some .int), Cond.methodLink RL 124 yX2_advise, Cond.instanceMethod yX2_advise, Cond.selects RX2 yX2_advise yX2_advise, Cond.code yX2_advise cX2_advise 8 (some .int), Cond.methodLink RL 125 yX1_mean, Cond.instanceMethod yX1_mean, Cond.selects RX1 yX1_mean yX1_mean, Cond.code yX1_mean cX1_mean 4 (some .double), Cond.methodLink RL 129 yX2_mean, Cond.instanceMethod yX2_mean, Cond.selects RX2 yX2_mean yX2_mean, Cond.code yX2_mean cX2_mean 1 (some .double), Cond.methodLink RL 130 yX1_digest, Cond.instanceMethod yX1_digest, Cond.selects RX1 yX1_digest yX1_digest, Cond.code yX1_digest cX1_digest 5 (some .long)]
def wsL_law0_r21 : List Cond := [Cond.constantLong RX1 186 (863), Cond.constantLong RX1 188 (31), Cond.methodLink RX1 190 yX1_count, Cond.methodLink RX1 193 yX1_sort, Cond.methodLink RX1 196 yX1_tree, Cond.methodLink RX1 199 yX1_tilt, Cond.methodLink RL 134 yX2_digest, Cond.instanceMethod yX2_digest, Cond.selects RX2 yX2_digest yX2_digest, Cond.code yX2_digest cX2_digest 7 (some .long), Cond.constantLong RX2 126 (863), Cond.constantLong RX2 128 (31)]
def wsL_law0 : List Cond := (wsL_law0_r1 ++ (wsL_law0_r2 ++ (wsL_law0_r3 ++ (wsL_law0_r4 ++ (wsL_law0_r5 ++ (wsL_law0_r6 ++ (wsL_law0_r7 ++ (wsL_law0_r8 ++ (wsL_law0_r9 ++ (wsL_law0_r10 ++ (wsL_law0_r11 ++ (wsL_law0_r12 ++ (wsL_law0_r13 ++ (wsL_law0_r14 ++ (wsL_law0_r15 ++ (wsL_law0_r16 ++ (wsL_law0_r17 ++ (wsL_law0_r18 ++ (wsL_law0_r19 ++ (wsL_law0_r20 ++ wsL_law0_r21)))))))))))))))))))) ++ wsX10 ++ wsX20 ++ wsX00 ++ ([] : List Cond)
def wsL_law : List Cond := wsL_law0 ++ (vx_atS RX1 69 "java/lang/IndexOutOfBoundsException" ["java/lang/RuntimeException", "java/lang/Exception"]).filter goodWord ++ (vx_atS RX1 80 "java/lang/IllegalArgumentException" ["java/lang/RuntimeException", "java/lang/Exception"]).filter goodWord ++ (vx_atS RX1 158 "java/lang/IllegalStateException" ["java/lang/RuntimeException", "java/lang/Exception"]).filter goodWord
end
section
set_option maxRecDepth 20000 in
theorem wsL_law0_r1_in : ∀ w ∈ wsL_law0_r1, w ∈ lw_tbl := fun w h => (goodIn_p wsL_law0_r1 [62, 65] (by decide +kernel) (by decide +kernel) w h).1
set_option maxRecDepth 20000 in
theorem wsL_law0_r2_in : ∀ w ∈ wsL_law0_r2, w ∈ lw_tbl := fun w h => (goodIn_p wsL_law0_r2 [70, 93, 517] (by decide +kernel) (by decide +kernel) w h).1
set_option maxRecDepth 20000 in
theorem wsL_law0_r3_in : ∀ w ∈ wsL_law0_r3, w ∈ lw_tbl := fun w h => (goodIn_p wsL_law0_r3 [316, 281, 184, 551] (by decide +kernel) (by decide +kernel) w h).1
set_option maxRecDepth 20000 in
theorem wsL_law0_r4_in : ∀ w ∈ wsL_law0_r4, w ∈ lw_tbl := fun w h => (goodIn_p wsL_law0_r4 [554, 557, 561, 547, 340] (by decide +kernel) (by decide +kernel) w h).1
set_option maxRecDepth 20000 in
theorem wsL_law0_r5_in : ∀ w ∈ wsL_law0_r5, w ∈ lw_tbl := fun w h => (goodIn_p wsL_law0_r5 [565, 349, 293, 271, 355, 171] (by decide +kernel) (by decide +kernel) w h).1
set_option maxRecDepth 20000 in
theorem wsL_law0_r6_in : ∀ w ∈ wsL_law0_r6, w ∈ lw_tbl := fun w h => (goodIn_p wsL_law0_r6 [359, 362, 366, 274, 369, 569, 572] (by decide +kernel) (by decide +kernel) w h).1
set_option maxRecDepth 20000 in
theorem wsL_law0_r7_in : ∀ w ∈ wsL_law0_r7, w ∈ lw_tbl := fun w h => (goodIn_p wsL_law0_r7 [576, 580, 586, 590, 594] (by decide +kernel) (by decide +kernel) w h).1
set_option maxRecDepth 20000 in
theorem wsL_law0_r8_in : ∀ w ∈ wsL_law0_r8, w ∈ lw_tbl := fun w h => (goodIn_p wsL_law0_r8 [151, 601, 376, 381, 385] (by decide +kernel) (by decide +kernel) w h).1
set_option maxRecDepth 20000 in
theorem wsL_law0_r9_in : ∀ w ∈ wsL_law0_r9, w ∈ lw_tbl := fun w h => (goodIn_p wsL_law0_r9 [302, 389, 393, 606, 400] (by decide +kernel) (by decide +kernel) w h).1
set_option maxRecDepth 20000 in
theorem wsL_law0_r10_in : ∀ w ∈ wsL_law0_r10, w ∈ lw_tbl := fun w h => (goodIn_p wsL_law0_r10 [404, 610, 411, 415, 614] (by decide +kernel) (by decide +kernel) w h).1
set_option maxRecDepth 20000 in
theorem wsL_law0_r11_in : ∀ w ∈ wsL_law0_r11, w ∈ lw_tbl := fun w h => (goodIn_p wsL_law0_r11 [290, 298, 306, 618, 622] (by decide +kernel) (by decide +kernel) w h).1
set_option maxRecDepth 20000 in
theorem wsL_law0_r12_in : ∀ w ∈ wsL_law0_r12, w ∈ lw_tbl := fun w h => (goodIn_p wsL_law0_r12 [626, 278, 286, 630, 634] (by decide +kernel) (by decide +kernel) w h).1
set_option maxRecDepth 20000 in
theorem wsL_law0_r13_in : ∀ w ∈ wsL_law0_r13, w ∈ lw_tbl := fun w h => (goodIn_p wsL_law0_r13 [181, 167, 256, 260, 264, 268] (by decide +kernel) (by decide +kernel) w h).1
set_option maxRecDepth 20000 in
theorem wsL_law0_r14_in : ∀ w ∈ wsL_law0_r14, w ∈ lw_tbl := fun w h => (goodIn_p wsL_law0_r14 [638, 642, 646, 434, 650] (by decide +kernel) (by decide +kernel) w h).1
set_option maxRecDepth 20000 in
theorem wsL_law0_r15_in : ∀ w ∈ wsL_law0_r15, w ∈ lw_tbl := fun w h => (goodIn_p wsL_law0_r15 [443, 654, 137, 658] (by decide +kernel) (by decide +kernel) w h).1
set_option maxRecDepth 20000 in
theorem wsL_law0_r16_in : ∀ w ∈ wsL_law0_r16, w ∈ lw_tbl := fun w h => (goodIn_p wsL_law0_r16 [141, 145, 148, 155, 159, 662] (by decide +kernel) (by decide +kernel) w h).1
set_option maxRecDepth 20000 in
theorem wsL_law0_r17_in : ∀ w ∈ wsL_law0_r17, w ∈ lw_tbl := fun w h => (goodIn_p wsL_law0_r17 [467, 472, 476, 479, 483, 487] (by decide +kernel) (by decide +kernel) w h).1
set_option maxRecDepth 20000 in
theorem wsL_law0_r18_in : ∀ w ∈ wsL_law0_r18, w ∈ lw_tbl := fun w h => (goodIn_p wsL_law0_r18 [493, 667, 671, 675] (by decide +kernel) (by decide +kernel) w h).1
set_option maxRecDepth 20000 in
theorem wsL_law0_r19_in : ∀ w ∈ wsL_law0_r19, w ∈ lw_tbl := fun w h => (goodIn_p wsL_law0_r19 [501, 679, 683, 695] (by decide +kernel) (by decide +kernel) w h).1
set_option maxRecDepth 20000 in
theorem wsL_law0_r20_in : ∀ w ∈ wsL_law0_r20, w ∈ lw_tbl := fun w h => (goodIn_p wsL_law0_r20 [508, 512, 699, 163, 703, 175] (by decide +kernel) (by decide +kernel) w h).1
set_option maxRecDepth 20000 in
theorem wsL_law0_r21_in : ∀ w ∈ wsL_law0_r21, w ∈ lw_tbl := fun w h => (goodIn_p wsL_law0_r21 [707] (by decide +kernel) (by decide +kernel) w h).1
set_option maxRecDepth 20000 in
theorem wsX10_inT : ∀ w ∈ wsX10, w ∈ lw_tbl := fun w h => (goodIn_p wsX10 [] (by decide +kernel) (by decide +kernel) w h).1
set_option maxRecDepth 20000 in
theorem wsX20_inT : ∀ w ∈ wsX20, w ∈ lw_tbl := fun w h => (goodIn_p wsX20 [] (by decide +kernel) (by decide +kernel) w h).1
set_option maxRecDepth 20000 in
theorem wsX00_inT : ∀ w ∈ wsX00, w ∈ lw_tbl := fun w h => (goodIn_p wsX00 [] (by decide +kernel) (by decide +kernel) w h).1
theorem wsL_law_in0 : ∀ w ∈ wsL_law0, w ∈ lw_tbl := fun w h => (List.mem_append.mp h).elim (fun h => (List.mem_append.mp h).elim (fun h => (List.mem_append.mp h).elim (fun h => (List.mem_append.mp h).elim (fun h => (List.mem_append.mp h).elim (fun h => wsL_law0_r1_in w h) (fun h => (List.mem_append.mp h).elim (fun h => wsL_law0_r2_in w h) (fun h => (List.mem_append.mp h).elim (fun h => wsL_law0_r3_in w h) (fun h => (List.mem_append.mp h).elim (fun h => wsL_law0_r4_in w h) (fun h => (List.mem_append.mp h).elim (fun h => wsL_law0_r5_in w h) (fun h => (List.mem_append.mp h).elim (fun h => wsL_law0_r6_in w h) (fun h => (List.mem_append.mp h).elim (fun h => wsL_law0_r7_in w h) (fun h => (List.mem_append.mp h).elim (fun h => wsL_law0_r8_in w h) (fun h => (List.mem_append.mp h).elim (fun h => wsL_law0_r9_in w h) (fun h => (List.mem_append.mp h).elim (fun h => wsL_law0_r10_in w h) (fun h => (List.mem_append.mp h).elim (fun h => wsL_law0_r11_in w h) (fun h => (List.mem_append.mp h).elim (fun h => wsL_law0_r12_in w h) (fun h => (List.mem_append.mp h).elim (fun h => wsL_law0_r13_in w h) (fun h => (List.mem_append.mp h).elim (fun h => wsL_law0_r14_in w h) (fun h => (List.mem_append.mp h).elim (fun h => wsL_law0_r15_in w h) (fun h => (List.mem_append.mp h).elim (fun h => wsL_law0_r16_in w h) (fun h => (List.mem_append.mp h).elim (fun h => wsL_law0_r17_in w h) (fun h => (List.mem_append.mp h).elim (fun h => wsL_law0_r18_in w h) (fun h => (List.mem_append.mp h).elim (fun h => wsL_law0_r19_in w h) (fun h => (List.mem_append.mp h).elim (fun h => wsL_law0_r20_in w h) (fun h => wsL_law0_r21_in w h))))))))))))))))))))) (fun h => wsX10_inT w h)) (fun h => wsX20_inT w h)) (fun h => wsX00_inT w h)) (fun h => absurd h List.not_mem_nil)
theorem wsL_law_x0 : ∀ w ∈ (vx_atS RX1 69 "java/lang/IndexOutOfBoundsException" ["java/lang/RuntimeException", "java/lang/Exception"]).filter goodWord, w ∈ lw_tbl := by decide +kernel
theorem wsL_law_x1 : ∀ w ∈ (vx_atS RX1 80 "java/lang/IllegalArgumentException" ["java/lang/RuntimeException", "java/lang/Exception"]).filter goodWord, w ∈ lw_tbl := by decide +kernel
theorem wsL_law_x2 : ∀ w ∈ (vx_atS RX1 158 "java/lang/IllegalStateException" ["java/lang/RuntimeException", "java/lang/Exception"]).filter goodWord, w ∈ lw_tbl := by decide +kernel
theorem wsL_law_in : ∀ w ∈ wsL_law, w ∈ lw_tbl := fun w h => (List.mem_append.mp h).elim (fun h => (List.mem_append.mp h).elim (fun h => (List.mem_append.mp h).elim (fun h => wsL_law_in0 w h) (fun h => wsL_law_x0 w h)) (fun h => wsL_law_x1 w h)) (fun h => wsL_law_x2 w h)
theorem inlX0 : ∀ w ∈ wsX00, w ∈ wsL_law := fun _ h => List.mem_append_left _ (List.mem_append_left _ (List.mem_append_left _ (List.mem_append_left _ (List.mem_append_right _ h))))
theorem inX0 : ∀ w ∈ wsX00, w ∈ lw_tbl := fun w h => wsL_law_in w (inlX0 w h)
theorem inlX1 : ∀ w ∈ wsX10, w ∈ wsL_law := fun _ h => List.mem_append_left _ (List.mem_append_left _ (List.mem_append_left _ (List.mem_append_left _ (List.mem_append_left _ (List.mem_append_left _ (List.mem_append_right _ h))))))
theorem inX1 : ∀ w ∈ wsX10, w ∈ lw_tbl := fun w h => wsL_law_in w (inlX1 w h)
theorem inlX2 : ∀ w ∈ wsX20, w ∈ wsL_law := fun _ h => List.mem_append_left _ (List.mem_append_left _ (List.mem_append_left _ (List.mem_append_left _ (List.mem_append_left _ (List.mem_append_right _ h)))))
theorem inX2 : ∀ w ∈ wsX20, w ∈ lw_tbl := fun w h => wsL_law_in w (inlX2 w h)
theorem inJx145de : ∀ w ∈ wsJx145de0, w ∈ lw_tbl := by decide +kernel
theorem inJx8e188 : ∀ w ∈ wsJx8e1880, w ∈ lw_tbl := by decide +kernel
theorem inJ9 : ∀ w ∈ wsJ90, w ∈ lw_tbl := by decide +kernel
theorem inJ0 : ∀ w ∈ wsJ00, w ∈ lw_tbl := by decide +kernel
theorem inJ10 : ∀ w ∈ wsJ100, w ∈ lw_tbl := by decide +kernel
theorem inJ7 : ∀ w ∈ wsJ70, w ∈ lw_tbl := by decide +kernel
abbrev vwCl : List vw_C := [(RX0, TX0, 4), (RX1, TX1, 13), (RX2, TX2, 8)]
end
section
/-! base: Int-valued words for Int32 -/
def iI (z : Int) : Int32 := Int32.ofInt z
abbrev St : Type := Nat → Nat → Int
def fu (f : Nat → Int) (k : Nat) (v : Int) : Nat → Int := fun j => if j = k then v else f j
def su (σ : St) (i k : Nat) (v : Int) : St := fun a => if a = i then fu (σ i) k v else σ a
theorem fu_s (f : Nat → Int) (k : Nat) (v : Int) : fu f k v k = v := if_pos rfl
theorem fu_n (f : Nat → Int) {k j : Nat} (v : Int) (h : j ≠ k) : fu f k v j = f j := if_neg h
theorem iI_add (a b : Int) : iI a + iI b = iI (a + b) := (Int32.ofInt_add a b).symm
theorem iI_sub (a b : Int) : iI a - iI b = iI (a - b) := (Int32.ofInt_sub a b).symm
theorem iI_mul (a b : Int) : iI a * iI b = iI (a * b) := (Int32.ofInt_mul a b).symm
theorem iI_neg (a : Int) : -iI a = iI (-a) := (Int32.ofInt_neg a).symm
theorem iI_toInt {z : Int} (h1 : -2147483648 ≤ z) (h2 : z ≤ 2147483647) : (iI z).toInt = z := Int32.toInt_ofInt_of_le h1 (by omega)
theorem iI_of (x : Int32) : x = iI x.toInt := (Int32.ofInt_toInt x).symm
theorem iI_lo (x : Int32) : -2147483648 ≤ x.toInt := Int32.le_toInt x
theorem iI_hi (x : Int32) : x.toInt ≤ 2147483647 := by have := Int32.toInt_lt x; omega
theorem iI_ofNat (n : Nat) : Int32.ofNat n = iI (n : Int) := Int32.ofInt_eq_ofNat.symm
theorem iI_0 : iI 0 = 0 := rfl
/-- a value that an int can have -/
def inR (z : Int) : Prop := -2147483648 ≤ z ∧ z ≤ 2147483647
theorem iI_lt {a b : Int} (ha : inR a) (hb : inR b) : iI a < iI b ↔ a < b := by
  rw [Int32.lt_iff_toInt_lt, iI_toInt ha.1 ha.2, iI_toInt hb.1 hb.2]
theorem iI_le {a b : Int} (ha : inR a) (hb : inR b) : iI a ≤ iI b ↔ a ≤ b := by
  rw [Int32.le_iff_toInt_le, iI_toInt ha.1 ha.2, iI_toInt hb.1 hb.2]
theorem iI_eq {a b : Int} (ha : inR a) (hb : inR b) : iI a = iI b ↔ a = b := by
  rw [← Int32.toInt_inj, iI_toInt ha.1 ha.2, iI_toInt hb.1 hb.2]
theorem iI_div {a b : Int} (ha : 0 ≤ a ∧ a ≤ 2147483647) (hb : 0 < b ∧ b ≤ 2147483647) : iI a / iI b = iI (a / b) := by
  apply Int32.toInt_inj.mp
  have h1 := iI_toInt (z := a) (by omega) (by omega)
  have h2 := iI_toInt (z := b) (by omega) (by omega)
  have h3 : 0 ≤ a / b := Int.ediv_nonneg ha.1 (by omega)
  have h4 : a / b ≤ a := Int.ediv_le_self b ha.1
  rw [Int32.toInt_div_of_ne_right _ _ (fun h => by rw [h] at h2; have h5 : (-1 : Int32).toInt = -1 := rfl; omega), h1, h2, iI_toInt (by omega) (by omega), Int.tdiv_eq_ediv_of_nonneg ha.1]
theorem iI_rem {a b : Int} (ha : 0 ≤ a ∧ a ≤ 2147483647) (hb : 0 < b ∧ b ≤ 2147483647) : iI a - iI a / iI b * iI b = iI (a % b) := by
  rw [iI_div ha hb, iI_mul, iI_sub]
  congr 1
  have h := Int.emod_def a b
  rw [h, Int.mul_comm]
theorem iI_ne0 {b : Int} (hb : 0 < b ∧ b ≤ 2147483647) : ¬ iI b = 0 := by
  rw [← iI_0, iI_eq ⟨by omega, by omega⟩ ⟨by omega, by omega⟩]
  omega
theorem iI_in {z : Int} {j n : Nat} (hz : z = (j : Int)) (hj : j < n) (hn : n ≤ 2147483647) : vp_in (iI z) n ∧ (iI z).toNatClampNeg = j := by
  subst hz
  have h1 : (iI (j : Int)).toInt = (j : Int) := iI_toInt (by omega) (by omega)
  have h2 : (iI (j : Int)).toNatClampNeg = j := by
    show (iI (j : Int)).toInt.toNat = j
    rw [h1]
    rfl
  refine ⟨?_, h2⟩
  rintro (h | h)
  · rw [← iI_0, iI_lt ⟨by omega, by omega⟩ ⟨by omega, by omega⟩] at h
    omega
  · rw [h2] at h
    omega
theorem iI_upd (f : Nat → Int) (k : Nat) (v : Int) : upd (fun j => iI (f j)) k (iI v) = fun j => iI (fu f k v j) := by
  funext j
  by_cases h : j = k <;> simp [upd, fu, h]
theorem iI_inc (i : Nat) : iI (i : Int) + Int32.ofInt 1 = iI ((i + 1 : Nat) : Int) := iI_add _ _
theorem iI_bool {v : Int} (hv : v = 0 ∨ v = 1) : vp_nar .boolean (iI v) = iI v := by
  rcases hv with rfl | rfl <;> rfl
section GB
variable {p : Program} {l : Launch} {e : Env} {R : Room} {s : State} {m : MethodId} {args : Array Value} {below : List Frame} {meth : Method} {c : Code} {H : Heap} {locs : List Loc} {cells slots : Nat} {Q : State → Prop}
variable {cc : ByteArray} {pc : Nat} {ls : Array Slot} {rest : List Value} {D : va_G} {cl : List vw_C} {A : Nat → Prop} {a : Nat} {tys : List (ClassId × FieldType)} {ws : va_W} {H0 : Heap}
theorem gi_add (hx : p.tables.exec = Jvm.exec) (hb : c.code = cc) {x y : Int} (hdg : decode cc pc = .ok (.iadd, 1))
    (k : W p l e R s m args below meth c H locs cells slots Q (F0 m (pc + 1) ls (.int (iI (x + y)) :: rest))) : W p l e R s m args below meth c H locs cells slots Q (F0 m pc ls (.int (iI y) :: .int (iI x) :: rest)) := lv_iadd hx hb hdg (by rw [iI_add]; exact k)
theorem gi_sub (hx : p.tables.exec = Jvm.exec) (hb : c.code = cc) {x y : Int} (hdg : decode cc pc = .ok (.isub, 1))
    (k : W p l e R s m args below meth c H locs cells slots Q (F0 m (pc + 1) ls (.int (iI (x - y)) :: rest))) : W p l e R s m args below meth c H locs cells slots Q (F0 m pc ls (.int (iI y) :: .int (iI x) :: rest)) := lv_isub hx hb hdg (by rw [iI_sub]; exact k)
theorem gi_mul (hx : p.tables.exec = Jvm.exec) (hb : c.code = cc) {x y : Int} (hdg : decode cc pc = .ok (.imul, 1))
    (k : W p l e R s m args below meth c H locs cells slots Q (F0 m (pc + 1) ls (.int (iI (x * y)) :: rest))) : W p l e R s m args below meth c H locs cells slots Q (F0 m pc ls (.int (iI y) :: .int (iI x) :: rest)) := lv_imul hx hb hdg (by rw [iI_mul]; exact k)
theorem gi_neg (hx : p.tables.exec = Jvm.exec) (hb : c.code = cc) {x : Int} (hdg : decode cc pc = .ok (.ineg, 1))
    (k : W p l e R s m args below meth c H locs cells slots Q (F0 m (pc + 1) ls (.int (iI (-x)) :: rest))) : W p l e R s m args below meth c H locs cells slots Q (F0 m pc ls (.int (iI x) :: rest)) := lv_ineg hx hb hdg (by rw [iI_neg]; exact k)
theorem gi_div (hx : p.tables.exec = Jvm.exec) (hb : c.code = cc) {x y : Int} (hx0 : 0 ≤ x ∧ x ≤ 2147483647) (hy0 : 0 < y ∧ y ≤ 2147483647) (hdg : decode cc pc = .ok (.idiv, 1))
    (k : W p l e R s m args below meth c H locs cells slots Q (F0 m (pc + 1) ls (.int (iI (x / y)) :: rest))) : W p l e R s m args below meth c H locs cells slots Q (F0 m pc ls (.int (iI y) :: .int (iI x) :: rest)) := lv_idiv hx hb hdg (iI_ne0 hy0) (by rw [iI_div hx0 hy0]; exact k)
theorem gi_rem (hx : p.tables.exec = Jvm.exec) (hb : c.code = cc) {x y : Int} (hx0 : 0 ≤ x ∧ x ≤ 2147483647) (hy0 : 0 < y ∧ y ≤ 2147483647) (hdg : decode cc pc = .ok (.irem, 1))
    (k : W p l e R s m args below meth c H locs cells slots Q (F0 m (pc + 1) ls (.int (iI (x % y)) :: rest))) : W p l e R s m args below meth c H locs cells slots Q (F0 m pc ls (.int (iI y) :: .int (iI x) :: rest)) := lv_irem hx hb hdg (iI_ne0 hy0) (by rw [iI_rem hx0 hy0]; exact k)
theorem gi_icmp_lt (hx : p.tables.exec = Jvm.exec) (hb : c.code = cc) {x y : Int} {off : Int} {tgt : Nat} (hdg : decode cc pc = .ok (.if_icmp .lt off, 3)) (ht : (pc : Int) + off = (tgt : Int)) (rx : inR x) (ry : inR y)
    (kt : x < y → W p l e R s m args below meth c H locs cells slots Q (F0 m tgt ls rest)) (kf : ¬ x < y → W p l e R s m args below meth c H locs cells slots Q (F0 m (pc + 3) ls rest)) : W p l e R s m args below meth c H locs cells slots Q (F0 m pc ls (.int (iI y) :: .int (iI x) :: rest)) := lv_icmp_lt hx hb hdg ht (fun h => kt ((iI_lt rx ry).mp h)) (fun h => kf (fun g => h ((iI_lt rx ry).mpr g)))
theorem gi_icmp_ge (hx : p.tables.exec = Jvm.exec) (hb : c.code = cc) {x y : Int} {off : Int} {tgt : Nat} (hdg : decode cc pc = .ok (.if_icmp .ge off, 3)) (ht : (pc : Int) + off = (tgt : Int)) (rx : inR x) (ry : inR y)
    (kt : y ≤ x → W p l e R s m args below meth c H locs cells slots Q (F0 m tgt ls rest)) (kf : ¬ y ≤ x → W p l e R s m args below meth c H locs cells slots Q (F0 m (pc + 3) ls rest)) : W p l e R s m args below meth c H locs cells slots Q (F0 m pc ls (.int (iI y) :: .int (iI x) :: rest)) := lv_icmp_ge hx hb hdg ht (fun h => kt ((iI_le ry rx).mp h)) (fun h => kf (fun g => h ((iI_le ry rx).mpr g)))
theorem gi_icmp_gt (hx : p.tables.exec = Jvm.exec) (hb : c.code = cc) {x y : Int} {off : Int} {tgt : Nat} (hdg : decode cc pc = .ok (.if_icmp .gt off, 3)) (ht : (pc : Int) + off = (tgt : Int)) (rx : inR x) (ry : inR y)
    (kt : y < x → W p l e R s m args below meth c H locs cells slots Q (F0 m tgt ls rest)) (kf : ¬ y < x → W p l e R s m args below meth c H locs cells slots Q (F0 m (pc + 3) ls rest)) : W p l e R s m args below meth c H locs cells slots Q (F0 m pc ls (.int (iI y) :: .int (iI x) :: rest)) := lv_icmp_gt hx hb hdg ht (fun h => kt ((iI_lt ry rx).mp h)) (fun h => kf (fun g => h ((iI_lt ry rx).mpr g)))
theorem gi_icmp_le (hx : p.tables.exec = Jvm.exec) (hb : c.code = cc) {x y : Int} {off : Int} {tgt : Nat} (hdg : decode cc pc = .ok (.if_icmp .le off, 3)) (ht : (pc : Int) + off = (tgt : Int)) (rx : inR x) (ry : inR y)
    (kt : x ≤ y → W p l e R s m args below meth c H locs cells slots Q (F0 m tgt ls rest)) (kf : ¬ x ≤ y → W p l e R s m args below meth c H locs cells slots Q (F0 m (pc + 3) ls rest)) : W p l e R s m args below meth c H locs cells slots Q (F0 m pc ls (.int (iI y) :: .int (iI x) :: rest)) := lv_icmp_le hx hb hdg ht (fun h => kt ((iI_le rx ry).mp h)) (fun h => kf (fun g => h ((iI_le rx ry).mpr g)))
theorem gi_icmp_eq (hx : p.tables.exec = Jvm.exec) (hb : c.code = cc) {x y : Int} {off : Int} {tgt : Nat} (hdg : decode cc pc = .ok (.if_icmp .eq off, 3)) (ht : (pc : Int) + off = (tgt : Int)) (rx : inR x) (ry : inR y)
    (kt : x = y → W p l e R s m args below meth c H locs cells slots Q (F0 m tgt ls rest)) (kf : ¬ x = y → W p l e R s m args below meth c H locs cells slots Q (F0 m (pc + 3) ls rest)) : W p l e R s m args below meth c H locs cells slots Q (F0 m pc ls (.int (iI y) :: .int (iI x) :: rest)) := lv_icmp_eq hx hb hdg ht (fun h => kt ((iI_eq rx ry).mp h)) (fun h => kf (fun g => h ((iI_eq rx ry).mpr g)))
theorem gi_icmp_ne (hx : p.tables.exec = Jvm.exec) (hb : c.code = cc) {x y : Int} {off : Int} {tgt : Nat} (hdg : decode cc pc = .ok (.if_icmp .ne off, 3)) (ht : (pc : Int) + off = (tgt : Int)) (rx : inR x) (ry : inR y)
    (kt : ¬ x = y → W p l e R s m args below meth c H locs cells slots Q (F0 m tgt ls rest)) (kf : x = y → W p l e R s m args below meth c H locs cells slots Q (F0 m (pc + 3) ls rest)) : W p l e R s m args below meth c H locs cells slots Q (F0 m pc ls (.int (iI y) :: .int (iI x) :: rest)) := lv_icmp_ne hx hb hdg ht (fun h => kt (fun g => h ((iI_eq rx ry).mpr g))) (fun h => kf ((iI_eq rx ry).mp h))
theorem gi_if_lt (hx : p.tables.exec = Jvm.exec) (hb : c.code = cc) {x : Int} {off : Int} {tgt : Nat} (hdg : decode cc pc = .ok (.ifCond .lt off, 3)) (ht : (pc : Int) + off = (tgt : Int)) (rx : inR x)
    (kt : x < 0 → W p l e R s m args below meth c H locs cells slots Q (F0 m tgt ls rest)) (kf : ¬ x < 0 → W p l e R s m args below meth c H locs cells slots Q (F0 m (pc + 3) ls rest)) : W p l e R s m args below meth c H locs cells slots Q (F0 m pc ls (.int (iI x) :: rest)) := lv_if_lt hx hb hdg ht (fun h => kt ((iI_lt rx ⟨by decide, by decide⟩).mp h)) (fun h => kf (fun g => h ((iI_lt rx ⟨by decide, by decide⟩).mpr g)))
theorem gi_if_ge (hx : p.tables.exec = Jvm.exec) (hb : c.code = cc) {x : Int} {off : Int} {tgt : Nat} (hdg : decode cc pc = .ok (.ifCond .ge off, 3)) (ht : (pc : Int) + off = (tgt : Int)) (rx : inR x)
    (kt : 0 ≤ x → W p l e R s m args below meth c H locs cells slots Q (F0 m tgt ls rest)) (kf : ¬ 0 ≤ x → W p l e R s m args below meth c H locs cells slots Q (F0 m (pc + 3) ls rest)) : W p l e R s m args below meth c H locs cells slots Q (F0 m pc ls (.int (iI x) :: rest)) := lv_if_ge hx hb hdg ht (fun h => kt ((iI_le ⟨by decide, by decide⟩ rx).mp h)) (fun h => kf (fun g => h ((iI_le ⟨by decide, by decide⟩ rx).mpr g)))
theorem gi_if_gt (hx : p.tables.exec = Jvm.exec) (hb : c.code = cc) {x : Int} {off : Int} {tgt : Nat} (hdg : decode cc pc = .ok (.ifCond .gt off, 3)) (ht : (pc : Int) + off = (tgt : Int)) (rx : inR x)
    (kt : 0 < x → W p l e R s m args below meth c H locs cells slots Q (F0 m tgt ls rest)) (kf : ¬ 0 < x → W p l e R s m args below meth c H locs cells slots Q (F0 m (pc + 3) ls rest)) : W p l e R s m args below meth c H locs cells slots Q (F0 m pc ls (.int (iI x) :: rest)) := lv_if_gt hx hb hdg ht (fun h => kt ((iI_lt ⟨by decide, by decide⟩ rx).mp h)) (fun h => kf (fun g => h ((iI_lt ⟨by decide, by decide⟩ rx).mpr g)))
theorem gi_if_le (hx : p.tables.exec = Jvm.exec) (hb : c.code = cc) {x : Int} {off : Int} {tgt : Nat} (hdg : decode cc pc = .ok (.ifCond .le off, 3)) (ht : (pc : Int) + off = (tgt : Int)) (rx : inR x)
    (kt : x ≤ 0 → W p l e R s m args below meth c H locs cells slots Q (F0 m tgt ls rest)) (kf : ¬ x ≤ 0 → W p l e R s m args below meth c H locs cells slots Q (F0 m (pc + 3) ls rest)) : W p l e R s m args below meth c H locs cells slots Q (F0 m pc ls (.int (iI x) :: rest)) := lv_if_le hx hb hdg ht (fun h => kt ((iI_le rx ⟨by decide, by decide⟩).mp h)) (fun h => kf (fun g => h ((iI_le rx ⟨by decide, by decide⟩).mpr g)))
theorem gi_if_eq (hx : p.tables.exec = Jvm.exec) (hb : c.code = cc) {x : Int} {off : Int} {tgt : Nat} (hdg : decode cc pc = .ok (.ifCond .eq off, 3)) (ht : (pc : Int) + off = (tgt : Int)) (rx : inR x)
    (kt : x = 0 → W p l e R s m args below meth c H locs cells slots Q (F0 m tgt ls rest)) (kf : ¬ x = 0 → W p l e R s m args below meth c H locs cells slots Q (F0 m (pc + 3) ls rest)) : W p l e R s m args below meth c H locs cells slots Q (F0 m pc ls (.int (iI x) :: rest)) := lv_if_eq hx hb hdg ht (fun h => kt ((iI_eq rx ⟨by decide, by decide⟩).mp h)) (fun h => kf (fun g => h ((iI_eq rx ⟨by decide, by decide⟩).mpr g)))
theorem gi_if_ne (hx : p.tables.exec = Jvm.exec) (hb : c.code = cc) {x : Int} {off : Int} {tgt : Nat} (hdg : decode cc pc = .ok (.ifCond .ne off, 3)) (ht : (pc : Int) + off = (tgt : Int)) (rx : inR x)
    (kt : ¬ x = 0 → W p l e R s m args below meth c H locs cells slots Q (F0 m tgt ls rest)) (kf : x = 0 → W p l e R s m args below meth c H locs cells slots Q (F0 m (pc + 3) ls rest)) : W p l e R s m args below meth c H locs cells slots Q (F0 m pc ls (.int (iI x) :: rest)) := lv_if_ne hx hb hdg ht (fun h => kt (fun g => h ((iI_eq rx ⟨by decide, by decide⟩).mpr g))) (fun h => kf ((iI_eq rx ⟨by decide, by decide⟩).mp h))
theorem gi_iald (hx : p.tables.exec = Jvm.exec) (hb : c.code = cc) (hK : va_K D cl tys s) (hP : va_P D cl ws H) (q0 t0 : Nat) {cA : ClassId} {n : Nat} {f : Nat → Int} (ha : ws[q0]? = some (a, .inl (cA, n, .inl (fun j => iI (f j))))) (ht : tys[t0]? = some (cA, .int)) {z : Int} (j : Nat) (hz : z = (j : Int)) (hj : j < n) (hn : n ≤ 2147483647) (hdg : decode cc pc = .ok (.iaload, 1))
    (kk : W p l e R s m args below meth c H locs cells slots Q (F0 m (pc + 1) ls (.int (iI (f j)) :: rest))) : W p l e R s m args below meth c H locs cells slots Q (F0 m pc ls (.int (iI z) :: .ref a :: rest)) :=
  va_iald hx hb hK hP q0 t0 ha ht (iI_in hz hj hn).1 hdg (by rw [(iI_in hz hj hn).2]; exact kk)
theorem gi_zald (hx : p.tables.exec = Jvm.exec) (hb : c.code = cc) (hK : va_K D cl tys s) (hP : va_P D cl ws H) (q0 t0 : Nat) {cA : ClassId} {n : Nat} {f : Nat → Int} (ha : ws[q0]? = some (a, .inl (cA, n, .inl (fun j => iI (f j))))) (ht : tys[t0]? = some (cA, .boolean)) {z : Int} (j : Nat) (hz : z = (j : Int)) (hj : j < n) (hn : n ≤ 2147483647) (hdg : decode cc pc = .ok (.baload, 1))
    (kk : W p l e R s m args below meth c H locs cells slots Q (F0 m (pc + 1) ls (.int (iI (f j)) :: rest))) : W p l e R s m args below meth c H locs cells slots Q (F0 m pc ls (.int (iI z) :: .ref a :: rest)) :=
  va_zald hx hb hK hP q0 t0 ha ht (iI_in hz hj hn).1 hdg (by rw [(iI_in hz hj hn).2]; exact kk)
theorem gi_iast (hx : p.tables.exec = Jvm.exec) (hb : c.code = cc) (hK : va_K D cl tys s) (hP : va_P D cl ws H) (hD : va_D A ws) (hS : va_S A H0 H locs) (q0 t0 : Nat) {cA : ClassId} {n : Nat} {f : Nat → Int} (ha : ws[q0]? = some (a, .inl (cA, n, .inl (fun j => iI (f j))))) (ht : tys[t0]? = some (cA, .int)) {z v : Int} (j : Nat) (hz : z = (j : Int)) (hj : j < n) (hn : n ≤ 2147483647) (hdg : decode cc pc = .ok (.iastore, 1))
    (kk : ∀ (H1 : Heap) (locs1 : List Loc), va_P D cl (ws.set q0 (a, .inl (cA, n, .inl (fun j' => iI (fu f j v j'))))) H1 → va_D A (ws.set q0 (a, .inl (cA, n, .inl (fun j' => iI (fu f j v j'))))) → va_S A H0 H1 locs1 → W p l e R s m args below meth c H1 locs1 cells slots Q (F0 m (pc + 1) ls rest)) : W p l e R s m args below meth c H locs cells slots Q (F0 m pc ls (.int (iI v) :: .int (iI z) :: .ref a :: rest)) :=
  va_iast hx hb hK hP hD hS q0 t0 ha ht (iI_in hz hj hn).1 hdg (by rw [(iI_in hz hj hn).2, iI_upd]; exact kk)
theorem gi_zast (hx : p.tables.exec = Jvm.exec) (hb : c.code = cc) (hK : va_K D cl tys s) (hP : va_P D cl ws H) (hD : va_D A ws) (hS : va_S A H0 H locs) (q0 t0 : Nat) {cA : ClassId} {n : Nat} {f : Nat → Int} (ha : ws[q0]? = some (a, .inl (cA, n, .inl (fun j => iI (f j))))) (ht : tys[t0]? = some (cA, .boolean)) {z v : Int} (j : Nat) (hz : z = (j : Int)) (hj : j < n) (hn : n ≤ 2147483647) (hv : v = 0 ∨ v = 1) (hdg : decode cc pc = .ok (.bastore, 1))
    (kk : ∀ (H1 : Heap) (locs1 : List Loc), va_P D cl (ws.set q0 (a, .inl (cA, n, .inl (fun j' => iI (fu f j v j'))))) H1 → va_D A (ws.set q0 (a, .inl (cA, n, .inl (fun j' => iI (fu f j v j'))))) → va_S A H0 H1 locs1 → W p l e R s m args below meth c H1 locs1 cells slots Q (F0 m (pc + 1) ls rest)) : W p l e R s m args below meth c H locs cells slots Q (F0 m pc ls (.int (iI v) :: .int (iI z) :: .ref a :: rest)) :=
  va_zast hx hb hK hP hD hS q0 t0 ha ht (iI_in hz hj hn).1 hdg (by rw [(iI_in hz hj hn).2, iI_bool hv, iI_upd]; exact kk)
end GB
end
section
/-! base: one shape of contract for all methods: a world goes in, a world comes out -/
/-- what a method's start gives -/
def gU (D : va_G) (tys : List (ClassId × FieldType)) (wi : va_W) (ex : State → Prop) (sz : Nat) : State → Prop := fun U => U.heap.size = sz ∧ va_P D vwCl wi U.heap ∧ va_K D vwCl tys U ∧ va_D (fun _ => True) wi ∧ ex U
/-- what a method's end gives: an answer, a world, both by a number of things κ of which kr is known -/
def gQ (D : va_G) (tys : List (ClassId × FieldType)) (wo : St → va_W) (A : Nat → Prop) (rv : St → Option Value) (kr : St → Prop) : Array Value → State → Outcome → State → Prop := fun _ st oc t =>
  (∃ κ : St, oc = .returned (rv κ) ∧ kr κ ∧ va_P D vwCl (wo κ) t.heap ∧ va_K D vwCl tys t ∧ va_D A (wo κ)) ∧ va_F A st t
def gMet (l : Launch) (y : MethodName) (ws : List Cond) (rm : Room) (D : va_G) (tys : List (ClassId × FieldType)) (wi : va_W) (av : List Value) (ex : State → Prop) (rv : St → Option Value) (kr : St → Prop) (wo : St → va_W) : Prop :=
  ∀ sz : Nat, Met l y ws rm (va_Pc av (gU D tys wi ex sz)) (gQ D tys wo (va_A wi sz) rv kr) rm.cells rm.slots (va_A wi sz)
/-- what is said of a state besides its world may be carried along -/
def gEx (ex : State → Prop) : Prop := (∀ (a : Array Value) (U : State) (g : JFrame) (mk : MethodId), ex U → ex (U.calling g mk a))
theorem gEx_t : gEx (fun _ => True) := fun _ _ _ _ _ => trivial
theorem g_blind {D : va_G} {tys : List (ClassId × FieldType)} {wi : va_W} {av : List Value} {ex : State → Prop} {sz : Nat} (he : gEx ex) : FrameBlind (va_Pc av (gU D tys wi ex sz)) := by
  intro a U g mk q
  obtain ⟨q0, q1, qP, qK, qD, qE⟩ := q
  exact ⟨q0, q1, qP, va_K.moved (u := U) (U := U.calling g mk a) (Vm.Alike.refl U.vm) qK, qD, he a U g mk qE⟩
theorem g_left {D : va_G} {cl : List vw_C} {a b : va_W} {H : Heap} (h : va_P D cl (a ++ b) H) : va_P D cl a H := fun k q hk => h k q (by rw [List.getElem?_append_left (List.getElem?_eq_some_iff.mp hk).1]; exact hk)
theorem g_right {D : va_G} {cl : List vw_C} {a b : va_W} {H : Heap} (h : va_P D cl (a ++ b) H) : va_P D cl b H := fun k q hk => h (a.length + k) q (by rw [List.getElem?_append_right (by omega), Nat.add_sub_cancel_left]; exact hk)
theorem g_Dleft {A : Nat → Prop} {a b : va_W} (h : va_D A (a ++ b)) : va_D A a := by
  have key : ∀ (k : Nat) (q : Nat × va_E), a[k]? = some q → (a ++ b)[k]? = some q := fun k q hk => by rw [List.getElem?_append_left (List.getElem?_eq_some_iff.mp hk).1]; exact hk
  exact ⟨fun i j x y hi hj => h.1 i j x y (key i x hi) (key j y hj), fun k q hk => h.2 k q (key k q hk)⟩
theorem g_Dright {A : Nat → Prop} {a b : va_W} (h : va_D A (a ++ b)) : va_D A b := by
  have key : ∀ (k : Nat) (q : Nat × va_E), b[k]? = some q → (a ++ b)[a.length + k]? = some q := fun k q hk => by rw [List.getElem?_append_right (by omega), Nat.add_sub_cancel_left]; exact hk
  exact ⟨fun i j x y hi hj hxy => by have := h.1 _ _ x y (key i x hi) (key j y hj) hxy; omega, fun k q hk => h.2 _ q (key k q hk)⟩
theorem g_Dapart {A : Nat → Prop} {a b : va_W} (h : va_D A (a ++ b)) {i j : Nat} {x y : Nat × va_E} (hi : a[i]? = some x) (hj : b[j]? = some y) : x.1 ≠ y.1 := by
  intro hxy
  have hl := (List.getElem?_eq_some_iff.mp hi).1
  have := h.1 i (a.length + j) x y (by rw [List.getElem?_append_left hl]; exact hi) (by rw [List.getElem?_append_right (by omega), Nat.add_sub_cancel_left]; exact hj) hxy
  omega
theorem g_swap {D : va_G} {cl : List vw_C} {A : Nat → Prop} {a b : va_W} {H : Heap} (hP : va_P D cl (a ++ b) H) (hD : va_D A (a ++ b)) : va_P D cl (b ++ a) H ∧ va_D A (b ++ a) :=
  ⟨va_P.app (g_right hP) (g_left hP), va_D.app (g_Dright hD) (g_Dleft hD) (fun i j x y hi hj hxy => g_Dapart hD hj hi hxy.symm)⟩
theorem g_free {A0 : Nat → Prop} {wi wr : va_W} {H0 H : Heap} {locs : List Loc} (hD : va_D A0 (wi ++ wr)) (hS : va_S A0 H0 H locs) (hA : ∀ q, H0.size ≤ q → A0 q) : ∀ q, va_A wi H.size q → A0 q := by
  intro q h
  rcases h with ⟨k, e, h⟩ | h
  · exact (g_Dleft hD).2 k (q, e) h
  · exact hA q (Nat.le_trans hS.1 h)
theorem g_join {A0 : Nat → Prop} {D : va_G} {cl : List vw_C} {wi wr w1 : va_W} {H H1 : Heap} (hP : va_P D cl (wi ++ wr) H) (hD : va_D A0 (wi ++ wr))
    (hk : ∀ q : Nat, q < H.size → ¬ va_A wi H.size q → H1[q]? = H[q]?) (hF : ∀ q, va_A wi H.size q → A0 q) (hP1 : va_P D cl w1 H1) (hD1 : va_D (va_A wi H.size) w1) : va_P D cl (w1 ++ wr) H1 ∧ va_D A0 (w1 ++ wr) := by
  have hPr := g_right hP
  have apart : ∀ (k : Nat) (q : Nat × va_E), wr[k]? = some q → q.1 < H.size ∧ ¬ va_A wi H.size q.1 := by
    intro k q hq
    have hl := (hPr k q hq).lt
    refine ⟨hl, fun h => ?_⟩
    rcases h with ⟨k2, e, h⟩ | h
    · exact g_Dapart hD h hq rfl
    · omega
  refine ⟨va_P.app hP1 (fun k q hq => ?_), va_D.app (hD1.weaken (fun k q _ h => hF q.1 h)) (g_Dright hD) (fun i j x y hx hy hxy => ?_)⟩
  · obtain ⟨g1, g2⟩ := apart k q hq
    exact (hPr k q hq).kept (hk q.1 g1 g2)
  · exact (apart j y hy).2 (by rw [← hxy]; exact hD1.2 i x hx)
section GC
variable {p : Program} {l : Launch} {e : Env} {R : Room} {s : State} {m : MethodId} {args : Array Value} {below : List Frame} {meth : Method} {c : Code} {H : Heap} {locs : List Loc} {cells slots : Nat} {Q : State → Prop}
variable {cc : ByteArray} {pc : Nat} {ls : Array Slot} {rest st0 : List Value} {D : va_G} {A0 : Nat → Prop} {tys tys' : List (ClassId × FieldType)} {wi wr : va_W} {H0 : Heap} {wo : St → va_W} {rv : St → Option Value} {kr : St → Prop} {a : Array Value} {mc ms : Nat}
/-- a call of a method with such a contract -/
theorem g_call (hr : va_Run p l e R s m args below meth c H locs cells slots mc ms (F0 m pc ls st0) rest (gQ D tys' wo (va_A wi H.size) rv kr a) (va_A wi H.size)) (hP : va_P D vwCl (wi ++ wr) H) (hD : va_D A0 (wi ++ wr)) (hS : va_S A0 H0 H locs) (hA : ∀ q, H0.size ≤ q → A0 q)
    (kk : ∀ (κ : St) (H1 : Heap) (locs1 : List Loc), kr κ → va_P D vwCl (wo κ ++ wr) H1 → va_D A0 (wo κ ++ wr) → va_S A0 H0 H1 locs1 → W p l e R s m args below meth c H1 locs1 (cells + mc) (slots + ms) Q (F0 m (pc + 3) ls ((rv κ).toList ++ rest))) : W p l e R s m args below meth c H locs cells slots Q (F0 m pc ls st0) := by
  intro T hT X
  obtain ⟨v, st₀, t, T', L, h0, X', hL, e1, e2, ⟨⟨κ, hv, hp, hb, hk2, hd⟩, hz, hk⟩, st⟩ := hr T hT X
  cases hv
  rw [h0] at hz hk
  have hF := g_free hD hS hA
  obtain ⟨hP1, hD1⟩ := g_join (H1 := T'.heap) hP hD (fun q h1 h2 => by rw [e1]; exact hk q h1 h2) hF (by rw [e1]; exact hb) hd
  obtain ⟨t2, a1, b1⟩ := kk κ T'.heap (locs ++ L) hp hP1 hD1
    ⟨Nat.le_trans hS.1 (by rw [e1]; exact hz), fun q h1 h2 => by rw [e1, hk q (Nat.lt_of_lt_of_le h1 hS.1) (fun z => h2 (hF q z))]; exact hS.2.1 q h1 h2, fun q hq => by
      rcases List.mem_append.mp hq with h | h
      · exact hS.2.2 q h
      · exact hF _ (hL q h)⟩ T' rfl X'
  exact ⟨t2, st t2 a1, b1⟩
theorem g_preS {As : List Value} {ex : State → Prop} (he : gEx ex) (hK : va_K D vwCl tys s) (is : List Nat) (hty : is.filterMap (fun i => tys[i]?) = tys') (hP : va_P D vwCl (wi ++ wr) H) (hD : va_D A0 (wi ++ wr)) (hex : ∀ U : State, U.heap = H → s.WarmedH U.vm → ex U) : PreS s H (va_Pc As (gU D tys' wi ex H.size)) As :=
  ⟨g_blind he, fun U hU hW => ⟨rfl, by rw [hU], by rw [hU]; exact g_left hP, va_K.moved hW.alike (hK.sub is hty), (g_Dleft hD).weaken (fun _ _ _ _ => trivial), hex U hU hW⟩⟩
theorem g_preV {As : List Value} {ex : State → Prop} {b q0 ci : Nat} {q : vw_C} {fs : List Value} {C : String} (he : gEx ex) (hK : va_K D vwCl tys s) (is : List Nat) (hty : is.filterMap (fun i => tys[i]?) = tys') (hP : va_P D vwCl (wi ++ wr) H) (hD : va_D A0 (wi ++ wr)) (hex : ∀ U : State, U.heap = H → s.WarmedH U.vm → ex U) (h0 : wi[q0]? = some (b, .inr (ci, fs))) (hc : vwCl[ci]? = some q) (hC : q.1 = C) : PreV s H C b (va_Pc (.ref b :: As) (gU D tys' wi ex H.size)) As :=
  ⟨g_blind he, by rw [← hC]; exact va_recv hK (g_left hP) hc h0, (g_preS (As := .ref b :: As) he hK is hty hP hD hex).2⟩
/-- a method's start -/
theorem g_start {y : MethodName} {ws0 ws' : List Cond} {rm : Room} {av : List Value} {ex : State → Prop} {maxL : Nat} {ret : Option FieldType} (hy : plainName y.cls = true) (hw : ws0 = Cond.code y cc maxL ret :: ws') (hn : (lg_sl av).length ≤ maxL)
    (body : ∀ (p : Program) (e : Env) (s : State) (m : MethodId) (args : Array Value) (below : List Frame) (meth : Method) (c : Code) (A : Nat → Prop) (ls : Array Slot), CallFix p m c cc maxL s args ws0 y.cls → meth.sig.returnType = ret → meth.locks = false → meth.name = y.name → va_P D vwCl wi s.heap → va_K D vwCl tys s → va_D A wi → (∀ q : Nat, s.heap.size ≤ q → A q) → va_S A s.heap s.heap [] → ex s → lv_has ls maxL (lv_args 0 av) →
      W p l e rm s m args below meth c s.heap [] 0 0 (MQ below (gQ D tys wo A rv kr) args s rm.cells rm.slots A) (F0 m 0 ls [])) : gMet l y ws0 rm D tys wi av ex rv kr wo := by
  intro sz
  refine Met.ofW (cc := cc) (maxL := maxL) (ret := ret) hy hw ?_
  intro p e s m args below meth c s₁ B hml hv
  obtain ⟨rfl, hsz, hP, hK, hD0, hE⟩ := hv
  subst hsz
  have hl := lv_entry av (n := maxL) hn
  rw [lg_entry_eq]
  exact body p e s m _ below meth c _ _ ⟨B.exec, B.bytes, hml, findClass_of_methodNamed B.named, atoms_spec (ws := ws0) B.pre⟩ B.returns B.notSynchronized (name_of_methodNamed B.named B.method).1 hP hK hD0.self (fun q h => Or.inr h) va_S.rf hE hl
section Ends
variable {A : Nat → Prop}
theorem g_iret (hx : p.tables.exec = Jvm.exec) (hb : c.code = cc) {ty : FieldType} (hr : meth.sig.returnType = some ty) (hlocks : meth.locks = false) (κ : St) {z : Int} (hn : narrow ty (.int (iI z)) = .int (iI z)) (hP : va_P D vwCl (wo κ) H) (hK : va_K D vwCl tys s) (hD : va_D A (wo κ)) (hS : va_S A s.heap H locs) (hk : kr κ) (hv : rv κ = some (.int (iI z))) (hc : cells ≤ mc) (hs : slots ≤ ms) (hdg : decode cc pc = .ok (.ireturn, 1)) :
    W p l e R s m args below meth c H locs cells slots (MQ below (gQ D tys wo A rv kr) args s mc ms A) (F0 m pc ls [.int (iI z)]) := by
  refine W.widen hc hs ?_
  exact W.zret hx hb hr hn (fun t ht hW => ⟨⟨κ, by rw [hv], hk, by rw [ht]; exact hP, va_K.moved hW.alike hK, hD⟩, hS.F ht⟩) hS.2.2 hdg hlocks
theorem g_vret (hx : p.tables.exec = Jvm.exec) (hb : c.code = cc) (hr : meth.sig.returnType = none) (hlocks : meth.locks = false) (κ : St) (hP : va_P D vwCl (wo κ) H) (hK : va_K D vwCl tys s) (hD : va_D A (wo κ)) (hS : va_S A s.heap H locs) (hk : kr κ) (hv : rv κ = none) (hc : cells ≤ mc) (hs : slots ≤ ms) (hdg : decode cc pc = .ok (.return_, 1)) :
    W p l e R s m args below meth c H locs cells slots (MQ below (gQ D tys wo A rv kr) args s mc ms A) (F0 m pc ls []) := by
  refine W.widen hc hs ?_
  exact W.vret hx hb hr (fun t ht hW => ⟨⟨κ, by rw [hv], hk, by rw [ht]; exact hP, va_K.moved hW.alike hK, hD⟩, hS.F ht⟩) hS.2.2 hdg hlocks
theorem g_lret (hx : p.tables.exec = Jvm.exec) (hb : c.code = cc) (hr : meth.sig.returnType = some .long) (hlocks : meth.locks = false) (κ : St) {z : Int64} (hP : va_P D vwCl (wo κ) H) (hK : va_K D vwCl tys s) (hD : va_D A (wo κ)) (hS : va_S A s.heap H locs) (hk : kr κ) (hv : rv κ = some (.long z)) (hc : cells ≤ mc) (hs : slots ≤ ms) (hdg : decode cc pc = .ok (.lreturn, 1)) :
    W p l e R s m args below meth c H locs cells slots (MQ below (gQ D tys wo A rv kr) args s mc ms A) (F0 m pc ls [.long z]) := by
  refine W.widen hc hs ?_
  exact W.lret hx hb hr (fun t ht hW => ⟨⟨κ, by rw [hv], hk, by rw [ht]; exact hP, va_K.moved hW.alike hK, hD⟩, hS.F ht⟩) hS.2.2 hdg hlocks
end Ends
end GC
theorem nar_i (z : Int) : narrow .int (.int (iI z)) = .int (iI z) := rfl
theorem nar_z {z : Int} (h : z = 0 ∨ z = 1) : narrow .boolean (.int (iI z)) = .int (iI z) := by
  rcases h with rfl | rfl <;> rfl
end
