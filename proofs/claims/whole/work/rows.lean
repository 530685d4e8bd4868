section
-- ===== PART A: goes FIRST, ahead of the names: the tables' words, and 'selects' of the private methods out of them =====
/-- a private method of a class that the tables say can be made, by its rows of tables_1 -/
def lw_okq (q : MethodName × Nat) : Prop := (q.1.cls ≠ "java/lang/invoke/MethodHandle" ∧ q.1.cls ≠ "java/lang/invoke/VarHandle") ∧ Cond.instantiable q.1.cls q.2 ∈ tables_1 ∧ Cond.privateMethod q.1 ∈ tables_1 ∧ Cond.instanceMethod q.1 ∈ tables_1
theorem lw_p0 : lw_okq (⟨"TwinOrchard", "balancedApples", "(I)I"⟩, 13) := ⟨⟨by decide +kernel, by decide +kernel⟩, List.mem_of_getElem? (i := 14) (by decide +kernel), List.mem_of_getElem? (i := 98) (by decide +kernel), List.mem_of_getElem? (i := 99) (by decide +kernel)⟩
theorem lw_p1 : lw_okq (⟨"TwinOrchard", "heaviestUpTo", "(I)I"⟩, 13) := ⟨⟨by decide +kernel, by decide +kernel⟩, List.mem_of_getElem? (i := 14) (by decide +kernel), List.mem_of_getElem? (i := 108) (by decide +kernel), List.mem_of_getElem? (i := 109) (by decide +kernel)⟩
theorem lw_p2 : lw_okq (⟨"TwinOrchard", "reachWithSort", "(II)V"⟩, 13) := ⟨⟨by decide +kernel, by decide +kernel⟩, List.mem_of_getElem? (i := 14) (by decide +kernel), List.mem_of_getElem? (i := 112) (by decide +kernel), List.mem_of_getElem? (i := 113) (by decide +kernel)⟩
theorem lw_p3 : lw_okq (⟨"TwinOrchard", "allTrees", "()I"⟩, 13) := ⟨⟨by decide +kernel, by decide +kernel⟩, List.mem_of_getElem? (i := 14) (by decide +kernel), List.mem_of_getElem? (i := 120) (by decide +kernel), List.mem_of_getElem? (i := 121) (by decide +kernel)⟩
theorem lw_p4 : lw_okq (⟨"TwinOrchard", "hasTree", "(I)Z"⟩, 13) := ⟨⟨by decide +kernel, by decide +kernel⟩, List.mem_of_getElem? (i := 14) (by decide +kernel), List.mem_of_getElem? (i := 124) (by decide +kernel), List.mem_of_getElem? (i := 125) (by decide +kernel)⟩
theorem lw_p5 : lw_okq (⟨"java/lang/Throwable", "fillInStackTrace", "(I)Ljava/lang/Throwable;"⟩, 6) := ⟨⟨by decide +kernel, by decide +kernel⟩, List.mem_of_getElem? (i := 179) (by decide +kernel), List.mem_of_getElem? (i := 177) (by decide +kernel), List.mem_of_getElem? (i := 178) (by decide +kernel)⟩
theorem lw_p6 : lw_okq (⟨"TwinOrchard", "allTired", "()I"⟩, 13) := ⟨⟨by decide +kernel, by decide +kernel⟩, List.mem_of_getElem? (i := 14) (by decide +kernel), List.mem_of_getElem? (i := 209) (by decide +kernel), List.mem_of_getElem? (i := 210) (by decide +kernel)⟩
theorem lw_p7 : lw_okq (⟨"TwinOrchard", "applesInBarn", "()I"⟩, 13) := ⟨⟨by decide +kernel, by decide +kernel⟩, List.mem_of_getElem? (i := 14) (by decide +kernel), List.mem_of_getElem? (i := 213) (by decide +kernel), List.mem_of_getElem? (i := 214) (by decide +kernel)⟩
theorem lw_p8 : lw_okq (⟨"TwinOrchard", "weightInBarn", "()I"⟩, 13) := ⟨⟨by decide +kernel, by decide +kernel⟩, List.mem_of_getElem? (i := 14) (by decide +kernel), List.mem_of_getElem? (i := 217) (by decide +kernel), List.mem_of_getElem? (i := 218) (by decide +kernel)⟩
theorem lw_p9 : lw_okq (⟨"TwinOrchard", "unlikePairs", "()I"⟩, 13) := ⟨⟨by decide +kernel, by decide +kernel⟩, List.mem_of_getElem? (i := 14) (by decide +kernel), List.mem_of_getElem? (i := 221) (by decide +kernel), List.mem_of_getElem? (i := 222) (by decide +kernel)⟩
theorem lw_p10 : lw_okq (⟨"TwinOrchard", "treesOfSort", "(I)I"⟩, 13) := ⟨⟨by decide +kernel, by decide +kernel⟩, List.mem_of_getElem? (i := 14) (by decide +kernel), List.mem_of_getElem? (i := 239) (by decide +kernel), List.mem_of_getElem? (i := 240) (by decide +kernel)⟩
theorem lw_p11 : lw_okq (⟨"TwinOrchard", "applesNow", "(I)I"⟩, 13) := ⟨⟨by decide +kernel, by decide +kernel⟩, List.mem_of_getElem? (i := 14) (by decide +kernel), List.mem_of_getElem? (i := 251) (by decide +kernel), List.mem_of_getElem? (i := 252) (by decide +kernel)⟩
theorem lw_p12 : lw_okq (⟨"TwinOrchard", "lookAt", "(I)V"⟩, 13) := ⟨⟨by decide +kernel, by decide +kernel⟩, List.mem_of_getElem? (i := 14) (by decide +kernel), List.mem_of_getElem? (i := 255) (by decide +kernel), List.mem_of_getElem? (i := 256) (by decide +kernel)⟩
theorem lw_p13 : lw_okq (⟨"TwinOrchard$Tree", "apples", "()I"⟩, 4) := ⟨⟨by decide +kernel, by decide +kernel⟩, List.mem_of_getElem? (i := 22) (by decide +kernel), List.mem_of_getElem? (i := 259) (by decide +kernel), List.mem_of_getElem? (i := 260) (by decide +kernel)⟩
theorem lw_p14 : lw_okq (⟨"TwinOrchard", "plantAt", "(III)Z"⟩, 13) := ⟨⟨by decide +kernel, by decide +kernel⟩, List.mem_of_getElem? (i := 14) (by decide +kernel), List.mem_of_getElem? (i := 308) (by decide +kernel), List.mem_of_getElem? (i := 309) (by decide +kernel)⟩
theorem lw_p15 : lw_okq (⟨"TwinOrchard", "canPay", "(II)Z"⟩, 13) := ⟨⟨by decide +kernel, by decide +kernel⟩, List.mem_of_getElem? (i := 14) (by decide +kernel), List.mem_of_getElem? (i := 312) (by decide +kernel), List.mem_of_getElem? (i := 313) (by decide +kernel)⟩
def lw_privs_1 : List (MethodName × Nat) := [(⟨"TwinOrchard", "balancedApples", "(I)I"⟩, 13), (⟨"TwinOrchard", "heaviestUpTo", "(I)I"⟩, 13), (⟨"TwinOrchard", "reachWithSort", "(II)V"⟩, 13), (⟨"TwinOrchard", "allTrees", "()I"⟩, 13), (⟨"TwinOrchard", "hasTree", "(I)Z"⟩, 13), (⟨"java/lang/Throwable", "fillInStackTrace", "(I)Ljava/lang/Throwable;"⟩, 6), (⟨"TwinOrchard", "allTired", "()I"⟩, 13), (⟨"TwinOrchard", "applesInBarn", "()I"⟩, 13), (⟨"TwinOrchard", "weightInBarn", "()I"⟩, 13), (⟨"TwinOrchard", "unlikePairs", "()I"⟩, 13), (⟨"TwinOrchard", "treesOfSort", "(I)I"⟩, 13), (⟨"TwinOrchard", "applesNow", "(I)I"⟩, 13), (⟨"TwinOrchard", "lookAt", "(I)V"⟩, 13), (⟨"TwinOrchard$Tree", "apples", "()I"⟩, 4), (⟨"TwinOrchard", "plantAt", "(III)Z"⟩, 13), (⟨"TwinOrchard", "canPay", "(II)Z"⟩, 13)]
theorem lw_r1 : ∀ q ∈ lw_privs_1, lw_okq q := List.forall_mem_cons.mpr ⟨lw_p0, List.forall_mem_cons.mpr ⟨lw_p1, List.forall_mem_cons.mpr ⟨lw_p2, List.forall_mem_cons.mpr ⟨lw_p3, List.forall_mem_cons.mpr ⟨lw_p4, List.forall_mem_cons.mpr ⟨lw_p5, List.forall_mem_cons.mpr ⟨lw_p6, List.forall_mem_cons.mpr ⟨lw_p7, List.forall_mem_cons.mpr ⟨lw_p8, List.forall_mem_cons.mpr ⟨lw_p9, List.forall_mem_cons.mpr ⟨lw_p10, List.forall_mem_cons.mpr ⟨lw_p11, List.forall_mem_cons.mpr ⟨lw_p12, List.forall_mem_cons.mpr ⟨lw_p13, List.forall_mem_cons.mpr ⟨lw_p14, List.forall_mem_cons.mpr ⟨lw_p15, fun _ h => absurd h List.not_mem_nil⟩⟩⟩⟩⟩⟩⟩⟩⟩⟩⟩⟩⟩⟩⟩⟩
theorem lw_p16 : lw_okq (⟨"TwinOrchard", "pay", "(II)V"⟩, 13) := ⟨⟨by decide +kernel, by decide +kernel⟩, List.mem_of_getElem? (i := 14) (by decide +kernel), List.mem_of_getElem? (i := 319) (by decide +kernel), List.mem_of_getElem? (i := 320) (by decide +kernel)⟩
theorem lw_p17 : lw_okq (⟨"TwinOrchard", "pruneAt", "(II)Z"⟩, 13) := ⟨⟨by decide +kernel, by decide +kernel⟩, List.mem_of_getElem? (i := 14) (by decide +kernel), List.mem_of_getElem? (i := 334) (by decide +kernel), List.mem_of_getElem? (i := 335) (by decide +kernel)⟩
theorem lw_p18 : lw_okq (⟨"TwinOrchard", "canPrune", "(II)Z"⟩, 13) := ⟨⟨by decide +kernel, by decide +kernel⟩, List.mem_of_getElem? (i := 14) (by decide +kernel), List.mem_of_getElem? (i := 338) (by decide +kernel), List.mem_of_getElem? (i := 339) (by decide +kernel)⟩
theorem lw_p19 : lw_okq (⟨"TwinOrchard$Tree", "shorten", "(I)V"⟩, 4) := ⟨⟨by decide +kernel, by decide +kernel⟩, List.mem_of_getElem? (i := 22) (by decide +kernel), List.mem_of_getElem? (i := 342) (by decide +kernel), List.mem_of_getElem? (i := 343) (by decide +kernel)⟩
theorem lw_p20 : lw_okq (⟨"TwinOrchard", "keepLooked", "(I)V"⟩, 13) := ⟨⟨by decide +kernel, by decide +kernel⟩, List.mem_of_getElem? (i := 14) (by decide +kernel), List.mem_of_getElem? (i := 346) (by decide +kernel), List.mem_of_getElem? (i := 347) (by decide +kernel)⟩
theorem lw_p21 : lw_okq (⟨"TwinOrchard", "graftAt", "(II)Z"⟩, 13) := ⟨⟨by decide +kernel, by decide +kernel⟩, List.mem_of_getElem? (i := 14) (by decide +kernel), List.mem_of_getElem? (i := 357) (by decide +kernel), List.mem_of_getElem? (i := 358) (by decide +kernel)⟩
theorem lw_p22 : lw_okq (⟨"TwinOrchard", "fellAt", "(I)Z"⟩, 13) := ⟨⟨by decide +kernel, by decide +kernel⟩, List.mem_of_getElem? (i := 14) (by decide +kernel), List.mem_of_getElem? (i := 368) (by decide +kernel), List.mem_of_getElem? (i := 369) (by decide +kernel)⟩
theorem lw_p23 : lw_okq (⟨"TwinOrchard", "passAt", "(II)I"⟩, 13) := ⟨⟨by decide +kernel, by decide +kernel⟩, List.mem_of_getElem? (i := 14) (by decide +kernel), List.mem_of_getElem? (i := 425) (by decide +kernel), List.mem_of_getElem? (i := 426) (by decide +kernel)⟩
theorem lw_p24 : lw_okq (⟨"TwinOrchard", "liveLooked", "(I)I"⟩, 13) := ⟨⟨by decide +kernel, by decide +kernel⟩, List.mem_of_getElem? (i := 14) (by decide +kernel), List.mem_of_getElem? (i := 429) (by decide +kernel), List.mem_of_getElem? (i := 430) (by decide +kernel)⟩
theorem lw_p25 : lw_okq (⟨"TwinOrchard$Tree", "liveYear", "(I)I"⟩, 4) := ⟨⟨by decide +kernel, by decide +kernel⟩, List.mem_of_getElem? (i := 22) (by decide +kernel), List.mem_of_getElem? (i := 436) (by decide +kernel), List.mem_of_getElem? (i := 437) (by decide +kernel)⟩
theorem lw_p26 : lw_okq (⟨"TwinOrchard$Tree", "freeze", "(I)V"⟩, 4) := ⟨⟨by decide +kernel, by decide +kernel⟩, List.mem_of_getElem? (i := 22) (by decide +kernel), List.mem_of_getElem? (i := 440) (by decide +kernel), List.mem_of_getElem? (i := 441) (by decide +kernel)⟩
theorem lw_p27 : lw_okq (⟨"TwinOrchard$Tree", "grow", "()V"⟩, 4) := ⟨⟨by decide +kernel, by decide +kernel⟩, List.mem_of_getElem? (i := 22) (by decide +kernel), List.mem_of_getElem? (i := 446) (by decide +kernel), List.mem_of_getElem? (i := 447) (by decide +kernel)⟩
theorem lw_p28 : lw_okq (⟨"TwinOrchard", "gainOfPruning", "(III)I"⟩, 13) := ⟨⟨by decide +kernel, by decide +kernel⟩, List.mem_of_getElem? (i := 14) (by decide +kernel), List.mem_of_getElem? (i := 465) (by decide +kernel), List.mem_of_getElem? (i := 466) (by decide +kernel)⟩
theorem lw_p29 : lw_okq (⟨"TwinOrchardModel", "fail", "(I)I"⟩, 8) := ⟨⟨by decide +kernel, by decide +kernel⟩, List.mem_of_getElem? (i := 469) (by decide +kernel), List.mem_of_getElem? (i := 514) (by decide +kernel), List.mem_of_getElem? (i := 515) (by decide +kernel)⟩
theorem lw_p30 : lw_okq (⟨"TwinOrchardModel", "both", "(IIIII)I"⟩, 8) := ⟨⟨by decide +kernel, by decide +kernel⟩, List.mem_of_getElem? (i := 469) (by decide +kernel), List.mem_of_getElem? (i := 529) (by decide +kernel), List.mem_of_getElem? (i := 530) (by decide +kernel)⟩
theorem lw_p31 : lw_okq (⟨"TwinOrchardModel", "does", "(IIIII)Z"⟩, 8) := ⟨⟨by decide +kernel, by decide +kernel⟩, List.mem_of_getElem? (i := 469) (by decide +kernel), List.mem_of_getElem? (i := 533) (by decide +kernel), List.mem_of_getElem? (i := 534) (by decide +kernel)⟩
def lw_privs_2 : List (MethodName × Nat) := [(⟨"TwinOrchard", "pay", "(II)V"⟩, 13), (⟨"TwinOrchard", "pruneAt", "(II)Z"⟩, 13), (⟨"TwinOrchard", "canPrune", "(II)Z"⟩, 13), (⟨"TwinOrchard$Tree", "shorten", "(I)V"⟩, 4), (⟨"TwinOrchard", "keepLooked", "(I)V"⟩, 13), (⟨"TwinOrchard", "graftAt", "(II)Z"⟩, 13), (⟨"TwinOrchard", "fellAt", "(I)Z"⟩, 13), (⟨"TwinOrchard", "passAt", "(II)I"⟩, 13), (⟨"TwinOrchard", "liveLooked", "(I)I"⟩, 13), (⟨"TwinOrchard$Tree", "liveYear", "(I)I"⟩, 4), (⟨"TwinOrchard$Tree", "freeze", "(I)V"⟩, 4), (⟨"TwinOrchard$Tree", "grow", "()V"⟩, 4), (⟨"TwinOrchard", "gainOfPruning", "(III)I"⟩, 13), (⟨"TwinOrchardModel", "fail", "(I)I"⟩, 8), (⟨"TwinOrchardModel", "both", "(IIIII)I"⟩, 8), (⟨"TwinOrchardModel", "does", "(IIIII)Z"⟩, 8)]
theorem lw_r2 : ∀ q ∈ lw_privs_2, lw_okq q := List.forall_mem_cons.mpr ⟨lw_p16, List.forall_mem_cons.mpr ⟨lw_p17, List.forall_mem_cons.mpr ⟨lw_p18, List.forall_mem_cons.mpr ⟨lw_p19, List.forall_mem_cons.mpr ⟨lw_p20, List.forall_mem_cons.mpr ⟨lw_p21, List.forall_mem_cons.mpr ⟨lw_p22, List.forall_mem_cons.mpr ⟨lw_p23, List.forall_mem_cons.mpr ⟨lw_p24, List.forall_mem_cons.mpr ⟨lw_p25, List.forall_mem_cons.mpr ⟨lw_p26, List.forall_mem_cons.mpr ⟨lw_p27, List.forall_mem_cons.mpr ⟨lw_p28, List.forall_mem_cons.mpr ⟨lw_p29, List.forall_mem_cons.mpr ⟨lw_p30, List.forall_mem_cons.mpr ⟨lw_p31, fun _ h => absurd h List.not_mem_nil⟩⟩⟩⟩⟩⟩⟩⟩⟩⟩⟩⟩⟩⟩⟩⟩
theorem lw_p32 : lw_okq (⟨"TwinOrchardModel", "can", "(III)Z"⟩, 8) := ⟨⟨by decide +kernel, by decide +kernel⟩, List.mem_of_getElem? (i := 469) (by decide +kernel), List.mem_of_getElem? (i := 539) (by decide +kernel), List.mem_of_getElem? (i := 540) (by decide +kernel)⟩
theorem lw_p33 : lw_okq (⟨"TwinOrchardModel", "tr", "(II)I"⟩, 8) := ⟨⟨by decide +kernel, by decide +kernel⟩, List.mem_of_getElem? (i := 469) (by decide +kernel), List.mem_of_getElem? (i := 543) (by decide +kernel), List.mem_of_getElem? (i := 544) (by decide +kernel)⟩
theorem lw_p34 : lw_okq (⟨"TwinOrchardModel", "change", "(IIII)V"⟩, 8) := ⟨⟨by decide +kernel, by decide +kernel⟩, List.mem_of_getElem? (i := 469) (by decide +kernel), List.mem_of_getElem? (i := 547) (by decide +kernel), List.mem_of_getElem? (i := 548) (by decide +kernel)⟩
theorem lw_p35 : lw_okq (⟨"TwinOrchardModel", "set", "(III)V"⟩, 8) := ⟨⟨by decide +kernel, by decide +kernel⟩, List.mem_of_getElem? (i := 469) (by decide +kernel), List.mem_of_getElem? (i := 554) (by decide +kernel), List.mem_of_getElem? (i := 555) (by decide +kernel)⟩
theorem lw_p36 : lw_okq (⟨"TwinOrchardModel", "treeTold", "(II)I"⟩, 8) := ⟨⟨by decide +kernel, by decide +kernel⟩, List.mem_of_getElem? (i := 469) (by decide +kernel), List.mem_of_getElem? (i := 575) (by decide +kernel), List.mem_of_getElem? (i := 576) (by decide +kernel)⟩
theorem lw_p37 : lw_okq (⟨"TwinOrchardModel", "apples", "(I)I"⟩, 8) := ⟨⟨by decide +kernel, by decide +kernel⟩, List.mem_of_getElem? (i := 469) (by decide +kernel), List.mem_of_getElem? (i := 579) (by decide +kernel), List.mem_of_getElem? (i := 580) (by decide +kernel)⟩
theorem lw_p38 : lw_okq (⟨"TwinOrchardModel", "sortTold", "(II)I"⟩, 8) := ⟨⟨by decide +kernel, by decide +kernel⟩, List.mem_of_getElem? (i := 469) (by decide +kernel), List.mem_of_getElem? (i := 587) (by decide +kernel), List.mem_of_getElem? (i := 588) (by decide +kernel)⟩
theorem lw_p39 : lw_okq (⟨"TwinOrchardModel", "counted", "(I)I"⟩, 8) := ⟨⟨by decide +kernel, by decide +kernel⟩, List.mem_of_getElem? (i := 469) (by decide +kernel), List.mem_of_getElem? (i := 595) (by decide +kernel), List.mem_of_getElem? (i := 596) (by decide +kernel)⟩
theorem lw_p40 : lw_okq (⟨"TwinOrchardModel", "all", "(I)I"⟩, 8) := ⟨⟨by decide +kernel, by decide +kernel⟩, List.mem_of_getElem? (i := 469) (by decide +kernel), List.mem_of_getElem? (i := 599) (by decide +kernel), List.mem_of_getElem? (i := 600) (by decide +kernel)⟩
theorem lw_p41 : lw_okq (⟨"TwinOrchardModel", "yearsOn", "(I)I"⟩, 8) := ⟨⟨by decide +kernel, by decide +kernel⟩, List.mem_of_getElem? (i := 469) (by decide +kernel), List.mem_of_getElem? (i := 624) (by decide +kernel), List.mem_of_getElem? (i := 625) (by decide +kernel)⟩
theorem lw_p42 : lw_okq (⟨"TwinOrchardModel", "yearOn", "()I"⟩, 8) := ⟨⟨by decide +kernel, by decide +kernel⟩, List.mem_of_getElem? (i := 469) (by decide +kernel), List.mem_of_getElem? (i := 628) (by decide +kernel), List.mem_of_getElem? (i := 629) (by decide +kernel)⟩
theorem lw_p43 : lw_okq (⟨"TwinOrchardModel", "kept", "()[[I"⟩, 8) := ⟨⟨by decide +kernel, by decide +kernel⟩, List.mem_of_getElem? (i := 469) (by decide +kernel), List.mem_of_getElem? (i := 636) (by decide +kernel), List.mem_of_getElem? (i := 637) (by decide +kernel)⟩
theorem lw_p44 : lw_okq (⟨"TwinOrchardModel", "bringBack", "([[I)V"⟩, 8) := ⟨⟨by decide +kernel, by decide +kernel⟩, List.mem_of_getElem? (i := 469) (by decide +kernel), List.mem_of_getElem? (i := 648) (by decide +kernel), List.mem_of_getElem? (i := 649) (by decide +kernel)⟩
def lw_privs_3 : List (MethodName × Nat) := [(⟨"TwinOrchardModel", "can", "(III)Z"⟩, 8), (⟨"TwinOrchardModel", "tr", "(II)I"⟩, 8), (⟨"TwinOrchardModel", "change", "(IIII)V"⟩, 8), (⟨"TwinOrchardModel", "set", "(III)V"⟩, 8), (⟨"TwinOrchardModel", "treeTold", "(II)I"⟩, 8), (⟨"TwinOrchardModel", "apples", "(I)I"⟩, 8), (⟨"TwinOrchardModel", "sortTold", "(II)I"⟩, 8), (⟨"TwinOrchardModel", "counted", "(I)I"⟩, 8), (⟨"TwinOrchardModel", "all", "(I)I"⟩, 8), (⟨"TwinOrchardModel", "yearsOn", "(I)I"⟩, 8), (⟨"TwinOrchardModel", "yearOn", "()I"⟩, 8), (⟨"TwinOrchardModel", "kept", "()[[I"⟩, 8), (⟨"TwinOrchardModel", "bringBack", "([[I)V"⟩, 8)]
theorem lw_r3 : ∀ q ∈ lw_privs_3, lw_okq q := List.forall_mem_cons.mpr ⟨lw_p32, List.forall_mem_cons.mpr ⟨lw_p33, List.forall_mem_cons.mpr ⟨lw_p34, List.forall_mem_cons.mpr ⟨lw_p35, List.forall_mem_cons.mpr ⟨lw_p36, List.forall_mem_cons.mpr ⟨lw_p37, List.forall_mem_cons.mpr ⟨lw_p38, List.forall_mem_cons.mpr ⟨lw_p39, List.forall_mem_cons.mpr ⟨lw_p40, List.forall_mem_cons.mpr ⟨lw_p41, List.forall_mem_cons.mpr ⟨lw_p42, List.forall_mem_cons.mpr ⟨lw_p43, List.forall_mem_cons.mpr ⟨lw_p44, fun _ h => absurd h List.not_mem_nil⟩⟩⟩⟩⟩⟩⟩⟩⟩⟩⟩⟩⟩
def lw_privs : List (MethodName × Nat) := lw_privs_1 ++ (lw_privs_2 ++ (lw_privs_3))
def lw_tbl : List Cond := k2_sels lw_privs ++ tables_1
theorem lw_privs_ok : ∀ q ∈ lw_privs, lw_okq q := by
  show ∀ q ∈ lw_privs_1 ++ (lw_privs_2 ++ (lw_privs_3)), lw_okq q
  exact List.forall_mem_append.mpr ⟨lw_r1, List.forall_mem_append.mpr ⟨lw_r2, lw_r3⟩⟩
/-- the streams that the claim lets the run draw from -/
abbrev lw_cs : List Choice := [Jvm.Choice.named "NaN.bits"]
theorem lw_bits : nanBits ∈ lw_cs := by first | decide | exact List.mem_cons_self | simp [lw_cs, nanBits]
-- ===== end of PART A; then your names; then what follows =====
end
section
/-! ===== BEGIN words of one list among another's, by their places ===== -/
theorem goodIn_r {big : List Cond} (ws : List Cond) (ps : List Nat) (hp : ws = ps.filterMap (fun i => big[i]?)) (h : ws.all goodWord = true) : GoodIn big ws := by
  intro w hw
  have h1 := List.all_eq_true.mp h w hw
  rw [hp] at hw
  obtain ⟨i, -, hi⟩ := List.mem_filterMap.mp hw
  have hm : w ∈ big := by first | exact List.mem_of_getElem? hi | exact List.getElem?_mem hi
  exact ⟨hm, good_of_word h1⟩
theorem goodIn_app {big a b : List Cond} (ha : GoodIn big a) (hb : GoodIn big b) : GoodIn big (a ++ b) := fun w h => (List.mem_append.mp h).elim (ha w) (hb w)
theorem goodIn_ca {big a b : List Cond} {c : Cond} (ha : GoodIn big (c :: a)) (hb : GoodIn big b) : GoodIn big (c :: (a ++ b)) := fun w h => (List.mem_cons.mp h).elim (fun e => ha w (List.mem_cons.mpr (Or.inl e))) (fun h => (List.mem_append.mp h).elim (fun h => ha w (List.mem_cons.mpr (Or.inr h))) (hb w))
theorem goodIn_sub {big ws : List Cond} (hm : ∀ w ∈ ws, w ∈ big) (h : ws.all goodWord = true) : GoodIn big ws := fun w hw => ⟨hm w hw, good_of_word (List.all_eq_true.mp h w hw)⟩
/-! ===== END ===== -/

/-! ===== BEGIN exceptions that leave a method, and their catching by the caller (launches without stack traces) ===== -/
section VXA
/-! The laws vx_back, vx_callV, vx_callS, vx_callSW, vx_throw0, vx_throwS follow proofs of the library, with one case more: JvmDerived/Free/Laws.lean (Back.of_free), Shelf42/LK1.lean (callV, callS), Shelf/KitTraced.lean (throwNew0V, throwNewS). -/
/-- where a method has thrown q: the class by its name, the cell, what was written, the world -/
def vx_T (XC : String → State → State → Prop) (st : State) (q : Addr) (t : State) (mc ms : Nat) (free : Addr → Prop) : Prop :=
  ∃ (E : String) (ce : Cell) (L : List Loc), XC E st t ∧ t.heap[q]? = some ce ∧ ce.vm = .none ∧ st.vm.findClass E = some ce.cls ∧ st.WarmedH t.vm ∧ st.sameButNew ({ t with vm := st.vm } : State) L mc ms ∧ ∀ z ∈ L, free z.base
def vx_Q (Qc : Array Value → State → Outcome → State → Prop) (XC : String → State → State → Prop) (mc ms : Nat) (free : Addr → Prop) : Array Value → State → Outcome → State → Prop := fun a st o t =>
  (Qc a st o t ∧ ∃ L, FrameEnd st o t L mc ms ∧ ∀ q ∈ L, free q.base) ∨ ∃ q, o = .threw q ∧ vx_T XC st q t mc ms free
/-- a callee that returns or throws -/
def vx_Met (l : Launch) (y : MethodName) (ws : List Cond) (rm : Room) (Pc : Array Value → State → Prop) (Qc : Array Value → State → Outcome → State → Prop) (XC : String → State → State → Prop) (mc ms : Nat) (free : Addr → Prop) : Prop :=
  MetFree l y (headSpec ws rm) Pc (fun _ _ _ _ _ => True) (vx_Q Qc XC mc ms free)
def vx_Post (XC : String → State → State → Prop) (mc ms : Nat) (free : Addr → Prop) : Pt → Array Value → Addr → Pt → Prop := fun A a q B =>
  ∃ (g : JFrame) (mk : MethodId) (t : State) (L : List Loc) (E : String) (ce : Cell), B.U.heap = t.heap ∧ B.U.vm = t.vm ∧ XC E (A.U.calling g mk a) t ∧ t.heap[q]? = some ce ∧ ce.vm = .none ∧ A.U.vm.findClass E = some ce.cls ∧ B.locs = A.locs ++ L ∧ (∀ z ∈ L, free z.base) ∧ B.cells = A.cells + mc ∧ B.slots = A.slots + ms
def vx_Back (l : Launch) (R : Room) (p : Program) (e : Env) (below : List Frame) (s : State) (sargs : Array Value) (y : MethodName) (len W9 : Nat)
    (Pre : Pt → Array Value → Prop) (Post : Pt → Array Value → Option Value → Pt → Prop) (PostX : Pt → Array Value → Addr → Pt → Prop) : Prop :=
  ∀ (m : MethodId) (meth : Method) (c : Code) (A : Pt) (g : JFrame) (ig : Instr) (mk : MethodId) (a : Array Value),
    Stand p l e R s m sargs below meth c A.U A.locs A.cells A.slots → g.method = m → g.locals.size = c.maxLocals → decode c.code g.pc = .ok (ig, len) →
    2 * g.monitorRoom + (g.stack.map fun v => v.category).sum ≤ W9 → A.U.methodNamed? y = some mk → Pre A a →
    (∃ (v : Option Value) (B : Pt), Stand p l e R s m sargs below meth c B.U B.locs B.cells B.slots ∧ Post A a v B ∧
      Steps p.tables e below (doInvoke e (A.U.setTop g) [] mk a).1 (B.U.setTop { g with pc := g.pc + len, stack := v.toList ++ g.stack })) ∨
    (∃ (q : Addr) (B : Pt), Stand p l e R s m sargs below meth c B.U B.locs B.cells B.slots ∧ PostX A a q B ∧
      Steps p.tables e below (doInvoke e (A.U.setTop g) [] mk a).1 ((B.U.setTop g).pushFrame (.throwing q)))
section Payer
variable {l : Launch} {R : Room} {p : Program} {e : Env} {below : List Frame} {s : State} {sargs : Array Value} {y : MethodName} {len W9 : Nat}
theorem vx_back {ws : List Cond} {rm : Room} {Pc : Array Value → State → Prop} {Qc : Array Value → State → Outcome → State → Prop} {XC : String → State → State → Prop} {mc ms : Nat} {free : Addr → Prop} {bytes : ByteArray} {maxL : Nat} {ret : Option FieldType}
    (hM : vx_Met l y ws rm Pc Qc XC mc ms free) (hblind : FrameBlind Pc) (hrc : rm.cells = mc) (hrs : rm.slots = ms)
    (hframes : rm.frames + 1 ≤ R.frames) (hlocals : W9 + (maxL + 11) + rm.locals ≤ R.locals)
    (hws : ∀ w ∈ ws, ∀ a' U, s.WarmedH U.vm → w.before a' U = true) (hcode : Cond.code y bytes maxL ret ∈ ws) (hinit : ∀ a' U, s.WarmedH U.vm → (Cond.initialized y.cls).before a' U = true) :
    vx_Back l R p e below s sargs y len W9 (PreOf R mc ms Pc) (PostOf Qc mc ms free) (vx_Post XC mc ms free) := by
  intro m meth c A g ig mk a X hg hsize hdg hW hn hp
  have h1 : (headSpec ws rm).pre.before a A.U = true := atoms_intro fun w hw => hws w hw _ _ X.warmed
  have h2 : (Cond.code y bytes maxL ret).before a A.U = true := hws _ hcode _ _ X.warmed
  have h3 : (Cond.initialized y.cls).before a A.U = true := hinit _ _ X.warmed
  have h4 : A.cells + (headSpec ws rm).room.cells ≤ R.cells := by rw [show (headSpec ws rm).room.cells = mc from hrc]; exact hp.1
  have h5 : A.slots + (headSpec ws rm).room.slots ≤ R.slots := by rw [show (headSpec ws rm).room.slots = ms from hrs]; exact hp.2.1
  have hPc : Pc a (A.U.calling g mk a) := hblind _ _ _ _ hp.2.2
  obtain ⟨U, Ls, c0, s0⟩ := A
  dsimp only [Pt.U, Pt.locs, Pt.cells, Pt.slots] at h1 h2 h3 h4 h5 X hn hPc ⊢
  obtain ⟨methY, cY, hmY, hcY, -, hlY, -, -, -, -⟩ := Cond.code_spec hn h2
  obtain ⟨kY, hkY, -⟩ := className_of_methodNamed hn
  have hinitY : kY.init = .initialized := Cond.initialized_spec (findClass_of_methodNamed hn) hkY h3
  have h : At U g.method c below := by rw [hg]; exact X.here
  have hlocals9 : W9 + (maxL + 11) + (headSpec ws rm).room.locals ≤ R.locals := hlocals
  have happ : (headSpec ws rm).appliesLoose y e.platform (U.calling g mk a) = true :=
    Spec.appliesLoose_calling (g := g) h hdg hn hkY hinitY
      (X.room_calling (g := g) (R' := (headSpec ws rm).room) hsize hmY hcY hframes (by rw [hlY]; omega) h4 h5) h1
  obtain ⟨mid, hmid⟩ := h.above
  have hfr : (U.setTop g).frames = (.java g :: mid) ++ below := by rw [State.frames_setTop' g h.top, hmid]; rfl
  obtain ⟨o, s₂, hsteps, -, hend, hq⟩ := Steps.callFree hM p X.admits X.cas X.clock (acts := []) hfr happ hPc trivial
  have hq' : vx_Q Qc XC mc ms free a (U.calling g mk a) o s₂ := hq
  rw [State.frames_setTop' g h.top] at hend
  obtain ⟨g₀, hg0⟩ := Option.isSome_iff_exists.mp h.top
  obtain ⟨r, hr⟩ := State.topJava?_eq_some.mp hg0
  have hr' : (({ U with heap := s₂.heap, slotsUsed := s₂.slotsUsed } : State).setVm s₂.vm).frames = .java g₀ :: r := hr
  rcases hq' with ⟨hqc, L, hfe, hL⟩ | ⟨q, rfl, E, ce, L, hx, hce, hcv, hcl, hW₂, hsm, hL⟩
  · obtain ⟨⟨v, rfl⟩, hW₂, e2, q2, q3, q4, q5, q6⟩ := id hfe
    have e3 : s₂ = ({ (U.calling g mk a).setFrames s₂.frames with heap := s₂.heap, slotsUsed := s₂.slotsUsed } : State).setVm s₂.vm := by
      have : s₂ = ({ s₂ with vm := (U.calling g mk a).vm } : State).setVm s₂.vm := rfl
      rw [e2] at this
      exact this
    obtain ⟨c₂, i₂, len₂, hc₂, hd₂, hf₂⟩ := hend
    have hW' : U.WarmedH s₂.vm := hW₂
    have hcc : c₂ = c := by
      have h1 : s₂.code? g.method = U.code? g.method := by
        rw [State.code?_eq, State.code?_eq, hW'.alike.method?]
      exact Option.some.inj (hc₂.symm.trans (h1.trans h.code))
    subst hcc
    have hlen : len₂ = len := by rw [hdg] at hd₂; cases hd₂; rfl
    subst hlen
    have hs₂ : s₂ = (({ U with heap := s₂.heap, slotsUsed := s₂.slotsUsed } : State).setVm s₂.vm).setTop { g with pc := g.pc + len₂, stack := v.toList ++ g.stack } := by
      refine e3.trans ?_
      rw [hf₂, State.calling_eq h.top, State.setFrames_setFrames, State.setTop_of_frames _ hr', hr]
      rfl
    have hsame : U.sameButNew ({ U with heap := s₂.heap, slotsUsed := s₂.slotsUsed } : State) L mc ms := by
      refine ⟨?_, q2, q3, q4, q5, q6⟩
      obtain ⟨t, ht, -⟩ := State.frames_cons hr
      show ({ U with heap := s₂.heap, slotsUsed := s₂.slotsUsed } : State) = { U.setFrames U.frames with heap := s₂.heap, slotsUsed := s₂.slotsUsed }
      rw [State.setFrames_self ht]
    subst hg
    refine Or.inl ⟨v, ⟨(({ U with heap := s₂.heap, slotsUsed := s₂.slotsUsed } : State).setVm s₂.vm), Ls ++ L, c0 + mc, s0 + ms⟩,
      ⟨X.admits, X.cas, X.clock, X.frames, X.room, X.hears, X.method, X.code, (X.here.setHeapUsed s₂.heap s₂.slotsUsed).setVm hW'.alike, X.tail, State.WarmedH.trans X.warmed hW', X.limits, X.bytes, X.same.trans (hsame.setVm s.vm)⟩,
      ⟨g, mk, s₂, L, rfl, rfl, hqc, rfl, hL, rfl, rfl⟩, ?_⟩
    show Steps p.tables e below _ ((({ U with heap := s₂.heap, slotsUsed := s₂.slotsUsed } : State).setVm s₂.vm).setTop { g with pc := g.pc + len₂, stack := v.toList ++ g.stack })
    rw [← hs₂]
    exact hsteps
  · obtain ⟨e2, q2, q3, q4, q5, q6⟩ := id hsm
    have e3 : s₂ = ({ (U.calling g mk a).setFrames s₂.frames with heap := s₂.heap, slotsUsed := s₂.slotsUsed } : State).setVm s₂.vm := by
      have : s₂ = ({ s₂ with vm := (U.calling g mk a).vm } : State).setVm s₂.vm := rfl
      rw [e2] at this
      exact this
    have hf₂ : s₂.frames = .throwing q :: .java g :: U.frames.tail := hend
    have hW' : U.WarmedH s₂.vm := hW₂
    have hs₂ : s₂ = ((({ U with heap := s₂.heap, slotsUsed := s₂.slotsUsed } : State).setVm s₂.vm).setTop g).pushFrame (.throwing q) := by
      refine e3.trans ?_
      rw [hf₂, State.calling_eq h.top, State.setFrames_setFrames, State.pushFrame, State.frames_setTop _ hr', State.setTop_of_frames _ hr', State.setFrames_setFrames, hr]
      rfl
    have hsame : U.sameButNew ({ U with heap := s₂.heap, slotsUsed := s₂.slotsUsed } : State) L mc ms := by
      refine ⟨?_, q2, q3, q4, q5, q6⟩
      obtain ⟨t, ht, -⟩ := State.frames_cons hr
      show ({ U with heap := s₂.heap, slotsUsed := s₂.slotsUsed } : State) = { U.setFrames U.frames with heap := s₂.heap, slotsUsed := s₂.slotsUsed }
      rw [State.setFrames_self ht]
    subst hg
    refine Or.inr ⟨q, ⟨(({ U with heap := s₂.heap, slotsUsed := s₂.slotsUsed } : State).setVm s₂.vm), Ls ++ L, c0 + mc, s0 + ms⟩,
      ⟨X.admits, X.cas, X.clock, X.frames, X.room, X.hears, X.method, X.code, (X.here.setHeapUsed s₂.heap s₂.slotsUsed).setVm hW'.alike, X.tail, State.WarmedH.trans X.warmed hW', X.limits, X.bytes, X.same.trans (hsame.setVm s.vm)⟩,
      ⟨g, mk, s₂, L, E, ce, rfl, rfl, hx, hce, hcv, hcl, rfl, hL, rfl, rfl⟩, ?_⟩
    show Steps p.tables e below _ (((({ U with heap := s₂.heap, slotsUsed := s₂.slotsUsed } : State).setVm s₂.vm).setTop g).pushFrame (.throwing q))
    rw [← hs₂]
    exact hsteps
end Payer
section Calls
variable {p : Program} {l : Launch} {e : Env} {R : Room} {s : State} {m : MethodId} {args : Array Value} {below : List Frame} {meth : Method} {c : Code} {T : State} {locs : List Loc} {cells slots : Nat}
theorem vx_callV (X : Stand p l e R s m args below meth c T locs cells slots) (hexec : p.tables.exec = Jvm.exec) {own C : String} {index : Nat} {y : MethodName} {bytes : ByteArray} {maxL : Nat} {ret : Option FieldType}
    (hown : s.vm.findClass own = some m.cls) (hlink : (Cond.methodLink own index y).before args s = true) (hinst : (Cond.instanceMethod y).before args s = true) (hsel : (Cond.selects C y y).before args s = true)
    (hcode : (Cond.code y bytes maxL ret).before args s = true) (hy : y.cls ≠ "java/lang/invoke/MethodHandle" ∧ y.cls ≠ "java/lang/invoke/VarHandle")
    {W9 : Nat} {Pre : Pt → Array Value → Prop} {Post : Pt → Array Value → Option Value → Pt → Prop} {PostX : Pt → Array Value → Addr → Pt → Prop} (hK : vx_Back l R p e below s args y 3 W9 Pre Post PostX)
    {b : Addr} {cellB : Cell} (hcell : T.heap[b]? = some cellB) (hobj : cellB.vm.isStatics = false) (hcls : s.vm.findClass C = some cellB.cls)
    {g : JFrame} (hg : g.method = m) (hsize : g.locals.size = c.maxLocals) {argsL rest : List Value} (hlen : ∀ sig, parseMethodDescriptor y.desc = some sig → argsL.length = sig.parameters.length)
    (hstack : g.stack = argsL.reverse ++ .ref b :: rest) (hW : 2 * g.monitorRoom + (rest.map fun v => v.category).sum ≤ W9) (hdg : decode c.code g.pc = .ok (.invokevirtual index, 3))
    (hpre : ∀ vm₁, s.WarmedH vm₁ → Pre ⟨T.setVm vm₁, locs, cells, slots⟩ (Value.ref b :: argsL).toArray) :
    (∃ (v : Option Value) (vm₁ : Vm) (B : Pt), s.WarmedH vm₁ ∧ Stand p l e R s m args below meth c B.U B.locs B.cells B.slots ∧ Post ⟨T.setVm vm₁, locs, cells, slots⟩ (Value.ref b :: argsL).toArray v B ∧
      ∀ target, Steps p.tables e below (B.U.setTop { g with pc := g.pc + 3, stack := v.toList ++ rest }) target → Steps p.tables e below (T.setTop g) target) ∨
    (∃ (q : Addr) (vm₁ : Vm) (B : Pt), s.WarmedH vm₁ ∧ Stand p l e R s m args below meth c B.U B.locs B.cells B.slots ∧ PostX ⟨T.setVm vm₁, locs, cells, slots⟩ (Value.ref b :: argsL).toArray q B ∧
      Steps p.tables e below (T.setTop g) ((B.U.setTop { g with stack := rest }).pushFrame (.throwing q))) := by
  obtain ⟨mk, methM, hnamed, hmethM, hstM, habM⟩ := Cond.instanceMethod_spec hinst
  obtain ⟨methM', cM, hmethM', -, -, -, -, -, -, hsigM⟩ := Cond.code_spec hnamed hcode
  cases hmethM.symm.trans hmethM'
  obtain ⟨c2, r2, m2, q1, q2, q3, q4, kP, hkP, hkPi⟩ := Cond.selects_spec hsel
  cases hcls.symm.trans q1
  cases (State.methodFound?_of_named hnamed hy).symm.trans q2
  cases hnamed.symm.trans q3
  have hselP : selectMethod e.platform s.vm cellB.cls mk = .method mk := by rw [Launch.admits_selectMethod X.admits]; exact q4
  obtain ⟨vm₁, X₁, hstep₁⟩ := X.invokevirtual hexec hown hlink hnamed hmethM hstM hkP hkPi hy (a := b) (cell := cellB) hcell
    (fun z h => by rw [h] at hobj; cases hobj) hselP hmethM habM hkP hkPi (g := g) hg (argsL := argsL) (rest := rest) (hlen _ hsigM) hstack hdg
  rcases hK m meth c ⟨T.setVm vm₁, locs, cells, slots⟩ { g with stack := rest } (.invokevirtual index) mk (Value.ref b :: argsL).toArray X₁ hg hsize hdg hW (X₁.named hnamed) (hpre vm₁ X₁.warmed) with ⟨v, B, X', hpost, hsteps⟩ | ⟨q, B, X', hpost, hsteps⟩
  · exact Or.inl ⟨v, vm₁, B, X₁.warmed, X', hpost, fun target h => hstep₁ _ fun acts => by rw [doInvoke_state]; exact hsteps.trans h⟩
  · exact Or.inr ⟨q, vm₁, B, X₁.warmed, X', hpost, hstep₁ _ fun acts => by rw [doInvoke_state]; exact hsteps⟩
theorem vx_callS (X : Stand p l e R s m args below meth c T locs cells slots) (hexec : p.tables.exec = Jvm.exec) {own : String} {index : Nat} {y : MethodName} {bytes : ByteArray} {maxL : Nat} {ret : Option FieldType}
    (hown : s.vm.findClass own = some m.cls) (hlink : (Cond.methodLink own index y).before args s = true) (hstat : (Cond.static y).before args s = true) (hinit : (Cond.initialized y.cls).before args s = true)
    (hcode : (Cond.code y bytes maxL ret).before args s = true) (hy : y.cls ≠ "java/lang/invoke/MethodHandle" ∧ y.cls ≠ "java/lang/invoke/VarHandle")
    {W9 : Nat} {Pre : Pt → Array Value → Prop} {Post : Pt → Array Value → Option Value → Pt → Prop} {PostX : Pt → Array Value → Addr → Pt → Prop} (hK : vx_Back l R p e below s args y 3 W9 Pre Post PostX)
    {g : JFrame} (hg : g.method = m) (hsize : g.locals.size = c.maxLocals) {argsL rest : List Value} (hlen : ∀ sig, parseMethodDescriptor y.desc = some sig → argsL.length = sig.parameters.length)
    (hstack : g.stack = argsL.reverse ++ rest) (hW : 2 * g.monitorRoom + (rest.map fun v => v.category).sum ≤ W9) (hdg : decode c.code g.pc = .ok (.invokestatic index, 3))
    (hpre : ∀ vm₁, s.WarmedH vm₁ → Pre ⟨T.setVm vm₁, locs, cells, slots⟩ argsL.toArray) :
    (∃ (v : Option Value) (vm₁ : Vm) (B : Pt), s.WarmedH vm₁ ∧ Stand p l e R s m args below meth c B.U B.locs B.cells B.slots ∧ Post ⟨T.setVm vm₁, locs, cells, slots⟩ argsL.toArray v B ∧
      ∀ target, Steps p.tables e below (B.U.setTop { g with pc := g.pc + 3, stack := v.toList ++ rest }) target → Steps p.tables e below (T.setTop g) target) ∨
    (∃ (q : Addr) (vm₁ : Vm) (B : Pt), s.WarmedH vm₁ ∧ Stand p l e R s m args below meth c B.U B.locs B.cells B.slots ∧ PostX ⟨T.setVm vm₁, locs, cells, slots⟩ argsL.toArray q B ∧
      Steps p.tables e below (T.setTop g) ((B.U.setTop { g with stack := rest }).pushFrame (.throwing q))) := by
  obtain ⟨mk, hnamed⟩ := Cond.code_named hcode
  obtain ⟨methM, cM, hmethM, -, -, -, -, -, -, hsigM⟩ := Cond.code_spec hnamed hcode
  have hstatic : methM.isStatic = true := Cond.static_spec hnamed hmethM hstat
  obtain ⟨kP, hkP, -⟩ := className_of_methodNamed hnamed
  have hinitP : kP.init = .initialized := Cond.initialized_spec (findClass_of_methodNamed hnamed) hkP hinit
  obtain ⟨vm₁, X₁, hstep₁⟩ := X.invokestatic hexec hown hlink hnamed hmethM hstatic hkP hinitP hy (g := g) hg (argsL := argsL) (rest := rest) (hlen _ hsigM) hstack hdg
  rcases hK m meth c ⟨T.setVm vm₁, locs, cells, slots⟩ { g with stack := rest } (.invokestatic index) mk argsL.toArray X₁ hg hsize hdg hW (X₁.named hnamed) (hpre vm₁ X₁.warmed) with ⟨v, B, X', hpost, hsteps⟩ | ⟨q, B, X', hpost, hsteps⟩
  · exact Or.inl ⟨v, vm₁, B, X₁.warmed, X', hpost, fun target h => hstep₁ _ fun acts => by rw [doInvoke_state]; exact hsteps.trans h⟩
  · exact Or.inr ⟨q, vm₁, B, X₁.warmed, X', hpost, hstep₁ _ fun acts => by rw [doInvoke_state]; exact hsteps⟩
end Calls
theorem vx_cls {s : State} {T : State} {vm₁ : Vm} {E : String} {k : ClassId} (hW : s.WarmedH vm₁) (h : (T.setVm vm₁).vm.findClass E = some k) : s.vm.findClass E = some k := by
  have h1 : vm₁.findClass E = some k := h
  rw [hW.alike.findClass] at h1
  exact h1
/-- the method's frame g, with q thrown over it -/
def vx_W (p : Program) (l : Launch) (e : Env) (R : Room) (s : State) (m : MethodId) (args : Array Value) (below : List Frame) (meth : Method) (c : Code) (H : Heap) (locs : List Loc) (cells slots : Nat) (Q : State → Prop) (g : JFrame) (q : Addr) : Prop :=
  ∀ T : State, T.heap = H → Stand p l e R s m args below meth c T locs cells slots → ∃ t, Steps p.tables e below ((T.setTop g).pushFrame (.throwing q)) t ∧ Q t
def vx_Run (p : Program) (l : Launch) (e : Env) (R : Room) (s : State) (m : MethodId) (args : Array Value) (below : List Frame) (meth : Method) (c : Code) (H : Heap) (locs : List Loc) (cells slots mc ms : Nat) (g : JFrame) (rest : List Value) (Qa : State → Outcome → State → Prop) (XC : String → State → State → Prop) (free : Addr → Prop) : Prop :=
  ∀ T : State, T.heap = H → Stand p l e R s m args below meth c T locs cells slots →
    (∃ (v : Option Value) (st₀ t T' : State) (L : List Loc), st₀.heap = H ∧ Stand p l e R s m args below meth c T' (locs ++ L) (cells + mc) (slots + ms) ∧ (∀ q ∈ L, free q.base) ∧ T'.heap = t.heap ∧ T'.vm = t.vm ∧ Qa st₀ (.returned v) t ∧
      Goes p e below T g T' { g with pc := g.pc + 3, stack := v.toList ++ rest }) ∨
    (∃ (q : Addr) (st₀ t T' : State) (L : List Loc) (E : String) (ce : Cell), st₀.heap = H ∧ Stand p l e R s m args below meth c T' (locs ++ L) (cells + mc) (slots + ms) ∧ (∀ z ∈ L, free z.base) ∧ T'.heap = t.heap ∧ T'.vm = t.vm ∧ XC E st₀ t ∧ t.heap[q]? = some ce ∧ ce.vm = .none ∧ s.vm.findClass E = some ce.cls ∧
      Steps p.tables e below (T.setTop g) ((T'.setTop { g with stack := rest }).pushFrame (.throwing q)))
def vx_X {S : Type} (px : S → Prop) (B : String → S → State → Prop) (A : Nat → Prop) : String → State → State → Prop := fun E st t => ∃ u : S, px u ∧ B E u t ∧ va_F A st t
section Runs
variable {p : Program} {l : Launch} {e : Env} {R : Room} {s : State} {m : MethodId} {args : Array Value} {below : List Frame} {meth : Method} {c : Code} {H : Heap} {locs : List Loc} {cells slots : Nat}
variable {y : MethodName} {bytes cc : ByteArray} {maxL nL mc ms n index : Nat} {ret : Option FieldType} {ws : List Cond} {rm : Room} {Pc : Array Value → State → Prop} {Qc : Array Value → State → Outcome → State → Prop} {XC : String → State → State → Prop} {free : Addr → Prop} {Ts : List Cond} {own C : String} {b : Addr} {As rest : List Value} {g : JFrame}
theorem vx_callBack (cb : CallB R s args own index y bytes maxL ret ws rm mc ms n) (hM : vx_Met l y ws rm Pc Qc XC mc ms free) (hbl : FrameBlind Pc) : vx_Back l R p e below s args y 3 8 (PreOf R mc ms Pc) (PostOf Qc mc ms free) (vx_Post XC mc ms free) := by
  obtain ⟨hrc, hrs, hfr, hlo, hws, hcw, -, hini, -⟩ := cb
  exact vx_back (bytes := bytes) (maxL := maxL) (ret := ret) hM hbl hrc hrs hfr hlo hws hcw (fun a' U hW => word_at hW (Or.inl (by first | rfl | simp [Cond.onTables, Cond.keeps, Cond.steady])) hini)
theorem vx_runV (S : CallFix p m c cc nL s args Ts own) (hM : vx_Met l y ws rm Pc Qc XC mc ms free) (cw : CallW R s args own C index y bytes maxL ret ws rm mc ms n) (hp : PreV s H C b Pc As)
    (hg : g.method = m) (hn : As.length = n) (hsize : g.locals.size = nL) (hstack : g.stack = As.reverse ++ .ref b :: rest) (hW : 2 * g.monitorRoom + (rest.map fun v => v.category).sum ≤ 8) (hdg : decode cc g.pc = .ok (.invokevirtual index, 3)) (hf : cells + mc ≤ R.cells ∧ slots + ms ≤ R.slots) :
    vx_Run p l e R s m args below meth c H locs cells slots mc ms g rest (Qc (Value.ref b :: As).toArray) XC free := by
  have hK : vx_Back l R p e below s args y 3 8 (PreOf R mc ms Pc) (PostOf Qc mc ms free) (vx_Post XC mc ms free) := vx_callBack cw.1 hM hp.1
  obtain ⟨⟨-, -, -, -, -, -, hcode, -, hy, hlen, hl⟩, hin, hse⟩ := cw
  obtain ⟨hx, hb, hml, ho, -⟩ := S
  obtain ⟨-, ⟨cellB, hcB, hoB, hclB⟩, hPc⟩ := hp
  intro T hT X
  rcases vx_callV X hx (C := C) (bytes := bytes) (maxL := maxL) (ret := ret) ho hl hin hse hcode hy hK (by rw [hT]; exact hcB) hoB hclB hg (hsize.trans hml.symm) (argsL := As) (rest := rest) (fun sig h => hn.trans (hlen sig h)) hstack hW (by rw [hb]; exact hdg)
    (fun vm₁ hW₁ => ⟨hf.1, hf.2, hPc (T.setVm vm₁) hT hW₁⟩) with ⟨v, vm₁, ⟨U', l2, c2, s2⟩, hW₁, X', ⟨g', mk, t, L, e1, e2, hq, h1, hL, h2, h3⟩, st⟩ | ⟨q, vm₁, ⟨U', l2, c2, s2⟩, hW₁, X', ⟨g', mk, t, L, E, ce, e1, e2, hq, hce, hcv, hcl, h1, hL, h2, h3⟩, st⟩
  · dsimp only [Pt.U, Pt.locs, Pt.cells, Pt.slots] at X' e1 e2 h1 h2 h3 st
    subst h1; subst h2; subst h3
    exact Or.inl ⟨v, (T.setVm vm₁).calling g' mk (Value.ref b :: As).toArray, t, U', L, hT, X', hL, e1, e2, hq, st⟩
  · dsimp only [Pt.U, Pt.locs, Pt.cells, Pt.slots] at X' e1 e2 h1 h2 h3 st hcl
    subst h1; subst h2; subst h3
    exact Or.inr ⟨q, (T.setVm vm₁).calling g' mk (Value.ref b :: As).toArray, t, U', L, E, ce, hT, X', hL, e1, e2, hq, hce, hcv, vx_cls hW₁ hcl, st⟩
theorem vx_runS (S : CallFix p m c cc nL s args Ts own) (hM : vx_Met l y ws rm Pc Qc XC mc ms free) (cw : CallB R s args own index y bytes maxL ret ws rm mc ms n ∧ (Cond.static y).before args s = true) (hp : PreS s H Pc As)
    (hg : g.method = m) (hn : As.length = n) (hsize : g.locals.size = nL) (hstack : g.stack = As.reverse ++ rest) (hW : 2 * g.monitorRoom + (rest.map fun v => v.category).sum ≤ 8) (hdg : decode cc g.pc = .ok (.invokestatic index, 3)) (hf : cells + mc ≤ R.cells ∧ slots + ms ≤ R.slots) :
    vx_Run p l e R s m args below meth c H locs cells slots mc ms g rest (Qc As.toArray) XC free := by
  have hK : vx_Back l R p e below s args y 3 8 (PreOf R mc ms Pc) (PostOf Qc mc ms free) (vx_Post XC mc ms free) := vx_callBack cw.1 hM hp.1
  obtain ⟨⟨-, -, -, -, -, -, hcode, hini, hy, hlen, hl⟩, hstt⟩ := cw
  obtain ⟨hx, hb, hml, ho, -⟩ := S
  intro T hT X
  rcases vx_callS X hx (bytes := bytes) (maxL := maxL) (ret := ret) ho hl hstt hini hcode hy hK hg (hsize.trans hml.symm) (argsL := As) (rest := rest) (fun sig h => hn.trans (hlen sig h)) hstack hW (by rw [hb]; exact hdg)
    (fun vm₁ hW₁ => ⟨hf.1, hf.2, hp.2 (T.setVm vm₁) hT hW₁⟩) with ⟨v, vm₁, ⟨U', l2, c2, s2⟩, hW₁, X', ⟨g', mk, t, L, e1, e2, hq, h1, hL, h2, h3⟩, st⟩ | ⟨q, vm₁, ⟨U', l2, c2, s2⟩, hW₁, X', ⟨g', mk, t, L, E, ce, e1, e2, hq, hce, hcv, hcl, h1, hL, h2, h3⟩, st⟩
  · dsimp only [Pt.U, Pt.locs, Pt.cells, Pt.slots] at X' e1 e2 h1 h2 h3 st
    subst h1; subst h2; subst h3
    exact Or.inl ⟨v, (T.setVm vm₁).calling g' mk As.toArray, t, U', L, hT, X', hL, e1, e2, hq, st⟩
  · dsimp only [Pt.U, Pt.locs, Pt.cells, Pt.slots] at X' e1 e2 h1 h2 h3 st hcl
    subst h1; subst h2; subst h3
    exact Or.inr ⟨q, (T.setVm vm₁).calling g' mk As.toArray, t, U', L, E, ce, hT, X', hL, e1, e2, hq, hce, hcv, vx_cls hW₁ hcl, st⟩
end Runs
section Rows
variable {p : Program} {l : Launch} {e : Env} {R : Room} {s : State} {m : MethodId} {args : Array Value} {below : List Frame} {meth : Method} {c : Code} {H : Heap} {locs : List Loc} {cells slots : Nat} {Q : State → Prop}
variable {mc ms : Nat} {free : Addr → Prop} {A0 A1 : Nat → Prop} {H0 : Heap} {a : Array Value} {pc : Nat} {ls : Array Slot} {st0 rest : List Value}
theorem vx_keep {st₀ t T' : State} {L : List Loc} (h0 : st₀.heap = H) (e1 : T'.heap = t.heap) (hS : va_S A0 H0 H locs) (hA : ∀ q, q < H.size → A1 q → A0 q) (hf : ∀ q, free q → A0 q) (hL : ∀ q ∈ L, free q.base) (hF : va_F A1 st₀ t) :
    H.size ≤ T'.heap.size ∧ (∀ q : Nat, q < H.size → ¬ A1 q → T'.heap[q]? = H[q]?) ∧ va_S A0 H0 T'.heap (locs ++ L) := by
  obtain ⟨hz, hk⟩ := hF
  rw [h0] at hz hk
  exact ⟨by rw [e1]; exact hz, fun q h1 h2 => by rw [e1]; exact hk q h1 h2,
    ⟨Nat.le_trans hS.1 (by rw [e1]; exact hz), fun q h1 h2 => by rw [e1, hk q (Nat.lt_of_lt_of_le h1 hS.1) (fun z => h2 (hA q (Nat.lt_of_lt_of_le h1 hS.1) z))]; exact hS.2.1 q h1 h2, fun q hq => by
      rcases List.mem_append.mp hq with h | h
      · exact hS.2.2 q h
      · exact hf _ (hL q h)⟩⟩
theorem vx_calli {S SX : Type} {post : Int32 → S → Prop} {px : SX → Prop} {B : S → State → Prop} {BX : String → SX → State → Prop} {AX : Nat → Prop} (hr : vx_Run p l e R s m args below meth c H locs cells slots mc ms (F0 m pc ls st0) rest (va_Qi post B A1 a) (vx_X px BX AX) free) (hS : va_S A0 H0 H locs) (hA : ∀ q, q < H.size → A1 q → A0 q) (hf : ∀ q, free q → A0 q) (hAX : ∀ q, q < H.size → AX q → A0 q)
    (kx : ∀ (E : String) (ce : Cell) (q9 : Addr) (u : SX) (t : State) (H1 : Heap) (locs1 : List Loc), t.heap = H1 → s.vm.Alike t.vm → px u → BX E u t → H.size ≤ H1.size → (∀ q : Nat, q < H.size → ¬ AX q → H1[q]? = H[q]?) → va_S A0 H0 H1 locs1 → H1[q9]? = some ce → ce.vm = .none → s.vm.findClass E = some ce.cls → vx_W p l e R s m args below meth c H1 locs1 (cells + mc) (slots + ms) Q (F0 m pc ls rest) q9)
    (kk : ∀ (r : Int32) (u : S) (t : State) (H1 : Heap) (locs1 : List Loc), t.heap = H1 → s.vm.Alike t.vm → post r u → B u t → H.size ≤ H1.size → (∀ q : Nat, q < H.size → ¬ A1 q → H1[q]? = H[q]?) → va_S A0 H0 H1 locs1 → W p l e R s m args below meth c H1 locs1 (cells + mc) (slots + ms) Q (F0 m (pc + 3) ls (.int r :: rest))) : W p l e R s m args below meth c H locs cells slots Q (F0 m pc ls st0) := by
  intro T hT X
  rcases hr T hT X with ⟨v, st₀, t, T', L, h0, X', hL, e1, e2, ⟨⟨r, u, hv, hp, hb⟩, hF⟩, st⟩ | ⟨q, st₀, t, T', L, E, ce, h0, X', hL, e1, e2, ⟨u, hp, hb, hF⟩, hce, hcv, hcl, st⟩
  · cases hv
    obtain ⟨k1, k2, k3⟩ := vx_keep h0 e1 hS hA hf hL hF
    obtain ⟨t2, a1, b1⟩ := kk r u t T'.heap (locs ++ L) e1.symm (by rw [← e2]; exact X'.warmed.alike) hp hb k1 k2 k3 T' rfl X'
    exact ⟨t2, st t2 a1, b1⟩
  · obtain ⟨k1, k2, k3⟩ := vx_keep h0 e1 hS hAX hf hL hF
    obtain ⟨t2, a1, b1⟩ := kx E ce q u t T'.heap (locs ++ L) e1.symm (by rw [← e2]; exact X'.warmed.alike) hp hb k1 k2 k3 (by rw [e1]; exact hce) hcv hcl T' rfl X'
    exact ⟨t2, st.trans a1, b1⟩
theorem vx_calll {S SX : Type} {post : Int64 → S → Prop} {px : SX → Prop} {B : S → State → Prop} {BX : String → SX → State → Prop} {AX : Nat → Prop} (hr : vx_Run p l e R s m args below meth c H locs cells slots mc ms (F0 m pc ls st0) rest (va_Ql post B A1 a) (vx_X px BX AX) free) (hS : va_S A0 H0 H locs) (hA : ∀ q, q < H.size → A1 q → A0 q) (hf : ∀ q, free q → A0 q) (hAX : ∀ q, q < H.size → AX q → A0 q)
    (kx : ∀ (E : String) (ce : Cell) (q9 : Addr) (u : SX) (t : State) (H1 : Heap) (locs1 : List Loc), t.heap = H1 → s.vm.Alike t.vm → px u → BX E u t → H.size ≤ H1.size → (∀ q : Nat, q < H.size → ¬ AX q → H1[q]? = H[q]?) → va_S A0 H0 H1 locs1 → H1[q9]? = some ce → ce.vm = .none → s.vm.findClass E = some ce.cls → vx_W p l e R s m args below meth c H1 locs1 (cells + mc) (slots + ms) Q (F0 m pc ls rest) q9)
    (kk : ∀ (r : Int64) (u : S) (t : State) (H1 : Heap) (locs1 : List Loc), t.heap = H1 → s.vm.Alike t.vm → post r u → B u t → H.size ≤ H1.size → (∀ q : Nat, q < H.size → ¬ A1 q → H1[q]? = H[q]?) → va_S A0 H0 H1 locs1 → W p l e R s m args below meth c H1 locs1 (cells + mc) (slots + ms) Q (F0 m (pc + 3) ls (.long r :: rest))) : W p l e R s m args below meth c H locs cells slots Q (F0 m pc ls st0) := by
  intro T hT X
  rcases hr T hT X with ⟨v, st₀, t, T', L, h0, X', hL, e1, e2, ⟨⟨r, u, hv, hp, hb⟩, hF⟩, st⟩ | ⟨q, st₀, t, T', L, E, ce, h0, X', hL, e1, e2, ⟨u, hp, hb, hF⟩, hce, hcv, hcl, st⟩
  · cases hv
    obtain ⟨k1, k2, k3⟩ := vx_keep h0 e1 hS hA hf hL hF
    obtain ⟨t2, a1, b1⟩ := kk r u t T'.heap (locs ++ L) e1.symm (by rw [← e2]; exact X'.warmed.alike) hp hb k1 k2 k3 T' rfl X'
    exact ⟨t2, st t2 a1, b1⟩
  · obtain ⟨k1, k2, k3⟩ := vx_keep h0 e1 hS hAX hf hL hF
    obtain ⟨t2, a1, b1⟩ := kx E ce q u t T'.heap (locs ++ L) e1.symm (by rw [← e2]; exact X'.warmed.alike) hp hb k1 k2 k3 (by rw [e1]; exact hce) hcv hcl T' rfl X'
    exact ⟨t2, st.trans a1, b1⟩
theorem vx_callf {S SX : Type} {post : UInt32 → S → Prop} {px : SX → Prop} {B : S → State → Prop} {BX : String → SX → State → Prop} {AX : Nat → Prop} (hr : vx_Run p l e R s m args below meth c H locs cells slots mc ms (F0 m pc ls st0) rest (va_Qf post B A1 a) (vx_X px BX AX) free) (hS : va_S A0 H0 H locs) (hA : ∀ q, q < H.size → A1 q → A0 q) (hf : ∀ q, free q → A0 q) (hAX : ∀ q, q < H.size → AX q → A0 q)
    (kx : ∀ (E : String) (ce : Cell) (q9 : Addr) (u : SX) (t : State) (H1 : Heap) (locs1 : List Loc), t.heap = H1 → s.vm.Alike t.vm → px u → BX E u t → H.size ≤ H1.size → (∀ q : Nat, q < H.size → ¬ AX q → H1[q]? = H[q]?) → va_S A0 H0 H1 locs1 → H1[q9]? = some ce → ce.vm = .none → s.vm.findClass E = some ce.cls → vx_W p l e R s m args below meth c H1 locs1 (cells + mc) (slots + ms) Q (F0 m pc ls rest) q9)
    (kk : ∀ (r : UInt32) (u : S) (t : State) (H1 : Heap) (locs1 : List Loc), t.heap = H1 → s.vm.Alike t.vm → post r u → B u t → H.size ≤ H1.size → (∀ q : Nat, q < H.size → ¬ A1 q → H1[q]? = H[q]?) → va_S A0 H0 H1 locs1 → W p l e R s m args below meth c H1 locs1 (cells + mc) (slots + ms) Q (F0 m (pc + 3) ls (.float r :: rest))) : W p l e R s m args below meth c H locs cells slots Q (F0 m pc ls st0) := by
  intro T hT X
  rcases hr T hT X with ⟨v, st₀, t, T', L, h0, X', hL, e1, e2, ⟨⟨r, u, hv, hp, hb⟩, hF⟩, st⟩ | ⟨q, st₀, t, T', L, E, ce, h0, X', hL, e1, e2, ⟨u, hp, hb, hF⟩, hce, hcv, hcl, st⟩
  · cases hv
    obtain ⟨k1, k2, k3⟩ := vx_keep h0 e1 hS hA hf hL hF
    obtain ⟨t2, a1, b1⟩ := kk r u t T'.heap (locs ++ L) e1.symm (by rw [← e2]; exact X'.warmed.alike) hp hb k1 k2 k3 T' rfl X'
    exact ⟨t2, st t2 a1, b1⟩
  · obtain ⟨k1, k2, k3⟩ := vx_keep h0 e1 hS hAX hf hL hF
    obtain ⟨t2, a1, b1⟩ := kx E ce q u t T'.heap (locs ++ L) e1.symm (by rw [← e2]; exact X'.warmed.alike) hp hb k1 k2 k3 (by rw [e1]; exact hce) hcv hcl T' rfl X'
    exact ⟨t2, st.trans a1, b1⟩
theorem vx_calld {S SX : Type} {post : UInt64 → S → Prop} {px : SX → Prop} {B : S → State → Prop} {BX : String → SX → State → Prop} {AX : Nat → Prop} (hr : vx_Run p l e R s m args below meth c H locs cells slots mc ms (F0 m pc ls st0) rest (va_Qd post B A1 a) (vx_X px BX AX) free) (hS : va_S A0 H0 H locs) (hA : ∀ q, q < H.size → A1 q → A0 q) (hf : ∀ q, free q → A0 q) (hAX : ∀ q, q < H.size → AX q → A0 q)
    (kx : ∀ (E : String) (ce : Cell) (q9 : Addr) (u : SX) (t : State) (H1 : Heap) (locs1 : List Loc), t.heap = H1 → s.vm.Alike t.vm → px u → BX E u t → H.size ≤ H1.size → (∀ q : Nat, q < H.size → ¬ AX q → H1[q]? = H[q]?) → va_S A0 H0 H1 locs1 → H1[q9]? = some ce → ce.vm = .none → s.vm.findClass E = some ce.cls → vx_W p l e R s m args below meth c H1 locs1 (cells + mc) (slots + ms) Q (F0 m pc ls rest) q9)
    (kk : ∀ (r : UInt64) (u : S) (t : State) (H1 : Heap) (locs1 : List Loc), t.heap = H1 → s.vm.Alike t.vm → post r u → B u t → H.size ≤ H1.size → (∀ q : Nat, q < H.size → ¬ A1 q → H1[q]? = H[q]?) → va_S A0 H0 H1 locs1 → W p l e R s m args below meth c H1 locs1 (cells + mc) (slots + ms) Q (F0 m (pc + 3) ls (.double r :: rest))) : W p l e R s m args below meth c H locs cells slots Q (F0 m pc ls st0) := by
  intro T hT X
  rcases hr T hT X with ⟨v, st₀, t, T', L, h0, X', hL, e1, e2, ⟨⟨r, u, hv, hp, hb⟩, hF⟩, st⟩ | ⟨q, st₀, t, T', L, E, ce, h0, X', hL, e1, e2, ⟨u, hp, hb, hF⟩, hce, hcv, hcl, st⟩
  · cases hv
    obtain ⟨k1, k2, k3⟩ := vx_keep h0 e1 hS hA hf hL hF
    obtain ⟨t2, a1, b1⟩ := kk r u t T'.heap (locs ++ L) e1.symm (by rw [← e2]; exact X'.warmed.alike) hp hb k1 k2 k3 T' rfl X'
    exact ⟨t2, st t2 a1, b1⟩
  · obtain ⟨k1, k2, k3⟩ := vx_keep h0 e1 hS hAX hf hL hF
    obtain ⟨t2, a1, b1⟩ := kx E ce q u t T'.heap (locs ++ L) e1.symm (by rw [← e2]; exact X'.warmed.alike) hp hb k1 k2 k3 (by rw [e1]; exact hce) hcv hcl T' rfl X'
    exact ⟨t2, st.trans a1, b1⟩
theorem vx_callv {S SX : Type} {post : S → Prop} {px : SX → Prop} {B : S → State → Prop} {BX : String → SX → State → Prop} {AX : Nat → Prop} (hr : vx_Run p l e R s m args below meth c H locs cells slots mc ms (F0 m pc ls st0) rest (va_Qv post B A1 a) (vx_X px BX AX) free) (hS : va_S A0 H0 H locs) (hA : ∀ q, q < H.size → A1 q → A0 q) (hf : ∀ q, free q → A0 q) (hAX : ∀ q, q < H.size → AX q → A0 q)
    (kx : ∀ (E : String) (ce : Cell) (q9 : Addr) (u : SX) (t : State) (H1 : Heap) (locs1 : List Loc), t.heap = H1 → s.vm.Alike t.vm → px u → BX E u t → H.size ≤ H1.size → (∀ q : Nat, q < H.size → ¬ AX q → H1[q]? = H[q]?) → va_S A0 H0 H1 locs1 → H1[q9]? = some ce → ce.vm = .none → s.vm.findClass E = some ce.cls → vx_W p l e R s m args below meth c H1 locs1 (cells + mc) (slots + ms) Q (F0 m pc ls rest) q9)
    (kk : ∀ (u : S) (t : State) (H1 : Heap) (locs1 : List Loc), t.heap = H1 → s.vm.Alike t.vm → post u → B u t → H.size ≤ H1.size → (∀ q : Nat, q < H.size → ¬ A1 q → H1[q]? = H[q]?) → va_S A0 H0 H1 locs1 → W p l e R s m args below meth c H1 locs1 (cells + mc) (slots + ms) Q (F0 m (pc + 3) ls (rest))) : W p l e R s m args below meth c H locs cells slots Q (F0 m pc ls st0) := by
  intro T hT X
  rcases hr T hT X with ⟨v, st₀, t, T', L, h0, X', hL, e1, e2, ⟨⟨u, hv, hp, hb⟩, hF⟩, st⟩ | ⟨q, st₀, t, T', L, E, ce, h0, X', hL, e1, e2, ⟨u, hp, hb, hF⟩, hce, hcv, hcl, st⟩
  · cases hv
    obtain ⟨k1, k2, k3⟩ := vx_keep h0 e1 hS hA hf hL hF
    obtain ⟨t2, a1, b1⟩ := kk u t T'.heap (locs ++ L) e1.symm (by rw [← e2]; exact X'.warmed.alike) hp hb k1 k2 k3 T' rfl X'
    exact ⟨t2, st t2 a1, b1⟩
  · obtain ⟨k1, k2, k3⟩ := vx_keep h0 e1 hS hAX hf hL hF
    obtain ⟨t2, a1, b1⟩ := kx E ce q u t T'.heap (locs ++ L) e1.symm (by rw [← e2]; exact X'.warmed.alike) hp hb k1 k2 k3 (by rw [e1]; exact hce) hcv hcl T' rfl X'
    exact ⟨t2, st.trans a1, b1⟩
/-- caught by the row x of this method's table; the rows ahead don't take it -/
theorem vx_catch {own name : String} {E : String} {ce : Cell} {q : Addr} (hown : s.vm.findClass own = some m.cls) (pre : List ExceptionTableEntry) (x : ExceptionTableEntry) (suf : List ExceptionTableEntry) (hsplit : c.exceptionTable.toList = pre ++ x :: suf)
    (hpass : ∀ z ∈ pre, covers z pc = false ∨ (z.catchType ≠ 0 ∧ ∃ nm : String, (Cond.classLink own z.catchType nm).before args s = true ∧ va_Nc E nm s)) (hx : covers x pc = true) (h0 : x.catchType ≠ 0)
    (hlink : (Cond.classLink own x.catchType name).before args s = true) (hcast : (Cond.castable E name).before args s = true) (hcell : H[q]? = some ce) (hv : ce.vm = .none) (hcl : s.vm.findClass E = some ce.cls)
    (kk : W p l e R s m args below meth c H locs cells slots Q (F0 m x.handlerPc ls [.ref q])) : vx_W p l e R s m args below meth c H locs cells slots Q (F0 m pc ls rest) q := by
  intro T hT X
  have hpl : e.platform.magicAccessors = ({} : Platform).magicAccessors := by rw [X.admits.platform]
  obtain ⟨c3, c4, hc3, hc4, hasg⟩ := Cond.castable_spec hcast
  cases Option.some.inj (hc3.symm.trans hcl)
  obtain ⟨c5, hc5, hcl5⟩ := Cond.classLink_spec hown hlink e.platform hpl
  cases Option.some.inj (hc4.symm.trans hc5)
  obtain ⟨vm', X', st⟩ := X.thenCaughtThrough q (g := F0 m pc ls rest) rfl (Steps.refl _) (by rw [hT]; exact hcell) (by rw [hv]; rfl) (by obtain ⟨k9, h9, -⟩ := Vm.findClass_spec hcl; exact ⟨k9, h9⟩) pre x suf hsplit
    (fun z hz => by
      rcases hpass z hz with h | ⟨hz0, nm, hl1, hn1⟩
      · exact Or.inl h
      · obtain ⟨c6, hc6, hcl6⟩ := Cond.classLink_spec hown hl1 e.platform hpl
        obtain ⟨a8, b8, h1, h2, h3⟩ := hn1
        cases Option.some.inj (h1.symm.trans hcl)
        cases Option.some.inj (h2.symm.trans hc6)
        exact Or.inr ⟨hz0, _, hcl6, h3⟩) hx (Or.inr ⟨h0, c4, hcl5, hasg⟩)
  obtain ⟨t, a1, b1⟩ := kk (T.setVm vm') hT X'
  exact ⟨t, st.trans a1, b1⟩
end Rows
section Ends
variable {p : Program} {l : Launch} {e : Env} {R : Room} {s : State} {m : MethodId} {args : Array Value} {below : List Frame} {meth : Method} {c : Code} {H : Heap} {locs : List Loc} {cells slots : Nat} {Q : State → Prop}
variable {mc ms : Nat} {free : Addr → Prop} {A0 A1 : Nat → Prop} {H0 : Heap} {a : Array Value} {ls : Array Slot} {st0 rest : List Value}
variable {Qc : Array Value → State → Outcome → State → Prop} {XC : String → State → State → Prop}
/-- what a body that may throw owes at its end -/
def vx_MQ (below : List Frame) (Qc : Array Value → State → Outcome → State → Prop) (XC : String → State → State → Prop) (a : Array Value) (s : State) (mc ms : Nat) (free : Addr → Prop) : State → Prop := fun t =>
  ∃ o, t.status = .running ∧ Ended t below o ∧ vx_Q Qc XC mc ms free a s o t
theorem vx_ret {g : JFrame} {mc ms : Nat} (k : W p l e R s m args below meth c H locs cells slots (MQ below Qc args s mc ms free) g) : W p l e R s m args below meth c H locs cells slots (vx_MQ below Qc XC args s mc ms free) g := by
  intro T hT X
  obtain ⟨t, a1, o, b1, b2, b3, b4⟩ := k T hT X
  exact ⟨t, a1, o, b1, b2, Or.inl ⟨b3, b4⟩⟩
/-- not caught here: it goes on to the caller -/
theorem vx_widen {g : JFrame} {q : Addr} {k n : Nat} (h1 : cells ≤ k) (h2 : slots ≤ n) (kk : vx_W p l e R s m args below meth c H locs k n Q g q) : vx_W p l e R s m args below meth c H locs cells slots Q g q := fun T hT X => kk T hT (stand_widen X h1 h2)
theorem vx_out {pc : Nat} {E : String} {ce : Cell} {q : Addr} {mc ms : Nat} (hout : ∀ x ∈ c.exceptionTable.toList, covers x pc = false) (hlocks : meth.locks = false) (hcell : H[q]? = some ce) (hv : ce.vm = .none) (hcl : s.vm.findClass E = some ce.cls)
    (hx : ∀ t : State, t.heap = H → s.vm.Alike t.vm → XC E s t) (hf : ∀ z ∈ locs, free z.base) (hc : cells ≤ mc) (hs : slots ≤ ms) :
    vx_W p l e R s m args below meth c H locs cells slots (vx_MQ below Qc XC args s mc ms free) (F0 m pc ls rest) q := by
  intro T hT X
  obtain ⟨st1, hrun, hend, hW, hsm⟩ := X.leaveThrown q (g := F0 m pc ls rest) rfl rfl rfl hout hlocks
  have hcell9 : (T.setFrames (.throwing q :: below)).heap[q]? = some ce := by
    show T.heap[q]? = some ce
    rw [hT]; exact hcell
  exact ⟨_, st1, .threw q, hrun, hend, Or.inr ⟨q, rfl, E, ce, locs, hx _ hT hW.alike, hcell9, hv, hcl, hW, hsm.mono hc hs, hf⟩⟩
theorem vx_frame {U : State} {k n : Nat} (h : s.sameButNew ({ U with vm := s.vm } : State) locs k n) : s.heap.size ≤ U.heap.size ∧ ∀ q : Nat, q < s.heap.size → (∀ z ∈ locs, z.base ≠ q) → U.heap[q]? = s.heap[q]? := by
  obtain ⟨-, h2, -, -, -, h6⟩ := h
  refine ⟨h2, fun q hq hz => ?_⟩
  obtain ⟨c9, e1, e2, e3, e4⟩ := h6 q _ (Array.getElem?_eq_getElem hq)
  have hs : c9.slots = (s.heap[q]).slots := Array.ext_getElem? fun i => e4 i fun hm => hz _ hm rfl
  have h9 : c9 = s.heap[q] := by
    rw [hs] at e2
    exact e2
  have e5 : U.heap[q]? = some c9 := e1
  rw [e5, h9, Array.getElem?_eq_getElem hq]
/-- the words of a throw but the four that speak of the heap -/
def vx_no (w : Cond) : Bool := decide (w ≠ .isRef (.static Bundle.tN "UNASSIGNED_STACK" Bundle.steD)) && decide (w ≠ .isRef (.static Bundle.tN "SUPPRESSED_SENTINEL" Bundle.listD)) && decide (w ≠ .laysStatic Bundle.tN "UNASSIGNED_STACK" Bundle.steD) && decide (w ≠ .laysStatic Bundle.tN "SUPPRESSED_SENTINEL" Bundle.listD)
def vx_at0 (own : String) (ic : Nat) (X : String) (names : List String) : List Cond := (Bundle.ownAtoms0 own ic X names).filter vx_no
def vx_atS (own : String) (ic : Nat) (X : String) (names : List String) : List Cond := (Bundle.ownAtoms own ic X names).filter vx_no
/-- a word that the tables alone decide, or a good one -/
def vx_ot (w : Cond) : Bool := w.onTables || goodWord w
theorem vx_ot_at {args a' : Array Value} {s U : State} {w : Cond} (hW : s.WarmedH U.vm) (hvm : s.vm = U.vm) (hg : vx_ot w = true) (h : w.before args s = true) : w.before a' U = true := by
  simp only [vx_ot, Bool.or_eq_true] at hg
  rcases hg with hg | hg
  · exact va_tabs hg hvm h
  · exact word_at hW (good_of_word hg) h
/-- a list's words: the good ones out of the method's own list, the others by premises of their own -/
theorem vx_hat {args : Array Value} {s : State} {L B : List Cond} (h1 : ∀ w ∈ L.filter goodWord, w.before args s = true) (h2 : ∀ w ∈ L.filter (fun w => !goodWord w), w ∈ B) (h3 : ∀ w ∈ B, w.before args s = true) : ∀ w ∈ L, w.before args s = true := by
  intro w hw
  by_cases g : goodWord w = true
  · exact h1 w (List.mem_filter.mpr ⟨hw, g⟩)
  · refine h3 w (h2 w (List.mem_filter.mpr ⟨hw, ?_⟩))
    show (!goodWord w) = true
    cases hgw : goodWord w
    · rfl
    · exact absurd hgw g
theorem vx_c {args : Array Value} {s : State} {w : Cond} {B : List Cond} (h : w.before args s = true) (t : ∀ w ∈ B, w.before args s = true) : ∀ w' ∈ w :: B, w'.before args s = true := fun w' h' => (List.mem_cons.mp h').elim (fun e => by rw [e]; exact h) (t w')
theorem vx_n {args : Array Value} {s : State} : ∀ w ∈ ([] : List Cond), w.before args s = true := fun _ h => nomatch h
theorem vx_own {args : Array Value} {s : State} {L : List Cond} (h1 : ∀ w ∈ L.filter vx_no, w.before args s = true)
    (hU : (Cond.isRef (.static Bundle.tN "UNASSIGNED_STACK" Bundle.steD)).before args s = true) (hN : (Cond.isRef (.static Bundle.tN "SUPPRESSED_SENTINEL" Bundle.listD)).before args s = true)
    (lU : (Cond.laysStatic Bundle.tN "UNASSIGNED_STACK" Bundle.steD).before args s = true) (lN : (Cond.laysStatic Bundle.tN "SUPPRESSED_SENTINEL" Bundle.listD).before args s = true) : ∀ w ∈ L, w.before args s = true := by
  intro w hw
  by_cases e1 : w = .isRef (.static Bundle.tN "UNASSIGNED_STACK" Bundle.steD)
  · rw [e1]; exact hU
  · by_cases e2 : w = .isRef (.static Bundle.tN "SUPPRESSED_SENTINEL" Bundle.listD)
    · rw [e2]; exact hN
    · by_cases e3 : w = .laysStatic Bundle.tN "UNASSIGNED_STACK" Bundle.steD
      · rw [e3]; exact lU
      · by_cases e4 : w = .laysStatic Bundle.tN "SUPPRESSED_SENTINEL" Bundle.listD
        · rw [e4]; exact lN
        · exact h1 w (List.mem_filter.mpr ⟨hw, by unfold vx_no; rw [decide_eq_true e1, decide_eq_true e2, decide_eq_true e3, decide_eq_true e4]; rfl⟩)
/-- where a static field lies, its class's statics cell in H -/
def vx_L (C n d : String) (A : Nat → Prop) (U : State) (H : Heap) : Prop := ∃ (c : ClassId) (k : Class) (i : Nat) (f : Field) (a : Nat) (cell : Cell), U.vm.findClass C = some c ∧ U.fieldFound? C n d = some (c, k, i, f) ∧ f.isStatic = true ∧ k.statics = some a ∧ H[a]? = some cell ∧ cell.vm.isStatics = true ∧ cell.cls = c ∧ f.slot < cell.slots.size ∧ k.staticTypes[f.slot]? = some f.type ∧ ¬ A a
theorem vx_L.moved {C n d : String} {A : Nat → Prop} {u U : State} {H : Heap} (hvm : u.vm.Alike U.vm) (h : vx_L C n d A u H) : vx_L C n d A U H := by
  obtain ⟨c, k, i, f, a, cell, h1, h2, h3, h4, h5, h6, h7, h8, h9, h10⟩ := h
  obtain ⟨k', hi', he⟩ := State.fieldFound?_setVm hvm h2
  exact ⟨c, k', i, f, a, cell, by rw [hvm.findClass]; exact h1, hi', h3, by rw [he]; exact h4, h5, h6, h7, h8, by rw [he]; exact h9, h10⟩
theorem vx_L.kept {C n d : String} {A : Nat → Prop} {U : State} {H H1 : Heap} (h : vx_L C n d A U H) (hq : ∀ a : Nat, a < H.size → ¬ A a → H1[a]? = H[a]?) : vx_L C n d A U H1 := by
  obtain ⟨c, k, i, f, a, cell, h1, h2, h3, h4, h5, h6, h7, h8, h9, h10⟩ := h
  exact ⟨c, k, i, f, a, cell, h1, h2, h3, h4, by rw [hq a (Array.getElem?_eq_some_iff.mp h5).1 h10]; exact h5, h6, h7, h8, h9, h10⟩
theorem vx_L.narrow {C n d : String} {A B : Nat → Prop} {U : State} {H : Heap} (h : vx_L C n d A U H) (hAB : ∀ q, B q → A q) : vx_L C n d B U H := by
  obtain ⟨c, k, i, f, a, cell, h1, h2, h3, h4, h5, h6, h7, h8, h9, h10⟩ := h
  exact ⟨c, k, i, f, a, cell, h1, h2, h3, h4, h5, h6, h7, h8, h9, fun z => h10 (hAB _ z)⟩
theorem vx_L.word {C n d : String} {A : Nat → Prop} {s : State} {args : Array Value} (h : vx_L C n d A s s.heap) : (Cond.laysStatic C n d).before args s = true := by
  obtain ⟨c, k, i, f, a, cell, h1, h2, h3, h4, h5, h6, h7, h8, h9, -⟩ := h
  show (Cond.laysStatic C n d).holds args s none s [] = true
  exact Cond.laysStatic_of h1 h2 h3 h4 h5 h6 h7 h8 h9
/-- .. and what it holds: null or some reference -/
def vx_Zq (C n d : String) (A : Nat → Prop) (U : State) (H : Heap) : Prop := va_Zq C n d A U H ∧ vx_L C n d A U H
theorem vx_Zq.moved {C n d : String} {A : Nat → Prop} {u U : State} {H : Heap} (hvm : u.vm.Alike U.vm) (h : vx_Zq C n d A u H) : vx_Zq C n d A U H := ⟨va_Zq.moved hvm h.1, vx_L.moved hvm h.2⟩
theorem vx_Zq.kept {C n d : String} {A : Nat → Prop} {U : State} {H H1 : Heap} (h : vx_Zq C n d A U H) (hq : ∀ a : Nat, a < H.size → ¬ A a → H1[a]? = H[a]?) : vx_Zq C n d A U H1 := ⟨va_Zq.kept h.1 hq, vx_L.kept h.2 hq⟩
theorem vx_Zq.narrow {C n d : String} {A B : Nat → Prop} {U : State} {H : Heap} (h : vx_Zq C n d A U H) (hAB : ∀ q, B q → A q) : vx_Zq C n d B U H := ⟨va_Zq.narrow h.1 hAB, vx_L.narrow h.2 hAB⟩
theorem vx_Zqof {args : Array Value} {s : State} {C n d : String} {A : Nat → Prop} (hl : (Cond.laysStatic C n d).before args s = true) (hini : (Cond.initialized C).before args s = true) (h : (Cond.isRef (.static C n d)).before args s = true) (hA : ∀ a : Nat, a < s.heap.size → ¬ A a) : vx_Zq C n d A s s.heap := by
  refine ⟨va_Zqof hl hini h hA, ?_⟩
  obtain ⟨c, k, i, f, a, cell, h1, h2, h3, h4, h5, h6, h7, h8, h9⟩ := Cond.laysStatic_spec hl
  exact ⟨c, k, i, f, a, cell, h1, h2, h3, h4, h5, h6, h7, h8, h9, hA a (Array.getElem?_eq_some_iff.mp h5).1⟩
theorem vx_isRef {C n d : String} {v : Value} {A : Nat → Prop} {s : State} {args : Array Value} (h : va_Z C n d v A s s.heap) (hv : v.isRef = true) : (Cond.isRef (.static C n d)).before args s = true := by
  obtain ⟨cf, kf, fi, f, a, cell, h1, h2, h3, h4, h5, h6, h7, -⟩ := h
  have he : (Term.static C n d).eval args s none [] s = some v := by
    simp [Term.eval, State.fieldNamed?, h1, h2, h4, h5, h6, h7]
  simp only [Cond.before, Cond.holds, Cond.value, he]
  cases v <;> simp_all [Value.isRef]
theorem vx_isRefq {C n d : String} {A : Nat → Prop} {s : State} {args : Array Value} (h : va_Zq C n d A s s.heap) : (Cond.isRef (.static C n d)).before args s = true := by
  rcases h with h | ⟨t, h⟩
  · exact vx_isRef h rfl
  · exact vx_isRef h rfl
/-- the same frame, seen from here: as if the method were called anew in this heap -/
theorem vx_rebase {T : State} (X : Stand p l e R s m args below meth c T locs cells slots) {R' : Room} (hf : R'.frames ≤ R.frames) (hl : R'.locals ≤ R.locals) (hc : cells + R'.cells ≤ R.cells) (hs : slots + R'.slots ≤ R.slots) :
    Stand p l e R' ((T.setVm s.vm).setFrames (.invoking m args :: below)) m args below meth c T [] 0 0 := by
  have htop : (T.setVm s.vm).topJava?.isSome := X.here.top
  have hF : ((T.setVm s.vm).setFrames (.invoking m args :: below)).frames = .invoking m args :: below := State.frames_setFrames _ (State.cur_lt_of_top htop)
  obtain ⟨g₀, hg0⟩ := Option.isSome_iff_exists.mp htop
  obtain ⟨r, hr⟩ := State.topJava?_eq_some.mp hg0
  have hl9 : e.platform.stackLimits (T.setVm s.vm).me = e.platform.stackLimits s.me := X.limits
  have hb9 : (T.setVm s.vm).me.stackBytes = s.me.stackBytes := X.bytes
  refine ⟨X.admits, X.cas, X.clock, hF, ?_, X.hears, X.method, X.code, X.here, X.tail, X.warmed, ?_, ?_, ?_⟩
  · have h := X.room
    have hU : ((T.setVm s.vm).setFrames (.invoking m args :: below)).localsInUse = s.localsInUse := by
      rw [State.localsInUse_invoking hF (meth := meth) (c := c) X.method X.code, State.localsInUse_invoking X.frames X.method X.code]
    simp only [State.hasRoom, Bool.and_eq_true, decide_eq_true_eq] at h ⊢
    obtain ⟨⟨⟨⟨h1, h2, h3, h4, h5, h6⟩, h7⟩, h8⟩, h9⟩ := h
    rw [X.frames, List.length_cons] at h2 h3
    have q1 := X.heapSize
    have q2 := X.used
    simp only [hF, hU, List.length_cons, State.stackLimits_setFrames, State.stackBytes_setFrames, hl9, hb9]
    refine ⟨⟨⟨⟨by omega, by omega, by omega, by omega, by omega, h6⟩, ?_⟩, ?_⟩, X.book⟩
    · show T.heap.size + R'.cells ≤ e.platform.maxCells
      omega
    · show T.slotsUsed + R'.slots ≤ e.platform.maxSlots
      omega
  · rw [State.stackLimits_setFrames]; rfl
  · rw [State.stackBytes_setFrames]; rfl
  · refine ⟨?_, Nat.le_refl _, Nat.le_refl _, ?_, ?_, fun a c9 h9 => ⟨c9, h9, rfl, rfl, fun _ _ => rfl⟩⟩
    · obtain ⟨t, ht, -⟩ := State.frames_cons hr
      show T.setVm s.vm = { ((T.setVm s.vm).setFrames (.invoking m args :: below)).setFrames (T.setVm s.vm).frames with heap := T.heap, slotsUsed := T.slotsUsed }
      rw [State.setFrames_setFrames, State.setFrames_self ht]
      rfl
    · show T.slotsUsed = T.slotsUsed + ((T.heap.toList.drop T.heap.size).map (·.slots.size)).sum
      rw [List.drop_eq_nil_of_le (Nat.le_of_eq Array.length_toList)]
      rfl
    · show ((T.heap.toList.drop T.heap.size).map (·.slots.size)).sum ≤ 0
      rw [List.drop_eq_nil_of_le (Nat.le_of_eq Array.length_toList)]
      exact Nat.le_refl _
/-- 'throw new E()': new; dup; invokespecial; athrow -/
theorem vx_throw0 {cc : ByteArray} {pc : Nat} (hexec : p.tables.exec = Jvm.exec) (hb : c.code = cc) (hl : l.stackTraces = false) {own cls : String} {names : List String} {ik ic mc ms : Nat} {A : Nat → Prop}
    (hown : s.vm.findClass own = some m.cls) (hcls : Bundle.fit cls = true) (hnames : ∀ n ∈ names, Bundle.fit n = true)
    (hk : (Cond.classLink own ik cls).before args s = true) (hini : (Cond.initialized cls).before args s = true) (hat : ∀ w ∈ vx_at0 own ic cls names, w.before args s = true)
    (hgood : ∀ w ∈ Cond.classLink own ik cls :: Cond.initialized cls :: vx_at0 own ic cls names, vx_ot w = true)
    (hU : vx_Zq Bundle.tN "UNASSIGNED_STACK" Bundle.steD A s s.heap) (hN : vx_Zq Bundle.tN "SUPPRESSED_SENTINEL" Bundle.listD A s s.heap) (hS : va_S A s.heap H locs) (hsize : ls.size = c.maxLocals)
    (d0 : decode cc pc = .ok (.new ik, 3)) (d3 : decode cc (pc + 3) = .ok (.dup, 1)) (d4 : decode cc (pc + 4) = .ok (.invokespecial ic, 3)) (d7 : decode cc (pc + 7) = .ok (.athrow, 1))
    (hout : ∀ x ∈ c.exceptionTable.toList, covers x (pc + 7) = false)
    (hRframes : names.length + 3 < R.frames) (hRlocals : (rest.map fun v => v.category).sum + (13 * (names.length + 1) + 42) ≤ R.locals) (hRcells : cells + 1 ≤ R.cells) (hRslots : slots + 6 ≤ R.slots) (hlocks : meth.locks = false)
    (hx : ∀ t : State, s.vm.Alike t.vm → H.size ≤ t.heap.size → (∀ q : Nat, q < H.size → t.heap[q]? = H[q]?) → XC cls s t)
    (hf : ∀ z ∈ locs, free z.base) (hc : cells + 1 ≤ mc) (hs : slots + 6 ≤ ms) :
    W p l e R s m args below meth c H locs cells slots (vx_MQ below Qc XC args s mc ms free) (F0 m pc ls rest) := by
  intro T hT X
  have htr : e.platform.stackTraces = false := (show e.platform.stackTraces = l.stackTraces by rw [X.admits.platform]).trans hl
  have Y := vx_rebase X (R' := { frames := R.frames, locals := R.locals, cells := 1, slots := 6 }) (Nat.le_refl _) (Nat.le_refl _) hRcells hRslots
  obtain ⟨s', hA⟩ : ∃ z, z = (T.setVm s.vm).setFrames (.invoking m args :: below) := ⟨_, rfl⟩
  rw [← hA] at Y
  have hvm : s'.vm = s.vm := by rw [hA]; rfl
  have hhp : s'.heap = H := by rw [hA]; exact hT
  have hW0 : s.WarmedH s'.vm := by rw [hvm]; exact State.WarmedH.refl s
  have hat' : ∀ w ∈ vx_at0 own ic cls names, w.before args s' = true := fun w hw => vx_ot_at hW0 hvm.symm (hgood w (List.mem_cons_of_mem _ (List.mem_cons_of_mem _ hw))) (hat w hw)
  have hk' : (Cond.classLink own ik cls).before args s' = true := vx_ot_at hW0 hvm.symm (hgood _ List.mem_cons_self) hk
  have hini' : (Cond.initialized cls).before args s' = true := vx_ot_at hW0 hvm.symm (hgood _ (List.mem_cons_of_mem _ List.mem_cons_self)) hini
  have hU' : vx_Zq Bundle.tN "UNASSIGNED_STACK" Bundle.steD A s' s'.heap := by rw [hhp]; exact vx_Zq.moved hW0.alike (hU.kept hS.2.1)
  have hN' : vx_Zq Bundle.tN "SUPPRESSED_SENTINEL" Bundle.listD A s' s'.heap := by rw [hhp]; exact vx_Zq.moved hW0.alike (hN.kept hS.2.1)
  have h : ∀ w ∈ Bundle.ownAtoms0 own ic cls names, w.before args s' = true := vx_own hat' (vx_isRefq hU'.1) (vx_isRefq hN'.1) hU'.2.word hN'.2.word
  have hown' : s'.vm.findClass own = some m.cls := by rw [hvm]; exact hown
  have hins : (Cond.instantiable cls 6).before args s' = true := h _ (by simp [Bundle.ownAtoms0])
  obtain ⟨vm₁, cX, kX, hfX, hkX, -, -, X₁, st1⟩ := Y.newCold hexec (own := own) (C := cls) (index := ik) (n := 6) hown' hk' hins hini'
    (g := F0 m pc ls rest) rfl (by rw [hb]; exact d0) (Nat.le_refl _) (Nat.le_refl _)
  generalize hT1 : (T.setVm vm₁).pushCell { cls := cX, slots := kX.instanceTypes.map defaultValue, vm := .none } = T1 at X₁ st1
  have hcat : (Value.ref T.heap.size).category = 1 := rfl
  have hcellA : T1.heap[T.heap.size]? = some (freshCell cX kX) := by rw [← hT1]; exact State.heap_pushCell_size _ _
  have d3' : decode c.code (pc + 3) = .ok (.dup, 1) := by rw [hb]; exact d3
  obtain ⟨U, hsteps, hrun, hend, hW, hsame, ce, hce, hO⟩ := X₁.ctorThrow0 hexec htr (own := own) (cls := cls) (names := names) (ic := ic) hown' hcls hnames h (fun x hx => nomatch hx) hfX hkX hcellA (by rw [hhp, hT]; exact Nat.le_refl _)
    (g := { method := m, pc := pc + 4, locals := ls, stack := .ref T.heap.size :: .ref T.heap.size :: rest, locked := none }) rfl hsize rfl rfl (rest := rest) rfl
    (by rw [hb]; exact d4) (by rw [hb]; exact d7) hout hRframes (by simp only [List.map_cons, List.sum_cons, hcat]; omega) hlocks
  obtain ⟨f1, f2⟩ := vx_frame hsame
  rw [hhp] at f1 f2
  have hWs : s.WarmedH U.vm := State.WarmedH.trans hW0 hW
  have hcl : s.vm.findClass cls = some ce.cls := by
    have h9 := hO.cls
    rw [hvm] at h9
    exact h9
  have hall : s.sameButNew ({ U with vm := s.vm } : State) locs mc ms := by
    subst hA
    obtain ⟨e1, e2⟩ := hsame
    rw [State.setFrames_setFrames] at e1
    have h2 : (T.setVm s.vm).sameButNew ({ U with vm := s.vm } : State) [] (0 + 1) (0 + 6) := ⟨e1, e2⟩
    have h3 := X.same.trans h2
    rw [List.append_nil] at h3
    exact h3.mono hc hs
  refine ⟨U, ?_, .threw T.heap.size, hrun, hend, Or.inr ⟨T.heap.size, rfl, cls, ce, locs, hx U hWs.alike f1 (fun q hq => f2 q hq (fun z hz => nomatch hz)), hce, hO.vm, hcl, hWs, hall, hf⟩⟩
  refine st1 _ ?_
  show Steps p.tables e below (T1.setTop { method := m, pc := pc + 3, locals := ls, stack := .ref T.heap.size :: rest, locked := none }) _
  jvm_step X₁.here [X₁.here.top, hexec, d3', Value.category]
  exact hsteps
/-- 'throw new E("text")': new; dup; ldc; invokespecial; athrow -/
theorem vx_throwS {cc : ByteArray} {pc : Nat} (hexec : p.tables.exec = Jvm.exec) (hb : c.code = cc) (hl : l.stackTraces = false) {own cls text : String} {names : List String} {ik is ic mc ms sa : Nat} {A : Nat → Prop}
    (hown : s.vm.findClass own = some m.cls) (hcls : Bundle.fit cls = true) (hnames : ∀ n ∈ names, Bundle.fit n = true)
    (hk : (Cond.classLink own ik cls).before args s = true) (hini : (Cond.initialized cls).before args s = true) (hstr : vk_R own is text sa s) (hat : ∀ w ∈ vx_atS own ic cls names, w.before args s = true)
    (hgood : ∀ w ∈ Cond.classLink own ik cls :: Cond.initialized cls :: vx_atS own ic cls names, vx_ot w = true)
    (hU : vx_Zq Bundle.tN "UNASSIGNED_STACK" Bundle.steD A s s.heap) (hN : vx_Zq Bundle.tN "SUPPRESSED_SENTINEL" Bundle.listD A s s.heap) (hS : va_S A s.heap H locs) (hsize : ls.size = c.maxLocals)
    (d0 : decode cc pc = .ok (.new ik, 3)) (d3 : decode cc (pc + 3) = .ok (.dup, 1)) (d4 : decode cc (pc + 4) = .ok (.ldc is, 2)) (d6 : decode cc (pc + 6) = .ok (.invokespecial ic, 3)) (d9 : decode cc (pc + 9) = .ok (.athrow, 1))
    (hout : ∀ x ∈ c.exceptionTable.toList, covers x (pc + 9) = false)
    (hRframes : names.length + 3 < R.frames) (hRlocals : (rest.map fun v => v.category).sum + (13 * (names.length + 1) + 43) ≤ R.locals) (hRcells : cells + 1 ≤ R.cells) (hRslots : slots + 6 ≤ R.slots) (hlocks : meth.locks = false)
    (hx : ∀ t : State, s.vm.Alike t.vm → H.size ≤ t.heap.size → (∀ q : Nat, q < H.size → t.heap[q]? = H[q]?) → XC cls s t)
    (hf : ∀ z ∈ locs, free z.base) (hc : cells + 1 ≤ mc) (hs : slots + 6 ≤ ms) :
    W p l e R s m args below meth c H locs cells slots (vx_MQ below Qc XC args s mc ms free) (F0 m pc ls rest) := by
  intro T hT X
  have htr : e.platform.stackTraces = false := (show e.platform.stackTraces = l.stackTraces by rw [X.admits.platform]).trans hl
  have Y := vx_rebase X (R' := { frames := R.frames, locals := R.locals, cells := 1, slots := 6 }) (Nat.le_refl _) (Nat.le_refl _) hRcells hRslots
  obtain ⟨s', hA⟩ : ∃ z, z = (T.setVm s.vm).setFrames (.invoking m args :: below) := ⟨_, rfl⟩
  rw [← hA] at Y
  have hvm : s'.vm = s.vm := by rw [hA]; rfl
  have hhp : s'.heap = H := by rw [hA]; exact hT
  have hW0 : s.WarmedH s'.vm := by rw [hvm]; exact State.WarmedH.refl s
  have hat' : ∀ w ∈ vx_atS own ic cls names, w.before args s' = true := fun w hw => vx_ot_at hW0 hvm.symm (hgood w (List.mem_cons_of_mem _ (List.mem_cons_of_mem _ hw))) (hat w hw)
  have hk' : (Cond.classLink own ik cls).before args s' = true := vx_ot_at hW0 hvm.symm (hgood _ List.mem_cons_self) hk
  have hini' : (Cond.initialized cls).before args s' = true := vx_ot_at hW0 hvm.symm (hgood _ (List.mem_cons_of_mem _ List.mem_cons_self)) hini
  have hU' : vx_Zq Bundle.tN "UNASSIGNED_STACK" Bundle.steD A s' s'.heap := by rw [hhp]; exact vx_Zq.moved hW0.alike (hU.kept hS.2.1)
  have hN' : vx_Zq Bundle.tN "SUPPRESSED_SENTINEL" Bundle.listD A s' s'.heap := by rw [hhp]; exact vx_Zq.moved hW0.alike (hN.kept hS.2.1)
  have h : ∀ w ∈ Bundle.ownAtoms own ic cls names, w.before args s' = true := vx_own hat' (vx_isRefq hU'.1) (vx_isRefq hN'.1) hU'.2.word hN'.2.word
  have hown' : s'.vm.findClass own = some m.cls := by rw [hvm]; exact hown
  have hins : (Cond.instantiable cls 6).before args s' = true := h _ (by simp [Bundle.ownAtoms])
  obtain ⟨vm₁, cX, kX, hfX, hkX, -, -, X₁, st1⟩ := Y.newCold hexec (own := own) (C := cls) (index := ik) (n := 6) hown' hk' hins hini'
    (g := F0 m pc ls rest) rfl (by rw [hb]; exact d0) (Nat.le_refl _) (Nat.le_refl _)
  generalize hT1 : (T.setVm vm₁).pushCell { cls := cX, slots := kX.instanceTypes.map defaultValue, vm := .none } = T1 at X₁ st1
  have hcat : (Value.ref T.heap.size).category = 1 := rfl
  have hcellA : T1.heap[T.heap.size]? = some (freshCell cX kX) := by rw [← hT1]; exact State.heap_pushCell_size _ _
  have d3' : decode c.code (pc + 3) = .ok (.dup, 1) := by rw [hb]; exact d3
  have d4' : decode c.code (pc + 4) = .ok (.ldc is, 2) := by rw [hb]; exact d4
  have hstr' : vk_R own is text sa s' := vk_R.warm hW0 hstr
  obtain ⟨U, hsteps, hrun, hend, hW, hsame, ce, hce, hO⟩ := X₁.ctorThrowS hexec htr (own := own) (cls := cls) (names := names) (ic := ic) hown' hcls hnames h (fun x hx => nomatch hx) hfX hkX hcellA (by rw [hhp, hT]; exact Nat.le_refl _) (msg := .ref sa) rfl
    (g := { method := m, pc := pc + 6, locals := ls, stack := .ref sa :: .ref T.heap.size :: .ref T.heap.size :: rest, locked := none }) rfl hsize rfl rfl (rest := rest) rfl
    (by rw [hb]; exact d6) (by rw [hb]; exact d9) hout hRframes (by simp only [List.map_cons, List.sum_cons, hcat]; omega) hlocks
  obtain ⟨f1, f2⟩ := vx_frame hsame
  rw [hhp] at f1 f2
  have hWs : s.WarmedH U.vm := State.WarmedH.trans hW0 hW
  have hcl : s.vm.findClass cls = some ce.cls := by
    have h9 := hO.cls
    rw [hvm] at h9
    exact h9
  have hall : s.sameButNew ({ U with vm := s.vm } : State) locs mc ms := by
    subst hA
    obtain ⟨e1, e2⟩ := hsame
    rw [State.setFrames_setFrames] at e1
    have h2 : (T.setVm s.vm).sameButNew ({ U with vm := s.vm } : State) [] (0 + 1) (0 + 6) := ⟨e1, e2⟩
    have h3 := X.same.trans h2
    rw [List.append_nil] at h3
    exact h3.mono hc hs
  refine ⟨U, ?_, .threw T.heap.size, hrun, hend, Or.inr ⟨T.heap.size, rfl, cls, ce, locs, hx U hWs.alike f1 (fun q hq => f2 q hq (fun z hz => nomatch hz)), hce, hO.vm, hcl, hWs, hall, hf⟩⟩
  refine st1 _ ?_
  show Steps p.tables e below (T1.setTop { method := m, pc := pc + 3, locals := ls, stack := .ref T.heap.size :: rest, locked := none }) _
  jvm_step X₁.here [X₁.here.top, hexec, d3', Value.category]
  exact X₁.ldcString hexec (own := own) (text := text) (index := is) (a := sa) hown' hstr'.1 hstr'.2
    (g := { method := m, pc := pc + 4, locals := ls, stack := .ref T.heap.size :: .ref T.heap.size :: rest, locked := none }) rfl d4' _ hsteps
/-- 'throw new E("text")', the text by a wide index -/
theorem vx_throwSW {cc : ByteArray} {pc : Nat} (hexec : p.tables.exec = Jvm.exec) (hb : c.code = cc) (hl : l.stackTraces = false) {own cls text : String} {names : List String} {ik is ic mc ms sa : Nat} {A : Nat → Prop}
    (hown : s.vm.findClass own = some m.cls) (hcls : Bundle.fit cls = true) (hnames : ∀ n ∈ names, Bundle.fit n = true)
    (hk : (Cond.classLink own ik cls).before args s = true) (hini : (Cond.initialized cls).before args s = true) (hstr : vk_R own is text sa s) (hat : ∀ w ∈ vx_atS own ic cls names, w.before args s = true)
    (hgood : ∀ w ∈ Cond.classLink own ik cls :: Cond.initialized cls :: vx_atS own ic cls names, vx_ot w = true)
    (hU : vx_Zq Bundle.tN "UNASSIGNED_STACK" Bundle.steD A s s.heap) (hN : vx_Zq Bundle.tN "SUPPRESSED_SENTINEL" Bundle.listD A s s.heap) (hS : va_S A s.heap H locs) (hsize : ls.size = c.maxLocals)
    (d0 : decode cc pc = .ok (.new ik, 3)) (d3 : decode cc (pc + 3) = .ok (.dup, 1)) (d4 : decode cc (pc + 4) = .ok (.ldc_w is, 3)) (d7 : decode cc (pc + 7) = .ok (.invokespecial ic, 3)) (d10 : decode cc (pc + 10) = .ok (.athrow, 1))
    (hout : ∀ x ∈ c.exceptionTable.toList, covers x (pc + 10) = false)
    (hRframes : names.length + 3 < R.frames) (hRlocals : (rest.map fun v => v.category).sum + (13 * (names.length + 1) + 43) ≤ R.locals) (hRcells : cells + 1 ≤ R.cells) (hRslots : slots + 6 ≤ R.slots) (hlocks : meth.locks = false)
    (hx : ∀ t : State, s.vm.Alike t.vm → H.size ≤ t.heap.size → (∀ q : Nat, q < H.size → t.heap[q]? = H[q]?) → XC cls s t)
    (hf : ∀ z ∈ locs, free z.base) (hc : cells + 1 ≤ mc) (hs : slots + 6 ≤ ms) :
    W p l e R s m args below meth c H locs cells slots (vx_MQ below Qc XC args s mc ms free) (F0 m pc ls rest) := by
  intro T hT X
  have htr : e.platform.stackTraces = false := (show e.platform.stackTraces = l.stackTraces by rw [X.admits.platform]).trans hl
  have Y := vx_rebase X (R' := { frames := R.frames, locals := R.locals, cells := 1, slots := 6 }) (Nat.le_refl _) (Nat.le_refl _) hRcells hRslots
  obtain ⟨s', hA⟩ : ∃ z, z = (T.setVm s.vm).setFrames (.invoking m args :: below) := ⟨_, rfl⟩
  rw [← hA] at Y
  have hvm : s'.vm = s.vm := by rw [hA]; rfl
  have hhp : s'.heap = H := by rw [hA]; exact hT
  have hW0 : s.WarmedH s'.vm := by rw [hvm]; exact State.WarmedH.refl s
  have hat' : ∀ w ∈ vx_atS own ic cls names, w.before args s' = true := fun w hw => vx_ot_at hW0 hvm.symm (hgood w (List.mem_cons_of_mem _ (List.mem_cons_of_mem _ hw))) (hat w hw)
  have hk' : (Cond.classLink own ik cls).before args s' = true := vx_ot_at hW0 hvm.symm (hgood _ List.mem_cons_self) hk
  have hini' : (Cond.initialized cls).before args s' = true := vx_ot_at hW0 hvm.symm (hgood _ (List.mem_cons_of_mem _ List.mem_cons_self)) hini
  have hU' : vx_Zq Bundle.tN "UNASSIGNED_STACK" Bundle.steD A s' s'.heap := by rw [hhp]; exact vx_Zq.moved hW0.alike (hU.kept hS.2.1)
  have hN' : vx_Zq Bundle.tN "SUPPRESSED_SENTINEL" Bundle.listD A s' s'.heap := by rw [hhp]; exact vx_Zq.moved hW0.alike (hN.kept hS.2.1)
  have h : ∀ w ∈ Bundle.ownAtoms own ic cls names, w.before args s' = true := vx_own hat' (vx_isRefq hU'.1) (vx_isRefq hN'.1) hU'.2.word hN'.2.word
  have hown' : s'.vm.findClass own = some m.cls := by rw [hvm]; exact hown
  have hins : (Cond.instantiable cls 6).before args s' = true := h _ (by simp [Bundle.ownAtoms])
  obtain ⟨vm₁, cX, kX, hfX, hkX, -, -, X₁, st1⟩ := Y.newCold hexec (own := own) (C := cls) (index := ik) (n := 6) hown' hk' hins hini'
    (g := F0 m pc ls rest) rfl (by rw [hb]; exact d0) (Nat.le_refl _) (Nat.le_refl _)
  generalize hT1 : (T.setVm vm₁).pushCell { cls := cX, slots := kX.instanceTypes.map defaultValue, vm := .none } = T1 at X₁ st1
  have hcat : (Value.ref T.heap.size).category = 1 := rfl
  have hcellA : T1.heap[T.heap.size]? = some (freshCell cX kX) := by rw [← hT1]; exact State.heap_pushCell_size _ _
  have d3' : decode c.code (pc + 3) = .ok (.dup, 1) := by rw [hb]; exact d3
  have d4' : decode c.code (pc + 4) = .ok (.ldc_w is, 3) := by rw [hb]; exact d4
  have hstr' : vk_R own is text sa s' := vk_R.warm hW0 hstr
  obtain ⟨U, hsteps, hrun, hend, hW, hsame, ce, hce, hO⟩ := X₁.ctorThrowS hexec htr (own := own) (cls := cls) (names := names) (ic := ic) hown' hcls hnames h (fun x hx => nomatch hx) hfX hkX hcellA (by rw [hhp, hT]; exact Nat.le_refl _) (msg := .ref sa) rfl
    (g := { method := m, pc := pc + 7, locals := ls, stack := .ref sa :: .ref T.heap.size :: .ref T.heap.size :: rest, locked := none }) rfl hsize rfl rfl (rest := rest) rfl
    (by rw [hb]; exact d7) (by rw [hb]; exact d10) hout hRframes (by simp only [List.map_cons, List.sum_cons, hcat]; omega) hlocks
  obtain ⟨f1, f2⟩ := vx_frame hsame
  rw [hhp] at f1 f2
  have hWs : s.WarmedH U.vm := State.WarmedH.trans hW0 hW
  have hcl : s.vm.findClass cls = some ce.cls := by
    have h9 := hO.cls
    rw [hvm] at h9
    exact h9
  have hall : s.sameButNew ({ U with vm := s.vm } : State) locs mc ms := by
    subst hA
    obtain ⟨e1, e2⟩ := hsame
    rw [State.setFrames_setFrames] at e1
    have h2 : (T.setVm s.vm).sameButNew ({ U with vm := s.vm } : State) [] (0 + 1) (0 + 6) := ⟨e1, e2⟩
    have h3 := X.same.trans h2
    rw [List.append_nil] at h3
    exact h3.mono hc hs
  refine ⟨U, ?_, .threw T.heap.size, hrun, hend, Or.inr ⟨T.heap.size, rfl, cls, ce, locs, hx U hWs.alike f1 (fun q hq => f2 q hq (fun z hz => nomatch hz)), hce, hO.vm, hcl, hWs, hall, hf⟩⟩
  refine st1 _ ?_
  show Steps p.tables e below (T1.setTop { method := m, pc := pc + 3, locals := ls, stack := .ref T.heap.size :: rest, locked := none }) _
  jvm_step X₁.here [X₁.here.top, hexec, d3', Value.category]
  exact X₁.ldcStringW hexec (own := own) (text := text) (index := is) (a := sa) hown' hstr'.1 hstr'.2
    (g := { method := m, pc := pc + 4, locals := ls, stack := .ref T.heap.size :: .ref T.heap.size :: rest, locked := none }) rfl d4' _ hsteps
end Ends
section Bodies
variable {l : Launch}
theorem vx_ofW {y : MethodName} {ws ws' : List Cond} {rm : Room} {Pc : Array Value → State → Prop} {Qc : Array Value → State → Outcome → State → Prop} {XC : String → State → State → Prop} {mc ms : Nat} {free : Addr → Prop} {cc : ByteArray} {maxL : Nat} {ret : Option FieldType}
    (hy : plainName y.cls = true) (hw : ws = Cond.code y cc maxL ret :: ws')
    (body : ∀ p e s m args below meth c s₁, BodyLoose p l y (headSpec ws rm) cc maxL ret e s m args below meth c s₁ → c.maxLocals = maxL → (∀ x ∈ c.exceptionTable.toList, False) → Pc args s →
      W p l e (headSpec ws rm).room s m args below meth c s.heap [] 0 0 (vx_MQ below Qc XC args s mc ms free) (entryFrame m args maxL)) : vx_Met l y ws rm Pc Qc XC mc ms free := by
  refine MetFree.of_bodyS (code := cc) (maxLocals := maxL) (ret := ret) hy ?_ ?_
  · intro args s m h hn
    obtain ⟨meth, c, h1, h2, h3, h4, h5, h6, -, -⟩ := Cond.code_spec hn (atoms_spec (ws := ws) h _ (by rw [hw]; exact List.mem_cons_self))
    exact ⟨meth, c, h1, h2, h3, h4, h5, h6⟩
  · intro p e s m args below meth c s₁ B hml hP _
    have hh0 : s₁.heap = s.heap := by rw [B.state]; rfl
    have ht : ∀ x ∈ c.exceptionTable.toList, False := by
      obtain ⟨meth9, c9, h1, h2, -, -, -, -, h7, -⟩ := Cond.code_spec B.named (atoms_spec (ws := ws) B.pre _ (by rw [hw]; exact List.mem_cons_self))
      cases Option.some.inj (h1.symm.trans B.method)
      cases Option.some.inj (h2.symm.trans (Stand.of_body B).code)
      intro x hx
      rw [Array.isEmpty_iff.mp h7] at hx
      cases hx
    obtain ⟨t, a1, o, b1, b2, b3⟩ := body p e s m args below meth c s₁ B hml ht hP s₁ hh0 (Stand.of_body B)
    exact ⟨t, o, a1, b1, b2, b3⟩
/-- the table of a body with handlers -/
theorem vx_table {p : Program} {x y : MethodName} {S : Spec} {cc bytes : ByteArray} {maxL maxL' : Nat} {ret ret' : Option FieldType} {e : Env} {s s₁ : State} {m : MethodId} {args : Array Value} {below : List Frame} {meth : Method} {c : Code} {hh : List (Nat × Nat × Nat × Nat)}
    (B : BodyLoose p l y S cc maxL ret e s m args below meth c s₁) (h : (Cond.codeWith y bytes maxL' ret' hh).before args s = true) : c.exceptionTable.toList = tableOf hh := by
  obtain ⟨m9, meth9, c9, hn9, h1, h2, -, -, h6, -⟩ := Cond.codeWith_spec h
  cases Option.some.inj (hn9.symm.trans B.named)
  cases Option.some.inj (h1.symm.trans B.method)
  cases Option.some.inj (h2.symm.trans (Stand.of_body B).code)
  rw [← h6, table_eq]
end Bodies
end VXA
/-! ===== END ===== -/
/-! ===== BEGIN a static call of a method with an exception table ===== -/
section VXS
variable {p : Program} {l : Launch} {e : Env} {R : Room} {s : State} {m : MethodId} {args : Array Value} {below : List Frame} {meth : Method} {c : Code} {T : State} {H : Heap} {locs : List Loc} {cells slots : Nat}
abbrev vx_CSW (R : Room) (s : State) (args : Array Value) (own : String) (index : Nat) (y : MethodName) (bytes : ByteArray) (maxL : Nat) (ret : Option FieldType) (hh : List (Nat × Nat × Nat × Nat)) (ws : List Cond) (rm : Room) (mc ms n : Nat) : Prop :=
  (rm.cells = mc ∧ rm.slots = ms ∧ rm.frames + 1 ≤ R.frames ∧ 8 + (maxL + 11) + rm.locals ≤ R.locals ∧ (∀ w ∈ ws, ∀ (a' : Array Value) (U : State), s.WarmedH U.vm → w.before a' U = true) ∧ Cond.codeWith y bytes maxL ret hh ∈ ws) ∧
  (Cond.codeWith y bytes maxL ret hh).before args s = true ∧ (Cond.initialized y.cls).before args s = true ∧ (y.cls ≠ "java/lang/invoke/MethodHandle" ∧ y.cls ≠ "java/lang/invoke/VarHandle") ∧
  (∀ sig, parseMethodDescriptor y.desc = some sig → n = sig.parameters.length) ∧ (Cond.methodLink own index y).before args s = true ∧ (Cond.static y).before args s = true
theorem vx_cwSW {own : String} {index maxL mc ms : Nat} {y : MethodName} {bytes : ByteArray} {ret : Option FieldType} {hh : List (Nat × Nat × Nat × Nat)} {Ts ws ws' : List Cond} {rm : Room} (n : Nat) (ht : ∀ w ∈ Ts, w.before args s = true) (hT : GoodIn Ts (va_wsS own index y ws)) (hw : ws = Cond.codeWith y bytes maxL ret hh :: ws') (hrc : rm.cells = mc) (hrs : rm.slots = ms)
    (hd : y.cls ≠ "java/lang/invoke/MethodHandle" ∧ y.cls ≠ "java/lang/invoke/VarHandle" ∧ (parseMethodDescriptor y.desc).map (fun d => d.parameters.length) = some n) (hR : rm.frames + 1 ≤ R.frames ∧ 8 + (maxL + 11) + rm.locals ≤ R.locals) :
    vx_CSW R s args own index y bytes maxL ret hh ws rm mc ms n := by
  have ok : ∀ w ∈ va_wsS own index y ws, w.before args s = true := fun w h => ht w (hT w h).1
  have hG : GoodIn Ts ws := fun w h => hT w (by unfold va_wsS; exact List.mem_append_right _ h)
  have hc : Cond.codeWith y bytes maxL ret hh ∈ ws := by rw [hw]; exact List.mem_cons_self
  refine ⟨⟨hrc, hrs, hR.1, hR.2, pay_in ht hG, hc⟩, ht _ (hG _ hc).1, ok _ (by simp [va_wsS]), ⟨hd.1, hd.2.1⟩, fun sig h => ?_, ok _ (by simp [va_wsS]), ok _ (by simp [va_wsS])⟩
  have h2 := hd.2.2
  rw [h] at h2
  exact (Option.some.inj h2).symm
theorem vx_callSW (X : Stand p l e R s m args below meth c T locs cells slots) (hexec : p.tables.exec = Jvm.exec) {own : String} {index : Nat} {y : MethodName} {bytes : ByteArray} {maxL : Nat} {ret : Option FieldType} {hh : List (Nat × Nat × Nat × Nat)}
    (hown : s.vm.findClass own = some m.cls) (hlink : (Cond.methodLink own index y).before args s = true) (hstat : (Cond.static y).before args s = true) (hinit : (Cond.initialized y.cls).before args s = true)
    (hcode : (Cond.codeWith y bytes maxL ret hh).before args s = true) (hy : y.cls ≠ "java/lang/invoke/MethodHandle" ∧ y.cls ≠ "java/lang/invoke/VarHandle")
    {W9 : Nat} {Pre : Pt → Array Value → Prop} {Post : Pt → Array Value → Option Value → Pt → Prop} (hK : Back l R p e below s args y 3 W9 Pre Post)
    {g : JFrame} (hg : g.method = m) (hsize : g.locals.size = c.maxLocals) {argsL rest : List Value} (hlen : ∀ sig, parseMethodDescriptor y.desc = some sig → argsL.length = sig.parameters.length)
    (hstack : g.stack = argsL.reverse ++ rest) (hW : 2 * g.monitorRoom + (rest.map fun v => v.category).sum ≤ W9) (hdg : decode c.code g.pc = .ok (.invokestatic index, 3))
    (hpre : ∀ vm₁, s.WarmedH vm₁ → Pre ⟨T.setVm vm₁, locs, cells, slots⟩ argsL.toArray) :
    ∃ (v : Option Value) (vm₁ : Vm) (B : Pt), s.WarmedH vm₁ ∧ Stand p l e R s m args below meth c B.U B.locs B.cells B.slots ∧ Post ⟨T.setVm vm₁, locs, cells, slots⟩ argsL.toArray v B ∧
      ∀ target, Steps p.tables e below (B.U.setTop { g with pc := g.pc + 3, stack := v.toList ++ rest }) target → Steps p.tables e below (T.setTop g) target := by
  obtain ⟨mk, methM, cM, hnamed, hmethM, -, -, -, -, -, -, hsigM⟩ := Cond.codeWith_spec hcode
  have hstatic : methM.isStatic = true := Cond.static_spec hnamed hmethM hstat
  obtain ⟨kP, hkP, -⟩ := className_of_methodNamed hnamed
  have hinitP : kP.init = .initialized := Cond.initialized_spec (findClass_of_methodNamed hnamed) hkP hinit
  obtain ⟨vm₁, X₁, hstep₁⟩ := X.invokestatic hexec hown hlink hnamed hmethM hstatic hkP hinitP hy (g := g) hg (argsL := argsL) (rest := rest) (hlen _ hsigM) hstack hdg
  obtain ⟨v, B, X', hpost, hsteps⟩ := hK m meth c ⟨T.setVm vm₁, locs, cells, slots⟩ { g with stack := rest } (.invokestatic index) mk argsL.toArray X₁ hg hsize hdg hW (X₁.named hnamed) (hpre vm₁ X₁.warmed)
  exact ⟨v, vm₁, B, X₁.warmed, X', hpost, fun target h => hstep₁ _ fun acts => by rw [doInvoke_state]; exact hsteps.trans h⟩
theorem vx_runSW {y : MethodName} {bytes cc : ByteArray} {maxL nL mc ms n index : Nat} {ret : Option FieldType} {hh : List (Nat × Nat × Nat × Nat)} {ws : List Cond} {rm : Room} {Pc : Array Value → State → Prop} {Qc : Array Value → State → Outcome → State → Prop} {free : Addr → Prop} {Ts : List Cond} {own : String} {As rest : List Value} {g : JFrame}
    (S : CallFix p m c cc nL s args Ts own) (hM : Met l y ws rm Pc Qc mc ms free) (cw : vx_CSW R s args own index y bytes maxL ret hh ws rm mc ms n) (hp : PreS s H Pc As)
    (hg : g.method = m) (hn : As.length = n) (hsize : g.locals.size = nL) (hstack : g.stack = As.reverse ++ rest) (hW : 2 * g.monitorRoom + (rest.map fun v => v.category).sum ≤ 8) (hdg : decode cc g.pc = .ok (.invokestatic index, 3)) (hf : cells + mc ≤ R.cells ∧ slots + ms ≤ R.slots) :
    va_Run p l e R s m args below meth c H locs cells slots mc ms g rest (Qc As.toArray) (free) := by
  obtain ⟨⟨hrc, hrs, hfr, hlo, hws, hcw⟩, hcode, hini, hy, hlen, hl, hstt⟩ := cw
  have hK : Back l R p e below s args y 3 8 (PreOf R mc ms Pc) (PostOf Qc mc ms free) := va_backW (hh := hh) (bytes := bytes) (maxL := maxL) (ret := ret) hM hp.1 hrc hrs hfr hlo hws hcw (fun a' U hW => word_at hW (Or.inl (by first | rfl | simp [Cond.onTables, Cond.keeps, Cond.steady])) hini)
  obtain ⟨hx, hb, hml, ho, -⟩ := S
  intro T hT X
  obtain ⟨v, vm₁, ⟨U', l2, c2, s2⟩, hW₁, X', ⟨g', mk, t, L, e1, e2, hq, h1, hL, h2, h3⟩, st⟩ := vx_callSW X hx (hh := hh) (bytes := bytes) (maxL := maxL) (ret := ret) ho hl hstt hini hcode hy hK hg (hsize.trans hml.symm) (argsL := As) (rest := rest) (fun sig h => hn.trans (hlen sig h)) hstack hW (by rw [hb]; exact hdg)
    (fun vm₁ hW₁ => ⟨hf.1, hf.2, hp.2 (T.setVm vm₁) hT hW₁⟩)
  dsimp only [Pt.U, Pt.locs, Pt.cells, Pt.slots] at X' e1 e2 h1 h2 h3 st
  subst h1; subst h2; subst h3
  exact ⟨v, (T.setVm vm₁).calling g' mk As.toArray, t, U', L, hT, X', hL, e1, e2, hq, st⟩
/-- not caught here, past rows that name other classes: it goes on to the caller -/
theorem vx_outP {p : Program} {l : Launch} {e : Env} {R : Room} {s : State} {m : MethodId} {args : Array Value} {below : List Frame} {meth : Method} {c : Code} {H : Heap} {locs : List Loc} {cells slots : Nat} {free : Addr → Prop} {ls : Array Slot} {rest : List Value} {Qc : Array Value → State → Outcome → State → Prop} {XC : String → State → State → Prop}
    {pc : Nat} {own E : String} {ce : Cell} {q : Addr} {mc ms : Nat} (hown : s.vm.findClass own = some m.cls) (hlocks : meth.locks = false)
    (hpass : ∀ z ∈ c.exceptionTable.toList, covers z pc = false ∨ (z.catchType ≠ 0 ∧ ∃ nm : String, (Cond.classLink own z.catchType nm).before args s = true ∧ va_Nc E nm s)) (hcell : H[q]? = some ce) (hv : ce.vm = .none) (hcl : s.vm.findClass E = some ce.cls)
    (hx : ∀ t : State, t.heap = H → s.vm.Alike t.vm → XC E s t) (hf : ∀ z ∈ locs, free z.base) (hc : cells ≤ mc) (hs : slots ≤ ms) :
    vx_W p l e R s m args below meth c H locs cells slots (vx_MQ below Qc XC args s mc ms free) (F0 m pc ls rest) q := by
  intro T hT X
  have hpl : e.platform.magicAccessors = ({} : Platform).magicAccessors := by rw [X.admits.platform]
  obtain ⟨vm', hW', X', st⟩ := X.outThrough hlocks q (g := F0 m pc ls rest) rfl rfl rfl (cell := ce) (by rw [hT]; exact hcell) (by rw [hv]; rfl)
    (by obtain ⟨k9, h9, -⟩ := Vm.findClass_spec hcl; exact ⟨k9, h9⟩) (fun z hz => by
      rcases hpass z hz with h | ⟨hz0, nm, hl1, hn1⟩
      · exact Or.inl h
      · obtain ⟨c6, hc6, hcl6⟩ := Cond.classLink_spec hown hl1 e.platform hpl
        obtain ⟨a8, b8, h1, h2, h3⟩ := hn1
        cases Option.some.inj (h1.symm.trans hcl)
        cases Option.some.inj (h2.symm.trans hc6)
        exact Or.inr ⟨hz0, _, hcl6, h3⟩)
  obtain ⟨g₀, hfr⟩ := X'.frames_eq
  have hcell9 : ((T.setVm vm').setFrames (.throwing q :: below)).heap[q]? = some ce := by
    show T.heap[q]? = some ce
    rw [hT]; exact hcell
  have hend : Ended ((T.setVm vm').setFrames (.throwing q :: below)) below (.threw q) := State.frames_setFrames _ (State.cur_lt_of_frames hfr)
  refine ⟨(T.setVm vm').setFrames (.throwing q :: below), ?_, .threw q, X'.here.running, hend, Or.inr ⟨q, rfl, E, ce, locs, hx _ hT (X'.ends _).1.alike, hcell9, hv, hcl, (X'.ends _).1, (X'.ends _).2.mono hc hs, hf⟩⟩
  rw [X.pushThrowing_eq]
  exact st
/-- a thing of a world lies in the heap -/
theorem vx_lt {D : va_G} {cl : List vw_C} {ws : va_W} {H1 : Heap} (h : va_P D cl ws H1) {k : Nat} {q : Nat × va_E} (hk : ws[k]? = some q) : q.1 < H1.size := (h k q hk).lt
end VXS
/-! ===== END ===== -/
/-! ===== BEGIN methods with a table of their own: called by a name, returning or throwing ===== -/
section VXH
/-! vx_backW, vx_callVX, vx_callSX, vx_callVW, vx_runVW, vx_runVX, vx_runSX, vx_ofWH follow the same proofs as their sisters above (Free/Laws.lean, Shelf42/LK1.lean); vx_outP calls Shelf42/NT130.lean (outThrough). -/
section
variable {l : Launch} {R : Room} {p : Program} {e : Env} {below : List Frame} {s : State} {sargs : Array Value} {y : MethodName} {len W9 : Nat}
theorem vx_backW {ws : List Cond} {rm : Room} {Pc : Array Value → State → Prop} {Qc : Array Value → State → Outcome → State → Prop} {XC : String → State → State → Prop} {mc ms : Nat} {free : Addr → Prop} {bytes : ByteArray} {maxL : Nat} {ret : Option FieldType} {hh : List (Nat × Nat × Nat × Nat)}
    (hM : vx_Met l y ws rm Pc Qc XC mc ms free) (hblind : FrameBlind Pc) (hrc : rm.cells = mc) (hrs : rm.slots = ms)
    (hframes : rm.frames + 1 ≤ R.frames) (hlocals : W9 + (maxL + 11) + rm.locals ≤ R.locals)
    (hws : ∀ w ∈ ws, ∀ a' U, s.WarmedH U.vm → w.before a' U = true) (hcode : Cond.codeWith y bytes maxL ret hh ∈ ws) (hinit : ∀ a' U, s.WarmedH U.vm → (Cond.initialized y.cls).before a' U = true) :
    vx_Back l R p e below s sargs y len W9 (PreOf R mc ms Pc) (PostOf Qc mc ms free) (vx_Post XC mc ms free) := by
  intro m meth c A g ig mk a X hg hsize hdg hW hn hp
  have h1 : (headSpec ws rm).pre.before a A.U = true := atoms_intro fun w hw => hws w hw _ _ X.warmed
  have h2 : (Cond.codeWith y bytes maxL ret hh).before a A.U = true := hws _ hcode _ _ X.warmed
  have h3 : (Cond.initialized y.cls).before a A.U = true := hinit _ _ X.warmed
  have h4 : A.cells + (headSpec ws rm).room.cells ≤ R.cells := by rw [show (headSpec ws rm).room.cells = mc from hrc]; exact hp.1
  have h5 : A.slots + (headSpec ws rm).room.slots ≤ R.slots := by rw [show (headSpec ws rm).room.slots = ms from hrs]; exact hp.2.1
  have hPc : Pc a (A.U.calling g mk a) := hblind _ _ _ _ hp.2.2
  obtain ⟨U, Ls, c0, s0⟩ := A
  dsimp only [Pt.U, Pt.locs, Pt.cells, Pt.slots] at h1 h2 h3 h4 h5 X hn hPc ⊢
  obtain ⟨m9, methY, cY, hn9, hmY, hcY, -, hlY, -⟩ := Cond.codeWith_spec h2
  cases Option.some.inj (hn9.symm.trans hn)
  obtain ⟨kY, hkY, -⟩ := className_of_methodNamed hn
  have hinitY : kY.init = .initialized := Cond.initialized_spec (findClass_of_methodNamed hn) hkY h3
  have h : At U g.method c below := by rw [hg]; exact X.here
  have hlocals9 : W9 + (maxL + 11) + (headSpec ws rm).room.locals ≤ R.locals := hlocals
  have happ : (headSpec ws rm).appliesLoose y e.platform (U.calling g mk a) = true :=
    Spec.appliesLoose_calling (g := g) h hdg hn hkY hinitY
      (X.room_calling (g := g) (R' := (headSpec ws rm).room) hsize hmY hcY hframes (by rw [hlY]; omega) h4 h5) h1
  obtain ⟨mid, hmid⟩ := h.above
  have hfr : (U.setTop g).frames = (.java g :: mid) ++ below := by rw [State.frames_setTop' g h.top, hmid]; rfl
  obtain ⟨o, s₂, hsteps, -, hend, hq⟩ := Steps.callFree hM p X.admits X.cas X.clock (acts := []) hfr happ hPc trivial
  have hq' : vx_Q Qc XC mc ms free a (U.calling g mk a) o s₂ := hq
  rw [State.frames_setTop' g h.top] at hend
  obtain ⟨g₀, hg0⟩ := Option.isSome_iff_exists.mp h.top
  obtain ⟨r, hr⟩ := State.topJava?_eq_some.mp hg0
  have hr' : (({ U with heap := s₂.heap, slotsUsed := s₂.slotsUsed } : State).setVm s₂.vm).frames = .java g₀ :: r := hr
  rcases hq' with ⟨hqc, L, hfe, hL⟩ | ⟨q, rfl, E, ce, L, hx, hce, hcv, hcl, hW₂, hsm, hL⟩
  · obtain ⟨⟨v, rfl⟩, hW₂, e2, q2, q3, q4, q5, q6⟩ := id hfe
    have e3 : s₂ = ({ (U.calling g mk a).setFrames s₂.frames with heap := s₂.heap, slotsUsed := s₂.slotsUsed } : State).setVm s₂.vm := by
      have : s₂ = ({ s₂ with vm := (U.calling g mk a).vm } : State).setVm s₂.vm := rfl
      rw [e2] at this
      exact this
    obtain ⟨c₂, i₂, len₂, hc₂, hd₂, hf₂⟩ := hend
    have hW' : U.WarmedH s₂.vm := hW₂
    have hcc : c₂ = c := by
      have h1 : s₂.code? g.method = U.code? g.method := by
        rw [State.code?_eq, State.code?_eq, hW'.alike.method?]
      exact Option.some.inj (hc₂.symm.trans (h1.trans h.code))
    subst hcc
    have hlen : len₂ = len := by rw [hdg] at hd₂; cases hd₂; rfl
    subst hlen
    have hs₂ : s₂ = (({ U with heap := s₂.heap, slotsUsed := s₂.slotsUsed } : State).setVm s₂.vm).setTop { g with pc := g.pc + len₂, stack := v.toList ++ g.stack } := by
      refine e3.trans ?_
      rw [hf₂, State.calling_eq h.top, State.setFrames_setFrames, State.setTop_of_frames _ hr', hr]
      rfl
    have hsame : U.sameButNew ({ U with heap := s₂.heap, slotsUsed := s₂.slotsUsed } : State) L mc ms := by
      refine ⟨?_, q2, q3, q4, q5, q6⟩
      obtain ⟨t, ht, -⟩ := State.frames_cons hr
      show ({ U with heap := s₂.heap, slotsUsed := s₂.slotsUsed } : State) = { U.setFrames U.frames with heap := s₂.heap, slotsUsed := s₂.slotsUsed }
      rw [State.setFrames_self ht]
    subst hg
    refine Or.inl ⟨v, ⟨(({ U with heap := s₂.heap, slotsUsed := s₂.slotsUsed } : State).setVm s₂.vm), Ls ++ L, c0 + mc, s0 + ms⟩,
      ⟨X.admits, X.cas, X.clock, X.frames, X.room, X.hears, X.method, X.code, (X.here.setHeapUsed s₂.heap s₂.slotsUsed).setVm hW'.alike, X.tail, State.WarmedH.trans X.warmed hW', X.limits, X.bytes, X.same.trans (hsame.setVm s.vm)⟩,
      ⟨g, mk, s₂, L, rfl, rfl, hqc, rfl, hL, rfl, rfl⟩, ?_⟩
    show Steps p.tables e below _ ((({ U with heap := s₂.heap, slotsUsed := s₂.slotsUsed } : State).setVm s₂.vm).setTop { g with pc := g.pc + len₂, stack := v.toList ++ g.stack })
    rw [← hs₂]
    exact hsteps
  · obtain ⟨e2, q2, q3, q4, q5, q6⟩ := id hsm
    have e3 : s₂ = ({ (U.calling g mk a).setFrames s₂.frames with heap := s₂.heap, slotsUsed := s₂.slotsUsed } : State).setVm s₂.vm := by
      have : s₂ = ({ s₂ with vm := (U.calling g mk a).vm } : State).setVm s₂.vm := rfl
      rw [e2] at this
      exact this
    have hf₂ : s₂.frames = .throwing q :: .java g :: U.frames.tail := hend
    have hW' : U.WarmedH s₂.vm := hW₂
    have hs₂ : s₂ = ((({ U with heap := s₂.heap, slotsUsed := s₂.slotsUsed } : State).setVm s₂.vm).setTop g).pushFrame (.throwing q) := by
      refine e3.trans ?_
      rw [hf₂, State.calling_eq h.top, State.setFrames_setFrames, State.pushFrame, State.frames_setTop _ hr', State.setTop_of_frames _ hr', State.setFrames_setFrames, hr]
      rfl
    have hsame : U.sameButNew ({ U with heap := s₂.heap, slotsUsed := s₂.slotsUsed } : State) L mc ms := by
      refine ⟨?_, q2, q3, q4, q5, q6⟩
      obtain ⟨t, ht, -⟩ := State.frames_cons hr
      show ({ U with heap := s₂.heap, slotsUsed := s₂.slotsUsed } : State) = { U.setFrames U.frames with heap := s₂.heap, slotsUsed := s₂.slotsUsed }
      rw [State.setFrames_self ht]
    subst hg
    refine Or.inr ⟨q, ⟨(({ U with heap := s₂.heap, slotsUsed := s₂.slotsUsed } : State).setVm s₂.vm), Ls ++ L, c0 + mc, s0 + ms⟩,
      ⟨X.admits, X.cas, X.clock, X.frames, X.room, X.hears, X.method, X.code, (X.here.setHeapUsed s₂.heap s₂.slotsUsed).setVm hW'.alike, X.tail, State.WarmedH.trans X.warmed hW', X.limits, X.bytes, X.same.trans (hsame.setVm s.vm)⟩,
      ⟨g, mk, s₂, L, E, ce, rfl, rfl, hx, hce, hcv, hcl, rfl, hL, rfl, rfl⟩, ?_⟩
    show Steps p.tables e below _ (((({ U with heap := s₂.heap, slotsUsed := s₂.slotsUsed } : State).setVm s₂.vm).setTop g).pushFrame (.throwing q))
    rw [← hs₂]
    exact hsteps
end
variable {p : Program} {l : Launch} {e : Env} {R : Room} {s : State} {m : MethodId} {args : Array Value} {below : List Frame} {meth : Method} {c : Code} {T : State} {H : Heap} {locs : List Loc} {cells slots : Nat}
theorem vx_callVX (X : Stand p l e R s m args below meth c T locs cells slots) (hexec : p.tables.exec = Jvm.exec) {own C : String} {index : Nat} {y : MethodName} {bytes : ByteArray} {maxL : Nat} {ret : Option FieldType} {hh : List (Nat × Nat × Nat × Nat)}
    (hown : s.vm.findClass own = some m.cls) (hlink : (Cond.methodLink own index y).before args s = true) (hinst : (Cond.instanceMethod y).before args s = true) (hsel : (Cond.selects C y y).before args s = true)
    (hcode : (Cond.codeWith y bytes maxL ret hh).before args s = true) (hy : y.cls ≠ "java/lang/invoke/MethodHandle" ∧ y.cls ≠ "java/lang/invoke/VarHandle")
    {W9 : Nat} {Pre : Pt → Array Value → Prop} {Post : Pt → Array Value → Option Value → Pt → Prop} {PostX : Pt → Array Value → Addr → Pt → Prop} (hK : vx_Back l R p e below s args y 3 W9 Pre Post PostX)
    {b : Addr} {cellB : Cell} (hcell : T.heap[b]? = some cellB) (hobj : cellB.vm.isStatics = false) (hcls : s.vm.findClass C = some cellB.cls)
    {g : JFrame} (hg : g.method = m) (hsize : g.locals.size = c.maxLocals) {argsL rest : List Value} (hlen : ∀ sig, parseMethodDescriptor y.desc = some sig → argsL.length = sig.parameters.length)
    (hstack : g.stack = argsL.reverse ++ .ref b :: rest) (hW : 2 * g.monitorRoom + (rest.map fun v => v.category).sum ≤ W9) (hdg : decode c.code g.pc = .ok (.invokevirtual index, 3))
    (hpre : ∀ vm₁, s.WarmedH vm₁ → Pre ⟨T.setVm vm₁, locs, cells, slots⟩ (Value.ref b :: argsL).toArray) :
    (∃ (v : Option Value) (vm₁ : Vm) (B : Pt), s.WarmedH vm₁ ∧ Stand p l e R s m args below meth c B.U B.locs B.cells B.slots ∧ Post ⟨T.setVm vm₁, locs, cells, slots⟩ (Value.ref b :: argsL).toArray v B ∧
      ∀ target, Steps p.tables e below (B.U.setTop { g with pc := g.pc + 3, stack := v.toList ++ rest }) target → Steps p.tables e below (T.setTop g) target) ∨
    (∃ (q : Addr) (vm₁ : Vm) (B : Pt), s.WarmedH vm₁ ∧ Stand p l e R s m args below meth c B.U B.locs B.cells B.slots ∧ PostX ⟨T.setVm vm₁, locs, cells, slots⟩ (Value.ref b :: argsL).toArray q B ∧
      Steps p.tables e below (T.setTop g) ((B.U.setTop { g with stack := rest }).pushFrame (.throwing q))) := by
  obtain ⟨mk, methM, hnamed, hmethM, hstM, habM⟩ := Cond.instanceMethod_spec hinst
  obtain ⟨m8, methM', cM, hn8, hmethM', -, -, -, -, -, -, hsigM⟩ := Cond.codeWith_spec hcode
  cases Option.some.inj (hn8.symm.trans hnamed)
  cases hmethM.symm.trans hmethM'
  obtain ⟨c2, r2, m2, q1, q2, q3, q4, kP, hkP, hkPi⟩ := Cond.selects_spec hsel
  cases hcls.symm.trans q1
  cases (State.methodFound?_of_named hnamed hy).symm.trans q2
  cases hnamed.symm.trans q3
  have hselP : selectMethod e.platform s.vm cellB.cls mk = .method mk := by rw [Launch.admits_selectMethod X.admits]; exact q4
  obtain ⟨vm₁, X₁, hstep₁⟩ := X.invokevirtual hexec hown hlink hnamed hmethM hstM hkP hkPi hy (a := b) (cell := cellB) hcell
    (fun z h => by rw [h] at hobj; cases hobj) hselP hmethM habM hkP hkPi (g := g) hg (argsL := argsL) (rest := rest) (hlen _ hsigM) hstack hdg
  rcases hK m meth c ⟨T.setVm vm₁, locs, cells, slots⟩ { g with stack := rest } (.invokevirtual index) mk (Value.ref b :: argsL).toArray X₁ hg hsize hdg hW (X₁.named hnamed) (hpre vm₁ X₁.warmed) with ⟨v, B, X', hpost, hsteps⟩ | ⟨q, B, X', hpost, hsteps⟩
  · exact Or.inl ⟨v, vm₁, B, X₁.warmed, X', hpost, fun target h => hstep₁ _ fun acts => by rw [doInvoke_state]; exact hsteps.trans h⟩
  · exact Or.inr ⟨q, vm₁, B, X₁.warmed, X', hpost, hstep₁ _ fun acts => by rw [doInvoke_state]; exact hsteps⟩
theorem vx_callSX (X : Stand p l e R s m args below meth c T locs cells slots) (hexec : p.tables.exec = Jvm.exec) {own : String} {index : Nat} {y : MethodName} {bytes : ByteArray} {maxL : Nat} {ret : Option FieldType} {hh : List (Nat × Nat × Nat × Nat)}
    (hown : s.vm.findClass own = some m.cls) (hlink : (Cond.methodLink own index y).before args s = true) (hstat : (Cond.static y).before args s = true) (hinit : (Cond.initialized y.cls).before args s = true)
    (hcode : (Cond.codeWith y bytes maxL ret hh).before args s = true) (hy : y.cls ≠ "java/lang/invoke/MethodHandle" ∧ y.cls ≠ "java/lang/invoke/VarHandle")
    {W9 : Nat} {Pre : Pt → Array Value → Prop} {Post : Pt → Array Value → Option Value → Pt → Prop} {PostX : Pt → Array Value → Addr → Pt → Prop} (hK : vx_Back l R p e below s args y 3 W9 Pre Post PostX)
    {g : JFrame} (hg : g.method = m) (hsize : g.locals.size = c.maxLocals) {argsL rest : List Value} (hlen : ∀ sig, parseMethodDescriptor y.desc = some sig → argsL.length = sig.parameters.length)
    (hstack : g.stack = argsL.reverse ++ rest) (hW : 2 * g.monitorRoom + (rest.map fun v => v.category).sum ≤ W9) (hdg : decode c.code g.pc = .ok (.invokestatic index, 3))
    (hpre : ∀ vm₁, s.WarmedH vm₁ → Pre ⟨T.setVm vm₁, locs, cells, slots⟩ argsL.toArray) :
    (∃ (v : Option Value) (vm₁ : Vm) (B : Pt), s.WarmedH vm₁ ∧ Stand p l e R s m args below meth c B.U B.locs B.cells B.slots ∧ Post ⟨T.setVm vm₁, locs, cells, slots⟩ argsL.toArray v B ∧
      ∀ target, Steps p.tables e below (B.U.setTop { g with pc := g.pc + 3, stack := v.toList ++ rest }) target → Steps p.tables e below (T.setTop g) target) ∨
    (∃ (q : Addr) (vm₁ : Vm) (B : Pt), s.WarmedH vm₁ ∧ Stand p l e R s m args below meth c B.U B.locs B.cells B.slots ∧ PostX ⟨T.setVm vm₁, locs, cells, slots⟩ argsL.toArray q B ∧
      Steps p.tables e below (T.setTop g) ((B.U.setTop { g with stack := rest }).pushFrame (.throwing q))) := by
  obtain ⟨mk, methM, cM, hnamed, hmethM, -, -, -, -, -, -, hsigM⟩ := Cond.codeWith_spec hcode
  have hstatic : methM.isStatic = true := Cond.static_spec hnamed hmethM hstat
  obtain ⟨kP, hkP, -⟩ := className_of_methodNamed hnamed
  have hinitP : kP.init = .initialized := Cond.initialized_spec (findClass_of_methodNamed hnamed) hkP hinit
  obtain ⟨vm₁, X₁, hstep₁⟩ := X.invokestatic hexec hown hlink hnamed hmethM hstatic hkP hinitP hy (g := g) hg (argsL := argsL) (rest := rest) (hlen _ hsigM) hstack hdg
  rcases hK m meth c ⟨T.setVm vm₁, locs, cells, slots⟩ { g with stack := rest } (.invokestatic index) mk argsL.toArray X₁ hg hsize hdg hW (X₁.named hnamed) (hpre vm₁ X₁.warmed) with ⟨v, B, X', hpost, hsteps⟩ | ⟨q, B, X', hpost, hsteps⟩
  · exact Or.inl ⟨v, vm₁, B, X₁.warmed, X', hpost, fun target h => hstep₁ _ fun acts => by rw [doInvoke_state]; exact hsteps.trans h⟩
  · exact Or.inr ⟨q, vm₁, B, X₁.warmed, X', hpost, hstep₁ _ fun acts => by rw [doInvoke_state]; exact hsteps⟩
theorem vx_callVW (X : Stand p l e R s m args below meth c T locs cells slots) (hexec : p.tables.exec = Jvm.exec) {own C : String} {index : Nat} {y : MethodName} {bytes : ByteArray} {maxL : Nat} {ret : Option FieldType} {hh : List (Nat × Nat × Nat × Nat)}
    (hown : s.vm.findClass own = some m.cls) (hlink : (Cond.methodLink own index y).before args s = true) (hinst : (Cond.instanceMethod y).before args s = true) (hsel : (Cond.selects C y y).before args s = true)
    (hcode : (Cond.codeWith y bytes maxL ret hh).before args s = true) (hy : y.cls ≠ "java/lang/invoke/MethodHandle" ∧ y.cls ≠ "java/lang/invoke/VarHandle")
    {W9 : Nat} {Pre : Pt → Array Value → Prop} {Post : Pt → Array Value → Option Value → Pt → Prop} (hK : Back l R p e below s args y 3 W9 Pre Post)
    {b : Addr} {cellB : Cell} (hcell : T.heap[b]? = some cellB) (hobj : cellB.vm.isStatics = false) (hcls : s.vm.findClass C = some cellB.cls)
    {g : JFrame} (hg : g.method = m) (hsize : g.locals.size = c.maxLocals) {argsL rest : List Value} (hlen : ∀ sig, parseMethodDescriptor y.desc = some sig → argsL.length = sig.parameters.length)
    (hstack : g.stack = argsL.reverse ++ .ref b :: rest) (hW : 2 * g.monitorRoom + (rest.map fun v => v.category).sum ≤ W9) (hdg : decode c.code g.pc = .ok (.invokevirtual index, 3))
    (hpre : ∀ vm₁, s.WarmedH vm₁ → Pre ⟨T.setVm vm₁, locs, cells, slots⟩ (Value.ref b :: argsL).toArray) :
    ∃ (v : Option Value) (vm₁ : Vm) (B : Pt), s.WarmedH vm₁ ∧ Stand p l e R s m args below meth c B.U B.locs B.cells B.slots ∧ Post ⟨T.setVm vm₁, locs, cells, slots⟩ (Value.ref b :: argsL).toArray v B ∧
      ∀ target, Steps p.tables e below (B.U.setTop { g with pc := g.pc + 3, stack := v.toList ++ rest }) target → Steps p.tables e below (T.setTop g) target := by
  obtain ⟨mk, methM, hnamed, hmethM, hstM, habM⟩ := Cond.instanceMethod_spec hinst
  obtain ⟨m8, methM', cM, hn8, hmethM', -, -, -, -, -, -, hsigM⟩ := Cond.codeWith_spec hcode
  cases Option.some.inj (hn8.symm.trans hnamed)
  cases hmethM.symm.trans hmethM'
  obtain ⟨c2, r2, m2, q1, q2, q3, q4, kP, hkP, hkPi⟩ := Cond.selects_spec hsel
  cases hcls.symm.trans q1
  cases (State.methodFound?_of_named hnamed hy).symm.trans q2
  cases hnamed.symm.trans q3
  have hselP : selectMethod e.platform s.vm cellB.cls mk = .method mk := by rw [Launch.admits_selectMethod X.admits]; exact q4
  obtain ⟨vm₁, X₁, hstep₁⟩ := X.invokevirtual hexec hown hlink hnamed hmethM hstM hkP hkPi hy (a := b) (cell := cellB) hcell
    (fun z h => by rw [h] at hobj; cases hobj) hselP hmethM habM hkP hkPi (g := g) hg (argsL := argsL) (rest := rest) (hlen _ hsigM) hstack hdg
  obtain ⟨v, B, X', hpost, hsteps⟩ := hK m meth c ⟨T.setVm vm₁, locs, cells, slots⟩ { g with stack := rest } (.invokevirtual index) mk (Value.ref b :: argsL).toArray X₁ hg hsize hdg hW (X₁.named hnamed) (hpre vm₁ X₁.warmed)
  exact ⟨v, vm₁, B, X₁.warmed, X', hpost, fun target h => hstep₁ _ fun acts => by rw [doInvoke_state]; exact hsteps.trans h⟩
abbrev vx_CVW (R : Room) (s : State) (args : Array Value) (own C : String) (index : Nat) (y : MethodName) (bytes : ByteArray) (maxL : Nat) (ret : Option FieldType) (hh : List (Nat × Nat × Nat × Nat)) (ws : List Cond) (rm : Room) (mc ms n : Nat) : Prop :=
  (rm.cells = mc ∧ rm.slots = ms ∧ rm.frames + 1 ≤ R.frames ∧ 8 + (maxL + 11) + rm.locals ≤ R.locals ∧ (∀ w ∈ ws, ∀ (a' : Array Value) (U : State), s.WarmedH U.vm → w.before a' U = true) ∧ Cond.codeWith y bytes maxL ret hh ∈ ws) ∧
  (Cond.codeWith y bytes maxL ret hh).before args s = true ∧ (Cond.initialized y.cls).before args s = true ∧ (y.cls ≠ "java/lang/invoke/MethodHandle" ∧ y.cls ≠ "java/lang/invoke/VarHandle") ∧
  (∀ sig, parseMethodDescriptor y.desc = some sig → n = sig.parameters.length) ∧ (Cond.methodLink own index y).before args s = true ∧ (Cond.instanceMethod y).before args s = true ∧ (Cond.selects C y y).before args s = true
theorem vx_cwVW {own C : String} {index maxL mc ms : Nat} {y : MethodName} {bytes : ByteArray} {ret : Option FieldType} {hh : List (Nat × Nat × Nat × Nat)} {Ts ws ws' : List Cond} {rm : Room} (n : Nat) (ht : ∀ w ∈ Ts, w.before args s = true) (hT : GoodIn Ts (wsV own index C y ws)) (hw : ws = Cond.codeWith y bytes maxL ret hh :: ws') (hrc : rm.cells = mc) (hrs : rm.slots = ms)
    (hd : y.cls = C ∧ y.cls ≠ "java/lang/invoke/MethodHandle" ∧ y.cls ≠ "java/lang/invoke/VarHandle" ∧ (parseMethodDescriptor y.desc).map (fun d => d.parameters.length) = some n) (hR : rm.frames + 1 ≤ R.frames ∧ 8 + (maxL + 11) + rm.locals ≤ R.locals) :
    vx_CVW R s args own C index y bytes maxL ret hh ws rm mc ms n := by
  obtain ⟨hC, hd⟩ := hd
  subst hC
  have ok : ∀ w ∈ wsV own index y.cls y ws, w.before args s = true := fun w h => ht w (hT w h).1
  have hG : GoodIn Ts ws := fun w h => hT w (by unfold wsV; exact List.mem_append_right _ h)
  have hc : Cond.codeWith y bytes maxL ret hh ∈ ws := by rw [hw]; exact List.mem_cons_self
  refine ⟨⟨hrc, hrs, hR.1, hR.2, pay_in ht hG, hc⟩, ht _ (hG _ hc).1, ok _ (by simp [wsV]), ⟨hd.1, hd.2.1⟩, fun sig h => ?_, ok _ (by simp [wsV]), ok _ (by simp [wsV]), ok _ (by simp [wsV])⟩
  have h2 := hd.2.2
  rw [h] at h2
  exact (Option.some.inj h2).symm
theorem vx_runVW {y : MethodName} {bytes cc : ByteArray} {maxL nL mc ms n index : Nat} {ret : Option FieldType} {hh : List (Nat × Nat × Nat × Nat)} {ws : List Cond} {rm : Room} {Pc : Array Value → State → Prop} {Qc : Array Value → State → Outcome → State → Prop} {free : Addr → Prop} {Ts : List Cond} {own C : String} {b : Addr} {As rest : List Value} {g : JFrame}
    (S : CallFix p m c cc nL s args Ts own) (hM : Met l y ws rm Pc Qc mc ms free) (cw : vx_CVW R s args own C index y bytes maxL ret hh ws rm mc ms n) (hp : PreV s H C b Pc As)
    (hg : g.method = m) (hn : As.length = n) (hsize : g.locals.size = nL) (hstack : g.stack = As.reverse ++ .ref b :: rest) (hW : 2 * g.monitorRoom + (rest.map fun v => v.category).sum ≤ 8) (hdg : decode cc g.pc = .ok (.invokevirtual index, 3)) (hf : cells + mc ≤ R.cells ∧ slots + ms ≤ R.slots) :
    va_Run p l e R s m args below meth c H locs cells slots mc ms g rest (Qc (Value.ref b :: As).toArray) free := by
  obtain ⟨⟨hrc, hrs, hfr, hlo, hws, hcw⟩, hcode, hini, hy, hlen, hl, hin, hse⟩ := cw
  have hK : Back l R p e below s args y 3 8 (PreOf R mc ms Pc) (PostOf Qc mc ms free) := va_backW (hh := hh) (bytes := bytes) (maxL := maxL) (ret := ret) hM hp.1 hrc hrs hfr hlo hws hcw (fun a' U hW => word_at hW (Or.inl (by first | rfl | simp [Cond.onTables, Cond.keeps, Cond.steady])) hini)
  obtain ⟨hx, hb, hml, ho, -⟩ := S
  obtain ⟨-, ⟨cellB, hcB, hoB, hclB⟩, hPc⟩ := hp
  intro T hT X
  obtain ⟨v, vm₁, ⟨U', l2, c2, s2⟩, hW₁, X', ⟨g', mk, t, L, e1, e2, hq, h1, hL, h2, h3⟩, st⟩ := vx_callVW X hx (C := C) (hh := hh) (bytes := bytes) (maxL := maxL) (ret := ret) ho hl hin hse hcode hy hK (by rw [hT]; exact hcB) hoB hclB hg (hsize.trans hml.symm) (argsL := As) (rest := rest) (fun sig h => hn.trans (hlen sig h)) hstack hW (by rw [hb]; exact hdg)
    (fun vm₁ hW₁ => ⟨hf.1, hf.2, hPc (T.setVm vm₁) hT hW₁⟩)
  dsimp only [Pt.U, Pt.locs, Pt.cells, Pt.slots] at X' e1 e2 h1 h2 h3 st
  subst h1; subst h2; subst h3
  exact ⟨v, (T.setVm vm₁).calling g' mk (Value.ref b :: As).toArray, t, U', L, hT, X', hL, e1, e2, hq, st⟩
section
variable {y : MethodName} {bytes cc : ByteArray} {maxL nL mc ms n index : Nat} {ret : Option FieldType} {ws : List Cond} {rm : Room} {Pc : Array Value → State → Prop} {Qc : Array Value → State → Outcome → State → Prop} {XC : String → State → State → Prop} {free : Addr → Prop} {Ts : List Cond} {own C : String} {b : Addr} {As rest : List Value} {g : JFrame}
theorem vx_runVX {hh : List (Nat × Nat × Nat × Nat)} (S : CallFix p m c cc nL s args Ts own) (hM : vx_Met l y ws rm Pc Qc XC mc ms free) (cw : vx_CVW R s args own C index y bytes maxL ret hh ws rm mc ms n) (hp : PreV s H C b Pc As)
    (hg : g.method = m) (hn : As.length = n) (hsize : g.locals.size = nL) (hstack : g.stack = As.reverse ++ .ref b :: rest) (hW : 2 * g.monitorRoom + (rest.map fun v => v.category).sum ≤ 8) (hdg : decode cc g.pc = .ok (.invokevirtual index, 3)) (hf : cells + mc ≤ R.cells ∧ slots + ms ≤ R.slots) :
    vx_Run p l e R s m args below meth c H locs cells slots mc ms g rest (Qc (Value.ref b :: As).toArray) XC free := by
  obtain ⟨⟨hrc, hrs, hfr, hlo, hws, hcw⟩, hcode, hini, hy, hlen, hl, hin, hse⟩ := cw
  have hK : vx_Back l R p e below s args y 3 8 (PreOf R mc ms Pc) (PostOf Qc mc ms free) (vx_Post XC mc ms free) := vx_backW (hh := hh) (bytes := bytes) (maxL := maxL) (ret := ret) hM hp.1 hrc hrs hfr hlo hws hcw (fun a' U hW => word_at hW (Or.inl (by first | rfl | simp [Cond.onTables, Cond.keeps, Cond.steady])) hini)
  obtain ⟨hx, hb, hml, ho, -⟩ := S
  obtain ⟨-, ⟨cellB, hcB, hoB, hclB⟩, hPc⟩ := hp
  intro T hT X
  rcases vx_callVX X hx (C := C) (hh := hh) (bytes := bytes) (maxL := maxL) (ret := ret) ho hl hin hse hcode hy hK (by rw [hT]; exact hcB) hoB hclB hg (hsize.trans hml.symm) (argsL := As) (rest := rest) (fun sig h => hn.trans (hlen sig h)) hstack hW (by rw [hb]; exact hdg)
    (fun vm₁ hW₁ => ⟨hf.1, hf.2, hPc (T.setVm vm₁) hT hW₁⟩) with ⟨v, vm₁, ⟨U', l2, c2, s2⟩, hW₁, X', ⟨g', mk, t, L, e1, e2, hq, h1, hL, h2, h3⟩, st⟩ | ⟨q, vm₁, ⟨U', l2, c2, s2⟩, hW₁, X', ⟨g', mk, t, L, E, ce, e1, e2, hq, hce, hcv, hcl, h1, hL, h2, h3⟩, st⟩
  · dsimp only [Pt.U, Pt.locs, Pt.cells, Pt.slots] at X' e1 e2 h1 h2 h3 st
    subst h1; subst h2; subst h3
    exact Or.inl ⟨v, (T.setVm vm₁).calling g' mk (Value.ref b :: As).toArray, t, U', L, hT, X', hL, e1, e2, hq, st⟩
  · dsimp only [Pt.U, Pt.locs, Pt.cells, Pt.slots] at X' e1 e2 h1 h2 h3 st hcl
    subst h1; subst h2; subst h3
    exact Or.inr ⟨q, (T.setVm vm₁).calling g' mk (Value.ref b :: As).toArray, t, U', L, E, ce, hT, X', hL, e1, e2, hq, hce, hcv, vx_cls hW₁ hcl, st⟩
theorem vx_runSX {hh : List (Nat × Nat × Nat × Nat)} (S : CallFix p m c cc nL s args Ts own) (hM : vx_Met l y ws rm Pc Qc XC mc ms free) (cw : vx_CSW R s args own index y bytes maxL ret hh ws rm mc ms n) (hp : PreS s H Pc As)
    (hg : g.method = m) (hn : As.length = n) (hsize : g.locals.size = nL) (hstack : g.stack = As.reverse ++ rest) (hW : 2 * g.monitorRoom + (rest.map fun v => v.category).sum ≤ 8) (hdg : decode cc g.pc = .ok (.invokestatic index, 3)) (hf : cells + mc ≤ R.cells ∧ slots + ms ≤ R.slots) :
    vx_Run p l e R s m args below meth c H locs cells slots mc ms g rest (Qc As.toArray) XC free := by
  obtain ⟨⟨hrc, hrs, hfr, hlo, hws, hcw⟩, hcode, hini, hy, hlen, hl, hstt⟩ := cw
  have hK : vx_Back l R p e below s args y 3 8 (PreOf R mc ms Pc) (PostOf Qc mc ms free) (vx_Post XC mc ms free) := vx_backW (hh := hh) (bytes := bytes) (maxL := maxL) (ret := ret) hM hp.1 hrc hrs hfr hlo hws hcw (fun a' U hW => word_at hW (Or.inl (by first | rfl | simp [Cond.onTables, Cond.keeps, Cond.steady])) hini)
  obtain ⟨hx, hb, hml, ho, -⟩ := S
  intro T hT X
  rcases vx_callSX X hx (hh := hh) (bytes := bytes) (maxL := maxL) (ret := ret) ho hl hstt hini hcode hy hK hg (hsize.trans hml.symm) (argsL := As) (rest := rest) (fun sig h => hn.trans (hlen sig h)) hstack hW (by rw [hb]; exact hdg)
    (fun vm₁ hW₁ => ⟨hf.1, hf.2, hp.2 (T.setVm vm₁) hT hW₁⟩) with ⟨v, vm₁, ⟨U', l2, c2, s2⟩, hW₁, X', ⟨g', mk, t, L, e1, e2, hq, h1, hL, h2, h3⟩, st⟩ | ⟨q, vm₁, ⟨U', l2, c2, s2⟩, hW₁, X', ⟨g', mk, t, L, E, ce, e1, e2, hq, hce, hcv, hcl, h1, hL, h2, h3⟩, st⟩
  · dsimp only [Pt.U, Pt.locs, Pt.cells, Pt.slots] at X' e1 e2 h1 h2 h3 st
    subst h1; subst h2; subst h3
    exact Or.inl ⟨v, (T.setVm vm₁).calling g' mk As.toArray, t, U', L, hT, X', hL, e1, e2, hq, st⟩
  · dsimp only [Pt.U, Pt.locs, Pt.cells, Pt.slots] at X' e1 e2 h1 h2 h3 st hcl
    subst h1; subst h2; subst h3
    exact Or.inr ⟨q, (T.setVm vm₁).calling g' mk As.toArray, t, U', L, E, ce, hT, X', hL, e1, e2, hq, hce, hcv, vx_cls hW₁ hcl, st⟩
end
end VXH
theorem vx_ofWH {l : Launch} {y : MethodName} {ws ws' : List Cond} {rm : Room} {Pc : Array Value → State → Prop} {Qc : Array Value → State → Outcome → State → Prop} {XC : String → State → State → Prop} {mc ms : Nat} {free : Addr → Prop} {cc : ByteArray} {maxL : Nat} {ret : Option FieldType} {hh : List (Nat × Nat × Nat × Nat)}
    (hy : plainName y.cls = true) (hw : ws = Cond.codeWith y cc maxL ret hh :: ws')
    (body : ∀ p e s m args below meth c s₁, BodyLoose p l y (headSpec ws rm) cc maxL ret e s m args below meth c s₁ → c.maxLocals = maxL → Pc args s →
      W p l e (headSpec ws rm).room s m args below meth c s.heap [] 0 0 (vx_MQ below Qc XC args s mc ms free) (entryFrame m args maxL)) : vx_Met l y ws rm Pc Qc XC mc ms free := by
  refine MetFree.of_bodyS (code := cc) (maxLocals := maxL) (ret := ret) hy ?_ ?_
  · intro args s m h hn
    obtain ⟨m9, meth, c, hn9, h1, h2, h3, h4, -, h5, h6, -⟩ := Cond.codeWith_spec (atoms_spec (ws := ws) h _ (by rw [hw]; exact List.mem_cons_self))
    cases hn.symm.trans hn9
    exact ⟨meth, c, h1, h2, h3, h4, h5, h6⟩
  · intro p e s m args below meth c s₁ B hml hP _
    have hh0 : s₁.heap = s.heap := by rw [B.state]; rfl
    obtain ⟨t, a1, o, b1, b2, b3⟩ := body p e s m args below meth c s₁ B hml hP s₁ hh0 (Stand.of_body B)
    exact ⟨t, o, a1, b1, b2, b3⟩
/-! ===== END ===== -/

/-! ===== BEGIN printed: names, fields, word lists, decode rows ===== -/
def RX0 : String := "TwinOrchard$Tree"
def TX0 : u_T := fun k => match k with
  | 0 => ("TwinOrchard$Tree", "vigour", "I", false)
  | 1 => ("TwinOrchard$Tree", "hardiness", "I", false)
  | 2 => ("TwinOrchard$Tree", "branches", "I", false)
  | _ => ("TwinOrchard$Tree", "tired", "Z", false)
def tyX0 : Nat → FieldType := fun k => match k with
  | 0 => .int
  | 1 => .int
  | 2 => .int
  | _ => .boolean
abbrev wsX00 : List Cond := u_ws RX0 TX0 4
theorem nmX0 : ∀ a, a < 4 → ∀ b, b < 4 → a ≠ b → (TX0 a).2.1 ≠ (TX0 b).2.1 := by decide +kernel
theorem tyX0_ok : ∀ k, k < 4 → parseFieldDescriptor (TX0 k).2.2.1 = some (tyX0 k) := by decide +kernel
abbrev cX0_init : ByteArray := prog_2_method_1_code
def yX0_init : MethodName := ⟨RX0, "<init>", "()V"⟩
abbrev cX0_shorten : ByteArray := prog_2_method_2_code
def yX0_shorten : MethodName := ⟨RX0, "shorten", "(I)V"⟩
abbrev cX0_apples : ByteArray := prog_2_method_3_code
def yX0_apples : MethodName := ⟨RX0, "apples", "()I"⟩
abbrev cX0_liveYear : ByteArray := prog_2_method_4_code
def yX0_liveYear : MethodName := ⟨RX0, "liveYear", "(I)I"⟩
abbrev cX0_freeze : ByteArray := prog_2_method_5_code
def yX0_freeze : MethodName := ⟨RX0, "freeze", "(I)V"⟩
abbrev cX0_grow : ByteArray := prog_2_method_6_code
def yX0_grow : MethodName := ⟨RX0, "grow", "()V"⟩
def RX1 : String := "TwinOrchard"
def TX1 : u_T := fun k => match k with
  | 0 => ("TwinOrchard", "weights", "[I", true)
  | 1 => ("TwinOrchard", "hardiness", "[I", true)
  | 2 => ("TwinOrchard", "barn", "[I", true)
  | 3 => ("TwinOrchard", "frosts", "[I", true)
  | 4 => ("TwinOrchard", "kinds", "[I", true)
  | 5 => ("TwinOrchard", "branches", "[I", true)
  | 6 => ("TwinOrchard", "vigours", "[I", true)
  | 7 => ("TwinOrchard", "tired", "[Z", true)
  | 8 => ("TwinOrchard", "strength", "[I", true)
  | 9 => ("TwinOrchard", "year", "I", false)
  | 10 => ("TwinOrchard", "carriedLeftMore", "I", false)
  | 11 => ("TwinOrchard", "looked", "LTwinOrchard$Tree;", true)
  | _ => ("TwinOrchard", "fewest", "[I", true)
def tyX1 : Nat → FieldType := fun k => match k with
  | 0 => .array .int
  | 1 => .array .int
  | 2 => .array .int
  | 3 => .array .int
  | 4 => .array .int
  | 5 => .array .int
  | 6 => .array .int
  | 7 => .array .boolean
  | 8 => .array .int
  | 9 => .int
  | 10 => .int
  | 11 => .object "TwinOrchard$Tree"
  | _ => .array .int
abbrev wsX10 : List Cond := u_ws RX1 TX1 13
theorem nmX1 : ∀ a, a < 13 → ∀ b, b < 13 → a ≠ b → (TX1 a).2.1 ≠ (TX1 b).2.1 := by decide +kernel
theorem tyX1_ok : ∀ k, k < 13 → parseFieldDescriptor (TX1 k).2.2.1 = some (tyX1 k) := by decide +kernel
abbrev cX1_init : ByteArray := prog_1_method_1_code
def yX1_init : MethodName := ⟨RX1, "<init>", "()V"⟩
abbrev cX1_setSort : ByteArray := prog_1_method_2_code
def yX1_setSort : MethodName := ⟨RX1, "setSort", "(III)I"⟩
abbrev cX1_setFrost : ByteArray := prog_1_method_3_code
def yX1_setFrost : MethodName := ⟨RX1, "setFrost", "(II)I"⟩
abbrev cX1_plant : ByteArray := prog_1_method_4_code
def yX1_plant : MethodName := ⟨RX1, "plant", "(IIII)I"⟩
abbrev cX1_prune : ByteArray := prog_1_method_5_code
def yX1_prune : MethodName := ⟨RX1, "prune", "(III)I"⟩
abbrev cX1_graft : ByteArray := prog_1_method_6_code
def yX1_graft : MethodName := ⟨RX1, "graft", "(III)I"⟩
abbrev cX1_fell : ByteArray := prog_1_method_7_code
def yX1_fell : MethodName := ⟨RX1, "fell", "(II)I"⟩
abbrev cX1_tree : ByteArray := prog_1_method_8_code
def yX1_tree : MethodName := ⟨RX1, "tree", "(III)I"⟩
abbrev cX1_sort : ByteArray := prog_1_method_9_code
def yX1_sort : MethodName := ⟨RX1, "sort", "(II)I"⟩
abbrev cX1_count : ByteArray := prog_1_method_10_code
def yX1_count : MethodName := ⟨RX1, "count", "(I)I"⟩
abbrev cX1_leans : ByteArray := prog_1_method_11_code
def yX1_leans : MethodName := ⟨RX1, "leans", "(I)I"⟩
abbrev cX1_carry : ByteArray := prog_1_method_12_code
def yX1_carry : MethodName := ⟨RX1, "carry", "(III)I"⟩
abbrev cX1_tilt : ByteArray := prog_1_method_13_code
def yX1_tilt : MethodName := ⟨RX1, "tilt", "()I"⟩
abbrev cX1_balance : ByteArray := prog_1_method_14_code
def yX1_balance : MethodName := ⟨RX1, "balance", "()I"⟩
abbrev cX1_pass : ByteArray := prog_1_method_15_code
def yX1_pass : MethodName := ⟨RX1, "pass", "(I)I"⟩
abbrev cX1_foresee : ByteArray := prog_1_method_16_code
def yX1_foresee : MethodName := ⟨RX1, "foresee", "(II)I"⟩
abbrev cX1_advise : ByteArray := prog_1_method_17_code
def yX1_advise : MethodName := ⟨RX1, "advise", "(I)I"⟩
abbrev cX1_mean : ByteArray := prog_1_method_18_code
def yX1_mean : MethodName := ⟨RX1, "mean", "()D"⟩
abbrev cX1_digest : ByteArray := prog_1_method_19_code
def yX1_digest : MethodName := ⟨RX1, "digest", "()J"⟩
abbrev cX1_isWithin : ByteArray := prog_1_method_20_code
def yX1_isWithin : MethodName := ⟨RX1, "isWithin", "(III)Z"⟩
abbrev cX1_isSort : ByteArray := prog_1_method_21_code
def yX1_isSort : MethodName := ⟨RX1, "isSort", "(I)Z"⟩
abbrev cX1_isPlace : ByteArray := prog_1_method_22_code
def yX1_isPlace : MethodName := ⟨RX1, "isPlace", "(II)Z"⟩
abbrev cX1_spotOf : ByteArray := prog_1_method_23_code
def yX1_spotOf : MethodName := ⟨RX1, "spotOf", "(II)I"⟩
abbrev cX1_mirrorOf : ByteArray := prog_1_method_24_code
def yX1_mirrorOf : MethodName := ⟨RX1, "mirrorOf", "(I)I"⟩
abbrev cX1_twinOf : ByteArray := prog_1_method_25_code
def yX1_twinOf : MethodName := ⟨RX1, "twinOf", "(I)I"⟩
abbrev cX1_hasTree : ByteArray := prog_1_method_26_code
def yX1_hasTree : MethodName := ⟨RX1, "hasTree", "(I)Z"⟩
abbrev cX1_whoDidIt : ByteArray := prog_1_method_27_code
def yX1_whoDidIt : MethodName := ⟨RX1, "whoDidIt", "(ZZ)I"⟩
abbrev cX1_canPay : ByteArray := prog_1_method_28_code
def yX1_canPay : MethodName := ⟨RX1, "canPay", "(II)Z"⟩
abbrev cX1_pay : ByteArray := prog_1_method_29_code
def yX1_pay : MethodName := ⟨RX1, "pay", "(II)V"⟩
abbrev cX1_plantAt : ByteArray := prog_1_method_30_code
def yX1_plantAt : MethodName := ⟨RX1, "plantAt", "(III)Z"⟩
abbrev cX1_canPrune : ByteArray := prog_1_method_31_code
def yX1_canPrune : MethodName := ⟨RX1, "canPrune", "(II)Z"⟩
abbrev cX1_pruneAt : ByteArray := prog_1_method_32_code
def yX1_pruneAt : MethodName := ⟨RX1, "pruneAt", "(II)Z"⟩
abbrev cX1_graftAt : ByteArray := prog_1_method_33_code
def yX1_graftAt : MethodName := ⟨RX1, "graftAt", "(II)Z"⟩
abbrev cX1_fellAt : ByteArray := prog_1_method_34_code
def yX1_fellAt : MethodName := ⟨RX1, "fellAt", "(I)Z"⟩
abbrev cX1_treesOfSort : ByteArray := prog_1_method_35_code
def yX1_treesOfSort : MethodName := ⟨RX1, "treesOfSort", "(I)I"⟩
abbrev cX1_allTrees : ByteArray := prog_1_method_36_code
def yX1_allTrees : MethodName := ⟨RX1, "allTrees", "()I"⟩
abbrev cX1_allTired : ByteArray := prog_1_method_37_code
def yX1_allTired : MethodName := ⟨RX1, "allTired", "()I"⟩
abbrev cX1_applesInBarn : ByteArray := prog_1_method_38_code
def yX1_applesInBarn : MethodName := ⟨RX1, "applesInBarn", "()I"⟩
abbrev cX1_weightInBarn : ByteArray := prog_1_method_39_code
def yX1_weightInBarn : MethodName := ⟨RX1, "weightInBarn", "()I"⟩
abbrev cX1_unlikePairs : ByteArray := prog_1_method_40_code
def yX1_unlikePairs : MethodName := ⟨RX1, "unlikePairs", "()I"⟩
abbrev cX1_balancedApples : ByteArray := prog_1_method_41_code
def yX1_balancedApples : MethodName := ⟨RX1, "balancedApples", "(I)I"⟩
abbrev cX1_heaviestUpTo : ByteArray := prog_1_method_42_code
def yX1_heaviestUpTo : MethodName := ⟨RX1, "heaviestUpTo", "(I)I"⟩
abbrev cX1_reachWithSort : ByteArray := prog_1_method_43_code
def yX1_reachWithSort : MethodName := ⟨RX1, "reachWithSort", "(II)V"⟩
abbrev cX1_lookAt : ByteArray := prog_1_method_44_code
def yX1_lookAt : MethodName := ⟨RX1, "lookAt", "(I)V"⟩
abbrev cX1_keepLooked : ByteArray := prog_1_method_45_code
def yX1_keepLooked : MethodName := ⟨RX1, "keepLooked", "(I)V"⟩
abbrev cX1_applesNow : ByteArray := prog_1_method_46_code
def yX1_applesNow : MethodName := ⟨RX1, "applesNow", "(I)I"⟩
abbrev cX1_liveLooked : ByteArray := prog_1_method_47_code
def yX1_liveLooked : MethodName := ⟨RX1, "liveLooked", "(I)I"⟩
abbrev cX1_passAt : ByteArray := prog_1_method_48_code
def yX1_passAt : MethodName := ⟨RX1, "passAt", "(II)I"⟩
abbrev cX1_gainOfPruning : ByteArray := prog_1_method_49_code
def yX1_gainOfPruning : MethodName := ⟨RX1, "gainOfPruning", "(III)I"⟩
def RX2 : String := "TwinOrchardModel"
def TX2 : u_T := fun k => match k with
  | 0 => ("TwinOrchardModel", "thrown", "I", false)
  | 1 => ("TwinOrchardModel", "weights", "[I", true)
  | 2 => ("TwinOrchardModel", "bears", "[I", true)
  | 3 => ("TwinOrchardModel", "frosts", "[I", true)
  | 4 => ("TwinOrchardModel", "trees", "[I", true)
  | 5 => ("TwinOrchardModel", "barn", "[I", true)
  | 6 => ("TwinOrchardModel", "numbers", "[I", true)
  | _ => ("TwinOrchardModel", "tilt", "I", false)
def tyX2 : Nat → FieldType := fun k => match k with
  | 0 => .int
  | 1 => .array .int
  | 2 => .array .int
  | 3 => .array .int
  | 4 => .array .int
  | 5 => .array .int
  | 6 => .array .int
  | _ => .int
abbrev wsX20 : List Cond := u_ws RX2 TX2 8
theorem nmX2 : ∀ a, a < 8 → ∀ b, b < 8 → a ≠ b → (TX2 a).2.1 ≠ (TX2 b).2.1 := by decide +kernel
theorem tyX2_ok : ∀ k, k < 8 → parseFieldDescriptor (TX2 k).2.2.1 = some (tyX2 k) := by decide +kernel
abbrev cX2_init : ByteArray := prog_4_method_1_code
def yX2_init : MethodName := ⟨RX2, "<init>", "()V"⟩
abbrev cX2_thrown : ByteArray := prog_4_method_2_code
def yX2_thrown : MethodName := ⟨RX2, "thrown", "()I"⟩
abbrev cX2_fail : ByteArray := prog_4_method_3_code
def yX2_fail : MethodName := ⟨RX2, "fail", "(I)I"⟩
abbrev cX2_isIn : ByteArray := prog_4_method_4_code
def yX2_isIn : MethodName := ⟨RX2, "isIn", "(III)Z"⟩
abbrev cX2_isSpot : ByteArray := prog_4_method_5_code
def yX2_isSpot : MethodName := ⟨RX2, "isSpot", "(II)Z"⟩
abbrev cX2_isSort : ByteArray := prog_4_method_6_code
def yX2_isSort : MethodName := ⟨RX2, "isSort", "(I)Z"⟩
abbrev cX2_tr : ByteArray := prog_4_method_7_code
def yX2_tr : MethodName := ⟨RX2, "tr", "(II)I"⟩
abbrev cX2_set : ByteArray := prog_4_method_8_code
def yX2_set : MethodName := ⟨RX2, "set", "(III)V"⟩
abbrev cX2_setSort : ByteArray := prog_4_method_9_code
def yX2_setSort : MethodName := ⟨RX2, "setSort", "(III)I"⟩
abbrev cX2_setFrost : ByteArray := prog_4_method_10_code
def yX2_setFrost : MethodName := ⟨RX2, "setFrost", "(II)I"⟩
abbrev cX2_can : ByteArray := prog_4_method_11_code
def yX2_can : MethodName := ⟨RX2, "can", "(III)Z"⟩
abbrev cX2_change : ByteArray := prog_4_method_12_code
def yX2_change : MethodName := ⟨RX2, "change", "(IIII)V"⟩
abbrev cX2_does : ByteArray := prog_4_method_13_code
def yX2_does : MethodName := ⟨RX2, "does", "(IIIII)Z"⟩
abbrev cX2_both : ByteArray := prog_4_method_14_code
def yX2_both : MethodName := ⟨RX2, "both", "(IIIII)I"⟩
abbrev cX2_plant : ByteArray := prog_4_method_15_code
def yX2_plant : MethodName := ⟨RX2, "plant", "(IIII)I"⟩
abbrev cX2_prune : ByteArray := prog_4_method_16_code
def yX2_prune : MethodName := ⟨RX2, "prune", "(III)I"⟩
abbrev cX2_graft : ByteArray := prog_4_method_17_code
def yX2_graft : MethodName := ⟨RX2, "graft", "(III)I"⟩
abbrev cX2_fell : ByteArray := prog_4_method_18_code
def yX2_fell : MethodName := ⟨RX2, "fell", "(II)I"⟩
abbrev cX2_apples : ByteArray := prog_4_method_19_code
def yX2_apples : MethodName := ⟨RX2, "apples", "(I)I"⟩
abbrev cX2_treeTold : ByteArray := prog_4_method_20_code
def yX2_treeTold : MethodName := ⟨RX2, "treeTold", "(II)I"⟩
abbrev cX2_tree : ByteArray := prog_4_method_21_code
def yX2_tree : MethodName := ⟨RX2, "tree", "(III)I"⟩
abbrev cX2_sortTold : ByteArray := prog_4_method_22_code
def yX2_sortTold : MethodName := ⟨RX2, "sortTold", "(II)I"⟩
abbrev cX2_sort : ByteArray := prog_4_method_23_code
def yX2_sort : MethodName := ⟨RX2, "sort", "(II)I"⟩
abbrev cX2_all : ByteArray := prog_4_method_24_code
def yX2_all : MethodName := ⟨RX2, "all", "(I)I"⟩
abbrev cX2_counted : ByteArray := prog_4_method_25_code
def yX2_counted : MethodName := ⟨RX2, "counted", "(I)I"⟩
abbrev cX2_count : ByteArray := prog_4_method_26_code
def yX2_count : MethodName := ⟨RX2, "count", "(I)I"⟩
abbrev cX2_leans : ByteArray := prog_4_method_27_code
def yX2_leans : MethodName := ⟨RX2, "leans", "(I)I"⟩
abbrev cX2_carry : ByteArray := prog_4_method_28_code
def yX2_carry : MethodName := ⟨RX2, "carry", "(III)I"⟩
abbrev cX2_tilt : ByteArray := prog_4_method_29_code
def yX2_tilt : MethodName := ⟨RX2, "tilt", "()I"⟩
abbrev cX2_balance : ByteArray := prog_4_method_30_code
def yX2_balance : MethodName := ⟨RX2, "balance", "()I"⟩
abbrev cX2_yearOn : ByteArray := prog_4_method_31_code
def yX2_yearOn : MethodName := ⟨RX2, "yearOn", "()I"⟩
abbrev cX2_yearsOn : ByteArray := prog_4_method_32_code
def yX2_yearsOn : MethodName := ⟨RX2, "yearsOn", "(I)I"⟩
abbrev cX2_pass : ByteArray := prog_4_method_33_code
def yX2_pass : MethodName := ⟨RX2, "pass", "(I)I"⟩
abbrev cX2_kept : ByteArray := prog_4_method_34_code
def yX2_kept : MethodName := ⟨RX2, "kept", "()[[I"⟩
abbrev cX2_bringBack : ByteArray := prog_4_method_35_code
def yX2_bringBack : MethodName := ⟨RX2, "bringBack", "([[I)V"⟩
abbrev cX2_foresee : ByteArray := prog_4_method_36_code
def yX2_foresee : MethodName := ⟨RX2, "foresee", "(II)I"⟩
abbrev cX2_advise : ByteArray := prog_4_method_37_code
def yX2_advise : MethodName := ⟨RX2, "advise", "(I)I"⟩
abbrev cX2_mean : ByteArray := prog_4_method_38_code
def yX2_mean : MethodName := ⟨RX2, "mean", "()D"⟩
abbrev cX2_digest : ByteArray := prog_4_method_39_code
def yX2_digest : MethodName := ⟨RX2, "digest", "()J"⟩
def RJx145de : String := "java/io/Serializable"
def TJx145de : u_T := fun k => match k with
  | _ => ("", "", "", false)
def tyJx145de : Nat → FieldType := fun k => match k with
  | _ => .int
abbrev wsJx145de0 : List Cond := u_ws RJx145de TJx145de 0
theorem nmJx145de : ∀ a, a < 0 → ∀ b, b < 0 → a ≠ b → (TJx145de a).2.1 ≠ (TJx145de b).2.1 := by decide +kernel
theorem tyJx145de_ok : ∀ k, k < 0 → parseFieldDescriptor (TJx145de k).2.2.1 = some (tyJx145de k) := by decide +kernel
def RJx8e188 : String := "java/lang/Cloneable"
def TJx8e188 : u_T := fun k => match k with
  | _ => ("", "", "", false)
def tyJx8e188 : Nat → FieldType := fun k => match k with
  | _ => .int
abbrev wsJx8e1880 : List Cond := u_ws RJx8e188 TJx8e188 0
theorem nmJx8e188 : ∀ a, a < 0 → ∀ b, b < 0 → a ≠ b → (TJx8e188 a).2.1 ≠ (TJx8e188 b).2.1 := by decide +kernel
theorem tyJx8e188_ok : ∀ k, k < 0 → parseFieldDescriptor (TJx8e188 k).2.2.1 = some (tyJx8e188 k) := by decide +kernel
def RJ9 : String := "java/lang/Math"
def TJ9 : u_T := fun k => match k with
  | _ => ("", "", "", false)
def tyJ9 : Nat → FieldType := fun k => match k with
  | _ => .int
abbrev wsJ90 : List Cond := u_ws RJ9 TJ9 0
theorem nmJ9 : ∀ a, a < 0 → ∀ b, b < 0 → a ≠ b → (TJ9 a).2.1 ≠ (TJ9 b).2.1 := by decide +kernel
theorem tyJ9_ok : ∀ k, k < 0 → parseFieldDescriptor (TJ9 k).2.2.1 = some (tyJ9 k) := by decide +kernel
abbrev cJ9_floorMod_7cf53 : ByteArray := prog_10_method_50_code
def yJ9_floorMod_7cf53 : MethodName := ⟨RJ9, "floorMod", "(II)I"⟩
abbrev cJ9_max_7cf53 : ByteArray := prog_10_method_65_code
def yJ9_max_7cf53 : MethodName := ⟨RJ9, "max", "(II)I"⟩
abbrev cJ9_min_7cf53 : ByteArray := prog_10_method_69_code
def yJ9_min_7cf53 : MethodName := ⟨RJ9, "min", "(II)I"⟩
def RJ0 : String := "java/lang/String"
def TJ0 : u_T := fun k => match k with
  | _ => ("", "", "", false)
def tyJ0 : Nat → FieldType := fun k => match k with
  | _ => .int
abbrev wsJ00 : List Cond := u_ws RJ0 TJ0 0
theorem nmJ0 : ∀ a, a < 0 → ∀ b, b < 0 → a ≠ b → (TJ0 a).2.1 ≠ (TJ0 b).2.1 := by decide +kernel
theorem tyJ0_ok : ∀ k, k < 0 → parseFieldDescriptor (TJ0 k).2.2.1 = some (tyJ0 k) := by decide +kernel
def RJ10 : String := "java/lang/System"
def TJ10 : u_T := fun k => match k with
  | _ => ("", "", "", false)
def tyJ10 : Nat → FieldType := fun k => match k with
  | _ => .int
abbrev wsJ100 : List Cond := u_ws RJ10 TJ10 0
theorem nmJ10 : ∀ a, a < 0 → ∀ b, b < 0 → a ≠ b → (TJ10 a).2.1 ≠ (TJ10 b).2.1 := by decide +kernel
theorem tyJ10_ok : ∀ k, k < 0 → parseFieldDescriptor (TJ10 k).2.2.1 = some (tyJ10 k) := by decide +kernel
def RJ7 : String := "java/util/Arrays"
def TJ7 : u_T := fun k => match k with
  | _ => ("", "", "", false)
def tyJ7 : Nat → FieldType := fun k => match k with
  | _ => .int
abbrev wsJ70 : List Cond := u_ws RJ7 TJ7 0
theorem nmJ7 : ∀ a, a < 0 → ∀ b, b < 0 → a ≠ b → (TJ7 a).2.1 ≠ (TJ7 b).2.1 := by decide +kernel
theorem tyJ7_ok : ∀ k, k < 0 → parseFieldDescriptor (TJ7 k).2.2.1 = some (tyJ7 k) := by decide +kernel
abbrev cJ7_fill_53178 : ByteArray := prog_15_method_103_code
def yJ7_fill_53178 : MethodName := ⟨RJ7, "fill", "([II)V"⟩
def RL : String := "TwinOrchardLaw"
abbrev cL_setSort : ByteArray := method_3_code
def yL_setSort : MethodName := ⟨RL, "setSort", "(LTwinOrchard;III[J)I"⟩
abbrev cL_setFrost : ByteArray := method_4_code
def yL_setFrost : MethodName := ⟨RL, "setFrost", "(LTwinOrchard;II[J)I"⟩
abbrev cL_plant : ByteArray := method_5_code
def yL_plant : MethodName := ⟨RL, "plant", "(LTwinOrchard;IIII[J)I"⟩
abbrev cL_prune : ByteArray := method_6_code
def yL_prune : MethodName := ⟨RL, "prune", "(LTwinOrchard;III[J)I"⟩
abbrev cL_graft : ByteArray := method_7_code
def yL_graft : MethodName := ⟨RL, "graft", "(LTwinOrchard;III[J)I"⟩
abbrev cL_fell : ByteArray := method_8_code
def yL_fell : MethodName := ⟨RL, "fell", "(LTwinOrchard;II[J)I"⟩
abbrev cL_tree : ByteArray := method_9_code
def yL_tree : MethodName := ⟨RL, "tree", "(LTwinOrchard;III[J)I"⟩
abbrev cL_sort : ByteArray := method_10_code
def yL_sort : MethodName := ⟨RL, "sort", "(LTwinOrchard;II[J)I"⟩
abbrev cL_count : ByteArray := method_11_code
def yL_count : MethodName := ⟨RL, "count", "(LTwinOrchard;I[J)I"⟩
abbrev cL_leans : ByteArray := method_12_code
def yL_leans : MethodName := ⟨RL, "leans", "(LTwinOrchard;I[J)I"⟩
abbrev cL_carry : ByteArray := method_13_code
def yL_carry : MethodName := ⟨RL, "carry", "(LTwinOrchard;III[J)I"⟩
abbrev cL_pass : ByteArray := method_14_code
def yL_pass : MethodName := ⟨RL, "pass", "(LTwinOrchard;I[J)I"⟩
abbrev cL_foresee : ByteArray := method_15_code
def yL_foresee : MethodName := ⟨RL, "foresee", "(LTwinOrchard;II[J)I"⟩
abbrev cL_advise : ByteArray := method_16_code
def yL_advise : MethodName := ⟨RL, "advise", "(LTwinOrchard;I[J)I"⟩
abbrev cL_law : ByteArray := code
def yL_law : MethodName := ⟨RL, "law", "([I)Z"⟩
def wsX0_init : List Cond := .code yX0_init cX0_init 1 none :: ([.methodLink RX0 3 objectInit, .instanceMethod objectInit, .code objectInit ⟨#[0xb1]⟩ 1 none])
def wsX0_shorten : List Cond := .code yX0_shorten cX0_shorten 2 none :: ([.fieldLink RX0 9 "TwinOrchard$Tree" "branches" "I", .fieldLink RX0 15 "TwinOrchard$Tree" "tired" "Z"] ++ wsX00)
def wsX0_apples : List Cond := .code yX0_apples cX0_apples 2 (some .int) :: ([.fieldLink RX0 9 "TwinOrchard$Tree" "branches" "I", .fieldLink RX0 19 "TwinOrchard$Tree" "vigour" "I", .fieldLink RX0 15 "TwinOrchard$Tree" "tired" "Z"] ++ wsX00)
def wsX0_freeze : List Cond := .code yX0_freeze cX0_freeze 3 none :: ([.fieldLink RX0 33 "TwinOrchard$Tree" "hardiness" "I", .methodLink RX0 36 Lib.Math.max.name, .static Lib.Math.max.name, .initialized "java/lang/Math", .code Lib.Math.max.name Lib.Math.max.code 2 (some .int), .fieldLink RX0 9 "TwinOrchard$Tree" "branches" "I"] ++ wsX00)
def wsX0_grow : List Cond := .code yX0_grow cX0_grow 2 none :: ([.fieldLink RX0 19 "TwinOrchard$Tree" "vigour" "I", .fieldLink RX0 9 "TwinOrchard$Tree" "branches" "I", .methodLink RX0 42 Lib.Math.min.name, .static Lib.Math.min.name, .initialized "java/lang/Math", .code Lib.Math.min.name Lib.Math.min.code 2 (some .int)] ++ wsX00)
def wsX0_liveYear : List Cond := .code yX0_liveYear cX0_liveYear 3 (some .int) :: ([.fieldLink RX0 15 "TwinOrchard$Tree" "tired" "Z", .methodLink RX0 22 yX0_freeze, .instanceMethod yX0_freeze, .selects RX0 yX0_freeze yX0_freeze, .initialized RX0, .code yX0_freeze cX0_freeze 3 none, .fieldLink RX0 33 "TwinOrchard$Tree" "hardiness" "I", .methodLink RX0 36 Lib.Math.max.name, .static Lib.Math.max.name, .initialized "java/lang/Math", .code Lib.Math.max.name Lib.Math.max.code 2 (some .int), .fieldLink RX0 9 "TwinOrchard$Tree" "branches" "I", .methodLink RX0 26 yX0_apples, .instanceMethod yX0_apples, .selects RX0 yX0_apples yX0_apples, .code yX0_apples cX0_apples 2 (some .int), .fieldLink RX0 19 "TwinOrchard$Tree" "vigour" "I", .methodLink RX0 30 yX0_grow, .instanceMethod yX0_grow, .selects RX0 yX0_grow yX0_grow, .code yX0_grow cX0_grow 2 none, .methodLink RX0 42 Lib.Math.min.name, .static Lib.Math.min.name, .code Lib.Math.min.name Lib.Math.min.code 2 (some .int)] ++ wsX00)
def wsJ7_fill_53178 : List Cond := .code yJ7_fill_53178 cJ7_fill_53178 4 none :: ([])
def wsX1_init_r1 : List Cond := [Cond.methodLink RX1 1 objectInit, Cond.instanceMethod objectInit, Cond.code objectInit ⟨#[0xb1]⟩ 1 none, Cond.arrayClass .int, Cond.fieldLink RX1 9 "TwinOrchard" "weights" "[I", Cond.fieldLink RX1 13 "TwinOrchard" "hardiness" "[I", Cond.fieldLink RX1 16 "TwinOrchard" "barn" "[I", Cond.fieldLink RX1 19 "TwinOrchard" "frosts" "[I", Cond.fieldLink RX1 22 "TwinOrchard" "kinds" "[I", Cond.fieldLink RX1 25 "TwinOrchard" "branches" "[I", Cond.fieldLink RX1 28 "TwinOrchard" "vigours" "[I", Cond.arrayClass .boolean, Cond.fieldLink RX1 31 "TwinOrchard" "tired" "[Z", Cond.fieldLink RX1 35 "TwinOrchard" "strength" "[I", Cond.fieldLink RX1 38 "TwinOrchard" "year" "I", Cond.fieldLink RX1 42 "TwinOrchard" "carriedLeftMore" "I", Cond.classLink RX1 45 RX0, Cond.instantiable RX0 4, Cond.initialized RX0, Cond.fieldLink RX1 48 "TwinOrchard" "looked" "LTwinOrchard$Tree;", Cond.fieldLink RX1 52 "TwinOrchard" "fewest" "[I", Cond.instanceMethod yX0_init, Cond.code yX0_init cX0_init 1 none, Cond.methodLink RX0 3 objectInit]
def wsX1_init_r2 : List Cond := [Cond.methodLink RX1 55 yJ7_fill_53178, Cond.static yJ7_fill_53178, Cond.initialized RJ7, Cond.code yJ7_fill_53178 cJ7_fill_53178 4 none]
def wsX1_init : List Cond := .code yX1_init cX1_init 1 none :: ((wsX1_init_r1 ++ wsX1_init_r2) ++ wsX10 ++ wsX00)
def wsX1_isWithin : List Cond := .code yX1_isWithin cX1_isWithin 3 (some .boolean) :: ([])
def wsX1_isSort : List Cond := .code yX1_isSort cX1_isSort 1 (some .boolean) :: ([.methodLink RX1 72 yX1_isWithin, .static yX1_isWithin, .initialized RX1, .code yX1_isWithin cX1_isWithin 3 (some .boolean)])
def wsX1_setSort : List Cond := .code yX1_setSort cX1_setSort 5 (some .int) :: ([.classLink RX1 65 "java/lang/IndexOutOfBoundsException", .initialized "java/lang/IndexOutOfBoundsException", .classLink RX1 76 "java/lang/IllegalArgumentException", .initialized "java/lang/IllegalArgumentException", .fieldLink RX1 9 "TwinOrchard" "weights" "[I", .fieldLink RX1 13 "TwinOrchard" "hardiness" "[I", .methodLink RX1 61 yX1_isSort, .static yX1_isSort, .initialized RX1, .code yX1_isSort cX1_isSort 1 (some .boolean), .methodLink RX1 72 yX1_isWithin, .static yX1_isWithin, .code yX1_isWithin cX1_isWithin 3 (some .boolean)] ++ wsX10 ++ (vx_atS RX1 69 "java/lang/IndexOutOfBoundsException" ["java/lang/RuntimeException", "java/lang/Exception"]).filter goodWord ++ (vx_atS RX1 80 "java/lang/IllegalArgumentException" ["java/lang/RuntimeException", "java/lang/Exception"]).filter goodWord)
def wsX1_setFrost : List Cond := .code yX1_setFrost cX1_setFrost 4 (some .int) :: ([.classLink RX1 65 "java/lang/IndexOutOfBoundsException", .initialized "java/lang/IndexOutOfBoundsException", .classLink RX1 76 "java/lang/IllegalArgumentException", .initialized "java/lang/IllegalArgumentException", .fieldLink RX1 19 "TwinOrchard" "frosts" "[I", .methodLink RX1 72 yX1_isWithin, .static yX1_isWithin, .initialized RX1, .code yX1_isWithin cX1_isWithin 3 (some .boolean)] ++ wsX10 ++ (vx_atS RX1 69 "java/lang/IndexOutOfBoundsException" ["java/lang/RuntimeException", "java/lang/Exception"]).filter goodWord ++ (vx_atS RX1 80 "java/lang/IllegalArgumentException" ["java/lang/RuntimeException", "java/lang/Exception"]).filter goodWord)
def wsX1_isPlace : List Cond := .code yX1_isPlace cX1_isPlace 2 (some .boolean) :: ([.methodLink RX1 72 yX1_isWithin, .static yX1_isWithin, .initialized RX1, .code yX1_isWithin cX1_isWithin 3 (some .boolean)])
def wsX1_spotOf : List Cond := .code yX1_spotOf cX1_spotOf 2 (some .int) :: ([])
def wsX1_hasTree : List Cond := .code yX1_hasTree cX1_hasTree 2 (some .boolean) :: ([.fieldLink RX1 22 "TwinOrchard" "kinds" "[I"] ++ wsX10)
def wsX1_twinOf : List Cond := .code yX1_twinOf cX1_twinOf 1 (some .int) :: ([])
def wsX1_canPay : List Cond := .code yX1_canPay cX1_canPay 3 (some .boolean) :: ([.fieldLink RX1 35 "TwinOrchard" "strength" "[I", .methodLink RX1 202 yX1_twinOf, .static yX1_twinOf, .initialized RX1, .code yX1_twinOf cX1_twinOf 1 (some .int)] ++ wsX10)
def wsX1_pay : List Cond := .code yX1_pay cX1_pay 3 none :: ([.fieldLink RX1 35 "TwinOrchard" "strength" "[I", .methodLink RX1 202 yX1_twinOf, .static yX1_twinOf, .initialized RX1, .code yX1_twinOf cX1_twinOf 1 (some .int)] ++ wsX10)
def wsX1_plantAt : List Cond := .code yX1_plantAt cX1_plantAt 4 (some .boolean) :: ([.fieldLink RX1 22 "TwinOrchard" "kinds" "[I", .fieldLink RX1 25 "TwinOrchard" "branches" "[I", .fieldLink RX1 28 "TwinOrchard" "vigours" "[I", .fieldLink RX1 31 "TwinOrchard" "tired" "[Z", .methodLink RX1 121 yX1_hasTree, .instanceMethod yX1_hasTree, .selects RX1 yX1_hasTree yX1_hasTree, .initialized RX1, .code yX1_hasTree cX1_hasTree 2 (some .boolean), .methodLink RX1 205 yX1_canPay, .instanceMethod yX1_canPay, .selects RX1 yX1_canPay yX1_canPay, .code yX1_canPay cX1_canPay 3 (some .boolean), .fieldLink RX1 35 "TwinOrchard" "strength" "[I", .methodLink RX1 202 yX1_twinOf, .static yX1_twinOf, .code yX1_twinOf cX1_twinOf 1 (some .int), .methodLink RX1 208 yX1_pay, .instanceMethod yX1_pay, .selects RX1 yX1_pay yX1_pay, .code yX1_pay cX1_pay 3 none] ++ wsX10)
def wsX1_mirrorOf : List Cond := .code yX1_mirrorOf cX1_mirrorOf 2 (some .int) :: ([])
def wsX1_whoDidIt : List Cond := .code yX1_whoDidIt cX1_whoDidIt 2 (some .int) :: ([])
def wsX1_plant_r1 : List Cond := [Cond.classLink RX1 65 "java/lang/IndexOutOfBoundsException", Cond.initialized "java/lang/IndexOutOfBoundsException", Cond.classLink RX1 76 "java/lang/IllegalArgumentException", Cond.initialized "java/lang/IllegalArgumentException", Cond.methodLink RX1 85 yX1_isPlace, Cond.static yX1_isPlace, Cond.initialized RX1, Cond.code yX1_isPlace cX1_isPlace 2 (some .boolean), Cond.methodLink RX1 72 yX1_isWithin, Cond.static yX1_isWithin, Cond.code yX1_isWithin cX1_isWithin 3 (some .boolean), Cond.methodLink RX1 61 yX1_isSort, Cond.static yX1_isSort, Cond.code yX1_isSort cX1_isSort 1 (some .boolean), Cond.methodLink RX1 93 yX1_spotOf, Cond.static yX1_spotOf, Cond.code yX1_spotOf cX1_spotOf 2 (some .int), Cond.methodLink RX1 97 yX1_plantAt, Cond.instanceMethod yX1_plantAt, Cond.selects RX1 yX1_plantAt yX1_plantAt, Cond.code yX1_plantAt cX1_plantAt 4 (some .boolean), Cond.fieldLink RX1 22 "TwinOrchard" "kinds" "[I", Cond.fieldLink RX1 25 "TwinOrchard" "branches" "[I", Cond.fieldLink RX1 28 "TwinOrchard" "vigours" "[I"]
def wsX1_plant_r2 : List Cond := [Cond.fieldLink RX1 31 "TwinOrchard" "tired" "[Z", Cond.methodLink RX1 121 yX1_hasTree, Cond.instanceMethod yX1_hasTree, Cond.selects RX1 yX1_hasTree yX1_hasTree, Cond.code yX1_hasTree cX1_hasTree 2 (some .boolean), Cond.methodLink RX1 205 yX1_canPay, Cond.instanceMethod yX1_canPay, Cond.selects RX1 yX1_canPay yX1_canPay, Cond.code yX1_canPay cX1_canPay 3 (some .boolean), Cond.fieldLink RX1 35 "TwinOrchard" "strength" "[I", Cond.methodLink RX1 202 yX1_twinOf, Cond.static yX1_twinOf, Cond.code yX1_twinOf cX1_twinOf 1 (some .int), Cond.methodLink RX1 208 yX1_pay, Cond.instanceMethod yX1_pay, Cond.selects RX1 yX1_pay yX1_pay, Cond.code yX1_pay cX1_pay 3 none, Cond.methodLink RX1 100 yX1_mirrorOf, Cond.static yX1_mirrorOf, Cond.code yX1_mirrorOf cX1_mirrorOf 2 (some .int), Cond.methodLink RX1 104 yX1_whoDidIt, Cond.static yX1_whoDidIt, Cond.code yX1_whoDidIt cX1_whoDidIt 2 (some .int)]
def wsX1_plant : List Cond := .code yX1_plant cX1_plant 8 (some .int) :: ((wsX1_plant_r1 ++ wsX1_plant_r2) ++ wsX10 ++ (vx_atS RX1 69 "java/lang/IndexOutOfBoundsException" ["java/lang/RuntimeException", "java/lang/Exception"]).filter goodWord ++ (vx_atS RX1 80 "java/lang/IllegalArgumentException" ["java/lang/RuntimeException", "java/lang/Exception"]).filter goodWord)
def wsX1_canPrune : List Cond := .code yX1_canPrune cX1_canPrune 3 (some .boolean) :: ([.fieldLink RX1 25 "TwinOrchard" "branches" "[I", .methodLink RX1 121 yX1_hasTree, .instanceMethod yX1_hasTree, .selects RX1 yX1_hasTree yX1_hasTree, .initialized RX1, .code yX1_hasTree cX1_hasTree 2 (some .boolean), .fieldLink RX1 22 "TwinOrchard" "kinds" "[I", .methodLink RX1 205 yX1_canPay, .instanceMethod yX1_canPay, .selects RX1 yX1_canPay yX1_canPay, .code yX1_canPay cX1_canPay 3 (some .boolean), .fieldLink RX1 35 "TwinOrchard" "strength" "[I", .methodLink RX1 202 yX1_twinOf, .static yX1_twinOf, .code yX1_twinOf cX1_twinOf 1 (some .int)] ++ wsX10)
def wsX1_lookAt : List Cond := .code yX1_lookAt cX1_lookAt 2 none :: ([.fieldLink RX1 48 "TwinOrchard" "looked" "LTwinOrchard$Tree;", .fieldLink RX1 28 "TwinOrchard" "vigours" "[I", .fieldLink RX1 25 "TwinOrchard" "branches" "[I", .fieldLink RX1 31 "TwinOrchard" "tired" "[Z", .fieldLink RX1 13 "TwinOrchard" "hardiness" "[I", .fieldLink RX1 22 "TwinOrchard" "kinds" "[I", .methodLink RX1 121 yX1_hasTree, .instanceMethod yX1_hasTree, .selects RX1 yX1_hasTree yX1_hasTree, .initialized RX1, .code yX1_hasTree cX1_hasTree 2 (some .boolean)] ++ wsX10 ++ wsX00)
def wsX1_keepLooked : List Cond := .code yX1_keepLooked cX1_keepLooked 2 none :: ([.fieldLink RX1 25 "TwinOrchard" "branches" "[I", .fieldLink RX1 48 "TwinOrchard" "looked" "LTwinOrchard$Tree;", .fieldLink RX1 31 "TwinOrchard" "tired" "[Z"] ++ wsX10 ++ wsX00)
def wsX1_pruneAt_r1 : List Cond := [Cond.fieldLink RX1 48 "TwinOrchard" "looked" "LTwinOrchard$Tree;", Cond.methodLink RX1 212 yX1_canPrune, Cond.instanceMethod yX1_canPrune, Cond.selects RX1 yX1_canPrune yX1_canPrune, Cond.initialized RX1, Cond.code yX1_canPrune cX1_canPrune 3 (some .boolean), Cond.fieldLink RX1 25 "TwinOrchard" "branches" "[I", Cond.methodLink RX1 121 yX1_hasTree, Cond.instanceMethod yX1_hasTree, Cond.selects RX1 yX1_hasTree yX1_hasTree, Cond.code yX1_hasTree cX1_hasTree 2 (some .boolean), Cond.fieldLink RX1 22 "TwinOrchard" "kinds" "[I", Cond.methodLink RX1 205 yX1_canPay, Cond.instanceMethod yX1_canPay, Cond.selects RX1 yX1_canPay yX1_canPay, Cond.code yX1_canPay cX1_canPay 3 (some .boolean), Cond.fieldLink RX1 35 "TwinOrchard" "strength" "[I", Cond.methodLink RX1 202 yX1_twinOf, Cond.static yX1_twinOf, Cond.code yX1_twinOf cX1_twinOf 1 (some .int), Cond.methodLink RX1 208 yX1_pay, Cond.instanceMethod yX1_pay, Cond.selects RX1 yX1_pay yX1_pay, Cond.code yX1_pay cX1_pay 3 none]
def wsX1_pruneAt_r2 : List Cond := [Cond.methodLink RX1 170 yX1_lookAt, Cond.instanceMethod yX1_lookAt, Cond.selects RX1 yX1_lookAt yX1_lookAt, Cond.code yX1_lookAt cX1_lookAt 2 none, Cond.fieldLink RX1 28 "TwinOrchard" "vigours" "[I", Cond.fieldLink RX1 31 "TwinOrchard" "tired" "[Z", Cond.fieldLink RX1 13 "TwinOrchard" "hardiness" "[I", Cond.instanceMethod yX0_shorten, Cond.initialized RX0, Cond.selects RX0 yX0_shorten yX0_shorten, Cond.code yX0_shorten cX0_shorten 2 none, Cond.fieldLink RX0 9 "TwinOrchard$Tree" "branches" "I", Cond.fieldLink RX0 15 "TwinOrchard$Tree" "tired" "Z", Cond.methodLink RX1 218 yX1_keepLooked, Cond.instanceMethod yX1_keepLooked, Cond.selects RX1 yX1_keepLooked yX1_keepLooked, Cond.code yX1_keepLooked cX1_keepLooked 2 none]
def wsX1_pruneAt : List Cond := .code yX1_pruneAt cX1_pruneAt 3 (some .boolean) :: ((wsX1_pruneAt_r1 ++ wsX1_pruneAt_r2) ++ wsX10 ++ wsX00)
def wsX1_prune_r1 : List Cond := [Cond.classLink RX1 65 "java/lang/IndexOutOfBoundsException", Cond.initialized "java/lang/IndexOutOfBoundsException", Cond.classLink RX1 76 "java/lang/IllegalArgumentException", Cond.initialized "java/lang/IllegalArgumentException", Cond.methodLink RX1 85 yX1_isPlace, Cond.static yX1_isPlace, Cond.initialized RX1, Cond.code yX1_isPlace cX1_isPlace 2 (some .boolean), Cond.methodLink RX1 72 yX1_isWithin, Cond.static yX1_isWithin, Cond.code yX1_isWithin cX1_isWithin 3 (some .boolean), Cond.methodLink RX1 93 yX1_spotOf, Cond.static yX1_spotOf, Cond.code yX1_spotOf cX1_spotOf 2 (some .int), Cond.methodLink RX1 110 yX1_pruneAt, Cond.instanceMethod yX1_pruneAt, Cond.selects RX1 yX1_pruneAt yX1_pruneAt, Cond.code yX1_pruneAt cX1_pruneAt 3 (some .boolean), Cond.fieldLink RX1 48 "TwinOrchard" "looked" "LTwinOrchard$Tree;", Cond.methodLink RX1 212 yX1_canPrune, Cond.instanceMethod yX1_canPrune, Cond.selects RX1 yX1_canPrune yX1_canPrune, Cond.code yX1_canPrune cX1_canPrune 3 (some .boolean), Cond.fieldLink RX1 25 "TwinOrchard" "branches" "[I"]
def wsX1_prune_r2 : List Cond := [Cond.methodLink RX1 121 yX1_hasTree, Cond.instanceMethod yX1_hasTree, Cond.selects RX1 yX1_hasTree yX1_hasTree, Cond.code yX1_hasTree cX1_hasTree 2 (some .boolean), Cond.fieldLink RX1 22 "TwinOrchard" "kinds" "[I", Cond.methodLink RX1 205 yX1_canPay, Cond.instanceMethod yX1_canPay, Cond.selects RX1 yX1_canPay yX1_canPay, Cond.code yX1_canPay cX1_canPay 3 (some .boolean), Cond.fieldLink RX1 35 "TwinOrchard" "strength" "[I", Cond.methodLink RX1 202 yX1_twinOf, Cond.static yX1_twinOf, Cond.code yX1_twinOf cX1_twinOf 1 (some .int), Cond.methodLink RX1 208 yX1_pay, Cond.instanceMethod yX1_pay, Cond.selects RX1 yX1_pay yX1_pay, Cond.code yX1_pay cX1_pay 3 none, Cond.methodLink RX1 170 yX1_lookAt, Cond.instanceMethod yX1_lookAt, Cond.selects RX1 yX1_lookAt yX1_lookAt, Cond.code yX1_lookAt cX1_lookAt 2 none, Cond.fieldLink RX1 28 "TwinOrchard" "vigours" "[I", Cond.fieldLink RX1 31 "TwinOrchard" "tired" "[Z", Cond.fieldLink RX1 13 "TwinOrchard" "hardiness" "[I"]
def wsX1_prune_r3 : List Cond := [Cond.instanceMethod yX0_shorten, Cond.initialized RX0, Cond.selects RX0 yX0_shorten yX0_shorten, Cond.code yX0_shorten cX0_shorten 2 none, Cond.fieldLink RX0 9 "TwinOrchard$Tree" "branches" "I", Cond.fieldLink RX0 15 "TwinOrchard$Tree" "tired" "Z", Cond.methodLink RX1 218 yX1_keepLooked, Cond.instanceMethod yX1_keepLooked, Cond.selects RX1 yX1_keepLooked yX1_keepLooked, Cond.code yX1_keepLooked cX1_keepLooked 2 none, Cond.methodLink RX1 100 yX1_mirrorOf, Cond.static yX1_mirrorOf, Cond.code yX1_mirrorOf cX1_mirrorOf 2 (some .int), Cond.methodLink RX1 104 yX1_whoDidIt, Cond.static yX1_whoDidIt, Cond.code yX1_whoDidIt cX1_whoDidIt 2 (some .int)]
def wsX1_prune : List Cond := .code yX1_prune cX1_prune 7 (some .int) :: ((wsX1_prune_r1 ++ (wsX1_prune_r2 ++ wsX1_prune_r3)) ++ wsX10 ++ wsX00 ++ (vx_atS RX1 69 "java/lang/IndexOutOfBoundsException" ["java/lang/RuntimeException", "java/lang/Exception"]).filter goodWord ++ (vx_atS RX1 80 "java/lang/IllegalArgumentException" ["java/lang/RuntimeException", "java/lang/Exception"]).filter goodWord)
def wsX1_graftAt : List Cond := .code yX1_graftAt cX1_graftAt 3 (some .boolean) :: ([.fieldLink RX1 22 "TwinOrchard" "kinds" "[I", .fieldLink RX1 25 "TwinOrchard" "branches" "[I", .methodLink RX1 221 Lib.Math.max.name, .static Lib.Math.max.name, .initialized "java/lang/Math", .code Lib.Math.max.name Lib.Math.max.code 2 (some .int), .methodLink RX1 121 yX1_hasTree, .instanceMethod yX1_hasTree, .selects RX1 yX1_hasTree yX1_hasTree, .initialized RX1, .code yX1_hasTree cX1_hasTree 2 (some .boolean), .methodLink RX1 205 yX1_canPay, .instanceMethod yX1_canPay, .selects RX1 yX1_canPay yX1_canPay, .code yX1_canPay cX1_canPay 3 (some .boolean), .fieldLink RX1 35 "TwinOrchard" "strength" "[I", .methodLink RX1 202 yX1_twinOf, .static yX1_twinOf, .code yX1_twinOf cX1_twinOf 1 (some .int), .methodLink RX1 208 yX1_pay, .instanceMethod yX1_pay, .selects RX1 yX1_pay yX1_pay, .code yX1_pay cX1_pay 3 none] ++ wsX10)
def wsX1_graft_r1 : List Cond := [Cond.classLink RX1 65 "java/lang/IndexOutOfBoundsException", Cond.initialized "java/lang/IndexOutOfBoundsException", Cond.classLink RX1 76 "java/lang/IllegalArgumentException", Cond.initialized "java/lang/IllegalArgumentException", Cond.methodLink RX1 85 yX1_isPlace, Cond.static yX1_isPlace, Cond.initialized RX1, Cond.code yX1_isPlace cX1_isPlace 2 (some .boolean), Cond.methodLink RX1 72 yX1_isWithin, Cond.static yX1_isWithin, Cond.code yX1_isWithin cX1_isWithin 3 (some .boolean), Cond.methodLink RX1 61 yX1_isSort, Cond.static yX1_isSort, Cond.code yX1_isSort cX1_isSort 1 (some .boolean), Cond.methodLink RX1 93 yX1_spotOf, Cond.static yX1_spotOf, Cond.code yX1_spotOf cX1_spotOf 2 (some .int), Cond.methodLink RX1 113 yX1_graftAt, Cond.instanceMethod yX1_graftAt, Cond.selects RX1 yX1_graftAt yX1_graftAt, Cond.code yX1_graftAt cX1_graftAt 3 (some .boolean), Cond.fieldLink RX1 22 "TwinOrchard" "kinds" "[I", Cond.fieldLink RX1 25 "TwinOrchard" "branches" "[I", Cond.methodLink RX1 221 Lib.Math.max.name]
def wsX1_graft_r2 : List Cond := [Cond.static Lib.Math.max.name, Cond.initialized "java/lang/Math", Cond.code Lib.Math.max.name Lib.Math.max.code 2 (some .int), Cond.methodLink RX1 121 yX1_hasTree, Cond.instanceMethod yX1_hasTree, Cond.selects RX1 yX1_hasTree yX1_hasTree, Cond.code yX1_hasTree cX1_hasTree 2 (some .boolean), Cond.methodLink RX1 205 yX1_canPay, Cond.instanceMethod yX1_canPay, Cond.selects RX1 yX1_canPay yX1_canPay, Cond.code yX1_canPay cX1_canPay 3 (some .boolean), Cond.fieldLink RX1 35 "TwinOrchard" "strength" "[I", Cond.methodLink RX1 202 yX1_twinOf, Cond.static yX1_twinOf, Cond.code yX1_twinOf cX1_twinOf 1 (some .int), Cond.methodLink RX1 208 yX1_pay, Cond.instanceMethod yX1_pay, Cond.selects RX1 yX1_pay yX1_pay, Cond.code yX1_pay cX1_pay 3 none, Cond.methodLink RX1 100 yX1_mirrorOf, Cond.static yX1_mirrorOf, Cond.code yX1_mirrorOf cX1_mirrorOf 2 (some .int), Cond.methodLink RX1 104 yX1_whoDidIt, Cond.static yX1_whoDidIt]
def wsX1_graft_r3 : List Cond := [Cond.code yX1_whoDidIt cX1_whoDidIt 2 (some .int)]
def wsX1_graft : List Cond := .code yX1_graft cX1_graft 7 (some .int) :: ((wsX1_graft_r1 ++ (wsX1_graft_r2 ++ wsX1_graft_r3)) ++ wsX10 ++ (vx_atS RX1 69 "java/lang/IndexOutOfBoundsException" ["java/lang/RuntimeException", "java/lang/Exception"]).filter goodWord ++ (vx_atS RX1 80 "java/lang/IllegalArgumentException" ["java/lang/RuntimeException", "java/lang/Exception"]).filter goodWord)
def wsX1_fellAt : List Cond := .code yX1_fellAt cX1_fellAt 2 (some .boolean) :: ([.fieldLink RX1 22 "TwinOrchard" "kinds" "[I", .fieldLink RX1 25 "TwinOrchard" "branches" "[I", .fieldLink RX1 28 "TwinOrchard" "vigours" "[I", .fieldLink RX1 31 "TwinOrchard" "tired" "[Z", .methodLink RX1 121 yX1_hasTree, .instanceMethod yX1_hasTree, .selects RX1 yX1_hasTree yX1_hasTree, .initialized RX1, .code yX1_hasTree cX1_hasTree 2 (some .boolean), .methodLink RX1 205 yX1_canPay, .instanceMethod yX1_canPay, .selects RX1 yX1_canPay yX1_canPay, .code yX1_canPay cX1_canPay 3 (some .boolean), .fieldLink RX1 35 "TwinOrchard" "strength" "[I", .methodLink RX1 202 yX1_twinOf, .static yX1_twinOf, .code yX1_twinOf cX1_twinOf 1 (some .int), .methodLink RX1 208 yX1_pay, .instanceMethod yX1_pay, .selects RX1 yX1_pay yX1_pay, .code yX1_pay cX1_pay 3 none] ++ wsX10)
def wsX1_fell_r1 : List Cond := [Cond.classLink RX1 65 "java/lang/IndexOutOfBoundsException", Cond.initialized "java/lang/IndexOutOfBoundsException", Cond.methodLink RX1 85 yX1_isPlace, Cond.static yX1_isPlace, Cond.initialized RX1, Cond.code yX1_isPlace cX1_isPlace 2 (some .boolean), Cond.methodLink RX1 72 yX1_isWithin, Cond.static yX1_isWithin, Cond.code yX1_isWithin cX1_isWithin 3 (some .boolean), Cond.methodLink RX1 93 yX1_spotOf, Cond.static yX1_spotOf, Cond.code yX1_spotOf cX1_spotOf 2 (some .int), Cond.methodLink RX1 116 yX1_fellAt, Cond.instanceMethod yX1_fellAt, Cond.selects RX1 yX1_fellAt yX1_fellAt, Cond.code yX1_fellAt cX1_fellAt 2 (some .boolean), Cond.fieldLink RX1 22 "TwinOrchard" "kinds" "[I", Cond.fieldLink RX1 25 "TwinOrchard" "branches" "[I", Cond.fieldLink RX1 28 "TwinOrchard" "vigours" "[I", Cond.fieldLink RX1 31 "TwinOrchard" "tired" "[Z", Cond.methodLink RX1 121 yX1_hasTree, Cond.instanceMethod yX1_hasTree, Cond.selects RX1 yX1_hasTree yX1_hasTree, Cond.code yX1_hasTree cX1_hasTree 2 (some .boolean)]
def wsX1_fell_r2 : List Cond := [Cond.methodLink RX1 205 yX1_canPay, Cond.instanceMethod yX1_canPay, Cond.selects RX1 yX1_canPay yX1_canPay, Cond.code yX1_canPay cX1_canPay 3 (some .boolean), Cond.fieldLink RX1 35 "TwinOrchard" "strength" "[I", Cond.methodLink RX1 202 yX1_twinOf, Cond.static yX1_twinOf, Cond.code yX1_twinOf cX1_twinOf 1 (some .int), Cond.methodLink RX1 208 yX1_pay, Cond.instanceMethod yX1_pay, Cond.selects RX1 yX1_pay yX1_pay, Cond.code yX1_pay cX1_pay 3 none, Cond.methodLink RX1 100 yX1_mirrorOf, Cond.static yX1_mirrorOf, Cond.code yX1_mirrorOf cX1_mirrorOf 2 (some .int), Cond.methodLink RX1 104 yX1_whoDidIt, Cond.static yX1_whoDidIt, Cond.code yX1_whoDidIt cX1_whoDidIt 2 (some .int)]
def wsX1_fell : List Cond := .code yX1_fell cX1_fell 6 (some .int) :: ((wsX1_fell_r1 ++ wsX1_fell_r2) ++ wsX10 ++ (vx_atS RX1 69 "java/lang/IndexOutOfBoundsException" ["java/lang/RuntimeException", "java/lang/Exception"]).filter goodWord)
def wsX1_applesNow : List Cond := .code yX1_applesNow cX1_applesNow 2 (some .int) :: ([.fieldLink RX1 48 "TwinOrchard" "looked" "LTwinOrchard$Tree;", .methodLink RX1 170 yX1_lookAt, .instanceMethod yX1_lookAt, .selects RX1 yX1_lookAt yX1_lookAt, .initialized RX1, .code yX1_lookAt cX1_lookAt 2 none, .fieldLink RX1 28 "TwinOrchard" "vigours" "[I", .fieldLink RX1 25 "TwinOrchard" "branches" "[I", .fieldLink RX1 31 "TwinOrchard" "tired" "[Z", .fieldLink RX1 13 "TwinOrchard" "hardiness" "[I", .fieldLink RX1 22 "TwinOrchard" "kinds" "[I", .methodLink RX1 121 yX1_hasTree, .instanceMethod yX1_hasTree, .selects RX1 yX1_hasTree yX1_hasTree, .code yX1_hasTree cX1_hasTree 2 (some .boolean), .instanceMethod yX0_apples, .initialized RX0, .selects RX0 yX0_apples yX0_apples, .code yX0_apples cX0_apples 2 (some .int), .fieldLink RX0 9 "TwinOrchard$Tree" "branches" "I", .fieldLink RX0 19 "TwinOrchard$Tree" "vigour" "I", .fieldLink RX0 15 "TwinOrchard$Tree" "tired" "Z"] ++ wsX10 ++ wsX00)
def wsX1_tree_r1 : List Cond := [Cond.classLink RX1 65 "java/lang/IndexOutOfBoundsException", Cond.initialized "java/lang/IndexOutOfBoundsException", Cond.fieldLink RX1 25 "TwinOrchard" "branches" "[I", Cond.fieldLink RX1 28 "TwinOrchard" "vigours" "[I", Cond.fieldLink RX1 22 "TwinOrchard" "kinds" "[I", Cond.fieldLink RX1 31 "TwinOrchard" "tired" "[Z", Cond.methodLink RX1 85 yX1_isPlace, Cond.static yX1_isPlace, Cond.initialized RX1, Cond.code yX1_isPlace cX1_isPlace 2 (some .boolean), Cond.methodLink RX1 72 yX1_isWithin, Cond.static yX1_isWithin, Cond.code yX1_isWithin cX1_isWithin 3 (some .boolean), Cond.methodLink RX1 93 yX1_spotOf, Cond.static yX1_spotOf, Cond.code yX1_spotOf cX1_spotOf 2 (some .int), Cond.methodLink RX1 121 yX1_hasTree, Cond.instanceMethod yX1_hasTree, Cond.selects RX1 yX1_hasTree yX1_hasTree, Cond.code yX1_hasTree cX1_hasTree 2 (some .boolean), Cond.methodLink RX1 124 yX1_applesNow, Cond.instanceMethod yX1_applesNow, Cond.selects RX1 yX1_applesNow yX1_applesNow, Cond.code yX1_applesNow cX1_applesNow 2 (some .int)]
def wsX1_tree_r2 : List Cond := [Cond.fieldLink RX1 48 "TwinOrchard" "looked" "LTwinOrchard$Tree;", Cond.methodLink RX1 170 yX1_lookAt, Cond.instanceMethod yX1_lookAt, Cond.selects RX1 yX1_lookAt yX1_lookAt, Cond.code yX1_lookAt cX1_lookAt 2 none, Cond.fieldLink RX1 13 "TwinOrchard" "hardiness" "[I", Cond.instanceMethod yX0_apples, Cond.initialized RX0, Cond.selects RX0 yX0_apples yX0_apples, Cond.code yX0_apples cX0_apples 2 (some .int), Cond.fieldLink RX0 9 "TwinOrchard$Tree" "branches" "I", Cond.fieldLink RX0 19 "TwinOrchard$Tree" "vigour" "I", Cond.fieldLink RX0 15 "TwinOrchard$Tree" "tired" "Z"]
def wsX1_tree : List Cond := .code yX1_tree cX1_tree 5 (some .int) :: ((wsX1_tree_r1 ++ wsX1_tree_r2) ++ wsX10 ++ wsX00 ++ (vx_atS RX1 69 "java/lang/IndexOutOfBoundsException" ["java/lang/RuntimeException", "java/lang/Exception"]).filter goodWord)
def wsX1_treesOfSort : List Cond := .code yX1_treesOfSort cX1_treesOfSort 4 (some .int) :: ([.fieldLink RX1 22 "TwinOrchard" "kinds" "[I"] ++ wsX10)
def wsX1_sort : List Cond := .code yX1_sort cX1_sort 3 (some .int) :: ([.classLink RX1 65 "java/lang/IndexOutOfBoundsException", .initialized "java/lang/IndexOutOfBoundsException", .fieldLink RX1 9 "TwinOrchard" "weights" "[I", .fieldLink RX1 13 "TwinOrchard" "hardiness" "[I", .fieldLink RX1 16 "TwinOrchard" "barn" "[I", .methodLink RX1 61 yX1_isSort, .static yX1_isSort, .initialized RX1, .code yX1_isSort cX1_isSort 1 (some .boolean), .methodLink RX1 72 yX1_isWithin, .static yX1_isWithin, .code yX1_isWithin cX1_isWithin 3 (some .boolean), .methodLink RX1 129 yX1_treesOfSort, .instanceMethod yX1_treesOfSort, .selects RX1 yX1_treesOfSort yX1_treesOfSort, .code yX1_treesOfSort cX1_treesOfSort 4 (some .int), .fieldLink RX1 22 "TwinOrchard" "kinds" "[I"] ++ wsX10 ++ (vx_atS RX1 69 "java/lang/IndexOutOfBoundsException" ["java/lang/RuntimeException", "java/lang/Exception"]).filter goodWord)
def wsX1_allTrees : List Cond := .code yX1_allTrees cX1_allTrees 3 (some .int) :: ([.methodLink RX1 121 yX1_hasTree, .instanceMethod yX1_hasTree, .selects RX1 yX1_hasTree yX1_hasTree, .initialized RX1, .code yX1_hasTree cX1_hasTree 2 (some .boolean), .fieldLink RX1 22 "TwinOrchard" "kinds" "[I"] ++ wsX10)
def wsX1_allTired : List Cond := .code yX1_allTired cX1_allTired 3 (some .int) :: ([.fieldLink RX1 31 "TwinOrchard" "tired" "[Z"] ++ wsX10)
def wsX1_applesInBarn : List Cond := .code yX1_applesInBarn cX1_applesInBarn 3 (some .int) :: ([.fieldLink RX1 16 "TwinOrchard" "barn" "[I"] ++ wsX10)
def wsX1_weightInBarn : List Cond := .code yX1_weightInBarn cX1_weightInBarn 3 (some .int) :: ([.fieldLink RX1 16 "TwinOrchard" "barn" "[I", .fieldLink RX1 9 "TwinOrchard" "weights" "[I"] ++ wsX10)
def wsX1_unlikePairs : List Cond := .code yX1_unlikePairs cX1_unlikePairs 6 (some .int) :: ([.fieldLink RX1 22 "TwinOrchard" "kinds" "[I", .fieldLink RX1 25 "TwinOrchard" "branches" "[I", .methodLink RX1 93 yX1_spotOf, .static yX1_spotOf, .initialized RX1, .code yX1_spotOf cX1_spotOf 2 (some .int), .methodLink RX1 100 yX1_mirrorOf, .static yX1_mirrorOf, .code yX1_mirrorOf cX1_mirrorOf 2 (some .int)] ++ wsX10)
def wsX1_count_r1 : List Cond := [Cond.classLink RX1 65 "java/lang/IndexOutOfBoundsException", Cond.initialized "java/lang/IndexOutOfBoundsException", Cond.fieldLink RX1 38 "TwinOrchard" "year" "I", Cond.fieldLink RX1 35 "TwinOrchard" "strength" "[I", Cond.methodLink RX1 72 yX1_isWithin, Cond.static yX1_isWithin, Cond.initialized RX1, Cond.code yX1_isWithin cX1_isWithin 3 (some .boolean), Cond.methodLink RX1 134 yX1_allTrees, Cond.instanceMethod yX1_allTrees, Cond.selects RX1 yX1_allTrees yX1_allTrees, Cond.code yX1_allTrees cX1_allTrees 3 (some .int), Cond.methodLink RX1 121 yX1_hasTree, Cond.instanceMethod yX1_hasTree, Cond.selects RX1 yX1_hasTree yX1_hasTree, Cond.code yX1_hasTree cX1_hasTree 2 (some .boolean), Cond.fieldLink RX1 22 "TwinOrchard" "kinds" "[I", Cond.methodLink RX1 138 yX1_allTired, Cond.instanceMethod yX1_allTired, Cond.selects RX1 yX1_allTired yX1_allTired, Cond.code yX1_allTired cX1_allTired 3 (some .int), Cond.fieldLink RX1 31 "TwinOrchard" "tired" "[Z", Cond.methodLink RX1 141 yX1_applesInBarn, Cond.instanceMethod yX1_applesInBarn]
def wsX1_count_r2 : List Cond := [Cond.selects RX1 yX1_applesInBarn yX1_applesInBarn, Cond.code yX1_applesInBarn cX1_applesInBarn 3 (some .int), Cond.fieldLink RX1 16 "TwinOrchard" "barn" "[I", Cond.methodLink RX1 144 yX1_weightInBarn, Cond.instanceMethod yX1_weightInBarn, Cond.selects RX1 yX1_weightInBarn yX1_weightInBarn, Cond.code yX1_weightInBarn cX1_weightInBarn 3 (some .int), Cond.fieldLink RX1 9 "TwinOrchard" "weights" "[I", Cond.methodLink RX1 147 yX1_unlikePairs, Cond.instanceMethod yX1_unlikePairs, Cond.selects RX1 yX1_unlikePairs yX1_unlikePairs, Cond.code yX1_unlikePairs cX1_unlikePairs 6 (some .int), Cond.fieldLink RX1 25 "TwinOrchard" "branches" "[I", Cond.methodLink RX1 93 yX1_spotOf, Cond.static yX1_spotOf, Cond.code yX1_spotOf cX1_spotOf 2 (some .int), Cond.methodLink RX1 100 yX1_mirrorOf, Cond.static yX1_mirrorOf, Cond.code yX1_mirrorOf cX1_mirrorOf 2 (some .int)]
def wsX1_count : List Cond := .code yX1_count cX1_count 2 (some .int) :: ((wsX1_count_r1 ++ wsX1_count_r2) ++ wsX10 ++ (vx_atS RX1 69 "java/lang/IndexOutOfBoundsException" ["java/lang/RuntimeException", "java/lang/Exception"]).filter goodWord)
def wsX1_leans_r1 : List Cond := [Cond.classLink RX1 65 "java/lang/IndexOutOfBoundsException", Cond.initialized "java/lang/IndexOutOfBoundsException", Cond.methodLink RX1 72 yX1_isWithin, Cond.static yX1_isWithin, Cond.initialized RX1, Cond.code yX1_isWithin cX1_isWithin 3 (some .boolean), Cond.methodLink RX1 93 yX1_spotOf, Cond.static yX1_spotOf, Cond.code yX1_spotOf cX1_spotOf 2 (some .int), Cond.methodLink RX1 124 yX1_applesNow, Cond.instanceMethod yX1_applesNow, Cond.selects RX1 yX1_applesNow yX1_applesNow, Cond.code yX1_applesNow cX1_applesNow 2 (some .int), Cond.fieldLink RX1 48 "TwinOrchard" "looked" "LTwinOrchard$Tree;", Cond.methodLink RX1 170 yX1_lookAt, Cond.instanceMethod yX1_lookAt, Cond.selects RX1 yX1_lookAt yX1_lookAt, Cond.code yX1_lookAt cX1_lookAt 2 none, Cond.fieldLink RX1 28 "TwinOrchard" "vigours" "[I", Cond.fieldLink RX1 25 "TwinOrchard" "branches" "[I", Cond.fieldLink RX1 31 "TwinOrchard" "tired" "[Z", Cond.fieldLink RX1 13 "TwinOrchard" "hardiness" "[I", Cond.fieldLink RX1 22 "TwinOrchard" "kinds" "[I", Cond.methodLink RX1 121 yX1_hasTree]
def wsX1_leans_r2 : List Cond := [Cond.instanceMethod yX1_hasTree, Cond.selects RX1 yX1_hasTree yX1_hasTree, Cond.code yX1_hasTree cX1_hasTree 2 (some .boolean), Cond.instanceMethod yX0_apples, Cond.initialized RX0, Cond.selects RX0 yX0_apples yX0_apples, Cond.code yX0_apples cX0_apples 2 (some .int), Cond.fieldLink RX0 9 "TwinOrchard$Tree" "branches" "I", Cond.fieldLink RX0 19 "TwinOrchard$Tree" "vigour" "I", Cond.fieldLink RX0 15 "TwinOrchard$Tree" "tired" "Z", Cond.methodLink RX1 100 yX1_mirrorOf, Cond.static yX1_mirrorOf, Cond.code yX1_mirrorOf cX1_mirrorOf 2 (some .int)]
def wsX1_leans : List Cond := .code yX1_leans cX1_leans 5 (some .int) :: ((wsX1_leans_r1 ++ wsX1_leans_r2) ++ wsX10 ++ wsX00 ++ (vx_atS RX1 69 "java/lang/IndexOutOfBoundsException" ["java/lang/RuntimeException", "java/lang/Exception"]).filter goodWord)
def wsX1_carry : List Cond := .code yX1_carry cX1_carry 4 (some .int) :: ([.classLink RX1 65 "java/lang/IndexOutOfBoundsException", .initialized "java/lang/IndexOutOfBoundsException", .classLink RX1 76 "java/lang/IllegalArgumentException", .initialized "java/lang/IllegalArgumentException", .classLink RX1 154 "java/lang/IllegalStateException", .initialized "java/lang/IllegalStateException", .fieldLink RX1 16 "TwinOrchard" "barn" "[I", .fieldLink RX1 42 "TwinOrchard" "carriedLeftMore" "I", .fieldLink RX1 9 "TwinOrchard" "weights" "[I", .methodLink RX1 61 yX1_isSort, .static yX1_isSort, .initialized RX1, .code yX1_isSort cX1_isSort 1 (some .boolean), .methodLink RX1 72 yX1_isWithin, .static yX1_isWithin, .code yX1_isWithin cX1_isWithin 3 (some .boolean)] ++ wsX10 ++ (vx_atS RX1 69 "java/lang/IndexOutOfBoundsException" ["java/lang/RuntimeException", "java/lang/Exception"]).filter goodWord ++ (vx_atS RX1 80 "java/lang/IllegalArgumentException" ["java/lang/RuntimeException", "java/lang/Exception"]).filter goodWord ++ (vx_atS RX1 158 "java/lang/IllegalStateException" ["java/lang/RuntimeException", "java/lang/Exception"]).filter goodWord)
def wsX1_tilt : List Cond := .code yX1_tilt cX1_tilt 1 (some .int) :: ([.fieldLink RX1 42 "TwinOrchard" "carriedLeftMore" "I"] ++ wsX10)
def wsX1_balancedApples : List Cond := .code yX1_balancedApples cX1_balancedApples 2 (some .int) :: ([.fieldLink RX1 16 "TwinOrchard" "barn" "[I", .methodLink RX1 226 Lib.Math.min.name, .static Lib.Math.min.name, .initialized "java/lang/Math", .code Lib.Math.min.name Lib.Math.min.code 2 (some .int), .methodLink RX1 221 Lib.Math.max.name, .static Lib.Math.max.name, .code Lib.Math.max.name Lib.Math.max.code 2 (some .int)] ++ wsX10)
def wsX1_reachWithSort : List Cond := .code yX1_reachWithSort cX1_reachWithSort 5 none :: ([.fieldLink RX1 52 "TwinOrchard" "fewest" "[I"] ++ wsX10)
def wsX1_heaviestUpTo : List Cond := .code yX1_heaviestUpTo cX1_heaviestUpTo 3 (some .int) :: ([.fieldLink RX1 52 "TwinOrchard" "fewest" "[I", .fieldLink RX1 9 "TwinOrchard" "weights" "[I", .methodLink RX1 226 Lib.Math.min.name, .static Lib.Math.min.name, .initialized "java/lang/Math", .code Lib.Math.min.name Lib.Math.min.code 2 (some .int), .methodLink RX1 55 yJ7_fill_53178, .static yJ7_fill_53178, .initialized RJ7, .code yJ7_fill_53178 cJ7_fill_53178 4 none, .methodLink RX1 159 yX1_balancedApples, .instanceMethod yX1_balancedApples, .selects RX1 yX1_balancedApples yX1_balancedApples, .initialized RX1, .code yX1_balancedApples cX1_balancedApples 2 (some .int), .fieldLink RX1 16 "TwinOrchard" "barn" "[I", .methodLink RX1 221 Lib.Math.max.name, .static Lib.Math.max.name, .code Lib.Math.max.name Lib.Math.max.code 2 (some .int), .methodLink RX1 229 yX1_reachWithSort, .instanceMethod yX1_reachWithSort, .selects RX1 yX1_reachWithSort yX1_reachWithSort, .code yX1_reachWithSort cX1_reachWithSort 5 none] ++ wsX10)
def wsX1_balance_r1 : List Cond := [Cond.fieldLink RX1 9 "TwinOrchard" "weights" "[I", Cond.methodLink RX1 159 yX1_balancedApples, Cond.instanceMethod yX1_balancedApples, Cond.selects RX1 yX1_balancedApples yX1_balancedApples, Cond.initialized RX1, Cond.code yX1_balancedApples cX1_balancedApples 2 (some .int), Cond.fieldLink RX1 16 "TwinOrchard" "barn" "[I", Cond.methodLink RX1 226 Lib.Math.min.name, Cond.static Lib.Math.min.name, Cond.initialized "java/lang/Math", Cond.code Lib.Math.min.name Lib.Math.min.code 2 (some .int), Cond.methodLink RX1 221 Lib.Math.max.name, Cond.static Lib.Math.max.name, Cond.code Lib.Math.max.name Lib.Math.max.code 2 (some .int), Cond.methodLink RX1 162 yX1_heaviestUpTo, Cond.instanceMethod yX1_heaviestUpTo, Cond.selects RX1 yX1_heaviestUpTo yX1_heaviestUpTo, Cond.code yX1_heaviestUpTo cX1_heaviestUpTo 3 (some .int), Cond.fieldLink RX1 52 "TwinOrchard" "fewest" "[I", Cond.methodLink RX1 55 yJ7_fill_53178, Cond.static yJ7_fill_53178, Cond.initialized RJ7, Cond.code yJ7_fill_53178 cJ7_fill_53178 4 none, Cond.methodLink RX1 229 yX1_reachWithSort]
def wsX1_balance_r2 : List Cond := [Cond.instanceMethod yX1_reachWithSort, Cond.selects RX1 yX1_reachWithSort yX1_reachWithSort, Cond.code yX1_reachWithSort cX1_reachWithSort 5 none]
def wsX1_balance : List Cond := .code yX1_balance cX1_balance 3 (some .int) :: ((wsX1_balance_r1 ++ wsX1_balance_r2) ++ wsX10)
def wsJ9_floorMod_7cf53 : List Cond := .code yJ9_floorMod_7cf53 cJ9_floorMod_7cf53 3 (some .int) :: ([])
def wsX1_liveLooked_r1 : List Cond := [Cond.fieldLink RX1 48 "TwinOrchard" "looked" "LTwinOrchard$Tree;", Cond.fieldLink RX1 19 "TwinOrchard" "frosts" "[I", Cond.fieldLink RX1 38 "TwinOrchard" "year" "I", Cond.methodLink RX1 240 yJ9_floorMod_7cf53, Cond.static yJ9_floorMod_7cf53, Cond.initialized RJ9, Cond.code yJ9_floorMod_7cf53 cJ9_floorMod_7cf53 3 (some .int), Cond.instanceMethod yX0_liveYear, Cond.initialized RX0, Cond.selects RX0 yX0_liveYear yX0_liveYear, Cond.code yX0_liveYear cX0_liveYear 3 (some .int), Cond.fieldLink RX0 15 "TwinOrchard$Tree" "tired" "Z", Cond.methodLink RX0 22 yX0_freeze, Cond.instanceMethod yX0_freeze, Cond.selects RX0 yX0_freeze yX0_freeze, Cond.code yX0_freeze cX0_freeze 3 none, Cond.fieldLink RX0 33 "TwinOrchard$Tree" "hardiness" "I", Cond.methodLink RX0 36 Lib.Math.max.name, Cond.static Lib.Math.max.name, Cond.initialized "java/lang/Math", Cond.code Lib.Math.max.name Lib.Math.max.code 2 (some .int), Cond.fieldLink RX0 9 "TwinOrchard$Tree" "branches" "I", Cond.methodLink RX0 26 yX0_apples, Cond.instanceMethod yX0_apples]
def wsX1_liveLooked_r2 : List Cond := [Cond.selects RX0 yX0_apples yX0_apples, Cond.code yX0_apples cX0_apples 2 (some .int), Cond.fieldLink RX0 19 "TwinOrchard$Tree" "vigour" "I", Cond.methodLink RX0 30 yX0_grow, Cond.instanceMethod yX0_grow, Cond.selects RX0 yX0_grow yX0_grow, Cond.code yX0_grow cX0_grow 2 none, Cond.methodLink RX0 42 Lib.Math.min.name, Cond.static Lib.Math.min.name, Cond.code Lib.Math.min.name Lib.Math.min.code 2 (some .int)]
def wsX1_liveLooked : List Cond := .code yX1_liveLooked cX1_liveLooked 4 (some .int) :: ((wsX1_liveLooked_r1 ++ wsX1_liveLooked_r2) ++ wsX10 ++ wsX00)
def wsX1_passAt_r1 : List Cond := [Cond.fieldLink RX1 16 "TwinOrchard" "barn" "[I", Cond.fieldLink RX1 22 "TwinOrchard" "kinds" "[I", Cond.methodLink RX1 170 yX1_lookAt, Cond.instanceMethod yX1_lookAt, Cond.selects RX1 yX1_lookAt yX1_lookAt, Cond.initialized RX1, Cond.code yX1_lookAt cX1_lookAt 2 none, Cond.fieldLink RX1 48 "TwinOrchard" "looked" "LTwinOrchard$Tree;", Cond.fieldLink RX1 28 "TwinOrchard" "vigours" "[I", Cond.fieldLink RX1 25 "TwinOrchard" "branches" "[I", Cond.fieldLink RX1 31 "TwinOrchard" "tired" "[Z", Cond.fieldLink RX1 13 "TwinOrchard" "hardiness" "[I", Cond.methodLink RX1 121 yX1_hasTree, Cond.instanceMethod yX1_hasTree, Cond.selects RX1 yX1_hasTree yX1_hasTree, Cond.code yX1_hasTree cX1_hasTree 2 (some .boolean), Cond.methodLink RX1 174 yX1_liveLooked, Cond.instanceMethod yX1_liveLooked, Cond.selects RX1 yX1_liveLooked yX1_liveLooked, Cond.code yX1_liveLooked cX1_liveLooked 4 (some .int), Cond.fieldLink RX1 19 "TwinOrchard" "frosts" "[I", Cond.fieldLink RX1 38 "TwinOrchard" "year" "I", Cond.methodLink RX1 240 yJ9_floorMod_7cf53, Cond.static yJ9_floorMod_7cf53]
def wsX1_passAt_r2 : List Cond := [Cond.initialized RJ9, Cond.code yJ9_floorMod_7cf53 cJ9_floorMod_7cf53 3 (some .int), Cond.instanceMethod yX0_liveYear, Cond.initialized RX0, Cond.selects RX0 yX0_liveYear yX0_liveYear, Cond.code yX0_liveYear cX0_liveYear 3 (some .int), Cond.fieldLink RX0 15 "TwinOrchard$Tree" "tired" "Z", Cond.methodLink RX0 22 yX0_freeze, Cond.instanceMethod yX0_freeze, Cond.selects RX0 yX0_freeze yX0_freeze, Cond.code yX0_freeze cX0_freeze 3 none, Cond.fieldLink RX0 33 "TwinOrchard$Tree" "hardiness" "I", Cond.methodLink RX0 36 Lib.Math.max.name, Cond.static Lib.Math.max.name, Cond.initialized "java/lang/Math", Cond.code Lib.Math.max.name Lib.Math.max.code 2 (some .int), Cond.fieldLink RX0 9 "TwinOrchard$Tree" "branches" "I", Cond.methodLink RX0 26 yX0_apples, Cond.instanceMethod yX0_apples, Cond.selects RX0 yX0_apples yX0_apples, Cond.code yX0_apples cX0_apples 2 (some .int), Cond.fieldLink RX0 19 "TwinOrchard$Tree" "vigour" "I", Cond.methodLink RX0 30 yX0_grow, Cond.instanceMethod yX0_grow]
def wsX1_passAt_r3 : List Cond := [Cond.selects RX0 yX0_grow yX0_grow, Cond.code yX0_grow cX0_grow 2 none, Cond.methodLink RX0 42 Lib.Math.min.name, Cond.static Lib.Math.min.name, Cond.code Lib.Math.min.name Lib.Math.min.code 2 (some .int), Cond.methodLink RX1 218 yX1_keepLooked, Cond.instanceMethod yX1_keepLooked, Cond.selects RX1 yX1_keepLooked yX1_keepLooked, Cond.code yX1_keepLooked cX1_keepLooked 2 none]
def wsX1_passAt : List Cond := .code yX1_passAt cX1_passAt 4 (some .int) :: ((wsX1_passAt_r1 ++ (wsX1_passAt_r2 ++ wsX1_passAt_r3)) ++ wsX10 ++ wsX00)
def wsX1_pass_r1 : List Cond := [Cond.classLink RX1 76 "java/lang/IllegalArgumentException", Cond.initialized "java/lang/IllegalArgumentException", Cond.fieldLink RX1 38 "TwinOrchard" "year" "I", Cond.fieldLink RX1 35 "TwinOrchard" "strength" "[I", Cond.methodLink RX1 72 yX1_isWithin, Cond.static yX1_isWithin, Cond.initialized RX1, Cond.code yX1_isWithin cX1_isWithin 3 (some .boolean), Cond.methodLink RX1 121 yX1_hasTree, Cond.instanceMethod yX1_hasTree, Cond.selects RX1 yX1_hasTree yX1_hasTree, Cond.code yX1_hasTree cX1_hasTree 2 (some .boolean), Cond.fieldLink RX1 22 "TwinOrchard" "kinds" "[I", Cond.methodLink RX1 167 yX1_passAt, Cond.instanceMethod yX1_passAt, Cond.selects RX1 yX1_passAt yX1_passAt, Cond.code yX1_passAt cX1_passAt 4 (some .int), Cond.fieldLink RX1 16 "TwinOrchard" "barn" "[I", Cond.methodLink RX1 170 yX1_lookAt, Cond.instanceMethod yX1_lookAt, Cond.selects RX1 yX1_lookAt yX1_lookAt, Cond.code yX1_lookAt cX1_lookAt 2 none, Cond.fieldLink RX1 48 "TwinOrchard" "looked" "LTwinOrchard$Tree;", Cond.fieldLink RX1 28 "TwinOrchard" "vigours" "[I"]
def wsX1_pass_r2 : List Cond := [Cond.fieldLink RX1 25 "TwinOrchard" "branches" "[I", Cond.fieldLink RX1 31 "TwinOrchard" "tired" "[Z", Cond.fieldLink RX1 13 "TwinOrchard" "hardiness" "[I", Cond.methodLink RX1 174 yX1_liveLooked, Cond.instanceMethod yX1_liveLooked, Cond.selects RX1 yX1_liveLooked yX1_liveLooked, Cond.code yX1_liveLooked cX1_liveLooked 4 (some .int), Cond.fieldLink RX1 19 "TwinOrchard" "frosts" "[I", Cond.methodLink RX1 240 yJ9_floorMod_7cf53, Cond.static yJ9_floorMod_7cf53, Cond.initialized RJ9, Cond.code yJ9_floorMod_7cf53 cJ9_floorMod_7cf53 3 (some .int), Cond.instanceMethod yX0_liveYear, Cond.initialized RX0, Cond.selects RX0 yX0_liveYear yX0_liveYear, Cond.code yX0_liveYear cX0_liveYear 3 (some .int), Cond.fieldLink RX0 15 "TwinOrchard$Tree" "tired" "Z", Cond.methodLink RX0 22 yX0_freeze, Cond.instanceMethod yX0_freeze, Cond.selects RX0 yX0_freeze yX0_freeze, Cond.code yX0_freeze cX0_freeze 3 none, Cond.fieldLink RX0 33 "TwinOrchard$Tree" "hardiness" "I", Cond.methodLink RX0 36 Lib.Math.max.name, Cond.static Lib.Math.max.name]
def wsX1_pass_r3 : List Cond := [Cond.initialized "java/lang/Math", Cond.code Lib.Math.max.name Lib.Math.max.code 2 (some .int), Cond.fieldLink RX0 9 "TwinOrchard$Tree" "branches" "I", Cond.methodLink RX0 26 yX0_apples, Cond.instanceMethod yX0_apples, Cond.selects RX0 yX0_apples yX0_apples, Cond.code yX0_apples cX0_apples 2 (some .int), Cond.fieldLink RX0 19 "TwinOrchard$Tree" "vigour" "I", Cond.methodLink RX0 30 yX0_grow, Cond.instanceMethod yX0_grow, Cond.selects RX0 yX0_grow yX0_grow, Cond.code yX0_grow cX0_grow 2 none, Cond.methodLink RX0 42 Lib.Math.min.name, Cond.static Lib.Math.min.name, Cond.code Lib.Math.min.name Lib.Math.min.code 2 (some .int), Cond.methodLink RX1 218 yX1_keepLooked, Cond.instanceMethod yX1_keepLooked, Cond.selects RX1 yX1_keepLooked yX1_keepLooked, Cond.code yX1_keepLooked cX1_keepLooked 2 none, Cond.methodLink RX1 55 yJ7_fill_53178, Cond.static yJ7_fill_53178, Cond.initialized RJ7, Cond.code yJ7_fill_53178 cJ7_fill_53178 4 none]
def wsX1_pass : List Cond := .code yX1_pass cX1_pass 4 (some .int) :: ((wsX1_pass_r1 ++ (wsX1_pass_r2 ++ wsX1_pass_r3)) ++ wsX10 ++ wsX00 ++ (vx_atS RX1 80 "java/lang/IllegalArgumentException" ["java/lang/RuntimeException", "java/lang/Exception"]).filter goodWord)
def wsX1_foresee_r1 : List Cond := [Cond.classLink RX1 76 "java/lang/IllegalArgumentException", Cond.initialized "java/lang/IllegalArgumentException", Cond.classLink RX1 65 "java/lang/IndexOutOfBoundsException", Cond.initialized "java/lang/IndexOutOfBoundsException", Cond.fieldLink RX1 48 "TwinOrchard" "looked" "LTwinOrchard$Tree;", Cond.methodLink RX1 72 yX1_isWithin, Cond.static yX1_isWithin, Cond.initialized RX1, Cond.code yX1_isWithin cX1_isWithin 3 (some .boolean), Cond.methodLink RX1 121 yX1_hasTree, Cond.instanceMethod yX1_hasTree, Cond.selects RX1 yX1_hasTree yX1_hasTree, Cond.code yX1_hasTree cX1_hasTree 2 (some .boolean), Cond.fieldLink RX1 22 "TwinOrchard" "kinds" "[I", Cond.methodLink RX1 170 yX1_lookAt, Cond.instanceMethod yX1_lookAt, Cond.selects RX1 yX1_lookAt yX1_lookAt, Cond.code yX1_lookAt cX1_lookAt 2 none, Cond.fieldLink RX1 28 "TwinOrchard" "vigours" "[I", Cond.fieldLink RX1 25 "TwinOrchard" "branches" "[I", Cond.fieldLink RX1 31 "TwinOrchard" "tired" "[Z", Cond.fieldLink RX1 13 "TwinOrchard" "hardiness" "[I", Cond.methodLink RX1 174 yX1_liveLooked, Cond.instanceMethod yX1_liveLooked]
def wsX1_foresee_r2 : List Cond := [Cond.selects RX1 yX1_liveLooked yX1_liveLooked, Cond.code yX1_liveLooked cX1_liveLooked 4 (some .int), Cond.fieldLink RX1 19 "TwinOrchard" "frosts" "[I", Cond.fieldLink RX1 38 "TwinOrchard" "year" "I", Cond.methodLink RX1 240 yJ9_floorMod_7cf53, Cond.static yJ9_floorMod_7cf53, Cond.initialized RJ9, Cond.code yJ9_floorMod_7cf53 cJ9_floorMod_7cf53 3 (some .int), Cond.instanceMethod yX0_liveYear, Cond.initialized RX0, Cond.selects RX0 yX0_liveYear yX0_liveYear, Cond.code yX0_liveYear cX0_liveYear 3 (some .int), Cond.fieldLink RX0 15 "TwinOrchard$Tree" "tired" "Z", Cond.methodLink RX0 22 yX0_freeze, Cond.instanceMethod yX0_freeze, Cond.selects RX0 yX0_freeze yX0_freeze, Cond.code yX0_freeze cX0_freeze 3 none, Cond.fieldLink RX0 33 "TwinOrchard$Tree" "hardiness" "I", Cond.methodLink RX0 36 Lib.Math.max.name, Cond.static Lib.Math.max.name, Cond.initialized "java/lang/Math", Cond.code Lib.Math.max.name Lib.Math.max.code 2 (some .int), Cond.fieldLink RX0 9 "TwinOrchard$Tree" "branches" "I", Cond.methodLink RX0 26 yX0_apples]
def wsX1_foresee_r3 : List Cond := [Cond.instanceMethod yX0_apples, Cond.selects RX0 yX0_apples yX0_apples, Cond.code yX0_apples cX0_apples 2 (some .int), Cond.fieldLink RX0 19 "TwinOrchard$Tree" "vigour" "I", Cond.methodLink RX0 30 yX0_grow, Cond.instanceMethod yX0_grow, Cond.selects RX0 yX0_grow yX0_grow, Cond.code yX0_grow cX0_grow 2 none, Cond.methodLink RX0 42 Lib.Math.min.name, Cond.static Lib.Math.min.name, Cond.code Lib.Math.min.name Lib.Math.min.code 2 (some .int)]
def wsX1_foresee : List Cond := .code yX1_foresee cX1_foresee 7 (some .int) :: ((wsX1_foresee_r1 ++ (wsX1_foresee_r2 ++ wsX1_foresee_r3)) ++ wsX10 ++ wsX00 ++ (vx_atS RX1 80 "java/lang/IllegalArgumentException" ["java/lang/RuntimeException", "java/lang/Exception"]).filter goodWord ++ (vx_atS RX1 69 "java/lang/IndexOutOfBoundsException" ["java/lang/RuntimeException", "java/lang/Exception"]).filter goodWord)
def wsX1_gainOfPruning_r1 : List Cond := [Cond.fieldLink RX1 48 "TwinOrchard" "looked" "LTwinOrchard$Tree;", Cond.methodLink RX1 212 yX1_canPrune, Cond.instanceMethod yX1_canPrune, Cond.selects RX1 yX1_canPrune yX1_canPrune, Cond.initialized RX1, Cond.code yX1_canPrune cX1_canPrune 3 (some .boolean), Cond.fieldLink RX1 25 "TwinOrchard" "branches" "[I", Cond.methodLink RX1 121 yX1_hasTree, Cond.instanceMethod yX1_hasTree, Cond.selects RX1 yX1_hasTree yX1_hasTree, Cond.code yX1_hasTree cX1_hasTree 2 (some .boolean), Cond.fieldLink RX1 22 "TwinOrchard" "kinds" "[I", Cond.methodLink RX1 205 yX1_canPay, Cond.instanceMethod yX1_canPay, Cond.selects RX1 yX1_canPay yX1_canPay, Cond.code yX1_canPay cX1_canPay 3 (some .boolean), Cond.fieldLink RX1 35 "TwinOrchard" "strength" "[I", Cond.methodLink RX1 202 yX1_twinOf, Cond.static yX1_twinOf, Cond.code yX1_twinOf cX1_twinOf 1 (some .int), Cond.methodLink RX1 170 yX1_lookAt, Cond.instanceMethod yX1_lookAt, Cond.selects RX1 yX1_lookAt yX1_lookAt, Cond.code yX1_lookAt cX1_lookAt 2 none]
def wsX1_gainOfPruning_r2 : List Cond := [Cond.fieldLink RX1 28 "TwinOrchard" "vigours" "[I", Cond.fieldLink RX1 31 "TwinOrchard" "tired" "[Z", Cond.fieldLink RX1 13 "TwinOrchard" "hardiness" "[I", Cond.methodLink RX1 174 yX1_liveLooked, Cond.instanceMethod yX1_liveLooked, Cond.selects RX1 yX1_liveLooked yX1_liveLooked, Cond.code yX1_liveLooked cX1_liveLooked 4 (some .int), Cond.fieldLink RX1 19 "TwinOrchard" "frosts" "[I", Cond.fieldLink RX1 38 "TwinOrchard" "year" "I", Cond.methodLink RX1 240 yJ9_floorMod_7cf53, Cond.static yJ9_floorMod_7cf53, Cond.initialized RJ9, Cond.code yJ9_floorMod_7cf53 cJ9_floorMod_7cf53 3 (some .int), Cond.instanceMethod yX0_liveYear, Cond.initialized RX0, Cond.selects RX0 yX0_liveYear yX0_liveYear, Cond.code yX0_liveYear cX0_liveYear 3 (some .int), Cond.fieldLink RX0 15 "TwinOrchard$Tree" "tired" "Z", Cond.methodLink RX0 22 yX0_freeze, Cond.instanceMethod yX0_freeze, Cond.selects RX0 yX0_freeze yX0_freeze, Cond.code yX0_freeze cX0_freeze 3 none, Cond.fieldLink RX0 33 "TwinOrchard$Tree" "hardiness" "I", Cond.methodLink RX0 36 Lib.Math.max.name]
def wsX1_gainOfPruning_r3 : List Cond := [Cond.static Lib.Math.max.name, Cond.initialized "java/lang/Math", Cond.code Lib.Math.max.name Lib.Math.max.code 2 (some .int), Cond.fieldLink RX0 9 "TwinOrchard$Tree" "branches" "I", Cond.methodLink RX0 26 yX0_apples, Cond.instanceMethod yX0_apples, Cond.selects RX0 yX0_apples yX0_apples, Cond.code yX0_apples cX0_apples 2 (some .int), Cond.fieldLink RX0 19 "TwinOrchard$Tree" "vigour" "I", Cond.methodLink RX0 30 yX0_grow, Cond.instanceMethod yX0_grow, Cond.selects RX0 yX0_grow yX0_grow, Cond.code yX0_grow cX0_grow 2 none, Cond.methodLink RX0 42 Lib.Math.min.name, Cond.static Lib.Math.min.name, Cond.code Lib.Math.min.name Lib.Math.min.code 2 (some .int), Cond.instanceMethod yX0_shorten, Cond.selects RX0 yX0_shorten yX0_shorten, Cond.code yX0_shorten cX0_shorten 2 none]
def wsX1_gainOfPruning : List Cond := .code yX1_gainOfPruning cX1_gainOfPruning 5 (some .int) :: ((wsX1_gainOfPruning_r1 ++ (wsX1_gainOfPruning_r2 ++ wsX1_gainOfPruning_r3)) ++ wsX10 ++ wsX00)
def wsX1_advise_r1 : List Cond := [Cond.classLink RX1 76 "java/lang/IllegalArgumentException", Cond.initialized "java/lang/IllegalArgumentException", Cond.methodLink RX1 72 yX1_isWithin, Cond.static yX1_isWithin, Cond.initialized RX1, Cond.code yX1_isWithin cX1_isWithin 3 (some .boolean), Cond.methodLink RX1 182 yX1_gainOfPruning, Cond.instanceMethod yX1_gainOfPruning, Cond.selects RX1 yX1_gainOfPruning yX1_gainOfPruning, Cond.code yX1_gainOfPruning cX1_gainOfPruning 5 (some .int), Cond.fieldLink RX1 48 "TwinOrchard" "looked" "LTwinOrchard$Tree;", Cond.methodLink RX1 212 yX1_canPrune, Cond.instanceMethod yX1_canPrune, Cond.selects RX1 yX1_canPrune yX1_canPrune, Cond.code yX1_canPrune cX1_canPrune 3 (some .boolean), Cond.fieldLink RX1 25 "TwinOrchard" "branches" "[I", Cond.methodLink RX1 121 yX1_hasTree, Cond.instanceMethod yX1_hasTree, Cond.selects RX1 yX1_hasTree yX1_hasTree, Cond.code yX1_hasTree cX1_hasTree 2 (some .boolean), Cond.fieldLink RX1 22 "TwinOrchard" "kinds" "[I", Cond.methodLink RX1 205 yX1_canPay, Cond.instanceMethod yX1_canPay, Cond.selects RX1 yX1_canPay yX1_canPay]
def wsX1_advise_r2 : List Cond := [Cond.code yX1_canPay cX1_canPay 3 (some .boolean), Cond.fieldLink RX1 35 "TwinOrchard" "strength" "[I", Cond.methodLink RX1 202 yX1_twinOf, Cond.static yX1_twinOf, Cond.code yX1_twinOf cX1_twinOf 1 (some .int), Cond.methodLink RX1 170 yX1_lookAt, Cond.instanceMethod yX1_lookAt, Cond.selects RX1 yX1_lookAt yX1_lookAt, Cond.code yX1_lookAt cX1_lookAt 2 none, Cond.fieldLink RX1 28 "TwinOrchard" "vigours" "[I", Cond.fieldLink RX1 31 "TwinOrchard" "tired" "[Z", Cond.fieldLink RX1 13 "TwinOrchard" "hardiness" "[I", Cond.methodLink RX1 174 yX1_liveLooked, Cond.instanceMethod yX1_liveLooked, Cond.selects RX1 yX1_liveLooked yX1_liveLooked, Cond.code yX1_liveLooked cX1_liveLooked 4 (some .int), Cond.fieldLink RX1 19 "TwinOrchard" "frosts" "[I", Cond.fieldLink RX1 38 "TwinOrchard" "year" "I", Cond.methodLink RX1 240 yJ9_floorMod_7cf53, Cond.static yJ9_floorMod_7cf53, Cond.initialized RJ9, Cond.code yJ9_floorMod_7cf53 cJ9_floorMod_7cf53 3 (some .int), Cond.instanceMethod yX0_liveYear, Cond.initialized RX0]
def wsX1_advise_r3 : List Cond := [Cond.selects RX0 yX0_liveYear yX0_liveYear, Cond.code yX0_liveYear cX0_liveYear 3 (some .int), Cond.fieldLink RX0 15 "TwinOrchard$Tree" "tired" "Z", Cond.methodLink RX0 22 yX0_freeze, Cond.instanceMethod yX0_freeze, Cond.selects RX0 yX0_freeze yX0_freeze, Cond.code yX0_freeze cX0_freeze 3 none, Cond.fieldLink RX0 33 "TwinOrchard$Tree" "hardiness" "I", Cond.methodLink RX0 36 Lib.Math.max.name, Cond.static Lib.Math.max.name, Cond.initialized "java/lang/Math", Cond.code Lib.Math.max.name Lib.Math.max.code 2 (some .int), Cond.fieldLink RX0 9 "TwinOrchard$Tree" "branches" "I", Cond.methodLink RX0 26 yX0_apples, Cond.instanceMethod yX0_apples, Cond.selects RX0 yX0_apples yX0_apples, Cond.code yX0_apples cX0_apples 2 (some .int), Cond.fieldLink RX0 19 "TwinOrchard$Tree" "vigour" "I", Cond.methodLink RX0 30 yX0_grow, Cond.instanceMethod yX0_grow, Cond.selects RX0 yX0_grow yX0_grow, Cond.code yX0_grow cX0_grow 2 none, Cond.methodLink RX0 42 Lib.Math.min.name, Cond.static Lib.Math.min.name]
def wsX1_advise_r4 : List Cond := [Cond.code Lib.Math.min.name Lib.Math.min.code 2 (some .int), Cond.instanceMethod yX0_shorten, Cond.selects RX0 yX0_shorten yX0_shorten, Cond.code yX0_shorten cX0_shorten 2 none, Cond.methodLink RX1 100 yX1_mirrorOf, Cond.static yX1_mirrorOf, Cond.code yX1_mirrorOf cX1_mirrorOf 2 (some .int)]
def wsX1_advise : List Cond := .code yX1_advise cX1_advise 7 (some .int) :: ((wsX1_advise_r1 ++ (wsX1_advise_r2 ++ (wsX1_advise_r3 ++ wsX1_advise_r4))) ++ wsX10 ++ wsX00 ++ (vx_atS RX1 80 "java/lang/IllegalArgumentException" ["java/lang/RuntimeException", "java/lang/Exception"]).filter goodWord)
def wsX1_mean : List Cond := .code yX1_mean cX1_mean 4 (some .double) :: ([.fieldLink RX1 25 "TwinOrchard" "branches" "[I", .methodLink RX1 134 yX1_allTrees, .instanceMethod yX1_allTrees, .selects RX1 yX1_allTrees yX1_allTrees, .initialized RX1, .code yX1_allTrees cX1_allTrees 3 (some .int), .methodLink RX1 121 yX1_hasTree, .instanceMethod yX1_hasTree, .selects RX1 yX1_hasTree yX1_hasTree, .code yX1_hasTree cX1_hasTree 2 (some .boolean), .fieldLink RX1 22 "TwinOrchard" "kinds" "[I"] ++ wsX10)
def wsX1_digest_r1 : List Cond := [Cond.constantLong RX1 186 (863), Cond.constantLong RX1 188 (31), Cond.fieldLink RX1 19 "TwinOrchard" "frosts" "[I", Cond.methodLink RX1 190 yX1_count, Cond.instanceMethod yX1_count, Cond.selects RX1 yX1_count yX1_count, Cond.initialized RX1, Cond.code yX1_count cX1_count 2 (some .int), Cond.classLink RX1 65 "java/lang/IndexOutOfBoundsException", Cond.initialized "java/lang/IndexOutOfBoundsException", Cond.fieldLink RX1 38 "TwinOrchard" "year" "I", Cond.fieldLink RX1 35 "TwinOrchard" "strength" "[I", Cond.methodLink RX1 72 yX1_isWithin, Cond.static yX1_isWithin, Cond.code yX1_isWithin cX1_isWithin 3 (some .boolean), Cond.methodLink RX1 134 yX1_allTrees, Cond.instanceMethod yX1_allTrees, Cond.selects RX1 yX1_allTrees yX1_allTrees, Cond.code yX1_allTrees cX1_allTrees 3 (some .int), Cond.methodLink RX1 121 yX1_hasTree, Cond.instanceMethod yX1_hasTree, Cond.selects RX1 yX1_hasTree yX1_hasTree, Cond.code yX1_hasTree cX1_hasTree 2 (some .boolean), Cond.fieldLink RX1 22 "TwinOrchard" "kinds" "[I"]
def wsX1_digest_r2 : List Cond := [Cond.methodLink RX1 138 yX1_allTired, Cond.instanceMethod yX1_allTired, Cond.selects RX1 yX1_allTired yX1_allTired, Cond.code yX1_allTired cX1_allTired 3 (some .int), Cond.fieldLink RX1 31 "TwinOrchard" "tired" "[Z", Cond.methodLink RX1 141 yX1_applesInBarn, Cond.instanceMethod yX1_applesInBarn, Cond.selects RX1 yX1_applesInBarn yX1_applesInBarn, Cond.code yX1_applesInBarn cX1_applesInBarn 3 (some .int), Cond.fieldLink RX1 16 "TwinOrchard" "barn" "[I", Cond.methodLink RX1 144 yX1_weightInBarn, Cond.instanceMethod yX1_weightInBarn, Cond.selects RX1 yX1_weightInBarn yX1_weightInBarn, Cond.code yX1_weightInBarn cX1_weightInBarn 3 (some .int), Cond.fieldLink RX1 9 "TwinOrchard" "weights" "[I", Cond.methodLink RX1 147 yX1_unlikePairs, Cond.instanceMethod yX1_unlikePairs, Cond.selects RX1 yX1_unlikePairs yX1_unlikePairs, Cond.code yX1_unlikePairs cX1_unlikePairs 6 (some .int), Cond.fieldLink RX1 25 "TwinOrchard" "branches" "[I", Cond.methodLink RX1 93 yX1_spotOf, Cond.static yX1_spotOf, Cond.code yX1_spotOf cX1_spotOf 2 (some .int), Cond.methodLink RX1 100 yX1_mirrorOf]
def wsX1_digest_r3 : List Cond := [Cond.static yX1_mirrorOf, Cond.code yX1_mirrorOf cX1_mirrorOf 2 (some .int), Cond.methodLink RX1 193 yX1_sort, Cond.instanceMethod yX1_sort, Cond.selects RX1 yX1_sort yX1_sort, Cond.code yX1_sort cX1_sort 3 (some .int), Cond.fieldLink RX1 13 "TwinOrchard" "hardiness" "[I", Cond.methodLink RX1 61 yX1_isSort, Cond.static yX1_isSort, Cond.code yX1_isSort cX1_isSort 1 (some .boolean), Cond.methodLink RX1 129 yX1_treesOfSort, Cond.instanceMethod yX1_treesOfSort, Cond.selects RX1 yX1_treesOfSort yX1_treesOfSort, Cond.code yX1_treesOfSort cX1_treesOfSort 4 (some .int), Cond.methodLink RX1 196 yX1_tree, Cond.instanceMethod yX1_tree, Cond.selects RX1 yX1_tree yX1_tree, Cond.code yX1_tree cX1_tree 5 (some .int), Cond.fieldLink RX1 28 "TwinOrchard" "vigours" "[I", Cond.methodLink RX1 85 yX1_isPlace, Cond.static yX1_isPlace, Cond.code yX1_isPlace cX1_isPlace 2 (some .boolean), Cond.methodLink RX1 124 yX1_applesNow, Cond.instanceMethod yX1_applesNow]
def wsX1_digest_r4 : List Cond := [Cond.selects RX1 yX1_applesNow yX1_applesNow, Cond.code yX1_applesNow cX1_applesNow 2 (some .int), Cond.fieldLink RX1 48 "TwinOrchard" "looked" "LTwinOrchard$Tree;", Cond.methodLink RX1 170 yX1_lookAt, Cond.instanceMethod yX1_lookAt, Cond.selects RX1 yX1_lookAt yX1_lookAt, Cond.code yX1_lookAt cX1_lookAt 2 none, Cond.instanceMethod yX0_apples, Cond.initialized RX0, Cond.selects RX0 yX0_apples yX0_apples, Cond.code yX0_apples cX0_apples 2 (some .int), Cond.fieldLink RX0 9 "TwinOrchard$Tree" "branches" "I", Cond.fieldLink RX0 19 "TwinOrchard$Tree" "vigour" "I", Cond.fieldLink RX0 15 "TwinOrchard$Tree" "tired" "Z", Cond.methodLink RX1 199 yX1_tilt, Cond.instanceMethod yX1_tilt, Cond.selects RX1 yX1_tilt yX1_tilt, Cond.code yX1_tilt cX1_tilt 1 (some .int), Cond.fieldLink RX1 42 "TwinOrchard" "carriedLeftMore" "I"]
def wsX1_digest : List Cond := .code yX1_digest cX1_digest 5 (some .long) :: ((wsX1_digest_r1 ++ (wsX1_digest_r2 ++ (wsX1_digest_r3 ++ wsX1_digest_r4))) ++ wsX10 ++ wsX00 ++ (vx_atS RX1 69 "java/lang/IndexOutOfBoundsException" ["java/lang/RuntimeException", "java/lang/Exception"]).filter goodWord)
def wsX2_init : List Cond := .code yX2_init cX2_init 2 none :: ([.methodLink RX2 1 objectInit, .instanceMethod objectInit, .code objectInit ⟨#[0xb1]⟩ 1 none, .arrayClass .int, .fieldLink RX2 9 "TwinOrchardModel" "weights" "[I", .fieldLink RX2 13 "TwinOrchardModel" "bears" "[I", .fieldLink RX2 16 "TwinOrchardModel" "frosts" "[I", .fieldLink RX2 19 "TwinOrchardModel" "trees" "[I", .fieldLink RX2 22 "TwinOrchardModel" "barn" "[I", .fieldLink RX2 25 "TwinOrchardModel" "numbers" "[I"] ++ wsX20)
def wsX2_thrown : List Cond := .code yX2_thrown cX2_thrown 1 (some .int) :: ([.fieldLink RX2 28 "TwinOrchardModel" "thrown" "I"] ++ wsX20)
def wsX2_fail : List Cond := .code yX2_fail cX2_fail 2 (some .int) :: ([.fieldLink RX2 28 "TwinOrchardModel" "thrown" "I"] ++ wsX20)
def wsX2_isIn : List Cond := .code yX2_isIn cX2_isIn 3 (some .boolean) :: ([])
def wsX2_isSpot : List Cond := .code yX2_isSpot cX2_isSpot 2 (some .boolean) :: ([.methodLink RX2 32 yX2_isIn, .static yX2_isIn, .initialized RX2, .code yX2_isIn cX2_isIn 3 (some .boolean)])
def wsX2_isSort : List Cond := .code yX2_isSort cX2_isSort 1 (some .boolean) :: ([.methodLink RX2 32 yX2_isIn, .static yX2_isIn, .initialized RX2, .code yX2_isIn cX2_isIn 3 (some .boolean)])
def wsX2_tr : List Cond := .code yX2_tr cX2_tr 3 (some .int) :: ([.fieldLink RX2 19 "TwinOrchardModel" "trees" "[I"] ++ wsX20)
def wsX2_set : List Cond := .code yX2_set cX2_set 4 none :: ([.fieldLink RX2 19 "TwinOrchardModel" "trees" "[I"] ++ wsX20)
def wsX2_setSort : List Cond := .code yX2_setSort cX2_setSort 5 (some .int) :: ([.fieldLink RX2 28 "TwinOrchardModel" "thrown" "I", .fieldLink RX2 9 "TwinOrchardModel" "weights" "[I", .fieldLink RX2 13 "TwinOrchardModel" "bears" "[I", .methodLink RX2 36 yX2_isSort, .static yX2_isSort, .initialized RX2, .code yX2_isSort cX2_isSort 1 (some .boolean), .methodLink RX2 32 yX2_isIn, .static yX2_isIn, .code yX2_isIn cX2_isIn 3 (some .boolean), .methodLink RX2 40 yX2_fail, .instanceMethod yX2_fail, .selects RX2 yX2_fail yX2_fail, .code yX2_fail cX2_fail 2 (some .int)] ++ wsX20)
def wsX2_setFrost : List Cond := .code yX2_setFrost cX2_setFrost 4 (some .int) :: ([.fieldLink RX2 28 "TwinOrchardModel" "thrown" "I", .fieldLink RX2 16 "TwinOrchardModel" "frosts" "[I", .methodLink RX2 32 yX2_isIn, .static yX2_isIn, .initialized RX2, .code yX2_isIn cX2_isIn 3 (some .boolean), .methodLink RX2 40 yX2_fail, .instanceMethod yX2_fail, .selects RX2 yX2_fail yX2_fail, .code yX2_fail cX2_fail 2 (some .int)] ++ wsX20)
def wsX2_can : List Cond := .code yX2_can cX2_can 5 (some .boolean) :: ([.methodLink RX2 44 yX2_tr, .instanceMethod yX2_tr, .selects RX2 yX2_tr yX2_tr, .initialized RX2, .code yX2_tr cX2_tr 3 (some .int), .fieldLink RX2 19 "TwinOrchardModel" "trees" "[I"] ++ wsX20)
def wsX2_change : List Cond := .code yX2_change cX2_change 7 none :: ([.arrayClass .int, .fieldLink RX2 19 "TwinOrchardModel" "trees" "[I", .methodLink RX2 48 arraycopyName, .native arraycopyName, .static arraycopyName, .initialized "java/lang/System", .methodLink RX2 58 Lib.Math.max.name, .static Lib.Math.max.name, .initialized "java/lang/Math", .code Lib.Math.max.name Lib.Math.max.code 2 (some .int), .methodLink RX2 44 yX2_tr, .instanceMethod yX2_tr, .selects RX2 yX2_tr yX2_tr, .initialized RX2, .code yX2_tr cX2_tr 3 (some .int), .methodLink RX2 54 yX2_set, .instanceMethod yX2_set, .selects RX2 yX2_set yX2_set, .code yX2_set cX2_set 4 none] ++ wsX20)
def wsX2_does_r1 : List Cond := [Cond.fieldLink RX2 25 "TwinOrchardModel" "numbers" "[I", Cond.fieldLink RX2 63 "TwinOrchardModel" "COSTS" "[I", Cond.methodLink RX2 66 yX2_can, Cond.instanceMethod yX2_can, Cond.selects RX2 yX2_can yX2_can, Cond.initialized RX2, Cond.code yX2_can cX2_can 5 (some .boolean), Cond.methodLink RX2 44 yX2_tr, Cond.instanceMethod yX2_tr, Cond.selects RX2 yX2_tr yX2_tr, Cond.code yX2_tr cX2_tr 3 (some .int), Cond.fieldLink RX2 19 "TwinOrchardModel" "trees" "[I", Cond.methodLink RX2 69 yX2_change, Cond.instanceMethod yX2_change, Cond.selects RX2 yX2_change yX2_change, Cond.code yX2_change cX2_change 7 none, Cond.arrayClass .int, Cond.methodLink RX2 48 arraycopyName, Cond.native arraycopyName, Cond.static arraycopyName, Cond.initialized "java/lang/System", Cond.methodLink RX2 58 Lib.Math.max.name, Cond.static Lib.Math.max.name, Cond.initialized "java/lang/Math"]
def wsX2_does_r2 : List Cond := [Cond.code Lib.Math.max.name Lib.Math.max.code 2 (some .int), Cond.methodLink RX2 54 yX2_set, Cond.instanceMethod yX2_set, Cond.selects RX2 yX2_set yX2_set, Cond.code yX2_set cX2_set 4 none]
def wsX2_does : List Cond := .code yX2_does cX2_does 8 (some .boolean) :: ((wsX2_does_r1 ++ wsX2_does_r2) ++ wsX20)
def wsX2_both_r1 : List Cond := [Cond.methodLink RX2 73 yX2_does, Cond.instanceMethod yX2_does, Cond.selects RX2 yX2_does yX2_does, Cond.initialized RX2, Cond.code yX2_does cX2_does 8 (some .boolean), Cond.fieldLink RX2 25 "TwinOrchardModel" "numbers" "[I", Cond.fieldLink RX2 63 "TwinOrchardModel" "COSTS" "[I", Cond.methodLink RX2 66 yX2_can, Cond.instanceMethod yX2_can, Cond.selects RX2 yX2_can yX2_can, Cond.code yX2_can cX2_can 5 (some .boolean), Cond.methodLink RX2 44 yX2_tr, Cond.instanceMethod yX2_tr, Cond.selects RX2 yX2_tr yX2_tr, Cond.code yX2_tr cX2_tr 3 (some .int), Cond.fieldLink RX2 19 "TwinOrchardModel" "trees" "[I", Cond.methodLink RX2 69 yX2_change, Cond.instanceMethod yX2_change, Cond.selects RX2 yX2_change yX2_change, Cond.code yX2_change cX2_change 7 none, Cond.arrayClass .int, Cond.methodLink RX2 48 arraycopyName, Cond.native arraycopyName, Cond.static arraycopyName]
def wsX2_both_r2 : List Cond := [Cond.initialized "java/lang/System", Cond.methodLink RX2 58 Lib.Math.max.name, Cond.static Lib.Math.max.name, Cond.initialized "java/lang/Math", Cond.code Lib.Math.max.name Lib.Math.max.code 2 (some .int), Cond.methodLink RX2 54 yX2_set, Cond.instanceMethod yX2_set, Cond.selects RX2 yX2_set yX2_set, Cond.code yX2_set cX2_set 4 none]
def wsX2_both : List Cond := .code yX2_both cX2_both 8 (some .int) :: ((wsX2_both_r1 ++ wsX2_both_r2) ++ wsX20)
def wsX2_plant_r1 : List Cond := [Cond.fieldLink RX2 28 "TwinOrchardModel" "thrown" "I", Cond.methodLink RX2 77 yX2_isSpot, Cond.static yX2_isSpot, Cond.initialized RX2, Cond.code yX2_isSpot cX2_isSpot 2 (some .boolean), Cond.methodLink RX2 32 yX2_isIn, Cond.static yX2_isIn, Cond.code yX2_isIn cX2_isIn 3 (some .boolean), Cond.methodLink RX2 40 yX2_fail, Cond.instanceMethod yX2_fail, Cond.selects RX2 yX2_fail yX2_fail, Cond.code yX2_fail cX2_fail 2 (some .int), Cond.methodLink RX2 36 yX2_isSort, Cond.static yX2_isSort, Cond.code yX2_isSort cX2_isSort 1 (some .boolean), Cond.methodLink RX2 81 yX2_both, Cond.instanceMethod yX2_both, Cond.selects RX2 yX2_both yX2_both, Cond.code yX2_both cX2_both 8 (some .int), Cond.methodLink RX2 73 yX2_does, Cond.instanceMethod yX2_does, Cond.selects RX2 yX2_does yX2_does, Cond.code yX2_does cX2_does 8 (some .boolean), Cond.fieldLink RX2 25 "TwinOrchardModel" "numbers" "[I"]
def wsX2_plant_r2 : List Cond := [Cond.fieldLink RX2 63 "TwinOrchardModel" "COSTS" "[I", Cond.methodLink RX2 66 yX2_can, Cond.instanceMethod yX2_can, Cond.selects RX2 yX2_can yX2_can, Cond.code yX2_can cX2_can 5 (some .boolean), Cond.methodLink RX2 44 yX2_tr, Cond.instanceMethod yX2_tr, Cond.selects RX2 yX2_tr yX2_tr, Cond.code yX2_tr cX2_tr 3 (some .int), Cond.fieldLink RX2 19 "TwinOrchardModel" "trees" "[I", Cond.methodLink RX2 69 yX2_change, Cond.instanceMethod yX2_change, Cond.selects RX2 yX2_change yX2_change, Cond.code yX2_change cX2_change 7 none, Cond.arrayClass .int, Cond.methodLink RX2 48 arraycopyName, Cond.native arraycopyName, Cond.static arraycopyName, Cond.initialized "java/lang/System", Cond.methodLink RX2 58 Lib.Math.max.name, Cond.static Lib.Math.max.name, Cond.initialized "java/lang/Math", Cond.code Lib.Math.max.name Lib.Math.max.code 2 (some .int), Cond.methodLink RX2 54 yX2_set]
def wsX2_plant_r3 : List Cond := [Cond.instanceMethod yX2_set, Cond.selects RX2 yX2_set yX2_set, Cond.code yX2_set cX2_set 4 none]
def wsX2_plant : List Cond := .code yX2_plant cX2_plant 5 (some .int) :: ((wsX2_plant_r1 ++ (wsX2_plant_r2 ++ wsX2_plant_r3)) ++ wsX20)
def wsX2_prune_r1 : List Cond := [Cond.fieldLink RX2 28 "TwinOrchardModel" "thrown" "I", Cond.methodLink RX2 77 yX2_isSpot, Cond.static yX2_isSpot, Cond.initialized RX2, Cond.code yX2_isSpot cX2_isSpot 2 (some .boolean), Cond.methodLink RX2 32 yX2_isIn, Cond.static yX2_isIn, Cond.code yX2_isIn cX2_isIn 3 (some .boolean), Cond.methodLink RX2 40 yX2_fail, Cond.instanceMethod yX2_fail, Cond.selects RX2 yX2_fail yX2_fail, Cond.code yX2_fail cX2_fail 2 (some .int), Cond.methodLink RX2 81 yX2_both, Cond.instanceMethod yX2_both, Cond.selects RX2 yX2_both yX2_both, Cond.code yX2_both cX2_both 8 (some .int), Cond.methodLink RX2 73 yX2_does, Cond.instanceMethod yX2_does, Cond.selects RX2 yX2_does yX2_does, Cond.code yX2_does cX2_does 8 (some .boolean), Cond.fieldLink RX2 25 "TwinOrchardModel" "numbers" "[I", Cond.fieldLink RX2 63 "TwinOrchardModel" "COSTS" "[I", Cond.methodLink RX2 66 yX2_can, Cond.instanceMethod yX2_can]
def wsX2_prune_r2 : List Cond := [Cond.selects RX2 yX2_can yX2_can, Cond.code yX2_can cX2_can 5 (some .boolean), Cond.methodLink RX2 44 yX2_tr, Cond.instanceMethod yX2_tr, Cond.selects RX2 yX2_tr yX2_tr, Cond.code yX2_tr cX2_tr 3 (some .int), Cond.fieldLink RX2 19 "TwinOrchardModel" "trees" "[I", Cond.methodLink RX2 69 yX2_change, Cond.instanceMethod yX2_change, Cond.selects RX2 yX2_change yX2_change, Cond.code yX2_change cX2_change 7 none, Cond.arrayClass .int, Cond.methodLink RX2 48 arraycopyName, Cond.native arraycopyName, Cond.static arraycopyName, Cond.initialized "java/lang/System", Cond.methodLink RX2 58 Lib.Math.max.name, Cond.static Lib.Math.max.name, Cond.initialized "java/lang/Math", Cond.code Lib.Math.max.name Lib.Math.max.code 2 (some .int), Cond.methodLink RX2 54 yX2_set, Cond.instanceMethod yX2_set, Cond.selects RX2 yX2_set yX2_set, Cond.code yX2_set cX2_set 4 none]
def wsX2_prune : List Cond := .code yX2_prune cX2_prune 4 (some .int) :: ((wsX2_prune_r1 ++ wsX2_prune_r2) ++ wsX20)
def wsX2_graft_r1 : List Cond := [Cond.fieldLink RX2 28 "TwinOrchardModel" "thrown" "I", Cond.methodLink RX2 77 yX2_isSpot, Cond.static yX2_isSpot, Cond.initialized RX2, Cond.code yX2_isSpot cX2_isSpot 2 (some .boolean), Cond.methodLink RX2 32 yX2_isIn, Cond.static yX2_isIn, Cond.code yX2_isIn cX2_isIn 3 (some .boolean), Cond.methodLink RX2 40 yX2_fail, Cond.instanceMethod yX2_fail, Cond.selects RX2 yX2_fail yX2_fail, Cond.code yX2_fail cX2_fail 2 (some .int), Cond.methodLink RX2 36 yX2_isSort, Cond.static yX2_isSort, Cond.code yX2_isSort cX2_isSort 1 (some .boolean), Cond.methodLink RX2 81 yX2_both, Cond.instanceMethod yX2_both, Cond.selects RX2 yX2_both yX2_both, Cond.code yX2_both cX2_both 8 (some .int), Cond.methodLink RX2 73 yX2_does, Cond.instanceMethod yX2_does, Cond.selects RX2 yX2_does yX2_does, Cond.code yX2_does cX2_does 8 (some .boolean), Cond.fieldLink RX2 25 "TwinOrchardModel" "numbers" "[I"]
def wsX2_graft_r2 : List Cond := [Cond.fieldLink RX2 63 "TwinOrchardModel" "COSTS" "[I", Cond.methodLink RX2 66 yX2_can, Cond.instanceMethod yX2_can, Cond.selects RX2 yX2_can yX2_can, Cond.code yX2_can cX2_can 5 (some .boolean), Cond.methodLink RX2 44 yX2_tr, Cond.instanceMethod yX2_tr, Cond.selects RX2 yX2_tr yX2_tr, Cond.code yX2_tr cX2_tr 3 (some .int), Cond.fieldLink RX2 19 "TwinOrchardModel" "trees" "[I", Cond.methodLink RX2 69 yX2_change, Cond.instanceMethod yX2_change, Cond.selects RX2 yX2_change yX2_change, Cond.code yX2_change cX2_change 7 none, Cond.arrayClass .int, Cond.methodLink RX2 48 arraycopyName, Cond.native arraycopyName, Cond.static arraycopyName, Cond.initialized "java/lang/System", Cond.methodLink RX2 58 Lib.Math.max.name, Cond.static Lib.Math.max.name, Cond.initialized "java/lang/Math", Cond.code Lib.Math.max.name Lib.Math.max.code 2 (some .int), Cond.methodLink RX2 54 yX2_set]
def wsX2_graft_r3 : List Cond := [Cond.instanceMethod yX2_set, Cond.selects RX2 yX2_set yX2_set, Cond.code yX2_set cX2_set 4 none]
def wsX2_graft : List Cond := .code yX2_graft cX2_graft 4 (some .int) :: ((wsX2_graft_r1 ++ (wsX2_graft_r2 ++ wsX2_graft_r3)) ++ wsX20)
def wsX2_fell_r1 : List Cond := [Cond.fieldLink RX2 28 "TwinOrchardModel" "thrown" "I", Cond.methodLink RX2 77 yX2_isSpot, Cond.static yX2_isSpot, Cond.initialized RX2, Cond.code yX2_isSpot cX2_isSpot 2 (some .boolean), Cond.methodLink RX2 32 yX2_isIn, Cond.static yX2_isIn, Cond.code yX2_isIn cX2_isIn 3 (some .boolean), Cond.methodLink RX2 81 yX2_both, Cond.instanceMethod yX2_both, Cond.selects RX2 yX2_both yX2_both, Cond.code yX2_both cX2_both 8 (some .int), Cond.methodLink RX2 73 yX2_does, Cond.instanceMethod yX2_does, Cond.selects RX2 yX2_does yX2_does, Cond.code yX2_does cX2_does 8 (some .boolean), Cond.fieldLink RX2 25 "TwinOrchardModel" "numbers" "[I", Cond.fieldLink RX2 63 "TwinOrchardModel" "COSTS" "[I", Cond.methodLink RX2 66 yX2_can, Cond.instanceMethod yX2_can, Cond.selects RX2 yX2_can yX2_can, Cond.code yX2_can cX2_can 5 (some .boolean), Cond.methodLink RX2 44 yX2_tr, Cond.instanceMethod yX2_tr]
def wsX2_fell_r2 : List Cond := [Cond.selects RX2 yX2_tr yX2_tr, Cond.code yX2_tr cX2_tr 3 (some .int), Cond.fieldLink RX2 19 "TwinOrchardModel" "trees" "[I", Cond.methodLink RX2 69 yX2_change, Cond.instanceMethod yX2_change, Cond.selects RX2 yX2_change yX2_change, Cond.code yX2_change cX2_change 7 none, Cond.arrayClass .int, Cond.methodLink RX2 48 arraycopyName, Cond.native arraycopyName, Cond.static arraycopyName, Cond.initialized "java/lang/System", Cond.methodLink RX2 58 Lib.Math.max.name, Cond.static Lib.Math.max.name, Cond.initialized "java/lang/Math", Cond.code Lib.Math.max.name Lib.Math.max.code 2 (some .int), Cond.methodLink RX2 54 yX2_set, Cond.instanceMethod yX2_set, Cond.selects RX2 yX2_set yX2_set, Cond.code yX2_set cX2_set 4 none, Cond.methodLink RX2 40 yX2_fail, Cond.instanceMethod yX2_fail, Cond.selects RX2 yX2_fail yX2_fail, Cond.code yX2_fail cX2_fail 2 (some .int)]
def wsX2_fell : List Cond := .code yX2_fell cX2_fell 3 (some .int) :: ((wsX2_fell_r1 ++ wsX2_fell_r2) ++ wsX20)
def wsX2_apples : List Cond := .code yX2_apples cX2_apples 3 (some .int) :: ([.methodLink RX2 44 yX2_tr, .instanceMethod yX2_tr, .selects RX2 yX2_tr yX2_tr, .initialized RX2, .code yX2_tr cX2_tr 3 (some .int), .fieldLink RX2 19 "TwinOrchardModel" "trees" "[I"] ++ wsX20)
def wsX2_treeTold : List Cond := .code yX2_treeTold cX2_treeTold 3 (some .int) :: ([.methodLink RX2 85 yX2_apples, .instanceMethod yX2_apples, .selects RX2 yX2_apples yX2_apples, .initialized RX2, .code yX2_apples cX2_apples 3 (some .int), .methodLink RX2 44 yX2_tr, .instanceMethod yX2_tr, .selects RX2 yX2_tr yX2_tr, .code yX2_tr cX2_tr 3 (some .int), .fieldLink RX2 19 "TwinOrchardModel" "trees" "[I"] ++ wsX20)
def wsX2_tree_r1 : List Cond := [Cond.fieldLink RX2 28 "TwinOrchardModel" "thrown" "I", Cond.methodLink RX2 77 yX2_isSpot, Cond.static yX2_isSpot, Cond.initialized RX2, Cond.code yX2_isSpot cX2_isSpot 2 (some .boolean), Cond.methodLink RX2 32 yX2_isIn, Cond.static yX2_isIn, Cond.code yX2_isIn cX2_isIn 3 (some .boolean), Cond.methodLink RX2 88 yX2_treeTold, Cond.instanceMethod yX2_treeTold, Cond.selects RX2 yX2_treeTold yX2_treeTold, Cond.code yX2_treeTold cX2_treeTold 3 (some .int), Cond.methodLink RX2 85 yX2_apples, Cond.instanceMethod yX2_apples, Cond.selects RX2 yX2_apples yX2_apples, Cond.code yX2_apples cX2_apples 3 (some .int), Cond.methodLink RX2 44 yX2_tr, Cond.instanceMethod yX2_tr, Cond.selects RX2 yX2_tr yX2_tr, Cond.code yX2_tr cX2_tr 3 (some .int), Cond.fieldLink RX2 19 "TwinOrchardModel" "trees" "[I", Cond.methodLink RX2 40 yX2_fail, Cond.instanceMethod yX2_fail, Cond.selects RX2 yX2_fail yX2_fail]
def wsX2_tree_r2 : List Cond := [Cond.code yX2_fail cX2_fail 2 (some .int)]
def wsX2_tree : List Cond := .code yX2_tree cX2_tree 4 (some .int) :: ((wsX2_tree_r1 ++ wsX2_tree_r2) ++ wsX20)
def wsX2_sortTold : List Cond := .code yX2_sortTold cX2_sortTold 5 (some .int) :: ([.fieldLink RX2 9 "TwinOrchardModel" "weights" "[I", .fieldLink RX2 13 "TwinOrchardModel" "bears" "[I", .fieldLink RX2 22 "TwinOrchardModel" "barn" "[I", .methodLink RX2 44 yX2_tr, .instanceMethod yX2_tr, .selects RX2 yX2_tr yX2_tr, .initialized RX2, .code yX2_tr cX2_tr 3 (some .int), .fieldLink RX2 19 "TwinOrchardModel" "trees" "[I"] ++ wsX20)
def wsX2_sort : List Cond := .code yX2_sort cX2_sort 3 (some .int) :: ([.fieldLink RX2 28 "TwinOrchardModel" "thrown" "I", .methodLink RX2 36 yX2_isSort, .static yX2_isSort, .initialized RX2, .code yX2_isSort cX2_isSort 1 (some .boolean), .methodLink RX2 32 yX2_isIn, .static yX2_isIn, .code yX2_isIn cX2_isIn 3 (some .boolean), .methodLink RX2 91 yX2_sortTold, .instanceMethod yX2_sortTold, .selects RX2 yX2_sortTold yX2_sortTold, .code yX2_sortTold cX2_sortTold 5 (some .int), .fieldLink RX2 9 "TwinOrchardModel" "weights" "[I", .fieldLink RX2 13 "TwinOrchardModel" "bears" "[I", .fieldLink RX2 22 "TwinOrchardModel" "barn" "[I", .methodLink RX2 44 yX2_tr, .instanceMethod yX2_tr, .selects RX2 yX2_tr yX2_tr, .code yX2_tr cX2_tr 3 (some .int), .fieldLink RX2 19 "TwinOrchardModel" "trees" "[I", .methodLink RX2 40 yX2_fail, .instanceMethod yX2_fail, .selects RX2 yX2_fail yX2_fail, .code yX2_fail cX2_fail 2 (some .int)] ++ wsX20)
def wsX2_all : List Cond := .code yX2_all cX2_all 4 (some .int) :: ([.methodLink RX2 44 yX2_tr, .instanceMethod yX2_tr, .selects RX2 yX2_tr yX2_tr, .initialized RX2, .code yX2_tr cX2_tr 3 (some .int), .fieldLink RX2 19 "TwinOrchardModel" "trees" "[I"] ++ wsX20)
def wsX2_counted : List Cond := .code yX2_counted cX2_counted 6 (some .int) :: ([.fieldLink RX2 25 "TwinOrchardModel" "numbers" "[I", .fieldLink RX2 22 "TwinOrchardModel" "barn" "[I", .fieldLink RX2 9 "TwinOrchardModel" "weights" "[I", .methodLink RX2 94 yX2_all, .instanceMethod yX2_all, .selects RX2 yX2_all yX2_all, .initialized RX2, .code yX2_all cX2_all 4 (some .int), .methodLink RX2 44 yX2_tr, .instanceMethod yX2_tr, .selects RX2 yX2_tr yX2_tr, .code yX2_tr cX2_tr 3 (some .int), .fieldLink RX2 19 "TwinOrchardModel" "trees" "[I"] ++ wsX20)
def wsX2_count_r1 : List Cond := [Cond.fieldLink RX2 28 "TwinOrchardModel" "thrown" "I", Cond.methodLink RX2 32 yX2_isIn, Cond.static yX2_isIn, Cond.initialized RX2, Cond.code yX2_isIn cX2_isIn 3 (some .boolean), Cond.methodLink RX2 97 yX2_counted, Cond.instanceMethod yX2_counted, Cond.selects RX2 yX2_counted yX2_counted, Cond.code yX2_counted cX2_counted 6 (some .int), Cond.fieldLink RX2 25 "TwinOrchardModel" "numbers" "[I", Cond.fieldLink RX2 22 "TwinOrchardModel" "barn" "[I", Cond.fieldLink RX2 9 "TwinOrchardModel" "weights" "[I", Cond.methodLink RX2 94 yX2_all, Cond.instanceMethod yX2_all, Cond.selects RX2 yX2_all yX2_all, Cond.code yX2_all cX2_all 4 (some .int), Cond.methodLink RX2 44 yX2_tr, Cond.instanceMethod yX2_tr, Cond.selects RX2 yX2_tr yX2_tr, Cond.code yX2_tr cX2_tr 3 (some .int), Cond.fieldLink RX2 19 "TwinOrchardModel" "trees" "[I", Cond.methodLink RX2 40 yX2_fail, Cond.instanceMethod yX2_fail, Cond.selects RX2 yX2_fail yX2_fail]
def wsX2_count_r2 : List Cond := [Cond.code yX2_fail cX2_fail 2 (some .int)]
def wsX2_count : List Cond := .code yX2_count cX2_count 2 (some .int) :: ((wsX2_count_r1 ++ wsX2_count_r2) ++ wsX20)
def wsX2_leans : List Cond := .code yX2_leans cX2_leans 4 (some .int) :: ([.fieldLink RX2 28 "TwinOrchardModel" "thrown" "I", .methodLink RX2 32 yX2_isIn, .static yX2_isIn, .initialized RX2, .code yX2_isIn cX2_isIn 3 (some .boolean), .methodLink RX2 40 yX2_fail, .instanceMethod yX2_fail, .selects RX2 yX2_fail yX2_fail, .code yX2_fail cX2_fail 2 (some .int), .methodLink RX2 85 yX2_apples, .instanceMethod yX2_apples, .selects RX2 yX2_apples yX2_apples, .code yX2_apples cX2_apples 3 (some .int), .methodLink RX2 44 yX2_tr, .instanceMethod yX2_tr, .selects RX2 yX2_tr yX2_tr, .code yX2_tr cX2_tr 3 (some .int), .fieldLink RX2 19 "TwinOrchardModel" "trees" "[I"] ++ wsX20)
def wsX2_carry : List Cond := .code yX2_carry cX2_carry 4 (some .int) :: ([.fieldLink RX2 28 "TwinOrchardModel" "thrown" "I", .fieldLink RX2 22 "TwinOrchardModel" "barn" "[I", .fieldLink RX2 100 "TwinOrchardModel" "tilt" "I", .fieldLink RX2 9 "TwinOrchardModel" "weights" "[I", .methodLink RX2 36 yX2_isSort, .static yX2_isSort, .initialized RX2, .code yX2_isSort cX2_isSort 1 (some .boolean), .methodLink RX2 32 yX2_isIn, .static yX2_isIn, .code yX2_isIn cX2_isIn 3 (some .boolean), .methodLink RX2 40 yX2_fail, .instanceMethod yX2_fail, .selects RX2 yX2_fail yX2_fail, .code yX2_fail cX2_fail 2 (some .int)] ++ wsX20)
def wsX2_tilt : List Cond := .code yX2_tilt cX2_tilt 1 (some .int) :: ([.fieldLink RX2 28 "TwinOrchardModel" "thrown" "I", .fieldLink RX2 100 "TwinOrchardModel" "tilt" "I"] ++ wsX20)
def wsX2_balance : List Cond := .code yX2_balance cX2_balance 6 (some .int) :: ([.fieldLink RX2 28 "TwinOrchardModel" "thrown" "I", .fieldLink RX2 9 "TwinOrchardModel" "weights" "[I", .fieldLink RX2 22 "TwinOrchardModel" "barn" "[I", .methodLink RX2 103 Lib.Math.min.name, .static Lib.Math.min.name, .initialized "java/lang/Math", .code Lib.Math.min.name Lib.Math.min.code 2 (some .int), .arrayClass .boolean] ++ wsX20)
def wsX2_yearOn_r1 : List Cond := [Cond.fieldLink RX2 16 "TwinOrchardModel" "frosts" "[I", Cond.fieldLink RX2 25 "TwinOrchardModel" "numbers" "[I", Cond.fieldLink RX2 13 "TwinOrchardModel" "bears" "[I", Cond.methodLink RX2 58 Lib.Math.max.name, Cond.static Lib.Math.max.name, Cond.initialized "java/lang/Math", Cond.code Lib.Math.max.name Lib.Math.max.code 2 (some .int), Cond.fieldLink RX2 22 "TwinOrchardModel" "barn" "[I", Cond.methodLink RX2 103 Lib.Math.min.name, Cond.static Lib.Math.min.name, Cond.code Lib.Math.min.name Lib.Math.min.code 2 (some .int), Cond.methodLink RX2 44 yX2_tr, Cond.instanceMethod yX2_tr, Cond.selects RX2 yX2_tr yX2_tr, Cond.initialized RX2, Cond.code yX2_tr cX2_tr 3 (some .int), Cond.fieldLink RX2 19 "TwinOrchardModel" "trees" "[I", Cond.methodLink RX2 54 yX2_set, Cond.instanceMethod yX2_set, Cond.selects RX2 yX2_set yX2_set, Cond.code yX2_set cX2_set 4 none, Cond.methodLink RX2 85 yX2_apples, Cond.instanceMethod yX2_apples, Cond.selects RX2 yX2_apples yX2_apples]
def wsX2_yearOn_r2 : List Cond := [Cond.code yX2_apples cX2_apples 3 (some .int)]
def wsX2_yearOn : List Cond := .code yX2_yearOn cX2_yearOn 6 (some .int) :: ((wsX2_yearOn_r1 ++ wsX2_yearOn_r2) ++ wsX20)
def wsX2_yearsOn_r1 : List Cond := [Cond.methodLink RX2 106 yX2_yearOn, Cond.instanceMethod yX2_yearOn, Cond.selects RX2 yX2_yearOn yX2_yearOn, Cond.initialized RX2, Cond.code yX2_yearOn cX2_yearOn 6 (some .int), Cond.fieldLink RX2 16 "TwinOrchardModel" "frosts" "[I", Cond.fieldLink RX2 25 "TwinOrchardModel" "numbers" "[I", Cond.fieldLink RX2 13 "TwinOrchardModel" "bears" "[I", Cond.methodLink RX2 58 Lib.Math.max.name, Cond.static Lib.Math.max.name, Cond.initialized "java/lang/Math", Cond.code Lib.Math.max.name Lib.Math.max.code 2 (some .int), Cond.fieldLink RX2 22 "TwinOrchardModel" "barn" "[I", Cond.methodLink RX2 103 Lib.Math.min.name, Cond.static Lib.Math.min.name, Cond.code Lib.Math.min.name Lib.Math.min.code 2 (some .int), Cond.methodLink RX2 44 yX2_tr, Cond.instanceMethod yX2_tr, Cond.selects RX2 yX2_tr yX2_tr, Cond.code yX2_tr cX2_tr 3 (some .int), Cond.fieldLink RX2 19 "TwinOrchardModel" "trees" "[I", Cond.methodLink RX2 54 yX2_set, Cond.instanceMethod yX2_set, Cond.selects RX2 yX2_set yX2_set]
def wsX2_yearsOn_r2 : List Cond := [Cond.code yX2_set cX2_set 4 none, Cond.methodLink RX2 85 yX2_apples, Cond.instanceMethod yX2_apples, Cond.selects RX2 yX2_apples yX2_apples, Cond.code yX2_apples cX2_apples 3 (some .int)]
def wsX2_yearsOn : List Cond := .code yX2_yearsOn cX2_yearsOn 4 (some .int) :: ((wsX2_yearsOn_r1 ++ wsX2_yearsOn_r2) ++ wsX20)
def wsX2_pass_r1 : List Cond := [Cond.fieldLink RX2 28 "TwinOrchardModel" "thrown" "I", Cond.methodLink RX2 32 yX2_isIn, Cond.static yX2_isIn, Cond.initialized RX2, Cond.code yX2_isIn cX2_isIn 3 (some .boolean), Cond.methodLink RX2 110 yX2_yearsOn, Cond.instanceMethod yX2_yearsOn, Cond.selects RX2 yX2_yearsOn yX2_yearsOn, Cond.code yX2_yearsOn cX2_yearsOn 4 (some .int), Cond.methodLink RX2 106 yX2_yearOn, Cond.instanceMethod yX2_yearOn, Cond.selects RX2 yX2_yearOn yX2_yearOn, Cond.code yX2_yearOn cX2_yearOn 6 (some .int), Cond.fieldLink RX2 16 "TwinOrchardModel" "frosts" "[I", Cond.fieldLink RX2 25 "TwinOrchardModel" "numbers" "[I", Cond.fieldLink RX2 13 "TwinOrchardModel" "bears" "[I", Cond.methodLink RX2 58 Lib.Math.max.name, Cond.static Lib.Math.max.name, Cond.initialized "java/lang/Math", Cond.code Lib.Math.max.name Lib.Math.max.code 2 (some .int), Cond.fieldLink RX2 22 "TwinOrchardModel" "barn" "[I", Cond.methodLink RX2 103 Lib.Math.min.name, Cond.static Lib.Math.min.name, Cond.code Lib.Math.min.name Lib.Math.min.code 2 (some .int)]
def wsX2_pass_r2 : List Cond := [Cond.methodLink RX2 44 yX2_tr, Cond.instanceMethod yX2_tr, Cond.selects RX2 yX2_tr yX2_tr, Cond.code yX2_tr cX2_tr 3 (some .int), Cond.fieldLink RX2 19 "TwinOrchardModel" "trees" "[I", Cond.methodLink RX2 54 yX2_set, Cond.instanceMethod yX2_set, Cond.selects RX2 yX2_set yX2_set, Cond.code yX2_set cX2_set 4 none, Cond.methodLink RX2 85 yX2_apples, Cond.instanceMethod yX2_apples, Cond.selects RX2 yX2_apples yX2_apples, Cond.code yX2_apples cX2_apples 3 (some .int), Cond.methodLink RX2 40 yX2_fail, Cond.instanceMethod yX2_fail, Cond.selects RX2 yX2_fail yX2_fail, Cond.code yX2_fail cX2_fail 2 (some .int)]
def wsX2_pass : List Cond := .code yX2_pass cX2_pass 2 (some .int) :: ((wsX2_pass_r1 ++ wsX2_pass_r2) ++ wsX20)
def wsX2_kept : List Cond := .code yX2_kept cX2_kept 1 (some (.array (.array .int))) :: ([.classLink RX2 113 "[I", .fieldLink RX2 19 "TwinOrchardModel" "trees" "[I", .methodLink RX2 114 ⟨"[I", "clone", "()Ljava/lang/Object;"⟩, .sameMethod "[I" "java/lang/Object" "clone" "()Ljava/lang/Object;", .native ⟨"java/lang/Object", "clone", "()Ljava/lang/Object;"⟩, .instanceMethod ⟨"java/lang/Object", "clone", "()Ljava/lang/Object;"⟩, .selects "[I" ⟨"[I", "clone", "()Ljava/lang/Object;"⟩ ⟨"java/lang/Object", "clone", "()Ljava/lang/Object;"⟩, .fieldLink RX2 22 "TwinOrchardModel" "barn" "[I", .fieldLink RX2 25 "TwinOrchardModel" "numbers" "[I"] ++ wsX20)
def wsX2_bringBack : List Cond := .code yX2_bringBack cX2_bringBack 4 none :: ([.classLink RX2 113 "[I", .fieldLink RX2 19 "TwinOrchardModel" "trees" "[I", .fieldLink RX2 22 "TwinOrchardModel" "barn" "[I", .fieldLink RX2 25 "TwinOrchardModel" "numbers" "[I", .methodLink RX2 48 arraycopyName, .native arraycopyName, .static arraycopyName, .initialized "java/lang/System"] ++ wsX20)
def wsX2_foresee_r1 : List Cond := [Cond.fieldLink RX2 28 "TwinOrchardModel" "thrown" "I", Cond.methodLink RX2 32 yX2_isIn, Cond.static yX2_isIn, Cond.initialized RX2, Cond.code yX2_isIn cX2_isIn 3 (some .boolean), Cond.methodLink RX2 40 yX2_fail, Cond.instanceMethod yX2_fail, Cond.selects RX2 yX2_fail yX2_fail, Cond.code yX2_fail cX2_fail 2 (some .int), Cond.methodLink RX2 118 yX2_kept, Cond.instanceMethod yX2_kept, Cond.selects RX2 yX2_kept yX2_kept, Cond.code yX2_kept cX2_kept 1 (some (.array (.array .int))), Cond.classLink RX2 113 "[I", Cond.fieldLink RX2 19 "TwinOrchardModel" "trees" "[I", Cond.methodLink RX2 114 ⟨"[I", "clone", "()Ljava/lang/Object;"⟩, Cond.sameMethod "[I" "java/lang/Object" "clone" "()Ljava/lang/Object;", Cond.native ⟨"java/lang/Object", "clone", "()Ljava/lang/Object;"⟩, Cond.instanceMethod ⟨"java/lang/Object", "clone", "()Ljava/lang/Object;"⟩, Cond.selects "[I" ⟨"[I", "clone", "()Ljava/lang/Object;"⟩ ⟨"java/lang/Object", "clone", "()Ljava/lang/Object;"⟩, Cond.fieldLink RX2 22 "TwinOrchardModel" "barn" "[I", Cond.fieldLink RX2 25 "TwinOrchardModel" "numbers" "[I", Cond.methodLink RX2 110 yX2_yearsOn, Cond.instanceMethod yX2_yearsOn]
def wsX2_foresee_r2 : List Cond := [Cond.selects RX2 yX2_yearsOn yX2_yearsOn, Cond.code yX2_yearsOn cX2_yearsOn 4 (some .int), Cond.methodLink RX2 106 yX2_yearOn, Cond.instanceMethod yX2_yearOn, Cond.selects RX2 yX2_yearOn yX2_yearOn, Cond.code yX2_yearOn cX2_yearOn 6 (some .int), Cond.fieldLink RX2 16 "TwinOrchardModel" "frosts" "[I", Cond.fieldLink RX2 13 "TwinOrchardModel" "bears" "[I", Cond.methodLink RX2 58 Lib.Math.max.name, Cond.static Lib.Math.max.name, Cond.initialized "java/lang/Math", Cond.code Lib.Math.max.name Lib.Math.max.code 2 (some .int), Cond.methodLink RX2 103 Lib.Math.min.name, Cond.static Lib.Math.min.name, Cond.code Lib.Math.min.name Lib.Math.min.code 2 (some .int), Cond.methodLink RX2 44 yX2_tr, Cond.instanceMethod yX2_tr, Cond.selects RX2 yX2_tr yX2_tr, Cond.code yX2_tr cX2_tr 3 (some .int), Cond.methodLink RX2 54 yX2_set, Cond.instanceMethod yX2_set, Cond.selects RX2 yX2_set yX2_set, Cond.code yX2_set cX2_set 4 none, Cond.methodLink RX2 85 yX2_apples]
def wsX2_foresee_r3 : List Cond := [Cond.instanceMethod yX2_apples, Cond.selects RX2 yX2_apples yX2_apples, Cond.code yX2_apples cX2_apples 3 (some .int), Cond.methodLink RX2 94 yX2_all, Cond.instanceMethod yX2_all, Cond.selects RX2 yX2_all yX2_all, Cond.code yX2_all cX2_all 4 (some .int), Cond.methodLink RX2 122 yX2_bringBack, Cond.instanceMethod yX2_bringBack, Cond.selects RX2 yX2_bringBack yX2_bringBack, Cond.code yX2_bringBack cX2_bringBack 4 none, Cond.methodLink RX2 48 arraycopyName, Cond.native arraycopyName, Cond.static arraycopyName, Cond.initialized "java/lang/System"]
def wsX2_foresee : List Cond := .code yX2_foresee cX2_foresee 6 (some .int) :: ((wsX2_foresee_r1 ++ (wsX2_foresee_r2 ++ wsX2_foresee_r3)) ++ wsX20)
def wsX2_advise_r1 : List Cond := [Cond.fieldLink RX2 28 "TwinOrchardModel" "thrown" "I", Cond.methodLink RX2 32 yX2_isIn, Cond.static yX2_isIn, Cond.initialized RX2, Cond.code yX2_isIn cX2_isIn 3 (some .boolean), Cond.methodLink RX2 40 yX2_fail, Cond.instanceMethod yX2_fail, Cond.selects RX2 yX2_fail yX2_fail, Cond.code yX2_fail cX2_fail 2 (some .int), Cond.methodLink RX2 118 yX2_kept, Cond.instanceMethod yX2_kept, Cond.selects RX2 yX2_kept yX2_kept, Cond.code yX2_kept cX2_kept 1 (some (.array (.array .int))), Cond.classLink RX2 113 "[I", Cond.fieldLink RX2 19 "TwinOrchardModel" "trees" "[I", Cond.methodLink RX2 114 ⟨"[I", "clone", "()Ljava/lang/Object;"⟩, Cond.sameMethod "[I" "java/lang/Object" "clone" "()Ljava/lang/Object;", Cond.native ⟨"java/lang/Object", "clone", "()Ljava/lang/Object;"⟩, Cond.instanceMethod ⟨"java/lang/Object", "clone", "()Ljava/lang/Object;"⟩, Cond.selects "[I" ⟨"[I", "clone", "()Ljava/lang/Object;"⟩ ⟨"java/lang/Object", "clone", "()Ljava/lang/Object;"⟩, Cond.fieldLink RX2 22 "TwinOrchardModel" "barn" "[I", Cond.fieldLink RX2 25 "TwinOrchardModel" "numbers" "[I", Cond.methodLink RX2 110 yX2_yearsOn, Cond.instanceMethod yX2_yearsOn]
def wsX2_advise_r2 : List Cond := [Cond.selects RX2 yX2_yearsOn yX2_yearsOn, Cond.code yX2_yearsOn cX2_yearsOn 4 (some .int), Cond.methodLink RX2 106 yX2_yearOn, Cond.instanceMethod yX2_yearOn, Cond.selects RX2 yX2_yearOn yX2_yearOn, Cond.code yX2_yearOn cX2_yearOn 6 (some .int), Cond.fieldLink RX2 16 "TwinOrchardModel" "frosts" "[I", Cond.fieldLink RX2 13 "TwinOrchardModel" "bears" "[I", Cond.methodLink RX2 58 Lib.Math.max.name, Cond.static Lib.Math.max.name, Cond.initialized "java/lang/Math", Cond.code Lib.Math.max.name Lib.Math.max.code 2 (some .int), Cond.methodLink RX2 103 Lib.Math.min.name, Cond.static Lib.Math.min.name, Cond.code Lib.Math.min.name Lib.Math.min.code 2 (some .int), Cond.methodLink RX2 44 yX2_tr, Cond.instanceMethod yX2_tr, Cond.selects RX2 yX2_tr yX2_tr, Cond.code yX2_tr cX2_tr 3 (some .int), Cond.methodLink RX2 54 yX2_set, Cond.instanceMethod yX2_set, Cond.selects RX2 yX2_set yX2_set, Cond.code yX2_set cX2_set 4 none, Cond.methodLink RX2 85 yX2_apples]
def wsX2_advise_r3 : List Cond := [Cond.instanceMethod yX2_apples, Cond.selects RX2 yX2_apples yX2_apples, Cond.code yX2_apples cX2_apples 3 (some .int), Cond.methodLink RX2 122 yX2_bringBack, Cond.instanceMethod yX2_bringBack, Cond.selects RX2 yX2_bringBack yX2_bringBack, Cond.code yX2_bringBack cX2_bringBack 4 none, Cond.methodLink RX2 48 arraycopyName, Cond.native arraycopyName, Cond.static arraycopyName, Cond.initialized "java/lang/System", Cond.methodLink RX2 81 yX2_both, Cond.instanceMethod yX2_both, Cond.selects RX2 yX2_both yX2_both, Cond.code yX2_both cX2_both 8 (some .int), Cond.methodLink RX2 73 yX2_does, Cond.instanceMethod yX2_does, Cond.selects RX2 yX2_does yX2_does, Cond.code yX2_does cX2_does 8 (some .boolean), Cond.fieldLink RX2 63 "TwinOrchardModel" "COSTS" "[I", Cond.methodLink RX2 66 yX2_can, Cond.instanceMethod yX2_can, Cond.selects RX2 yX2_can yX2_can, Cond.code yX2_can cX2_can 5 (some .boolean)]
def wsX2_advise_r4 : List Cond := [Cond.methodLink RX2 69 yX2_change, Cond.instanceMethod yX2_change, Cond.selects RX2 yX2_change yX2_change, Cond.code yX2_change cX2_change 7 none, Cond.arrayClass .int]
def wsX2_advise : List Cond := .code yX2_advise cX2_advise 8 (some .int) :: ((wsX2_advise_r1 ++ (wsX2_advise_r2 ++ (wsX2_advise_r3 ++ wsX2_advise_r4))) ++ wsX20)
def wsX2_mean : List Cond := .code yX2_mean cX2_mean 1 (some .double) :: ([.fieldLink RX2 28 "TwinOrchardModel" "thrown" "I", .methodLink RX2 94 yX2_all, .instanceMethod yX2_all, .selects RX2 yX2_all yX2_all, .initialized RX2, .code yX2_all cX2_all 4 (some .int), .methodLink RX2 44 yX2_tr, .instanceMethod yX2_tr, .selects RX2 yX2_tr yX2_tr, .code yX2_tr cX2_tr 3 (some .int), .fieldLink RX2 19 "TwinOrchardModel" "trees" "[I"] ++ wsX20)
def wsX2_digest_r1 : List Cond := [Cond.fieldLink RX2 28 "TwinOrchardModel" "thrown" "I", Cond.constantLong RX2 126 (863), Cond.constantLong RX2 128 (31), Cond.fieldLink RX2 16 "TwinOrchardModel" "frosts" "[I", Cond.fieldLink RX2 100 "TwinOrchardModel" "tilt" "I", Cond.methodLink RX2 97 yX2_counted, Cond.instanceMethod yX2_counted, Cond.selects RX2 yX2_counted yX2_counted, Cond.initialized RX2, Cond.code yX2_counted cX2_counted 6 (some .int), Cond.fieldLink RX2 25 "TwinOrchardModel" "numbers" "[I", Cond.fieldLink RX2 22 "TwinOrchardModel" "barn" "[I", Cond.fieldLink RX2 9 "TwinOrchardModel" "weights" "[I", Cond.methodLink RX2 94 yX2_all, Cond.instanceMethod yX2_all, Cond.selects RX2 yX2_all yX2_all, Cond.code yX2_all cX2_all 4 (some .int), Cond.methodLink RX2 44 yX2_tr, Cond.instanceMethod yX2_tr, Cond.selects RX2 yX2_tr yX2_tr, Cond.code yX2_tr cX2_tr 3 (some .int), Cond.fieldLink RX2 19 "TwinOrchardModel" "trees" "[I", Cond.methodLink RX2 91 yX2_sortTold, Cond.instanceMethod yX2_sortTold]
def wsX2_digest_r2 : List Cond := [Cond.selects RX2 yX2_sortTold yX2_sortTold, Cond.code yX2_sortTold cX2_sortTold 5 (some .int), Cond.fieldLink RX2 13 "TwinOrchardModel" "bears" "[I", Cond.methodLink RX2 88 yX2_treeTold, Cond.instanceMethod yX2_treeTold, Cond.selects RX2 yX2_treeTold yX2_treeTold, Cond.code yX2_treeTold cX2_treeTold 3 (some .int), Cond.methodLink RX2 85 yX2_apples, Cond.instanceMethod yX2_apples, Cond.selects RX2 yX2_apples yX2_apples, Cond.code yX2_apples cX2_apples 3 (some .int)]
def wsX2_digest : List Cond := .code yX2_digest cX2_digest 7 (some .long) :: ((wsX2_digest_r1 ++ wsX2_digest_r2) ++ wsX20)
def wsJ9_max_7cf53 : List Cond := .code yJ9_max_7cf53 cJ9_max_7cf53 2 (some .int) :: ([])
def wsJ9_min_7cf53 : List Cond := .code yJ9_min_7cf53 cJ9_min_7cf53 2 (some .int) :: ([])
def wsL_setSort : List Cond := .codeWith yL_setSort cL_setSort 6 (some .int) [(0, 12, 15, 13), (0, 12, 19, 15)] :: ([.classLink RL 13 "java/lang/IndexOutOfBoundsException", .classLink RL 15 "java/lang/IllegalArgumentException", .methodLink RL 7 yX1_setSort, .instanceMethod yX1_setSort, .selects RX1 yX1_setSort yX1_setSort, .initialized RX1, .code yX1_setSort cX1_setSort 5 (some .int), .classLink RX1 65 "java/lang/IndexOutOfBoundsException", .initialized "java/lang/IndexOutOfBoundsException", .classLink RX1 76 "java/lang/IllegalArgumentException", .initialized "java/lang/IllegalArgumentException", .fieldLink RX1 9 "TwinOrchard" "weights" "[I", .fieldLink RX1 13 "TwinOrchard" "hardiness" "[I", .methodLink RX1 61 yX1_isSort, .static yX1_isSort, .code yX1_isSort cX1_isSort 1 (some .boolean), .methodLink RX1 72 yX1_isWithin, .static yX1_isWithin, .code yX1_isWithin cX1_isWithin 3 (some .boolean)] ++ wsX10 ++ (vx_atS RX1 69 "java/lang/IndexOutOfBoundsException" ["java/lang/RuntimeException", "java/lang/Exception"]).filter goodWord ++ (vx_atS RX1 80 "java/lang/IllegalArgumentException" ["java/lang/RuntimeException", "java/lang/Exception"]).filter goodWord)
def wsL_setFrost : List Cond := .codeWith yL_setFrost cL_setFrost 5 (some .int) [(0, 10, 13, 13), (0, 10, 17, 15)] :: ([.classLink RL 13 "java/lang/IndexOutOfBoundsException", .classLink RL 15 "java/lang/IllegalArgumentException", .methodLink RL 17 yX1_setFrost, .instanceMethod yX1_setFrost, .selects RX1 yX1_setFrost yX1_setFrost, .initialized RX1, .code yX1_setFrost cX1_setFrost 4 (some .int), .classLink RX1 65 "java/lang/IndexOutOfBoundsException", .initialized "java/lang/IndexOutOfBoundsException", .classLink RX1 76 "java/lang/IllegalArgumentException", .initialized "java/lang/IllegalArgumentException", .fieldLink RX1 19 "TwinOrchard" "frosts" "[I", .methodLink RX1 72 yX1_isWithin, .static yX1_isWithin, .code yX1_isWithin cX1_isWithin 3 (some .boolean)] ++ wsX10 ++ (vx_atS RX1 69 "java/lang/IndexOutOfBoundsException" ["java/lang/RuntimeException", "java/lang/Exception"]).filter goodWord ++ (vx_atS RX1 80 "java/lang/IllegalArgumentException" ["java/lang/RuntimeException", "java/lang/Exception"]).filter goodWord)
def wsL_plant_r1 : List Cond := [Cond.classLink RL 13 "java/lang/IndexOutOfBoundsException", Cond.classLink RL 15 "java/lang/IllegalArgumentException", Cond.methodLink RL 21 yX1_plant, Cond.instanceMethod yX1_plant, Cond.selects RX1 yX1_plant yX1_plant, Cond.initialized RX1, Cond.code yX1_plant cX1_plant 8 (some .int), Cond.classLink RX1 65 "java/lang/IndexOutOfBoundsException", Cond.initialized "java/lang/IndexOutOfBoundsException", Cond.classLink RX1 76 "java/lang/IllegalArgumentException", Cond.initialized "java/lang/IllegalArgumentException", Cond.methodLink RX1 85 yX1_isPlace, Cond.static yX1_isPlace, Cond.code yX1_isPlace cX1_isPlace 2 (some .boolean), Cond.methodLink RX1 72 yX1_isWithin, Cond.static yX1_isWithin, Cond.code yX1_isWithin cX1_isWithin 3 (some .boolean), Cond.methodLink RX1 61 yX1_isSort, Cond.static yX1_isSort, Cond.code yX1_isSort cX1_isSort 1 (some .boolean), Cond.methodLink RX1 93 yX1_spotOf, Cond.static yX1_spotOf, Cond.code yX1_spotOf cX1_spotOf 2 (some .int), Cond.methodLink RX1 97 yX1_plantAt]
def wsL_plant_r2 : List Cond := [Cond.instanceMethod yX1_plantAt, Cond.selects RX1 yX1_plantAt yX1_plantAt, Cond.code yX1_plantAt cX1_plantAt 4 (some .boolean), Cond.fieldLink RX1 22 "TwinOrchard" "kinds" "[I", Cond.fieldLink RX1 25 "TwinOrchard" "branches" "[I", Cond.fieldLink RX1 28 "TwinOrchard" "vigours" "[I", Cond.fieldLink RX1 31 "TwinOrchard" "tired" "[Z", Cond.methodLink RX1 121 yX1_hasTree, Cond.instanceMethod yX1_hasTree, Cond.selects RX1 yX1_hasTree yX1_hasTree, Cond.code yX1_hasTree cX1_hasTree 2 (some .boolean), Cond.methodLink RX1 205 yX1_canPay, Cond.instanceMethod yX1_canPay, Cond.selects RX1 yX1_canPay yX1_canPay, Cond.code yX1_canPay cX1_canPay 3 (some .boolean), Cond.fieldLink RX1 35 "TwinOrchard" "strength" "[I", Cond.methodLink RX1 202 yX1_twinOf, Cond.static yX1_twinOf, Cond.code yX1_twinOf cX1_twinOf 1 (some .int), Cond.methodLink RX1 208 yX1_pay, Cond.instanceMethod yX1_pay, Cond.selects RX1 yX1_pay yX1_pay, Cond.code yX1_pay cX1_pay 3 none, Cond.methodLink RX1 100 yX1_mirrorOf]
def wsL_plant_r3 : List Cond := [Cond.static yX1_mirrorOf, Cond.code yX1_mirrorOf cX1_mirrorOf 2 (some .int), Cond.methodLink RX1 104 yX1_whoDidIt, Cond.static yX1_whoDidIt, Cond.code yX1_whoDidIt cX1_whoDidIt 2 (some .int)]
def wsL_plant : List Cond := .codeWith yL_plant cL_plant 7 (some .int) [(0, 14, 17, 13), (0, 14, 21, 15)] :: ((wsL_plant_r1 ++ (wsL_plant_r2 ++ wsL_plant_r3)) ++ wsX10 ++ (vx_atS RX1 69 "java/lang/IndexOutOfBoundsException" ["java/lang/RuntimeException", "java/lang/Exception"]).filter goodWord ++ (vx_atS RX1 80 "java/lang/IllegalArgumentException" ["java/lang/RuntimeException", "java/lang/Exception"]).filter goodWord)
def wsL_prune_r1 : List Cond := [Cond.classLink RL 13 "java/lang/IndexOutOfBoundsException", Cond.classLink RL 15 "java/lang/IllegalArgumentException", Cond.methodLink RL 25 yX1_prune, Cond.instanceMethod yX1_prune, Cond.selects RX1 yX1_prune yX1_prune, Cond.initialized RX1, Cond.code yX1_prune cX1_prune 7 (some .int), Cond.classLink RX1 65 "java/lang/IndexOutOfBoundsException", Cond.initialized "java/lang/IndexOutOfBoundsException", Cond.classLink RX1 76 "java/lang/IllegalArgumentException", Cond.initialized "java/lang/IllegalArgumentException", Cond.methodLink RX1 85 yX1_isPlace, Cond.static yX1_isPlace, Cond.code yX1_isPlace cX1_isPlace 2 (some .boolean), Cond.methodLink RX1 72 yX1_isWithin, Cond.static yX1_isWithin, Cond.code yX1_isWithin cX1_isWithin 3 (some .boolean), Cond.methodLink RX1 93 yX1_spotOf, Cond.static yX1_spotOf, Cond.code yX1_spotOf cX1_spotOf 2 (some .int), Cond.methodLink RX1 110 yX1_pruneAt, Cond.instanceMethod yX1_pruneAt, Cond.selects RX1 yX1_pruneAt yX1_pruneAt, Cond.code yX1_pruneAt cX1_pruneAt 3 (some .boolean)]
def wsL_prune_r2 : List Cond := [Cond.fieldLink RX1 48 "TwinOrchard" "looked" "LTwinOrchard$Tree;", Cond.methodLink RX1 212 yX1_canPrune, Cond.instanceMethod yX1_canPrune, Cond.selects RX1 yX1_canPrune yX1_canPrune, Cond.code yX1_canPrune cX1_canPrune 3 (some .boolean), Cond.fieldLink RX1 25 "TwinOrchard" "branches" "[I", Cond.methodLink RX1 121 yX1_hasTree, Cond.instanceMethod yX1_hasTree, Cond.selects RX1 yX1_hasTree yX1_hasTree, Cond.code yX1_hasTree cX1_hasTree 2 (some .boolean), Cond.fieldLink RX1 22 "TwinOrchard" "kinds" "[I", Cond.methodLink RX1 205 yX1_canPay, Cond.instanceMethod yX1_canPay, Cond.selects RX1 yX1_canPay yX1_canPay, Cond.code yX1_canPay cX1_canPay 3 (some .boolean), Cond.fieldLink RX1 35 "TwinOrchard" "strength" "[I", Cond.methodLink RX1 202 yX1_twinOf, Cond.static yX1_twinOf, Cond.code yX1_twinOf cX1_twinOf 1 (some .int), Cond.methodLink RX1 208 yX1_pay, Cond.instanceMethod yX1_pay, Cond.selects RX1 yX1_pay yX1_pay, Cond.code yX1_pay cX1_pay 3 none, Cond.methodLink RX1 170 yX1_lookAt]
def wsL_prune_r3 : List Cond := [Cond.instanceMethod yX1_lookAt, Cond.selects RX1 yX1_lookAt yX1_lookAt, Cond.code yX1_lookAt cX1_lookAt 2 none, Cond.fieldLink RX1 28 "TwinOrchard" "vigours" "[I", Cond.fieldLink RX1 31 "TwinOrchard" "tired" "[Z", Cond.fieldLink RX1 13 "TwinOrchard" "hardiness" "[I", Cond.instanceMethod yX0_shorten, Cond.initialized RX0, Cond.selects RX0 yX0_shorten yX0_shorten, Cond.code yX0_shorten cX0_shorten 2 none, Cond.fieldLink RX0 9 "TwinOrchard$Tree" "branches" "I", Cond.fieldLink RX0 15 "TwinOrchard$Tree" "tired" "Z", Cond.methodLink RX1 218 yX1_keepLooked, Cond.instanceMethod yX1_keepLooked, Cond.selects RX1 yX1_keepLooked yX1_keepLooked, Cond.code yX1_keepLooked cX1_keepLooked 2 none, Cond.methodLink RX1 100 yX1_mirrorOf, Cond.static yX1_mirrorOf, Cond.code yX1_mirrorOf cX1_mirrorOf 2 (some .int), Cond.methodLink RX1 104 yX1_whoDidIt, Cond.static yX1_whoDidIt, Cond.code yX1_whoDidIt cX1_whoDidIt 2 (some .int)]
def wsL_prune : List Cond := .codeWith yL_prune cL_prune 6 (some .int) [(0, 12, 15, 13), (0, 12, 19, 15)] :: ((wsL_prune_r1 ++ (wsL_prune_r2 ++ wsL_prune_r3)) ++ wsX10 ++ wsX00 ++ (vx_atS RX1 69 "java/lang/IndexOutOfBoundsException" ["java/lang/RuntimeException", "java/lang/Exception"]).filter goodWord ++ (vx_atS RX1 80 "java/lang/IllegalArgumentException" ["java/lang/RuntimeException", "java/lang/Exception"]).filter goodWord)
def wsL_graft_r1 : List Cond := [Cond.classLink RL 13 "java/lang/IndexOutOfBoundsException", Cond.classLink RL 15 "java/lang/IllegalArgumentException", Cond.methodLink RL 28 yX1_graft, Cond.instanceMethod yX1_graft, Cond.selects RX1 yX1_graft yX1_graft, Cond.initialized RX1, Cond.code yX1_graft cX1_graft 7 (some .int), Cond.classLink RX1 65 "java/lang/IndexOutOfBoundsException", Cond.initialized "java/lang/IndexOutOfBoundsException", Cond.classLink RX1 76 "java/lang/IllegalArgumentException", Cond.initialized "java/lang/IllegalArgumentException", Cond.methodLink RX1 85 yX1_isPlace, Cond.static yX1_isPlace, Cond.code yX1_isPlace cX1_isPlace 2 (some .boolean), Cond.methodLink RX1 72 yX1_isWithin, Cond.static yX1_isWithin, Cond.code yX1_isWithin cX1_isWithin 3 (some .boolean), Cond.methodLink RX1 61 yX1_isSort, Cond.static yX1_isSort, Cond.code yX1_isSort cX1_isSort 1 (some .boolean), Cond.methodLink RX1 93 yX1_spotOf, Cond.static yX1_spotOf, Cond.code yX1_spotOf cX1_spotOf 2 (some .int), Cond.methodLink RX1 113 yX1_graftAt]
def wsL_graft_r2 : List Cond := [Cond.instanceMethod yX1_graftAt, Cond.selects RX1 yX1_graftAt yX1_graftAt, Cond.code yX1_graftAt cX1_graftAt 3 (some .boolean), Cond.fieldLink RX1 22 "TwinOrchard" "kinds" "[I", Cond.fieldLink RX1 25 "TwinOrchard" "branches" "[I", Cond.methodLink RX1 221 Lib.Math.max.name, Cond.static Lib.Math.max.name, Cond.initialized "java/lang/Math", Cond.code Lib.Math.max.name Lib.Math.max.code 2 (some .int), Cond.methodLink RX1 121 yX1_hasTree, Cond.instanceMethod yX1_hasTree, Cond.selects RX1 yX1_hasTree yX1_hasTree, Cond.code yX1_hasTree cX1_hasTree 2 (some .boolean), Cond.methodLink RX1 205 yX1_canPay, Cond.instanceMethod yX1_canPay, Cond.selects RX1 yX1_canPay yX1_canPay, Cond.code yX1_canPay cX1_canPay 3 (some .boolean), Cond.fieldLink RX1 35 "TwinOrchard" "strength" "[I", Cond.methodLink RX1 202 yX1_twinOf, Cond.static yX1_twinOf, Cond.code yX1_twinOf cX1_twinOf 1 (some .int), Cond.methodLink RX1 208 yX1_pay, Cond.instanceMethod yX1_pay, Cond.selects RX1 yX1_pay yX1_pay]
def wsL_graft_r3 : List Cond := [Cond.code yX1_pay cX1_pay 3 none, Cond.methodLink RX1 100 yX1_mirrorOf, Cond.static yX1_mirrorOf, Cond.code yX1_mirrorOf cX1_mirrorOf 2 (some .int), Cond.methodLink RX1 104 yX1_whoDidIt, Cond.static yX1_whoDidIt, Cond.code yX1_whoDidIt cX1_whoDidIt 2 (some .int)]
def wsL_graft : List Cond := .codeWith yL_graft cL_graft 6 (some .int) [(0, 12, 15, 13), (0, 12, 19, 15)] :: ((wsL_graft_r1 ++ (wsL_graft_r2 ++ wsL_graft_r3)) ++ wsX10 ++ (vx_atS RX1 69 "java/lang/IndexOutOfBoundsException" ["java/lang/RuntimeException", "java/lang/Exception"]).filter goodWord ++ (vx_atS RX1 80 "java/lang/IllegalArgumentException" ["java/lang/RuntimeException", "java/lang/Exception"]).filter goodWord)
def wsL_fell_r1 : List Cond := [Cond.classLink RL 13 "java/lang/IndexOutOfBoundsException", Cond.methodLink RL 31 yX1_fell, Cond.instanceMethod yX1_fell, Cond.selects RX1 yX1_fell yX1_fell, Cond.initialized RX1, Cond.code yX1_fell cX1_fell 6 (some .int), Cond.classLink RX1 65 "java/lang/IndexOutOfBoundsException", Cond.initialized "java/lang/IndexOutOfBoundsException", Cond.methodLink RX1 85 yX1_isPlace, Cond.static yX1_isPlace, Cond.code yX1_isPlace cX1_isPlace 2 (some .boolean), Cond.methodLink RX1 72 yX1_isWithin, Cond.static yX1_isWithin, Cond.code yX1_isWithin cX1_isWithin 3 (some .boolean), Cond.methodLink RX1 93 yX1_spotOf, Cond.static yX1_spotOf, Cond.code yX1_spotOf cX1_spotOf 2 (some .int), Cond.methodLink RX1 116 yX1_fellAt, Cond.instanceMethod yX1_fellAt, Cond.selects RX1 yX1_fellAt yX1_fellAt, Cond.code yX1_fellAt cX1_fellAt 2 (some .boolean), Cond.fieldLink RX1 22 "TwinOrchard" "kinds" "[I", Cond.fieldLink RX1 25 "TwinOrchard" "branches" "[I", Cond.fieldLink RX1 28 "TwinOrchard" "vigours" "[I"]
def wsL_fell_r2 : List Cond := [Cond.fieldLink RX1 31 "TwinOrchard" "tired" "[Z", Cond.methodLink RX1 121 yX1_hasTree, Cond.instanceMethod yX1_hasTree, Cond.selects RX1 yX1_hasTree yX1_hasTree, Cond.code yX1_hasTree cX1_hasTree 2 (some .boolean), Cond.methodLink RX1 205 yX1_canPay, Cond.instanceMethod yX1_canPay, Cond.selects RX1 yX1_canPay yX1_canPay, Cond.code yX1_canPay cX1_canPay 3 (some .boolean), Cond.fieldLink RX1 35 "TwinOrchard" "strength" "[I", Cond.methodLink RX1 202 yX1_twinOf, Cond.static yX1_twinOf, Cond.code yX1_twinOf cX1_twinOf 1 (some .int), Cond.methodLink RX1 208 yX1_pay, Cond.instanceMethod yX1_pay, Cond.selects RX1 yX1_pay yX1_pay, Cond.code yX1_pay cX1_pay 3 none, Cond.methodLink RX1 100 yX1_mirrorOf, Cond.static yX1_mirrorOf, Cond.code yX1_mirrorOf cX1_mirrorOf 2 (some .int), Cond.methodLink RX1 104 yX1_whoDidIt, Cond.static yX1_whoDidIt, Cond.code yX1_whoDidIt cX1_whoDidIt 2 (some .int)]
def wsL_fell : List Cond := .codeWith yL_fell cL_fell 5 (some .int) [(0, 10, 13, 13)] :: ((wsL_fell_r1 ++ wsL_fell_r2) ++ wsX10 ++ (vx_atS RX1 69 "java/lang/IndexOutOfBoundsException" ["java/lang/RuntimeException", "java/lang/Exception"]).filter goodWord)
def wsL_tree_r1 : List Cond := [Cond.classLink RL 13 "java/lang/IndexOutOfBoundsException", Cond.methodLink RL 34 yX1_tree, Cond.instanceMethod yX1_tree, Cond.selects RX1 yX1_tree yX1_tree, Cond.initialized RX1, Cond.code yX1_tree cX1_tree 5 (some .int), Cond.classLink RX1 65 "java/lang/IndexOutOfBoundsException", Cond.initialized "java/lang/IndexOutOfBoundsException", Cond.fieldLink RX1 25 "TwinOrchard" "branches" "[I", Cond.fieldLink RX1 28 "TwinOrchard" "vigours" "[I", Cond.fieldLink RX1 22 "TwinOrchard" "kinds" "[I", Cond.fieldLink RX1 31 "TwinOrchard" "tired" "[Z", Cond.methodLink RX1 85 yX1_isPlace, Cond.static yX1_isPlace, Cond.code yX1_isPlace cX1_isPlace 2 (some .boolean), Cond.methodLink RX1 72 yX1_isWithin, Cond.static yX1_isWithin, Cond.code yX1_isWithin cX1_isWithin 3 (some .boolean), Cond.methodLink RX1 93 yX1_spotOf, Cond.static yX1_spotOf, Cond.code yX1_spotOf cX1_spotOf 2 (some .int), Cond.methodLink RX1 121 yX1_hasTree, Cond.instanceMethod yX1_hasTree, Cond.selects RX1 yX1_hasTree yX1_hasTree]
def wsL_tree_r2 : List Cond := [Cond.code yX1_hasTree cX1_hasTree 2 (some .boolean), Cond.methodLink RX1 124 yX1_applesNow, Cond.instanceMethod yX1_applesNow, Cond.selects RX1 yX1_applesNow yX1_applesNow, Cond.code yX1_applesNow cX1_applesNow 2 (some .int), Cond.fieldLink RX1 48 "TwinOrchard" "looked" "LTwinOrchard$Tree;", Cond.methodLink RX1 170 yX1_lookAt, Cond.instanceMethod yX1_lookAt, Cond.selects RX1 yX1_lookAt yX1_lookAt, Cond.code yX1_lookAt cX1_lookAt 2 none, Cond.fieldLink RX1 13 "TwinOrchard" "hardiness" "[I", Cond.instanceMethod yX0_apples, Cond.initialized RX0, Cond.selects RX0 yX0_apples yX0_apples, Cond.code yX0_apples cX0_apples 2 (some .int), Cond.fieldLink RX0 9 "TwinOrchard$Tree" "branches" "I", Cond.fieldLink RX0 19 "TwinOrchard$Tree" "vigour" "I", Cond.fieldLink RX0 15 "TwinOrchard$Tree" "tired" "Z"]
def wsL_tree : List Cond := .codeWith yL_tree cL_tree 6 (some .int) [(0, 12, 15, 13)] :: ((wsL_tree_r1 ++ wsL_tree_r2) ++ wsX10 ++ wsX00 ++ (vx_atS RX1 69 "java/lang/IndexOutOfBoundsException" ["java/lang/RuntimeException", "java/lang/Exception"]).filter goodWord)
def wsL_sort : List Cond := .codeWith yL_sort cL_sort 5 (some .int) [(0, 10, 13, 13)] :: ([.classLink RL 13 "java/lang/IndexOutOfBoundsException", .methodLink RL 37 yX1_sort, .instanceMethod yX1_sort, .selects RX1 yX1_sort yX1_sort, .initialized RX1, .code yX1_sort cX1_sort 3 (some .int), .classLink RX1 65 "java/lang/IndexOutOfBoundsException", .initialized "java/lang/IndexOutOfBoundsException", .fieldLink RX1 9 "TwinOrchard" "weights" "[I", .fieldLink RX1 13 "TwinOrchard" "hardiness" "[I", .fieldLink RX1 16 "TwinOrchard" "barn" "[I", .methodLink RX1 61 yX1_isSort, .static yX1_isSort, .code yX1_isSort cX1_isSort 1 (some .boolean), .methodLink RX1 72 yX1_isWithin, .static yX1_isWithin, .code yX1_isWithin cX1_isWithin 3 (some .boolean), .methodLink RX1 129 yX1_treesOfSort, .instanceMethod yX1_treesOfSort, .selects RX1 yX1_treesOfSort yX1_treesOfSort, .code yX1_treesOfSort cX1_treesOfSort 4 (some .int), .fieldLink RX1 22 "TwinOrchard" "kinds" "[I"] ++ wsX10 ++ (vx_atS RX1 69 "java/lang/IndexOutOfBoundsException" ["java/lang/RuntimeException", "java/lang/Exception"]).filter goodWord)
def wsL_count_r1 : List Cond := [Cond.classLink RL 13 "java/lang/IndexOutOfBoundsException", Cond.methodLink RL 40 yX1_count, Cond.instanceMethod yX1_count, Cond.selects RX1 yX1_count yX1_count, Cond.initialized RX1, Cond.code yX1_count cX1_count 2 (some .int), Cond.classLink RX1 65 "java/lang/IndexOutOfBoundsException", Cond.initialized "java/lang/IndexOutOfBoundsException", Cond.fieldLink RX1 38 "TwinOrchard" "year" "I", Cond.fieldLink RX1 35 "TwinOrchard" "strength" "[I", Cond.methodLink RX1 72 yX1_isWithin, Cond.static yX1_isWithin, Cond.code yX1_isWithin cX1_isWithin 3 (some .boolean), Cond.methodLink RX1 134 yX1_allTrees, Cond.instanceMethod yX1_allTrees, Cond.selects RX1 yX1_allTrees yX1_allTrees, Cond.code yX1_allTrees cX1_allTrees 3 (some .int), Cond.methodLink RX1 121 yX1_hasTree, Cond.instanceMethod yX1_hasTree, Cond.selects RX1 yX1_hasTree yX1_hasTree, Cond.code yX1_hasTree cX1_hasTree 2 (some .boolean), Cond.fieldLink RX1 22 "TwinOrchard" "kinds" "[I", Cond.methodLink RX1 138 yX1_allTired, Cond.instanceMethod yX1_allTired]
def wsL_count_r2 : List Cond := [Cond.selects RX1 yX1_allTired yX1_allTired, Cond.code yX1_allTired cX1_allTired 3 (some .int), Cond.fieldLink RX1 31 "TwinOrchard" "tired" "[Z", Cond.methodLink RX1 141 yX1_applesInBarn, Cond.instanceMethod yX1_applesInBarn, Cond.selects RX1 yX1_applesInBarn yX1_applesInBarn, Cond.code yX1_applesInBarn cX1_applesInBarn 3 (some .int), Cond.fieldLink RX1 16 "TwinOrchard" "barn" "[I", Cond.methodLink RX1 144 yX1_weightInBarn, Cond.instanceMethod yX1_weightInBarn, Cond.selects RX1 yX1_weightInBarn yX1_weightInBarn, Cond.code yX1_weightInBarn cX1_weightInBarn 3 (some .int), Cond.fieldLink RX1 9 "TwinOrchard" "weights" "[I", Cond.methodLink RX1 147 yX1_unlikePairs, Cond.instanceMethod yX1_unlikePairs, Cond.selects RX1 yX1_unlikePairs yX1_unlikePairs, Cond.code yX1_unlikePairs cX1_unlikePairs 6 (some .int), Cond.fieldLink RX1 25 "TwinOrchard" "branches" "[I", Cond.methodLink RX1 93 yX1_spotOf, Cond.static yX1_spotOf, Cond.code yX1_spotOf cX1_spotOf 2 (some .int), Cond.methodLink RX1 100 yX1_mirrorOf, Cond.static yX1_mirrorOf, Cond.code yX1_mirrorOf cX1_mirrorOf 2 (some .int)]
def wsL_count : List Cond := .codeWith yL_count cL_count 4 (some .int) [(0, 9, 12, 13)] :: ((wsL_count_r1 ++ wsL_count_r2) ++ wsX10 ++ (vx_atS RX1 69 "java/lang/IndexOutOfBoundsException" ["java/lang/RuntimeException", "java/lang/Exception"]).filter goodWord)
def wsL_leans_r1 : List Cond := [Cond.classLink RL 13 "java/lang/IndexOutOfBoundsException", Cond.methodLink RL 44 yX1_leans, Cond.instanceMethod yX1_leans, Cond.selects RX1 yX1_leans yX1_leans, Cond.initialized RX1, Cond.code yX1_leans cX1_leans 5 (some .int), Cond.classLink RX1 65 "java/lang/IndexOutOfBoundsException", Cond.initialized "java/lang/IndexOutOfBoundsException", Cond.methodLink RX1 72 yX1_isWithin, Cond.static yX1_isWithin, Cond.code yX1_isWithin cX1_isWithin 3 (some .boolean), Cond.methodLink RX1 93 yX1_spotOf, Cond.static yX1_spotOf, Cond.code yX1_spotOf cX1_spotOf 2 (some .int), Cond.methodLink RX1 124 yX1_applesNow, Cond.instanceMethod yX1_applesNow, Cond.selects RX1 yX1_applesNow yX1_applesNow, Cond.code yX1_applesNow cX1_applesNow 2 (some .int), Cond.fieldLink RX1 48 "TwinOrchard" "looked" "LTwinOrchard$Tree;", Cond.methodLink RX1 170 yX1_lookAt, Cond.instanceMethod yX1_lookAt, Cond.selects RX1 yX1_lookAt yX1_lookAt, Cond.code yX1_lookAt cX1_lookAt 2 none, Cond.fieldLink RX1 28 "TwinOrchard" "vigours" "[I"]
def wsL_leans_r2 : List Cond := [Cond.fieldLink RX1 25 "TwinOrchard" "branches" "[I", Cond.fieldLink RX1 31 "TwinOrchard" "tired" "[Z", Cond.fieldLink RX1 13 "TwinOrchard" "hardiness" "[I", Cond.fieldLink RX1 22 "TwinOrchard" "kinds" "[I", Cond.methodLink RX1 121 yX1_hasTree, Cond.instanceMethod yX1_hasTree, Cond.selects RX1 yX1_hasTree yX1_hasTree, Cond.code yX1_hasTree cX1_hasTree 2 (some .boolean), Cond.instanceMethod yX0_apples, Cond.initialized RX0, Cond.selects RX0 yX0_apples yX0_apples, Cond.code yX0_apples cX0_apples 2 (some .int), Cond.fieldLink RX0 9 "TwinOrchard$Tree" "branches" "I", Cond.fieldLink RX0 19 "TwinOrchard$Tree" "vigour" "I", Cond.fieldLink RX0 15 "TwinOrchard$Tree" "tired" "Z", Cond.methodLink RX1 100 yX1_mirrorOf, Cond.static yX1_mirrorOf, Cond.code yX1_mirrorOf cX1_mirrorOf 2 (some .int)]
def wsL_leans : List Cond := .codeWith yL_leans cL_leans 4 (some .int) [(0, 9, 12, 13)] :: ((wsL_leans_r1 ++ wsL_leans_r2) ++ wsX10 ++ wsX00 ++ (vx_atS RX1 69 "java/lang/IndexOutOfBoundsException" ["java/lang/RuntimeException", "java/lang/Exception"]).filter goodWord)
def wsL_carry : List Cond := .codeWith yL_carry cL_carry 6 (some .int) [(0, 12, 15, 13), (0, 12, 19, 15), (0, 12, 23, 50)] :: ([.classLink RL 13 "java/lang/IndexOutOfBoundsException", .classLink RL 15 "java/lang/IllegalArgumentException", .classLink RL 50 "java/lang/IllegalStateException", .methodLink RL 47 yX1_carry, .instanceMethod yX1_carry, .selects RX1 yX1_carry yX1_carry, .initialized RX1, .code yX1_carry cX1_carry 4 (some .int), .classLink RX1 65 "java/lang/IndexOutOfBoundsException", .initialized "java/lang/IndexOutOfBoundsException", .classLink RX1 76 "java/lang/IllegalArgumentException", .initialized "java/lang/IllegalArgumentException", .classLink RX1 154 "java/lang/IllegalStateException", .initialized "java/lang/IllegalStateException", .fieldLink RX1 16 "TwinOrchard" "barn" "[I", .fieldLink RX1 42 "TwinOrchard" "carriedLeftMore" "I", .fieldLink RX1 9 "TwinOrchard" "weights" "[I", .methodLink RX1 61 yX1_isSort, .static yX1_isSort, .code yX1_isSort cX1_isSort 1 (some .boolean), .methodLink RX1 72 yX1_isWithin, .static yX1_isWithin, .code yX1_isWithin cX1_isWithin 3 (some .boolean)] ++ wsX10 ++ (vx_atS RX1 69 "java/lang/IndexOutOfBoundsException" ["java/lang/RuntimeException", "java/lang/Exception"]).filter goodWord ++ (vx_atS RX1 80 "java/lang/IllegalArgumentException" ["java/lang/RuntimeException", "java/lang/Exception"]).filter goodWord ++ (vx_atS RX1 158 "java/lang/IllegalStateException" ["java/lang/RuntimeException", "java/lang/Exception"]).filter goodWord)
def wsL_pass_r1 : List Cond := [Cond.classLink RL 15 "java/lang/IllegalArgumentException", Cond.methodLink RL 52 yX1_pass, Cond.instanceMethod yX1_pass, Cond.selects RX1 yX1_pass yX1_pass, Cond.initialized RX1, Cond.code yX1_pass cX1_pass 4 (some .int), Cond.classLink RX1 76 "java/lang/IllegalArgumentException", Cond.initialized "java/lang/IllegalArgumentException", Cond.fieldLink RX1 38 "TwinOrchard" "year" "I", Cond.fieldLink RX1 35 "TwinOrchard" "strength" "[I", Cond.methodLink RX1 72 yX1_isWithin, Cond.static yX1_isWithin, Cond.code yX1_isWithin cX1_isWithin 3 (some .boolean), Cond.methodLink RX1 121 yX1_hasTree, Cond.instanceMethod yX1_hasTree, Cond.selects RX1 yX1_hasTree yX1_hasTree, Cond.code yX1_hasTree cX1_hasTree 2 (some .boolean), Cond.fieldLink RX1 22 "TwinOrchard" "kinds" "[I", Cond.methodLink RX1 167 yX1_passAt, Cond.instanceMethod yX1_passAt, Cond.selects RX1 yX1_passAt yX1_passAt, Cond.code yX1_passAt cX1_passAt 4 (some .int), Cond.fieldLink RX1 16 "TwinOrchard" "barn" "[I", Cond.methodLink RX1 170 yX1_lookAt]
def wsL_pass_r2 : List Cond := [Cond.instanceMethod yX1_lookAt, Cond.selects RX1 yX1_lookAt yX1_lookAt, Cond.code yX1_lookAt cX1_lookAt 2 none, Cond.fieldLink RX1 48 "TwinOrchard" "looked" "LTwinOrchard$Tree;", Cond.fieldLink RX1 28 "TwinOrchard" "vigours" "[I", Cond.fieldLink RX1 25 "TwinOrchard" "branches" "[I", Cond.fieldLink RX1 31 "TwinOrchard" "tired" "[Z", Cond.fieldLink RX1 13 "TwinOrchard" "hardiness" "[I", Cond.methodLink RX1 174 yX1_liveLooked, Cond.instanceMethod yX1_liveLooked, Cond.selects RX1 yX1_liveLooked yX1_liveLooked, Cond.code yX1_liveLooked cX1_liveLooked 4 (some .int), Cond.fieldLink RX1 19 "TwinOrchard" "frosts" "[I", Cond.methodLink RX1 240 yJ9_floorMod_7cf53, Cond.static yJ9_floorMod_7cf53, Cond.initialized RJ9, Cond.code yJ9_floorMod_7cf53 cJ9_floorMod_7cf53 3 (some .int), Cond.instanceMethod yX0_liveYear, Cond.initialized RX0, Cond.selects RX0 yX0_liveYear yX0_liveYear, Cond.code yX0_liveYear cX0_liveYear 3 (some .int), Cond.fieldLink RX0 15 "TwinOrchard$Tree" "tired" "Z", Cond.methodLink RX0 22 yX0_freeze, Cond.instanceMethod yX0_freeze]
def wsL_pass_r3 : List Cond := [Cond.selects RX0 yX0_freeze yX0_freeze, Cond.code yX0_freeze cX0_freeze 3 none, Cond.fieldLink RX0 33 "TwinOrchard$Tree" "hardiness" "I", Cond.methodLink RX0 36 Lib.Math.max.name, Cond.static Lib.Math.max.name, Cond.initialized "java/lang/Math", Cond.code Lib.Math.max.name Lib.Math.max.code 2 (some .int), Cond.fieldLink RX0 9 "TwinOrchard$Tree" "branches" "I", Cond.methodLink RX0 26 yX0_apples, Cond.instanceMethod yX0_apples, Cond.selects RX0 yX0_apples yX0_apples, Cond.code yX0_apples cX0_apples 2 (some .int), Cond.fieldLink RX0 19 "TwinOrchard$Tree" "vigour" "I", Cond.methodLink RX0 30 yX0_grow, Cond.instanceMethod yX0_grow, Cond.selects RX0 yX0_grow yX0_grow, Cond.code yX0_grow cX0_grow 2 none, Cond.methodLink RX0 42 Lib.Math.min.name, Cond.static Lib.Math.min.name, Cond.code Lib.Math.min.name Lib.Math.min.code 2 (some .int), Cond.methodLink RX1 218 yX1_keepLooked, Cond.instanceMethod yX1_keepLooked, Cond.selects RX1 yX1_keepLooked yX1_keepLooked, Cond.code yX1_keepLooked cX1_keepLooked 2 none]
def wsL_pass_r4 : List Cond := [Cond.methodLink RX1 55 yJ7_fill_53178, Cond.static yJ7_fill_53178, Cond.initialized RJ7, Cond.code yJ7_fill_53178 cJ7_fill_53178 4 none]
def wsL_pass : List Cond := .codeWith yL_pass cL_pass 4 (some .int) [(0, 9, 12, 15)] :: ((wsL_pass_r1 ++ (wsL_pass_r2 ++ (wsL_pass_r3 ++ wsL_pass_r4))) ++ wsX10 ++ wsX00 ++ (vx_atS RX1 80 "java/lang/IllegalArgumentException" ["java/lang/RuntimeException", "java/lang/Exception"]).filter goodWord)
def wsL_foresee_r1 : List Cond := [Cond.classLink RL 15 "java/lang/IllegalArgumentException", Cond.classLink RL 13 "java/lang/IndexOutOfBoundsException", Cond.methodLink RL 55 yX1_foresee, Cond.instanceMethod yX1_foresee, Cond.selects RX1 yX1_foresee yX1_foresee, Cond.initialized RX1, Cond.code yX1_foresee cX1_foresee 7 (some .int), Cond.classLink RX1 76 "java/lang/IllegalArgumentException", Cond.initialized "java/lang/IllegalArgumentException", Cond.classLink RX1 65 "java/lang/IndexOutOfBoundsException", Cond.initialized "java/lang/IndexOutOfBoundsException", Cond.fieldLink RX1 48 "TwinOrchard" "looked" "LTwinOrchard$Tree;", Cond.methodLink RX1 72 yX1_isWithin, Cond.static yX1_isWithin, Cond.code yX1_isWithin cX1_isWithin 3 (some .boolean), Cond.methodLink RX1 121 yX1_hasTree, Cond.instanceMethod yX1_hasTree, Cond.selects RX1 yX1_hasTree yX1_hasTree, Cond.code yX1_hasTree cX1_hasTree 2 (some .boolean), Cond.fieldLink RX1 22 "TwinOrchard" "kinds" "[I", Cond.methodLink RX1 170 yX1_lookAt, Cond.instanceMethod yX1_lookAt, Cond.selects RX1 yX1_lookAt yX1_lookAt, Cond.code yX1_lookAt cX1_lookAt 2 none]
def wsL_foresee_r2 : List Cond := [Cond.fieldLink RX1 28 "TwinOrchard" "vigours" "[I", Cond.fieldLink RX1 25 "TwinOrchard" "branches" "[I", Cond.fieldLink RX1 31 "TwinOrchard" "tired" "[Z", Cond.fieldLink RX1 13 "TwinOrchard" "hardiness" "[I", Cond.methodLink RX1 174 yX1_liveLooked, Cond.instanceMethod yX1_liveLooked, Cond.selects RX1 yX1_liveLooked yX1_liveLooked, Cond.code yX1_liveLooked cX1_liveLooked 4 (some .int), Cond.fieldLink RX1 19 "TwinOrchard" "frosts" "[I", Cond.fieldLink RX1 38 "TwinOrchard" "year" "I", Cond.methodLink RX1 240 yJ9_floorMod_7cf53, Cond.static yJ9_floorMod_7cf53, Cond.initialized RJ9, Cond.code yJ9_floorMod_7cf53 cJ9_floorMod_7cf53 3 (some .int), Cond.instanceMethod yX0_liveYear, Cond.initialized RX0, Cond.selects RX0 yX0_liveYear yX0_liveYear, Cond.code yX0_liveYear cX0_liveYear 3 (some .int), Cond.fieldLink RX0 15 "TwinOrchard$Tree" "tired" "Z", Cond.methodLink RX0 22 yX0_freeze, Cond.instanceMethod yX0_freeze, Cond.selects RX0 yX0_freeze yX0_freeze, Cond.code yX0_freeze cX0_freeze 3 none, Cond.fieldLink RX0 33 "TwinOrchard$Tree" "hardiness" "I"]
def wsL_foresee_r3 : List Cond := [Cond.methodLink RX0 36 Lib.Math.max.name, Cond.static Lib.Math.max.name, Cond.initialized "java/lang/Math", Cond.code Lib.Math.max.name Lib.Math.max.code 2 (some .int), Cond.fieldLink RX0 9 "TwinOrchard$Tree" "branches" "I", Cond.methodLink RX0 26 yX0_apples, Cond.instanceMethod yX0_apples, Cond.selects RX0 yX0_apples yX0_apples, Cond.code yX0_apples cX0_apples 2 (some .int), Cond.fieldLink RX0 19 "TwinOrchard$Tree" "vigour" "I", Cond.methodLink RX0 30 yX0_grow, Cond.instanceMethod yX0_grow, Cond.selects RX0 yX0_grow yX0_grow, Cond.code yX0_grow cX0_grow 2 none, Cond.methodLink RX0 42 Lib.Math.min.name, Cond.static Lib.Math.min.name, Cond.code Lib.Math.min.name Lib.Math.min.code 2 (some .int)]
def wsL_foresee : List Cond := .codeWith yL_foresee cL_foresee 5 (some .int) [(0, 10, 13, 15), (0, 10, 17, 13)] :: ((wsL_foresee_r1 ++ (wsL_foresee_r2 ++ wsL_foresee_r3)) ++ wsX10 ++ wsX00 ++ (vx_atS RX1 80 "java/lang/IllegalArgumentException" ["java/lang/RuntimeException", "java/lang/Exception"]).filter goodWord ++ (vx_atS RX1 69 "java/lang/IndexOutOfBoundsException" ["java/lang/RuntimeException", "java/lang/Exception"]).filter goodWord)
def wsL_advise_r1 : List Cond := [Cond.classLink RL 15 "java/lang/IllegalArgumentException", Cond.methodLink RL 58 yX1_advise, Cond.instanceMethod yX1_advise, Cond.selects RX1 yX1_advise yX1_advise, Cond.initialized RX1, Cond.code yX1_advise cX1_advise 7 (some .int), Cond.classLink RX1 76 "java/lang/IllegalArgumentException", Cond.initialized "java/lang/IllegalArgumentException", Cond.methodLink RX1 72 yX1_isWithin, Cond.static yX1_isWithin, Cond.code yX1_isWithin cX1_isWithin 3 (some .boolean), Cond.methodLink RX1 182 yX1_gainOfPruning, Cond.instanceMethod yX1_gainOfPruning, Cond.selects RX1 yX1_gainOfPruning yX1_gainOfPruning, Cond.code yX1_gainOfPruning cX1_gainOfPruning 5 (some .int), Cond.fieldLink RX1 48 "TwinOrchard" "looked" "LTwinOrchard$Tree;", Cond.methodLink RX1 212 yX1_canPrune, Cond.instanceMethod yX1_canPrune, Cond.selects RX1 yX1_canPrune yX1_canPrune, Cond.code yX1_canPrune cX1_canPrune 3 (some .boolean), Cond.fieldLink RX1 25 "TwinOrchard" "branches" "[I", Cond.methodLink RX1 121 yX1_hasTree, Cond.instanceMethod yX1_hasTree, Cond.selects RX1 yX1_hasTree yX1_hasTree]
def wsL_advise_r2 : List Cond := [Cond.code yX1_hasTree cX1_hasTree 2 (some .boolean), Cond.fieldLink RX1 22 "TwinOrchard" "kinds" "[I", Cond.methodLink RX1 205 yX1_canPay, Cond.instanceMethod yX1_canPay, Cond.selects RX1 yX1_canPay yX1_canPay, Cond.code yX1_canPay cX1_canPay 3 (some .boolean), Cond.fieldLink RX1 35 "TwinOrchard" "strength" "[I", Cond.methodLink RX1 202 yX1_twinOf, Cond.static yX1_twinOf, Cond.code yX1_twinOf cX1_twinOf 1 (some .int), Cond.methodLink RX1 170 yX1_lookAt, Cond.instanceMethod yX1_lookAt, Cond.selects RX1 yX1_lookAt yX1_lookAt, Cond.code yX1_lookAt cX1_lookAt 2 none, Cond.fieldLink RX1 28 "TwinOrchard" "vigours" "[I", Cond.fieldLink RX1 31 "TwinOrchard" "tired" "[Z", Cond.fieldLink RX1 13 "TwinOrchard" "hardiness" "[I", Cond.methodLink RX1 174 yX1_liveLooked, Cond.instanceMethod yX1_liveLooked, Cond.selects RX1 yX1_liveLooked yX1_liveLooked, Cond.code yX1_liveLooked cX1_liveLooked 4 (some .int), Cond.fieldLink RX1 19 "TwinOrchard" "frosts" "[I", Cond.fieldLink RX1 38 "TwinOrchard" "year" "I", Cond.methodLink RX1 240 yJ9_floorMod_7cf53]
def wsL_advise_r3 : List Cond := [Cond.static yJ9_floorMod_7cf53, Cond.initialized RJ9, Cond.code yJ9_floorMod_7cf53 cJ9_floorMod_7cf53 3 (some .int), Cond.instanceMethod yX0_liveYear, Cond.initialized RX0, Cond.selects RX0 yX0_liveYear yX0_liveYear, Cond.code yX0_liveYear cX0_liveYear 3 (some .int), Cond.fieldLink RX0 15 "TwinOrchard$Tree" "tired" "Z", Cond.methodLink RX0 22 yX0_freeze, Cond.instanceMethod yX0_freeze, Cond.selects RX0 yX0_freeze yX0_freeze, Cond.code yX0_freeze cX0_freeze 3 none, Cond.fieldLink RX0 33 "TwinOrchard$Tree" "hardiness" "I", Cond.methodLink RX0 36 Lib.Math.max.name, Cond.static Lib.Math.max.name, Cond.initialized "java/lang/Math", Cond.code Lib.Math.max.name Lib.Math.max.code 2 (some .int), Cond.fieldLink RX0 9 "TwinOrchard$Tree" "branches" "I", Cond.methodLink RX0 26 yX0_apples, Cond.instanceMethod yX0_apples, Cond.selects RX0 yX0_apples yX0_apples, Cond.code yX0_apples cX0_apples 2 (some .int), Cond.fieldLink RX0 19 "TwinOrchard$Tree" "vigour" "I", Cond.methodLink RX0 30 yX0_grow]
def wsL_advise_r4 : List Cond := [Cond.instanceMethod yX0_grow, Cond.selects RX0 yX0_grow yX0_grow, Cond.code yX0_grow cX0_grow 2 none, Cond.methodLink RX0 42 Lib.Math.min.name, Cond.static Lib.Math.min.name, Cond.code Lib.Math.min.name Lib.Math.min.code 2 (some .int), Cond.instanceMethod yX0_shorten, Cond.selects RX0 yX0_shorten yX0_shorten, Cond.code yX0_shorten cX0_shorten 2 none, Cond.methodLink RX1 100 yX1_mirrorOf, Cond.static yX1_mirrorOf, Cond.code yX1_mirrorOf cX1_mirrorOf 2 (some .int)]
def wsL_advise : List Cond := .codeWith yL_advise cL_advise 4 (some .int) [(0, 9, 12, 15)] :: ((wsL_advise_r1 ++ (wsL_advise_r2 ++ (wsL_advise_r3 ++ wsL_advise_r4))) ++ wsX10 ++ wsX00 ++ (vx_atS RX1 80 "java/lang/IllegalArgumentException" ["java/lang/RuntimeException", "java/lang/Exception"]).filter goodWord)
def wsL_law0_r1 : List Cond := [Cond.classLink RL 8 RX1, Cond.instantiable RX1 13, Cond.initialized RX1, Cond.classLink RL 62 RX2, Cond.instantiable RX2 8, Cond.initialized RX2, Cond.arrayClass .long, Cond.methodLink RL 61 yX1_init, Cond.instanceMethod yX1_init, Cond.code yX1_init cX1_init 1 none, Cond.methodLink RX1 1 objectInit, Cond.instanceMethod objectInit, Cond.code objectInit ⟨#[0xb1]⟩ 1 none, Cond.arrayClass .int, Cond.fieldLink RX1 9 "TwinOrchard" "weights" "[I", Cond.fieldLink RX1 13 "TwinOrchard" "hardiness" "[I", Cond.fieldLink RX1 16 "TwinOrchard" "barn" "[I", Cond.fieldLink RX1 19 "TwinOrchard" "frosts" "[I", Cond.fieldLink RX1 22 "TwinOrchard" "kinds" "[I", Cond.fieldLink RX1 25 "TwinOrchard" "branches" "[I", Cond.fieldLink RX1 28 "TwinOrchard" "vigours" "[I", Cond.arrayClass .boolean, Cond.fieldLink RX1 31 "TwinOrchard" "tired" "[Z", Cond.fieldLink RX1 35 "TwinOrchard" "strength" "[I"]
def wsL_law0_r2 : List Cond := [Cond.fieldLink RX1 38 "TwinOrchard" "year" "I", Cond.fieldLink RX1 42 "TwinOrchard" "carriedLeftMore" "I", Cond.classLink RX1 45 RX0, Cond.instantiable RX0 4, Cond.initialized RX0, Cond.fieldLink RX1 48 "TwinOrchard" "looked" "LTwinOrchard$Tree;", Cond.fieldLink RX1 52 "TwinOrchard" "fewest" "[I", Cond.instanceMethod yX0_init, Cond.code yX0_init cX0_init 1 none, Cond.methodLink RX0 3 objectInit, Cond.methodLink RX1 55 yJ7_fill_53178, Cond.static yJ7_fill_53178, Cond.initialized RJ7, Cond.code yJ7_fill_53178 cJ7_fill_53178 4 none, Cond.methodLink RL 64 yX2_init, Cond.instanceMethod yX2_init, Cond.code yX2_init cX2_init 2 none, Cond.methodLink RX2 1 objectInit, Cond.fieldLink RX2 9 "TwinOrchardModel" "weights" "[I", Cond.fieldLink RX2 13 "TwinOrchardModel" "bears" "[I", Cond.fieldLink RX2 16 "TwinOrchardModel" "frosts" "[I", Cond.fieldLink RX2 19 "TwinOrchardModel" "trees" "[I", Cond.fieldLink RX2 22 "TwinOrchardModel" "barn" "[I", Cond.fieldLink RX2 25 "TwinOrchardModel" "numbers" "[I"]
def wsL_law0_r3 : List Cond := [Cond.methodLink RL 65 yL_setSort, Cond.static yL_setSort, Cond.initialized RL, Cond.codeWith yL_setSort cL_setSort 6 (some .int) [(0, 12, 15, 13), (0, 12, 19, 15)], Cond.classLink RL 13 "java/lang/IndexOutOfBoundsException", Cond.classLink RL 15 "java/lang/IllegalArgumentException", Cond.methodLink RL 7 yX1_setSort, Cond.instanceMethod yX1_setSort, Cond.selects RX1 yX1_setSort yX1_setSort, Cond.code yX1_setSort cX1_setSort 5 (some .int), Cond.classLink RX1 65 "java/lang/IndexOutOfBoundsException", Cond.initialized "java/lang/IndexOutOfBoundsException", Cond.classLink RX1 76 "java/lang/IllegalArgumentException", Cond.initialized "java/lang/IllegalArgumentException", Cond.methodLink RX1 61 yX1_isSort, Cond.static yX1_isSort, Cond.code yX1_isSort cX1_isSort 1 (some .boolean), Cond.methodLink RX1 72 yX1_isWithin, Cond.static yX1_isWithin, Cond.code yX1_isWithin cX1_isWithin 3 (some .boolean), Cond.methodLink RL 70 yX2_setSort, Cond.instanceMethod yX2_setSort, Cond.selects RX2 yX2_setSort yX2_setSort, Cond.code yX2_setSort cX2_setSort 5 (some .int)]
def wsL_law0_r4 : List Cond := [Cond.fieldLink RX2 28 "TwinOrchardModel" "thrown" "I", Cond.methodLink RX2 36 yX2_isSort, Cond.static yX2_isSort, Cond.code yX2_isSort cX2_isSort 1 (some .boolean), Cond.methodLink RX2 32 yX2_isIn, Cond.static yX2_isIn, Cond.code yX2_isIn cX2_isIn 3 (some .boolean), Cond.methodLink RX2 40 yX2_fail, Cond.instanceMethod yX2_fail, Cond.selects RX2 yX2_fail yX2_fail, Cond.code yX2_fail cX2_fail 2 (some .int), Cond.methodLink RL 71 yX2_thrown, Cond.instanceMethod yX2_thrown, Cond.selects RX2 yX2_thrown yX2_thrown, Cond.code yX2_thrown cX2_thrown 1 (some .int), Cond.methodLink RL 75 yL_setFrost, Cond.static yL_setFrost, Cond.codeWith yL_setFrost cL_setFrost 5 (some .int) [(0, 10, 13, 13), (0, 10, 17, 15)], Cond.methodLink RL 17 yX1_setFrost, Cond.instanceMethod yX1_setFrost, Cond.selects RX1 yX1_setFrost yX1_setFrost, Cond.code yX1_setFrost cX1_setFrost 4 (some .int), Cond.methodLink RL 78 yX2_setFrost, Cond.instanceMethod yX2_setFrost]
def wsL_law0_r5 : List Cond := [Cond.selects RX2 yX2_setFrost yX2_setFrost, Cond.code yX2_setFrost cX2_setFrost 4 (some .int), Cond.methodLink RL 79 yL_plant, Cond.static yL_plant, Cond.codeWith yL_plant cL_plant 7 (some .int) [(0, 14, 17, 13), (0, 14, 21, 15)], Cond.methodLink RL 21 yX1_plant, Cond.instanceMethod yX1_plant, Cond.selects RX1 yX1_plant yX1_plant, Cond.code yX1_plant cX1_plant 8 (some .int), Cond.methodLink RX1 85 yX1_isPlace, Cond.static yX1_isPlace, Cond.code yX1_isPlace cX1_isPlace 2 (some .boolean), Cond.methodLink RX1 93 yX1_spotOf, Cond.static yX1_spotOf, Cond.code yX1_spotOf cX1_spotOf 2 (some .int), Cond.methodLink RX1 97 yX1_plantAt, Cond.instanceMethod yX1_plantAt, Cond.selects RX1 yX1_plantAt yX1_plantAt, Cond.code yX1_plantAt cX1_plantAt 4 (some .boolean), Cond.methodLink RX1 121 yX1_hasTree, Cond.instanceMethod yX1_hasTree, Cond.selects RX1 yX1_hasTree yX1_hasTree, Cond.code yX1_hasTree cX1_hasTree 2 (some .boolean), Cond.methodLink RX1 205 yX1_canPay]
def wsL_law0_r6 : List Cond := [Cond.instanceMethod yX1_canPay, Cond.selects RX1 yX1_canPay yX1_canPay, Cond.code yX1_canPay cX1_canPay 3 (some .boolean), Cond.methodLink RX1 202 yX1_twinOf, Cond.static yX1_twinOf, Cond.code yX1_twinOf cX1_twinOf 1 (some .int), Cond.methodLink RX1 208 yX1_pay, Cond.instanceMethod yX1_pay, Cond.selects RX1 yX1_pay yX1_pay, Cond.code yX1_pay cX1_pay 3 none, Cond.methodLink RX1 100 yX1_mirrorOf, Cond.static yX1_mirrorOf, Cond.code yX1_mirrorOf cX1_mirrorOf 2 (some .int), Cond.methodLink RX1 104 yX1_whoDidIt, Cond.static yX1_whoDidIt, Cond.code yX1_whoDidIt cX1_whoDidIt 2 (some .int), Cond.methodLink RL 82 yX2_plant, Cond.instanceMethod yX2_plant, Cond.selects RX2 yX2_plant yX2_plant, Cond.code yX2_plant cX2_plant 5 (some .int), Cond.methodLink RX2 77 yX2_isSpot, Cond.static yX2_isSpot, Cond.code yX2_isSpot cX2_isSpot 2 (some .boolean), Cond.methodLink RX2 81 yX2_both]
def wsL_law0_r7 : List Cond := [Cond.instanceMethod yX2_both, Cond.selects RX2 yX2_both yX2_both, Cond.code yX2_both cX2_both 8 (some .int), Cond.methodLink RX2 73 yX2_does, Cond.instanceMethod yX2_does, Cond.selects RX2 yX2_does yX2_does, Cond.code yX2_does cX2_does 8 (some .boolean), Cond.fieldLink RX2 63 "TwinOrchardModel" "COSTS" "[I", Cond.methodLink RX2 66 yX2_can, Cond.instanceMethod yX2_can, Cond.selects RX2 yX2_can yX2_can, Cond.code yX2_can cX2_can 5 (some .boolean), Cond.methodLink RX2 44 yX2_tr, Cond.instanceMethod yX2_tr, Cond.selects RX2 yX2_tr yX2_tr, Cond.code yX2_tr cX2_tr 3 (some .int), Cond.methodLink RX2 69 yX2_change, Cond.instanceMethod yX2_change, Cond.selects RX2 yX2_change yX2_change, Cond.code yX2_change cX2_change 7 none, Cond.methodLink RX2 48 arraycopyName, Cond.native arraycopyName, Cond.static arraycopyName, Cond.initialized "java/lang/System"]
def wsL_law0_r8 : List Cond := [Cond.methodLink RX2 58 Lib.Math.max.name, Cond.static Lib.Math.max.name, Cond.initialized "java/lang/Math", Cond.code Lib.Math.max.name Lib.Math.max.code 2 (some .int), Cond.methodLink RX2 54 yX2_set, Cond.instanceMethod yX2_set, Cond.selects RX2 yX2_set yX2_set, Cond.code yX2_set cX2_set 4 none, Cond.methodLink RL 83 yL_prune, Cond.static yL_prune, Cond.codeWith yL_prune cL_prune 6 (some .int) [(0, 12, 15, 13), (0, 12, 19, 15)], Cond.methodLink RL 25 yX1_prune, Cond.instanceMethod yX1_prune, Cond.selects RX1 yX1_prune yX1_prune, Cond.code yX1_prune cX1_prune 7 (some .int), Cond.methodLink RX1 110 yX1_pruneAt, Cond.instanceMethod yX1_pruneAt, Cond.selects RX1 yX1_pruneAt yX1_pruneAt, Cond.code yX1_pruneAt cX1_pruneAt 3 (some .boolean), Cond.methodLink RX1 212 yX1_canPrune, Cond.instanceMethod yX1_canPrune, Cond.selects RX1 yX1_canPrune yX1_canPrune, Cond.code yX1_canPrune cX1_canPrune 3 (some .boolean), Cond.methodLink RX1 170 yX1_lookAt]
def wsL_law0_r9 : List Cond := [Cond.instanceMethod yX1_lookAt, Cond.selects RX1 yX1_lookAt yX1_lookAt, Cond.code yX1_lookAt cX1_lookAt 2 none, Cond.instanceMethod yX0_shorten, Cond.selects RX0 yX0_shorten yX0_shorten, Cond.code yX0_shorten cX0_shorten 2 none, Cond.fieldLink RX0 9 "TwinOrchard$Tree" "branches" "I", Cond.fieldLink RX0 15 "TwinOrchard$Tree" "tired" "Z", Cond.methodLink RX1 218 yX1_keepLooked, Cond.instanceMethod yX1_keepLooked, Cond.selects RX1 yX1_keepLooked yX1_keepLooked, Cond.code yX1_keepLooked cX1_keepLooked 2 none, Cond.methodLink RL 85 yX2_prune, Cond.instanceMethod yX2_prune, Cond.selects RX2 yX2_prune yX2_prune, Cond.code yX2_prune cX2_prune 4 (some .int), Cond.methodLink RL 86 yL_graft, Cond.static yL_graft, Cond.codeWith yL_graft cL_graft 6 (some .int) [(0, 12, 15, 13), (0, 12, 19, 15)], Cond.methodLink RL 28 yX1_graft, Cond.instanceMethod yX1_graft, Cond.selects RX1 yX1_graft yX1_graft, Cond.code yX1_graft cX1_graft 7 (some .int), Cond.methodLink RX1 113 yX1_graftAt]
def wsL_law0_r10 : List Cond := [Cond.instanceMethod yX1_graftAt, Cond.selects RX1 yX1_graftAt yX1_graftAt, Cond.code yX1_graftAt cX1_graftAt 3 (some .boolean), Cond.methodLink RX1 221 Lib.Math.max.name, Cond.methodLink RL 88 yX2_graft, Cond.instanceMethod yX2_graft, Cond.selects RX2 yX2_graft yX2_graft, Cond.code yX2_graft cX2_graft 4 (some .int), Cond.methodLink RL 89 yL_fell, Cond.static yL_fell, Cond.codeWith yL_fell cL_fell 5 (some .int) [(0, 10, 13, 13)], Cond.methodLink RL 31 yX1_fell, Cond.instanceMethod yX1_fell, Cond.selects RX1 yX1_fell yX1_fell, Cond.code yX1_fell cX1_fell 6 (some .int), Cond.methodLink RX1 116 yX1_fellAt, Cond.instanceMethod yX1_fellAt, Cond.selects RX1 yX1_fellAt yX1_fellAt, Cond.code yX1_fellAt cX1_fellAt 2 (some .boolean), Cond.methodLink RL 91 yX2_fell, Cond.instanceMethod yX2_fell, Cond.selects RX2 yX2_fell yX2_fell, Cond.code yX2_fell cX2_fell 3 (some .int), Cond.methodLink RL 92 yL_tree]
def wsL_law0_r11 : List Cond := [Cond.static yL_tree, Cond.codeWith yL_tree cL_tree 6 (some .int) [(0, 12, 15, 13)], Cond.methodLink RL 34 yX1_tree, Cond.instanceMethod yX1_tree, Cond.selects RX1 yX1_tree yX1_tree, Cond.code yX1_tree cX1_tree 5 (some .int), Cond.methodLink RX1 124 yX1_applesNow, Cond.instanceMethod yX1_applesNow, Cond.selects RX1 yX1_applesNow yX1_applesNow, Cond.code yX1_applesNow cX1_applesNow 2 (some .int), Cond.instanceMethod yX0_apples, Cond.selects RX0 yX0_apples yX0_apples, Cond.code yX0_apples cX0_apples 2 (some .int), Cond.fieldLink RX0 19 "TwinOrchard$Tree" "vigour" "I", Cond.methodLink RL 94 yX2_tree, Cond.instanceMethod yX2_tree, Cond.selects RX2 yX2_tree yX2_tree, Cond.code yX2_tree cX2_tree 4 (some .int), Cond.methodLink RX2 88 yX2_treeTold, Cond.instanceMethod yX2_treeTold, Cond.selects RX2 yX2_treeTold yX2_treeTold, Cond.code yX2_treeTold cX2_treeTold 3 (some .int), Cond.methodLink RX2 85 yX2_apples, Cond.instanceMethod yX2_apples]
def wsL_law0_r12 : List Cond := [Cond.selects RX2 yX2_apples yX2_apples, Cond.code yX2_apples cX2_apples 3 (some .int), Cond.methodLink RL 95 yL_sort, Cond.static yL_sort, Cond.codeWith yL_sort cL_sort 5 (some .int) [(0, 10, 13, 13)], Cond.methodLink RL 37 yX1_sort, Cond.instanceMethod yX1_sort, Cond.selects RX1 yX1_sort yX1_sort, Cond.code yX1_sort cX1_sort 3 (some .int), Cond.methodLink RX1 129 yX1_treesOfSort, Cond.instanceMethod yX1_treesOfSort, Cond.selects RX1 yX1_treesOfSort yX1_treesOfSort, Cond.code yX1_treesOfSort cX1_treesOfSort 4 (some .int), Cond.methodLink RL 97 yX2_sort, Cond.instanceMethod yX2_sort, Cond.selects RX2 yX2_sort yX2_sort, Cond.code yX2_sort cX2_sort 3 (some .int), Cond.methodLink RX2 91 yX2_sortTold, Cond.instanceMethod yX2_sortTold, Cond.selects RX2 yX2_sortTold yX2_sortTold, Cond.code yX2_sortTold cX2_sortTold 5 (some .int), Cond.methodLink RL 98 yL_count, Cond.static yL_count, Cond.codeWith yL_count cL_count 4 (some .int) [(0, 9, 12, 13)]]
def wsL_law0_r13 : List Cond := [Cond.methodLink RL 40 yX1_count, Cond.instanceMethod yX1_count, Cond.selects RX1 yX1_count yX1_count, Cond.code yX1_count cX1_count 2 (some .int), Cond.methodLink RX1 134 yX1_allTrees, Cond.instanceMethod yX1_allTrees, Cond.selects RX1 yX1_allTrees yX1_allTrees, Cond.code yX1_allTrees cX1_allTrees 3 (some .int), Cond.methodLink RX1 138 yX1_allTired, Cond.instanceMethod yX1_allTired, Cond.selects RX1 yX1_allTired yX1_allTired, Cond.code yX1_allTired cX1_allTired 3 (some .int), Cond.methodLink RX1 141 yX1_applesInBarn, Cond.instanceMethod yX1_applesInBarn, Cond.selects RX1 yX1_applesInBarn yX1_applesInBarn, Cond.code yX1_applesInBarn cX1_applesInBarn 3 (some .int), Cond.methodLink RX1 144 yX1_weightInBarn, Cond.instanceMethod yX1_weightInBarn, Cond.selects RX1 yX1_weightInBarn yX1_weightInBarn, Cond.code yX1_weightInBarn cX1_weightInBarn 3 (some .int), Cond.methodLink RX1 147 yX1_unlikePairs, Cond.instanceMethod yX1_unlikePairs, Cond.selects RX1 yX1_unlikePairs yX1_unlikePairs, Cond.code yX1_unlikePairs cX1_unlikePairs 6 (some .int)]
def wsL_law0_r14 : List Cond := [Cond.methodLink RL 101 yX2_count, Cond.instanceMethod yX2_count, Cond.selects RX2 yX2_count yX2_count, Cond.code yX2_count cX2_count 2 (some .int), Cond.methodLink RX2 97 yX2_counted, Cond.instanceMethod yX2_counted, Cond.selects RX2 yX2_counted yX2_counted, Cond.code yX2_counted cX2_counted 6 (some .int), Cond.methodLink RX2 94 yX2_all, Cond.instanceMethod yX2_all, Cond.selects RX2 yX2_all yX2_all, Cond.code yX2_all cX2_all 4 (some .int), Cond.methodLink RL 102 yL_leans, Cond.static yL_leans, Cond.codeWith yL_leans cL_leans 4 (some .int) [(0, 9, 12, 13)], Cond.methodLink RL 44 yX1_leans, Cond.instanceMethod yX1_leans, Cond.selects RX1 yX1_leans yX1_leans, Cond.code yX1_leans cX1_leans 5 (some .int), Cond.methodLink RL 104 yX2_leans, Cond.instanceMethod yX2_leans, Cond.selects RX2 yX2_leans yX2_leans, Cond.code yX2_leans cX2_leans 4 (some .int), Cond.methodLink RL 105 yL_carry]
def wsL_law0_r15 : List Cond := [Cond.static yL_carry, Cond.codeWith yL_carry cL_carry 6 (some .int) [(0, 12, 15, 13), (0, 12, 19, 15), (0, 12, 23, 50)], Cond.classLink RL 50 "java/lang/IllegalStateException", Cond.methodLink RL 47 yX1_carry, Cond.instanceMethod yX1_carry, Cond.selects RX1 yX1_carry yX1_carry, Cond.code yX1_carry cX1_carry 4 (some .int), Cond.classLink RX1 154 "java/lang/IllegalStateException", Cond.initialized "java/lang/IllegalStateException", Cond.methodLink RL 107 yX2_carry, Cond.instanceMethod yX2_carry, Cond.selects RX2 yX2_carry yX2_carry, Cond.code yX2_carry cX2_carry 4 (some .int), Cond.fieldLink RX2 100 "TwinOrchardModel" "tilt" "I", Cond.methodLink RL 108 yX1_tilt, Cond.instanceMethod yX1_tilt, Cond.selects RX1 yX1_tilt yX1_tilt, Cond.code yX1_tilt cX1_tilt 1 (some .int), Cond.methodLink RL 111 yX2_tilt, Cond.instanceMethod yX2_tilt, Cond.selects RX2 yX2_tilt yX2_tilt, Cond.code yX2_tilt cX2_tilt 1 (some .int), Cond.methodLink RL 112 yX1_balance, Cond.instanceMethod yX1_balance]
def wsL_law0_r16 : List Cond := [Cond.selects RX1 yX1_balance yX1_balance, Cond.code yX1_balance cX1_balance 3 (some .int), Cond.methodLink RX1 159 yX1_balancedApples, Cond.instanceMethod yX1_balancedApples, Cond.selects RX1 yX1_balancedApples yX1_balancedApples, Cond.code yX1_balancedApples cX1_balancedApples 2 (some .int), Cond.methodLink RX1 226 Lib.Math.min.name, Cond.static Lib.Math.min.name, Cond.code Lib.Math.min.name Lib.Math.min.code 2 (some .int), Cond.methodLink RX1 162 yX1_heaviestUpTo, Cond.instanceMethod yX1_heaviestUpTo, Cond.selects RX1 yX1_heaviestUpTo yX1_heaviestUpTo, Cond.code yX1_heaviestUpTo cX1_heaviestUpTo 3 (some .int), Cond.methodLink RX1 229 yX1_reachWithSort, Cond.instanceMethod yX1_reachWithSort, Cond.selects RX1 yX1_reachWithSort yX1_reachWithSort, Cond.code yX1_reachWithSort cX1_reachWithSort 5 none, Cond.methodLink RL 115 yX2_balance, Cond.instanceMethod yX2_balance, Cond.selects RX2 yX2_balance yX2_balance, Cond.code yX2_balance cX2_balance 6 (some .int), Cond.methodLink RX2 103 Lib.Math.min.name, Cond.methodLink RL 116 yL_pass, Cond.static yL_pass]
def wsL_law0_r17 : List Cond := [Cond.codeWith yL_pass cL_pass 4 (some .int) [(0, 9, 12, 15)], Cond.methodLink RL 52 yX1_pass, Cond.instanceMethod yX1_pass, Cond.selects RX1 yX1_pass yX1_pass, Cond.code yX1_pass cX1_pass 4 (some .int), Cond.methodLink RX1 167 yX1_passAt, Cond.instanceMethod yX1_passAt, Cond.selects RX1 yX1_passAt yX1_passAt, Cond.code yX1_passAt cX1_passAt 4 (some .int), Cond.methodLink RX1 174 yX1_liveLooked, Cond.instanceMethod yX1_liveLooked, Cond.selects RX1 yX1_liveLooked yX1_liveLooked, Cond.code yX1_liveLooked cX1_liveLooked 4 (some .int), Cond.methodLink RX1 240 yJ9_floorMod_7cf53, Cond.static yJ9_floorMod_7cf53, Cond.initialized RJ9, Cond.code yJ9_floorMod_7cf53 cJ9_floorMod_7cf53 3 (some .int), Cond.instanceMethod yX0_liveYear, Cond.selects RX0 yX0_liveYear yX0_liveYear, Cond.code yX0_liveYear cX0_liveYear 3 (some .int), Cond.methodLink RX0 22 yX0_freeze, Cond.instanceMethod yX0_freeze, Cond.selects RX0 yX0_freeze yX0_freeze, Cond.code yX0_freeze cX0_freeze 3 none]
def wsL_law0_r18 : List Cond := [Cond.fieldLink RX0 33 "TwinOrchard$Tree" "hardiness" "I", Cond.methodLink RX0 36 Lib.Math.max.name, Cond.methodLink RX0 26 yX0_apples, Cond.methodLink RX0 30 yX0_grow, Cond.instanceMethod yX0_grow, Cond.selects RX0 yX0_grow yX0_grow, Cond.code yX0_grow cX0_grow 2 none, Cond.methodLink RX0 42 Lib.Math.min.name, Cond.methodLink RL 118 yX2_pass, Cond.instanceMethod yX2_pass, Cond.selects RX2 yX2_pass yX2_pass, Cond.code yX2_pass cX2_pass 2 (some .int), Cond.methodLink RX2 110 yX2_yearsOn, Cond.instanceMethod yX2_yearsOn, Cond.selects RX2 yX2_yearsOn yX2_yearsOn, Cond.code yX2_yearsOn cX2_yearsOn 4 (some .int), Cond.methodLink RX2 106 yX2_yearOn, Cond.instanceMethod yX2_yearOn, Cond.selects RX2 yX2_yearOn yX2_yearOn, Cond.code yX2_yearOn cX2_yearOn 6 (some .int), Cond.methodLink RL 119 yL_foresee, Cond.static yL_foresee, Cond.codeWith yL_foresee cL_foresee 5 (some .int) [(0, 10, 13, 15), (0, 10, 17, 13)], Cond.methodLink RL 55 yX1_foresee]
def wsL_law0_r19 : List Cond := [Cond.instanceMethod yX1_foresee, Cond.selects RX1 yX1_foresee yX1_foresee, Cond.code yX1_foresee cX1_foresee 7 (some .int), Cond.methodLink RL 121 yX2_foresee, Cond.instanceMethod yX2_foresee, Cond.selects RX2 yX2_foresee yX2_foresee, Cond.code yX2_foresee cX2_foresee 6 (some .int), Cond.methodLink RX2 118 yX2_kept, Cond.instanceMethod yX2_kept, Cond.selects RX2 yX2_kept yX2_kept, Cond.code yX2_kept cX2_kept 1 (some (.array (.array .int))), Cond.classLink RX2 113 "[I", Cond.methodLink RX2 114 ⟨"[I", "clone", "()Ljava/lang/Object;"⟩, Cond.sameMethod "[I" "java/lang/Object" "clone" "()Ljava/lang/Object;", Cond.native ⟨"java/lang/Object", "clone", "()Ljava/lang/Object;"⟩, Cond.instanceMethod ⟨"java/lang/Object", "clone", "()Ljava/lang/Object;"⟩, Cond.selects "[I" ⟨"[I", "clone", "()Ljava/lang/Object;"⟩ ⟨"java/lang/Object", "clone", "()Ljava/lang/Object;"⟩, Cond.methodLink RX2 122 yX2_bringBack, Cond.instanceMethod yX2_bringBack, Cond.selects RX2 yX2_bringBack yX2_bringBack, Cond.code yX2_bringBack cX2_bringBack 4 none, Cond.methodLink RL 122 yL_advise, Cond.static yL_advise, Cond.codeWith yL_advise cL_advise 4 (some .int) [(0, 9, 12, 15)]]
def wsL_law0_r20 : List Cond := [Cond.methodLink RL 58 yX1_advise, Cond.instanceMethod yX1_advise, Cond.selects RX1 yX1_advise yX1_advise, Cond.code yX1_advise cX1_advise 7 (some .int), Cond.methodLink RX1 182 yX1_gainOfPruning, Cond.instanceMethod yX1_gainOfPruning, Cond.selects RX1 yX1_gainOfPruning yX1_gainOfPruning, Cond.code yX1_gainOfPruning cX1_gainOfPruning 5 (some .int), Cond.methodLink RL 124 yX2_advise, Cond.instanceMethod yX2_advise, Cond.selects RX2 yX2_advise yX2_advise, Cond.code yX2_advise cX2_advise 8 (some .int), Cond.methodLink RL 125 yX1_mean, Cond.instanceMethod yX1_mean, Cond.selects RX1 yX1_mean yX1_mean, Cond.code yX1_mean cX1_mean 4 (some .double), Cond.methodLink RL 129 yX2_mean, Cond.instanceMethod yX2_mean, Cond.selects RX2 yX2_mean yX2_mean, Cond.code yX2_mean cX2_mean 1 (some .double), Cond.methodLink RL 130 yX1_digest, Cond.instanceMethod yX1_digest, Cond.selects RX1 yX1_digest yX1_digest, Cond.code yX1_digest cX1_digest 5 (some .long)]
def wsL_law0_r21 : List Cond := [Cond.constantLong RX1 186 (863), Cond.constantLong RX1 188 (31), Cond.methodLink RX1 190 yX1_count, Cond.methodLink RX1 193 yX1_sort, Cond.methodLink RX1 196 yX1_tree, Cond.methodLink RX1 199 yX1_tilt, Cond.methodLink RL 134 yX2_digest, Cond.instanceMethod yX2_digest, Cond.selects RX2 yX2_digest yX2_digest, Cond.code yX2_digest cX2_digest 7 (some .long), Cond.constantLong RX2 126 (863), Cond.constantLong RX2 128 (31)]
def wsL_law0 : List Cond := (wsL_law0_r1 ++ (wsL_law0_r2 ++ (wsL_law0_r3 ++ (wsL_law0_r4 ++ (wsL_law0_r5 ++ (wsL_law0_r6 ++ (wsL_law0_r7 ++ (wsL_law0_r8 ++ (wsL_law0_r9 ++ (wsL_law0_r10 ++ (wsL_law0_r11 ++ (wsL_law0_r12 ++ (wsL_law0_r13 ++ (wsL_law0_r14 ++ (wsL_law0_r15 ++ (wsL_law0_r16 ++ (wsL_law0_r17 ++ (wsL_law0_r18 ++ (wsL_law0_r19 ++ (wsL_law0_r20 ++ wsL_law0_r21)))))))))))))))))))) ++ wsX10 ++ wsX20 ++ wsX00 ++ ([] : List Cond)
def wsL_law : List Cond := wsL_law0 ++ (vx_atS RX1 69 "java/lang/IndexOutOfBoundsException" ["java/lang/RuntimeException", "java/lang/Exception"]).filter goodWord ++ (vx_atS RX1 80 "java/lang/IllegalArgumentException" ["java/lang/RuntimeException", "java/lang/Exception"]).filter goodWord ++ (vx_atS RX1 158 "java/lang/IllegalStateException" ["java/lang/RuntimeException", "java/lang/Exception"]).filter goodWord
end
section
set_option maxRecDepth 20000 in
theorem wsL_law0_r1_in : ∀ w ∈ wsL_law0_r1, w ∈ lw_tbl := fun w h => (goodIn_p wsL_law0_r1 [62, 65] (by decide +kernel) (by decide +kernel) w h).1
set_option maxRecDepth 20000 in
theorem wsL_law0_r2_in : ∀ w ∈ wsL_law0_r2, w ∈ lw_tbl := fun w h => (goodIn_p wsL_law0_r2 [70, 93, 517] (by decide +kernel) (by decide +kernel) w h).1
set_option maxRecDepth 20000 in
theorem wsL_law0_r3_in : ∀ w ∈ wsL_law0_r3, w ∈ lw_tbl := fun w h => (goodIn_p wsL_law0_r3 [316, 281, 184, 551] (by decide +kernel) (by decide +kernel) w h).1
set_option maxRecDepth 20000 in
theorem wsL_law0_r4_in : ∀ w ∈ wsL_law0_r4, w ∈ lw_tbl := fun w h => (goodIn_p wsL_law0_r4 [554, 557, 561, 547, 340] (by decide +kernel) (by decide +kernel) w h).1
set_option maxRecDepth 20000 in
theorem wsL_law0_r5_in : ∀ w ∈ wsL_law0_r5, w ∈ lw_tbl := fun w h => (goodIn_p wsL_law0_r5 [565, 349, 293, 271, 355, 171] (by decide +kernel) (by decide +kernel) w h).1
set_option maxRecDepth 20000 in
theorem wsL_law0_r6_in : ∀ w ∈ wsL_law0_r6, w ∈ lw_tbl := fun w h => (goodIn_p wsL_law0_r6 [359, 362, 366, 274, 369, 569, 572] (by decide +kernel) (by decide +kernel) w h).1
set_option maxRecDepth 20000 in
theorem wsL_law0_r7_in : ∀ w ∈ wsL_law0_r7, w ∈ lw_tbl := fun w h => (goodIn_p wsL_law0_r7 [576, 580, 586, 590, 594] (by decide +kernel) (by decide +kernel) w h).1
set_option maxRecDepth 20000 in
theorem wsL_law0_r8_in : ∀ w ∈ wsL_law0_r8, w ∈ lw_tbl := fun w h => (goodIn_p wsL_law0_r8 [151, 601, 376, 381, 385] (by decide +kernel) (by decide +kernel) w h).1
set_option maxRecDepth 20000 in
theorem wsL_law0_r9_in : ∀ w ∈ wsL_law0_r9, w ∈ lw_tbl := fun w h => (goodIn_p wsL_law0_r9 [302, 389, 393, 606, 400] (by decide +kernel) (by decide +kernel) w h).1
set_option maxRecDepth 20000 in
theorem wsL_law0_r10_in : ∀ w ∈ wsL_law0_r10, w ∈ lw_tbl := fun w h => (goodIn_p wsL_law0_r10 [404, 610, 411, 415, 614] (by decide +kernel) (by decide +kernel) w h).1
set_option maxRecDepth 20000 in
theorem wsL_law0_r11_in : ∀ w ∈ wsL_law0_r11, w ∈ lw_tbl := fun w h => (goodIn_p wsL_law0_r11 [290, 298, 306, 618, 622] (by decide +kernel) (by decide +kernel) w h).1
set_option maxRecDepth 20000 in
theorem wsL_law0_r12_in : ∀ w ∈ wsL_law0_r12, w ∈ lw_tbl := fun w h => (goodIn_p wsL_law0_r12 [626, 278, 286, 630, 634] (by decide +kernel) (by decide +kernel) w h).1
set_option maxRecDepth 20000 in
theorem wsL_law0_r13_in : ∀ w ∈ wsL_law0_r13, w ∈ lw_tbl := fun w h => (goodIn_p wsL_law0_r13 [181, 167, 256, 260, 264, 268] (by decide +kernel) (by decide +kernel) w h).1
set_option maxRecDepth 20000 in
theorem wsL_law0_r14_in : ∀ w ∈ wsL_law0_r14, w ∈ lw_tbl := fun w h => (goodIn_p wsL_law0_r14 [638, 642, 646, 434, 650] (by decide +kernel) (by decide +kernel) w h).1
set_option maxRecDepth 20000 in
theorem wsL_law0_r15_in : ∀ w ∈ wsL_law0_r15, w ∈ lw_tbl := fun w h => (goodIn_p wsL_law0_r15 [443, 654, 137, 658] (by decide +kernel) (by decide +kernel) w h).1
set_option maxRecDepth 20000 in
theorem wsL_law0_r16_in : ∀ w ∈ wsL_law0_r16, w ∈ lw_tbl := fun w h => (goodIn_p wsL_law0_r16 [141, 145, 148, 155, 159, 662] (by decide +kernel) (by decide +kernel) w h).1
set_option maxRecDepth 20000 in
theorem wsL_law0_r17_in : ∀ w ∈ wsL_law0_r17, w ∈ lw_tbl := fun w h => (goodIn_p wsL_law0_r17 [467, 472, 476, 479, 483, 487] (by decide +kernel) (by decide +kernel) w h).1
set_option maxRecDepth 20000 in
theorem wsL_law0_r18_in : ∀ w ∈ wsL_law0_r18, w ∈ lw_tbl := fun w h => (goodIn_p wsL_law0_r18 [493, 667, 671, 675] (by decide +kernel) (by decide +kernel) w h).1
set_option maxRecDepth 20000 in
theorem wsL_law0_r19_in : ∀ w ∈ wsL_law0_r19, w ∈ lw_tbl := fun w h => (goodIn_p wsL_law0_r19 [501, 679, 683, 695] (by decide +kernel) (by decide +kernel) w h).1
set_option maxRecDepth 20000 in
theorem wsL_law0_r20_in : ∀ w ∈ wsL_law0_r20, w ∈ lw_tbl := fun w h => (goodIn_p wsL_law0_r20 [508, 512, 699, 163, 703, 175] (by decide +kernel) (by decide +kernel) w h).1
set_option maxRecDepth 20000 in
theorem wsL_law0_r21_in : ∀ w ∈ wsL_law0_r21, w ∈ lw_tbl := fun w h => (goodIn_p wsL_law0_r21 [707] (by decide +kernel) (by decide +kernel) w h).1
set_option maxRecDepth 20000 in
theorem wsX10_inT : ∀ w ∈ wsX10, w ∈ lw_tbl := fun w h => (goodIn_p wsX10 [] (by decide +kernel) (by decide +kernel) w h).1
set_option maxRecDepth 20000 in
theorem wsX20_inT : ∀ w ∈ wsX20, w ∈ lw_tbl := fun w h => (goodIn_p wsX20 [] (by decide +kernel) (by decide +kernel) w h).1
set_option maxRecDepth 20000 in
theorem wsX00_inT : ∀ w ∈ wsX00, w ∈ lw_tbl := fun w h => (goodIn_p wsX00 [] (by decide +kernel) (by decide +kernel) w h).1
theorem wsL_law_in0 : ∀ w ∈ wsL_law0, w ∈ lw_tbl := fun w h => (List.mem_append.mp h).elim (fun h => (List.mem_append.mp h).elim (fun h => (List.mem_append.mp h).elim (fun h => (List.mem_append.mp h).elim (fun h => (List.mem_append.mp h).elim (fun h => wsL_law0_r1_in w h) (fun h => (List.mem_append.mp h).elim (fun h => wsL_law0_r2_in w h) (fun h => (List.mem_append.mp h).elim (fun h => wsL_law0_r3_in w h) (fun h => (List.mem_append.mp h).elim (fun h => wsL_law0_r4_in w h) (fun h => (List.mem_append.mp h).elim (fun h => wsL_law0_r5_in w h) (fun h => (List.mem_append.mp h).elim (fun h => wsL_law0_r6_in w h) (fun h => (List.mem_append.mp h).elim (fun h => wsL_law0_r7_in w h) (fun h => (List.mem_append.mp h).elim (fun h => wsL_law0_r8_in w h) (fun h => (List.mem_append.mp h).elim (fun h => wsL_law0_r9_in w h) (fun h => (List.mem_append.mp h).elim (fun h => wsL_law0_r10_in w h) (fun h => (List.mem_append.mp h).elim (fun h => wsL_law0_r11_in w h) (fun h => (List.mem_append.mp h).elim (fun h => wsL_law0_r12_in w h) (fun h => (List.mem_append.mp h).elim (fun h => wsL_law0_r13_in w h) (fun h => (List.mem_append.mp h).elim (fun h => wsL_law0_r14_in w h) (fun h => (List.mem_append.mp h).elim (fun h => wsL_law0_r15_in w h) (fun h => (List.mem_append.mp h).elim (fun h => wsL_law0_r16_in w h) (fun h => (List.mem_append.mp h).elim (fun h => wsL_law0_r17_in w h) (fun h => (List.mem_append.mp h).elim (fun h => wsL_law0_r18_in w h) (fun h => (List.mem_append.mp h).elim (fun h => wsL_law0_r19_in w h) (fun h => (List.mem_append.mp h).elim (fun h => wsL_law0_r20_in w h) (fun h => wsL_law0_r21_in w h))))))))))))))))))))) (fun h => wsX10_inT w h)) (fun h => wsX20_inT w h)) (fun h => wsX00_inT w h)) (fun h => absurd h List.not_mem_nil)
theorem wsL_law_x0 : ∀ w ∈ (vx_atS RX1 69 "java/lang/IndexOutOfBoundsException" ["java/lang/RuntimeException", "java/lang/Exception"]).filter goodWord, w ∈ lw_tbl := by decide +kernel
theorem wsL_law_x1 : ∀ w ∈ (vx_atS RX1 80 "java/lang/IllegalArgumentException" ["java/lang/RuntimeException", "java/lang/Exception"]).filter goodWord, w ∈ lw_tbl := by decide +kernel
theorem wsL_law_x2 : ∀ w ∈ (vx_atS RX1 158 "java/lang/IllegalStateException" ["java/lang/RuntimeException", "java/lang/Exception"]).filter goodWord, w ∈ lw_tbl := by decide +kernel
theorem wsL_law_in : ∀ w ∈ wsL_law, w ∈ lw_tbl := fun w h => (List.mem_append.mp h).elim (fun h => (List.mem_append.mp h).elim (fun h => (List.mem_append.mp h).elim (fun h => wsL_law_in0 w h) (fun h => wsL_law_x0 w h)) (fun h => wsL_law_x1 w h)) (fun h => wsL_law_x2 w h)
theorem inlX0 : ∀ w ∈ wsX00, w ∈ wsL_law := fun _ h => List.mem_append_left _ (List.mem_append_left _ (List.mem_append_left _ (List.mem_append_left _ (List.mem_append_right _ h))))
theorem inX0 : ∀ w ∈ wsX00, w ∈ lw_tbl := fun w h => wsL_law_in w (inlX0 w h)
theorem inlX1 : ∀ w ∈ wsX10, w ∈ wsL_law := fun _ h => List.mem_append_left _ (List.mem_append_left _ (List.mem_append_left _ (List.mem_append_left _ (List.mem_append_left _ (List.mem_append_left _ (List.mem_append_right _ h))))))
theorem inX1 : ∀ w ∈ wsX10, w ∈ lw_tbl := fun w h => wsL_law_in w (inlX1 w h)
theorem inlX2 : ∀ w ∈ wsX20, w ∈ wsL_law := fun _ h => List.mem_append_left _ (List.mem_append_left _ (List.mem_append_left _ (List.mem_append_left _ (List.mem_append_left _ (List.mem_append_right _ h)))))
theorem inX2 : ∀ w ∈ wsX20, w ∈ lw_tbl := fun w h => wsL_law_in w (inlX2 w h)
theorem inJx145de : ∀ w ∈ wsJx145de0, w ∈ lw_tbl := by decide +kernel
theorem inJx8e188 : ∀ w ∈ wsJx8e1880, w ∈ lw_tbl := by decide +kernel
theorem inJ9 : ∀ w ∈ wsJ90, w ∈ lw_tbl := by decide +kernel
theorem inJ0 : ∀ w ∈ wsJ00, w ∈ lw_tbl := by decide +kernel
theorem inJ10 : ∀ w ∈ wsJ100, w ∈ lw_tbl := by decide +kernel
theorem inJ7 : ∀ w ∈ wsJ70, w ∈ lw_tbl := by decide +kernel
abbrev vwCl : List vw_C := [(RX0, TX0, 4), (RX1, TX1, 13), (RX2, TX2, 8)]
end
section
theorem dX0_init_0 : decode cX0_init 0 = .ok (.aload_n 0, 1) := by decide +kernel
theorem dX0_init_1 : decode cX0_init 1 = .ok (.invokespecial 3, 3) := by decide +kernel
theorem dX0_init_4 : decode cX0_init 4 = .ok (.return_, 1) := by decide +kernel
theorem dX0_shorten_0 : decode cX0_shorten 0 = .ok (.aload_n 0, 1) := by decide +kernel
theorem dX0_shorten_1 : decode cX0_shorten 1 = .ok (.dup, 1) := by decide +kernel
theorem dX0_shorten_2 : decode cX0_shorten 2 = .ok (.getfield 9, 3) := by decide +kernel
theorem dX0_shorten_5 : decode cX0_shorten 5 = .ok (.iload_n 1, 1) := by decide +kernel
theorem dX0_shorten_6 : decode cX0_shorten 6 = .ok (.isub, 1) := by decide +kernel
theorem dX0_shorten_7 : decode cX0_shorten 7 = .ok (.putfield 9, 3) := by decide +kernel
theorem dX0_shorten_10 : decode cX0_shorten 10 = .ok (.aload_n 0, 1) := by decide +kernel
theorem dX0_shorten_11 : decode cX0_shorten 11 = .ok (.iconst 0, 1) := by decide +kernel
theorem dX0_shorten_12 : decode cX0_shorten 12 = .ok (.putfield 15, 3) := by decide +kernel
theorem dX0_shorten_15 : decode cX0_shorten 15 = .ok (.return_, 1) := by decide +kernel
theorem dX0_apples_0 : decode cX0_apples 0 = .ok (.aload_n 0, 1) := by decide +kernel
theorem dX0_apples_1 : decode cX0_apples 1 = .ok (.getfield 9, 3) := by decide +kernel
theorem dX0_apples_4 : decode cX0_apples 4 = .ok (.aload_n 0, 1) := by decide +kernel
theorem dX0_apples_5 : decode cX0_apples 5 = .ok (.getfield 19, 3) := by decide +kernel
theorem dX0_apples_8 : decode cX0_apples 8 = .ok (.imul, 1) := by decide +kernel
theorem dX0_apples_9 : decode cX0_apples 9 = .ok (.istore_n 1, 1) := by decide +kernel
theorem dX0_apples_10 : decode cX0_apples 10 = .ok (.aload_n 0, 1) := by decide +kernel
theorem dX0_apples_11 : decode cX0_apples 11 = .ok (.getfield 15, 3) := by decide +kernel
theorem dX0_apples_14 : decode cX0_apples 14 = .ok (.ifCond .eq 9, 3) := by decide +kernel
theorem dX0_apples_17 : decode cX0_apples 17 = .ok (.iload_n 1, 1) := by decide +kernel
theorem dX0_apples_18 : decode cX0_apples 18 = .ok (.iconst 4, 1) := by decide +kernel
theorem dX0_apples_19 : decode cX0_apples 19 = .ok (.idiv, 1) := by decide +kernel
theorem dX0_apples_20 : decode cX0_apples 20 = .ok (.goto 4, 3) := by decide +kernel
theorem dX0_apples_23 : decode cX0_apples 23 = .ok (.iload_n 1, 1) := by decide +kernel
theorem dX0_apples_24 : decode cX0_apples 24 = .ok (.ireturn, 1) := by decide +kernel
set_option maxRecDepth 20000 in
theorem ggX0_liveYear_X0_freeze : GoodIn wsX0_liveYear wsX0_freeze := goodIn_r _ [6, 7, 8, 9, 10, 11, 12, 25, 26, 27, 28] (by decide +kernel) (by decide +kernel)
set_option maxRecDepth 20000 in
theorem gX0_liveYear_X0_freeze : GoodIn wsX0_liveYear (wsV RX0 22 RX0 yX0_freeze wsX0_freeze) := goodIn_app (goodIn_of _ (by decide +kernel)) ggX0_liveYear_X0_freeze
set_option maxRecDepth 20000 in
theorem ggX0_liveYear_X0_apples : GoodIn wsX0_liveYear wsX0_apples := goodIn_r _ [16, 12, 17, 1, 25, 26, 27, 28] (by decide +kernel) (by decide +kernel)
set_option maxRecDepth 20000 in
theorem gX0_liveYear_X0_apples : GoodIn wsX0_liveYear (wsV RX0 26 RX0 yX0_apples wsX0_apples) := goodIn_app (goodIn_of _ (by decide +kernel)) ggX0_liveYear_X0_apples
set_option maxRecDepth 20000 in
theorem ggX0_liveYear_X0_grow : GoodIn wsX0_liveYear wsX0_grow := goodIn_r _ [21, 17, 12, 22, 23, 10, 24, 25, 26, 27, 28] (by decide +kernel) (by decide +kernel)
set_option maxRecDepth 20000 in
theorem gX0_liveYear_X0_grow : GoodIn wsX0_liveYear (wsV RX0 30 RX0 yX0_grow wsX0_grow) := goodIn_app (goodIn_of _ (by decide +kernel)) ggX0_liveYear_X0_grow
theorem dX0_liveYear_0 : decode cX0_liveYear 0 = .ok (.aload_n 0, 1) := by decide +kernel
theorem dX0_liveYear_1 : decode cX0_liveYear 1 = .ok (.iload_n 1, 1) := by decide +kernel
theorem dX0_liveYear_2 : decode cX0_liveYear 2 = .ok (.invokevirtual 22, 3) := by decide +kernel
theorem dX0_liveYear_5 : decode cX0_liveYear 5 = .ok (.aload_n 0, 1) := by decide +kernel
theorem dX0_liveYear_6 : decode cX0_liveYear 6 = .ok (.invokevirtual 26, 3) := by decide +kernel
theorem dX0_liveYear_9 : decode cX0_liveYear 9 = .ok (.istore_n 2, 1) := by decide +kernel
theorem dX0_liveYear_10 : decode cX0_liveYear 10 = .ok (.aload_n 0, 1) := by decide +kernel
theorem dX0_liveYear_11 : decode cX0_liveYear 11 = .ok (.iload_n 2, 1) := by decide +kernel
theorem dX0_liveYear_12 : decode cX0_liveYear 12 = .ok (.bipush 20, 2) := by decide +kernel
theorem dX0_liveYear_14 : decode cX0_liveYear 14 = .ok (.if_icmp .lt 7, 3) := by decide +kernel
theorem dX0_liveYear_17 : decode cX0_liveYear 17 = .ok (.iconst 1, 1) := by decide +kernel
theorem dX0_liveYear_18 : decode cX0_liveYear 18 = .ok (.goto 4, 3) := by decide +kernel
theorem dX0_liveYear_21 : decode cX0_liveYear 21 = .ok (.iconst 0, 1) := by decide +kernel
theorem dX0_liveYear_22 : decode cX0_liveYear 22 = .ok (.putfield 15, 3) := by decide +kernel
theorem dX0_liveYear_25 : decode cX0_liveYear 25 = .ok (.aload_n 0, 1) := by decide +kernel
theorem dX0_liveYear_26 : decode cX0_liveYear 26 = .ok (.invokevirtual 30, 3) := by decide +kernel
theorem dX0_liveYear_29 : decode cX0_liveYear 29 = .ok (.iload_n 2, 1) := by decide +kernel
theorem dX0_liveYear_30 : decode cX0_liveYear 30 = .ok (.ireturn, 1) := by decide +kernel
theorem dX0_freeze_0 : decode cX0_freeze 0 = .ok (.iconst 0, 1) := by decide +kernel
theorem dX0_freeze_1 : decode cX0_freeze 1 = .ok (.iload_n 1, 1) := by decide +kernel
theorem dX0_freeze_2 : decode cX0_freeze 2 = .ok (.aload_n 0, 1) := by decide +kernel
theorem dX0_freeze_3 : decode cX0_freeze 3 = .ok (.getfield 33, 3) := by decide +kernel
theorem dX0_freeze_6 : decode cX0_freeze 6 = .ok (.isub, 1) := by decide +kernel
theorem dX0_freeze_7 : decode cX0_freeze 7 = .ok (.invokestatic 36, 3) := by decide +kernel
theorem dX0_freeze_10 : decode cX0_freeze 10 = .ok (.istore_n 2, 1) := by decide +kernel
theorem dX0_freeze_11 : decode cX0_freeze 11 = .ok (.aload_n 0, 1) := by decide +kernel
theorem dX0_freeze_12 : decode cX0_freeze 12 = .ok (.iconst 0, 1) := by decide +kernel
theorem dX0_freeze_13 : decode cX0_freeze 13 = .ok (.aload_n 0, 1) := by decide +kernel
theorem dX0_freeze_14 : decode cX0_freeze 14 = .ok (.getfield 9, 3) := by decide +kernel
theorem dX0_freeze_17 : decode cX0_freeze 17 = .ok (.iload_n 2, 1) := by decide +kernel
theorem dX0_freeze_18 : decode cX0_freeze 18 = .ok (.isub, 1) := by decide +kernel
theorem dX0_freeze_19 : decode cX0_freeze 19 = .ok (.invokestatic 36, 3) := by decide +kernel
theorem dX0_freeze_22 : decode cX0_freeze 22 = .ok (.putfield 9, 3) := by decide +kernel
theorem dX0_freeze_25 : decode cX0_freeze 25 = .ok (.return_, 1) := by decide +kernel
theorem dX0_grow_0 : decode cX0_grow 0 = .ok (.aload_n 0, 1) := by decide +kernel
theorem dX0_grow_1 : decode cX0_grow 1 = .ok (.getfield 19, 3) := by decide +kernel
theorem dX0_grow_4 : decode cX0_grow 4 = .ok (.bipush 7, 2) := by decide +kernel
theorem dX0_grow_6 : decode cX0_grow 6 = .ok (.if_icmp .lt 7, 3) := by decide +kernel
theorem dX0_grow_9 : decode cX0_grow 9 = .ok (.iconst 2, 1) := by decide +kernel
theorem dX0_grow_10 : decode cX0_grow 10 = .ok (.goto 4, 3) := by decide +kernel
theorem dX0_grow_13 : decode cX0_grow 13 = .ok (.iconst 1, 1) := by decide +kernel
theorem dX0_grow_14 : decode cX0_grow 14 = .ok (.istore_n 1, 1) := by decide +kernel
theorem dX0_grow_15 : decode cX0_grow 15 = .ok (.aload_n 0, 1) := by decide +kernel
theorem dX0_grow_16 : decode cX0_grow 16 = .ok (.bipush 9, 2) := by decide +kernel
theorem dX0_grow_18 : decode cX0_grow 18 = .ok (.aload_n 0, 1) := by decide +kernel
theorem dX0_grow_19 : decode cX0_grow 19 = .ok (.getfield 9, 3) := by decide +kernel
theorem dX0_grow_22 : decode cX0_grow 22 = .ok (.iload_n 1, 1) := by decide +kernel
theorem dX0_grow_23 : decode cX0_grow 23 = .ok (.iadd, 1) := by decide +kernel
theorem dX0_grow_24 : decode cX0_grow 24 = .ok (.invokestatic 42, 3) := by decide +kernel
theorem dX0_grow_27 : decode cX0_grow 27 = .ok (.putfield 9, 3) := by decide +kernel
theorem dX0_grow_30 : decode cX0_grow 30 = .ok (.return_, 1) := by decide +kernel
set_option maxRecDepth 20000 in
theorem ggX1_init_X0_init : GoodIn wsX1_init wsX0_init := goodIn_r _ [23, 24, 2, 3] (by decide +kernel) (by decide +kernel)
set_option maxRecDepth 20000 in
theorem gX1_init_X0_init_n47 : GoodIn wsX1_init (wsX0_init) := ggX1_init_X0_init
set_option maxRecDepth 20000 in
theorem ggX1_init_J7_fill_53178 : GoodIn wsX1_init wsJ7_fill_53178 := goodIn_r _ [28] (by decide +kernel) (by decide +kernel)
set_option maxRecDepth 20000 in
theorem gX1_init_J7_fill_53178 : GoodIn wsX1_init (va_wsS RX1 55 yJ7_fill_53178 wsJ7_fill_53178) := goodIn_app (goodIn_of _ (by decide +kernel)) ggX1_init_J7_fill_53178
theorem dX1_init_0 : decode cX1_init 0 = .ok (.aload_n 0, 1) := by decide +kernel
theorem dX1_init_1 : decode cX1_init 1 = .ok (.invokespecial 1, 3) := by decide +kernel
theorem dX1_init_4 : decode cX1_init 4 = .ok (.aload_n 0, 1) := by decide +kernel
theorem dX1_init_5 : decode cX1_init 5 = .ok (.bipush 6, 2) := by decide +kernel
theorem dX1_init_7 : decode cX1_init 7 = .ok (.newarray .int, 2) := by decide +kernel
theorem dX1_init_9 : decode cX1_init 9 = .ok (.putfield 9, 3) := by decide +kernel
theorem dX1_init_12 : decode cX1_init 12 = .ok (.aload_n 0, 1) := by decide +kernel
theorem dX1_init_13 : decode cX1_init 13 = .ok (.bipush 6, 2) := by decide +kernel
theorem dX1_init_15 : decode cX1_init 15 = .ok (.newarray .int, 2) := by decide +kernel
theorem dX1_init_17 : decode cX1_init 17 = .ok (.putfield 13, 3) := by decide +kernel
theorem dX1_init_20 : decode cX1_init 20 = .ok (.aload_n 0, 1) := by decide +kernel
theorem dX1_init_21 : decode cX1_init 21 = .ok (.bipush 6, 2) := by decide +kernel
theorem dX1_init_23 : decode cX1_init 23 = .ok (.newarray .int, 2) := by decide +kernel
theorem dX1_init_25 : decode cX1_init 25 = .ok (.putfield 16, 3) := by decide +kernel
theorem dX1_init_28 : decode cX1_init 28 = .ok (.aload_n 0, 1) := by decide +kernel
theorem dX1_init_29 : decode cX1_init 29 = .ok (.bipush 10, 2) := by decide +kernel
theorem dX1_init_31 : decode cX1_init 31 = .ok (.newarray .int, 2) := by decide +kernel
theorem dX1_init_33 : decode cX1_init 33 = .ok (.putfield 19, 3) := by decide +kernel
theorem dX1_init_36 : decode cX1_init 36 = .ok (.aload_n 0, 1) := by decide +kernel
theorem dX1_init_37 : decode cX1_init 37 = .ok (.bipush 40, 2) := by decide +kernel
theorem dX1_init_39 : decode cX1_init 39 = .ok (.newarray .int, 2) := by decide +kernel
theorem dX1_init_41 : decode cX1_init 41 = .ok (.putfield 22, 3) := by decide +kernel
theorem dX1_init_44 : decode cX1_init 44 = .ok (.aload_n 0, 1) := by decide +kernel
theorem dX1_init_45 : decode cX1_init 45 = .ok (.bipush 40, 2) := by decide +kernel
theorem dX1_init_47 : decode cX1_init 47 = .ok (.newarray .int, 2) := by decide +kernel
theorem dX1_init_49 : decode cX1_init 49 = .ok (.putfield 25, 3) := by decide +kernel
theorem dX1_init_52 : decode cX1_init 52 = .ok (.aload_n 0, 1) := by decide +kernel
theorem dX1_init_53 : decode cX1_init 53 = .ok (.bipush 40, 2) := by decide +kernel
theorem dX1_init_55 : decode cX1_init 55 = .ok (.newarray .int, 2) := by decide +kernel
theorem dX1_init_57 : decode cX1_init 57 = .ok (.putfield 28, 3) := by decide +kernel
theorem dX1_init_60 : decode cX1_init 60 = .ok (.aload_n 0, 1) := by decide +kernel
theorem dX1_init_61 : decode cX1_init 61 = .ok (.bipush 40, 2) := by decide +kernel
theorem dX1_init_63 : decode cX1_init 63 = .ok (.newarray .boolean, 2) := by decide +kernel
theorem dX1_init_65 : decode cX1_init 65 = .ok (.putfield 31, 3) := by decide +kernel
theorem dX1_init_68 : decode cX1_init 68 = .ok (.aload_n 0, 1) := by decide +kernel
theorem dX1_init_69 : decode cX1_init 69 = .ok (.iconst 2, 1) := by decide +kernel
theorem dX1_init_70 : decode cX1_init 70 = .ok (.newarray .int, 2) := by decide +kernel
theorem dX1_init_72 : decode cX1_init 72 = .ok (.putfield 35, 3) := by decide +kernel
theorem dX1_init_75 : decode cX1_init 75 = .ok (.aload_n 0, 1) := by decide +kernel
theorem dX1_init_76 : decode cX1_init 76 = .ok (.iconst 0, 1) := by decide +kernel
theorem dX1_init_77 : decode cX1_init 77 = .ok (.putfield 38, 3) := by decide +kernel
theorem dX1_init_80 : decode cX1_init 80 = .ok (.aload_n 0, 1) := by decide +kernel
theorem dX1_init_81 : decode cX1_init 81 = .ok (.iconst 0, 1) := by decide +kernel
theorem dX1_init_82 : decode cX1_init 82 = .ok (.putfield 42, 3) := by decide +kernel
theorem dX1_init_85 : decode cX1_init 85 = .ok (.aload_n 0, 1) := by decide +kernel
theorem dX1_init_86 : decode cX1_init 86 = .ok (.new 45, 3) := by decide +kernel
theorem dX1_init_89 : decode cX1_init 89 = .ok (.dup, 1) := by decide +kernel
theorem dX1_init_90 : decode cX1_init 90 = .ok (.invokespecial 47, 3) := by decide +kernel
theorem dX1_init_93 : decode cX1_init 93 = .ok (.putfield 48, 3) := by decide +kernel
theorem dX1_init_96 : decode cX1_init 96 = .ok (.aload_n 0, 1) := by decide +kernel
theorem dX1_init_97 : decode cX1_init 97 = .ok (.sipush 541, 3) := by decide +kernel
theorem dX1_init_100 : decode cX1_init 100 = .ok (.newarray .int, 2) := by decide +kernel
theorem dX1_init_102 : decode cX1_init 102 = .ok (.putfield 52, 3) := by decide +kernel
theorem dX1_init_105 : decode cX1_init 105 = .ok (.aload_n 0, 1) := by decide +kernel
theorem dX1_init_106 : decode cX1_init 106 = .ok (.getfield 9, 3) := by decide +kernel
theorem dX1_init_109 : decode cX1_init 109 = .ok (.iconst 3, 1) := by decide +kernel
theorem dX1_init_110 : decode cX1_init 110 = .ok (.invokestatic 55, 3) := by decide +kernel
theorem dX1_init_113 : decode cX1_init 113 = .ok (.aload_n 0, 1) := by decide +kernel
theorem dX1_init_114 : decode cX1_init 114 = .ok (.getfield 13, 3) := by decide +kernel
theorem dX1_init_117 : decode cX1_init 117 = .ok (.iconst 4, 1) := by decide +kernel
theorem dX1_init_118 : decode cX1_init 118 = .ok (.invokestatic 55, 3) := by decide +kernel
theorem dX1_init_121 : decode cX1_init 121 = .ok (.aload_n 0, 1) := by decide +kernel
theorem dX1_init_122 : decode cX1_init 122 = .ok (.getfield 22, 3) := by decide +kernel
theorem dX1_init_125 : decode cX1_init 125 = .ok (.iconst (-1), 1) := by decide +kernel
theorem dX1_init_126 : decode cX1_init 126 = .ok (.invokestatic 55, 3) := by decide +kernel
theorem dX1_init_129 : decode cX1_init 129 = .ok (.aload_n 0, 1) := by decide +kernel
theorem dX1_init_130 : decode cX1_init 130 = .ok (.getfield 35, 3) := by decide +kernel
theorem dX1_init_133 : decode cX1_init 133 = .ok (.bipush 20, 2) := by decide +kernel
theorem dX1_init_135 : decode cX1_init 135 = .ok (.invokestatic 55, 3) := by decide +kernel
theorem dX1_init_138 : decode cX1_init 138 = .ok (.return_, 1) := by decide +kernel
set_option maxRecDepth 20000 in
theorem ggX1_setSort_X1_isSort : GoodIn wsX1_setSort wsX1_isSort := goodIn_r _ [10, 11, 12, 9, 13] (by decide +kernel) (by decide +kernel)
set_option maxRecDepth 20000 in
theorem gX1_setSort_X1_isSort : GoodIn wsX1_setSort (va_wsS RX1 61 yX1_isSort wsX1_isSort) := goodIn_app (goodIn_of _ (by decide +kernel)) ggX1_setSort_X1_isSort
set_option maxRecDepth 20000 in
theorem ggX1_setSort_X1_isWithin : GoodIn wsX1_setSort wsX1_isWithin := goodIn_r _ [13] (by decide +kernel) (by decide +kernel)
set_option maxRecDepth 20000 in
theorem gX1_setSort_X1_isWithin : GoodIn wsX1_setSort (va_wsS RX1 72 yX1_isWithin wsX1_isWithin) := goodIn_app (goodIn_of _ (by decide +kernel)) ggX1_setSort_X1_isWithin
theorem dX1_setSort_0 : decode cX1_setSort 0 = .ok (.iload_n 1, 1) := by decide +kernel
theorem dX1_setSort_1 : decode cX1_setSort 1 = .ok (.invokestatic 61, 3) := by decide +kernel
theorem dX1_setSort_4 : decode cX1_setSort 4 = .ok (.ifCond .ne 13, 3) := by decide +kernel
theorem dX1_setSort_7 : decode cX1_setSort 7 = .ok (.new 65, 3) := by decide +kernel
theorem dX1_setSort_10 : decode cX1_setSort 10 = .ok (.dup, 1) := by decide +kernel
theorem dX1_setSort_11 : decode cX1_setSort 11 = .ok (.ldc 67, 2) := by decide +kernel
theorem dX1_setSort_13 : decode cX1_setSort 13 = .ok (.invokespecial 69, 3) := by decide +kernel
theorem dX1_setSort_16 : decode cX1_setSort 16 = .ok (.athrow, 1) := by decide +kernel
theorem dX1_setSort_17 : decode cX1_setSort 17 = .ok (.iload_n 2, 1) := by decide +kernel
theorem dX1_setSort_18 : decode cX1_setSort 18 = .ok (.iconst 1, 1) := by decide +kernel
theorem dX1_setSort_19 : decode cX1_setSort 19 = .ok (.bipush 9, 2) := by decide +kernel
theorem dX1_setSort_21 : decode cX1_setSort 21 = .ok (.invokestatic 72, 3) := by decide +kernel
theorem dX1_setSort_24 : decode cX1_setSort 24 = .ok (.ifCond .eq 13, 3) := by decide +kernel
theorem dX1_setSort_27 : decode cX1_setSort 27 = .ok (.iload_n 3, 1) := by decide +kernel
theorem dX1_setSort_28 : decode cX1_setSort 28 = .ok (.iconst 0, 1) := by decide +kernel
theorem dX1_setSort_29 : decode cX1_setSort 29 = .ok (.bipush 9, 2) := by decide +kernel
theorem dX1_setSort_31 : decode cX1_setSort 31 = .ok (.invokestatic 72, 3) := by decide +kernel
theorem dX1_setSort_34 : decode cX1_setSort 34 = .ok (.ifCond .ne 13, 3) := by decide +kernel
theorem dX1_setSort_37 : decode cX1_setSort 37 = .ok (.new 76, 3) := by decide +kernel
theorem dX1_setSort_40 : decode cX1_setSort 40 = .ok (.dup, 1) := by decide +kernel
theorem dX1_setSort_41 : decode cX1_setSort 41 = .ok (.ldc 78, 2) := by decide +kernel
theorem dX1_setSort_43 : decode cX1_setSort 43 = .ok (.invokespecial 80, 3) := by decide +kernel
theorem dX1_setSort_46 : decode cX1_setSort 46 = .ok (.athrow, 1) := by decide +kernel
theorem dX1_setSort_47 : decode cX1_setSort 47 = .ok (.bipush 10, 2) := by decide +kernel
theorem dX1_setSort_49 : decode cX1_setSort 49 = .ok (.aload_n 0, 1) := by decide +kernel
theorem dX1_setSort_50 : decode cX1_setSort 50 = .ok (.getfield 9, 3) := by decide +kernel
theorem dX1_setSort_53 : decode cX1_setSort 53 = .ok (.iload_n 1, 1) := by decide +kernel
theorem dX1_setSort_54 : decode cX1_setSort 54 = .ok (.iaload, 1) := by decide +kernel
theorem dX1_setSort_55 : decode cX1_setSort 55 = .ok (.imul, 1) := by decide +kernel
theorem dX1_setSort_56 : decode cX1_setSort 56 = .ok (.aload_n 0, 1) := by decide +kernel
theorem dX1_setSort_57 : decode cX1_setSort 57 = .ok (.getfield 13, 3) := by decide +kernel
theorem dX1_setSort_60 : decode cX1_setSort 60 = .ok (.iload_n 1, 1) := by decide +kernel
theorem dX1_setSort_61 : decode cX1_setSort 61 = .ok (.iaload, 1) := by decide +kernel
theorem dX1_setSort_62 : decode cX1_setSort 62 = .ok (.iadd, 1) := by decide +kernel
theorem dX1_setSort_63 : decode cX1_setSort 63 = .ok (.istore 4, 2) := by decide +kernel
theorem dX1_setSort_65 : decode cX1_setSort 65 = .ok (.aload_n 0, 1) := by decide +kernel
theorem dX1_setSort_66 : decode cX1_setSort 66 = .ok (.getfield 9, 3) := by decide +kernel
theorem dX1_setSort_69 : decode cX1_setSort 69 = .ok (.iload_n 1, 1) := by decide +kernel
theorem dX1_setSort_70 : decode cX1_setSort 70 = .ok (.iload_n 2, 1) := by decide +kernel
theorem dX1_setSort_71 : decode cX1_setSort 71 = .ok (.iastore, 1) := by decide +kernel
theorem dX1_setSort_72 : decode cX1_setSort 72 = .ok (.aload_n 0, 1) := by decide +kernel
theorem dX1_setSort_73 : decode cX1_setSort 73 = .ok (.getfield 13, 3) := by decide +kernel
theorem dX1_setSort_76 : decode cX1_setSort 76 = .ok (.iload_n 1, 1) := by decide +kernel
theorem dX1_setSort_77 : decode cX1_setSort 77 = .ok (.iload_n 3, 1) := by decide +kernel
theorem dX1_setSort_78 : decode cX1_setSort 78 = .ok (.iastore, 1) := by decide +kernel
theorem dX1_setSort_79 : decode cX1_setSort 79 = .ok (.iload 4, 2) := by decide +kernel
theorem dX1_setSort_81 : decode cX1_setSort 81 = .ok (.ireturn, 1) := by decide +kernel
set_option maxRecDepth 20000 in
theorem ggX1_setFrost_X1_isWithin : GoodIn wsX1_setFrost wsX1_isWithin := goodIn_r _ [9] (by decide +kernel) (by decide +kernel)
set_option maxRecDepth 20000 in
theorem gX1_setFrost_X1_isWithin : GoodIn wsX1_setFrost (va_wsS RX1 72 yX1_isWithin wsX1_isWithin) := goodIn_app (goodIn_of _ (by decide +kernel)) ggX1_setFrost_X1_isWithin
theorem dX1_setFrost_0 : decode cX1_setFrost 0 = .ok (.iload_n 1, 1) := by decide +kernel
theorem dX1_setFrost_1 : decode cX1_setFrost 1 = .ok (.iconst 0, 1) := by decide +kernel
theorem dX1_setFrost_2 : decode cX1_setFrost 2 = .ok (.bipush 9, 2) := by decide +kernel
theorem dX1_setFrost_4 : decode cX1_setFrost 4 = .ok (.invokestatic 72, 3) := by decide +kernel
theorem dX1_setFrost_7 : decode cX1_setFrost 7 = .ok (.ifCond .ne 13, 3) := by decide +kernel
theorem dX1_setFrost_10 : decode cX1_setFrost 10 = .ok (.new 65, 3) := by decide +kernel
theorem dX1_setFrost_13 : decode cX1_setFrost 13 = .ok (.dup, 1) := by decide +kernel
theorem dX1_setFrost_14 : decode cX1_setFrost 14 = .ok (.ldc 81, 2) := by decide +kernel
theorem dX1_setFrost_16 : decode cX1_setFrost 16 = .ok (.invokespecial 69, 3) := by decide +kernel
theorem dX1_setFrost_19 : decode cX1_setFrost 19 = .ok (.athrow, 1) := by decide +kernel
theorem dX1_setFrost_20 : decode cX1_setFrost 20 = .ok (.iload_n 2, 1) := by decide +kernel
theorem dX1_setFrost_21 : decode cX1_setFrost 21 = .ok (.iconst 0, 1) := by decide +kernel
theorem dX1_setFrost_22 : decode cX1_setFrost 22 = .ok (.bipush 9, 2) := by decide +kernel
theorem dX1_setFrost_24 : decode cX1_setFrost 24 = .ok (.invokestatic 72, 3) := by decide +kernel
theorem dX1_setFrost_27 : decode cX1_setFrost 27 = .ok (.ifCond .ne 13, 3) := by decide +kernel
theorem dX1_setFrost_30 : decode cX1_setFrost 30 = .ok (.new 76, 3) := by decide +kernel
theorem dX1_setFrost_33 : decode cX1_setFrost 33 = .ok (.dup, 1) := by decide +kernel
theorem dX1_setFrost_34 : decode cX1_setFrost 34 = .ok (.ldc 83, 2) := by decide +kernel
theorem dX1_setFrost_36 : decode cX1_setFrost 36 = .ok (.invokespecial 80, 3) := by decide +kernel
theorem dX1_setFrost_39 : decode cX1_setFrost 39 = .ok (.athrow, 1) := by decide +kernel
theorem dX1_setFrost_40 : decode cX1_setFrost 40 = .ok (.aload_n 0, 1) := by decide +kernel
theorem dX1_setFrost_41 : decode cX1_setFrost 41 = .ok (.getfield 19, 3) := by decide +kernel
theorem dX1_setFrost_44 : decode cX1_setFrost 44 = .ok (.iload_n 1, 1) := by decide +kernel
theorem dX1_setFrost_45 : decode cX1_setFrost 45 = .ok (.iaload, 1) := by decide +kernel
theorem dX1_setFrost_46 : decode cX1_setFrost 46 = .ok (.istore_n 3, 1) := by decide +kernel
theorem dX1_setFrost_47 : decode cX1_setFrost 47 = .ok (.aload_n 0, 1) := by decide +kernel
theorem dX1_setFrost_48 : decode cX1_setFrost 48 = .ok (.getfield 19, 3) := by decide +kernel
theorem dX1_setFrost_51 : decode cX1_setFrost 51 = .ok (.iload_n 1, 1) := by decide +kernel
theorem dX1_setFrost_52 : decode cX1_setFrost 52 = .ok (.iload_n 2, 1) := by decide +kernel
theorem dX1_setFrost_53 : decode cX1_setFrost 53 = .ok (.iastore, 1) := by decide +kernel
theorem dX1_setFrost_54 : decode cX1_setFrost 54 = .ok (.iload_n 3, 1) := by decide +kernel
theorem dX1_setFrost_55 : decode cX1_setFrost 55 = .ok (.ireturn, 1) := by decide +kernel
set_option maxRecDepth 20000 in
theorem ggX1_plant_X1_isPlace : GoodIn wsX1_plant wsX1_isPlace := goodIn_r _ [8, 9, 10, 7, 11] (by decide +kernel) (by decide +kernel)
set_option maxRecDepth 20000 in
theorem gX1_plant_X1_isPlace : GoodIn wsX1_plant (va_wsS RX1 85 yX1_isPlace wsX1_isPlace) := goodIn_app (goodIn_of _ (by decide +kernel)) ggX1_plant_X1_isPlace
set_option maxRecDepth 20000 in
theorem ggX1_plant_X1_isSort : GoodIn wsX1_plant wsX1_isSort := goodIn_r _ [14, 9, 10, 7, 11] (by decide +kernel) (by decide +kernel)
set_option maxRecDepth 20000 in
theorem gX1_plant_X1_isSort : GoodIn wsX1_plant (va_wsS RX1 61 yX1_isSort wsX1_isSort) := goodIn_app (goodIn_of _ (by decide +kernel)) ggX1_plant_X1_isSort
set_option maxRecDepth 20000 in
theorem ggX1_plant_X1_isWithin : GoodIn wsX1_plant wsX1_isWithin := goodIn_r _ [11] (by decide +kernel) (by decide +kernel)
set_option maxRecDepth 20000 in
theorem gX1_plant_X1_isWithin : GoodIn wsX1_plant (va_wsS RX1 72 yX1_isWithin wsX1_isWithin) := goodIn_app (goodIn_of _ (by decide +kernel)) ggX1_plant_X1_isWithin
set_option maxRecDepth 20000 in
theorem ggX1_plant_X1_spotOf : GoodIn wsX1_plant wsX1_spotOf := goodIn_r _ [17] (by decide +kernel) (by decide +kernel)
set_option maxRecDepth 20000 in
theorem gX1_plant_X1_spotOf : GoodIn wsX1_plant (va_wsS RX1 93 yX1_spotOf wsX1_spotOf) := goodIn_app (goodIn_of _ (by decide +kernel)) ggX1_plant_X1_spotOf
set_option maxRecDepth 20000 in
theorem ggX1_plant_X1_plantAt : GoodIn wsX1_plant wsX1_plantAt := goodIn_r _ [21, 22, 23, 24, 25, 26, 27, 28, 7, 29, 30, 31, 32, 33, 34, 35, 36, 37, 38, 39, 40, 41, 48, 49, 50, 51, 52, 53, 54, 55, 56, 57, 58, 59, 60] (by decide +kernel) (by decide +kernel)
set_option maxRecDepth 20000 in
theorem gX1_plant_X1_plantAt : GoodIn wsX1_plant (wsV RX1 97 RX1 yX1_plantAt wsX1_plantAt) := goodIn_app (goodIn_of _ (by decide +kernel)) ggX1_plant_X1_plantAt
set_option maxRecDepth 20000 in
theorem ggX1_plant_X1_mirrorOf : GoodIn wsX1_plant wsX1_mirrorOf := goodIn_r _ [44] (by decide +kernel) (by decide +kernel)
set_option maxRecDepth 20000 in
theorem gX1_plant_X1_mirrorOf : GoodIn wsX1_plant (va_wsS RX1 100 yX1_mirrorOf wsX1_mirrorOf) := goodIn_app (goodIn_of _ (by decide +kernel)) ggX1_plant_X1_mirrorOf
set_option maxRecDepth 20000 in
theorem ggX1_plant_X1_whoDidIt : GoodIn wsX1_plant wsX1_whoDidIt := goodIn_r _ [47] (by decide +kernel) (by decide +kernel)
set_option maxRecDepth 20000 in
theorem gX1_plant_X1_whoDidIt : GoodIn wsX1_plant (va_wsS RX1 104 yX1_whoDidIt wsX1_whoDidIt) := goodIn_app (goodIn_of _ (by decide +kernel)) ggX1_plant_X1_whoDidIt
theorem dX1_plant_0 : decode cX1_plant 0 = .ok (.iload_n 1, 1) := by decide +kernel
theorem dX1_plant_1 : decode cX1_plant 1 = .ok (.iload_n 2, 1) := by decide +kernel
theorem dX1_plant_2 : decode cX1_plant 2 = .ok (.invokestatic 85, 3) := by decide +kernel
theorem dX1_plant_5 : decode cX1_plant 5 = .ok (.ifCond .ne 13, 3) := by decide +kernel
theorem dX1_plant_8 : decode cX1_plant 8 = .ok (.new 65, 3) := by decide +kernel
theorem dX1_plant_11 : decode cX1_plant 11 = .ok (.dup, 1) := by decide +kernel
theorem dX1_plant_12 : decode cX1_plant 12 = .ok (.ldc 89, 2) := by decide +kernel
theorem dX1_plant_14 : decode cX1_plant 14 = .ok (.invokespecial 69, 3) := by decide +kernel
theorem dX1_plant_17 : decode cX1_plant 17 = .ok (.athrow, 1) := by decide +kernel
theorem dX1_plant_18 : decode cX1_plant 18 = .ok (.iload_n 3, 1) := by decide +kernel
theorem dX1_plant_19 : decode cX1_plant 19 = .ok (.invokestatic 61, 3) := by decide +kernel
theorem dX1_plant_22 : decode cX1_plant 22 = .ok (.ifCond .eq 14, 3) := by decide +kernel
theorem dX1_plant_25 : decode cX1_plant 25 = .ok (.iload 4, 2) := by decide +kernel
theorem dX1_plant_27 : decode cX1_plant 27 = .ok (.iconst 1, 1) := by decide +kernel
theorem dX1_plant_28 : decode cX1_plant 28 = .ok (.bipush 9, 2) := by decide +kernel
theorem dX1_plant_30 : decode cX1_plant 30 = .ok (.invokestatic 72, 3) := by decide +kernel
theorem dX1_plant_33 : decode cX1_plant 33 = .ok (.ifCond .ne 13, 3) := by decide +kernel
theorem dX1_plant_36 : decode cX1_plant 36 = .ok (.new 76, 3) := by decide +kernel
theorem dX1_plant_39 : decode cX1_plant 39 = .ok (.dup, 1) := by decide +kernel
theorem dX1_plant_40 : decode cX1_plant 40 = .ok (.ldc 91, 2) := by decide +kernel
theorem dX1_plant_42 : decode cX1_plant 42 = .ok (.invokespecial 80, 3) := by decide +kernel
theorem dX1_plant_45 : decode cX1_plant 45 = .ok (.athrow, 1) := by decide +kernel
theorem dX1_plant_46 : decode cX1_plant 46 = .ok (.iload_n 1, 1) := by decide +kernel
theorem dX1_plant_47 : decode cX1_plant 47 = .ok (.iload_n 2, 1) := by decide +kernel
theorem dX1_plant_48 : decode cX1_plant 48 = .ok (.invokestatic 93, 3) := by decide +kernel
theorem dX1_plant_51 : decode cX1_plant 51 = .ok (.istore 5, 2) := by decide +kernel
theorem dX1_plant_53 : decode cX1_plant 53 = .ok (.aload_n 0, 1) := by decide +kernel
theorem dX1_plant_54 : decode cX1_plant 54 = .ok (.iload 5, 2) := by decide +kernel
theorem dX1_plant_56 : decode cX1_plant 56 = .ok (.iload_n 3, 1) := by decide +kernel
theorem dX1_plant_57 : decode cX1_plant 57 = .ok (.iload 4, 2) := by decide +kernel
theorem dX1_plant_59 : decode cX1_plant 59 = .ok (.invokevirtual 97, 3) := by decide +kernel
theorem dX1_plant_62 : decode cX1_plant 62 = .ok (.istore 6, 2) := by decide +kernel
theorem dX1_plant_64 : decode cX1_plant 64 = .ok (.aload_n 0, 1) := by decide +kernel
theorem dX1_plant_65 : decode cX1_plant 65 = .ok (.iload 5, 2) := by decide +kernel
theorem dX1_plant_67 : decode cX1_plant 67 = .ok (.invokestatic 100, 3) := by decide +kernel
theorem dX1_plant_70 : decode cX1_plant 70 = .ok (.iload_n 3, 1) := by decide +kernel
theorem dX1_plant_71 : decode cX1_plant 71 = .ok (.iload 4, 2) := by decide +kernel
theorem dX1_plant_73 : decode cX1_plant 73 = .ok (.invokevirtual 97, 3) := by decide +kernel
theorem dX1_plant_76 : decode cX1_plant 76 = .ok (.istore 7, 2) := by decide +kernel
theorem dX1_plant_78 : decode cX1_plant 78 = .ok (.iload 6, 2) := by decide +kernel
theorem dX1_plant_80 : decode cX1_plant 80 = .ok (.iload 7, 2) := by decide +kernel
theorem dX1_plant_82 : decode cX1_plant 82 = .ok (.invokestatic 104, 3) := by decide +kernel
theorem dX1_plant_85 : decode cX1_plant 85 = .ok (.ireturn, 1) := by decide +kernel
set_option maxRecDepth 20000 in
theorem ggX1_prune_X1_isPlace : GoodIn wsX1_prune wsX1_isPlace := goodIn_r _ [8, 9, 10, 7, 11] (by decide +kernel) (by decide +kernel)
set_option maxRecDepth 20000 in
theorem gX1_prune_X1_isPlace : GoodIn wsX1_prune (va_wsS RX1 85 yX1_isPlace wsX1_isPlace) := goodIn_app (goodIn_of _ (by decide +kernel)) ggX1_prune_X1_isPlace
set_option maxRecDepth 20000 in
theorem ggX1_prune_X1_isWithin : GoodIn wsX1_prune wsX1_isWithin := goodIn_r _ [11] (by decide +kernel) (by decide +kernel)
set_option maxRecDepth 20000 in
theorem gX1_prune_X1_isWithin : GoodIn wsX1_prune (va_wsS RX1 72 yX1_isWithin wsX1_isWithin) := goodIn_app (goodIn_of _ (by decide +kernel)) ggX1_prune_X1_isWithin
set_option maxRecDepth 20000 in
theorem ggX1_prune_X1_spotOf : GoodIn wsX1_prune wsX1_spotOf := goodIn_r _ [14] (by decide +kernel) (by decide +kernel)
set_option maxRecDepth 20000 in
theorem gX1_prune_X1_spotOf : GoodIn wsX1_prune (va_wsS RX1 93 yX1_spotOf wsX1_spotOf) := goodIn_app (goodIn_of _ (by decide +kernel)) ggX1_prune_X1_spotOf
set_option maxRecDepth 20000 in
theorem ggX1_prune_X1_pruneAt : GoodIn wsX1_prune wsX1_pruneAt := goodIn_r _ [18, 19, 20, 21, 22, 7, 23, 24, 25, 26, 27, 28, 29, 30, 31, 32, 33, 34, 35, 36, 37, 38, 39, 40, 41, 42, 43, 44, 45, 46, 47, 48, 49, 50, 51, 52, 53, 54, 55, 56, 57, 58, 65, 66, 67, 68, 69, 70, 71, 72, 73, 74, 75, 76, 77, 78, 79, 80, 81] (by decide +kernel) (by decide +kernel)
set_option maxRecDepth 20000 in
theorem gX1_prune_X1_pruneAt : GoodIn wsX1_prune (wsV RX1 110 RX1 yX1_pruneAt wsX1_pruneAt) := goodIn_app (goodIn_of _ (by decide +kernel)) ggX1_prune_X1_pruneAt
set_option maxRecDepth 20000 in
theorem ggX1_prune_X1_mirrorOf : GoodIn wsX1_prune wsX1_mirrorOf := goodIn_r _ [61] (by decide +kernel) (by decide +kernel)
set_option maxRecDepth 20000 in
theorem gX1_prune_X1_mirrorOf : GoodIn wsX1_prune (va_wsS RX1 100 yX1_mirrorOf wsX1_mirrorOf) := goodIn_app (goodIn_of _ (by decide +kernel)) ggX1_prune_X1_mirrorOf
set_option maxRecDepth 20000 in
theorem ggX1_prune_X1_whoDidIt : GoodIn wsX1_prune wsX1_whoDidIt := goodIn_r _ [64] (by decide +kernel) (by decide +kernel)
set_option maxRecDepth 20000 in
theorem gX1_prune_X1_whoDidIt : GoodIn wsX1_prune (va_wsS RX1 104 yX1_whoDidIt wsX1_whoDidIt) := goodIn_app (goodIn_of _ (by decide +kernel)) ggX1_prune_X1_whoDidIt
theorem dX1_prune_0 : decode cX1_prune 0 = .ok (.iload_n 1, 1) := by decide +kernel
theorem dX1_prune_1 : decode cX1_prune 1 = .ok (.iload_n 2, 1) := by decide +kernel
theorem dX1_prune_2 : decode cX1_prune 2 = .ok (.invokestatic 85, 3) := by decide +kernel
theorem dX1_prune_5 : decode cX1_prune 5 = .ok (.ifCond .ne 13, 3) := by decide +kernel
theorem dX1_prune_8 : decode cX1_prune 8 = .ok (.new 65, 3) := by decide +kernel
theorem dX1_prune_11 : decode cX1_prune 11 = .ok (.dup, 1) := by decide +kernel
theorem dX1_prune_12 : decode cX1_prune 12 = .ok (.ldc 89, 2) := by decide +kernel
theorem dX1_prune_14 : decode cX1_prune 14 = .ok (.invokespecial 69, 3) := by decide +kernel
theorem dX1_prune_17 : decode cX1_prune 17 = .ok (.athrow, 1) := by decide +kernel
theorem dX1_prune_18 : decode cX1_prune 18 = .ok (.iload_n 3, 1) := by decide +kernel
theorem dX1_prune_19 : decode cX1_prune 19 = .ok (.iconst 1, 1) := by decide +kernel
theorem dX1_prune_20 : decode cX1_prune 20 = .ok (.bipush 9, 2) := by decide +kernel
theorem dX1_prune_22 : decode cX1_prune 22 = .ok (.invokestatic 72, 3) := by decide +kernel
theorem dX1_prune_25 : decode cX1_prune 25 = .ok (.ifCond .ne 13, 3) := by decide +kernel
theorem dX1_prune_28 : decode cX1_prune 28 = .ok (.new 76, 3) := by decide +kernel
theorem dX1_prune_31 : decode cX1_prune 31 = .ok (.dup, 1) := by decide +kernel
theorem dX1_prune_32 : decode cX1_prune 32 = .ok (.ldc 108, 2) := by decide +kernel
theorem dX1_prune_34 : decode cX1_prune 34 = .ok (.invokespecial 80, 3) := by decide +kernel
theorem dX1_prune_37 : decode cX1_prune 37 = .ok (.athrow, 1) := by decide +kernel
theorem dX1_prune_38 : decode cX1_prune 38 = .ok (.iload_n 1, 1) := by decide +kernel
theorem dX1_prune_39 : decode cX1_prune 39 = .ok (.iload_n 2, 1) := by decide +kernel
theorem dX1_prune_40 : decode cX1_prune 40 = .ok (.invokestatic 93, 3) := by decide +kernel
theorem dX1_prune_43 : decode cX1_prune 43 = .ok (.istore 4, 2) := by decide +kernel
theorem dX1_prune_45 : decode cX1_prune 45 = .ok (.aload_n 0, 1) := by decide +kernel
theorem dX1_prune_46 : decode cX1_prune 46 = .ok (.iload 4, 2) := by decide +kernel
theorem dX1_prune_48 : decode cX1_prune 48 = .ok (.iload_n 3, 1) := by decide +kernel
theorem dX1_prune_49 : decode cX1_prune 49 = .ok (.invokevirtual 110, 3) := by decide +kernel
theorem dX1_prune_52 : decode cX1_prune 52 = .ok (.istore 5, 2) := by decide +kernel
theorem dX1_prune_54 : decode cX1_prune 54 = .ok (.aload_n 0, 1) := by decide +kernel
theorem dX1_prune_55 : decode cX1_prune 55 = .ok (.iload 4, 2) := by decide +kernel
theorem dX1_prune_57 : decode cX1_prune 57 = .ok (.invokestatic 100, 3) := by decide +kernel
theorem dX1_prune_60 : decode cX1_prune 60 = .ok (.iload_n 3, 1) := by decide +kernel
theorem dX1_prune_61 : decode cX1_prune 61 = .ok (.invokevirtual 110, 3) := by decide +kernel
theorem dX1_prune_64 : decode cX1_prune 64 = .ok (.istore 6, 2) := by decide +kernel
theorem dX1_prune_66 : decode cX1_prune 66 = .ok (.iload 5, 2) := by decide +kernel
theorem dX1_prune_68 : decode cX1_prune 68 = .ok (.iload 6, 2) := by decide +kernel
theorem dX1_prune_70 : decode cX1_prune 70 = .ok (.invokestatic 104, 3) := by decide +kernel
theorem dX1_prune_73 : decode cX1_prune 73 = .ok (.ireturn, 1) := by decide +kernel
set_option maxRecDepth 20000 in
theorem ggX1_graft_X1_isPlace : GoodIn wsX1_graft wsX1_isPlace := goodIn_r _ [8, 9, 10, 7, 11] (by decide +kernel) (by decide +kernel)
set_option maxRecDepth 20000 in
theorem gX1_graft_X1_isPlace : GoodIn wsX1_graft (va_wsS RX1 85 yX1_isPlace wsX1_isPlace) := goodIn_app (goodIn_of _ (by decide +kernel)) ggX1_graft_X1_isPlace
set_option maxRecDepth 20000 in
theorem ggX1_graft_X1_isSort : GoodIn wsX1_graft wsX1_isSort := goodIn_r _ [14, 9, 10, 7, 11] (by decide +kernel) (by decide +kernel)
set_option maxRecDepth 20000 in
theorem gX1_graft_X1_isSort : GoodIn wsX1_graft (va_wsS RX1 61 yX1_isSort wsX1_isSort) := goodIn_app (goodIn_of _ (by decide +kernel)) ggX1_graft_X1_isSort
set_option maxRecDepth 20000 in
theorem ggX1_graft_X1_spotOf : GoodIn wsX1_graft wsX1_spotOf := goodIn_r _ [17] (by decide +kernel) (by decide +kernel)
set_option maxRecDepth 20000 in
theorem gX1_graft_X1_spotOf : GoodIn wsX1_graft (va_wsS RX1 93 yX1_spotOf wsX1_spotOf) := goodIn_app (goodIn_of _ (by decide +kernel)) ggX1_graft_X1_spotOf
set_option maxRecDepth 20000 in
theorem ggX1_graft_X1_graftAt : GoodIn wsX1_graft wsX1_graftAt := goodIn_r _ [21, 22, 23, 24, 25, 26, 27, 28, 29, 30, 7, 31, 32, 33, 34, 35, 36, 37, 38, 39, 40, 41, 42, 43, 50, 51, 52, 53, 54, 55, 56, 57, 58, 59, 60, 61, 62] (by decide +kernel) (by decide +kernel)
set_option maxRecDepth 20000 in
theorem gX1_graft_X1_graftAt : GoodIn wsX1_graft (wsV RX1 113 RX1 yX1_graftAt wsX1_graftAt) := goodIn_app (goodIn_of _ (by decide +kernel)) ggX1_graft_X1_graftAt
set_option maxRecDepth 20000 in
theorem ggX1_graft_X1_mirrorOf : GoodIn wsX1_graft wsX1_mirrorOf := goodIn_r _ [46] (by decide +kernel) (by decide +kernel)
set_option maxRecDepth 20000 in
theorem gX1_graft_X1_mirrorOf : GoodIn wsX1_graft (va_wsS RX1 100 yX1_mirrorOf wsX1_mirrorOf) := goodIn_app (goodIn_of _ (by decide +kernel)) ggX1_graft_X1_mirrorOf
set_option maxRecDepth 20000 in
theorem ggX1_graft_X1_whoDidIt : GoodIn wsX1_graft wsX1_whoDidIt := goodIn_r _ [49] (by decide +kernel) (by decide +kernel)
set_option maxRecDepth 20000 in
theorem gX1_graft_X1_whoDidIt : GoodIn wsX1_graft (va_wsS RX1 104 yX1_whoDidIt wsX1_whoDidIt) := goodIn_app (goodIn_of _ (by decide +kernel)) ggX1_graft_X1_whoDidIt
theorem dX1_graft_0 : decode cX1_graft 0 = .ok (.iload_n 1, 1) := by decide +kernel
theorem dX1_graft_1 : decode cX1_graft 1 = .ok (.iload_n 2, 1) := by decide +kernel
theorem dX1_graft_2 : decode cX1_graft 2 = .ok (.invokestatic 85, 3) := by decide +kernel
theorem dX1_graft_5 : decode cX1_graft 5 = .ok (.ifCond .ne 13, 3) := by decide +kernel
theorem dX1_graft_8 : decode cX1_graft 8 = .ok (.new 65, 3) := by decide +kernel
theorem dX1_graft_11 : decode cX1_graft 11 = .ok (.dup, 1) := by decide +kernel
theorem dX1_graft_12 : decode cX1_graft 12 = .ok (.ldc 89, 2) := by decide +kernel
theorem dX1_graft_14 : decode cX1_graft 14 = .ok (.invokespecial 69, 3) := by decide +kernel
theorem dX1_graft_17 : decode cX1_graft 17 = .ok (.athrow, 1) := by decide +kernel
theorem dX1_graft_18 : decode cX1_graft 18 = .ok (.iload_n 3, 1) := by decide +kernel
theorem dX1_graft_19 : decode cX1_graft 19 = .ok (.invokestatic 61, 3) := by decide +kernel
theorem dX1_graft_22 : decode cX1_graft 22 = .ok (.ifCond .ne 13, 3) := by decide +kernel
theorem dX1_graft_25 : decode cX1_graft 25 = .ok (.new 76, 3) := by decide +kernel
theorem dX1_graft_28 : decode cX1_graft 28 = .ok (.dup, 1) := by decide +kernel
theorem dX1_graft_29 : decode cX1_graft 29 = .ok (.ldc 67, 2) := by decide +kernel
theorem dX1_graft_31 : decode cX1_graft 31 = .ok (.invokespecial 80, 3) := by decide +kernel
theorem dX1_graft_34 : decode cX1_graft 34 = .ok (.athrow, 1) := by decide +kernel
theorem dX1_graft_35 : decode cX1_graft 35 = .ok (.iload_n 1, 1) := by decide +kernel
theorem dX1_graft_36 : decode cX1_graft 36 = .ok (.iload_n 2, 1) := by decide +kernel
theorem dX1_graft_37 : decode cX1_graft 37 = .ok (.invokestatic 93, 3) := by decide +kernel
theorem dX1_graft_40 : decode cX1_graft 40 = .ok (.istore 4, 2) := by decide +kernel
theorem dX1_graft_42 : decode cX1_graft 42 = .ok (.aload_n 0, 1) := by decide +kernel
theorem dX1_graft_43 : decode cX1_graft 43 = .ok (.iload 4, 2) := by decide +kernel
theorem dX1_graft_45 : decode cX1_graft 45 = .ok (.iload_n 3, 1) := by decide +kernel
theorem dX1_graft_46 : decode cX1_graft 46 = .ok (.invokevirtual 113, 3) := by decide +kernel
theorem dX1_graft_49 : decode cX1_graft 49 = .ok (.istore 5, 2) := by decide +kernel
theorem dX1_graft_51 : decode cX1_graft 51 = .ok (.aload_n 0, 1) := by decide +kernel
theorem dX1_graft_52 : decode cX1_graft 52 = .ok (.iload 4, 2) := by decide +kernel
theorem dX1_graft_54 : decode cX1_graft 54 = .ok (.invokestatic 100, 3) := by decide +kernel
theorem dX1_graft_57 : decode cX1_graft 57 = .ok (.iload_n 3, 1) := by decide +kernel
theorem dX1_graft_58 : decode cX1_graft 58 = .ok (.invokevirtual 113, 3) := by decide +kernel
theorem dX1_graft_61 : decode cX1_graft 61 = .ok (.istore 6, 2) := by decide +kernel
theorem dX1_graft_63 : decode cX1_graft 63 = .ok (.iload 5, 2) := by decide +kernel
theorem dX1_graft_65 : decode cX1_graft 65 = .ok (.iload 6, 2) := by decide +kernel
theorem dX1_graft_67 : decode cX1_graft 67 = .ok (.invokestatic 104, 3) := by decide +kernel
theorem dX1_graft_70 : decode cX1_graft 70 = .ok (.ireturn, 1) := by decide +kernel
set_option maxRecDepth 20000 in
theorem ggX1_fell_X1_isPlace : GoodIn wsX1_fell wsX1_isPlace := goodIn_r _ [6, 7, 8, 5, 9] (by decide +kernel) (by decide +kernel)
set_option maxRecDepth 20000 in
theorem gX1_fell_X1_isPlace : GoodIn wsX1_fell (va_wsS RX1 85 yX1_isPlace wsX1_isPlace) := goodIn_app (goodIn_of _ (by decide +kernel)) ggX1_fell_X1_isPlace
set_option maxRecDepth 20000 in
theorem ggX1_fell_X1_spotOf : GoodIn wsX1_fell wsX1_spotOf := goodIn_r _ [12] (by decide +kernel) (by decide +kernel)
set_option maxRecDepth 20000 in
theorem gX1_fell_X1_spotOf : GoodIn wsX1_fell (va_wsS RX1 93 yX1_spotOf wsX1_spotOf) := goodIn_app (goodIn_of _ (by decide +kernel)) ggX1_fell_X1_spotOf
set_option maxRecDepth 20000 in
theorem ggX1_fell_X1_fellAt : GoodIn wsX1_fell wsX1_fellAt := goodIn_r _ [16, 17, 18, 19, 20, 21, 22, 23, 5, 24, 25, 26, 27, 28, 29, 30, 31, 32, 33, 34, 35, 36, 43, 44, 45, 46, 47, 48, 49, 50, 51, 52, 53, 54, 55] (by decide +kernel) (by decide +kernel)
set_option maxRecDepth 20000 in
theorem gX1_fell_X1_fellAt : GoodIn wsX1_fell (wsV RX1 116 RX1 yX1_fellAt wsX1_fellAt) := goodIn_app (goodIn_of _ (by decide +kernel)) ggX1_fell_X1_fellAt
set_option maxRecDepth 20000 in
theorem ggX1_fell_X1_mirrorOf : GoodIn wsX1_fell wsX1_mirrorOf := goodIn_r _ [39] (by decide +kernel) (by decide +kernel)
set_option maxRecDepth 20000 in
theorem gX1_fell_X1_mirrorOf : GoodIn wsX1_fell (va_wsS RX1 100 yX1_mirrorOf wsX1_mirrorOf) := goodIn_app (goodIn_of _ (by decide +kernel)) ggX1_fell_X1_mirrorOf
set_option maxRecDepth 20000 in
theorem ggX1_fell_X1_whoDidIt : GoodIn wsX1_fell wsX1_whoDidIt := goodIn_r _ [42] (by decide +kernel) (by decide +kernel)
set_option maxRecDepth 20000 in
theorem gX1_fell_X1_whoDidIt : GoodIn wsX1_fell (va_wsS RX1 104 yX1_whoDidIt wsX1_whoDidIt) := goodIn_app (goodIn_of _ (by decide +kernel)) ggX1_fell_X1_whoDidIt
theorem dX1_fell_0 : decode cX1_fell 0 = .ok (.iload_n 1, 1) := by decide +kernel
theorem dX1_fell_1 : decode cX1_fell 1 = .ok (.iload_n 2, 1) := by decide +kernel
theorem dX1_fell_2 : decode cX1_fell 2 = .ok (.invokestatic 85, 3) := by decide +kernel
theorem dX1_fell_5 : decode cX1_fell 5 = .ok (.ifCond .ne 13, 3) := by decide +kernel
theorem dX1_fell_8 : decode cX1_fell 8 = .ok (.new 65, 3) := by decide +kernel
theorem dX1_fell_11 : decode cX1_fell 11 = .ok (.dup, 1) := by decide +kernel
theorem dX1_fell_12 : decode cX1_fell 12 = .ok (.ldc 89, 2) := by decide +kernel
theorem dX1_fell_14 : decode cX1_fell 14 = .ok (.invokespecial 69, 3) := by decide +kernel
theorem dX1_fell_17 : decode cX1_fell 17 = .ok (.athrow, 1) := by decide +kernel
theorem dX1_fell_18 : decode cX1_fell 18 = .ok (.iload_n 1, 1) := by decide +kernel
theorem dX1_fell_19 : decode cX1_fell 19 = .ok (.iload_n 2, 1) := by decide +kernel
theorem dX1_fell_20 : decode cX1_fell 20 = .ok (.invokestatic 93, 3) := by decide +kernel
theorem dX1_fell_23 : decode cX1_fell 23 = .ok (.istore_n 3, 1) := by decide +kernel
theorem dX1_fell_24 : decode cX1_fell 24 = .ok (.aload_n 0, 1) := by decide +kernel
theorem dX1_fell_25 : decode cX1_fell 25 = .ok (.iload_n 3, 1) := by decide +kernel
theorem dX1_fell_26 : decode cX1_fell 26 = .ok (.invokevirtual 116, 3) := by decide +kernel
theorem dX1_fell_29 : decode cX1_fell 29 = .ok (.istore 4, 2) := by decide +kernel
theorem dX1_fell_31 : decode cX1_fell 31 = .ok (.aload_n 0, 1) := by decide +kernel
theorem dX1_fell_32 : decode cX1_fell 32 = .ok (.iload_n 3, 1) := by decide +kernel
theorem dX1_fell_33 : decode cX1_fell 33 = .ok (.invokestatic 100, 3) := by decide +kernel
theorem dX1_fell_36 : decode cX1_fell 36 = .ok (.invokevirtual 116, 3) := by decide +kernel
theorem dX1_fell_39 : decode cX1_fell 39 = .ok (.istore 5, 2) := by decide +kernel
theorem dX1_fell_41 : decode cX1_fell 41 = .ok (.iload 4, 2) := by decide +kernel
theorem dX1_fell_43 : decode cX1_fell 43 = .ok (.iload 5, 2) := by decide +kernel
theorem dX1_fell_45 : decode cX1_fell 45 = .ok (.invokestatic 104, 3) := by decide +kernel
theorem dX1_fell_48 : decode cX1_fell 48 = .ok (.ireturn, 1) := by decide +kernel
set_option maxRecDepth 20000 in
theorem ggX1_tree_X1_isPlace : GoodIn wsX1_tree wsX1_isPlace := goodIn_r _ [10, 11, 12, 9, 13] (by decide +kernel) (by decide +kernel)
set_option maxRecDepth 20000 in
theorem gX1_tree_X1_isPlace : GoodIn wsX1_tree (va_wsS RX1 85 yX1_isPlace wsX1_isPlace) := goodIn_app (goodIn_of _ (by decide +kernel)) ggX1_tree_X1_isPlace
set_option maxRecDepth 20000 in
theorem ggX1_tree_X1_isWithin : GoodIn wsX1_tree wsX1_isWithin := goodIn_r _ [13] (by decide +kernel) (by decide +kernel)
set_option maxRecDepth 20000 in
theorem gX1_tree_X1_isWithin : GoodIn wsX1_tree (va_wsS RX1 72 yX1_isWithin wsX1_isWithin) := goodIn_app (goodIn_of _ (by decide +kernel)) ggX1_tree_X1_isWithin
set_option maxRecDepth 20000 in
theorem ggX1_tree_X1_spotOf : GoodIn wsX1_tree wsX1_spotOf := goodIn_r _ [16] (by decide +kernel) (by decide +kernel)
set_option maxRecDepth 20000 in
theorem gX1_tree_X1_spotOf : GoodIn wsX1_tree (va_wsS RX1 93 yX1_spotOf wsX1_spotOf) := goodIn_app (goodIn_of _ (by decide +kernel)) ggX1_tree_X1_spotOf
set_option maxRecDepth 20000 in
theorem ggX1_tree_X1_hasTree : GoodIn wsX1_tree wsX1_hasTree := goodIn_r _ [20, 5, 38, 39, 40, 41, 42, 43, 44, 45, 46, 47, 48, 49, 50] (by decide +kernel) (by decide +kernel)
set_option maxRecDepth 20000 in
theorem gX1_tree_X1_hasTree : GoodIn wsX1_tree (wsV RX1 121 RX1 yX1_hasTree wsX1_hasTree) := goodIn_app (goodIn_of _ (by decide +kernel)) ggX1_tree_X1_hasTree
set_option maxRecDepth 20000 in
theorem ggX1_tree_X1_applesNow : GoodIn wsX1_tree wsX1_applesNow := goodIn_r _ [24, 25, 26, 27, 28, 9, 29, 4, 3, 6, 30, 5, 17, 18, 19, 20, 31, 32, 33, 34, 35, 36, 37, 38, 39, 40, 41, 42, 43, 44, 45, 46, 47, 48, 49, 50, 51, 52, 53, 54] (by decide +kernel) (by decide +kernel)
set_option maxRecDepth 20000 in
theorem gX1_tree_X1_applesNow : GoodIn wsX1_tree (wsV RX1 124 RX1 yX1_applesNow wsX1_applesNow) := goodIn_app (goodIn_of _ (by decide +kernel)) ggX1_tree_X1_applesNow
theorem dX1_tree_0 : decode cX1_tree 0 = .ok (.iload_n 1, 1) := by decide +kernel
theorem dX1_tree_1 : decode cX1_tree 1 = .ok (.iload_n 2, 1) := by decide +kernel
theorem dX1_tree_2 : decode cX1_tree 2 = .ok (.invokestatic 85, 3) := by decide +kernel
theorem dX1_tree_5 : decode cX1_tree 5 = .ok (.ifCond .eq 12, 3) := by decide +kernel
theorem dX1_tree_8 : decode cX1_tree 8 = .ok (.iload_n 3, 1) := by decide +kernel
theorem dX1_tree_9 : decode cX1_tree 9 = .ok (.iconst 0, 1) := by decide +kernel
theorem dX1_tree_10 : decode cX1_tree 10 = .ok (.iconst 5, 1) := by decide +kernel
theorem dX1_tree_11 : decode cX1_tree 11 = .ok (.invokestatic 72, 3) := by decide +kernel
theorem dX1_tree_14 : decode cX1_tree 14 = .ok (.ifCond .ne 13, 3) := by decide +kernel
theorem dX1_tree_17 : decode cX1_tree 17 = .ok (.new 65, 3) := by decide +kernel
theorem dX1_tree_20 : decode cX1_tree 20 = .ok (.dup, 1) := by decide +kernel
theorem dX1_tree_21 : decode cX1_tree 21 = .ok (.ldc 119, 2) := by decide +kernel
theorem dX1_tree_23 : decode cX1_tree 23 = .ok (.invokespecial 69, 3) := by decide +kernel
theorem dX1_tree_26 : decode cX1_tree 26 = .ok (.athrow, 1) := by decide +kernel
theorem dX1_tree_27 : decode cX1_tree 27 = .ok (.iload_n 1, 1) := by decide +kernel
theorem dX1_tree_28 : decode cX1_tree 28 = .ok (.iload_n 2, 1) := by decide +kernel
theorem dX1_tree_29 : decode cX1_tree 29 = .ok (.invokestatic 93, 3) := by decide +kernel
theorem dX1_tree_32 : decode cX1_tree 32 = .ok (.istore 4, 2) := by decide +kernel
theorem dX1_tree_34 : decode cX1_tree 34 = .ok (.iload_n 3, 1) := by decide +kernel
theorem dX1_tree_35 : decode cX1_tree 35 = .ok (.tableswitch 88 0 4 #[33, 48, 56, 64, 72], 33) := by decide +kernel
theorem dX1_tree_68 : decode cX1_tree 68 = .ok (.aload_n 0, 1) := by decide +kernel
theorem dX1_tree_69 : decode cX1_tree 69 = .ok (.iload 4, 2) := by decide +kernel
theorem dX1_tree_71 : decode cX1_tree 71 = .ok (.invokevirtual 121, 3) := by decide +kernel
theorem dX1_tree_74 : decode cX1_tree 74 = .ok (.ifCond .eq 7, 3) := by decide +kernel
theorem dX1_tree_77 : decode cX1_tree 77 = .ok (.iconst 1, 1) := by decide +kernel
theorem dX1_tree_78 : decode cX1_tree 78 = .ok (.goto 4, 3) := by decide +kernel
theorem dX1_tree_81 : decode cX1_tree 81 = .ok (.iconst 0, 1) := by decide +kernel
theorem dX1_tree_82 : decode cX1_tree 82 = .ok (.ireturn, 1) := by decide +kernel
theorem dX1_tree_83 : decode cX1_tree 83 = .ok (.aload_n 0, 1) := by decide +kernel
theorem dX1_tree_84 : decode cX1_tree 84 = .ok (.getfield 25, 3) := by decide +kernel
theorem dX1_tree_87 : decode cX1_tree 87 = .ok (.iload 4, 2) := by decide +kernel
theorem dX1_tree_89 : decode cX1_tree 89 = .ok (.iaload, 1) := by decide +kernel
theorem dX1_tree_90 : decode cX1_tree 90 = .ok (.ireturn, 1) := by decide +kernel
theorem dX1_tree_91 : decode cX1_tree 91 = .ok (.aload_n 0, 1) := by decide +kernel
theorem dX1_tree_92 : decode cX1_tree 92 = .ok (.getfield 28, 3) := by decide +kernel
theorem dX1_tree_95 : decode cX1_tree 95 = .ok (.iload 4, 2) := by decide +kernel
theorem dX1_tree_97 : decode cX1_tree 97 = .ok (.iaload, 1) := by decide +kernel
theorem dX1_tree_98 : decode cX1_tree 98 = .ok (.ireturn, 1) := by decide +kernel
theorem dX1_tree_99 : decode cX1_tree 99 = .ok (.aload_n 0, 1) := by decide +kernel
theorem dX1_tree_100 : decode cX1_tree 100 = .ok (.getfield 22, 3) := by decide +kernel
theorem dX1_tree_103 : decode cX1_tree 103 = .ok (.iload 4, 2) := by decide +kernel
theorem dX1_tree_105 : decode cX1_tree 105 = .ok (.iaload, 1) := by decide +kernel
theorem dX1_tree_106 : decode cX1_tree 106 = .ok (.ireturn, 1) := by decide +kernel
theorem dX1_tree_107 : decode cX1_tree 107 = .ok (.aload_n 0, 1) := by decide +kernel
theorem dX1_tree_108 : decode cX1_tree 108 = .ok (.getfield 31, 3) := by decide +kernel
theorem dX1_tree_111 : decode cX1_tree 111 = .ok (.iload 4, 2) := by decide +kernel
theorem dX1_tree_113 : decode cX1_tree 113 = .ok (.baload, 1) := by decide +kernel
theorem dX1_tree_114 : decode cX1_tree 114 = .ok (.ifCond .eq 7, 3) := by decide +kernel
theorem dX1_tree_117 : decode cX1_tree 117 = .ok (.iconst 1, 1) := by decide +kernel
theorem dX1_tree_118 : decode cX1_tree 118 = .ok (.goto 4, 3) := by decide +kernel
theorem dX1_tree_121 : decode cX1_tree 121 = .ok (.iconst 0, 1) := by decide +kernel
theorem dX1_tree_122 : decode cX1_tree 122 = .ok (.ireturn, 1) := by decide +kernel
theorem dX1_tree_123 : decode cX1_tree 123 = .ok (.aload_n 0, 1) := by decide +kernel
theorem dX1_tree_124 : decode cX1_tree 124 = .ok (.iload 4, 2) := by decide +kernel
theorem dX1_tree_126 : decode cX1_tree 126 = .ok (.invokevirtual 124, 3) := by decide +kernel
theorem dX1_tree_129 : decode cX1_tree 129 = .ok (.ireturn, 1) := by decide +kernel
set_option maxRecDepth 20000 in
theorem ggX1_sort_X1_isSort : GoodIn wsX1_sort wsX1_isSort := goodIn_r _ [9, 10, 11, 8, 12] (by decide +kernel) (by decide +kernel)
set_option maxRecDepth 20000 in
theorem gX1_sort_X1_isSort : GoodIn wsX1_sort (va_wsS RX1 61 yX1_isSort wsX1_isSort) := goodIn_app (goodIn_of _ (by decide +kernel)) ggX1_sort_X1_isSort
set_option maxRecDepth 20000 in
theorem ggX1_sort_X1_isWithin : GoodIn wsX1_sort wsX1_isWithin := goodIn_r _ [12] (by decide +kernel) (by decide +kernel)
set_option maxRecDepth 20000 in
theorem gX1_sort_X1_isWithin : GoodIn wsX1_sort (va_wsS RX1 72 yX1_isWithin wsX1_isWithin) := goodIn_app (goodIn_of _ (by decide +kernel)) ggX1_sort_X1_isWithin
set_option maxRecDepth 20000 in
theorem ggX1_sort_X1_treesOfSort : GoodIn wsX1_sort wsX1_treesOfSort := goodIn_r _ [16, 17, 18, 19, 20, 21, 22, 23, 24, 25, 26, 27, 28, 29, 30] (by decide +kernel) (by decide +kernel)
set_option maxRecDepth 20000 in
theorem gX1_sort_X1_treesOfSort : GoodIn wsX1_sort (wsV RX1 129 RX1 yX1_treesOfSort wsX1_treesOfSort) := goodIn_app (goodIn_of _ (by decide +kernel)) ggX1_sort_X1_treesOfSort
theorem dX1_sort_0 : decode cX1_sort 0 = .ok (.iload_n 1, 1) := by decide +kernel
theorem dX1_sort_1 : decode cX1_sort 1 = .ok (.invokestatic 61, 3) := by decide +kernel
theorem dX1_sort_4 : decode cX1_sort 4 = .ok (.ifCond .eq 12, 3) := by decide +kernel
theorem dX1_sort_7 : decode cX1_sort 7 = .ok (.iload_n 2, 1) := by decide +kernel
theorem dX1_sort_8 : decode cX1_sort 8 = .ok (.iconst 0, 1) := by decide +kernel
theorem dX1_sort_9 : decode cX1_sort 9 = .ok (.iconst 3, 1) := by decide +kernel
theorem dX1_sort_10 : decode cX1_sort 10 = .ok (.invokestatic 72, 3) := by decide +kernel
theorem dX1_sort_13 : decode cX1_sort 13 = .ok (.ifCond .ne 13, 3) := by decide +kernel
theorem dX1_sort_16 : decode cX1_sort 16 = .ok (.new 65, 3) := by decide +kernel
theorem dX1_sort_19 : decode cX1_sort 19 = .ok (.dup, 1) := by decide +kernel
theorem dX1_sort_20 : decode cX1_sort 20 = .ok (.ldc 127, 2) := by decide +kernel
theorem dX1_sort_22 : decode cX1_sort 22 = .ok (.invokespecial 69, 3) := by decide +kernel
theorem dX1_sort_25 : decode cX1_sort 25 = .ok (.athrow, 1) := by decide +kernel
theorem dX1_sort_26 : decode cX1_sort 26 = .ok (.iload_n 2, 1) := by decide +kernel
theorem dX1_sort_27 : decode cX1_sort 27 = .ok (.tableswitch 46 0 2 #[25, 32, 39], 25) := by decide +kernel
theorem dX1_sort_52 : decode cX1_sort 52 = .ok (.aload_n 0, 1) := by decide +kernel
theorem dX1_sort_53 : decode cX1_sort 53 = .ok (.getfield 9, 3) := by decide +kernel
theorem dX1_sort_56 : decode cX1_sort 56 = .ok (.iload_n 1, 1) := by decide +kernel
theorem dX1_sort_57 : decode cX1_sort 57 = .ok (.iaload, 1) := by decide +kernel
theorem dX1_sort_58 : decode cX1_sort 58 = .ok (.ireturn, 1) := by decide +kernel
theorem dX1_sort_59 : decode cX1_sort 59 = .ok (.aload_n 0, 1) := by decide +kernel
theorem dX1_sort_60 : decode cX1_sort 60 = .ok (.getfield 13, 3) := by decide +kernel
theorem dX1_sort_63 : decode cX1_sort 63 = .ok (.iload_n 1, 1) := by decide +kernel
theorem dX1_sort_64 : decode cX1_sort 64 = .ok (.iaload, 1) := by decide +kernel
theorem dX1_sort_65 : decode cX1_sort 65 = .ok (.ireturn, 1) := by decide +kernel
theorem dX1_sort_66 : decode cX1_sort 66 = .ok (.aload_n 0, 1) := by decide +kernel
theorem dX1_sort_67 : decode cX1_sort 67 = .ok (.getfield 16, 3) := by decide +kernel
theorem dX1_sort_70 : decode cX1_sort 70 = .ok (.iload_n 1, 1) := by decide +kernel
theorem dX1_sort_71 : decode cX1_sort 71 = .ok (.iaload, 1) := by decide +kernel
theorem dX1_sort_72 : decode cX1_sort 72 = .ok (.ireturn, 1) := by decide +kernel
theorem dX1_sort_73 : decode cX1_sort 73 = .ok (.aload_n 0, 1) := by decide +kernel
theorem dX1_sort_74 : decode cX1_sort 74 = .ok (.iload_n 1, 1) := by decide +kernel
theorem dX1_sort_75 : decode cX1_sort 75 = .ok (.invokevirtual 129, 3) := by decide +kernel
theorem dX1_sort_78 : decode cX1_sort 78 = .ok (.ireturn, 1) := by decide +kernel
set_option maxRecDepth 20000 in
theorem ggX1_count_X1_isWithin : GoodIn wsX1_count wsX1_isWithin := goodIn_r _ [8] (by decide +kernel) (by decide +kernel)
set_option maxRecDepth 20000 in
theorem gX1_count_X1_isWithin : GoodIn wsX1_count (va_wsS RX1 72 yX1_isWithin wsX1_isWithin) := goodIn_app (goodIn_of _ (by decide +kernel)) ggX1_count_X1_isWithin
set_option maxRecDepth 20000 in
theorem ggX1_count_X1_allTrees : GoodIn wsX1_count wsX1_allTrees := goodIn_r _ [12, 13, 14, 15, 7, 16, 17, 44, 45, 46, 47, 48, 49, 50, 51, 52, 53, 54, 55, 56] (by decide +kernel) (by decide +kernel)
set_option maxRecDepth 20000 in
theorem gX1_count_X1_allTrees : GoodIn wsX1_count (wsV RX1 134 RX1 yX1_allTrees wsX1_allTrees) := goodIn_app (goodIn_of _ (by decide +kernel)) ggX1_count_X1_allTrees
set_option maxRecDepth 20000 in
theorem ggX1_count_X1_allTired : GoodIn wsX1_count wsX1_allTired := goodIn_r _ [21, 22, 44, 45, 46, 47, 48, 49, 50, 51, 52, 53, 54, 55, 56] (by decide +kernel) (by decide +kernel)
set_option maxRecDepth 20000 in
theorem gX1_count_X1_allTired : GoodIn wsX1_count (wsV RX1 138 RX1 yX1_allTired wsX1_allTired) := goodIn_app (goodIn_of _ (by decide +kernel)) ggX1_count_X1_allTired
set_option maxRecDepth 20000 in
theorem ggX1_count_X1_applesInBarn : GoodIn wsX1_count wsX1_applesInBarn := goodIn_r _ [26, 27, 44, 45, 46, 47, 48, 49, 50, 51, 52, 53, 54, 55, 56] (by decide +kernel) (by decide +kernel)
set_option maxRecDepth 20000 in
theorem gX1_count_X1_applesInBarn : GoodIn wsX1_count (wsV RX1 141 RX1 yX1_applesInBarn wsX1_applesInBarn) := goodIn_app (goodIn_of _ (by decide +kernel)) ggX1_count_X1_applesInBarn
set_option maxRecDepth 20000 in
theorem ggX1_count_X1_weightInBarn : GoodIn wsX1_count wsX1_weightInBarn := goodIn_r _ [31, 27, 32, 44, 45, 46, 47, 48, 49, 50, 51, 52, 53, 54, 55, 56] (by decide +kernel) (by decide +kernel)
set_option maxRecDepth 20000 in
theorem gX1_count_X1_weightInBarn : GoodIn wsX1_count (wsV RX1 144 RX1 yX1_weightInBarn wsX1_weightInBarn) := goodIn_app (goodIn_of _ (by decide +kernel)) ggX1_count_X1_weightInBarn
set_option maxRecDepth 20000 in
theorem ggX1_count_X1_unlikePairs : GoodIn wsX1_count wsX1_unlikePairs := goodIn_r _ [36, 17, 37, 38, 39, 7, 40, 41, 42, 43, 44, 45, 46, 47, 48, 49, 50, 51, 52, 53, 54, 55, 56] (by decide +kernel) (by decide +kernel)
set_option maxRecDepth 20000 in
theorem gX1_count_X1_unlikePairs : GoodIn wsX1_count (wsV RX1 147 RX1 yX1_unlikePairs wsX1_unlikePairs) := goodIn_app (goodIn_of _ (by decide +kernel)) ggX1_count_X1_unlikePairs
theorem dX1_count_0 : decode cX1_count 0 = .ok (.iload_n 1, 1) := by decide +kernel
theorem dX1_count_1 : decode cX1_count 1 = .ok (.iconst 0, 1) := by decide +kernel
theorem dX1_count_2 : decode cX1_count 2 = .ok (.bipush 7, 2) := by decide +kernel
theorem dX1_count_4 : decode cX1_count 4 = .ok (.invokestatic 72, 3) := by decide +kernel
theorem dX1_count_7 : decode cX1_count 7 = .ok (.ifCond .ne 13, 3) := by decide +kernel
theorem dX1_count_10 : decode cX1_count 10 = .ok (.new 65, 3) := by decide +kernel
theorem dX1_count_13 : decode cX1_count 13 = .ok (.dup, 1) := by decide +kernel
theorem dX1_count_14 : decode cX1_count 14 = .ok (.ldc 132, 2) := by decide +kernel
theorem dX1_count_16 : decode cX1_count 16 = .ok (.invokespecial 69, 3) := by decide +kernel
theorem dX1_count_19 : decode cX1_count 19 = .ok (.athrow, 1) := by decide +kernel
theorem dX1_count_20 : decode cX1_count 20 = .ok (.iload_n 1, 1) := by decide +kernel
theorem dX1_count_21 : decode cX1_count 21 = .ok (.tableswitch 82 0 6 #[43, 48, 55, 62, 67, 72, 77], 43) := by decide +kernel
theorem dX1_count_64 : decode cX1_count 64 = .ok (.aload_n 0, 1) := by decide +kernel
theorem dX1_count_65 : decode cX1_count 65 = .ok (.getfield 38, 3) := by decide +kernel
theorem dX1_count_68 : decode cX1_count 68 = .ok (.ireturn, 1) := by decide +kernel
theorem dX1_count_69 : decode cX1_count 69 = .ok (.aload_n 0, 1) := by decide +kernel
theorem dX1_count_70 : decode cX1_count 70 = .ok (.getfield 35, 3) := by decide +kernel
theorem dX1_count_73 : decode cX1_count 73 = .ok (.iconst 0, 1) := by decide +kernel
theorem dX1_count_74 : decode cX1_count 74 = .ok (.iaload, 1) := by decide +kernel
theorem dX1_count_75 : decode cX1_count 75 = .ok (.ireturn, 1) := by decide +kernel
theorem dX1_count_76 : decode cX1_count 76 = .ok (.aload_n 0, 1) := by decide +kernel
theorem dX1_count_77 : decode cX1_count 77 = .ok (.getfield 35, 3) := by decide +kernel
theorem dX1_count_80 : decode cX1_count 80 = .ok (.iconst 1, 1) := by decide +kernel
theorem dX1_count_81 : decode cX1_count 81 = .ok (.iaload, 1) := by decide +kernel
theorem dX1_count_82 : decode cX1_count 82 = .ok (.ireturn, 1) := by decide +kernel
theorem dX1_count_83 : decode cX1_count 83 = .ok (.aload_n 0, 1) := by decide +kernel
theorem dX1_count_84 : decode cX1_count 84 = .ok (.invokevirtual 134, 3) := by decide +kernel
theorem dX1_count_87 : decode cX1_count 87 = .ok (.ireturn, 1) := by decide +kernel
theorem dX1_count_88 : decode cX1_count 88 = .ok (.aload_n 0, 1) := by decide +kernel
theorem dX1_count_89 : decode cX1_count 89 = .ok (.invokevirtual 138, 3) := by decide +kernel
theorem dX1_count_92 : decode cX1_count 92 = .ok (.ireturn, 1) := by decide +kernel
theorem dX1_count_93 : decode cX1_count 93 = .ok (.aload_n 0, 1) := by decide +kernel
theorem dX1_count_94 : decode cX1_count 94 = .ok (.invokevirtual 141, 3) := by decide +kernel
theorem dX1_count_97 : decode cX1_count 97 = .ok (.ireturn, 1) := by decide +kernel
theorem dX1_count_98 : decode cX1_count 98 = .ok (.aload_n 0, 1) := by decide +kernel
theorem dX1_count_99 : decode cX1_count 99 = .ok (.invokevirtual 144, 3) := by decide +kernel
theorem dX1_count_102 : decode cX1_count 102 = .ok (.ireturn, 1) := by decide +kernel
theorem dX1_count_103 : decode cX1_count 103 = .ok (.aload_n 0, 1) := by decide +kernel
theorem dX1_count_104 : decode cX1_count 104 = .ok (.invokevirtual 147, 3) := by decide +kernel
theorem dX1_count_107 : decode cX1_count 107 = .ok (.ireturn, 1) := by decide +kernel
set_option maxRecDepth 20000 in
theorem ggX1_leans_X1_isWithin : GoodIn wsX1_leans wsX1_isWithin := goodIn_r _ [6] (by decide +kernel) (by decide +kernel)
set_option maxRecDepth 20000 in
theorem gX1_leans_X1_isWithin : GoodIn wsX1_leans (va_wsS RX1 72 yX1_isWithin wsX1_isWithin) := goodIn_app (goodIn_of _ (by decide +kernel)) ggX1_leans_X1_isWithin
set_option maxRecDepth 20000 in
theorem ggX1_leans_X1_spotOf : GoodIn wsX1_leans wsX1_spotOf := goodIn_r _ [9] (by decide +kernel) (by decide +kernel)
set_option maxRecDepth 20000 in
theorem gX1_leans_X1_spotOf : GoodIn wsX1_leans (va_wsS RX1 93 yX1_spotOf wsX1_spotOf) := goodIn_app (goodIn_of _ (by decide +kernel)) ggX1_leans_X1_spotOf
set_option maxRecDepth 20000 in
theorem ggX1_leans_X1_applesNow : GoodIn wsX1_leans wsX1_applesNow := goodIn_r _ [13, 14, 15, 16, 17, 5, 18, 19, 20, 21, 22, 23, 24, 25, 26, 27, 28, 29, 30, 31, 32, 33, 34, 38, 39, 40, 41, 42, 43, 44, 45, 46, 47, 48, 49, 50, 51, 52, 53, 54] (by decide +kernel) (by decide +kernel)
set_option maxRecDepth 20000 in
theorem gX1_leans_X1_applesNow : GoodIn wsX1_leans (wsV RX1 124 RX1 yX1_applesNow wsX1_applesNow) := goodIn_app (goodIn_of _ (by decide +kernel)) ggX1_leans_X1_applesNow
set_option maxRecDepth 20000 in
theorem ggX1_leans_X1_mirrorOf : GoodIn wsX1_leans wsX1_mirrorOf := goodIn_r _ [37] (by decide +kernel) (by decide +kernel)
set_option maxRecDepth 20000 in
theorem gX1_leans_X1_mirrorOf : GoodIn wsX1_leans (va_wsS RX1 100 yX1_mirrorOf wsX1_mirrorOf) := goodIn_app (goodIn_of _ (by decide +kernel)) ggX1_leans_X1_mirrorOf
theorem dX1_leans_0 : decode cX1_leans 0 = .ok (.iload_n 1, 1) := by decide +kernel
theorem dX1_leans_1 : decode cX1_leans 1 = .ok (.iconst 0, 1) := by decide +kernel
theorem dX1_leans_2 : decode cX1_leans 2 = .ok (.iconst 4, 1) := by decide +kernel
theorem dX1_leans_3 : decode cX1_leans 3 = .ok (.invokestatic 72, 3) := by decide +kernel
theorem dX1_leans_6 : decode cX1_leans 6 = .ok (.ifCond .ne 13, 3) := by decide +kernel
theorem dX1_leans_9 : decode cX1_leans 9 = .ok (.new 65, 3) := by decide +kernel
theorem dX1_leans_12 : decode cX1_leans 12 = .ok (.dup, 1) := by decide +kernel
theorem dX1_leans_13 : decode cX1_leans 13 = .ok (.ldc 150, 2) := by decide +kernel
theorem dX1_leans_15 : decode cX1_leans 15 = .ok (.invokespecial 69, 3) := by decide +kernel
theorem dX1_leans_18 : decode cX1_leans 18 = .ok (.athrow, 1) := by decide +kernel
theorem dX1_leans_19 : decode cX1_leans 19 = .ok (.iconst 0, 1) := by decide +kernel
theorem dX1_leans_20 : decode cX1_leans 20 = .ok (.istore_n 2, 1) := by decide +kernel
theorem dX1_leans_21 : decode cX1_leans 21 = .ok (.iconst 0, 1) := by decide +kernel
theorem dX1_leans_22 : decode cX1_leans 22 = .ok (.istore_n 3, 1) := by decide +kernel
theorem dX1_leans_23 : decode cX1_leans 23 = .ok (.iload_n 3, 1) := by decide +kernel
theorem dX1_leans_24 : decode cX1_leans 24 = .ok (.iconst 4, 1) := by decide +kernel
theorem dX1_leans_25 : decode cX1_leans 25 = .ok (.if_icmp .ge 35, 3) := by decide +kernel
theorem dX1_leans_28 : decode cX1_leans 28 = .ok (.iload_n 1, 1) := by decide +kernel
theorem dX1_leans_29 : decode cX1_leans 29 = .ok (.iload_n 3, 1) := by decide +kernel
theorem dX1_leans_30 : decode cX1_leans 30 = .ok (.invokestatic 93, 3) := by decide +kernel
theorem dX1_leans_33 : decode cX1_leans 33 = .ok (.istore 4, 2) := by decide +kernel
theorem dX1_leans_35 : decode cX1_leans 35 = .ok (.iload_n 2, 1) := by decide +kernel
theorem dX1_leans_36 : decode cX1_leans 36 = .ok (.aload_n 0, 1) := by decide +kernel
theorem dX1_leans_37 : decode cX1_leans 37 = .ok (.iload 4, 2) := by decide +kernel
theorem dX1_leans_39 : decode cX1_leans 39 = .ok (.invokevirtual 124, 3) := by decide +kernel
theorem dX1_leans_42 : decode cX1_leans 42 = .ok (.aload_n 0, 1) := by decide +kernel
theorem dX1_leans_43 : decode cX1_leans 43 = .ok (.iload 4, 2) := by decide +kernel
theorem dX1_leans_45 : decode cX1_leans 45 = .ok (.invokestatic 100, 3) := by decide +kernel
theorem dX1_leans_48 : decode cX1_leans 48 = .ok (.invokevirtual 124, 3) := by decide +kernel
theorem dX1_leans_51 : decode cX1_leans 51 = .ok (.isub, 1) := by decide +kernel
theorem dX1_leans_52 : decode cX1_leans 52 = .ok (.iadd, 1) := by decide +kernel
theorem dX1_leans_53 : decode cX1_leans 53 = .ok (.istore_n 2, 1) := by decide +kernel
theorem dX1_leans_54 : decode cX1_leans 54 = .ok (.iinc 3 1, 3) := by decide +kernel
theorem dX1_leans_57 : decode cX1_leans 57 = .ok (.goto (-34), 3) := by decide +kernel
theorem dX1_leans_60 : decode cX1_leans 60 = .ok (.iload_n 2, 1) := by decide +kernel
theorem dX1_leans_61 : decode cX1_leans 61 = .ok (.ireturn, 1) := by decide +kernel
set_option maxRecDepth 20000 in
theorem ggX1_carry_X1_isSort : GoodIn wsX1_carry wsX1_isSort := goodIn_r _ [13, 14, 15, 12, 16] (by decide +kernel) (by decide +kernel)
set_option maxRecDepth 20000 in
theorem gX1_carry_X1_isSort : GoodIn wsX1_carry (va_wsS RX1 61 yX1_isSort wsX1_isSort) := goodIn_app (goodIn_of _ (by decide +kernel)) ggX1_carry_X1_isSort
set_option maxRecDepth 20000 in
theorem ggX1_carry_X1_isWithin : GoodIn wsX1_carry wsX1_isWithin := goodIn_r _ [16] (by decide +kernel) (by decide +kernel)
set_option maxRecDepth 20000 in
theorem gX1_carry_X1_isWithin : GoodIn wsX1_carry (va_wsS RX1 72 yX1_isWithin wsX1_isWithin) := goodIn_app (goodIn_of _ (by decide +kernel)) ggX1_carry_X1_isWithin
theorem dX1_carry_0 : decode cX1_carry 0 = .ok (.iload_n 1, 1) := by decide +kernel
theorem dX1_carry_1 : decode cX1_carry 1 = .ok (.invokestatic 61, 3) := by decide +kernel
theorem dX1_carry_4 : decode cX1_carry 4 = .ok (.ifCond .ne 13, 3) := by decide +kernel
theorem dX1_carry_7 : decode cX1_carry 7 = .ok (.new 65, 3) := by decide +kernel
theorem dX1_carry_10 : decode cX1_carry 10 = .ok (.dup, 1) := by decide +kernel
theorem dX1_carry_11 : decode cX1_carry 11 = .ok (.ldc 67, 2) := by decide +kernel
theorem dX1_carry_13 : decode cX1_carry 13 = .ok (.invokespecial 69, 3) := by decide +kernel
theorem dX1_carry_16 : decode cX1_carry 16 = .ok (.athrow, 1) := by decide +kernel
theorem dX1_carry_17 : decode cX1_carry 17 = .ok (.iload_n 2, 1) := by decide +kernel
theorem dX1_carry_18 : decode cX1_carry 18 = .ok (.iconst 0, 1) := by decide +kernel
theorem dX1_carry_19 : decode cX1_carry 19 = .ok (.sipush 200, 3) := by decide +kernel
theorem dX1_carry_22 : decode cX1_carry 22 = .ok (.invokestatic 72, 3) := by decide +kernel
theorem dX1_carry_25 : decode cX1_carry 25 = .ok (.ifCond .eq 20, 3) := by decide +kernel
theorem dX1_carry_28 : decode cX1_carry 28 = .ok (.iload_n 3, 1) := by decide +kernel
theorem dX1_carry_29 : decode cX1_carry 29 = .ok (.iconst 0, 1) := by decide +kernel
theorem dX1_carry_30 : decode cX1_carry 30 = .ok (.sipush 200, 3) := by decide +kernel
theorem dX1_carry_33 : decode cX1_carry 33 = .ok (.invokestatic 72, 3) := by decide +kernel
theorem dX1_carry_36 : decode cX1_carry 36 = .ok (.ifCond .eq 9, 3) := by decide +kernel
theorem dX1_carry_39 : decode cX1_carry 39 = .ok (.iload_n 2, 1) := by decide +kernel
theorem dX1_carry_40 : decode cX1_carry 40 = .ok (.iload_n 3, 1) := by decide +kernel
theorem dX1_carry_41 : decode cX1_carry 41 = .ok (.iadd, 1) := by decide +kernel
theorem dX1_carry_42 : decode cX1_carry 42 = .ok (.ifCond .ne 13, 3) := by decide +kernel
theorem dX1_carry_45 : decode cX1_carry 45 = .ok (.new 76, 3) := by decide +kernel
theorem dX1_carry_48 : decode cX1_carry 48 = .ok (.dup, 1) := by decide +kernel
theorem dX1_carry_49 : decode cX1_carry 49 = .ok (.ldc 152, 2) := by decide +kernel
theorem dX1_carry_51 : decode cX1_carry 51 = .ok (.invokespecial 80, 3) := by decide +kernel
theorem dX1_carry_54 : decode cX1_carry 54 = .ok (.athrow, 1) := by decide +kernel
theorem dX1_carry_55 : decode cX1_carry 55 = .ok (.iload_n 2, 1) := by decide +kernel
theorem dX1_carry_56 : decode cX1_carry 56 = .ok (.iload_n 3, 1) := by decide +kernel
theorem dX1_carry_57 : decode cX1_carry 57 = .ok (.iadd, 1) := by decide +kernel
theorem dX1_carry_58 : decode cX1_carry 58 = .ok (.aload_n 0, 1) := by decide +kernel
theorem dX1_carry_59 : decode cX1_carry 59 = .ok (.getfield 16, 3) := by decide +kernel
theorem dX1_carry_62 : decode cX1_carry 62 = .ok (.iload_n 1, 1) := by decide +kernel
theorem dX1_carry_63 : decode cX1_carry 63 = .ok (.iaload, 1) := by decide +kernel
theorem dX1_carry_64 : decode cX1_carry 64 = .ok (.if_icmp .le 13, 3) := by decide +kernel
theorem dX1_carry_67 : decode cX1_carry 67 = .ok (.new 154, 3) := by decide +kernel
theorem dX1_carry_70 : decode cX1_carry 70 = .ok (.dup, 1) := by decide +kernel
theorem dX1_carry_71 : decode cX1_carry 71 = .ok (.ldc 156, 2) := by decide +kernel
theorem dX1_carry_73 : decode cX1_carry 73 = .ok (.invokespecial 158, 3) := by decide +kernel
theorem dX1_carry_76 : decode cX1_carry 76 = .ok (.athrow, 1) := by decide +kernel
theorem dX1_carry_77 : decode cX1_carry 77 = .ok (.aload_n 0, 1) := by decide +kernel
theorem dX1_carry_78 : decode cX1_carry 78 = .ok (.getfield 16, 3) := by decide +kernel
theorem dX1_carry_81 : decode cX1_carry 81 = .ok (.iload_n 1, 1) := by decide +kernel
theorem dX1_carry_82 : decode cX1_carry 82 = .ok (.dup2, 1) := by decide +kernel
theorem dX1_carry_83 : decode cX1_carry 83 = .ok (.iaload, 1) := by decide +kernel
theorem dX1_carry_84 : decode cX1_carry 84 = .ok (.iload_n 2, 1) := by decide +kernel
theorem dX1_carry_85 : decode cX1_carry 85 = .ok (.iload_n 3, 1) := by decide +kernel
theorem dX1_carry_86 : decode cX1_carry 86 = .ok (.iadd, 1) := by decide +kernel
theorem dX1_carry_87 : decode cX1_carry 87 = .ok (.isub, 1) := by decide +kernel
theorem dX1_carry_88 : decode cX1_carry 88 = .ok (.iastore, 1) := by decide +kernel
theorem dX1_carry_89 : decode cX1_carry 89 = .ok (.aload_n 0, 1) := by decide +kernel
theorem dX1_carry_90 : decode cX1_carry 90 = .ok (.dup, 1) := by decide +kernel
theorem dX1_carry_91 : decode cX1_carry 91 = .ok (.getfield 42, 3) := by decide +kernel
theorem dX1_carry_94 : decode cX1_carry 94 = .ok (.iload_n 2, 1) := by decide +kernel
theorem dX1_carry_95 : decode cX1_carry 95 = .ok (.iload_n 3, 1) := by decide +kernel
theorem dX1_carry_96 : decode cX1_carry 96 = .ok (.isub, 1) := by decide +kernel
theorem dX1_carry_97 : decode cX1_carry 97 = .ok (.aload_n 0, 1) := by decide +kernel
theorem dX1_carry_98 : decode cX1_carry 98 = .ok (.getfield 9, 3) := by decide +kernel
theorem dX1_carry_101 : decode cX1_carry 101 = .ok (.iload_n 1, 1) := by decide +kernel
theorem dX1_carry_102 : decode cX1_carry 102 = .ok (.iaload, 1) := by decide +kernel
theorem dX1_carry_103 : decode cX1_carry 103 = .ok (.imul, 1) := by decide +kernel
theorem dX1_carry_104 : decode cX1_carry 104 = .ok (.iadd, 1) := by decide +kernel
theorem dX1_carry_105 : decode cX1_carry 105 = .ok (.putfield 42, 3) := by decide +kernel
theorem dX1_carry_108 : decode cX1_carry 108 = .ok (.aload_n 0, 1) := by decide +kernel
theorem dX1_carry_109 : decode cX1_carry 109 = .ok (.getfield 16, 3) := by decide +kernel
theorem dX1_carry_112 : decode cX1_carry 112 = .ok (.iload_n 1, 1) := by decide +kernel
theorem dX1_carry_113 : decode cX1_carry 113 = .ok (.iaload, 1) := by decide +kernel
theorem dX1_carry_114 : decode cX1_carry 114 = .ok (.ireturn, 1) := by decide +kernel
theorem dX1_tilt_0 : decode cX1_tilt 0 = .ok (.aload_n 0, 1) := by decide +kernel
theorem dX1_tilt_1 : decode cX1_tilt 1 = .ok (.getfield 42, 3) := by decide +kernel
theorem dX1_tilt_4 : decode cX1_tilt 4 = .ok (.ireturn, 1) := by decide +kernel
set_option maxRecDepth 20000 in
theorem ggX1_balance_X1_balancedApples : GoodIn wsX1_balance wsX1_balancedApples := goodIn_r _ [6, 7, 8, 9, 10, 11, 12, 13, 14, 28, 29, 30, 31, 32, 33, 34, 35, 36, 37, 38, 39, 40] (by decide +kernel) (by decide +kernel)
set_option maxRecDepth 20000 in
theorem gX1_balance_X1_balancedApples : GoodIn wsX1_balance (wsV RX1 159 RX1 yX1_balancedApples wsX1_balancedApples) := goodIn_app (goodIn_of _ (by decide +kernel)) ggX1_balance_X1_balancedApples
set_option maxRecDepth 20000 in
theorem ggX1_balance_X1_heaviestUpTo : GoodIn wsX1_balance wsX1_heaviestUpTo := goodIn_r _ [18, 19, 1, 8, 9, 10, 11, 20, 21, 22, 23, 2, 3, 4, 5, 6, 7, 12, 13, 14, 24, 25, 26, 27, 28, 29, 30, 31, 32, 33, 34, 35, 36, 37, 38, 39, 40] (by decide +kernel) (by decide +kernel)
set_option maxRecDepth 20000 in
theorem gX1_balance_X1_heaviestUpTo : GoodIn wsX1_balance (wsV RX1 162 RX1 yX1_heaviestUpTo wsX1_heaviestUpTo) := goodIn_app (goodIn_of _ (by decide +kernel)) ggX1_balance_X1_heaviestUpTo
theorem dX1_balance_0 : decode cX1_balance 0 = .ok (.iconst 0, 1) := by decide +kernel
theorem dX1_balance_1 : decode cX1_balance 1 = .ok (.istore_n 1, 1) := by decide +kernel
theorem dX1_balance_2 : decode cX1_balance 2 = .ok (.iconst 0, 1) := by decide +kernel
theorem dX1_balance_3 : decode cX1_balance 3 = .ok (.istore_n 2, 1) := by decide +kernel
theorem dX1_balance_4 : decode cX1_balance 4 = .ok (.iload_n 2, 1) := by decide +kernel
theorem dX1_balance_5 : decode cX1_balance 5 = .ok (.bipush 6, 2) := by decide +kernel
theorem dX1_balance_7 : decode cX1_balance 7 = .ok (.if_icmp .ge 24, 3) := by decide +kernel
theorem dX1_balance_10 : decode cX1_balance 10 = .ok (.iload_n 1, 1) := by decide +kernel
theorem dX1_balance_11 : decode cX1_balance 11 = .ok (.aload_n 0, 1) := by decide +kernel
theorem dX1_balance_12 : decode cX1_balance 12 = .ok (.iload_n 2, 1) := by decide +kernel
theorem dX1_balance_13 : decode cX1_balance 13 = .ok (.invokevirtual 159, 3) := by decide +kernel
theorem dX1_balance_16 : decode cX1_balance 16 = .ok (.aload_n 0, 1) := by decide +kernel
theorem dX1_balance_17 : decode cX1_balance 17 = .ok (.getfield 9, 3) := by decide +kernel
theorem dX1_balance_20 : decode cX1_balance 20 = .ok (.iload_n 2, 1) := by decide +kernel
theorem dX1_balance_21 : decode cX1_balance 21 = .ok (.iaload, 1) := by decide +kernel
theorem dX1_balance_22 : decode cX1_balance 22 = .ok (.imul, 1) := by decide +kernel
theorem dX1_balance_23 : decode cX1_balance 23 = .ok (.iadd, 1) := by decide +kernel
theorem dX1_balance_24 : decode cX1_balance 24 = .ok (.istore_n 1, 1) := by decide +kernel
theorem dX1_balance_25 : decode cX1_balance 25 = .ok (.iinc 2 1, 3) := by decide +kernel
theorem dX1_balance_28 : decode cX1_balance 28 = .ok (.goto (-24), 3) := by decide +kernel
theorem dX1_balance_31 : decode cX1_balance 31 = .ok (.iload_n 1, 1) := by decide +kernel
theorem dX1_balance_32 : decode cX1_balance 32 = .ok (.iconst 2, 1) := by decide +kernel
theorem dX1_balance_33 : decode cX1_balance 33 = .ok (.aload_n 0, 1) := by decide +kernel
theorem dX1_balance_34 : decode cX1_balance 34 = .ok (.iload_n 1, 1) := by decide +kernel
theorem dX1_balance_35 : decode cX1_balance 35 = .ok (.iconst 2, 1) := by decide +kernel
theorem dX1_balance_36 : decode cX1_balance 36 = .ok (.idiv, 1) := by decide +kernel
theorem dX1_balance_37 : decode cX1_balance 37 = .ok (.invokevirtual 162, 3) := by decide +kernel
theorem dX1_balance_40 : decode cX1_balance 40 = .ok (.imul, 1) := by decide +kernel
theorem dX1_balance_41 : decode cX1_balance 41 = .ok (.isub, 1) := by decide +kernel
theorem dX1_balance_42 : decode cX1_balance 42 = .ok (.ireturn, 1) := by decide +kernel
set_option maxRecDepth 20000 in
theorem ggX1_pass_X1_isWithin : GoodIn wsX1_pass wsX1_isWithin := goodIn_r _ [8] (by decide +kernel) (by decide +kernel)
set_option maxRecDepth 20000 in
theorem gX1_pass_X1_isWithin : GoodIn wsX1_pass (va_wsS RX1 72 yX1_isWithin wsX1_isWithin) := goodIn_app (goodIn_of _ (by decide +kernel)) ggX1_pass_X1_isWithin
set_option maxRecDepth 20000 in
theorem ggX1_pass_X1_hasTree : GoodIn wsX1_pass wsX1_hasTree := goodIn_r _ [12, 13, 72, 73, 74, 75, 76, 77, 78, 79, 80, 81, 82, 83, 84] (by decide +kernel) (by decide +kernel)
set_option maxRecDepth 20000 in
theorem gX1_pass_X1_hasTree : GoodIn wsX1_pass (wsV RX1 121 RX1 yX1_hasTree wsX1_hasTree) := goodIn_app (goodIn_of _ (by decide +kernel)) ggX1_pass_X1_hasTree
set_option maxRecDepth 20000 in
theorem ggX1_pass_X1_passAt : GoodIn wsX1_pass wsX1_passAt := goodIn_r _ [17, 18, 13, 19, 20, 21, 7, 22, 23, 24, 25, 26, 27, 9, 10, 11, 12, 28, 29, 30, 31, 32, 3, 33, 34, 35, 36, 37, 38, 39, 40, 41, 42, 43, 44, 45, 46, 47, 48, 49, 50, 51, 52, 53, 54, 55, 56, 57, 58, 59, 60, 61, 62, 63, 64, 65, 66, 67, 72, 73, 74, 75, 76, 77, 78, 79, 80, 81, 82, 83, 84, 85, 86, 87, 88] (by decide +kernel) (by decide +kernel)
set_option maxRecDepth 20000 in
theorem gX1_pass_X1_passAt : GoodIn wsX1_pass (wsV RX1 167 RX1 yX1_passAt wsX1_passAt) := goodIn_app (goodIn_of _ (by decide +kernel)) ggX1_pass_X1_passAt
set_option maxRecDepth 20000 in
theorem ggX1_pass_J7_fill_53178 : GoodIn wsX1_pass wsJ7_fill_53178 := goodIn_r _ [71] (by decide +kernel) (by decide +kernel)
set_option maxRecDepth 20000 in
theorem gX1_pass_J7_fill_53178 : GoodIn wsX1_pass (va_wsS RX1 55 yJ7_fill_53178 wsJ7_fill_53178) := goodIn_app (goodIn_of _ (by decide +kernel)) ggX1_pass_J7_fill_53178
theorem dX1_pass_0 : decode cX1_pass 0 = .ok (.iload_n 1, 1) := by decide +kernel
theorem dX1_pass_1 : decode cX1_pass 1 = .ok (.iconst 1, 1) := by decide +kernel
theorem dX1_pass_2 : decode cX1_pass 2 = .ok (.bipush 30, 2) := by decide +kernel
theorem dX1_pass_4 : decode cX1_pass 4 = .ok (.invokestatic 72, 3) := by decide +kernel
theorem dX1_pass_7 : decode cX1_pass 7 = .ok (.ifCond .ne 13, 3) := by decide +kernel
theorem dX1_pass_10 : decode cX1_pass 10 = .ok (.new 76, 3) := by decide +kernel
theorem dX1_pass_13 : decode cX1_pass 13 = .ok (.dup, 1) := by decide +kernel
theorem dX1_pass_14 : decode cX1_pass 14 = .ok (.ldc 165, 2) := by decide +kernel
theorem dX1_pass_16 : decode cX1_pass 16 = .ok (.invokespecial 80, 3) := by decide +kernel
theorem dX1_pass_19 : decode cX1_pass 19 = .ok (.athrow, 1) := by decide +kernel
theorem dX1_pass_20 : decode cX1_pass 20 = .ok (.iconst 0, 1) := by decide +kernel
theorem dX1_pass_21 : decode cX1_pass 21 = .ok (.istore_n 2, 1) := by decide +kernel
theorem dX1_pass_22 : decode cX1_pass 22 = .ok (.iconst 0, 1) := by decide +kernel
theorem dX1_pass_23 : decode cX1_pass 23 = .ok (.istore_n 3, 1) := by decide +kernel
theorem dX1_pass_24 : decode cX1_pass 24 = .ok (.iload_n 3, 1) := by decide +kernel
theorem dX1_pass_25 : decode cX1_pass 25 = .ok (.bipush 40, 2) := by decide +kernel
theorem dX1_pass_27 : decode cX1_pass 27 = .ok (.if_icmp .ge 26, 3) := by decide +kernel
theorem dX1_pass_30 : decode cX1_pass 30 = .ok (.aload_n 0, 1) := by decide +kernel
theorem dX1_pass_31 : decode cX1_pass 31 = .ok (.iload_n 3, 1) := by decide +kernel
theorem dX1_pass_32 : decode cX1_pass 32 = .ok (.invokevirtual 121, 3) := by decide +kernel
theorem dX1_pass_35 : decode cX1_pass 35 = .ok (.ifCond .eq 12, 3) := by decide +kernel
theorem dX1_pass_38 : decode cX1_pass 38 = .ok (.iload_n 2, 1) := by decide +kernel
theorem dX1_pass_39 : decode cX1_pass 39 = .ok (.aload_n 0, 1) := by decide +kernel
theorem dX1_pass_40 : decode cX1_pass 40 = .ok (.iload_n 3, 1) := by decide +kernel
theorem dX1_pass_41 : decode cX1_pass 41 = .ok (.iload_n 1, 1) := by decide +kernel
theorem dX1_pass_42 : decode cX1_pass 42 = .ok (.invokevirtual 167, 3) := by decide +kernel
theorem dX1_pass_45 : decode cX1_pass 45 = .ok (.iadd, 1) := by decide +kernel
theorem dX1_pass_46 : decode cX1_pass 46 = .ok (.istore_n 2, 1) := by decide +kernel
theorem dX1_pass_47 : decode cX1_pass 47 = .ok (.iinc 3 1, 3) := by decide +kernel
theorem dX1_pass_50 : decode cX1_pass 50 = .ok (.goto (-26), 3) := by decide +kernel
theorem dX1_pass_53 : decode cX1_pass 53 = .ok (.aload_n 0, 1) := by decide +kernel
theorem dX1_pass_54 : decode cX1_pass 54 = .ok (.dup, 1) := by decide +kernel
theorem dX1_pass_55 : decode cX1_pass 55 = .ok (.getfield 38, 3) := by decide +kernel
theorem dX1_pass_58 : decode cX1_pass 58 = .ok (.iload_n 1, 1) := by decide +kernel
theorem dX1_pass_59 : decode cX1_pass 59 = .ok (.iadd, 1) := by decide +kernel
theorem dX1_pass_60 : decode cX1_pass 60 = .ok (.putfield 38, 3) := by decide +kernel
theorem dX1_pass_63 : decode cX1_pass 63 = .ok (.aload_n 0, 1) := by decide +kernel
theorem dX1_pass_64 : decode cX1_pass 64 = .ok (.getfield 35, 3) := by decide +kernel
theorem dX1_pass_67 : decode cX1_pass 67 = .ok (.bipush 20, 2) := by decide +kernel
theorem dX1_pass_69 : decode cX1_pass 69 = .ok (.invokestatic 55, 3) := by decide +kernel
theorem dX1_pass_72 : decode cX1_pass 72 = .ok (.iload_n 2, 1) := by decide +kernel
theorem dX1_pass_73 : decode cX1_pass 73 = .ok (.ireturn, 1) := by decide +kernel
set_option maxRecDepth 20000 in
theorem ggX1_foresee_X1_isWithin : GoodIn wsX1_foresee wsX1_isWithin := goodIn_r _ [9] (by decide +kernel) (by decide +kernel)
set_option maxRecDepth 20000 in
theorem gX1_foresee_X1_isWithin : GoodIn wsX1_foresee (va_wsS RX1 72 yX1_isWithin wsX1_isWithin) := goodIn_app (goodIn_of _ (by decide +kernel)) ggX1_foresee_X1_isWithin
set_option maxRecDepth 20000 in
theorem ggX1_foresee_X1_hasTree : GoodIn wsX1_foresee wsX1_hasTree := goodIn_r _ [13, 14, 60, 61, 62, 63, 64, 65, 66, 67, 68, 69, 70, 71, 72] (by decide +kernel) (by decide +kernel)
set_option maxRecDepth 20000 in
theorem gX1_foresee_X1_hasTree : GoodIn wsX1_foresee (wsV RX1 121 RX1 yX1_hasTree wsX1_hasTree) := goodIn_app (goodIn_of _ (by decide +kernel)) ggX1_foresee_X1_hasTree
set_option maxRecDepth 20000 in
theorem ggX1_foresee_X1_lookAt : GoodIn wsX1_foresee wsX1_lookAt := goodIn_r _ [18, 5, 19, 20, 21, 22, 14, 10, 11, 12, 8, 13, 60, 61, 62, 63, 64, 65, 66, 67, 68, 69, 70, 71, 72, 73, 74, 75, 76] (by decide +kernel) (by decide +kernel)
set_option maxRecDepth 20000 in
theorem gX1_foresee_X1_lookAt : GoodIn wsX1_foresee (wsV RX1 170 RX1 yX1_lookAt wsX1_lookAt) := goodIn_app (goodIn_of _ (by decide +kernel)) ggX1_foresee_X1_lookAt
set_option maxRecDepth 20000 in
theorem ggX1_foresee_X1_liveLooked : GoodIn wsX1_foresee wsX1_liveLooked := goodIn_r _ [26, 5, 27, 28, 29, 30, 31, 32, 33, 34, 35, 36, 37, 38, 39, 40, 41, 42, 43, 44, 45, 46, 47, 48, 49, 50, 51, 52, 53, 54, 55, 56, 57, 58, 59, 60, 61, 62, 63, 64, 65, 66, 67, 68, 69, 70, 71, 72, 73, 74, 75, 76] (by decide +kernel) (by decide +kernel)
set_option maxRecDepth 20000 in
theorem gX1_foresee_X1_liveLooked : GoodIn wsX1_foresee (wsV RX1 174 RX1 yX1_liveLooked wsX1_liveLooked) := goodIn_app (goodIn_of _ (by decide +kernel)) ggX1_foresee_X1_liveLooked
theorem dX1_foresee_0 : decode cX1_foresee 0 = .ok (.iload_n 1, 1) := by decide +kernel
theorem dX1_foresee_1 : decode cX1_foresee 1 = .ok (.iconst 1, 1) := by decide +kernel
theorem dX1_foresee_2 : decode cX1_foresee 2 = .ok (.bipush 30, 2) := by decide +kernel
theorem dX1_foresee_4 : decode cX1_foresee 4 = .ok (.invokestatic 72, 3) := by decide +kernel
theorem dX1_foresee_7 : decode cX1_foresee 7 = .ok (.ifCond .ne 13, 3) := by decide +kernel
theorem dX1_foresee_10 : decode cX1_foresee 10 = .ok (.new 76, 3) := by decide +kernel
theorem dX1_foresee_13 : decode cX1_foresee 13 = .ok (.dup, 1) := by decide +kernel
theorem dX1_foresee_14 : decode cX1_foresee 14 = .ok (.ldc 165, 2) := by decide +kernel
theorem dX1_foresee_16 : decode cX1_foresee 16 = .ok (.invokespecial 80, 3) := by decide +kernel
theorem dX1_foresee_19 : decode cX1_foresee 19 = .ok (.athrow, 1) := by decide +kernel
theorem dX1_foresee_20 : decode cX1_foresee 20 = .ok (.iload_n 2, 1) := by decide +kernel
theorem dX1_foresee_21 : decode cX1_foresee 21 = .ok (.iconst 0, 1) := by decide +kernel
theorem dX1_foresee_22 : decode cX1_foresee 22 = .ok (.iconst 2, 1) := by decide +kernel
theorem dX1_foresee_23 : decode cX1_foresee 23 = .ok (.invokestatic 72, 3) := by decide +kernel
theorem dX1_foresee_26 : decode cX1_foresee 26 = .ok (.ifCond .ne 13, 3) := by decide +kernel
theorem dX1_foresee_29 : decode cX1_foresee 29 = .ok (.new 65, 3) := by decide +kernel
theorem dX1_foresee_32 : decode cX1_foresee 32 = .ok (.dup, 1) := by decide +kernel
theorem dX1_foresee_33 : decode cX1_foresee 33 = .ok (.ldc 132, 2) := by decide +kernel
theorem dX1_foresee_35 : decode cX1_foresee 35 = .ok (.invokespecial 69, 3) := by decide +kernel
theorem dX1_foresee_38 : decode cX1_foresee 38 = .ok (.athrow, 1) := by decide +kernel
theorem dX1_foresee_39 : decode cX1_foresee 39 = .ok (.iconst 0, 1) := by decide +kernel
theorem dX1_foresee_40 : decode cX1_foresee 40 = .ok (.istore_n 3, 1) := by decide +kernel
theorem dX1_foresee_41 : decode cX1_foresee 41 = .ok (.iconst 0, 1) := by decide +kernel
theorem dX1_foresee_42 : decode cX1_foresee 42 = .ok (.istore 4, 2) := by decide +kernel
theorem dX1_foresee_44 : decode cX1_foresee 44 = .ok (.iconst 0, 1) := by decide +kernel
theorem dX1_foresee_45 : decode cX1_foresee 45 = .ok (.istore 5, 2) := by decide +kernel
theorem dX1_foresee_47 : decode cX1_foresee 47 = .ok (.iconst 0, 1) := by decide +kernel
theorem dX1_foresee_48 : decode cX1_foresee 48 = .ok (.istore 6, 2) := by decide +kernel
theorem dX1_foresee_50 : decode cX1_foresee 50 = .ok (.iload 6, 2) := by decide +kernel
theorem dX1_foresee_52 : decode cX1_foresee 52 = .ok (.bipush 40, 2) := by decide +kernel
theorem dX1_foresee_54 : decode cX1_foresee 54 = .ok (.if_icmp .ge 64, 3) := by decide +kernel
theorem dX1_foresee_57 : decode cX1_foresee 57 = .ok (.aload_n 0, 1) := by decide +kernel
theorem dX1_foresee_58 : decode cX1_foresee 58 = .ok (.iload 6, 2) := by decide +kernel
theorem dX1_foresee_60 : decode cX1_foresee 60 = .ok (.invokevirtual 121, 3) := by decide +kernel
theorem dX1_foresee_63 : decode cX1_foresee 63 = .ok (.ifCond .eq 49, 3) := by decide +kernel
theorem dX1_foresee_66 : decode cX1_foresee 66 = .ok (.aload_n 0, 1) := by decide +kernel
theorem dX1_foresee_67 : decode cX1_foresee 67 = .ok (.iload 6, 2) := by decide +kernel
theorem dX1_foresee_69 : decode cX1_foresee 69 = .ok (.invokevirtual 170, 3) := by decide +kernel
theorem dX1_foresee_72 : decode cX1_foresee 72 = .ok (.iload_n 3, 1) := by decide +kernel
theorem dX1_foresee_73 : decode cX1_foresee 73 = .ok (.aload_n 0, 1) := by decide +kernel
theorem dX1_foresee_74 : decode cX1_foresee 74 = .ok (.iload_n 1, 1) := by decide +kernel
theorem dX1_foresee_75 : decode cX1_foresee 75 = .ok (.invokevirtual 174, 3) := by decide +kernel
theorem dX1_foresee_78 : decode cX1_foresee 78 = .ok (.iadd, 1) := by decide +kernel
theorem dX1_foresee_79 : decode cX1_foresee 79 = .ok (.istore_n 3, 1) := by decide +kernel
theorem dX1_foresee_80 : decode cX1_foresee 80 = .ok (.iload 4, 2) := by decide +kernel
theorem dX1_foresee_82 : decode cX1_foresee 82 = .ok (.aload_n 0, 1) := by decide +kernel
theorem dX1_foresee_83 : decode cX1_foresee 83 = .ok (.getfield 48, 3) := by decide +kernel
theorem dX1_foresee_86 : decode cX1_foresee 86 = .ok (.getfield 177, 3) := by decide +kernel
theorem dX1_foresee_89 : decode cX1_foresee 89 = .ok (.iadd, 1) := by decide +kernel
theorem dX1_foresee_90 : decode cX1_foresee 90 = .ok (.istore 4, 2) := by decide +kernel
theorem dX1_foresee_92 : decode cX1_foresee 92 = .ok (.iload 5, 2) := by decide +kernel
theorem dX1_foresee_94 : decode cX1_foresee 94 = .ok (.aload_n 0, 1) := by decide +kernel
theorem dX1_foresee_95 : decode cX1_foresee 95 = .ok (.getfield 48, 3) := by decide +kernel
theorem dX1_foresee_98 : decode cX1_foresee 98 = .ok (.getfield 179, 3) := by decide +kernel
theorem dX1_foresee_101 : decode cX1_foresee 101 = .ok (.ifCond .eq 7, 3) := by decide +kernel
theorem dX1_foresee_104 : decode cX1_foresee 104 = .ok (.iconst 1, 1) := by decide +kernel
theorem dX1_foresee_105 : decode cX1_foresee 105 = .ok (.goto 4, 3) := by decide +kernel
theorem dX1_foresee_108 : decode cX1_foresee 108 = .ok (.iconst 0, 1) := by decide +kernel
theorem dX1_foresee_109 : decode cX1_foresee 109 = .ok (.iadd, 1) := by decide +kernel
theorem dX1_foresee_110 : decode cX1_foresee 110 = .ok (.istore 5, 2) := by decide +kernel
theorem dX1_foresee_112 : decode cX1_foresee 112 = .ok (.iinc 6 1, 3) := by decide +kernel
theorem dX1_foresee_115 : decode cX1_foresee 115 = .ok (.goto (-65), 3) := by decide +kernel
theorem dX1_foresee_118 : decode cX1_foresee 118 = .ok (.iload_n 2, 1) := by decide +kernel
theorem dX1_foresee_119 : decode cX1_foresee 119 = .ok (.ifCond .ne 7, 3) := by decide +kernel
theorem dX1_foresee_122 : decode cX1_foresee 122 = .ok (.iload_n 3, 1) := by decide +kernel
theorem dX1_foresee_123 : decode cX1_foresee 123 = .ok (.goto 15, 3) := by decide +kernel
theorem dX1_foresee_126 : decode cX1_foresee 126 = .ok (.iload_n 2, 1) := by decide +kernel
theorem dX1_foresee_127 : decode cX1_foresee 127 = .ok (.iconst 1, 1) := by decide +kernel
theorem dX1_foresee_128 : decode cX1_foresee 128 = .ok (.if_icmp .ne 8, 3) := by decide +kernel
theorem dX1_foresee_131 : decode cX1_foresee 131 = .ok (.iload 4, 2) := by decide +kernel
theorem dX1_foresee_133 : decode cX1_foresee 133 = .ok (.goto 5, 3) := by decide +kernel
theorem dX1_foresee_136 : decode cX1_foresee 136 = .ok (.iload 5, 2) := by decide +kernel
theorem dX1_foresee_138 : decode cX1_foresee 138 = .ok (.ireturn, 1) := by decide +kernel
set_option maxRecDepth 20000 in
theorem ggX1_advise_X1_isWithin : GoodIn wsX1_advise wsX1_isWithin := goodIn_r _ [6] (by decide +kernel) (by decide +kernel)
set_option maxRecDepth 20000 in
theorem gX1_advise_X1_isWithin : GoodIn wsX1_advise (va_wsS RX1 72 yX1_isWithin wsX1_isWithin) := goodIn_app (goodIn_of _ (by decide +kernel)) ggX1_advise_X1_isWithin
set_option maxRecDepth 20000 in
theorem ggX1_advise_X1_gainOfPruning : GoodIn wsX1_advise wsX1_gainOfPruning := goodIn_r _ [10, 11, 12, 13, 14, 5, 15, 16, 17, 18, 19, 20, 21, 22, 23, 24, 25, 26, 27, 28, 29, 30, 31, 32, 33, 34, 35, 36, 37, 38, 39, 40, 41, 42, 43, 44, 45, 46, 47, 48, 49, 50, 51, 52, 53, 54, 55, 56, 57, 58, 59, 60, 61, 62, 63, 64, 65, 66, 67, 68, 69, 70, 71, 72, 73, 74, 75, 76, 80, 81, 82, 83, 84, 85, 86, 87, 88, 89, 90, 91, 92, 93, 94, 95, 96] (by decide +kernel) (by decide +kernel)
set_option maxRecDepth 20000 in
theorem gX1_advise_X1_gainOfPruning : GoodIn wsX1_advise (wsV RX1 182 RX1 yX1_gainOfPruning wsX1_gainOfPruning) := goodIn_app (goodIn_of _ (by decide +kernel)) ggX1_advise_X1_gainOfPruning
set_option maxRecDepth 20000 in
theorem ggX1_advise_X1_mirrorOf : GoodIn wsX1_advise wsX1_mirrorOf := goodIn_r _ [79] (by decide +kernel) (by decide +kernel)
set_option maxRecDepth 20000 in
theorem gX1_advise_X1_mirrorOf : GoodIn wsX1_advise (va_wsS RX1 100 yX1_mirrorOf wsX1_mirrorOf) := goodIn_app (goodIn_of _ (by decide +kernel)) ggX1_advise_X1_mirrorOf
theorem dX1_advise_0 : decode cX1_advise 0 = .ok (.iload_n 1, 1) := by decide +kernel
theorem dX1_advise_1 : decode cX1_advise 1 = .ok (.iconst 1, 1) := by decide +kernel
theorem dX1_advise_2 : decode cX1_advise 2 = .ok (.bipush 6, 2) := by decide +kernel
theorem dX1_advise_4 : decode cX1_advise 4 = .ok (.invokestatic 72, 3) := by decide +kernel
theorem dX1_advise_7 : decode cX1_advise 7 = .ok (.ifCond .ne 13, 3) := by decide +kernel
theorem dX1_advise_10 : decode cX1_advise 10 = .ok (.new 76, 3) := by decide +kernel
theorem dX1_advise_13 : decode cX1_advise 13 = .ok (.dup, 1) := by decide +kernel
theorem dX1_advise_14 : decode cX1_advise 14 = .ok (.ldc 165, 2) := by decide +kernel
theorem dX1_advise_16 : decode cX1_advise 16 = .ok (.invokespecial 80, 3) := by decide +kernel
theorem dX1_advise_19 : decode cX1_advise 19 = .ok (.athrow, 1) := by decide +kernel
theorem dX1_advise_20 : decode cX1_advise 20 = .ok (.iconst (-1), 1) := by decide +kernel
theorem dX1_advise_21 : decode cX1_advise 21 = .ok (.istore_n 2, 1) := by decide +kernel
theorem dX1_advise_22 : decode cX1_advise 22 = .ok (.iconst 0, 1) := by decide +kernel
theorem dX1_advise_23 : decode cX1_advise 23 = .ok (.istore_n 3, 1) := by decide +kernel
theorem dX1_advise_24 : decode cX1_advise 24 = .ok (.iconst 0, 1) := by decide +kernel
theorem dX1_advise_25 : decode cX1_advise 25 = .ok (.istore 4, 2) := by decide +kernel
theorem dX1_advise_27 : decode cX1_advise 27 = .ok (.iload 4, 2) := by decide +kernel
theorem dX1_advise_29 : decode cX1_advise 29 = .ok (.bipush 40, 2) := by decide +kernel
theorem dX1_advise_31 : decode cX1_advise 31 = .ok (.if_icmp .ge 79, 3) := by decide +kernel
theorem dX1_advise_34 : decode cX1_advise 34 = .ok (.iconst 1, 1) := by decide +kernel
theorem dX1_advise_35 : decode cX1_advise 35 = .ok (.istore 5, 2) := by decide +kernel
theorem dX1_advise_37 : decode cX1_advise 37 = .ok (.iload 5, 2) := by decide +kernel
theorem dX1_advise_39 : decode cX1_advise 39 = .ok (.bipush 9, 2) := by decide +kernel
theorem dX1_advise_41 : decode cX1_advise 41 = .ok (.if_icmp .gt 63, 3) := by decide +kernel
theorem dX1_advise_44 : decode cX1_advise 44 = .ok (.aload_n 0, 1) := by decide +kernel
theorem dX1_advise_45 : decode cX1_advise 45 = .ok (.iload 4, 2) := by decide +kernel
theorem dX1_advise_47 : decode cX1_advise 47 = .ok (.iload 5, 2) := by decide +kernel
theorem dX1_advise_49 : decode cX1_advise 49 = .ok (.iload_n 1, 1) := by decide +kernel
theorem dX1_advise_50 : decode cX1_advise 50 = .ok (.invokevirtual 182, 3) := by decide +kernel
theorem dX1_advise_53 : decode cX1_advise 53 = .ok (.aload_n 0, 1) := by decide +kernel
theorem dX1_advise_54 : decode cX1_advise 54 = .ok (.iload 4, 2) := by decide +kernel
theorem dX1_advise_56 : decode cX1_advise 56 = .ok (.invokestatic 100, 3) := by decide +kernel
theorem dX1_advise_59 : decode cX1_advise 59 = .ok (.iload 5, 2) := by decide +kernel
theorem dX1_advise_61 : decode cX1_advise 61 = .ok (.iload_n 1, 1) := by decide +kernel
theorem dX1_advise_62 : decode cX1_advise 62 = .ok (.invokevirtual 182, 3) := by decide +kernel
theorem dX1_advise_65 : decode cX1_advise 65 = .ok (.iadd, 1) := by decide +kernel
theorem dX1_advise_66 : decode cX1_advise 66 = .ok (.istore 6, 2) := by decide +kernel
theorem dX1_advise_68 : decode cX1_advise 68 = .ok (.iload 6, 2) := by decide +kernel
theorem dX1_advise_70 : decode cX1_advise 70 = .ok (.iload_n 3, 1) := by decide +kernel
theorem dX1_advise_71 : decode cX1_advise 71 = .ok (.if_icmp .le 27, 3) := by decide +kernel
theorem dX1_advise_74 : decode cX1_advise 74 = .ok (.iload 6, 2) := by decide +kernel
theorem dX1_advise_76 : decode cX1_advise 76 = .ok (.istore_n 3, 1) := by decide +kernel
theorem dX1_advise_77 : decode cX1_advise 77 = .ok (.bipush 100, 2) := by decide +kernel
theorem dX1_advise_79 : decode cX1_advise 79 = .ok (.iload 4, 2) := by decide +kernel
theorem dX1_advise_81 : decode cX1_advise 81 = .ok (.bipush 8, 2) := by decide +kernel
theorem dX1_advise_83 : decode cX1_advise 83 = .ok (.idiv, 1) := by decide +kernel
theorem dX1_advise_84 : decode cX1_advise 84 = .ok (.imul, 1) := by decide +kernel
theorem dX1_advise_85 : decode cX1_advise 85 = .ok (.bipush 10, 2) := by decide +kernel
theorem dX1_advise_87 : decode cX1_advise 87 = .ok (.iload 4, 2) := by decide +kernel
theorem dX1_advise_89 : decode cX1_advise 89 = .ok (.bipush 8, 2) := by decide +kernel
theorem dX1_advise_91 : decode cX1_advise 91 = .ok (.irem, 1) := by decide +kernel
theorem dX1_advise_92 : decode cX1_advise 92 = .ok (.imul, 1) := by decide +kernel
theorem dX1_advise_93 : decode cX1_advise 93 = .ok (.iadd, 1) := by decide +kernel
theorem dX1_advise_94 : decode cX1_advise 94 = .ok (.iload 5, 2) := by decide +kernel
theorem dX1_advise_96 : decode cX1_advise 96 = .ok (.iadd, 1) := by decide +kernel
theorem dX1_advise_97 : decode cX1_advise 97 = .ok (.istore_n 2, 1) := by decide +kernel
theorem dX1_advise_98 : decode cX1_advise 98 = .ok (.iinc 5 1, 3) := by decide +kernel
theorem dX1_advise_101 : decode cX1_advise 101 = .ok (.goto (-64), 3) := by decide +kernel
theorem dX1_advise_104 : decode cX1_advise 104 = .ok (.iinc 4 1, 3) := by decide +kernel
theorem dX1_advise_107 : decode cX1_advise 107 = .ok (.goto (-80), 3) := by decide +kernel
theorem dX1_advise_110 : decode cX1_advise 110 = .ok (.iload_n 2, 1) := by decide +kernel
theorem dX1_advise_111 : decode cX1_advise 111 = .ok (.ireturn, 1) := by decide +kernel
set_option maxRecDepth 20000 in
theorem ggX1_mean_X1_allTrees : GoodIn wsX1_mean wsX1_allTrees := goodIn_r _ [6, 7, 8, 9, 5, 10, 11, 12, 13, 14, 15, 16, 17, 18, 19, 20, 21, 22, 23, 24] (by decide +kernel) (by decide +kernel)
set_option maxRecDepth 20000 in
theorem gX1_mean_X1_allTrees : GoodIn wsX1_mean (wsV RX1 134 RX1 yX1_allTrees wsX1_allTrees) := goodIn_app (goodIn_of _ (by decide +kernel)) ggX1_mean_X1_allTrees
theorem dX1_mean_0 : decode cX1_mean 0 = .ok (.aload_n 0, 1) := by decide +kernel
theorem dX1_mean_1 : decode cX1_mean 1 = .ok (.invokevirtual 134, 3) := by decide +kernel
theorem dX1_mean_4 : decode cX1_mean 4 = .ok (.istore_n 1, 1) := by decide +kernel
theorem dX1_mean_5 : decode cX1_mean 5 = .ok (.iload_n 1, 1) := by decide +kernel
theorem dX1_mean_6 : decode cX1_mean 6 = .ok (.ifCond .ne 5, 3) := by decide +kernel
theorem dX1_mean_9 : decode cX1_mean 9 = .ok (.dconst 0, 1) := by decide +kernel
theorem dX1_mean_10 : decode cX1_mean 10 = .ok (.dreturn, 1) := by decide +kernel
theorem dX1_mean_11 : decode cX1_mean 11 = .ok (.iconst 0, 1) := by decide +kernel
theorem dX1_mean_12 : decode cX1_mean 12 = .ok (.istore_n 2, 1) := by decide +kernel
theorem dX1_mean_13 : decode cX1_mean 13 = .ok (.iconst 0, 1) := by decide +kernel
theorem dX1_mean_14 : decode cX1_mean 14 = .ok (.istore_n 3, 1) := by decide +kernel
theorem dX1_mean_15 : decode cX1_mean 15 = .ok (.iload_n 3, 1) := by decide +kernel
theorem dX1_mean_16 : decode cX1_mean 16 = .ok (.bipush 40, 2) := by decide +kernel
theorem dX1_mean_18 : decode cX1_mean 18 = .ok (.if_icmp .ge 18, 3) := by decide +kernel
theorem dX1_mean_21 : decode cX1_mean 21 = .ok (.iload_n 2, 1) := by decide +kernel
theorem dX1_mean_22 : decode cX1_mean 22 = .ok (.aload_n 0, 1) := by decide +kernel
theorem dX1_mean_23 : decode cX1_mean 23 = .ok (.getfield 25, 3) := by decide +kernel
theorem dX1_mean_26 : decode cX1_mean 26 = .ok (.iload_n 3, 1) := by decide +kernel
theorem dX1_mean_27 : decode cX1_mean 27 = .ok (.iaload, 1) := by decide +kernel
theorem dX1_mean_28 : decode cX1_mean 28 = .ok (.iadd, 1) := by decide +kernel
theorem dX1_mean_29 : decode cX1_mean 29 = .ok (.istore_n 2, 1) := by decide +kernel
theorem dX1_mean_30 : decode cX1_mean 30 = .ok (.iinc 3 1, 3) := by decide +kernel
theorem dX1_mean_33 : decode cX1_mean 33 = .ok (.goto (-18), 3) := by decide +kernel
theorem dX1_mean_36 : decode cX1_mean 36 = .ok (.iload_n 2, 1) := by decide +kernel
theorem dX1_mean_37 : decode cX1_mean 37 = .ok (.i2d, 1) := by decide +kernel
theorem dX1_mean_38 : decode cX1_mean 38 = .ok (.iload_n 1, 1) := by decide +kernel
theorem dX1_mean_39 : decode cX1_mean 39 = .ok (.i2d, 1) := by decide +kernel
theorem dX1_mean_40 : decode cX1_mean 40 = .ok (.ddiv, 1) := by decide +kernel
theorem dX1_mean_41 : decode cX1_mean 41 = .ok (.dreturn, 1) := by decide +kernel
set_option maxRecDepth 20000 in
theorem ggX1_digest_X1_count : GoodIn wsX1_digest wsX1_count := goodIn_ca (goodIn_r _ [8, 9, 10, 11, 12, 13, 14, 7, 15, 16, 17, 18, 19, 20, 21, 22, 23, 24, 25, 26, 27, 28, 29, 30, 31, 32, 33, 34, 35, 36, 37, 38, 39, 40, 41, 42, 43, 44, 45, 46, 47, 48, 49, 50, 92, 93, 94, 95, 96, 97, 98, 99, 100, 101, 102, 103, 104] (by decide +kernel) (by decide +kernel)) (goodIn_sub (fun _ h => List.mem_cons_of_mem _ (List.mem_append_right _ h)) (by decide +kernel))
set_option maxRecDepth 20000 in
theorem gX1_digest_X1_count : GoodIn wsX1_digest (wsV RX1 190 RX1 yX1_count wsX1_count) := goodIn_app (goodIn_of _ (by decide +kernel)) ggX1_digest_X1_count
set_option maxRecDepth 20000 in
theorem ggX1_digest_X1_sort : GoodIn wsX1_digest wsX1_sort := goodIn_ca (goodIn_r _ [54, 9, 10, 39, 55, 34, 56, 57, 7, 58, 13, 14, 15, 59, 60, 61, 62, 24, 92, 93, 94, 95, 96, 97, 98, 99, 100, 101, 102, 103, 104] (by decide +kernel) (by decide +kernel)) (goodIn_sub (fun _ h => List.mem_cons_of_mem _ (List.mem_append_right _ h)) (by decide +kernel))
set_option maxRecDepth 20000 in
theorem gX1_digest_X1_sort : GoodIn wsX1_digest (wsV RX1 193 RX1 yX1_sort wsX1_sort) := goodIn_app (goodIn_of _ (by decide +kernel)) ggX1_digest_X1_sort
set_option maxRecDepth 20000 in
theorem ggX1_digest_X1_tree : GoodIn wsX1_digest wsX1_tree := goodIn_ca (goodIn_r _ [66, 9, 10, 44, 67, 24, 29, 68, 69, 7, 70, 13, 14, 15, 45, 46, 47, 20, 21, 22, 23, 71, 72, 73, 74, 75, 76, 77, 78, 79, 55, 80, 81, 82, 83, 84, 85, 86, 92, 93, 94, 95, 96, 97, 98, 99, 100, 101, 102, 103, 104, 105, 106, 107, 108] (by decide +kernel) (by decide +kernel)) (goodIn_sub (fun _ h => List.mem_cons_of_mem _ (List.mem_append_right _ h)) (by decide +kernel))
set_option maxRecDepth 20000 in
theorem gX1_digest_X1_tree : GoodIn wsX1_digest (wsV RX1 196 RX1 yX1_tree wsX1_tree) := goodIn_app (goodIn_of _ (by decide +kernel)) ggX1_digest_X1_tree
set_option maxRecDepth 20000 in
theorem ggX1_digest_X1_tilt : GoodIn wsX1_digest wsX1_tilt := goodIn_r _ [90, 91, 92, 93, 94, 95, 96, 97, 98, 99, 100, 101, 102, 103, 104] (by decide +kernel) (by decide +kernel)
set_option maxRecDepth 20000 in
theorem gX1_digest_X1_tilt : GoodIn wsX1_digest (wsV RX1 199 RX1 yX1_tilt wsX1_tilt) := goodIn_app (goodIn_of _ (by decide +kernel)) ggX1_digest_X1_tilt
theorem dX1_digest_0 : decode cX1_digest 0 = .ok (.ldc2_w 186, 3) := by decide +kernel
theorem dX1_digest_3 : decode cX1_digest 3 = .ok (.lstore_n 1, 1) := by decide +kernel
theorem dX1_digest_4 : decode cX1_digest 4 = .ok (.iconst 0, 1) := by decide +kernel
theorem dX1_digest_5 : decode cX1_digest 5 = .ok (.istore_n 3, 1) := by decide +kernel
theorem dX1_digest_6 : decode cX1_digest 6 = .ok (.iload_n 3, 1) := by decide +kernel
theorem dX1_digest_7 : decode cX1_digest 7 = .ok (.bipush 8, 2) := by decide +kernel
theorem dX1_digest_9 : decode cX1_digest 9 = .ok (.if_icmp .ge 22, 3) := by decide +kernel
theorem dX1_digest_12 : decode cX1_digest 12 = .ok (.lload_n 1, 1) := by decide +kernel
theorem dX1_digest_13 : decode cX1_digest 13 = .ok (.ldc2_w 188, 3) := by decide +kernel
theorem dX1_digest_16 : decode cX1_digest 16 = .ok (.lmul, 1) := by decide +kernel
theorem dX1_digest_17 : decode cX1_digest 17 = .ok (.aload_n 0, 1) := by decide +kernel
theorem dX1_digest_18 : decode cX1_digest 18 = .ok (.iload_n 3, 1) := by decide +kernel
theorem dX1_digest_19 : decode cX1_digest 19 = .ok (.invokevirtual 190, 3) := by decide +kernel
theorem dX1_digest_22 : decode cX1_digest 22 = .ok (.i2l, 1) := by decide +kernel
theorem dX1_digest_23 : decode cX1_digest 23 = .ok (.ladd, 1) := by decide +kernel
theorem dX1_digest_24 : decode cX1_digest 24 = .ok (.lstore_n 1, 1) := by decide +kernel
theorem dX1_digest_25 : decode cX1_digest 25 = .ok (.iinc 3 1, 3) := by decide +kernel
theorem dX1_digest_28 : decode cX1_digest 28 = .ok (.goto (-22), 3) := by decide +kernel
theorem dX1_digest_31 : decode cX1_digest 31 = .ok (.iconst 0, 1) := by decide +kernel
theorem dX1_digest_32 : decode cX1_digest 32 = .ok (.istore_n 3, 1) := by decide +kernel
theorem dX1_digest_33 : decode cX1_digest 33 = .ok (.iload_n 3, 1) := by decide +kernel
theorem dX1_digest_34 : decode cX1_digest 34 = .ok (.bipush 6, 2) := by decide +kernel
theorem dX1_digest_36 : decode cX1_digest 36 = .ok (.if_icmp .ge 39, 3) := by decide +kernel
theorem dX1_digest_39 : decode cX1_digest 39 = .ok (.iconst 0, 1) := by decide +kernel
theorem dX1_digest_40 : decode cX1_digest 40 = .ok (.istore 4, 2) := by decide +kernel
theorem dX1_digest_42 : decode cX1_digest 42 = .ok (.iload 4, 2) := by decide +kernel
theorem dX1_digest_44 : decode cX1_digest 44 = .ok (.iconst 4, 1) := by decide +kernel
theorem dX1_digest_45 : decode cX1_digest 45 = .ok (.if_icmp .ge 24, 3) := by decide +kernel
theorem dX1_digest_48 : decode cX1_digest 48 = .ok (.lload_n 1, 1) := by decide +kernel
theorem dX1_digest_49 : decode cX1_digest 49 = .ok (.ldc2_w 188, 3) := by decide +kernel
theorem dX1_digest_52 : decode cX1_digest 52 = .ok (.lmul, 1) := by decide +kernel
theorem dX1_digest_53 : decode cX1_digest 53 = .ok (.aload_n 0, 1) := by decide +kernel
theorem dX1_digest_54 : decode cX1_digest 54 = .ok (.iload_n 3, 1) := by decide +kernel
theorem dX1_digest_55 : decode cX1_digest 55 = .ok (.iload 4, 2) := by decide +kernel
theorem dX1_digest_57 : decode cX1_digest 57 = .ok (.invokevirtual 193, 3) := by decide +kernel
theorem dX1_digest_60 : decode cX1_digest 60 = .ok (.i2l, 1) := by decide +kernel
theorem dX1_digest_61 : decode cX1_digest 61 = .ok (.ladd, 1) := by decide +kernel
theorem dX1_digest_62 : decode cX1_digest 62 = .ok (.lstore_n 1, 1) := by decide +kernel
theorem dX1_digest_63 : decode cX1_digest 63 = .ok (.iinc 4 1, 3) := by decide +kernel
theorem dX1_digest_66 : decode cX1_digest 66 = .ok (.goto (-24), 3) := by decide +kernel
theorem dX1_digest_69 : decode cX1_digest 69 = .ok (.iinc 3 1, 3) := by decide +kernel
theorem dX1_digest_72 : decode cX1_digest 72 = .ok (.goto (-39), 3) := by decide +kernel
theorem dX1_digest_75 : decode cX1_digest 75 = .ok (.iconst 0, 1) := by decide +kernel
theorem dX1_digest_76 : decode cX1_digest 76 = .ok (.istore_n 3, 1) := by decide +kernel
theorem dX1_digest_77 : decode cX1_digest 77 = .ok (.iload_n 3, 1) := by decide +kernel
theorem dX1_digest_78 : decode cX1_digest 78 = .ok (.bipush 10, 2) := by decide +kernel
theorem dX1_digest_80 : decode cX1_digest 80 = .ok (.if_icmp .ge 23, 3) := by decide +kernel
theorem dX1_digest_83 : decode cX1_digest 83 = .ok (.lload_n 1, 1) := by decide +kernel
theorem dX1_digest_84 : decode cX1_digest 84 = .ok (.ldc2_w 188, 3) := by decide +kernel
theorem dX1_digest_87 : decode cX1_digest 87 = .ok (.lmul, 1) := by decide +kernel
theorem dX1_digest_88 : decode cX1_digest 88 = .ok (.aload_n 0, 1) := by decide +kernel
theorem dX1_digest_89 : decode cX1_digest 89 = .ok (.getfield 19, 3) := by decide +kernel
theorem dX1_digest_92 : decode cX1_digest 92 = .ok (.iload_n 3, 1) := by decide +kernel
theorem dX1_digest_93 : decode cX1_digest 93 = .ok (.iaload, 1) := by decide +kernel
theorem dX1_digest_94 : decode cX1_digest 94 = .ok (.i2l, 1) := by decide +kernel
theorem dX1_digest_95 : decode cX1_digest 95 = .ok (.ladd, 1) := by decide +kernel
theorem dX1_digest_96 : decode cX1_digest 96 = .ok (.lstore_n 1, 1) := by decide +kernel
theorem dX1_digest_97 : decode cX1_digest 97 = .ok (.iinc 3 1, 3) := by decide +kernel
theorem dX1_digest_100 : decode cX1_digest 100 = .ok (.goto (-23), 3) := by decide +kernel
theorem dX1_digest_103 : decode cX1_digest 103 = .ok (.iconst 0, 1) := by decide +kernel
theorem dX1_digest_104 : decode cX1_digest 104 = .ok (.istore_n 3, 1) := by decide +kernel
theorem dX1_digest_105 : decode cX1_digest 105 = .ok (.iload_n 3, 1) := by decide +kernel
theorem dX1_digest_106 : decode cX1_digest 106 = .ok (.bipush 40, 2) := by decide +kernel
theorem dX1_digest_108 : decode cX1_digest 108 = .ok (.if_icmp .ge 47, 3) := by decide +kernel
theorem dX1_digest_111 : decode cX1_digest 111 = .ok (.iconst 0, 1) := by decide +kernel
theorem dX1_digest_112 : decode cX1_digest 112 = .ok (.istore 4, 2) := by decide +kernel
theorem dX1_digest_114 : decode cX1_digest 114 = .ok (.iload 4, 2) := by decide +kernel
theorem dX1_digest_116 : decode cX1_digest 116 = .ok (.bipush 6, 2) := by decide +kernel
theorem dX1_digest_118 : decode cX1_digest 118 = .ok (.if_icmp .ge 31, 3) := by decide +kernel
theorem dX1_digest_121 : decode cX1_digest 121 = .ok (.lload_n 1, 1) := by decide +kernel
theorem dX1_digest_122 : decode cX1_digest 122 = .ok (.ldc2_w 188, 3) := by decide +kernel
theorem dX1_digest_125 : decode cX1_digest 125 = .ok (.lmul, 1) := by decide +kernel
theorem dX1_digest_126 : decode cX1_digest 126 = .ok (.aload_n 0, 1) := by decide +kernel
theorem dX1_digest_127 : decode cX1_digest 127 = .ok (.iload_n 3, 1) := by decide +kernel
theorem dX1_digest_128 : decode cX1_digest 128 = .ok (.bipush 8, 2) := by decide +kernel
theorem dX1_digest_130 : decode cX1_digest 130 = .ok (.idiv, 1) := by decide +kernel
theorem dX1_digest_131 : decode cX1_digest 131 = .ok (.iload_n 3, 1) := by decide +kernel
theorem dX1_digest_132 : decode cX1_digest 132 = .ok (.bipush 8, 2) := by decide +kernel
theorem dX1_digest_134 : decode cX1_digest 134 = .ok (.irem, 1) := by decide +kernel
theorem dX1_digest_135 : decode cX1_digest 135 = .ok (.iload 4, 2) := by decide +kernel
theorem dX1_digest_137 : decode cX1_digest 137 = .ok (.invokevirtual 196, 3) := by decide +kernel
theorem dX1_digest_140 : decode cX1_digest 140 = .ok (.i2l, 1) := by decide +kernel
theorem dX1_digest_141 : decode cX1_digest 141 = .ok (.ladd, 1) := by decide +kernel
theorem dX1_digest_142 : decode cX1_digest 142 = .ok (.lstore_n 1, 1) := by decide +kernel
theorem dX1_digest_143 : decode cX1_digest 143 = .ok (.iinc 4 1, 3) := by decide +kernel
theorem dX1_digest_146 : decode cX1_digest 146 = .ok (.goto (-32), 3) := by decide +kernel
theorem dX1_digest_149 : decode cX1_digest 149 = .ok (.iinc 3 1, 3) := by decide +kernel
theorem dX1_digest_152 : decode cX1_digest 152 = .ok (.goto (-47), 3) := by decide +kernel
theorem dX1_digest_155 : decode cX1_digest 155 = .ok (.lload_n 1, 1) := by decide +kernel
theorem dX1_digest_156 : decode cX1_digest 156 = .ok (.ldc2_w 188, 3) := by decide +kernel
theorem dX1_digest_159 : decode cX1_digest 159 = .ok (.lmul, 1) := by decide +kernel
theorem dX1_digest_160 : decode cX1_digest 160 = .ok (.aload_n 0, 1) := by decide +kernel
theorem dX1_digest_161 : decode cX1_digest 161 = .ok (.invokevirtual 199, 3) := by decide +kernel
theorem dX1_digest_164 : decode cX1_digest 164 = .ok (.i2l, 1) := by decide +kernel
theorem dX1_digest_165 : decode cX1_digest 165 = .ok (.ladd, 1) := by decide +kernel
theorem dX1_digest_166 : decode cX1_digest 166 = .ok (.lreturn, 1) := by decide +kernel
theorem dX1_isWithin_0 : decode cX1_isWithin 0 = .ok (.iload_n 0, 1) := by decide +kernel
theorem dX1_isWithin_1 : decode cX1_isWithin 1 = .ok (.iload_n 1, 1) := by decide +kernel
theorem dX1_isWithin_2 : decode cX1_isWithin 2 = .ok (.if_icmp .lt 12, 3) := by decide +kernel
theorem dX1_isWithin_5 : decode cX1_isWithin 5 = .ok (.iload_n 0, 1) := by decide +kernel
theorem dX1_isWithin_6 : decode cX1_isWithin 6 = .ok (.iload_n 2, 1) := by decide +kernel
theorem dX1_isWithin_7 : decode cX1_isWithin 7 = .ok (.if_icmp .gt 7, 3) := by decide +kernel
theorem dX1_isWithin_10 : decode cX1_isWithin 10 = .ok (.iconst 1, 1) := by decide +kernel
theorem dX1_isWithin_11 : decode cX1_isWithin 11 = .ok (.goto 4, 3) := by decide +kernel
theorem dX1_isWithin_14 : decode cX1_isWithin 14 = .ok (.iconst 0, 1) := by decide +kernel
theorem dX1_isWithin_15 : decode cX1_isWithin 15 = .ok (.ireturn, 1) := by decide +kernel
set_option maxRecDepth 20000 in
theorem ggX1_isSort_X1_isWithin : GoodIn wsX1_isSort wsX1_isWithin := goodIn_r _ [4] (by decide +kernel) (by decide +kernel)
set_option maxRecDepth 20000 in
theorem gX1_isSort_X1_isWithin : GoodIn wsX1_isSort (va_wsS RX1 72 yX1_isWithin wsX1_isWithin) := goodIn_app (goodIn_of _ (by decide +kernel)) ggX1_isSort_X1_isWithin
theorem dX1_isSort_0 : decode cX1_isSort 0 = .ok (.iload_n 0, 1) := by decide +kernel
theorem dX1_isSort_1 : decode cX1_isSort 1 = .ok (.iconst 0, 1) := by decide +kernel
theorem dX1_isSort_2 : decode cX1_isSort 2 = .ok (.iconst 5, 1) := by decide +kernel
theorem dX1_isSort_3 : decode cX1_isSort 3 = .ok (.invokestatic 72, 3) := by decide +kernel
theorem dX1_isSort_6 : decode cX1_isSort 6 = .ok (.ireturn, 1) := by decide +kernel
set_option maxRecDepth 20000 in
theorem ggX1_isPlace_X1_isWithin : GoodIn wsX1_isPlace wsX1_isWithin := goodIn_r _ [4] (by decide +kernel) (by decide +kernel)
set_option maxRecDepth 20000 in
theorem gX1_isPlace_X1_isWithin : GoodIn wsX1_isPlace (va_wsS RX1 72 yX1_isWithin wsX1_isWithin) := goodIn_app (goodIn_of _ (by decide +kernel)) ggX1_isPlace_X1_isWithin
theorem dX1_isPlace_0 : decode cX1_isPlace 0 = .ok (.iload_n 0, 1) := by decide +kernel
theorem dX1_isPlace_1 : decode cX1_isPlace 1 = .ok (.iconst 0, 1) := by decide +kernel
theorem dX1_isPlace_2 : decode cX1_isPlace 2 = .ok (.iconst 4, 1) := by decide +kernel
theorem dX1_isPlace_3 : decode cX1_isPlace 3 = .ok (.invokestatic 72, 3) := by decide +kernel
theorem dX1_isPlace_6 : decode cX1_isPlace 6 = .ok (.ifCond .eq 17, 3) := by decide +kernel
theorem dX1_isPlace_9 : decode cX1_isPlace 9 = .ok (.iload_n 1, 1) := by decide +kernel
theorem dX1_isPlace_10 : decode cX1_isPlace 10 = .ok (.iconst 0, 1) := by decide +kernel
theorem dX1_isPlace_11 : decode cX1_isPlace 11 = .ok (.bipush 7, 2) := by decide +kernel
theorem dX1_isPlace_13 : decode cX1_isPlace 13 = .ok (.invokestatic 72, 3) := by decide +kernel
theorem dX1_isPlace_16 : decode cX1_isPlace 16 = .ok (.ifCond .eq 7, 3) := by decide +kernel
theorem dX1_isPlace_19 : decode cX1_isPlace 19 = .ok (.iconst 1, 1) := by decide +kernel
theorem dX1_isPlace_20 : decode cX1_isPlace 20 = .ok (.goto 4, 3) := by decide +kernel
theorem dX1_isPlace_23 : decode cX1_isPlace 23 = .ok (.iconst 0, 1) := by decide +kernel
theorem dX1_isPlace_24 : decode cX1_isPlace 24 = .ok (.ireturn, 1) := by decide +kernel
theorem dX1_spotOf_0 : decode cX1_spotOf 0 = .ok (.iload_n 0, 1) := by decide +kernel
theorem dX1_spotOf_1 : decode cX1_spotOf 1 = .ok (.bipush 8, 2) := by decide +kernel
theorem dX1_spotOf_3 : decode cX1_spotOf 3 = .ok (.imul, 1) := by decide +kernel
theorem dX1_spotOf_4 : decode cX1_spotOf 4 = .ok (.iload_n 1, 1) := by decide +kernel
theorem dX1_spotOf_5 : decode cX1_spotOf 5 = .ok (.iadd, 1) := by decide +kernel
theorem dX1_spotOf_6 : decode cX1_spotOf 6 = .ok (.ireturn, 1) := by decide +kernel
theorem dX1_mirrorOf_0 : decode cX1_mirrorOf 0 = .ok (.iload_n 0, 1) := by decide +kernel
theorem dX1_mirrorOf_1 : decode cX1_mirrorOf 1 = .ok (.bipush 8, 2) := by decide +kernel
theorem dX1_mirrorOf_3 : decode cX1_mirrorOf 3 = .ok (.irem, 1) := by decide +kernel
theorem dX1_mirrorOf_4 : decode cX1_mirrorOf 4 = .ok (.istore_n 1, 1) := by decide +kernel
theorem dX1_mirrorOf_5 : decode cX1_mirrorOf 5 = .ok (.iload_n 0, 1) := by decide +kernel
theorem dX1_mirrorOf_6 : decode cX1_mirrorOf 6 = .ok (.iload_n 1, 1) := by decide +kernel
theorem dX1_mirrorOf_7 : decode cX1_mirrorOf 7 = .ok (.isub, 1) := by decide +kernel
theorem dX1_mirrorOf_8 : decode cX1_mirrorOf 8 = .ok (.bipush 7, 2) := by decide +kernel
theorem dX1_mirrorOf_10 : decode cX1_mirrorOf 10 = .ok (.iload_n 1, 1) := by decide +kernel
theorem dX1_mirrorOf_11 : decode cX1_mirrorOf 11 = .ok (.isub, 1) := by decide +kernel
theorem dX1_mirrorOf_12 : decode cX1_mirrorOf 12 = .ok (.iadd, 1) := by decide +kernel
theorem dX1_mirrorOf_13 : decode cX1_mirrorOf 13 = .ok (.ireturn, 1) := by decide +kernel
theorem dX1_twinOf_0 : decode cX1_twinOf 0 = .ok (.iload_n 0, 1) := by decide +kernel
theorem dX1_twinOf_1 : decode cX1_twinOf 1 = .ok (.bipush 8, 2) := by decide +kernel
theorem dX1_twinOf_3 : decode cX1_twinOf 3 = .ok (.irem, 1) := by decide +kernel
theorem dX1_twinOf_4 : decode cX1_twinOf 4 = .ok (.iconst 4, 1) := by decide +kernel
theorem dX1_twinOf_5 : decode cX1_twinOf 5 = .ok (.if_icmp .ge 7, 3) := by decide +kernel
theorem dX1_twinOf_8 : decode cX1_twinOf 8 = .ok (.iconst 0, 1) := by decide +kernel
theorem dX1_twinOf_9 : decode cX1_twinOf 9 = .ok (.goto 4, 3) := by decide +kernel
theorem dX1_twinOf_12 : decode cX1_twinOf 12 = .ok (.iconst 1, 1) := by decide +kernel
theorem dX1_twinOf_13 : decode cX1_twinOf 13 = .ok (.ireturn, 1) := by decide +kernel
theorem dX1_hasTree_0 : decode cX1_hasTree 0 = .ok (.aload_n 0, 1) := by decide +kernel
theorem dX1_hasTree_1 : decode cX1_hasTree 1 = .ok (.getfield 22, 3) := by decide +kernel
theorem dX1_hasTree_4 : decode cX1_hasTree 4 = .ok (.iload_n 1, 1) := by decide +kernel
theorem dX1_hasTree_5 : decode cX1_hasTree 5 = .ok (.iaload, 1) := by decide +kernel
theorem dX1_hasTree_6 : decode cX1_hasTree 6 = .ok (.iconst (-1), 1) := by decide +kernel
theorem dX1_hasTree_7 : decode cX1_hasTree 7 = .ok (.if_icmp .eq 7, 3) := by decide +kernel
theorem dX1_hasTree_10 : decode cX1_hasTree 10 = .ok (.iconst 1, 1) := by decide +kernel
theorem dX1_hasTree_11 : decode cX1_hasTree 11 = .ok (.goto 4, 3) := by decide +kernel
theorem dX1_hasTree_14 : decode cX1_hasTree 14 = .ok (.iconst 0, 1) := by decide +kernel
theorem dX1_hasTree_15 : decode cX1_hasTree 15 = .ok (.ireturn, 1) := by decide +kernel
theorem dX1_whoDidIt_0 : decode cX1_whoDidIt 0 = .ok (.iload_n 0, 1) := by decide +kernel
theorem dX1_whoDidIt_1 : decode cX1_whoDidIt 1 = .ok (.ifCond .eq 7, 3) := by decide +kernel
theorem dX1_whoDidIt_4 : decode cX1_whoDidIt 4 = .ok (.iconst 1, 1) := by decide +kernel
theorem dX1_whoDidIt_5 : decode cX1_whoDidIt 5 = .ok (.goto 4, 3) := by decide +kernel
theorem dX1_whoDidIt_8 : decode cX1_whoDidIt 8 = .ok (.iconst 0, 1) := by decide +kernel
theorem dX1_whoDidIt_9 : decode cX1_whoDidIt 9 = .ok (.iload_n 1, 1) := by decide +kernel
theorem dX1_whoDidIt_10 : decode cX1_whoDidIt 10 = .ok (.ifCond .eq 7, 3) := by decide +kernel
theorem dX1_whoDidIt_13 : decode cX1_whoDidIt 13 = .ok (.iconst 2, 1) := by decide +kernel
theorem dX1_whoDidIt_14 : decode cX1_whoDidIt 14 = .ok (.goto 4, 3) := by decide +kernel
theorem dX1_whoDidIt_17 : decode cX1_whoDidIt 17 = .ok (.iconst 0, 1) := by decide +kernel
theorem dX1_whoDidIt_18 : decode cX1_whoDidIt 18 = .ok (.iadd, 1) := by decide +kernel
theorem dX1_whoDidIt_19 : decode cX1_whoDidIt 19 = .ok (.ireturn, 1) := by decide +kernel
set_option maxRecDepth 20000 in
theorem ggX1_canPay_X1_twinOf : GoodIn wsX1_canPay wsX1_twinOf := goodIn_r _ [5] (by decide +kernel) (by decide +kernel)
set_option maxRecDepth 20000 in
theorem gX1_canPay_X1_twinOf : GoodIn wsX1_canPay (va_wsS RX1 202 yX1_twinOf wsX1_twinOf) := goodIn_app (goodIn_of _ (by decide +kernel)) ggX1_canPay_X1_twinOf
theorem dX1_canPay_0 : decode cX1_canPay 0 = .ok (.aload_n 0, 1) := by decide +kernel
theorem dX1_canPay_1 : decode cX1_canPay 1 = .ok (.getfield 35, 3) := by decide +kernel
theorem dX1_canPay_4 : decode cX1_canPay 4 = .ok (.iload_n 1, 1) := by decide +kernel
theorem dX1_canPay_5 : decode cX1_canPay 5 = .ok (.invokestatic 202, 3) := by decide +kernel
theorem dX1_canPay_8 : decode cX1_canPay 8 = .ok (.iaload, 1) := by decide +kernel
theorem dX1_canPay_9 : decode cX1_canPay 9 = .ok (.iload_n 2, 1) := by decide +kernel
theorem dX1_canPay_10 : decode cX1_canPay 10 = .ok (.if_icmp .lt 7, 3) := by decide +kernel
theorem dX1_canPay_13 : decode cX1_canPay 13 = .ok (.iconst 1, 1) := by decide +kernel
theorem dX1_canPay_14 : decode cX1_canPay 14 = .ok (.goto 4, 3) := by decide +kernel
theorem dX1_canPay_17 : decode cX1_canPay 17 = .ok (.iconst 0, 1) := by decide +kernel
theorem dX1_canPay_18 : decode cX1_canPay 18 = .ok (.ireturn, 1) := by decide +kernel
set_option maxRecDepth 20000 in
theorem ggX1_pay_X1_twinOf : GoodIn wsX1_pay wsX1_twinOf := goodIn_r _ [5] (by decide +kernel) (by decide +kernel)
set_option maxRecDepth 20000 in
theorem gX1_pay_X1_twinOf : GoodIn wsX1_pay (va_wsS RX1 202 yX1_twinOf wsX1_twinOf) := goodIn_app (goodIn_of _ (by decide +kernel)) ggX1_pay_X1_twinOf
theorem dX1_pay_0 : decode cX1_pay 0 = .ok (.aload_n 0, 1) := by decide +kernel
theorem dX1_pay_1 : decode cX1_pay 1 = .ok (.getfield 35, 3) := by decide +kernel
theorem dX1_pay_4 : decode cX1_pay 4 = .ok (.iload_n 1, 1) := by decide +kernel
theorem dX1_pay_5 : decode cX1_pay 5 = .ok (.invokestatic 202, 3) := by decide +kernel
theorem dX1_pay_8 : decode cX1_pay 8 = .ok (.dup2, 1) := by decide +kernel
theorem dX1_pay_9 : decode cX1_pay 9 = .ok (.iaload, 1) := by decide +kernel
theorem dX1_pay_10 : decode cX1_pay 10 = .ok (.iload_n 2, 1) := by decide +kernel
theorem dX1_pay_11 : decode cX1_pay 11 = .ok (.isub, 1) := by decide +kernel
theorem dX1_pay_12 : decode cX1_pay 12 = .ok (.iastore, 1) := by decide +kernel
theorem dX1_pay_13 : decode cX1_pay 13 = .ok (.return_, 1) := by decide +kernel
set_option maxRecDepth 20000 in
theorem ggX1_plantAt_X1_hasTree : GoodIn wsX1_plantAt wsX1_hasTree := goodIn_r _ [9, 1, 22, 23, 24, 25, 26, 27, 28, 29, 30, 31, 32, 33, 34] (by decide +kernel) (by decide +kernel)
set_option maxRecDepth 20000 in
theorem gX1_plantAt_X1_hasTree : GoodIn wsX1_plantAt (wsV RX1 121 RX1 yX1_hasTree wsX1_hasTree) := goodIn_app (goodIn_of _ (by decide +kernel)) ggX1_plantAt_X1_hasTree
set_option maxRecDepth 20000 in
theorem ggX1_plantAt_X1_canPay : GoodIn wsX1_plantAt wsX1_canPay := goodIn_r _ [13, 14, 15, 16, 8, 17, 22, 23, 24, 25, 26, 27, 28, 29, 30, 31, 32, 33, 34] (by decide +kernel) (by decide +kernel)
set_option maxRecDepth 20000 in
theorem gX1_plantAt_X1_canPay : GoodIn wsX1_plantAt (wsV RX1 205 RX1 yX1_canPay wsX1_canPay) := goodIn_app (goodIn_of _ (by decide +kernel)) ggX1_plantAt_X1_canPay
set_option maxRecDepth 20000 in
theorem ggX1_plantAt_X1_pay : GoodIn wsX1_plantAt wsX1_pay := goodIn_r _ [21, 14, 15, 16, 8, 17, 22, 23, 24, 25, 26, 27, 28, 29, 30, 31, 32, 33, 34] (by decide +kernel) (by decide +kernel)
set_option maxRecDepth 20000 in
theorem gX1_plantAt_X1_pay : GoodIn wsX1_plantAt (wsV RX1 208 RX1 yX1_pay wsX1_pay) := goodIn_app (goodIn_of _ (by decide +kernel)) ggX1_plantAt_X1_pay
theorem dX1_plantAt_0 : decode cX1_plantAt 0 = .ok (.aload_n 0, 1) := by decide +kernel
theorem dX1_plantAt_1 : decode cX1_plantAt 1 = .ok (.iload_n 1, 1) := by decide +kernel
theorem dX1_plantAt_2 : decode cX1_plantAt 2 = .ok (.invokevirtual 121, 3) := by decide +kernel
theorem dX1_plantAt_5 : decode cX1_plantAt 5 = .ok (.ifCond .ne 12, 3) := by decide +kernel
theorem dX1_plantAt_8 : decode cX1_plantAt 8 = .ok (.aload_n 0, 1) := by decide +kernel
theorem dX1_plantAt_9 : decode cX1_plantAt 9 = .ok (.iload_n 1, 1) := by decide +kernel
theorem dX1_plantAt_10 : decode cX1_plantAt 10 = .ok (.iconst 5, 1) := by decide +kernel
theorem dX1_plantAt_11 : decode cX1_plantAt 11 = .ok (.invokevirtual 205, 3) := by decide +kernel
theorem dX1_plantAt_14 : decode cX1_plantAt 14 = .ok (.ifCond .ne 5, 3) := by decide +kernel
theorem dX1_plantAt_17 : decode cX1_plantAt 17 = .ok (.iconst 0, 1) := by decide +kernel
theorem dX1_plantAt_18 : decode cX1_plantAt 18 = .ok (.ireturn, 1) := by decide +kernel
theorem dX1_plantAt_19 : decode cX1_plantAt 19 = .ok (.aload_n 0, 1) := by decide +kernel
theorem dX1_plantAt_20 : decode cX1_plantAt 20 = .ok (.iload_n 1, 1) := by decide +kernel
theorem dX1_plantAt_21 : decode cX1_plantAt 21 = .ok (.iconst 5, 1) := by decide +kernel
theorem dX1_plantAt_22 : decode cX1_plantAt 22 = .ok (.invokevirtual 208, 3) := by decide +kernel
theorem dX1_plantAt_25 : decode cX1_plantAt 25 = .ok (.aload_n 0, 1) := by decide +kernel
theorem dX1_plantAt_26 : decode cX1_plantAt 26 = .ok (.getfield 22, 3) := by decide +kernel
theorem dX1_plantAt_29 : decode cX1_plantAt 29 = .ok (.iload_n 1, 1) := by decide +kernel
theorem dX1_plantAt_30 : decode cX1_plantAt 30 = .ok (.iload_n 2, 1) := by decide +kernel
theorem dX1_plantAt_31 : decode cX1_plantAt 31 = .ok (.iastore, 1) := by decide +kernel
theorem dX1_plantAt_32 : decode cX1_plantAt 32 = .ok (.aload_n 0, 1) := by decide +kernel
theorem dX1_plantAt_33 : decode cX1_plantAt 33 = .ok (.getfield 25, 3) := by decide +kernel
theorem dX1_plantAt_36 : decode cX1_plantAt 36 = .ok (.iload_n 1, 1) := by decide +kernel
theorem dX1_plantAt_37 : decode cX1_plantAt 37 = .ok (.iconst 1, 1) := by decide +kernel
theorem dX1_plantAt_38 : decode cX1_plantAt 38 = .ok (.iastore, 1) := by decide +kernel
theorem dX1_plantAt_39 : decode cX1_plantAt 39 = .ok (.aload_n 0, 1) := by decide +kernel
theorem dX1_plantAt_40 : decode cX1_plantAt 40 = .ok (.getfield 28, 3) := by decide +kernel
theorem dX1_plantAt_43 : decode cX1_plantAt 43 = .ok (.iload_n 1, 1) := by decide +kernel
theorem dX1_plantAt_44 : decode cX1_plantAt 44 = .ok (.iload_n 3, 1) := by decide +kernel
theorem dX1_plantAt_45 : decode cX1_plantAt 45 = .ok (.iastore, 1) := by decide +kernel
theorem dX1_plantAt_46 : decode cX1_plantAt 46 = .ok (.aload_n 0, 1) := by decide +kernel
theorem dX1_plantAt_47 : decode cX1_plantAt 47 = .ok (.getfield 31, 3) := by decide +kernel
theorem dX1_plantAt_50 : decode cX1_plantAt 50 = .ok (.iload_n 1, 1) := by decide +kernel
theorem dX1_plantAt_51 : decode cX1_plantAt 51 = .ok (.iconst 0, 1) := by decide +kernel
theorem dX1_plantAt_52 : decode cX1_plantAt 52 = .ok (.bastore, 1) := by decide +kernel
theorem dX1_plantAt_53 : decode cX1_plantAt 53 = .ok (.iconst 1, 1) := by decide +kernel
theorem dX1_plantAt_54 : decode cX1_plantAt 54 = .ok (.ireturn, 1) := by decide +kernel
set_option maxRecDepth 20000 in
theorem ggX1_canPrune_X1_hasTree : GoodIn wsX1_canPrune wsX1_hasTree := goodIn_r _ [6, 7, 16, 17, 18, 19, 20, 21, 22, 23, 24, 25, 26, 27, 28] (by decide +kernel) (by decide +kernel)
set_option maxRecDepth 20000 in
theorem gX1_canPrune_X1_hasTree : GoodIn wsX1_canPrune (wsV RX1 121 RX1 yX1_hasTree wsX1_hasTree) := goodIn_app (goodIn_of _ (by decide +kernel)) ggX1_canPrune_X1_hasTree
set_option maxRecDepth 20000 in
theorem ggX1_canPrune_X1_canPay : GoodIn wsX1_canPrune wsX1_canPay := goodIn_r _ [11, 12, 13, 14, 5, 15, 16, 17, 18, 19, 20, 21, 22, 23, 24, 25, 26, 27, 28] (by decide +kernel) (by decide +kernel)
set_option maxRecDepth 20000 in
theorem gX1_canPrune_X1_canPay : GoodIn wsX1_canPrune (wsV RX1 205 RX1 yX1_canPay wsX1_canPay) := goodIn_app (goodIn_of _ (by decide +kernel)) ggX1_canPrune_X1_canPay
theorem dX1_canPrune_0 : decode cX1_canPrune 0 = .ok (.aload_n 0, 1) := by decide +kernel
theorem dX1_canPrune_1 : decode cX1_canPrune 1 = .ok (.iload_n 1, 1) := by decide +kernel
theorem dX1_canPrune_2 : decode cX1_canPrune 2 = .ok (.invokevirtual 121, 3) := by decide +kernel
theorem dX1_canPrune_5 : decode cX1_canPrune 5 = .ok (.ifCond .eq 26, 3) := by decide +kernel
theorem dX1_canPrune_8 : decode cX1_canPrune 8 = .ok (.aload_n 0, 1) := by decide +kernel
theorem dX1_canPrune_9 : decode cX1_canPrune 9 = .ok (.getfield 25, 3) := by decide +kernel
theorem dX1_canPrune_12 : decode cX1_canPrune 12 = .ok (.iload_n 1, 1) := by decide +kernel
theorem dX1_canPrune_13 : decode cX1_canPrune 13 = .ok (.iaload, 1) := by decide +kernel
theorem dX1_canPrune_14 : decode cX1_canPrune 14 = .ok (.iload_n 2, 1) := by decide +kernel
theorem dX1_canPrune_15 : decode cX1_canPrune 15 = .ok (.if_icmp .lt 16, 3) := by decide +kernel
theorem dX1_canPrune_18 : decode cX1_canPrune 18 = .ok (.aload_n 0, 1) := by decide +kernel
theorem dX1_canPrune_19 : decode cX1_canPrune 19 = .ok (.iload_n 1, 1) := by decide +kernel
theorem dX1_canPrune_20 : decode cX1_canPrune 20 = .ok (.iconst 2, 1) := by decide +kernel
theorem dX1_canPrune_21 : decode cX1_canPrune 21 = .ok (.invokevirtual 205, 3) := by decide +kernel
theorem dX1_canPrune_24 : decode cX1_canPrune 24 = .ok (.ifCond .eq 7, 3) := by decide +kernel
theorem dX1_canPrune_27 : decode cX1_canPrune 27 = .ok (.iconst 1, 1) := by decide +kernel
theorem dX1_canPrune_28 : decode cX1_canPrune 28 = .ok (.goto 4, 3) := by decide +kernel
theorem dX1_canPrune_31 : decode cX1_canPrune 31 = .ok (.iconst 0, 1) := by decide +kernel
theorem dX1_canPrune_32 : decode cX1_canPrune 32 = .ok (.ireturn, 1) := by decide +kernel
set_option maxRecDepth 20000 in
theorem ggX1_pruneAt_X1_canPrune : GoodIn wsX1_pruneAt wsX1_canPrune := goodIn_r _ [6, 7, 8, 9, 10, 5, 11, 12, 13, 14, 15, 16, 17, 18, 19, 20, 42, 43, 44, 45, 46, 47, 48, 49, 50, 51, 52, 53, 54] (by decide +kernel) (by decide +kernel)
set_option maxRecDepth 20000 in
theorem gX1_pruneAt_X1_canPrune : GoodIn wsX1_pruneAt (wsV RX1 212 RX1 yX1_canPrune wsX1_canPrune) := goodIn_app (goodIn_of _ (by decide +kernel)) ggX1_pruneAt_X1_canPrune
set_option maxRecDepth 20000 in
theorem ggX1_pruneAt_X1_pay : GoodIn wsX1_pruneAt wsX1_pay := goodIn_r _ [24, 17, 18, 19, 5, 20, 42, 43, 44, 45, 46, 47, 48, 49, 50, 51, 52, 53, 54] (by decide +kernel) (by decide +kernel)
set_option maxRecDepth 20000 in
theorem gX1_pruneAt_X1_pay : GoodIn wsX1_pruneAt (wsV RX1 208 RX1 yX1_pay wsX1_pay) := goodIn_app (goodIn_of _ (by decide +kernel)) ggX1_pruneAt_X1_pay
set_option maxRecDepth 20000 in
theorem ggX1_pruneAt_X1_lookAt : GoodIn wsX1_pruneAt wsX1_lookAt := goodIn_r _ [28, 1, 29, 7, 30, 31, 12, 8, 9, 10, 5, 11, 42, 43, 44, 45, 46, 47, 48, 49, 50, 51, 52, 53, 54, 55, 56, 57, 58] (by decide +kernel) (by decide +kernel)
set_option maxRecDepth 20000 in
theorem gX1_pruneAt_X1_lookAt : GoodIn wsX1_pruneAt (wsV RX1 170 RX1 yX1_lookAt wsX1_lookAt) := goodIn_app (goodIn_of _ (by decide +kernel)) ggX1_pruneAt_X1_lookAt
set_option maxRecDepth 20000 in
theorem ggX1_pruneAt_X0_shorten : GoodIn wsX1_pruneAt wsX0_shorten := goodIn_r _ [35, 36, 37, 55, 56, 57, 58] (by decide +kernel) (by decide +kernel)
set_option maxRecDepth 20000 in
theorem gX1_pruneAt_X0_shorten_n215 : GoodIn wsX1_pruneAt (wsX0_shorten) := ggX1_pruneAt_X0_shorten
set_option maxRecDepth 20000 in
theorem ggX1_pruneAt_X1_keepLooked : GoodIn wsX1_pruneAt wsX1_keepLooked := goodIn_r _ [41, 7, 1, 30, 42, 43, 44, 45, 46, 47, 48, 49, 50, 51, 52, 53, 54, 55, 56, 57, 58] (by decide +kernel) (by decide +kernel)
set_option maxRecDepth 20000 in
theorem gX1_pruneAt_X1_keepLooked : GoodIn wsX1_pruneAt (wsV RX1 218 RX1 yX1_keepLooked wsX1_keepLooked) := goodIn_app (goodIn_of _ (by decide +kernel)) ggX1_pruneAt_X1_keepLooked
theorem dX1_pruneAt_0 : decode cX1_pruneAt 0 = .ok (.aload_n 0, 1) := by decide +kernel
theorem dX1_pruneAt_1 : decode cX1_pruneAt 1 = .ok (.iload_n 1, 1) := by decide +kernel
theorem dX1_pruneAt_2 : decode cX1_pruneAt 2 = .ok (.iload_n 2, 1) := by decide +kernel
theorem dX1_pruneAt_3 : decode cX1_pruneAt 3 = .ok (.invokevirtual 212, 3) := by decide +kernel
theorem dX1_pruneAt_6 : decode cX1_pruneAt 6 = .ok (.ifCond .ne 5, 3) := by decide +kernel
theorem dX1_pruneAt_9 : decode cX1_pruneAt 9 = .ok (.iconst 0, 1) := by decide +kernel
theorem dX1_pruneAt_10 : decode cX1_pruneAt 10 = .ok (.ireturn, 1) := by decide +kernel
theorem dX1_pruneAt_11 : decode cX1_pruneAt 11 = .ok (.aload_n 0, 1) := by decide +kernel
theorem dX1_pruneAt_12 : decode cX1_pruneAt 12 = .ok (.iload_n 1, 1) := by decide +kernel
theorem dX1_pruneAt_13 : decode cX1_pruneAt 13 = .ok (.iconst 2, 1) := by decide +kernel
theorem dX1_pruneAt_14 : decode cX1_pruneAt 14 = .ok (.invokevirtual 208, 3) := by decide +kernel
theorem dX1_pruneAt_17 : decode cX1_pruneAt 17 = .ok (.aload_n 0, 1) := by decide +kernel
theorem dX1_pruneAt_18 : decode cX1_pruneAt 18 = .ok (.iload_n 1, 1) := by decide +kernel
theorem dX1_pruneAt_19 : decode cX1_pruneAt 19 = .ok (.invokevirtual 170, 3) := by decide +kernel
theorem dX1_pruneAt_22 : decode cX1_pruneAt 22 = .ok (.aload_n 0, 1) := by decide +kernel
theorem dX1_pruneAt_23 : decode cX1_pruneAt 23 = .ok (.getfield 48, 3) := by decide +kernel
theorem dX1_pruneAt_26 : decode cX1_pruneAt 26 = .ok (.iload_n 2, 1) := by decide +kernel
theorem dX1_pruneAt_27 : decode cX1_pruneAt 27 = .ok (.invokevirtual 215, 3) := by decide +kernel
theorem dX1_pruneAt_30 : decode cX1_pruneAt 30 = .ok (.aload_n 0, 1) := by decide +kernel
theorem dX1_pruneAt_31 : decode cX1_pruneAt 31 = .ok (.iload_n 1, 1) := by decide +kernel
theorem dX1_pruneAt_32 : decode cX1_pruneAt 32 = .ok (.invokevirtual 218, 3) := by decide +kernel
theorem dX1_pruneAt_35 : decode cX1_pruneAt 35 = .ok (.iconst 1, 1) := by decide +kernel
theorem dX1_pruneAt_36 : decode cX1_pruneAt 36 = .ok (.ireturn, 1) := by decide +kernel
set_option maxRecDepth 20000 in
theorem ggX1_graftAt_X1_hasTree : GoodIn wsX1_graftAt wsX1_hasTree := goodIn_r _ [11, 1, 24, 25, 26, 27, 28, 29, 30, 31, 32, 33, 34, 35, 36] (by decide +kernel) (by decide +kernel)
set_option maxRecDepth 20000 in
theorem gX1_graftAt_X1_hasTree : GoodIn wsX1_graftAt (wsV RX1 121 RX1 yX1_hasTree wsX1_hasTree) := goodIn_app (goodIn_of _ (by decide +kernel)) ggX1_graftAt_X1_hasTree
set_option maxRecDepth 20000 in
theorem ggX1_graftAt_X1_canPay : GoodIn wsX1_graftAt wsX1_canPay := goodIn_r _ [15, 16, 17, 18, 10, 19, 24, 25, 26, 27, 28, 29, 30, 31, 32, 33, 34, 35, 36] (by decide +kernel) (by decide +kernel)
set_option maxRecDepth 20000 in
theorem gX1_graftAt_X1_canPay : GoodIn wsX1_graftAt (wsV RX1 205 RX1 yX1_canPay wsX1_canPay) := goodIn_app (goodIn_of _ (by decide +kernel)) ggX1_graftAt_X1_canPay
set_option maxRecDepth 20000 in
theorem ggX1_graftAt_X1_pay : GoodIn wsX1_graftAt wsX1_pay := goodIn_r _ [23, 16, 17, 18, 10, 19, 24, 25, 26, 27, 28, 29, 30, 31, 32, 33, 34, 35, 36] (by decide +kernel) (by decide +kernel)
set_option maxRecDepth 20000 in
theorem gX1_graftAt_X1_pay : GoodIn wsX1_graftAt (wsV RX1 208 RX1 yX1_pay wsX1_pay) := goodIn_app (goodIn_of _ (by decide +kernel)) ggX1_graftAt_X1_pay
theorem dX1_graftAt_0 : decode cX1_graftAt 0 = .ok (.aload_n 0, 1) := by decide +kernel
theorem dX1_graftAt_1 : decode cX1_graftAt 1 = .ok (.iload_n 1, 1) := by decide +kernel
theorem dX1_graftAt_2 : decode cX1_graftAt 2 = .ok (.invokevirtual 121, 3) := by decide +kernel
theorem dX1_graftAt_5 : decode cX1_graftAt 5 = .ok (.ifCond .eq 32, 3) := by decide +kernel
theorem dX1_graftAt_8 : decode cX1_graftAt 8 = .ok (.aload_n 0, 1) := by decide +kernel
theorem dX1_graftAt_9 : decode cX1_graftAt 9 = .ok (.getfield 22, 3) := by decide +kernel
theorem dX1_graftAt_12 : decode cX1_graftAt 12 = .ok (.iload_n 1, 1) := by decide +kernel
theorem dX1_graftAt_13 : decode cX1_graftAt 13 = .ok (.iaload, 1) := by decide +kernel
theorem dX1_graftAt_14 : decode cX1_graftAt 14 = .ok (.iload_n 2, 1) := by decide +kernel
theorem dX1_graftAt_15 : decode cX1_graftAt 15 = .ok (.if_icmp .eq 22, 3) := by decide +kernel
theorem dX1_graftAt_18 : decode cX1_graftAt 18 = .ok (.aload_n 0, 1) := by decide +kernel
theorem dX1_graftAt_19 : decode cX1_graftAt 19 = .ok (.getfield 25, 3) := by decide +kernel
theorem dX1_graftAt_22 : decode cX1_graftAt 22 = .ok (.iload_n 1, 1) := by decide +kernel
theorem dX1_graftAt_23 : decode cX1_graftAt 23 = .ok (.iaload, 1) := by decide +kernel
theorem dX1_graftAt_24 : decode cX1_graftAt 24 = .ok (.iconst 1, 1) := by decide +kernel
theorem dX1_graftAt_25 : decode cX1_graftAt 25 = .ok (.if_icmp .lt 12, 3) := by decide +kernel
theorem dX1_graftAt_28 : decode cX1_graftAt 28 = .ok (.aload_n 0, 1) := by decide +kernel
theorem dX1_graftAt_29 : decode cX1_graftAt 29 = .ok (.iload_n 1, 1) := by decide +kernel
theorem dX1_graftAt_30 : decode cX1_graftAt 30 = .ok (.iconst 4, 1) := by decide +kernel
theorem dX1_graftAt_31 : decode cX1_graftAt 31 = .ok (.invokevirtual 205, 3) := by decide +kernel
theorem dX1_graftAt_34 : decode cX1_graftAt 34 = .ok (.ifCond .ne 5, 3) := by decide +kernel
theorem dX1_graftAt_37 : decode cX1_graftAt 37 = .ok (.iconst 0, 1) := by decide +kernel
theorem dX1_graftAt_38 : decode cX1_graftAt 38 = .ok (.ireturn, 1) := by decide +kernel
theorem dX1_graftAt_39 : decode cX1_graftAt 39 = .ok (.aload_n 0, 1) := by decide +kernel
theorem dX1_graftAt_40 : decode cX1_graftAt 40 = .ok (.iload_n 1, 1) := by decide +kernel
theorem dX1_graftAt_41 : decode cX1_graftAt 41 = .ok (.iconst 4, 1) := by decide +kernel
theorem dX1_graftAt_42 : decode cX1_graftAt 42 = .ok (.invokevirtual 208, 3) := by decide +kernel
theorem dX1_graftAt_45 : decode cX1_graftAt 45 = .ok (.aload_n 0, 1) := by decide +kernel
theorem dX1_graftAt_46 : decode cX1_graftAt 46 = .ok (.getfield 22, 3) := by decide +kernel
theorem dX1_graftAt_49 : decode cX1_graftAt 49 = .ok (.iload_n 1, 1) := by decide +kernel
theorem dX1_graftAt_50 : decode cX1_graftAt 50 = .ok (.iload_n 2, 1) := by decide +kernel
theorem dX1_graftAt_51 : decode cX1_graftAt 51 = .ok (.iastore, 1) := by decide +kernel
theorem dX1_graftAt_52 : decode cX1_graftAt 52 = .ok (.aload_n 0, 1) := by decide +kernel
theorem dX1_graftAt_53 : decode cX1_graftAt 53 = .ok (.getfield 25, 3) := by decide +kernel
theorem dX1_graftAt_56 : decode cX1_graftAt 56 = .ok (.iload_n 1, 1) := by decide +kernel
theorem dX1_graftAt_57 : decode cX1_graftAt 57 = .ok (.iconst 1, 1) := by decide +kernel
theorem dX1_graftAt_58 : decode cX1_graftAt 58 = .ok (.aload_n 0, 1) := by decide +kernel
theorem dX1_graftAt_59 : decode cX1_graftAt 59 = .ok (.getfield 25, 3) := by decide +kernel
theorem dX1_graftAt_62 : decode cX1_graftAt 62 = .ok (.iload_n 1, 1) := by decide +kernel
theorem dX1_graftAt_63 : decode cX1_graftAt 63 = .ok (.iaload, 1) := by decide +kernel
theorem dX1_graftAt_64 : decode cX1_graftAt 64 = .ok (.iconst 2, 1) := by decide +kernel
theorem dX1_graftAt_65 : decode cX1_graftAt 65 = .ok (.idiv, 1) := by decide +kernel
theorem dX1_graftAt_66 : decode cX1_graftAt 66 = .ok (.invokestatic 221, 3) := by decide +kernel
theorem dX1_graftAt_69 : decode cX1_graftAt 69 = .ok (.iastore, 1) := by decide +kernel
theorem dX1_graftAt_70 : decode cX1_graftAt 70 = .ok (.iconst 1, 1) := by decide +kernel
theorem dX1_graftAt_71 : decode cX1_graftAt 71 = .ok (.ireturn, 1) := by decide +kernel
set_option maxRecDepth 20000 in
theorem ggX1_fellAt_X1_hasTree : GoodIn wsX1_fellAt wsX1_hasTree := goodIn_r _ [9, 1, 22, 23, 24, 25, 26, 27, 28, 29, 30, 31, 32, 33, 34] (by decide +kernel) (by decide +kernel)
set_option maxRecDepth 20000 in
theorem gX1_fellAt_X1_hasTree : GoodIn wsX1_fellAt (wsV RX1 121 RX1 yX1_hasTree wsX1_hasTree) := goodIn_app (goodIn_of _ (by decide +kernel)) ggX1_fellAt_X1_hasTree
set_option maxRecDepth 20000 in
theorem ggX1_fellAt_X1_canPay : GoodIn wsX1_fellAt wsX1_canPay := goodIn_r _ [13, 14, 15, 16, 8, 17, 22, 23, 24, 25, 26, 27, 28, 29, 30, 31, 32, 33, 34] (by decide +kernel) (by decide +kernel)
set_option maxRecDepth 20000 in
theorem gX1_fellAt_X1_canPay : GoodIn wsX1_fellAt (wsV RX1 205 RX1 yX1_canPay wsX1_canPay) := goodIn_app (goodIn_of _ (by decide +kernel)) ggX1_fellAt_X1_canPay
set_option maxRecDepth 20000 in
theorem ggX1_fellAt_X1_pay : GoodIn wsX1_fellAt wsX1_pay := goodIn_r _ [21, 14, 15, 16, 8, 17, 22, 23, 24, 25, 26, 27, 28, 29, 30, 31, 32, 33, 34] (by decide +kernel) (by decide +kernel)
set_option maxRecDepth 20000 in
theorem gX1_fellAt_X1_pay : GoodIn wsX1_fellAt (wsV RX1 208 RX1 yX1_pay wsX1_pay) := goodIn_app (goodIn_of _ (by decide +kernel)) ggX1_fellAt_X1_pay
theorem dX1_fellAt_0 : decode cX1_fellAt 0 = .ok (.aload_n 0, 1) := by decide +kernel
theorem dX1_fellAt_1 : decode cX1_fellAt 1 = .ok (.iload_n 1, 1) := by decide +kernel
theorem dX1_fellAt_2 : decode cX1_fellAt 2 = .ok (.invokevirtual 121, 3) := by decide +kernel
theorem dX1_fellAt_5 : decode cX1_fellAt 5 = .ok (.ifCond .eq 13, 3) := by decide +kernel
theorem dX1_fellAt_8 : decode cX1_fellAt 8 = .ok (.aload_n 0, 1) := by decide +kernel
theorem dX1_fellAt_9 : decode cX1_fellAt 9 = .ok (.iload_n 1, 1) := by decide +kernel
theorem dX1_fellAt_10 : decode cX1_fellAt 10 = .ok (.bipush 6, 2) := by decide +kernel
theorem dX1_fellAt_12 : decode cX1_fellAt 12 = .ok (.invokevirtual 205, 3) := by decide +kernel
theorem dX1_fellAt_15 : decode cX1_fellAt 15 = .ok (.ifCond .ne 5, 3) := by decide +kernel
theorem dX1_fellAt_18 : decode cX1_fellAt 18 = .ok (.iconst 0, 1) := by decide +kernel
theorem dX1_fellAt_19 : decode cX1_fellAt 19 = .ok (.ireturn, 1) := by decide +kernel
theorem dX1_fellAt_20 : decode cX1_fellAt 20 = .ok (.aload_n 0, 1) := by decide +kernel
theorem dX1_fellAt_21 : decode cX1_fellAt 21 = .ok (.iload_n 1, 1) := by decide +kernel
theorem dX1_fellAt_22 : decode cX1_fellAt 22 = .ok (.bipush 6, 2) := by decide +kernel
theorem dX1_fellAt_24 : decode cX1_fellAt 24 = .ok (.invokevirtual 208, 3) := by decide +kernel
theorem dX1_fellAt_27 : decode cX1_fellAt 27 = .ok (.aload_n 0, 1) := by decide +kernel
theorem dX1_fellAt_28 : decode cX1_fellAt 28 = .ok (.getfield 22, 3) := by decide +kernel
theorem dX1_fellAt_31 : decode cX1_fellAt 31 = .ok (.iload_n 1, 1) := by decide +kernel
theorem dX1_fellAt_32 : decode cX1_fellAt 32 = .ok (.iconst (-1), 1) := by decide +kernel
theorem dX1_fellAt_33 : decode cX1_fellAt 33 = .ok (.iastore, 1) := by decide +kernel
theorem dX1_fellAt_34 : decode cX1_fellAt 34 = .ok (.aload_n 0, 1) := by decide +kernel
theorem dX1_fellAt_35 : decode cX1_fellAt 35 = .ok (.getfield 25, 3) := by decide +kernel
theorem dX1_fellAt_38 : decode cX1_fellAt 38 = .ok (.iload_n 1, 1) := by decide +kernel
theorem dX1_fellAt_39 : decode cX1_fellAt 39 = .ok (.iconst 0, 1) := by decide +kernel
theorem dX1_fellAt_40 : decode cX1_fellAt 40 = .ok (.iastore, 1) := by decide +kernel
theorem dX1_fellAt_41 : decode cX1_fellAt 41 = .ok (.aload_n 0, 1) := by decide +kernel
theorem dX1_fellAt_42 : decode cX1_fellAt 42 = .ok (.getfield 28, 3) := by decide +kernel
theorem dX1_fellAt_45 : decode cX1_fellAt 45 = .ok (.iload_n 1, 1) := by decide +kernel
theorem dX1_fellAt_46 : decode cX1_fellAt 46 = .ok (.iconst 0, 1) := by decide +kernel
theorem dX1_fellAt_47 : decode cX1_fellAt 47 = .ok (.iastore, 1) := by decide +kernel
theorem dX1_fellAt_48 : decode cX1_fellAt 48 = .ok (.aload_n 0, 1) := by decide +kernel
theorem dX1_fellAt_49 : decode cX1_fellAt 49 = .ok (.getfield 31, 3) := by decide +kernel
theorem dX1_fellAt_52 : decode cX1_fellAt 52 = .ok (.iload_n 1, 1) := by decide +kernel
theorem dX1_fellAt_53 : decode cX1_fellAt 53 = .ok (.iconst 0, 1) := by decide +kernel
theorem dX1_fellAt_54 : decode cX1_fellAt 54 = .ok (.bastore, 1) := by decide +kernel
theorem dX1_fellAt_55 : decode cX1_fellAt 55 = .ok (.iconst 1, 1) := by decide +kernel
theorem dX1_fellAt_56 : decode cX1_fellAt 56 = .ok (.ireturn, 1) := by decide +kernel
theorem dX1_treesOfSort_0 : decode cX1_treesOfSort 0 = .ok (.iconst 0, 1) := by decide +kernel
theorem dX1_treesOfSort_1 : decode cX1_treesOfSort 1 = .ok (.istore_n 2, 1) := by decide +kernel
theorem dX1_treesOfSort_2 : decode cX1_treesOfSort 2 = .ok (.iconst 0, 1) := by decide +kernel
theorem dX1_treesOfSort_3 : decode cX1_treesOfSort 3 = .ok (.istore_n 3, 1) := by decide +kernel
theorem dX1_treesOfSort_4 : decode cX1_treesOfSort 4 = .ok (.iload_n 3, 1) := by decide +kernel
theorem dX1_treesOfSort_5 : decode cX1_treesOfSort 5 = .ok (.bipush 40, 2) := by decide +kernel
theorem dX1_treesOfSort_7 : decode cX1_treesOfSort 7 = .ok (.if_icmp .ge 27, 3) := by decide +kernel
theorem dX1_treesOfSort_10 : decode cX1_treesOfSort 10 = .ok (.iload_n 2, 1) := by decide +kernel
theorem dX1_treesOfSort_11 : decode cX1_treesOfSort 11 = .ok (.aload_n 0, 1) := by decide +kernel
theorem dX1_treesOfSort_12 : decode cX1_treesOfSort 12 = .ok (.getfield 22, 3) := by decide +kernel
theorem dX1_treesOfSort_15 : decode cX1_treesOfSort 15 = .ok (.iload_n 3, 1) := by decide +kernel
theorem dX1_treesOfSort_16 : decode cX1_treesOfSort 16 = .ok (.iaload, 1) := by decide +kernel
theorem dX1_treesOfSort_17 : decode cX1_treesOfSort 17 = .ok (.iload_n 1, 1) := by decide +kernel
theorem dX1_treesOfSort_18 : decode cX1_treesOfSort 18 = .ok (.if_icmp .ne 7, 3) := by decide +kernel
theorem dX1_treesOfSort_21 : decode cX1_treesOfSort 21 = .ok (.iconst 1, 1) := by decide +kernel
theorem dX1_treesOfSort_22 : decode cX1_treesOfSort 22 = .ok (.goto 4, 3) := by decide +kernel
theorem dX1_treesOfSort_25 : decode cX1_treesOfSort 25 = .ok (.iconst 0, 1) := by decide +kernel
theorem dX1_treesOfSort_26 : decode cX1_treesOfSort 26 = .ok (.iadd, 1) := by decide +kernel
theorem dX1_treesOfSort_27 : decode cX1_treesOfSort 27 = .ok (.istore_n 2, 1) := by decide +kernel
theorem dX1_treesOfSort_28 : decode cX1_treesOfSort 28 = .ok (.iinc 3 1, 3) := by decide +kernel
theorem dX1_treesOfSort_31 : decode cX1_treesOfSort 31 = .ok (.goto (-27), 3) := by decide +kernel
theorem dX1_treesOfSort_34 : decode cX1_treesOfSort 34 = .ok (.iload_n 2, 1) := by decide +kernel
theorem dX1_treesOfSort_35 : decode cX1_treesOfSort 35 = .ok (.ireturn, 1) := by decide +kernel
set_option maxRecDepth 20000 in
theorem ggX1_allTrees_X1_hasTree : GoodIn wsX1_allTrees wsX1_hasTree := goodIn_r _ [5, 6, 7, 8, 9, 10, 11, 12, 13, 14, 15, 16, 17, 18, 19] (by decide +kernel) (by decide +kernel)
set_option maxRecDepth 20000 in
theorem gX1_allTrees_X1_hasTree : GoodIn wsX1_allTrees (wsV RX1 121 RX1 yX1_hasTree wsX1_hasTree) := goodIn_app (goodIn_of _ (by decide +kernel)) ggX1_allTrees_X1_hasTree
theorem dX1_allTrees_0 : decode cX1_allTrees 0 = .ok (.iconst 0, 1) := by decide +kernel
theorem dX1_allTrees_1 : decode cX1_allTrees 1 = .ok (.istore_n 1, 1) := by decide +kernel
theorem dX1_allTrees_2 : decode cX1_allTrees 2 = .ok (.iconst 0, 1) := by decide +kernel
theorem dX1_allTrees_3 : decode cX1_allTrees 3 = .ok (.istore_n 2, 1) := by decide +kernel
theorem dX1_allTrees_4 : decode cX1_allTrees 4 = .ok (.iload_n 2, 1) := by decide +kernel
theorem dX1_allTrees_5 : decode cX1_allTrees 5 = .ok (.bipush 40, 2) := by decide +kernel
theorem dX1_allTrees_7 : decode cX1_allTrees 7 = .ok (.if_icmp .ge 25, 3) := by decide +kernel
theorem dX1_allTrees_10 : decode cX1_allTrees 10 = .ok (.iload_n 1, 1) := by decide +kernel
theorem dX1_allTrees_11 : decode cX1_allTrees 11 = .ok (.aload_n 0, 1) := by decide +kernel
theorem dX1_allTrees_12 : decode cX1_allTrees 12 = .ok (.iload_n 2, 1) := by decide +kernel
theorem dX1_allTrees_13 : decode cX1_allTrees 13 = .ok (.invokevirtual 121, 3) := by decide +kernel
theorem dX1_allTrees_16 : decode cX1_allTrees 16 = .ok (.ifCond .eq 7, 3) := by decide +kernel
theorem dX1_allTrees_19 : decode cX1_allTrees 19 = .ok (.iconst 1, 1) := by decide +kernel
theorem dX1_allTrees_20 : decode cX1_allTrees 20 = .ok (.goto 4, 3) := by decide +kernel
theorem dX1_allTrees_23 : decode cX1_allTrees 23 = .ok (.iconst 0, 1) := by decide +kernel
theorem dX1_allTrees_24 : decode cX1_allTrees 24 = .ok (.iadd, 1) := by decide +kernel
theorem dX1_allTrees_25 : decode cX1_allTrees 25 = .ok (.istore_n 1, 1) := by decide +kernel
theorem dX1_allTrees_26 : decode cX1_allTrees 26 = .ok (.iinc 2 1, 3) := by decide +kernel
theorem dX1_allTrees_29 : decode cX1_allTrees 29 = .ok (.goto (-25), 3) := by decide +kernel
theorem dX1_allTrees_32 : decode cX1_allTrees 32 = .ok (.iload_n 1, 1) := by decide +kernel
theorem dX1_allTrees_33 : decode cX1_allTrees 33 = .ok (.ireturn, 1) := by decide +kernel
theorem dX1_allTired_0 : decode cX1_allTired 0 = .ok (.iconst 0, 1) := by decide +kernel
theorem dX1_allTired_1 : decode cX1_allTired 1 = .ok (.istore_n 1, 1) := by decide +kernel
theorem dX1_allTired_2 : decode cX1_allTired 2 = .ok (.iconst 0, 1) := by decide +kernel
theorem dX1_allTired_3 : decode cX1_allTired 3 = .ok (.istore_n 2, 1) := by decide +kernel
theorem dX1_allTired_4 : decode cX1_allTired 4 = .ok (.iload_n 2, 1) := by decide +kernel
theorem dX1_allTired_5 : decode cX1_allTired 5 = .ok (.bipush 40, 2) := by decide +kernel
theorem dX1_allTired_7 : decode cX1_allTired 7 = .ok (.if_icmp .ge 26, 3) := by decide +kernel
theorem dX1_allTired_10 : decode cX1_allTired 10 = .ok (.iload_n 1, 1) := by decide +kernel
theorem dX1_allTired_11 : decode cX1_allTired 11 = .ok (.aload_n 0, 1) := by decide +kernel
theorem dX1_allTired_12 : decode cX1_allTired 12 = .ok (.getfield 31, 3) := by decide +kernel
theorem dX1_allTired_15 : decode cX1_allTired 15 = .ok (.iload_n 2, 1) := by decide +kernel
theorem dX1_allTired_16 : decode cX1_allTired 16 = .ok (.baload, 1) := by decide +kernel
theorem dX1_allTired_17 : decode cX1_allTired 17 = .ok (.ifCond .eq 7, 3) := by decide +kernel
theorem dX1_allTired_20 : decode cX1_allTired 20 = .ok (.iconst 1, 1) := by decide +kernel
theorem dX1_allTired_21 : decode cX1_allTired 21 = .ok (.goto 4, 3) := by decide +kernel
theorem dX1_allTired_24 : decode cX1_allTired 24 = .ok (.iconst 0, 1) := by decide +kernel
theorem dX1_allTired_25 : decode cX1_allTired 25 = .ok (.iadd, 1) := by decide +kernel
theorem dX1_allTired_26 : decode cX1_allTired 26 = .ok (.istore_n 1, 1) := by decide +kernel
theorem dX1_allTired_27 : decode cX1_allTired 27 = .ok (.iinc 2 1, 3) := by decide +kernel
theorem dX1_allTired_30 : decode cX1_allTired 30 = .ok (.goto (-26), 3) := by decide +kernel
theorem dX1_allTired_33 : decode cX1_allTired 33 = .ok (.iload_n 1, 1) := by decide +kernel
theorem dX1_allTired_34 : decode cX1_allTired 34 = .ok (.ireturn, 1) := by decide +kernel
theorem dX1_applesInBarn_0 : decode cX1_applesInBarn 0 = .ok (.iconst 0, 1) := by decide +kernel
theorem dX1_applesInBarn_1 : decode cX1_applesInBarn 1 = .ok (.istore_n 1, 1) := by decide +kernel
theorem dX1_applesInBarn_2 : decode cX1_applesInBarn 2 = .ok (.iconst 0, 1) := by decide +kernel
theorem dX1_applesInBarn_3 : decode cX1_applesInBarn 3 = .ok (.istore_n 2, 1) := by decide +kernel
theorem dX1_applesInBarn_4 : decode cX1_applesInBarn 4 = .ok (.iload_n 2, 1) := by decide +kernel
theorem dX1_applesInBarn_5 : decode cX1_applesInBarn 5 = .ok (.bipush 6, 2) := by decide +kernel
theorem dX1_applesInBarn_7 : decode cX1_applesInBarn 7 = .ok (.if_icmp .ge 18, 3) := by decide +kernel
theorem dX1_applesInBarn_10 : decode cX1_applesInBarn 10 = .ok (.iload_n 1, 1) := by decide +kernel
theorem dX1_applesInBarn_11 : decode cX1_applesInBarn 11 = .ok (.aload_n 0, 1) := by decide +kernel
theorem dX1_applesInBarn_12 : decode cX1_applesInBarn 12 = .ok (.getfield 16, 3) := by decide +kernel
theorem dX1_applesInBarn_15 : decode cX1_applesInBarn 15 = .ok (.iload_n 2, 1) := by decide +kernel
theorem dX1_applesInBarn_16 : decode cX1_applesInBarn 16 = .ok (.iaload, 1) := by decide +kernel
theorem dX1_applesInBarn_17 : decode cX1_applesInBarn 17 = .ok (.iadd, 1) := by decide +kernel
theorem dX1_applesInBarn_18 : decode cX1_applesInBarn 18 = .ok (.istore_n 1, 1) := by decide +kernel
theorem dX1_applesInBarn_19 : decode cX1_applesInBarn 19 = .ok (.iinc 2 1, 3) := by decide +kernel
theorem dX1_applesInBarn_22 : decode cX1_applesInBarn 22 = .ok (.goto (-18), 3) := by decide +kernel
theorem dX1_applesInBarn_25 : decode cX1_applesInBarn 25 = .ok (.iload_n 1, 1) := by decide +kernel
theorem dX1_applesInBarn_26 : decode cX1_applesInBarn 26 = .ok (.ireturn, 1) := by decide +kernel
theorem dX1_weightInBarn_0 : decode cX1_weightInBarn 0 = .ok (.iconst 0, 1) := by decide +kernel
theorem dX1_weightInBarn_1 : decode cX1_weightInBarn 1 = .ok (.istore_n 1, 1) := by decide +kernel
theorem dX1_weightInBarn_2 : decode cX1_weightInBarn 2 = .ok (.iconst 0, 1) := by decide +kernel
theorem dX1_weightInBarn_3 : decode cX1_weightInBarn 3 = .ok (.istore_n 2, 1) := by decide +kernel
theorem dX1_weightInBarn_4 : decode cX1_weightInBarn 4 = .ok (.iload_n 2, 1) := by decide +kernel
theorem dX1_weightInBarn_5 : decode cX1_weightInBarn 5 = .ok (.bipush 6, 2) := by decide +kernel
theorem dX1_weightInBarn_7 : decode cX1_weightInBarn 7 = .ok (.if_icmp .ge 25, 3) := by decide +kernel
theorem dX1_weightInBarn_10 : decode cX1_weightInBarn 10 = .ok (.iload_n 1, 1) := by decide +kernel
theorem dX1_weightInBarn_11 : decode cX1_weightInBarn 11 = .ok (.aload_n 0, 1) := by decide +kernel
theorem dX1_weightInBarn_12 : decode cX1_weightInBarn 12 = .ok (.getfield 16, 3) := by decide +kernel
theorem dX1_weightInBarn_15 : decode cX1_weightInBarn 15 = .ok (.iload_n 2, 1) := by decide +kernel
theorem dX1_weightInBarn_16 : decode cX1_weightInBarn 16 = .ok (.iaload, 1) := by decide +kernel
theorem dX1_weightInBarn_17 : decode cX1_weightInBarn 17 = .ok (.aload_n 0, 1) := by decide +kernel
theorem dX1_weightInBarn_18 : decode cX1_weightInBarn 18 = .ok (.getfield 9, 3) := by decide +kernel
theorem dX1_weightInBarn_21 : decode cX1_weightInBarn 21 = .ok (.iload_n 2, 1) := by decide +kernel
theorem dX1_weightInBarn_22 : decode cX1_weightInBarn 22 = .ok (.iaload, 1) := by decide +kernel
theorem dX1_weightInBarn_23 : decode cX1_weightInBarn 23 = .ok (.imul, 1) := by decide +kernel
theorem dX1_weightInBarn_24 : decode cX1_weightInBarn 24 = .ok (.iadd, 1) := by decide +kernel
theorem dX1_weightInBarn_25 : decode cX1_weightInBarn 25 = .ok (.istore_n 1, 1) := by decide +kernel
theorem dX1_weightInBarn_26 : decode cX1_weightInBarn 26 = .ok (.iinc 2 1, 3) := by decide +kernel
theorem dX1_weightInBarn_29 : decode cX1_weightInBarn 29 = .ok (.goto (-25), 3) := by decide +kernel
theorem dX1_weightInBarn_32 : decode cX1_weightInBarn 32 = .ok (.iload_n 1, 1) := by decide +kernel
theorem dX1_weightInBarn_33 : decode cX1_weightInBarn 33 = .ok (.ireturn, 1) := by decide +kernel
set_option maxRecDepth 20000 in
theorem ggX1_unlikePairs_X1_spotOf : GoodIn wsX1_unlikePairs wsX1_spotOf := goodIn_r _ [6] (by decide +kernel) (by decide +kernel)
set_option maxRecDepth 20000 in
theorem gX1_unlikePairs_X1_spotOf : GoodIn wsX1_unlikePairs (va_wsS RX1 93 yX1_spotOf wsX1_spotOf) := goodIn_app (goodIn_of _ (by decide +kernel)) ggX1_unlikePairs_X1_spotOf
set_option maxRecDepth 20000 in
theorem ggX1_unlikePairs_X1_mirrorOf : GoodIn wsX1_unlikePairs wsX1_mirrorOf := goodIn_r _ [9] (by decide +kernel) (by decide +kernel)
set_option maxRecDepth 20000 in
theorem gX1_unlikePairs_X1_mirrorOf : GoodIn wsX1_unlikePairs (va_wsS RX1 100 yX1_mirrorOf wsX1_mirrorOf) := goodIn_app (goodIn_of _ (by decide +kernel)) ggX1_unlikePairs_X1_mirrorOf
theorem dX1_unlikePairs_0 : decode cX1_unlikePairs 0 = .ok (.iconst 0, 1) := by decide +kernel
theorem dX1_unlikePairs_1 : decode cX1_unlikePairs 1 = .ok (.istore_n 1, 1) := by decide +kernel
theorem dX1_unlikePairs_2 : decode cX1_unlikePairs 2 = .ok (.iconst 0, 1) := by decide +kernel
theorem dX1_unlikePairs_3 : decode cX1_unlikePairs 3 = .ok (.istore_n 2, 1) := by decide +kernel
theorem dX1_unlikePairs_4 : decode cX1_unlikePairs 4 = .ok (.iload_n 2, 1) := by decide +kernel
theorem dX1_unlikePairs_5 : decode cX1_unlikePairs 5 = .ok (.iconst 5, 1) := by decide +kernel
theorem dX1_unlikePairs_6 : decode cX1_unlikePairs 6 = .ok (.if_icmp .ge 78, 3) := by decide +kernel
theorem dX1_unlikePairs_9 : decode cX1_unlikePairs 9 = .ok (.iconst 0, 1) := by decide +kernel
theorem dX1_unlikePairs_10 : decode cX1_unlikePairs 10 = .ok (.istore_n 3, 1) := by decide +kernel
theorem dX1_unlikePairs_11 : decode cX1_unlikePairs 11 = .ok (.iload_n 3, 1) := by decide +kernel
theorem dX1_unlikePairs_12 : decode cX1_unlikePairs 12 = .ok (.iconst 4, 1) := by decide +kernel
theorem dX1_unlikePairs_13 : decode cX1_unlikePairs 13 = .ok (.if_icmp .ge 65, 3) := by decide +kernel
theorem dX1_unlikePairs_16 : decode cX1_unlikePairs 16 = .ok (.iload_n 2, 1) := by decide +kernel
theorem dX1_unlikePairs_17 : decode cX1_unlikePairs 17 = .ok (.iload_n 3, 1) := by decide +kernel
theorem dX1_unlikePairs_18 : decode cX1_unlikePairs 18 = .ok (.invokestatic 93, 3) := by decide +kernel
theorem dX1_unlikePairs_21 : decode cX1_unlikePairs 21 = .ok (.istore 4, 2) := by decide +kernel
theorem dX1_unlikePairs_23 : decode cX1_unlikePairs 23 = .ok (.iload 4, 2) := by decide +kernel
theorem dX1_unlikePairs_25 : decode cX1_unlikePairs 25 = .ok (.invokestatic 100, 3) := by decide +kernel
theorem dX1_unlikePairs_28 : decode cX1_unlikePairs 28 = .ok (.istore 5, 2) := by decide +kernel
theorem dX1_unlikePairs_30 : decode cX1_unlikePairs 30 = .ok (.iload_n 1, 1) := by decide +kernel
theorem dX1_unlikePairs_31 : decode cX1_unlikePairs 31 = .ok (.aload_n 0, 1) := by decide +kernel
theorem dX1_unlikePairs_32 : decode cX1_unlikePairs 32 = .ok (.getfield 22, 3) := by decide +kernel
theorem dX1_unlikePairs_35 : decode cX1_unlikePairs 35 = .ok (.iload 4, 2) := by decide +kernel
theorem dX1_unlikePairs_37 : decode cX1_unlikePairs 37 = .ok (.iaload, 1) := by decide +kernel
theorem dX1_unlikePairs_38 : decode cX1_unlikePairs 38 = .ok (.aload_n 0, 1) := by decide +kernel
theorem dX1_unlikePairs_39 : decode cX1_unlikePairs 39 = .ok (.getfield 22, 3) := by decide +kernel
theorem dX1_unlikePairs_42 : decode cX1_unlikePairs 42 = .ok (.iload 5, 2) := by decide +kernel
theorem dX1_unlikePairs_44 : decode cX1_unlikePairs 44 = .ok (.iaload, 1) := by decide +kernel
theorem dX1_unlikePairs_45 : decode cX1_unlikePairs 45 = .ok (.if_icmp .ne 20, 3) := by decide +kernel
theorem dX1_unlikePairs_48 : decode cX1_unlikePairs 48 = .ok (.aload_n 0, 1) := by decide +kernel
theorem dX1_unlikePairs_49 : decode cX1_unlikePairs 49 = .ok (.getfield 25, 3) := by decide +kernel
theorem dX1_unlikePairs_52 : decode cX1_unlikePairs 52 = .ok (.iload 4, 2) := by decide +kernel
theorem dX1_unlikePairs_54 : decode cX1_unlikePairs 54 = .ok (.iaload, 1) := by decide +kernel
theorem dX1_unlikePairs_55 : decode cX1_unlikePairs 55 = .ok (.aload_n 0, 1) := by decide +kernel
theorem dX1_unlikePairs_56 : decode cX1_unlikePairs 56 = .ok (.getfield 25, 3) := by decide +kernel
theorem dX1_unlikePairs_59 : decode cX1_unlikePairs 59 = .ok (.iload 5, 2) := by decide +kernel
theorem dX1_unlikePairs_61 : decode cX1_unlikePairs 61 = .ok (.iaload, 1) := by decide +kernel
theorem dX1_unlikePairs_62 : decode cX1_unlikePairs 62 = .ok (.if_icmp .eq 7, 3) := by decide +kernel
theorem dX1_unlikePairs_65 : decode cX1_unlikePairs 65 = .ok (.iconst 1, 1) := by decide +kernel
theorem dX1_unlikePairs_66 : decode cX1_unlikePairs 66 = .ok (.goto 4, 3) := by decide +kernel
theorem dX1_unlikePairs_69 : decode cX1_unlikePairs 69 = .ok (.iconst 0, 1) := by decide +kernel
theorem dX1_unlikePairs_70 : decode cX1_unlikePairs 70 = .ok (.iadd, 1) := by decide +kernel
theorem dX1_unlikePairs_71 : decode cX1_unlikePairs 71 = .ok (.istore_n 1, 1) := by decide +kernel
theorem dX1_unlikePairs_72 : decode cX1_unlikePairs 72 = .ok (.iinc 3 1, 3) := by decide +kernel
theorem dX1_unlikePairs_75 : decode cX1_unlikePairs 75 = .ok (.goto (-64), 3) := by decide +kernel
theorem dX1_unlikePairs_78 : decode cX1_unlikePairs 78 = .ok (.iinc 2 1, 3) := by decide +kernel
theorem dX1_unlikePairs_81 : decode cX1_unlikePairs 81 = .ok (.goto (-77), 3) := by decide +kernel
theorem dX1_unlikePairs_84 : decode cX1_unlikePairs 84 = .ok (.iload_n 1, 1) := by decide +kernel
theorem dX1_unlikePairs_85 : decode cX1_unlikePairs 85 = .ok (.ireturn, 1) := by decide +kernel
theorem dX1_balancedApples_0 : decode cX1_balancedApples 0 = .ok (.iconst 0, 1) := by decide +kernel
theorem dX1_balancedApples_1 : decode cX1_balancedApples 1 = .ok (.aload_n 0, 1) := by decide +kernel
theorem dX1_balancedApples_2 : decode cX1_balancedApples 2 = .ok (.getfield 16, 3) := by decide +kernel
theorem dX1_balancedApples_5 : decode cX1_balancedApples 5 = .ok (.iload_n 1, 1) := by decide +kernel
theorem dX1_balancedApples_6 : decode cX1_balancedApples 6 = .ok (.iaload, 1) := by decide +kernel
theorem dX1_balancedApples_7 : decode cX1_balancedApples 7 = .ok (.bipush 20, 2) := by decide +kernel
theorem dX1_balancedApples_9 : decode cX1_balancedApples 9 = .ok (.invokestatic 226, 3) := by decide +kernel
theorem dX1_balancedApples_12 : decode cX1_balancedApples 12 = .ok (.invokestatic 221, 3) := by decide +kernel
theorem dX1_balancedApples_15 : decode cX1_balancedApples 15 = .ok (.ireturn, 1) := by decide +kernel
set_option maxRecDepth 20000 in
theorem ggX1_heaviestUpTo_J7_fill_53178 : GoodIn wsX1_heaviestUpTo wsJ7_fill_53178 := goodIn_r _ [10] (by decide +kernel) (by decide +kernel)
set_option maxRecDepth 20000 in
theorem gX1_heaviestUpTo_J7_fill_53178 : GoodIn wsX1_heaviestUpTo (va_wsS RX1 55 yJ7_fill_53178 wsJ7_fill_53178) := goodIn_app (goodIn_of _ (by decide +kernel)) ggX1_heaviestUpTo_J7_fill_53178
set_option maxRecDepth 20000 in
theorem ggX1_heaviestUpTo_X1_balancedApples : GoodIn wsX1_heaviestUpTo wsX1_balancedApples := goodIn_r _ [15, 16, 3, 4, 5, 6, 17, 18, 19, 24, 25, 26, 27, 28, 29, 30, 31, 32, 33, 34, 35, 36] (by decide +kernel) (by decide +kernel)
set_option maxRecDepth 20000 in
theorem gX1_heaviestUpTo_X1_balancedApples : GoodIn wsX1_heaviestUpTo (wsV RX1 159 RX1 yX1_balancedApples wsX1_balancedApples) := goodIn_app (goodIn_of _ (by decide +kernel)) ggX1_heaviestUpTo_X1_balancedApples
set_option maxRecDepth 20000 in
theorem ggX1_heaviestUpTo_X1_reachWithSort : GoodIn wsX1_heaviestUpTo wsX1_reachWithSort := goodIn_r _ [23, 1, 24, 25, 26, 27, 28, 29, 30, 31, 32, 33, 34, 35, 36] (by decide +kernel) (by decide +kernel)
set_option maxRecDepth 20000 in
theorem gX1_heaviestUpTo_X1_reachWithSort : GoodIn wsX1_heaviestUpTo (wsV RX1 229 RX1 yX1_reachWithSort wsX1_reachWithSort) := goodIn_app (goodIn_of _ (by decide +kernel)) ggX1_heaviestUpTo_X1_reachWithSort
theorem dX1_heaviestUpTo_0 : decode cX1_heaviestUpTo 0 = .ok (.aload_n 0, 1) := by decide +kernel
theorem dX1_heaviestUpTo_1 : decode cX1_heaviestUpTo 1 = .ok (.getfield 52, 3) := by decide +kernel
theorem dX1_heaviestUpTo_4 : decode cX1_heaviestUpTo 4 = .ok (.iconst (-1), 1) := by decide +kernel
theorem dX1_heaviestUpTo_5 : decode cX1_heaviestUpTo 5 = .ok (.invokestatic 55, 3) := by decide +kernel
theorem dX1_heaviestUpTo_8 : decode cX1_heaviestUpTo 8 = .ok (.aload_n 0, 1) := by decide +kernel
theorem dX1_heaviestUpTo_9 : decode cX1_heaviestUpTo 9 = .ok (.getfield 52, 3) := by decide +kernel
theorem dX1_heaviestUpTo_12 : decode cX1_heaviestUpTo 12 = .ok (.iconst 0, 1) := by decide +kernel
theorem dX1_heaviestUpTo_13 : decode cX1_heaviestUpTo 13 = .ok (.iconst 0, 1) := by decide +kernel
theorem dX1_heaviestUpTo_14 : decode cX1_heaviestUpTo 14 = .ok (.iastore, 1) := by decide +kernel
theorem dX1_heaviestUpTo_15 : decode cX1_heaviestUpTo 15 = .ok (.iconst 0, 1) := by decide +kernel
theorem dX1_heaviestUpTo_16 : decode cX1_heaviestUpTo 16 = .ok (.istore_n 2, 1) := by decide +kernel
theorem dX1_heaviestUpTo_17 : decode cX1_heaviestUpTo 17 = .ok (.iload_n 2, 1) := by decide +kernel
theorem dX1_heaviestUpTo_18 : decode cX1_heaviestUpTo 18 = .ok (.bipush 6, 2) := by decide +kernel
theorem dX1_heaviestUpTo_20 : decode cX1_heaviestUpTo 20 = .ok (.if_icmp .ge 24, 3) := by decide +kernel
theorem dX1_heaviestUpTo_23 : decode cX1_heaviestUpTo 23 = .ok (.aload_n 0, 1) := by decide +kernel
theorem dX1_heaviestUpTo_24 : decode cX1_heaviestUpTo 24 = .ok (.aload_n 0, 1) := by decide +kernel
theorem dX1_heaviestUpTo_25 : decode cX1_heaviestUpTo 25 = .ok (.getfield 9, 3) := by decide +kernel
theorem dX1_heaviestUpTo_28 : decode cX1_heaviestUpTo 28 = .ok (.iload_n 2, 1) := by decide +kernel
theorem dX1_heaviestUpTo_29 : decode cX1_heaviestUpTo 29 = .ok (.iaload, 1) := by decide +kernel
theorem dX1_heaviestUpTo_30 : decode cX1_heaviestUpTo 30 = .ok (.aload_n 0, 1) := by decide +kernel
theorem dX1_heaviestUpTo_31 : decode cX1_heaviestUpTo 31 = .ok (.iload_n 2, 1) := by decide +kernel
theorem dX1_heaviestUpTo_32 : decode cX1_heaviestUpTo 32 = .ok (.invokevirtual 159, 3) := by decide +kernel
theorem dX1_heaviestUpTo_35 : decode cX1_heaviestUpTo 35 = .ok (.invokevirtual 229, 3) := by decide +kernel
theorem dX1_heaviestUpTo_38 : decode cX1_heaviestUpTo 38 = .ok (.iinc 2 1, 3) := by decide +kernel
theorem dX1_heaviestUpTo_41 : decode cX1_heaviestUpTo 41 = .ok (.goto (-24), 3) := by decide +kernel
theorem dX1_heaviestUpTo_44 : decode cX1_heaviestUpTo 44 = .ok (.iload_n 1, 1) := by decide +kernel
theorem dX1_heaviestUpTo_45 : decode cX1_heaviestUpTo 45 = .ok (.sipush 540, 3) := by decide +kernel
theorem dX1_heaviestUpTo_48 : decode cX1_heaviestUpTo 48 = .ok (.invokestatic 226, 3) := by decide +kernel
theorem dX1_heaviestUpTo_51 : decode cX1_heaviestUpTo 51 = .ok (.istore_n 2, 1) := by decide +kernel
theorem dX1_heaviestUpTo_52 : decode cX1_heaviestUpTo 52 = .ok (.iload_n 2, 1) := by decide +kernel
theorem dX1_heaviestUpTo_53 : decode cX1_heaviestUpTo 53 = .ok (.ifCond .le 19, 3) := by decide +kernel
theorem dX1_heaviestUpTo_56 : decode cX1_heaviestUpTo 56 = .ok (.aload_n 0, 1) := by decide +kernel
theorem dX1_heaviestUpTo_57 : decode cX1_heaviestUpTo 57 = .ok (.getfield 52, 3) := by decide +kernel
theorem dX1_heaviestUpTo_60 : decode cX1_heaviestUpTo 60 = .ok (.iload_n 2, 1) := by decide +kernel
theorem dX1_heaviestUpTo_61 : decode cX1_heaviestUpTo 61 = .ok (.iaload, 1) := by decide +kernel
theorem dX1_heaviestUpTo_62 : decode cX1_heaviestUpTo 62 = .ok (.iconst (-1), 1) := by decide +kernel
theorem dX1_heaviestUpTo_63 : decode cX1_heaviestUpTo 63 = .ok (.if_icmp .ne 9, 3) := by decide +kernel
theorem dX1_heaviestUpTo_66 : decode cX1_heaviestUpTo 66 = .ok (.iinc 2 (-1), 3) := by decide +kernel
theorem dX1_heaviestUpTo_69 : decode cX1_heaviestUpTo 69 = .ok (.goto (-17), 3) := by decide +kernel
theorem dX1_heaviestUpTo_72 : decode cX1_heaviestUpTo 72 = .ok (.iload_n 2, 1) := by decide +kernel
theorem dX1_heaviestUpTo_73 : decode cX1_heaviestUpTo 73 = .ok (.ireturn, 1) := by decide +kernel
theorem dX1_reachWithSort_0 : decode cX1_reachWithSort 0 = .ok (.iconst 0, 1) := by decide +kernel
theorem dX1_reachWithSort_1 : decode cX1_reachWithSort 1 = .ok (.istore_n 3, 1) := by decide +kernel
theorem dX1_reachWithSort_2 : decode cX1_reachWithSort 2 = .ok (.iload_n 3, 1) := by decide +kernel
theorem dX1_reachWithSort_3 : decode cX1_reachWithSort 3 = .ok (.sipush 540, 3) := by decide +kernel
theorem dX1_reachWithSort_6 : decode cX1_reachWithSort 6 = .ok (.if_icmp .gt 66, 3) := by decide +kernel
theorem dX1_reachWithSort_9 : decode cX1_reachWithSort 9 = .ok (.aload_n 0, 1) := by decide +kernel
theorem dX1_reachWithSort_10 : decode cX1_reachWithSort 10 = .ok (.getfield 52, 3) := by decide +kernel
theorem dX1_reachWithSort_13 : decode cX1_reachWithSort 13 = .ok (.iload_n 3, 1) := by decide +kernel
theorem dX1_reachWithSort_14 : decode cX1_reachWithSort 14 = .ok (.iaload, 1) := by decide +kernel
theorem dX1_reachWithSort_15 : decode cX1_reachWithSort 15 = .ok (.iconst (-1), 1) := by decide +kernel
theorem dX1_reachWithSort_16 : decode cX1_reachWithSort 16 = .ok (.if_icmp .eq 13, 3) := by decide +kernel
theorem dX1_reachWithSort_19 : decode cX1_reachWithSort 19 = .ok (.aload_n 0, 1) := by decide +kernel
theorem dX1_reachWithSort_20 : decode cX1_reachWithSort 20 = .ok (.getfield 52, 3) := by decide +kernel
theorem dX1_reachWithSort_23 : decode cX1_reachWithSort 23 = .ok (.iload_n 3, 1) := by decide +kernel
theorem dX1_reachWithSort_24 : decode cX1_reachWithSort 24 = .ok (.iconst 0, 1) := by decide +kernel
theorem dX1_reachWithSort_25 : decode cX1_reachWithSort 25 = .ok (.iastore, 1) := by decide +kernel
theorem dX1_reachWithSort_26 : decode cX1_reachWithSort 26 = .ok (.goto 40, 3) := by decide +kernel
theorem dX1_reachWithSort_29 : decode cX1_reachWithSort 29 = .ok (.iload_n 3, 1) := by decide +kernel
theorem dX1_reachWithSort_30 : decode cX1_reachWithSort 30 = .ok (.iload_n 1, 1) := by decide +kernel
theorem dX1_reachWithSort_31 : decode cX1_reachWithSort 31 = .ok (.if_icmp .lt 35, 3) := by decide +kernel
theorem dX1_reachWithSort_34 : decode cX1_reachWithSort 34 = .ok (.aload_n 0, 1) := by decide +kernel
theorem dX1_reachWithSort_35 : decode cX1_reachWithSort 35 = .ok (.getfield 52, 3) := by decide +kernel
theorem dX1_reachWithSort_38 : decode cX1_reachWithSort 38 = .ok (.iload_n 3, 1) := by decide +kernel
theorem dX1_reachWithSort_39 : decode cX1_reachWithSort 39 = .ok (.iload_n 1, 1) := by decide +kernel
theorem dX1_reachWithSort_40 : decode cX1_reachWithSort 40 = .ok (.isub, 1) := by decide +kernel
theorem dX1_reachWithSort_41 : decode cX1_reachWithSort 41 = .ok (.iaload, 1) := by decide +kernel
theorem dX1_reachWithSort_42 : decode cX1_reachWithSort 42 = .ok (.istore 4, 2) := by decide +kernel
theorem dX1_reachWithSort_44 : decode cX1_reachWithSort 44 = .ok (.iload 4, 2) := by decide +kernel
theorem dX1_reachWithSort_46 : decode cX1_reachWithSort 46 = .ok (.iconst (-1), 1) := by decide +kernel
theorem dX1_reachWithSort_47 : decode cX1_reachWithSort 47 = .ok (.if_icmp .eq 19, 3) := by decide +kernel
theorem dX1_reachWithSort_50 : decode cX1_reachWithSort 50 = .ok (.iload 4, 2) := by decide +kernel
theorem dX1_reachWithSort_52 : decode cX1_reachWithSort 52 = .ok (.iload_n 2, 1) := by decide +kernel
theorem dX1_reachWithSort_53 : decode cX1_reachWithSort 53 = .ok (.if_icmp .ge 13, 3) := by decide +kernel
theorem dX1_reachWithSort_56 : decode cX1_reachWithSort 56 = .ok (.aload_n 0, 1) := by decide +kernel
theorem dX1_reachWithSort_57 : decode cX1_reachWithSort 57 = .ok (.getfield 52, 3) := by decide +kernel
theorem dX1_reachWithSort_60 : decode cX1_reachWithSort 60 = .ok (.iload_n 3, 1) := by decide +kernel
theorem dX1_reachWithSort_61 : decode cX1_reachWithSort 61 = .ok (.iload 4, 2) := by decide +kernel
theorem dX1_reachWithSort_63 : decode cX1_reachWithSort 63 = .ok (.iconst 1, 1) := by decide +kernel
theorem dX1_reachWithSort_64 : decode cX1_reachWithSort 64 = .ok (.iadd, 1) := by decide +kernel
theorem dX1_reachWithSort_65 : decode cX1_reachWithSort 65 = .ok (.iastore, 1) := by decide +kernel
theorem dX1_reachWithSort_66 : decode cX1_reachWithSort 66 = .ok (.iinc 3 1, 3) := by decide +kernel
theorem dX1_reachWithSort_69 : decode cX1_reachWithSort 69 = .ok (.goto (-67), 3) := by decide +kernel
theorem dX1_reachWithSort_72 : decode cX1_reachWithSort 72 = .ok (.return_, 1) := by decide +kernel
set_option maxRecDepth 20000 in
theorem ggX1_lookAt_X1_hasTree : GoodIn wsX1_lookAt wsX1_hasTree := goodIn_r _ [11, 6, 12, 13, 14, 15, 16, 17, 18, 19, 20, 21, 22, 23, 24] (by decide +kernel) (by decide +kernel)
set_option maxRecDepth 20000 in
theorem gX1_lookAt_X1_hasTree : GoodIn wsX1_lookAt (wsV RX1 121 RX1 yX1_hasTree wsX1_hasTree) := goodIn_app (goodIn_of _ (by decide +kernel)) ggX1_lookAt_X1_hasTree
theorem dX1_lookAt_0 : decode cX1_lookAt 0 = .ok (.aload_n 0, 1) := by decide +kernel
theorem dX1_lookAt_1 : decode cX1_lookAt 1 = .ok (.getfield 48, 3) := by decide +kernel
theorem dX1_lookAt_4 : decode cX1_lookAt 4 = .ok (.aload_n 0, 1) := by decide +kernel
theorem dX1_lookAt_5 : decode cX1_lookAt 5 = .ok (.getfield 28, 3) := by decide +kernel
theorem dX1_lookAt_8 : decode cX1_lookAt 8 = .ok (.iload_n 1, 1) := by decide +kernel
theorem dX1_lookAt_9 : decode cX1_lookAt 9 = .ok (.iaload, 1) := by decide +kernel
theorem dX1_lookAt_10 : decode cX1_lookAt 10 = .ok (.putfield 232, 3) := by decide +kernel
theorem dX1_lookAt_13 : decode cX1_lookAt 13 = .ok (.aload_n 0, 1) := by decide +kernel
theorem dX1_lookAt_14 : decode cX1_lookAt 14 = .ok (.getfield 48, 3) := by decide +kernel
theorem dX1_lookAt_17 : decode cX1_lookAt 17 = .ok (.aload_n 0, 1) := by decide +kernel
theorem dX1_lookAt_18 : decode cX1_lookAt 18 = .ok (.getfield 25, 3) := by decide +kernel
theorem dX1_lookAt_21 : decode cX1_lookAt 21 = .ok (.iload_n 1, 1) := by decide +kernel
theorem dX1_lookAt_22 : decode cX1_lookAt 22 = .ok (.iaload, 1) := by decide +kernel
theorem dX1_lookAt_23 : decode cX1_lookAt 23 = .ok (.putfield 177, 3) := by decide +kernel
theorem dX1_lookAt_26 : decode cX1_lookAt 26 = .ok (.aload_n 0, 1) := by decide +kernel
theorem dX1_lookAt_27 : decode cX1_lookAt 27 = .ok (.getfield 48, 3) := by decide +kernel
theorem dX1_lookAt_30 : decode cX1_lookAt 30 = .ok (.aload_n 0, 1) := by decide +kernel
theorem dX1_lookAt_31 : decode cX1_lookAt 31 = .ok (.getfield 31, 3) := by decide +kernel
theorem dX1_lookAt_34 : decode cX1_lookAt 34 = .ok (.iload_n 1, 1) := by decide +kernel
theorem dX1_lookAt_35 : decode cX1_lookAt 35 = .ok (.baload, 1) := by decide +kernel
theorem dX1_lookAt_36 : decode cX1_lookAt 36 = .ok (.putfield 179, 3) := by decide +kernel
theorem dX1_lookAt_39 : decode cX1_lookAt 39 = .ok (.aload_n 0, 1) := by decide +kernel
theorem dX1_lookAt_40 : decode cX1_lookAt 40 = .ok (.getfield 48, 3) := by decide +kernel
theorem dX1_lookAt_43 : decode cX1_lookAt 43 = .ok (.aload_n 0, 1) := by decide +kernel
theorem dX1_lookAt_44 : decode cX1_lookAt 44 = .ok (.iload_n 1, 1) := by decide +kernel
theorem dX1_lookAt_45 : decode cX1_lookAt 45 = .ok (.invokevirtual 121, 3) := by decide +kernel
theorem dX1_lookAt_48 : decode cX1_lookAt 48 = .ok (.ifCond .eq 17, 3) := by decide +kernel
theorem dX1_lookAt_51 : decode cX1_lookAt 51 = .ok (.aload_n 0, 1) := by decide +kernel
theorem dX1_lookAt_52 : decode cX1_lookAt 52 = .ok (.getfield 13, 3) := by decide +kernel
theorem dX1_lookAt_55 : decode cX1_lookAt 55 = .ok (.aload_n 0, 1) := by decide +kernel
theorem dX1_lookAt_56 : decode cX1_lookAt 56 = .ok (.getfield 22, 3) := by decide +kernel
theorem dX1_lookAt_59 : decode cX1_lookAt 59 = .ok (.iload_n 1, 1) := by decide +kernel
theorem dX1_lookAt_60 : decode cX1_lookAt 60 = .ok (.iaload, 1) := by decide +kernel
theorem dX1_lookAt_61 : decode cX1_lookAt 61 = .ok (.iaload, 1) := by decide +kernel
theorem dX1_lookAt_62 : decode cX1_lookAt 62 = .ok (.goto 4, 3) := by decide +kernel
theorem dX1_lookAt_65 : decode cX1_lookAt 65 = .ok (.iconst 0, 1) := by decide +kernel
theorem dX1_lookAt_66 : decode cX1_lookAt 66 = .ok (.putfield 235, 3) := by decide +kernel
theorem dX1_lookAt_69 : decode cX1_lookAt 69 = .ok (.return_, 1) := by decide +kernel
theorem dX1_keepLooked_0 : decode cX1_keepLooked 0 = .ok (.aload_n 0, 1) := by decide +kernel
theorem dX1_keepLooked_1 : decode cX1_keepLooked 1 = .ok (.getfield 25, 3) := by decide +kernel
theorem dX1_keepLooked_4 : decode cX1_keepLooked 4 = .ok (.iload_n 1, 1) := by decide +kernel
theorem dX1_keepLooked_5 : decode cX1_keepLooked 5 = .ok (.aload_n 0, 1) := by decide +kernel
theorem dX1_keepLooked_6 : decode cX1_keepLooked 6 = .ok (.getfield 48, 3) := by decide +kernel
theorem dX1_keepLooked_9 : decode cX1_keepLooked 9 = .ok (.getfield 177, 3) := by decide +kernel
theorem dX1_keepLooked_12 : decode cX1_keepLooked 12 = .ok (.iastore, 1) := by decide +kernel
theorem dX1_keepLooked_13 : decode cX1_keepLooked 13 = .ok (.aload_n 0, 1) := by decide +kernel
theorem dX1_keepLooked_14 : decode cX1_keepLooked 14 = .ok (.getfield 31, 3) := by decide +kernel
theorem dX1_keepLooked_17 : decode cX1_keepLooked 17 = .ok (.iload_n 1, 1) := by decide +kernel
theorem dX1_keepLooked_18 : decode cX1_keepLooked 18 = .ok (.aload_n 0, 1) := by decide +kernel
theorem dX1_keepLooked_19 : decode cX1_keepLooked 19 = .ok (.getfield 48, 3) := by decide +kernel
theorem dX1_keepLooked_22 : decode cX1_keepLooked 22 = .ok (.getfield 179, 3) := by decide +kernel
theorem dX1_keepLooked_25 : decode cX1_keepLooked 25 = .ok (.bastore, 1) := by decide +kernel
theorem dX1_keepLooked_26 : decode cX1_keepLooked 26 = .ok (.return_, 1) := by decide +kernel
set_option maxRecDepth 20000 in
theorem ggX1_applesNow_X1_lookAt : GoodIn wsX1_applesNow wsX1_lookAt := goodIn_r _ [6, 1, 7, 8, 9, 10, 11, 12, 13, 14, 5, 15, 23, 24, 25, 26, 27, 28, 29, 30, 31, 32, 33, 34, 35, 36, 37, 38, 39] (by decide +kernel) (by decide +kernel)
set_option maxRecDepth 20000 in
theorem gX1_applesNow_X1_lookAt : GoodIn wsX1_applesNow (wsV RX1 170 RX1 yX1_lookAt wsX1_lookAt) := goodIn_app (goodIn_of _ (by decide +kernel)) ggX1_applesNow_X1_lookAt
set_option maxRecDepth 20000 in
theorem ggX1_applesNow_X0_apples : GoodIn wsX1_applesNow wsX0_apples := goodIn_r _ [19, 20, 21, 22, 36, 37, 38, 39] (by decide +kernel) (by decide +kernel)
set_option maxRecDepth 20000 in
theorem gX1_applesNow_X0_apples_n237 : GoodIn wsX1_applesNow (wsX0_apples) := ggX1_applesNow_X0_apples
theorem dX1_applesNow_0 : decode cX1_applesNow 0 = .ok (.aload_n 0, 1) := by decide +kernel
theorem dX1_applesNow_1 : decode cX1_applesNow 1 = .ok (.iload_n 1, 1) := by decide +kernel
theorem dX1_applesNow_2 : decode cX1_applesNow 2 = .ok (.invokevirtual 170, 3) := by decide +kernel
theorem dX1_applesNow_5 : decode cX1_applesNow 5 = .ok (.aload_n 0, 1) := by decide +kernel
theorem dX1_applesNow_6 : decode cX1_applesNow 6 = .ok (.getfield 48, 3) := by decide +kernel
theorem dX1_applesNow_9 : decode cX1_applesNow 9 = .ok (.invokevirtual 237, 3) := by decide +kernel
theorem dX1_applesNow_12 : decode cX1_applesNow 12 = .ok (.ireturn, 1) := by decide +kernel
set_option maxRecDepth 20000 in
theorem ggX1_liveLooked_J9_floorMod_7cf53 : GoodIn wsX1_liveLooked wsJ9_floorMod_7cf53 := goodIn_r _ [7] (by decide +kernel) (by decide +kernel)
set_option maxRecDepth 20000 in
theorem gX1_liveLooked_J9_floorMod_7cf53 : GoodIn wsX1_liveLooked (va_wsS RX1 240 yJ9_floorMod_7cf53 wsJ9_floorMod_7cf53) := goodIn_app (goodIn_of _ (by decide +kernel)) ggX1_liveLooked_J9_floorMod_7cf53
set_option maxRecDepth 20000 in
theorem ggX1_liveLooked_X0_liveYear : GoodIn wsX1_liveLooked wsX0_liveYear := goodIn_r _ [11, 12, 13, 14, 15, 9, 16, 17, 18, 19, 20, 21, 22, 23, 24, 25, 26, 27, 28, 29, 30, 31, 32, 33, 34, 48, 49, 50, 51] (by decide +kernel) (by decide +kernel)
set_option maxRecDepth 20000 in
theorem gX1_liveLooked_X0_liveYear_n243 : GoodIn wsX1_liveLooked (wsX0_liveYear) := ggX1_liveLooked_X0_liveYear
theorem dX1_liveLooked_0 : decode cX1_liveLooked 0 = .ok (.iconst 0, 1) := by decide +kernel
theorem dX1_liveLooked_1 : decode cX1_liveLooked 1 = .ok (.istore_n 2, 1) := by decide +kernel
theorem dX1_liveLooked_2 : decode cX1_liveLooked 2 = .ok (.iconst 0, 1) := by decide +kernel
theorem dX1_liveLooked_3 : decode cX1_liveLooked 3 = .ok (.istore_n 3, 1) := by decide +kernel
theorem dX1_liveLooked_4 : decode cX1_liveLooked 4 = .ok (.iload_n 3, 1) := by decide +kernel
theorem dX1_liveLooked_5 : decode cX1_liveLooked 5 = .ok (.iload_n 1, 1) := by decide +kernel
theorem dX1_liveLooked_6 : decode cX1_liveLooked 6 = .ok (.if_icmp .ge 35, 3) := by decide +kernel
theorem dX1_liveLooked_9 : decode cX1_liveLooked 9 = .ok (.iload_n 2, 1) := by decide +kernel
theorem dX1_liveLooked_10 : decode cX1_liveLooked 10 = .ok (.aload_n 0, 1) := by decide +kernel
theorem dX1_liveLooked_11 : decode cX1_liveLooked 11 = .ok (.getfield 48, 3) := by decide +kernel
theorem dX1_liveLooked_14 : decode cX1_liveLooked 14 = .ok (.aload_n 0, 1) := by decide +kernel
theorem dX1_liveLooked_15 : decode cX1_liveLooked 15 = .ok (.getfield 19, 3) := by decide +kernel
theorem dX1_liveLooked_18 : decode cX1_liveLooked 18 = .ok (.aload_n 0, 1) := by decide +kernel
theorem dX1_liveLooked_19 : decode cX1_liveLooked 19 = .ok (.getfield 38, 3) := by decide +kernel
theorem dX1_liveLooked_22 : decode cX1_liveLooked 22 = .ok (.iload_n 3, 1) := by decide +kernel
theorem dX1_liveLooked_23 : decode cX1_liveLooked 23 = .ok (.iadd, 1) := by decide +kernel
theorem dX1_liveLooked_24 : decode cX1_liveLooked 24 = .ok (.bipush 10, 2) := by decide +kernel
theorem dX1_liveLooked_26 : decode cX1_liveLooked 26 = .ok (.invokestatic 240, 3) := by decide +kernel
theorem dX1_liveLooked_29 : decode cX1_liveLooked 29 = .ok (.iaload, 1) := by decide +kernel
theorem dX1_liveLooked_30 : decode cX1_liveLooked 30 = .ok (.invokevirtual 243, 3) := by decide +kernel
theorem dX1_liveLooked_33 : decode cX1_liveLooked 33 = .ok (.iadd, 1) := by decide +kernel
theorem dX1_liveLooked_34 : decode cX1_liveLooked 34 = .ok (.istore_n 2, 1) := by decide +kernel
theorem dX1_liveLooked_35 : decode cX1_liveLooked 35 = .ok (.iinc 3 1, 3) := by decide +kernel
theorem dX1_liveLooked_38 : decode cX1_liveLooked 38 = .ok (.goto (-34), 3) := by decide +kernel
theorem dX1_liveLooked_41 : decode cX1_liveLooked 41 = .ok (.iload_n 2, 1) := by decide +kernel
theorem dX1_liveLooked_42 : decode cX1_liveLooked 42 = .ok (.ireturn, 1) := by decide +kernel
set_option maxRecDepth 20000 in
theorem ggX1_passAt_X1_lookAt : GoodIn wsX1_passAt wsX1_lookAt := goodIn_r _ [7, 8, 9, 10, 11, 12, 2, 13, 14, 15, 6, 16, 58, 59, 60, 61, 62, 63, 64, 65, 66, 67, 68, 69, 70, 71, 72, 73, 74] (by decide +kernel) (by decide +kernel)
set_option maxRecDepth 20000 in
theorem gX1_passAt_X1_lookAt : GoodIn wsX1_passAt (wsV RX1 170 RX1 yX1_lookAt wsX1_lookAt) := goodIn_app (goodIn_of _ (by decide +kernel)) ggX1_passAt_X1_lookAt
set_option maxRecDepth 20000 in
theorem ggX1_passAt_X1_liveLooked : GoodIn wsX1_passAt wsX1_liveLooked := goodIn_r _ [20, 8, 21, 22, 23, 24, 25, 26, 27, 28, 29, 30, 31, 32, 33, 34, 35, 36, 37, 38, 39, 40, 41, 42, 43, 44, 45, 46, 47, 48, 49, 50, 51, 52, 53, 58, 59, 60, 61, 62, 63, 64, 65, 66, 67, 68, 69, 70, 71, 72, 73, 74] (by decide +kernel) (by decide +kernel)
set_option maxRecDepth 20000 in
theorem gX1_passAt_X1_liveLooked : GoodIn wsX1_passAt (wsV RX1 174 RX1 yX1_liveLooked wsX1_liveLooked) := goodIn_app (goodIn_of _ (by decide +kernel)) ggX1_passAt_X1_liveLooked
set_option maxRecDepth 20000 in
theorem ggX1_passAt_X1_keepLooked : GoodIn wsX1_passAt wsX1_keepLooked := goodIn_r _ [57, 10, 8, 11, 58, 59, 60, 61, 62, 63, 64, 65, 66, 67, 68, 69, 70, 71, 72, 73, 74] (by decide +kernel) (by decide +kernel)
set_option maxRecDepth 20000 in
theorem gX1_passAt_X1_keepLooked : GoodIn wsX1_passAt (wsV RX1 218 RX1 yX1_keepLooked wsX1_keepLooked) := goodIn_app (goodIn_of _ (by decide +kernel)) ggX1_passAt_X1_keepLooked
theorem dX1_passAt_0 : decode cX1_passAt 0 = .ok (.aload_n 0, 1) := by decide +kernel
theorem dX1_passAt_1 : decode cX1_passAt 1 = .ok (.iload_n 1, 1) := by decide +kernel
theorem dX1_passAt_2 : decode cX1_passAt 2 = .ok (.invokevirtual 170, 3) := by decide +kernel
theorem dX1_passAt_5 : decode cX1_passAt 5 = .ok (.aload_n 0, 1) := by decide +kernel
theorem dX1_passAt_6 : decode cX1_passAt 6 = .ok (.iload_n 2, 1) := by decide +kernel
theorem dX1_passAt_7 : decode cX1_passAt 7 = .ok (.invokevirtual 174, 3) := by decide +kernel
theorem dX1_passAt_10 : decode cX1_passAt 10 = .ok (.istore_n 3, 1) := by decide +kernel
theorem dX1_passAt_11 : decode cX1_passAt 11 = .ok (.aload_n 0, 1) := by decide +kernel
theorem dX1_passAt_12 : decode cX1_passAt 12 = .ok (.iload_n 1, 1) := by decide +kernel
theorem dX1_passAt_13 : decode cX1_passAt 13 = .ok (.invokevirtual 218, 3) := by decide +kernel
theorem dX1_passAt_16 : decode cX1_passAt 16 = .ok (.aload_n 0, 1) := by decide +kernel
theorem dX1_passAt_17 : decode cX1_passAt 17 = .ok (.getfield 16, 3) := by decide +kernel
theorem dX1_passAt_20 : decode cX1_passAt 20 = .ok (.aload_n 0, 1) := by decide +kernel
theorem dX1_passAt_21 : decode cX1_passAt 21 = .ok (.getfield 22, 3) := by decide +kernel
theorem dX1_passAt_24 : decode cX1_passAt 24 = .ok (.iload_n 1, 1) := by decide +kernel
theorem dX1_passAt_25 : decode cX1_passAt 25 = .ok (.iaload, 1) := by decide +kernel
theorem dX1_passAt_26 : decode cX1_passAt 26 = .ok (.dup2, 1) := by decide +kernel
theorem dX1_passAt_27 : decode cX1_passAt 27 = .ok (.iaload, 1) := by decide +kernel
theorem dX1_passAt_28 : decode cX1_passAt 28 = .ok (.iload_n 3, 1) := by decide +kernel
theorem dX1_passAt_29 : decode cX1_passAt 29 = .ok (.iadd, 1) := by decide +kernel
theorem dX1_passAt_30 : decode cX1_passAt 30 = .ok (.iastore, 1) := by decide +kernel
theorem dX1_passAt_31 : decode cX1_passAt 31 = .ok (.iload_n 3, 1) := by decide +kernel
theorem dX1_passAt_32 : decode cX1_passAt 32 = .ok (.ireturn, 1) := by decide +kernel
set_option maxRecDepth 20000 in
theorem ggX1_gainOfPruning_X1_canPrune : GoodIn wsX1_gainOfPruning wsX1_canPrune := goodIn_r _ [6, 7, 8, 9, 10, 5, 11, 12, 13, 14, 15, 16, 17, 18, 19, 20, 68, 69, 70, 71, 72, 73, 74, 75, 76, 77, 78, 79, 80] (by decide +kernel) (by decide +kernel)
set_option maxRecDepth 20000 in
theorem gX1_gainOfPruning_X1_canPrune : GoodIn wsX1_gainOfPruning (wsV RX1 212 RX1 yX1_canPrune wsX1_canPrune) := goodIn_app (goodIn_of _ (by decide +kernel)) ggX1_gainOfPruning_X1_canPrune
set_option maxRecDepth 20000 in
theorem ggX1_gainOfPruning_X1_lookAt : GoodIn wsX1_gainOfPruning wsX1_lookAt := goodIn_r _ [24, 1, 25, 7, 26, 27, 12, 8, 9, 10, 5, 11, 68, 69, 70, 71, 72, 73, 74, 75, 76, 77, 78, 79, 80, 81, 82, 83, 84] (by decide +kernel) (by decide +kernel)
set_option maxRecDepth 20000 in
theorem gX1_gainOfPruning_X1_lookAt : GoodIn wsX1_gainOfPruning (wsV RX1 170 RX1 yX1_lookAt wsX1_lookAt) := goodIn_app (goodIn_of _ (by decide +kernel)) ggX1_gainOfPruning_X1_lookAt
set_option maxRecDepth 20000 in
theorem ggX1_gainOfPruning_X1_liveLooked : GoodIn wsX1_gainOfPruning wsX1_liveLooked := goodIn_r _ [31, 1, 32, 33, 34, 35, 36, 37, 38, 39, 40, 41, 42, 43, 44, 45, 46, 47, 48, 49, 50, 51, 52, 53, 54, 55, 56, 57, 58, 59, 60, 61, 62, 63, 64, 68, 69, 70, 71, 72, 73, 74, 75, 76, 77, 78, 79, 80, 81, 82, 83, 84] (by decide +kernel) (by decide +kernel)
set_option maxRecDepth 20000 in
theorem gX1_gainOfPruning_X1_liveLooked : GoodIn wsX1_gainOfPruning (wsV RX1 174 RX1 yX1_liveLooked wsX1_liveLooked) := goodIn_app (goodIn_of _ (by decide +kernel)) ggX1_gainOfPruning_X1_liveLooked
set_option maxRecDepth 20000 in
theorem ggX1_gainOfPruning_X0_shorten : GoodIn wsX1_gainOfPruning wsX0_shorten := goodIn_r _ [67, 52, 42, 81, 82, 83, 84] (by decide +kernel) (by decide +kernel)
set_option maxRecDepth 20000 in
theorem gX1_gainOfPruning_X0_shorten_n215 : GoodIn wsX1_gainOfPruning (wsX0_shorten) := ggX1_gainOfPruning_X0_shorten
theorem dX1_gainOfPruning_0 : decode cX1_gainOfPruning 0 = .ok (.aload_n 0, 1) := by decide +kernel
theorem dX1_gainOfPruning_1 : decode cX1_gainOfPruning 1 = .ok (.iload_n 1, 1) := by decide +kernel
theorem dX1_gainOfPruning_2 : decode cX1_gainOfPruning 2 = .ok (.iload_n 2, 1) := by decide +kernel
theorem dX1_gainOfPruning_3 : decode cX1_gainOfPruning 3 = .ok (.invokevirtual 212, 3) := by decide +kernel
theorem dX1_gainOfPruning_6 : decode cX1_gainOfPruning 6 = .ok (.ifCond .ne 5, 3) := by decide +kernel
theorem dX1_gainOfPruning_9 : decode cX1_gainOfPruning 9 = .ok (.iconst 0, 1) := by decide +kernel
theorem dX1_gainOfPruning_10 : decode cX1_gainOfPruning 10 = .ok (.ireturn, 1) := by decide +kernel
theorem dX1_gainOfPruning_11 : decode cX1_gainOfPruning 11 = .ok (.aload_n 0, 1) := by decide +kernel
theorem dX1_gainOfPruning_12 : decode cX1_gainOfPruning 12 = .ok (.iload_n 1, 1) := by decide +kernel
theorem dX1_gainOfPruning_13 : decode cX1_gainOfPruning 13 = .ok (.invokevirtual 170, 3) := by decide +kernel
theorem dX1_gainOfPruning_16 : decode cX1_gainOfPruning 16 = .ok (.aload_n 0, 1) := by decide +kernel
theorem dX1_gainOfPruning_17 : decode cX1_gainOfPruning 17 = .ok (.iload_n 3, 1) := by decide +kernel
theorem dX1_gainOfPruning_18 : decode cX1_gainOfPruning 18 = .ok (.invokevirtual 174, 3) := by decide +kernel
theorem dX1_gainOfPruning_21 : decode cX1_gainOfPruning 21 = .ok (.istore 4, 2) := by decide +kernel
theorem dX1_gainOfPruning_23 : decode cX1_gainOfPruning 23 = .ok (.aload_n 0, 1) := by decide +kernel
theorem dX1_gainOfPruning_24 : decode cX1_gainOfPruning 24 = .ok (.iload_n 1, 1) := by decide +kernel
theorem dX1_gainOfPruning_25 : decode cX1_gainOfPruning 25 = .ok (.invokevirtual 170, 3) := by decide +kernel
theorem dX1_gainOfPruning_28 : decode cX1_gainOfPruning 28 = .ok (.aload_n 0, 1) := by decide +kernel
theorem dX1_gainOfPruning_29 : decode cX1_gainOfPruning 29 = .ok (.getfield 48, 3) := by decide +kernel
theorem dX1_gainOfPruning_32 : decode cX1_gainOfPruning 32 = .ok (.iload_n 2, 1) := by decide +kernel
theorem dX1_gainOfPruning_33 : decode cX1_gainOfPruning 33 = .ok (.invokevirtual 215, 3) := by decide +kernel
theorem dX1_gainOfPruning_36 : decode cX1_gainOfPruning 36 = .ok (.aload_n 0, 1) := by decide +kernel
theorem dX1_gainOfPruning_37 : decode cX1_gainOfPruning 37 = .ok (.iload_n 3, 1) := by decide +kernel
theorem dX1_gainOfPruning_38 : decode cX1_gainOfPruning 38 = .ok (.invokevirtual 174, 3) := by decide +kernel
theorem dX1_gainOfPruning_41 : decode cX1_gainOfPruning 41 = .ok (.iload 4, 2) := by decide +kernel
theorem dX1_gainOfPruning_43 : decode cX1_gainOfPruning 43 = .ok (.isub, 1) := by decide +kernel
theorem dX1_gainOfPruning_44 : decode cX1_gainOfPruning 44 = .ok (.ireturn, 1) := by decide +kernel
end
section
theorem dX2_init_0 : decode cX2_init 0 = .ok (.aload_n 0, 1) := by decide +kernel
theorem dX2_init_1 : decode cX2_init 1 = .ok (.invokespecial 1, 3) := by decide +kernel
theorem dX2_init_4 : decode cX2_init 4 = .ok (.aload_n 0, 1) := by decide +kernel
theorem dX2_init_5 : decode cX2_init 5 = .ok (.bipush 6, 2) := by decide +kernel
theorem dX2_init_7 : decode cX2_init 7 = .ok (.newarray .int, 2) := by decide +kernel
theorem dX2_init_9 : decode cX2_init 9 = .ok (.putfield 9, 3) := by decide +kernel
theorem dX2_init_12 : decode cX2_init 12 = .ok (.aload_n 0, 1) := by decide +kernel
theorem dX2_init_13 : decode cX2_init 13 = .ok (.bipush 6, 2) := by decide +kernel
theorem dX2_init_15 : decode cX2_init 15 = .ok (.newarray .int, 2) := by decide +kernel
theorem dX2_init_17 : decode cX2_init 17 = .ok (.putfield 13, 3) := by decide +kernel
theorem dX2_init_20 : decode cX2_init 20 = .ok (.aload_n 0, 1) := by decide +kernel
theorem dX2_init_21 : decode cX2_init 21 = .ok (.bipush 10, 2) := by decide +kernel
theorem dX2_init_23 : decode cX2_init 23 = .ok (.newarray .int, 2) := by decide +kernel
theorem dX2_init_25 : decode cX2_init 25 = .ok (.putfield 16, 3) := by decide +kernel
theorem dX2_init_28 : decode cX2_init 28 = .ok (.aload_n 0, 1) := by decide +kernel
theorem dX2_init_29 : decode cX2_init 29 = .ok (.sipush 200, 3) := by decide +kernel
theorem dX2_init_32 : decode cX2_init 32 = .ok (.newarray .int, 2) := by decide +kernel
theorem dX2_init_34 : decode cX2_init 34 = .ok (.putfield 19, 3) := by decide +kernel
theorem dX2_init_37 : decode cX2_init 37 = .ok (.aload_n 0, 1) := by decide +kernel
theorem dX2_init_38 : decode cX2_init 38 = .ok (.bipush 6, 2) := by decide +kernel
theorem dX2_init_40 : decode cX2_init 40 = .ok (.newarray .int, 2) := by decide +kernel
theorem dX2_init_42 : decode cX2_init 42 = .ok (.putfield 22, 3) := by decide +kernel
theorem dX2_init_45 : decode cX2_init 45 = .ok (.aload_n 0, 1) := by decide +kernel
theorem dX2_init_46 : decode cX2_init 46 = .ok (.iconst 3, 1) := by decide +kernel
theorem dX2_init_47 : decode cX2_init 47 = .ok (.newarray .int, 2) := by decide +kernel
theorem dX2_init_49 : decode cX2_init 49 = .ok (.dup, 1) := by decide +kernel
theorem dX2_init_50 : decode cX2_init 50 = .ok (.iconst 0, 1) := by decide +kernel
theorem dX2_init_51 : decode cX2_init 51 = .ok (.bipush 20, 2) := by decide +kernel
theorem dX2_init_53 : decode cX2_init 53 = .ok (.iastore, 1) := by decide +kernel
theorem dX2_init_54 : decode cX2_init 54 = .ok (.dup, 1) := by decide +kernel
theorem dX2_init_55 : decode cX2_init 55 = .ok (.iconst 1, 1) := by decide +kernel
theorem dX2_init_56 : decode cX2_init 56 = .ok (.bipush 20, 2) := by decide +kernel
theorem dX2_init_58 : decode cX2_init 58 = .ok (.iastore, 1) := by decide +kernel
theorem dX2_init_59 : decode cX2_init 59 = .ok (.dup, 1) := by decide +kernel
theorem dX2_init_60 : decode cX2_init 60 = .ok (.iconst 2, 1) := by decide +kernel
theorem dX2_init_61 : decode cX2_init 61 = .ok (.iconst 0, 1) := by decide +kernel
theorem dX2_init_62 : decode cX2_init 62 = .ok (.iastore, 1) := by decide +kernel
theorem dX2_init_63 : decode cX2_init 63 = .ok (.putfield 25, 3) := by decide +kernel
theorem dX2_init_66 : decode cX2_init 66 = .ok (.iconst 0, 1) := by decide +kernel
theorem dX2_init_67 : decode cX2_init 67 = .ok (.istore_n 1, 1) := by decide +kernel
theorem dX2_init_68 : decode cX2_init 68 = .ok (.iload_n 1, 1) := by decide +kernel
theorem dX2_init_69 : decode cX2_init 69 = .ok (.bipush 6, 2) := by decide +kernel
theorem dX2_init_71 : decode cX2_init 71 = .ok (.if_icmp .ge 23, 3) := by decide +kernel
theorem dX2_init_74 : decode cX2_init 74 = .ok (.aload_n 0, 1) := by decide +kernel
theorem dX2_init_75 : decode cX2_init 75 = .ok (.getfield 9, 3) := by decide +kernel
theorem dX2_init_78 : decode cX2_init 78 = .ok (.iload_n 1, 1) := by decide +kernel
theorem dX2_init_79 : decode cX2_init 79 = .ok (.iconst 3, 1) := by decide +kernel
theorem dX2_init_80 : decode cX2_init 80 = .ok (.iastore, 1) := by decide +kernel
theorem dX2_init_81 : decode cX2_init 81 = .ok (.aload_n 0, 1) := by decide +kernel
theorem dX2_init_82 : decode cX2_init 82 = .ok (.getfield 13, 3) := by decide +kernel
theorem dX2_init_85 : decode cX2_init 85 = .ok (.iload_n 1, 1) := by decide +kernel
theorem dX2_init_86 : decode cX2_init 86 = .ok (.iconst 4, 1) := by decide +kernel
theorem dX2_init_87 : decode cX2_init 87 = .ok (.iastore, 1) := by decide +kernel
theorem dX2_init_88 : decode cX2_init 88 = .ok (.iinc 1 1, 3) := by decide +kernel
theorem dX2_init_91 : decode cX2_init 91 = .ok (.goto (-23), 3) := by decide +kernel
theorem dX2_init_94 : decode cX2_init 94 = .ok (.return_, 1) := by decide +kernel
theorem dX2_thrown_0 : decode cX2_thrown 0 = .ok (.aload_n 0, 1) := by decide +kernel
theorem dX2_thrown_1 : decode cX2_thrown 1 = .ok (.getfield 28, 3) := by decide +kernel
theorem dX2_thrown_4 : decode cX2_thrown 4 = .ok (.ireturn, 1) := by decide +kernel
theorem dX2_fail_0 : decode cX2_fail 0 = .ok (.aload_n 0, 1) := by decide +kernel
theorem dX2_fail_1 : decode cX2_fail 1 = .ok (.iload_n 1, 1) := by decide +kernel
theorem dX2_fail_2 : decode cX2_fail 2 = .ok (.putfield 28, 3) := by decide +kernel
theorem dX2_fail_5 : decode cX2_fail 5 = .ok (.iconst 0, 1) := by decide +kernel
theorem dX2_fail_6 : decode cX2_fail 6 = .ok (.ireturn, 1) := by decide +kernel
theorem dX2_isIn_0 : decode cX2_isIn 0 = .ok (.iload_n 0, 1) := by decide +kernel
theorem dX2_isIn_1 : decode cX2_isIn 1 = .ok (.iload_n 1, 1) := by decide +kernel
theorem dX2_isIn_2 : decode cX2_isIn 2 = .ok (.if_icmp .lt 12, 3) := by decide +kernel
theorem dX2_isIn_5 : decode cX2_isIn 5 = .ok (.iload_n 0, 1) := by decide +kernel
theorem dX2_isIn_6 : decode cX2_isIn 6 = .ok (.iload_n 2, 1) := by decide +kernel
theorem dX2_isIn_7 : decode cX2_isIn 7 = .ok (.if_icmp .gt 7, 3) := by decide +kernel
theorem dX2_isIn_10 : decode cX2_isIn 10 = .ok (.iconst 1, 1) := by decide +kernel
theorem dX2_isIn_11 : decode cX2_isIn 11 = .ok (.goto 4, 3) := by decide +kernel
theorem dX2_isIn_14 : decode cX2_isIn 14 = .ok (.iconst 0, 1) := by decide +kernel
theorem dX2_isIn_15 : decode cX2_isIn 15 = .ok (.ireturn, 1) := by decide +kernel
set_option maxRecDepth 20000 in
theorem ggX2_isSpot_X2_isIn : GoodIn wsX2_isSpot wsX2_isIn := goodIn_r _ [4] (by decide +kernel) (by decide +kernel)
set_option maxRecDepth 20000 in
theorem gX2_isSpot_X2_isIn : GoodIn wsX2_isSpot (va_wsS RX2 32 yX2_isIn wsX2_isIn) := goodIn_app (goodIn_of _ (by decide +kernel)) ggX2_isSpot_X2_isIn
theorem dX2_isSpot_0 : decode cX2_isSpot 0 = .ok (.iload_n 0, 1) := by decide +kernel
theorem dX2_isSpot_1 : decode cX2_isSpot 1 = .ok (.iconst 0, 1) := by decide +kernel
theorem dX2_isSpot_2 : decode cX2_isSpot 2 = .ok (.iconst 4, 1) := by decide +kernel
theorem dX2_isSpot_3 : decode cX2_isSpot 3 = .ok (.invokestatic 32, 3) := by decide +kernel
theorem dX2_isSpot_6 : decode cX2_isSpot 6 = .ok (.ifCond .eq 17, 3) := by decide +kernel
theorem dX2_isSpot_9 : decode cX2_isSpot 9 = .ok (.iload_n 1, 1) := by decide +kernel
theorem dX2_isSpot_10 : decode cX2_isSpot 10 = .ok (.iconst 0, 1) := by decide +kernel
theorem dX2_isSpot_11 : decode cX2_isSpot 11 = .ok (.bipush 7, 2) := by decide +kernel
theorem dX2_isSpot_13 : decode cX2_isSpot 13 = .ok (.invokestatic 32, 3) := by decide +kernel
theorem dX2_isSpot_16 : decode cX2_isSpot 16 = .ok (.ifCond .eq 7, 3) := by decide +kernel
theorem dX2_isSpot_19 : decode cX2_isSpot 19 = .ok (.iconst 1, 1) := by decide +kernel
theorem dX2_isSpot_20 : decode cX2_isSpot 20 = .ok (.goto 4, 3) := by decide +kernel
theorem dX2_isSpot_23 : decode cX2_isSpot 23 = .ok (.iconst 0, 1) := by decide +kernel
theorem dX2_isSpot_24 : decode cX2_isSpot 24 = .ok (.ireturn, 1) := by decide +kernel
set_option maxRecDepth 20000 in
theorem ggX2_isSort_X2_isIn : GoodIn wsX2_isSort wsX2_isIn := goodIn_r _ [4] (by decide +kernel) (by decide +kernel)
set_option maxRecDepth 20000 in
theorem gX2_isSort_X2_isIn : GoodIn wsX2_isSort (va_wsS RX2 32 yX2_isIn wsX2_isIn) := goodIn_app (goodIn_of _ (by decide +kernel)) ggX2_isSort_X2_isIn
theorem dX2_isSort_0 : decode cX2_isSort 0 = .ok (.iload_n 0, 1) := by decide +kernel
theorem dX2_isSort_1 : decode cX2_isSort 1 = .ok (.iconst 0, 1) := by decide +kernel
theorem dX2_isSort_2 : decode cX2_isSort 2 = .ok (.iconst 5, 1) := by decide +kernel
theorem dX2_isSort_3 : decode cX2_isSort 3 = .ok (.invokestatic 32, 3) := by decide +kernel
theorem dX2_isSort_6 : decode cX2_isSort 6 = .ok (.ireturn, 1) := by decide +kernel
theorem dX2_tr_0 : decode cX2_tr 0 = .ok (.aload_n 0, 1) := by decide +kernel
theorem dX2_tr_1 : decode cX2_tr 1 = .ok (.getfield 19, 3) := by decide +kernel
theorem dX2_tr_4 : decode cX2_tr 4 = .ok (.iconst 5, 1) := by decide +kernel
theorem dX2_tr_5 : decode cX2_tr 5 = .ok (.iload_n 1, 1) := by decide +kernel
theorem dX2_tr_6 : decode cX2_tr 6 = .ok (.imul, 1) := by decide +kernel
theorem dX2_tr_7 : decode cX2_tr 7 = .ok (.iload_n 2, 1) := by decide +kernel
theorem dX2_tr_8 : decode cX2_tr 8 = .ok (.iadd, 1) := by decide +kernel
theorem dX2_tr_9 : decode cX2_tr 9 = .ok (.iaload, 1) := by decide +kernel
theorem dX2_tr_10 : decode cX2_tr 10 = .ok (.ireturn, 1) := by decide +kernel
theorem dX2_set_0 : decode cX2_set 0 = .ok (.aload_n 0, 1) := by decide +kernel
theorem dX2_set_1 : decode cX2_set 1 = .ok (.getfield 19, 3) := by decide +kernel
theorem dX2_set_4 : decode cX2_set 4 = .ok (.iconst 5, 1) := by decide +kernel
theorem dX2_set_5 : decode cX2_set 5 = .ok (.iload_n 1, 1) := by decide +kernel
theorem dX2_set_6 : decode cX2_set 6 = .ok (.imul, 1) := by decide +kernel
theorem dX2_set_7 : decode cX2_set 7 = .ok (.iload_n 2, 1) := by decide +kernel
theorem dX2_set_8 : decode cX2_set 8 = .ok (.iadd, 1) := by decide +kernel
theorem dX2_set_9 : decode cX2_set 9 = .ok (.iload_n 3, 1) := by decide +kernel
theorem dX2_set_10 : decode cX2_set 10 = .ok (.iastore, 1) := by decide +kernel
theorem dX2_set_11 : decode cX2_set 11 = .ok (.return_, 1) := by decide +kernel
set_option maxRecDepth 20000 in
theorem ggX2_setSort_X2_isSort : GoodIn wsX2_setSort wsX2_isSort := goodIn_r _ [7, 8, 9, 6, 10] (by decide +kernel) (by decide +kernel)
set_option maxRecDepth 20000 in
theorem gX2_setSort_X2_isSort : GoodIn wsX2_setSort (va_wsS RX2 36 yX2_isSort wsX2_isSort) := goodIn_app (goodIn_of _ (by decide +kernel)) ggX2_setSort_X2_isSort
set_option maxRecDepth 20000 in
theorem ggX2_setSort_X2_fail : GoodIn wsX2_setSort wsX2_fail := goodIn_r _ [14, 1, 15, 16, 17, 18, 19, 20, 21, 22] (by decide +kernel) (by decide +kernel)
set_option maxRecDepth 20000 in
theorem gX2_setSort_X2_fail : GoodIn wsX2_setSort (wsV RX2 40 RX2 yX2_fail wsX2_fail) := goodIn_app (goodIn_of _ (by decide +kernel)) ggX2_setSort_X2_fail
set_option maxRecDepth 20000 in
theorem ggX2_setSort_X2_isIn : GoodIn wsX2_setSort wsX2_isIn := goodIn_r _ [10] (by decide +kernel) (by decide +kernel)
set_option maxRecDepth 20000 in
theorem gX2_setSort_X2_isIn : GoodIn wsX2_setSort (va_wsS RX2 32 yX2_isIn wsX2_isIn) := goodIn_app (goodIn_of _ (by decide +kernel)) ggX2_setSort_X2_isIn
theorem dX2_setSort_0 : decode cX2_setSort 0 = .ok (.aload_n 0, 1) := by decide +kernel
theorem dX2_setSort_1 : decode cX2_setSort 1 = .ok (.iconst 0, 1) := by decide +kernel
theorem dX2_setSort_2 : decode cX2_setSort 2 = .ok (.putfield 28, 3) := by decide +kernel
theorem dX2_setSort_5 : decode cX2_setSort 5 = .ok (.iload_n 1, 1) := by decide +kernel
theorem dX2_setSort_6 : decode cX2_setSort 6 = .ok (.invokestatic 36, 3) := by decide +kernel
theorem dX2_setSort_9 : decode cX2_setSort 9 = .ok (.ifCond .ne 9, 3) := by decide +kernel
theorem dX2_setSort_12 : decode cX2_setSort 12 = .ok (.aload_n 0, 1) := by decide +kernel
theorem dX2_setSort_13 : decode cX2_setSort 13 = .ok (.iconst 1, 1) := by decide +kernel
theorem dX2_setSort_14 : decode cX2_setSort 14 = .ok (.invokevirtual 40, 3) := by decide +kernel
theorem dX2_setSort_17 : decode cX2_setSort 17 = .ok (.ireturn, 1) := by decide +kernel
theorem dX2_setSort_18 : decode cX2_setSort 18 = .ok (.iload_n 2, 1) := by decide +kernel
theorem dX2_setSort_19 : decode cX2_setSort 19 = .ok (.iconst 1, 1) := by decide +kernel
theorem dX2_setSort_20 : decode cX2_setSort 20 = .ok (.bipush 9, 2) := by decide +kernel
theorem dX2_setSort_22 : decode cX2_setSort 22 = .ok (.invokestatic 32, 3) := by decide +kernel
theorem dX2_setSort_25 : decode cX2_setSort 25 = .ok (.ifCond .eq 13, 3) := by decide +kernel
theorem dX2_setSort_28 : decode cX2_setSort 28 = .ok (.iload_n 3, 1) := by decide +kernel
theorem dX2_setSort_29 : decode cX2_setSort 29 = .ok (.iconst 0, 1) := by decide +kernel
theorem dX2_setSort_30 : decode cX2_setSort 30 = .ok (.bipush 9, 2) := by decide +kernel
theorem dX2_setSort_32 : decode cX2_setSort 32 = .ok (.invokestatic 32, 3) := by decide +kernel
theorem dX2_setSort_35 : decode cX2_setSort 35 = .ok (.ifCond .ne 9, 3) := by decide +kernel
theorem dX2_setSort_38 : decode cX2_setSort 38 = .ok (.aload_n 0, 1) := by decide +kernel
theorem dX2_setSort_39 : decode cX2_setSort 39 = .ok (.iconst 2, 1) := by decide +kernel
theorem dX2_setSort_40 : decode cX2_setSort 40 = .ok (.invokevirtual 40, 3) := by decide +kernel
theorem dX2_setSort_43 : decode cX2_setSort 43 = .ok (.ireturn, 1) := by decide +kernel
theorem dX2_setSort_44 : decode cX2_setSort 44 = .ok (.bipush 10, 2) := by decide +kernel
theorem dX2_setSort_46 : decode cX2_setSort 46 = .ok (.aload_n 0, 1) := by decide +kernel
theorem dX2_setSort_47 : decode cX2_setSort 47 = .ok (.getfield 9, 3) := by decide +kernel
theorem dX2_setSort_50 : decode cX2_setSort 50 = .ok (.iload_n 1, 1) := by decide +kernel
theorem dX2_setSort_51 : decode cX2_setSort 51 = .ok (.iaload, 1) := by decide +kernel
theorem dX2_setSort_52 : decode cX2_setSort 52 = .ok (.imul, 1) := by decide +kernel
theorem dX2_setSort_53 : decode cX2_setSort 53 = .ok (.aload_n 0, 1) := by decide +kernel
theorem dX2_setSort_54 : decode cX2_setSort 54 = .ok (.getfield 13, 3) := by decide +kernel
theorem dX2_setSort_57 : decode cX2_setSort 57 = .ok (.iload_n 1, 1) := by decide +kernel
theorem dX2_setSort_58 : decode cX2_setSort 58 = .ok (.iaload, 1) := by decide +kernel
theorem dX2_setSort_59 : decode cX2_setSort 59 = .ok (.iadd, 1) := by decide +kernel
theorem dX2_setSort_60 : decode cX2_setSort 60 = .ok (.istore 4, 2) := by decide +kernel
theorem dX2_setSort_62 : decode cX2_setSort 62 = .ok (.aload_n 0, 1) := by decide +kernel
theorem dX2_setSort_63 : decode cX2_setSort 63 = .ok (.getfield 9, 3) := by decide +kernel
theorem dX2_setSort_66 : decode cX2_setSort 66 = .ok (.iload_n 1, 1) := by decide +kernel
theorem dX2_setSort_67 : decode cX2_setSort 67 = .ok (.iload_n 2, 1) := by decide +kernel
theorem dX2_setSort_68 : decode cX2_setSort 68 = .ok (.iastore, 1) := by decide +kernel
theorem dX2_setSort_69 : decode cX2_setSort 69 = .ok (.aload_n 0, 1) := by decide +kernel
theorem dX2_setSort_70 : decode cX2_setSort 70 = .ok (.getfield 13, 3) := by decide +kernel
theorem dX2_setSort_73 : decode cX2_setSort 73 = .ok (.iload_n 1, 1) := by decide +kernel
theorem dX2_setSort_74 : decode cX2_setSort 74 = .ok (.iload_n 3, 1) := by decide +kernel
theorem dX2_setSort_75 : decode cX2_setSort 75 = .ok (.iastore, 1) := by decide +kernel
theorem dX2_setSort_76 : decode cX2_setSort 76 = .ok (.iload 4, 2) := by decide +kernel
theorem dX2_setSort_78 : decode cX2_setSort 78 = .ok (.ireturn, 1) := by decide +kernel
set_option maxRecDepth 20000 in
theorem ggX2_setFrost_X2_isIn : GoodIn wsX2_setFrost wsX2_isIn := goodIn_r _ [6] (by decide +kernel) (by decide +kernel)
set_option maxRecDepth 20000 in
theorem gX2_setFrost_X2_isIn : GoodIn wsX2_setFrost (va_wsS RX2 32 yX2_isIn wsX2_isIn) := goodIn_app (goodIn_of _ (by decide +kernel)) ggX2_setFrost_X2_isIn
set_option maxRecDepth 20000 in
theorem ggX2_setFrost_X2_fail : GoodIn wsX2_setFrost wsX2_fail := goodIn_r _ [10, 1, 11, 12, 13, 14, 15, 16, 17, 18] (by decide +kernel) (by decide +kernel)
set_option maxRecDepth 20000 in
theorem gX2_setFrost_X2_fail : GoodIn wsX2_setFrost (wsV RX2 40 RX2 yX2_fail wsX2_fail) := goodIn_app (goodIn_of _ (by decide +kernel)) ggX2_setFrost_X2_fail
theorem dX2_setFrost_0 : decode cX2_setFrost 0 = .ok (.aload_n 0, 1) := by decide +kernel
theorem dX2_setFrost_1 : decode cX2_setFrost 1 = .ok (.iconst 0, 1) := by decide +kernel
theorem dX2_setFrost_2 : decode cX2_setFrost 2 = .ok (.putfield 28, 3) := by decide +kernel
theorem dX2_setFrost_5 : decode cX2_setFrost 5 = .ok (.iload_n 1, 1) := by decide +kernel
theorem dX2_setFrost_6 : decode cX2_setFrost 6 = .ok (.iconst 0, 1) := by decide +kernel
theorem dX2_setFrost_7 : decode cX2_setFrost 7 = .ok (.bipush 9, 2) := by decide +kernel
theorem dX2_setFrost_9 : decode cX2_setFrost 9 = .ok (.invokestatic 32, 3) := by decide +kernel
theorem dX2_setFrost_12 : decode cX2_setFrost 12 = .ok (.ifCond .ne 9, 3) := by decide +kernel
theorem dX2_setFrost_15 : decode cX2_setFrost 15 = .ok (.aload_n 0, 1) := by decide +kernel
theorem dX2_setFrost_16 : decode cX2_setFrost 16 = .ok (.iconst 1, 1) := by decide +kernel
theorem dX2_setFrost_17 : decode cX2_setFrost 17 = .ok (.invokevirtual 40, 3) := by decide +kernel
theorem dX2_setFrost_20 : decode cX2_setFrost 20 = .ok (.ireturn, 1) := by decide +kernel
theorem dX2_setFrost_21 : decode cX2_setFrost 21 = .ok (.iload_n 2, 1) := by decide +kernel
theorem dX2_setFrost_22 : decode cX2_setFrost 22 = .ok (.iconst 0, 1) := by decide +kernel
theorem dX2_setFrost_23 : decode cX2_setFrost 23 = .ok (.bipush 9, 2) := by decide +kernel
theorem dX2_setFrost_25 : decode cX2_setFrost 25 = .ok (.invokestatic 32, 3) := by decide +kernel
theorem dX2_setFrost_28 : decode cX2_setFrost 28 = .ok (.ifCond .ne 9, 3) := by decide +kernel
theorem dX2_setFrost_31 : decode cX2_setFrost 31 = .ok (.aload_n 0, 1) := by decide +kernel
theorem dX2_setFrost_32 : decode cX2_setFrost 32 = .ok (.iconst 2, 1) := by decide +kernel
theorem dX2_setFrost_33 : decode cX2_setFrost 33 = .ok (.invokevirtual 40, 3) := by decide +kernel
theorem dX2_setFrost_36 : decode cX2_setFrost 36 = .ok (.ireturn, 1) := by decide +kernel
theorem dX2_setFrost_37 : decode cX2_setFrost 37 = .ok (.aload_n 0, 1) := by decide +kernel
theorem dX2_setFrost_38 : decode cX2_setFrost 38 = .ok (.getfield 16, 3) := by decide +kernel
theorem dX2_setFrost_41 : decode cX2_setFrost 41 = .ok (.iload_n 1, 1) := by decide +kernel
theorem dX2_setFrost_42 : decode cX2_setFrost 42 = .ok (.iaload, 1) := by decide +kernel
theorem dX2_setFrost_43 : decode cX2_setFrost 43 = .ok (.istore_n 3, 1) := by decide +kernel
theorem dX2_setFrost_44 : decode cX2_setFrost 44 = .ok (.aload_n 0, 1) := by decide +kernel
theorem dX2_setFrost_45 : decode cX2_setFrost 45 = .ok (.getfield 16, 3) := by decide +kernel
theorem dX2_setFrost_48 : decode cX2_setFrost 48 = .ok (.iload_n 1, 1) := by decide +kernel
theorem dX2_setFrost_49 : decode cX2_setFrost 49 = .ok (.iload_n 2, 1) := by decide +kernel
theorem dX2_setFrost_50 : decode cX2_setFrost 50 = .ok (.iastore, 1) := by decide +kernel
theorem dX2_setFrost_51 : decode cX2_setFrost 51 = .ok (.iload_n 3, 1) := by decide +kernel
theorem dX2_setFrost_52 : decode cX2_setFrost 52 = .ok (.ireturn, 1) := by decide +kernel
set_option maxRecDepth 20000 in
theorem ggX2_can_X2_tr : GoodIn wsX2_can wsX2_tr := goodIn_r _ [5, 6, 7, 8, 9, 10, 11, 12, 13, 14] (by decide +kernel) (by decide +kernel)
set_option maxRecDepth 20000 in
theorem gX2_can_X2_tr : GoodIn wsX2_can (wsV RX2 44 RX2 yX2_tr wsX2_tr) := goodIn_app (goodIn_of _ (by decide +kernel)) ggX2_can_X2_tr
theorem dX2_can_0 : decode cX2_can 0 = .ok (.aload_n 0, 1) := by decide +kernel
theorem dX2_can_1 : decode cX2_can 1 = .ok (.iload_n 1, 1) := by decide +kernel
theorem dX2_can_2 : decode cX2_can 2 = .ok (.iconst 0, 1) := by decide +kernel
theorem dX2_can_3 : decode cX2_can 3 = .ok (.invokevirtual 44, 3) := by decide +kernel
theorem dX2_can_6 : decode cX2_can 6 = .ok (.iconst 1, 1) := by decide +kernel
theorem dX2_can_7 : decode cX2_can 7 = .ok (.if_icmp .ne 7, 3) := by decide +kernel
theorem dX2_can_10 : decode cX2_can 10 = .ok (.iconst 1, 1) := by decide +kernel
theorem dX2_can_11 : decode cX2_can 11 = .ok (.goto 4, 3) := by decide +kernel
theorem dX2_can_14 : decode cX2_can 14 = .ok (.iconst 0, 1) := by decide +kernel
theorem dX2_can_15 : decode cX2_can 15 = .ok (.istore 4, 2) := by decide +kernel
theorem dX2_can_17 : decode cX2_can 17 = .ok (.iload_n 2, 1) := by decide +kernel
theorem dX2_can_18 : decode cX2_can 18 = .ok (.tableswitch 88 0 2 #[26, 37, 58], 26) := by decide +kernel
theorem dX2_can_44 : decode cX2_can 44 = .ok (.iload 4, 2) := by decide +kernel
theorem dX2_can_46 : decode cX2_can 46 = .ok (.ifCond .ne 7, 3) := by decide +kernel
theorem dX2_can_49 : decode cX2_can 49 = .ok (.iconst 1, 1) := by decide +kernel
theorem dX2_can_50 : decode cX2_can 50 = .ok (.goto 4, 3) := by decide +kernel
theorem dX2_can_53 : decode cX2_can 53 = .ok (.iconst 0, 1) := by decide +kernel
theorem dX2_can_54 : decode cX2_can 54 = .ok (.ireturn, 1) := by decide +kernel
theorem dX2_can_55 : decode cX2_can 55 = .ok (.iload 4, 2) := by decide +kernel
theorem dX2_can_57 : decode cX2_can 57 = .ok (.ifCond .eq 17, 3) := by decide +kernel
theorem dX2_can_60 : decode cX2_can 60 = .ok (.aload_n 0, 1) := by decide +kernel
theorem dX2_can_61 : decode cX2_can 61 = .ok (.iload_n 1, 1) := by decide +kernel
theorem dX2_can_62 : decode cX2_can 62 = .ok (.iconst 1, 1) := by decide +kernel
theorem dX2_can_63 : decode cX2_can 63 = .ok (.invokevirtual 44, 3) := by decide +kernel
theorem dX2_can_66 : decode cX2_can 66 = .ok (.iload_n 3, 1) := by decide +kernel
theorem dX2_can_67 : decode cX2_can 67 = .ok (.if_icmp .lt 7, 3) := by decide +kernel
theorem dX2_can_70 : decode cX2_can 70 = .ok (.iconst 1, 1) := by decide +kernel
theorem dX2_can_71 : decode cX2_can 71 = .ok (.goto 4, 3) := by decide +kernel
theorem dX2_can_74 : decode cX2_can 74 = .ok (.iconst 0, 1) := by decide +kernel
theorem dX2_can_75 : decode cX2_can 75 = .ok (.ireturn, 1) := by decide +kernel
theorem dX2_can_76 : decode cX2_can 76 = .ok (.iload 4, 2) := by decide +kernel
theorem dX2_can_78 : decode cX2_can 78 = .ok (.ifCond .eq 26, 3) := by decide +kernel
theorem dX2_can_81 : decode cX2_can 81 = .ok (.aload_n 0, 1) := by decide +kernel
theorem dX2_can_82 : decode cX2_can 82 = .ok (.iload_n 1, 1) := by decide +kernel
theorem dX2_can_83 : decode cX2_can 83 = .ok (.iconst 3, 1) := by decide +kernel
theorem dX2_can_84 : decode cX2_can 84 = .ok (.invokevirtual 44, 3) := by decide +kernel
theorem dX2_can_87 : decode cX2_can 87 = .ok (.iload_n 3, 1) := by decide +kernel
theorem dX2_can_88 : decode cX2_can 88 = .ok (.if_icmp .eq 16, 3) := by decide +kernel
theorem dX2_can_91 : decode cX2_can 91 = .ok (.aload_n 0, 1) := by decide +kernel
theorem dX2_can_92 : decode cX2_can 92 = .ok (.iload_n 1, 1) := by decide +kernel
theorem dX2_can_93 : decode cX2_can 93 = .ok (.iconst 1, 1) := by decide +kernel
theorem dX2_can_94 : decode cX2_can 94 = .ok (.invokevirtual 44, 3) := by decide +kernel
theorem dX2_can_97 : decode cX2_can 97 = .ok (.ifCond .le 7, 3) := by decide +kernel
theorem dX2_can_100 : decode cX2_can 100 = .ok (.iconst 1, 1) := by decide +kernel
theorem dX2_can_101 : decode cX2_can 101 = .ok (.goto 4, 3) := by decide +kernel
theorem dX2_can_104 : decode cX2_can 104 = .ok (.iconst 0, 1) := by decide +kernel
theorem dX2_can_105 : decode cX2_can 105 = .ok (.ireturn, 1) := by decide +kernel
theorem dX2_can_106 : decode cX2_can 106 = .ok (.iload 4, 2) := by decide +kernel
theorem dX2_can_108 : decode cX2_can 108 = .ok (.ireturn, 1) := by decide +kernel
set_option maxRecDepth 20000 in
theorem ggX2_change_X2_tr : GoodIn wsX2_change wsX2_tr := goodIn_r _ [15, 2, 20, 21, 22, 23, 24, 25, 26, 27] (by decide +kernel) (by decide +kernel)
set_option maxRecDepth 20000 in
theorem gX2_change_X2_tr : GoodIn wsX2_change (wsV RX2 44 RX2 yX2_tr wsX2_tr) := goodIn_app (goodIn_of _ (by decide +kernel)) ggX2_change_X2_tr
set_option maxRecDepth 20000 in
theorem ggX2_change_X2_set : GoodIn wsX2_change wsX2_set := goodIn_r _ [19, 2, 20, 21, 22, 23, 24, 25, 26, 27] (by decide +kernel) (by decide +kernel)
set_option maxRecDepth 20000 in
theorem gX2_change_X2_set : GoodIn wsX2_change (wsV RX2 54 RX2 yX2_set wsX2_set) := goodIn_app (goodIn_of _ (by decide +kernel)) ggX2_change_X2_set
theorem dX2_change_0 : decode cX2_change 0 = .ok (.iload_n 2, 1) := by decide +kernel
theorem dX2_change_1 : decode cX2_change 1 = .ok (.tableswitch 122 0 2 #[27, 70, 94], 27) := by decide +kernel
theorem dX2_change_28 : decode cX2_change 28 = .ok (.iconst 5, 1) := by decide +kernel
theorem dX2_change_29 : decode cX2_change 29 = .ok (.newarray .int, 2) := by decide +kernel
theorem dX2_change_31 : decode cX2_change 31 = .ok (.dup, 1) := by decide +kernel
theorem dX2_change_32 : decode cX2_change 32 = .ok (.iconst 0, 1) := by decide +kernel
theorem dX2_change_33 : decode cX2_change 33 = .ok (.iconst 1, 1) := by decide +kernel
theorem dX2_change_34 : decode cX2_change 34 = .ok (.iastore, 1) := by decide +kernel
theorem dX2_change_35 : decode cX2_change 35 = .ok (.dup, 1) := by decide +kernel
theorem dX2_change_36 : decode cX2_change 36 = .ok (.iconst 1, 1) := by decide +kernel
theorem dX2_change_37 : decode cX2_change 37 = .ok (.iconst 1, 1) := by decide +kernel
theorem dX2_change_38 : decode cX2_change 38 = .ok (.iastore, 1) := by decide +kernel
theorem dX2_change_39 : decode cX2_change 39 = .ok (.dup, 1) := by decide +kernel
theorem dX2_change_40 : decode cX2_change 40 = .ok (.iconst 2, 1) := by decide +kernel
theorem dX2_change_41 : decode cX2_change 41 = .ok (.iload 4, 2) := by decide +kernel
theorem dX2_change_43 : decode cX2_change 43 = .ok (.iastore, 1) := by decide +kernel
theorem dX2_change_44 : decode cX2_change 44 = .ok (.dup, 1) := by decide +kernel
theorem dX2_change_45 : decode cX2_change 45 = .ok (.iconst 3, 1) := by decide +kernel
theorem dX2_change_46 : decode cX2_change 46 = .ok (.iload_n 3, 1) := by decide +kernel
theorem dX2_change_47 : decode cX2_change 47 = .ok (.iastore, 1) := by decide +kernel
theorem dX2_change_48 : decode cX2_change 48 = .ok (.dup, 1) := by decide +kernel
theorem dX2_change_49 : decode cX2_change 49 = .ok (.iconst 4, 1) := by decide +kernel
theorem dX2_change_50 : decode cX2_change 50 = .ok (.iconst 0, 1) := by decide +kernel
theorem dX2_change_51 : decode cX2_change 51 = .ok (.iastore, 1) := by decide +kernel
theorem dX2_change_52 : decode cX2_change 52 = .ok (.astore 5, 2) := by decide +kernel
theorem dX2_change_54 : decode cX2_change 54 = .ok (.aload 5, 2) := by decide +kernel
theorem dX2_change_56 : decode cX2_change 56 = .ok (.iconst 0, 1) := by decide +kernel
theorem dX2_change_57 : decode cX2_change 57 = .ok (.aload_n 0, 1) := by decide +kernel
theorem dX2_change_58 : decode cX2_change 58 = .ok (.getfield 19, 3) := by decide +kernel
theorem dX2_change_61 : decode cX2_change 61 = .ok (.iconst 5, 1) := by decide +kernel
theorem dX2_change_62 : decode cX2_change 62 = .ok (.iload_n 1, 1) := by decide +kernel
theorem dX2_change_63 : decode cX2_change 63 = .ok (.imul, 1) := by decide +kernel
theorem dX2_change_64 : decode cX2_change 64 = .ok (.iconst 5, 1) := by decide +kernel
theorem dX2_change_65 : decode cX2_change 65 = .ok (.invokestatic 48, 3) := by decide +kernel
theorem dX2_change_68 : decode cX2_change 68 = .ok (.goto 78, 3) := by decide +kernel
theorem dX2_change_71 : decode cX2_change 71 = .ok (.aload_n 0, 1) := by decide +kernel
theorem dX2_change_72 : decode cX2_change 72 = .ok (.iload_n 1, 1) := by decide +kernel
theorem dX2_change_73 : decode cX2_change 73 = .ok (.iconst 1, 1) := by decide +kernel
theorem dX2_change_74 : decode cX2_change 74 = .ok (.aload_n 0, 1) := by decide +kernel
theorem dX2_change_75 : decode cX2_change 75 = .ok (.iload_n 1, 1) := by decide +kernel
theorem dX2_change_76 : decode cX2_change 76 = .ok (.iconst 1, 1) := by decide +kernel
theorem dX2_change_77 : decode cX2_change 77 = .ok (.invokevirtual 44, 3) := by decide +kernel
theorem dX2_change_80 : decode cX2_change 80 = .ok (.iload_n 3, 1) := by decide +kernel
theorem dX2_change_81 : decode cX2_change 81 = .ok (.isub, 1) := by decide +kernel
theorem dX2_change_82 : decode cX2_change 82 = .ok (.invokevirtual 54, 3) := by decide +kernel
theorem dX2_change_85 : decode cX2_change 85 = .ok (.aload_n 0, 1) := by decide +kernel
theorem dX2_change_86 : decode cX2_change 86 = .ok (.iload_n 1, 1) := by decide +kernel
theorem dX2_change_87 : decode cX2_change 87 = .ok (.iconst 4, 1) := by decide +kernel
theorem dX2_change_88 : decode cX2_change 88 = .ok (.iconst 0, 1) := by decide +kernel
theorem dX2_change_89 : decode cX2_change 89 = .ok (.invokevirtual 54, 3) := by decide +kernel
theorem dX2_change_92 : decode cX2_change 92 = .ok (.goto 54, 3) := by decide +kernel
theorem dX2_change_95 : decode cX2_change 95 = .ok (.aload_n 0, 1) := by decide +kernel
theorem dX2_change_96 : decode cX2_change 96 = .ok (.iload_n 1, 1) := by decide +kernel
theorem dX2_change_97 : decode cX2_change 97 = .ok (.iconst 3, 1) := by decide +kernel
theorem dX2_change_98 : decode cX2_change 98 = .ok (.iload_n 3, 1) := by decide +kernel
theorem dX2_change_99 : decode cX2_change 99 = .ok (.invokevirtual 54, 3) := by decide +kernel
theorem dX2_change_102 : decode cX2_change 102 = .ok (.aload_n 0, 1) := by decide +kernel
theorem dX2_change_103 : decode cX2_change 103 = .ok (.iload_n 1, 1) := by decide +kernel
theorem dX2_change_104 : decode cX2_change 104 = .ok (.iconst 1, 1) := by decide +kernel
theorem dX2_change_105 : decode cX2_change 105 = .ok (.iconst 1, 1) := by decide +kernel
theorem dX2_change_106 : decode cX2_change 106 = .ok (.aload_n 0, 1) := by decide +kernel
theorem dX2_change_107 : decode cX2_change 107 = .ok (.iload_n 1, 1) := by decide +kernel
theorem dX2_change_108 : decode cX2_change 108 = .ok (.iconst 1, 1) := by decide +kernel
theorem dX2_change_109 : decode cX2_change 109 = .ok (.invokevirtual 44, 3) := by decide +kernel
theorem dX2_change_112 : decode cX2_change 112 = .ok (.iconst 2, 1) := by decide +kernel
theorem dX2_change_113 : decode cX2_change 113 = .ok (.idiv, 1) := by decide +kernel
theorem dX2_change_114 : decode cX2_change 114 = .ok (.invokestatic 58, 3) := by decide +kernel
theorem dX2_change_117 : decode cX2_change 117 = .ok (.invokevirtual 54, 3) := by decide +kernel
theorem dX2_change_120 : decode cX2_change 120 = .ok (.goto 26, 3) := by decide +kernel
theorem dX2_change_123 : decode cX2_change 123 = .ok (.iconst 0, 1) := by decide +kernel
theorem dX2_change_124 : decode cX2_change 124 = .ok (.istore 6, 2) := by decide +kernel
theorem dX2_change_126 : decode cX2_change 126 = .ok (.iload 6, 2) := by decide +kernel
theorem dX2_change_128 : decode cX2_change 128 = .ok (.iconst 5, 1) := by decide +kernel
theorem dX2_change_129 : decode cX2_change 129 = .ok (.if_icmp .ge 17, 3) := by decide +kernel
theorem dX2_change_132 : decode cX2_change 132 = .ok (.aload_n 0, 1) := by decide +kernel
theorem dX2_change_133 : decode cX2_change 133 = .ok (.iload_n 1, 1) := by decide +kernel
theorem dX2_change_134 : decode cX2_change 134 = .ok (.iload 6, 2) := by decide +kernel
theorem dX2_change_136 : decode cX2_change 136 = .ok (.iconst 0, 1) := by decide +kernel
theorem dX2_change_137 : decode cX2_change 137 = .ok (.invokevirtual 54, 3) := by decide +kernel
theorem dX2_change_140 : decode cX2_change 140 = .ok (.iinc 6 1, 3) := by decide +kernel
theorem dX2_change_143 : decode cX2_change 143 = .ok (.goto (-17), 3) := by decide +kernel
theorem dX2_change_146 : decode cX2_change 146 = .ok (.return_, 1) := by decide +kernel
set_option maxRecDepth 20000 in
theorem ggX2_does_X2_can : GoodIn wsX2_does wsX2_can := goodIn_r _ [7, 8, 9, 10, 6, 11, 12, 30, 31, 32, 33, 34, 35, 36, 37] (by decide +kernel) (by decide +kernel)
set_option maxRecDepth 20000 in
theorem gX2_does_X2_can : GoodIn wsX2_does (wsV RX2 66 RX2 yX2_can wsX2_can) := goodIn_app (goodIn_of _ (by decide +kernel)) ggX2_does_X2_can
set_option maxRecDepth 20000 in
theorem ggX2_does_X2_change : GoodIn wsX2_does wsX2_change := goodIn_r _ [16, 17, 12, 18, 19, 20, 21, 22, 23, 24, 25, 8, 9, 10, 6, 11, 26, 27, 28, 29, 30, 31, 32, 33, 34, 35, 36, 37] (by decide +kernel) (by decide +kernel)
set_option maxRecDepth 20000 in
theorem gX2_does_X2_change : GoodIn wsX2_does (wsV RX2 69 RX2 yX2_change wsX2_change) := goodIn_app (goodIn_of _ (by decide +kernel)) ggX2_does_X2_change
theorem dX2_does_0 : decode cX2_does 0 = .ok (.iload_n 2, 1) := by decide +kernel
theorem dX2_does_1 : decode cX2_does 1 = .ok (.iconst 4, 1) := by decide +kernel
theorem dX2_does_2 : decode cX2_does 2 = .ok (.idiv, 1) := by decide +kernel
theorem dX2_does_3 : decode cX2_does 3 = .ok (.istore 6, 2) := by decide +kernel
theorem dX2_does_5 : decode cX2_does 5 = .ok (.bipush 8, 2) := by decide +kernel
theorem dX2_does_7 : decode cX2_does 7 = .ok (.iload_n 1, 1) := by decide +kernel
theorem dX2_does_8 : decode cX2_does 8 = .ok (.imul, 1) := by decide +kernel
theorem dX2_does_9 : decode cX2_does 9 = .ok (.iload_n 2, 1) := by decide +kernel
theorem dX2_does_10 : decode cX2_does 10 = .ok (.iadd, 1) := by decide +kernel
theorem dX2_does_11 : decode cX2_does 11 = .ok (.istore 7, 2) := by decide +kernel
theorem dX2_does_13 : decode cX2_does 13 = .ok (.aload_n 0, 1) := by decide +kernel
theorem dX2_does_14 : decode cX2_does 14 = .ok (.getfield 25, 3) := by decide +kernel
theorem dX2_does_17 : decode cX2_does 17 = .ok (.iload 6, 2) := by decide +kernel
theorem dX2_does_19 : decode cX2_does 19 = .ok (.iaload, 1) := by decide +kernel
theorem dX2_does_20 : decode cX2_does 20 = .ok (.getstatic 63, 3) := by decide +kernel
theorem dX2_does_23 : decode cX2_does 23 = .ok (.iload_n 3, 1) := by decide +kernel
theorem dX2_does_24 : decode cX2_does 24 = .ok (.iaload, 1) := by decide +kernel
theorem dX2_does_25 : decode cX2_does 25 = .ok (.if_icmp .lt 15, 3) := by decide +kernel
theorem dX2_does_28 : decode cX2_does 28 = .ok (.aload_n 0, 1) := by decide +kernel
theorem dX2_does_29 : decode cX2_does 29 = .ok (.iload 7, 2) := by decide +kernel
theorem dX2_does_31 : decode cX2_does 31 = .ok (.iload_n 3, 1) := by decide +kernel
theorem dX2_does_32 : decode cX2_does 32 = .ok (.iload 4, 2) := by decide +kernel
theorem dX2_does_34 : decode cX2_does 34 = .ok (.invokevirtual 66, 3) := by decide +kernel
theorem dX2_does_37 : decode cX2_does 37 = .ok (.ifCond .ne 5, 3) := by decide +kernel
theorem dX2_does_40 : decode cX2_does 40 = .ok (.iconst 0, 1) := by decide +kernel
theorem dX2_does_41 : decode cX2_does 41 = .ok (.ireturn, 1) := by decide +kernel
theorem dX2_does_42 : decode cX2_does 42 = .ok (.aload_n 0, 1) := by decide +kernel
theorem dX2_does_43 : decode cX2_does 43 = .ok (.getfield 25, 3) := by decide +kernel
theorem dX2_does_46 : decode cX2_does 46 = .ok (.iload 6, 2) := by decide +kernel
theorem dX2_does_48 : decode cX2_does 48 = .ok (.dup2, 1) := by decide +kernel
theorem dX2_does_49 : decode cX2_does 49 = .ok (.iaload, 1) := by decide +kernel
theorem dX2_does_50 : decode cX2_does 50 = .ok (.getstatic 63, 3) := by decide +kernel
theorem dX2_does_53 : decode cX2_does 53 = .ok (.iload_n 3, 1) := by decide +kernel
theorem dX2_does_54 : decode cX2_does 54 = .ok (.iaload, 1) := by decide +kernel
theorem dX2_does_55 : decode cX2_does 55 = .ok (.isub, 1) := by decide +kernel
theorem dX2_does_56 : decode cX2_does 56 = .ok (.iastore, 1) := by decide +kernel
theorem dX2_does_57 : decode cX2_does 57 = .ok (.aload_n 0, 1) := by decide +kernel
theorem dX2_does_58 : decode cX2_does 58 = .ok (.iload 7, 2) := by decide +kernel
theorem dX2_does_60 : decode cX2_does 60 = .ok (.iload_n 3, 1) := by decide +kernel
theorem dX2_does_61 : decode cX2_does 61 = .ok (.iload 4, 2) := by decide +kernel
theorem dX2_does_63 : decode cX2_does 63 = .ok (.iload 5, 2) := by decide +kernel
theorem dX2_does_65 : decode cX2_does 65 = .ok (.invokevirtual 69, 3) := by decide +kernel
theorem dX2_does_68 : decode cX2_does 68 = .ok (.iconst 1, 1) := by decide +kernel
theorem dX2_does_69 : decode cX2_does 69 = .ok (.ireturn, 1) := by decide +kernel
set_option maxRecDepth 20000 in
theorem ggX2_both_X2_does : GoodIn wsX2_both wsX2_does := goodIn_r _ [5, 6, 7, 8, 9, 10, 4, 11, 12, 13, 14, 15, 16, 17, 18, 19, 20, 21, 22, 23, 24, 25, 26, 27, 28, 29, 30, 31, 32, 33, 34, 35, 36, 37, 38, 39, 40, 41] (by decide +kernel) (by decide +kernel)
set_option maxRecDepth 20000 in
theorem gX2_both_X2_does : GoodIn wsX2_both (wsV RX2 73 RX2 yX2_does wsX2_does) := goodIn_app (goodIn_of _ (by decide +kernel)) ggX2_both_X2_does
theorem dX2_both_0 : decode cX2_both 0 = .ok (.aload_n 0, 1) := by decide +kernel
theorem dX2_both_1 : decode cX2_both 1 = .ok (.iload_n 1, 1) := by decide +kernel
theorem dX2_both_2 : decode cX2_both 2 = .ok (.iload_n 2, 1) := by decide +kernel
theorem dX2_both_3 : decode cX2_both 3 = .ok (.iload_n 3, 1) := by decide +kernel
theorem dX2_both_4 : decode cX2_both 4 = .ok (.iload 4, 2) := by decide +kernel
theorem dX2_both_6 : decode cX2_both 6 = .ok (.iload 5, 2) := by decide +kernel
theorem dX2_both_8 : decode cX2_both 8 = .ok (.invokevirtual 73, 3) := by decide +kernel
theorem dX2_both_11 : decode cX2_both 11 = .ok (.istore 6, 2) := by decide +kernel
theorem dX2_both_13 : decode cX2_both 13 = .ok (.aload_n 0, 1) := by decide +kernel
theorem dX2_both_14 : decode cX2_both 14 = .ok (.iload_n 1, 1) := by decide +kernel
theorem dX2_both_15 : decode cX2_both 15 = .ok (.bipush 7, 2) := by decide +kernel
theorem dX2_both_17 : decode cX2_both 17 = .ok (.iload_n 2, 1) := by decide +kernel
theorem dX2_both_18 : decode cX2_both 18 = .ok (.isub, 1) := by decide +kernel
theorem dX2_both_19 : decode cX2_both 19 = .ok (.iload_n 3, 1) := by decide +kernel
theorem dX2_both_20 : decode cX2_both 20 = .ok (.iload 4, 2) := by decide +kernel
theorem dX2_both_22 : decode cX2_both 22 = .ok (.iload 5, 2) := by decide +kernel
theorem dX2_both_24 : decode cX2_both 24 = .ok (.invokevirtual 73, 3) := by decide +kernel
theorem dX2_both_27 : decode cX2_both 27 = .ok (.istore 7, 2) := by decide +kernel
theorem dX2_both_29 : decode cX2_both 29 = .ok (.iload 6, 2) := by decide +kernel
theorem dX2_both_31 : decode cX2_both 31 = .ok (.ifCond .eq 7, 3) := by decide +kernel
theorem dX2_both_34 : decode cX2_both 34 = .ok (.iconst 1, 1) := by decide +kernel
theorem dX2_both_35 : decode cX2_both 35 = .ok (.goto 4, 3) := by decide +kernel
theorem dX2_both_38 : decode cX2_both 38 = .ok (.iconst 0, 1) := by decide +kernel
theorem dX2_both_39 : decode cX2_both 39 = .ok (.iload 7, 2) := by decide +kernel
theorem dX2_both_41 : decode cX2_both 41 = .ok (.ifCond .eq 7, 3) := by decide +kernel
theorem dX2_both_44 : decode cX2_both 44 = .ok (.iconst 2, 1) := by decide +kernel
theorem dX2_both_45 : decode cX2_both 45 = .ok (.goto 4, 3) := by decide +kernel
theorem dX2_both_48 : decode cX2_both 48 = .ok (.iconst 0, 1) := by decide +kernel
theorem dX2_both_49 : decode cX2_both 49 = .ok (.iadd, 1) := by decide +kernel
theorem dX2_both_50 : decode cX2_both 50 = .ok (.ireturn, 1) := by decide +kernel
set_option maxRecDepth 20000 in
theorem ggX2_plant_X2_isSpot : GoodIn wsX2_plant wsX2_isSpot := goodIn_r _ [5, 6, 7, 4, 8] (by decide +kernel) (by decide +kernel)
set_option maxRecDepth 20000 in
theorem gX2_plant_X2_isSpot : GoodIn wsX2_plant (va_wsS RX2 77 yX2_isSpot wsX2_isSpot) := goodIn_app (goodIn_of _ (by decide +kernel)) ggX2_plant_X2_isSpot
set_option maxRecDepth 20000 in
theorem ggX2_plant_X2_fail : GoodIn wsX2_plant wsX2_fail := goodIn_r _ [12, 1, 52, 53, 54, 55, 56, 57, 58, 59] (by decide +kernel) (by decide +kernel)
set_option maxRecDepth 20000 in
theorem gX2_plant_X2_fail : GoodIn wsX2_plant (wsV RX2 40 RX2 yX2_fail wsX2_fail) := goodIn_app (goodIn_of _ (by decide +kernel)) ggX2_plant_X2_fail
set_option maxRecDepth 20000 in
theorem ggX2_plant_X2_isSort : GoodIn wsX2_plant wsX2_isSort := goodIn_r _ [15, 6, 7, 4, 8] (by decide +kernel) (by decide +kernel)
set_option maxRecDepth 20000 in
theorem gX2_plant_X2_isSort : GoodIn wsX2_plant (va_wsS RX2 36 yX2_isSort wsX2_isSort) := goodIn_app (goodIn_of _ (by decide +kernel)) ggX2_plant_X2_isSort
set_option maxRecDepth 20000 in
theorem ggX2_plant_X2_isIn : GoodIn wsX2_plant wsX2_isIn := goodIn_r _ [8] (by decide +kernel) (by decide +kernel)
set_option maxRecDepth 20000 in
theorem gX2_plant_X2_isIn : GoodIn wsX2_plant (va_wsS RX2 32 yX2_isIn wsX2_isIn) := goodIn_app (goodIn_of _ (by decide +kernel)) ggX2_plant_X2_isIn
set_option maxRecDepth 20000 in
theorem ggX2_plant_X2_both : GoodIn wsX2_plant wsX2_both := goodIn_r _ [19, 20, 21, 22, 4, 23, 24, 25, 26, 27, 28, 29, 30, 31, 32, 33, 34, 35, 36, 37, 38, 39, 40, 41, 42, 43, 44, 45, 46, 47, 48, 49, 50, 51, 52, 53, 54, 55, 56, 57, 58, 59] (by decide +kernel) (by decide +kernel)
set_option maxRecDepth 20000 in
theorem gX2_plant_X2_both : GoodIn wsX2_plant (wsV RX2 81 RX2 yX2_both wsX2_both) := goodIn_app (goodIn_of _ (by decide +kernel)) ggX2_plant_X2_both
theorem dX2_plant_0 : decode cX2_plant 0 = .ok (.aload_n 0, 1) := by decide +kernel
theorem dX2_plant_1 : decode cX2_plant 1 = .ok (.iconst 0, 1) := by decide +kernel
theorem dX2_plant_2 : decode cX2_plant 2 = .ok (.putfield 28, 3) := by decide +kernel
theorem dX2_plant_5 : decode cX2_plant 5 = .ok (.iload_n 1, 1) := by decide +kernel
theorem dX2_plant_6 : decode cX2_plant 6 = .ok (.iload_n 2, 1) := by decide +kernel
theorem dX2_plant_7 : decode cX2_plant 7 = .ok (.invokestatic 77, 3) := by decide +kernel
theorem dX2_plant_10 : decode cX2_plant 10 = .ok (.ifCond .ne 9, 3) := by decide +kernel
theorem dX2_plant_13 : decode cX2_plant 13 = .ok (.aload_n 0, 1) := by decide +kernel
theorem dX2_plant_14 : decode cX2_plant 14 = .ok (.iconst 1, 1) := by decide +kernel
theorem dX2_plant_15 : decode cX2_plant 15 = .ok (.invokevirtual 40, 3) := by decide +kernel
theorem dX2_plant_18 : decode cX2_plant 18 = .ok (.ireturn, 1) := by decide +kernel
theorem dX2_plant_19 : decode cX2_plant 19 = .ok (.iload_n 3, 1) := by decide +kernel
theorem dX2_plant_20 : decode cX2_plant 20 = .ok (.invokestatic 36, 3) := by decide +kernel
theorem dX2_plant_23 : decode cX2_plant 23 = .ok (.ifCond .eq 27, 3) := by decide +kernel
theorem dX2_plant_26 : decode cX2_plant 26 = .ok (.iload 4, 2) := by decide +kernel
theorem dX2_plant_28 : decode cX2_plant 28 = .ok (.iconst 1, 1) := by decide +kernel
theorem dX2_plant_29 : decode cX2_plant 29 = .ok (.bipush 9, 2) := by decide +kernel
theorem dX2_plant_31 : decode cX2_plant 31 = .ok (.invokestatic 32, 3) := by decide +kernel
theorem dX2_plant_34 : decode cX2_plant 34 = .ok (.ifCond .eq 16, 3) := by decide +kernel
theorem dX2_plant_37 : decode cX2_plant 37 = .ok (.aload_n 0, 1) := by decide +kernel
theorem dX2_plant_38 : decode cX2_plant 38 = .ok (.iload_n 1, 1) := by decide +kernel
theorem dX2_plant_39 : decode cX2_plant 39 = .ok (.iload_n 2, 1) := by decide +kernel
theorem dX2_plant_40 : decode cX2_plant 40 = .ok (.iconst 0, 1) := by decide +kernel
theorem dX2_plant_41 : decode cX2_plant 41 = .ok (.iload_n 3, 1) := by decide +kernel
theorem dX2_plant_42 : decode cX2_plant 42 = .ok (.iload 4, 2) := by decide +kernel
theorem dX2_plant_44 : decode cX2_plant 44 = .ok (.invokevirtual 81, 3) := by decide +kernel
theorem dX2_plant_47 : decode cX2_plant 47 = .ok (.goto 8, 3) := by decide +kernel
theorem dX2_plant_50 : decode cX2_plant 50 = .ok (.aload_n 0, 1) := by decide +kernel
theorem dX2_plant_51 : decode cX2_plant 51 = .ok (.iconst 2, 1) := by decide +kernel
theorem dX2_plant_52 : decode cX2_plant 52 = .ok (.invokevirtual 40, 3) := by decide +kernel
theorem dX2_plant_55 : decode cX2_plant 55 = .ok (.ireturn, 1) := by decide +kernel
set_option maxRecDepth 20000 in
theorem ggX2_prune_X2_isSpot : GoodIn wsX2_prune wsX2_isSpot := goodIn_r _ [5, 6, 7, 4, 8] (by decide +kernel) (by decide +kernel)
set_option maxRecDepth 20000 in
theorem gX2_prune_X2_isSpot : GoodIn wsX2_prune (va_wsS RX2 77 yX2_isSpot wsX2_isSpot) := goodIn_app (goodIn_of _ (by decide +kernel)) ggX2_prune_X2_isSpot
set_option maxRecDepth 20000 in
theorem ggX2_prune_X2_fail : GoodIn wsX2_prune wsX2_fail := goodIn_r _ [12, 1, 49, 50, 51, 52, 53, 54, 55, 56] (by decide +kernel) (by decide +kernel)
set_option maxRecDepth 20000 in
theorem gX2_prune_X2_fail : GoodIn wsX2_prune (wsV RX2 40 RX2 yX2_fail wsX2_fail) := goodIn_app (goodIn_of _ (by decide +kernel)) ggX2_prune_X2_fail
set_option maxRecDepth 20000 in
theorem ggX2_prune_X2_isIn : GoodIn wsX2_prune wsX2_isIn := goodIn_r _ [8] (by decide +kernel) (by decide +kernel)
set_option maxRecDepth 20000 in
theorem gX2_prune_X2_isIn : GoodIn wsX2_prune (va_wsS RX2 32 yX2_isIn wsX2_isIn) := goodIn_app (goodIn_of _ (by decide +kernel)) ggX2_prune_X2_isIn
set_option maxRecDepth 20000 in
theorem ggX2_prune_X2_both : GoodIn wsX2_prune wsX2_both := goodIn_r _ [16, 17, 18, 19, 4, 20, 21, 22, 23, 24, 25, 26, 27, 28, 29, 30, 31, 32, 33, 34, 35, 36, 37, 38, 39, 40, 41, 42, 43, 44, 45, 46, 47, 48, 49, 50, 51, 52, 53, 54, 55, 56] (by decide +kernel) (by decide +kernel)
set_option maxRecDepth 20000 in
theorem gX2_prune_X2_both : GoodIn wsX2_prune (wsV RX2 81 RX2 yX2_both wsX2_both) := goodIn_app (goodIn_of _ (by decide +kernel)) ggX2_prune_X2_both
theorem dX2_prune_0 : decode cX2_prune 0 = .ok (.aload_n 0, 1) := by decide +kernel
theorem dX2_prune_1 : decode cX2_prune 1 = .ok (.iconst 0, 1) := by decide +kernel
theorem dX2_prune_2 : decode cX2_prune 2 = .ok (.putfield 28, 3) := by decide +kernel
theorem dX2_prune_5 : decode cX2_prune 5 = .ok (.iload_n 1, 1) := by decide +kernel
theorem dX2_prune_6 : decode cX2_prune 6 = .ok (.iload_n 2, 1) := by decide +kernel
theorem dX2_prune_7 : decode cX2_prune 7 = .ok (.invokestatic 77, 3) := by decide +kernel
theorem dX2_prune_10 : decode cX2_prune 10 = .ok (.ifCond .ne 9, 3) := by decide +kernel
theorem dX2_prune_13 : decode cX2_prune 13 = .ok (.aload_n 0, 1) := by decide +kernel
theorem dX2_prune_14 : decode cX2_prune 14 = .ok (.iconst 1, 1) := by decide +kernel
theorem dX2_prune_15 : decode cX2_prune 15 = .ok (.invokevirtual 40, 3) := by decide +kernel
theorem dX2_prune_18 : decode cX2_prune 18 = .ok (.ireturn, 1) := by decide +kernel
theorem dX2_prune_19 : decode cX2_prune 19 = .ok (.iload_n 3, 1) := by decide +kernel
theorem dX2_prune_20 : decode cX2_prune 20 = .ok (.iconst 1, 1) := by decide +kernel
theorem dX2_prune_21 : decode cX2_prune 21 = .ok (.bipush 9, 2) := by decide +kernel
theorem dX2_prune_23 : decode cX2_prune 23 = .ok (.invokestatic 32, 3) := by decide +kernel
theorem dX2_prune_26 : decode cX2_prune 26 = .ok (.ifCond .eq 15, 3) := by decide +kernel
theorem dX2_prune_29 : decode cX2_prune 29 = .ok (.aload_n 0, 1) := by decide +kernel
theorem dX2_prune_30 : decode cX2_prune 30 = .ok (.iload_n 1, 1) := by decide +kernel
theorem dX2_prune_31 : decode cX2_prune 31 = .ok (.iload_n 2, 1) := by decide +kernel
theorem dX2_prune_32 : decode cX2_prune 32 = .ok (.iconst 1, 1) := by decide +kernel
theorem dX2_prune_33 : decode cX2_prune 33 = .ok (.iload_n 3, 1) := by decide +kernel
theorem dX2_prune_34 : decode cX2_prune 34 = .ok (.iconst 0, 1) := by decide +kernel
theorem dX2_prune_35 : decode cX2_prune 35 = .ok (.invokevirtual 81, 3) := by decide +kernel
theorem dX2_prune_38 : decode cX2_prune 38 = .ok (.goto 8, 3) := by decide +kernel
theorem dX2_prune_41 : decode cX2_prune 41 = .ok (.aload_n 0, 1) := by decide +kernel
theorem dX2_prune_42 : decode cX2_prune 42 = .ok (.iconst 2, 1) := by decide +kernel
theorem dX2_prune_43 : decode cX2_prune 43 = .ok (.invokevirtual 40, 3) := by decide +kernel
theorem dX2_prune_46 : decode cX2_prune 46 = .ok (.ireturn, 1) := by decide +kernel
set_option maxRecDepth 20000 in
theorem ggX2_graft_X2_isSpot : GoodIn wsX2_graft wsX2_isSpot := goodIn_r _ [5, 6, 7, 4, 8] (by decide +kernel) (by decide +kernel)
set_option maxRecDepth 20000 in
theorem gX2_graft_X2_isSpot : GoodIn wsX2_graft (va_wsS RX2 77 yX2_isSpot wsX2_isSpot) := goodIn_app (goodIn_of _ (by decide +kernel)) ggX2_graft_X2_isSpot
set_option maxRecDepth 20000 in
theorem ggX2_graft_X2_fail : GoodIn wsX2_graft wsX2_fail := goodIn_r _ [12, 1, 52, 53, 54, 55, 56, 57, 58, 59] (by decide +kernel) (by decide +kernel)
set_option maxRecDepth 20000 in
theorem gX2_graft_X2_fail : GoodIn wsX2_graft (wsV RX2 40 RX2 yX2_fail wsX2_fail) := goodIn_app (goodIn_of _ (by decide +kernel)) ggX2_graft_X2_fail
set_option maxRecDepth 20000 in
theorem ggX2_graft_X2_isSort : GoodIn wsX2_graft wsX2_isSort := goodIn_r _ [15, 6, 7, 4, 8] (by decide +kernel) (by decide +kernel)
set_option maxRecDepth 20000 in
theorem gX2_graft_X2_isSort : GoodIn wsX2_graft (va_wsS RX2 36 yX2_isSort wsX2_isSort) := goodIn_app (goodIn_of _ (by decide +kernel)) ggX2_graft_X2_isSort
set_option maxRecDepth 20000 in
theorem ggX2_graft_X2_both : GoodIn wsX2_graft wsX2_both := goodIn_r _ [19, 20, 21, 22, 4, 23, 24, 25, 26, 27, 28, 29, 30, 31, 32, 33, 34, 35, 36, 37, 38, 39, 40, 41, 42, 43, 44, 45, 46, 47, 48, 49, 50, 51, 52, 53, 54, 55, 56, 57, 58, 59] (by decide +kernel) (by decide +kernel)
set_option maxRecDepth 20000 in
theorem gX2_graft_X2_both : GoodIn wsX2_graft (wsV RX2 81 RX2 yX2_both wsX2_both) := goodIn_app (goodIn_of _ (by decide +kernel)) ggX2_graft_X2_both
theorem dX2_graft_0 : decode cX2_graft 0 = .ok (.aload_n 0, 1) := by decide +kernel
theorem dX2_graft_1 : decode cX2_graft 1 = .ok (.iconst 0, 1) := by decide +kernel
theorem dX2_graft_2 : decode cX2_graft 2 = .ok (.putfield 28, 3) := by decide +kernel
theorem dX2_graft_5 : decode cX2_graft 5 = .ok (.iload_n 1, 1) := by decide +kernel
theorem dX2_graft_6 : decode cX2_graft 6 = .ok (.iload_n 2, 1) := by decide +kernel
theorem dX2_graft_7 : decode cX2_graft 7 = .ok (.invokestatic 77, 3) := by decide +kernel
theorem dX2_graft_10 : decode cX2_graft 10 = .ok (.ifCond .ne 9, 3) := by decide +kernel
theorem dX2_graft_13 : decode cX2_graft 13 = .ok (.aload_n 0, 1) := by decide +kernel
theorem dX2_graft_14 : decode cX2_graft 14 = .ok (.iconst 1, 1) := by decide +kernel
theorem dX2_graft_15 : decode cX2_graft 15 = .ok (.invokevirtual 40, 3) := by decide +kernel
theorem dX2_graft_18 : decode cX2_graft 18 = .ok (.ireturn, 1) := by decide +kernel
theorem dX2_graft_19 : decode cX2_graft 19 = .ok (.iload_n 3, 1) := by decide +kernel
theorem dX2_graft_20 : decode cX2_graft 20 = .ok (.invokestatic 36, 3) := by decide +kernel
theorem dX2_graft_23 : decode cX2_graft 23 = .ok (.ifCond .eq 15, 3) := by decide +kernel
theorem dX2_graft_26 : decode cX2_graft 26 = .ok (.aload_n 0, 1) := by decide +kernel
theorem dX2_graft_27 : decode cX2_graft 27 = .ok (.iload_n 1, 1) := by decide +kernel
theorem dX2_graft_28 : decode cX2_graft 28 = .ok (.iload_n 2, 1) := by decide +kernel
theorem dX2_graft_29 : decode cX2_graft 29 = .ok (.iconst 2, 1) := by decide +kernel
theorem dX2_graft_30 : decode cX2_graft 30 = .ok (.iload_n 3, 1) := by decide +kernel
theorem dX2_graft_31 : decode cX2_graft 31 = .ok (.iconst 0, 1) := by decide +kernel
theorem dX2_graft_32 : decode cX2_graft 32 = .ok (.invokevirtual 81, 3) := by decide +kernel
theorem dX2_graft_35 : decode cX2_graft 35 = .ok (.goto 8, 3) := by decide +kernel
theorem dX2_graft_38 : decode cX2_graft 38 = .ok (.aload_n 0, 1) := by decide +kernel
theorem dX2_graft_39 : decode cX2_graft 39 = .ok (.iconst 2, 1) := by decide +kernel
theorem dX2_graft_40 : decode cX2_graft 40 = .ok (.invokevirtual 40, 3) := by decide +kernel
theorem dX2_graft_43 : decode cX2_graft 43 = .ok (.ireturn, 1) := by decide +kernel
set_option maxRecDepth 20000 in
theorem ggX2_fell_X2_isSpot : GoodIn wsX2_fell wsX2_isSpot := goodIn_r _ [5, 6, 7, 4, 8] (by decide +kernel) (by decide +kernel)
set_option maxRecDepth 20000 in
theorem gX2_fell_X2_isSpot : GoodIn wsX2_fell (va_wsS RX2 77 yX2_isSpot wsX2_isSpot) := goodIn_app (goodIn_of _ (by decide +kernel)) ggX2_fell_X2_isSpot
set_option maxRecDepth 20000 in
theorem ggX2_fell_X2_both : GoodIn wsX2_fell wsX2_both := goodIn_r _ [12, 13, 14, 15, 4, 16, 17, 18, 19, 20, 21, 22, 23, 24, 25, 26, 27, 28, 29, 30, 31, 32, 33, 34, 35, 36, 37, 38, 39, 40, 41, 42, 43, 44, 49, 50, 51, 52, 53, 54, 55, 56] (by decide +kernel) (by decide +kernel)
set_option maxRecDepth 20000 in
theorem gX2_fell_X2_both : GoodIn wsX2_fell (wsV RX2 81 RX2 yX2_both wsX2_both) := goodIn_app (goodIn_of _ (by decide +kernel)) ggX2_fell_X2_both
set_option maxRecDepth 20000 in
theorem ggX2_fell_X2_fail : GoodIn wsX2_fell wsX2_fail := goodIn_r _ [48, 1, 49, 50, 51, 52, 53, 54, 55, 56] (by decide +kernel) (by decide +kernel)
set_option maxRecDepth 20000 in
theorem gX2_fell_X2_fail : GoodIn wsX2_fell (wsV RX2 40 RX2 yX2_fail wsX2_fail) := goodIn_app (goodIn_of _ (by decide +kernel)) ggX2_fell_X2_fail
theorem dX2_fell_0 : decode cX2_fell 0 = .ok (.aload_n 0, 1) := by decide +kernel
theorem dX2_fell_1 : decode cX2_fell 1 = .ok (.iconst 0, 1) := by decide +kernel
theorem dX2_fell_2 : decode cX2_fell 2 = .ok (.putfield 28, 3) := by decide +kernel
theorem dX2_fell_5 : decode cX2_fell 5 = .ok (.iload_n 1, 1) := by decide +kernel
theorem dX2_fell_6 : decode cX2_fell 6 = .ok (.iload_n 2, 1) := by decide +kernel
theorem dX2_fell_7 : decode cX2_fell 7 = .ok (.invokestatic 77, 3) := by decide +kernel
theorem dX2_fell_10 : decode cX2_fell 10 = .ok (.ifCond .eq 15, 3) := by decide +kernel
theorem dX2_fell_13 : decode cX2_fell 13 = .ok (.aload_n 0, 1) := by decide +kernel
theorem dX2_fell_14 : decode cX2_fell 14 = .ok (.iload_n 1, 1) := by decide +kernel
theorem dX2_fell_15 : decode cX2_fell 15 = .ok (.iload_n 2, 1) := by decide +kernel
theorem dX2_fell_16 : decode cX2_fell 16 = .ok (.iconst 3, 1) := by decide +kernel
theorem dX2_fell_17 : decode cX2_fell 17 = .ok (.iconst 0, 1) := by decide +kernel
theorem dX2_fell_18 : decode cX2_fell 18 = .ok (.iconst 0, 1) := by decide +kernel
theorem dX2_fell_19 : decode cX2_fell 19 = .ok (.invokevirtual 81, 3) := by decide +kernel
theorem dX2_fell_22 : decode cX2_fell 22 = .ok (.goto 8, 3) := by decide +kernel
theorem dX2_fell_25 : decode cX2_fell 25 = .ok (.aload_n 0, 1) := by decide +kernel
theorem dX2_fell_26 : decode cX2_fell 26 = .ok (.iconst 1, 1) := by decide +kernel
theorem dX2_fell_27 : decode cX2_fell 27 = .ok (.invokevirtual 40, 3) := by decide +kernel
theorem dX2_fell_30 : decode cX2_fell 30 = .ok (.ireturn, 1) := by decide +kernel
set_option maxRecDepth 20000 in
theorem ggX2_apples_X2_tr : GoodIn wsX2_apples wsX2_tr := goodIn_r _ [5, 6, 7, 8, 9, 10, 11, 12, 13, 14] (by decide +kernel) (by decide +kernel)
set_option maxRecDepth 20000 in
theorem gX2_apples_X2_tr : GoodIn wsX2_apples (wsV RX2 44 RX2 yX2_tr wsX2_tr) := goodIn_app (goodIn_of _ (by decide +kernel)) ggX2_apples_X2_tr
theorem dX2_apples_0 : decode cX2_apples 0 = .ok (.aload_n 0, 1) := by decide +kernel
theorem dX2_apples_1 : decode cX2_apples 1 = .ok (.iload_n 1, 1) := by decide +kernel
theorem dX2_apples_2 : decode cX2_apples 2 = .ok (.iconst 1, 1) := by decide +kernel
theorem dX2_apples_3 : decode cX2_apples 3 = .ok (.invokevirtual 44, 3) := by decide +kernel
theorem dX2_apples_6 : decode cX2_apples 6 = .ok (.aload_n 0, 1) := by decide +kernel
theorem dX2_apples_7 : decode cX2_apples 7 = .ok (.iload_n 1, 1) := by decide +kernel
theorem dX2_apples_8 : decode cX2_apples 8 = .ok (.iconst 2, 1) := by decide +kernel
theorem dX2_apples_9 : decode cX2_apples 9 = .ok (.invokevirtual 44, 3) := by decide +kernel
theorem dX2_apples_12 : decode cX2_apples 12 = .ok (.imul, 1) := by decide +kernel
theorem dX2_apples_13 : decode cX2_apples 13 = .ok (.istore_n 2, 1) := by decide +kernel
theorem dX2_apples_14 : decode cX2_apples 14 = .ok (.aload_n 0, 1) := by decide +kernel
theorem dX2_apples_15 : decode cX2_apples 15 = .ok (.iload_n 1, 1) := by decide +kernel
theorem dX2_apples_16 : decode cX2_apples 16 = .ok (.iconst 4, 1) := by decide +kernel
theorem dX2_apples_17 : decode cX2_apples 17 = .ok (.invokevirtual 44, 3) := by decide +kernel
theorem dX2_apples_20 : decode cX2_apples 20 = .ok (.iconst 1, 1) := by decide +kernel
theorem dX2_apples_21 : decode cX2_apples 21 = .ok (.if_icmp .ne 9, 3) := by decide +kernel
theorem dX2_apples_24 : decode cX2_apples 24 = .ok (.iload_n 2, 1) := by decide +kernel
theorem dX2_apples_25 : decode cX2_apples 25 = .ok (.iconst 4, 1) := by decide +kernel
theorem dX2_apples_26 : decode cX2_apples 26 = .ok (.idiv, 1) := by decide +kernel
theorem dX2_apples_27 : decode cX2_apples 27 = .ok (.goto 4, 3) := by decide +kernel
theorem dX2_apples_30 : decode cX2_apples 30 = .ok (.iload_n 2, 1) := by decide +kernel
theorem dX2_apples_31 : decode cX2_apples 31 = .ok (.ireturn, 1) := by decide +kernel
set_option maxRecDepth 20000 in
theorem ggX2_treeTold_X2_apples : GoodIn wsX2_treeTold wsX2_apples := goodIn_r _ [5, 6, 7, 8, 4, 9, 10, 11, 12, 13, 14, 15, 16, 17, 18] (by decide +kernel) (by decide +kernel)
set_option maxRecDepth 20000 in
theorem gX2_treeTold_X2_apples : GoodIn wsX2_treeTold (wsV RX2 85 RX2 yX2_apples wsX2_apples) := goodIn_app (goodIn_of _ (by decide +kernel)) ggX2_treeTold_X2_apples
set_option maxRecDepth 20000 in
theorem ggX2_treeTold_X2_tr : GoodIn wsX2_treeTold wsX2_tr := goodIn_r _ [9, 10, 11, 12, 13, 14, 15, 16, 17, 18] (by decide +kernel) (by decide +kernel)
set_option maxRecDepth 20000 in
theorem gX2_treeTold_X2_tr : GoodIn wsX2_treeTold (wsV RX2 44 RX2 yX2_tr wsX2_tr) := goodIn_app (goodIn_of _ (by decide +kernel)) ggX2_treeTold_X2_tr
theorem dX2_treeTold_0 : decode cX2_treeTold 0 = .ok (.iload_n 2, 1) := by decide +kernel
theorem dX2_treeTold_1 : decode cX2_treeTold 1 = .ok (.iconst 5, 1) := by decide +kernel
theorem dX2_treeTold_2 : decode cX2_treeTold 2 = .ok (.if_icmp .ne 9, 3) := by decide +kernel
theorem dX2_treeTold_5 : decode cX2_treeTold 5 = .ok (.aload_n 0, 1) := by decide +kernel
theorem dX2_treeTold_6 : decode cX2_treeTold 6 = .ok (.iload_n 1, 1) := by decide +kernel
theorem dX2_treeTold_7 : decode cX2_treeTold 7 = .ok (.invokevirtual 85, 3) := by decide +kernel
theorem dX2_treeTold_10 : decode cX2_treeTold 10 = .ok (.ireturn, 1) := by decide +kernel
theorem dX2_treeTold_11 : decode cX2_treeTold 11 = .ok (.iload_n 2, 1) := by decide +kernel
theorem dX2_treeTold_12 : decode cX2_treeTold 12 = .ok (.iconst 3, 1) := by decide +kernel
theorem dX2_treeTold_13 : decode cX2_treeTold 13 = .ok (.if_icmp .ne 16, 3) := by decide +kernel
theorem dX2_treeTold_16 : decode cX2_treeTold 16 = .ok (.aload_n 0, 1) := by decide +kernel
theorem dX2_treeTold_17 : decode cX2_treeTold 17 = .ok (.iload_n 1, 1) := by decide +kernel
theorem dX2_treeTold_18 : decode cX2_treeTold 18 = .ok (.iconst 0, 1) := by decide +kernel
theorem dX2_treeTold_19 : decode cX2_treeTold 19 = .ok (.invokevirtual 44, 3) := by decide +kernel
theorem dX2_treeTold_22 : decode cX2_treeTold 22 = .ok (.ifCond .ne 7, 3) := by decide +kernel
theorem dX2_treeTold_25 : decode cX2_treeTold 25 = .ok (.iconst (-1), 1) := by decide +kernel
theorem dX2_treeTold_26 : decode cX2_treeTold 26 = .ok (.goto 9, 3) := by decide +kernel
theorem dX2_treeTold_29 : decode cX2_treeTold 29 = .ok (.aload_n 0, 1) := by decide +kernel
theorem dX2_treeTold_30 : decode cX2_treeTold 30 = .ok (.iload_n 1, 1) := by decide +kernel
theorem dX2_treeTold_31 : decode cX2_treeTold 31 = .ok (.iload_n 2, 1) := by decide +kernel
theorem dX2_treeTold_32 : decode cX2_treeTold 32 = .ok (.invokevirtual 44, 3) := by decide +kernel
theorem dX2_treeTold_35 : decode cX2_treeTold 35 = .ok (.ireturn, 1) := by decide +kernel
set_option maxRecDepth 20000 in
theorem ggX2_tree_X2_isSpot : GoodIn wsX2_tree wsX2_isSpot := goodIn_r _ [5, 6, 7, 4, 8] (by decide +kernel) (by decide +kernel)
set_option maxRecDepth 20000 in
theorem gX2_tree_X2_isSpot : GoodIn wsX2_tree (va_wsS RX2 77 yX2_isSpot wsX2_isSpot) := goodIn_app (goodIn_of _ (by decide +kernel)) ggX2_tree_X2_isSpot
set_option maxRecDepth 20000 in
theorem ggX2_tree_X2_isIn : GoodIn wsX2_tree wsX2_isIn := goodIn_r _ [8] (by decide +kernel) (by decide +kernel)
set_option maxRecDepth 20000 in
theorem gX2_tree_X2_isIn : GoodIn wsX2_tree (va_wsS RX2 32 yX2_isIn wsX2_isIn) := goodIn_app (goodIn_of _ (by decide +kernel)) ggX2_tree_X2_isIn
set_option maxRecDepth 20000 in
theorem ggX2_tree_X2_treeTold : GoodIn wsX2_tree wsX2_treeTold := goodIn_r _ [12, 13, 14, 15, 4, 16, 17, 18, 19, 20, 21, 26, 27, 28, 29, 30, 31, 32, 33] (by decide +kernel) (by decide +kernel)
set_option maxRecDepth 20000 in
theorem gX2_tree_X2_treeTold : GoodIn wsX2_tree (wsV RX2 88 RX2 yX2_treeTold wsX2_treeTold) := goodIn_app (goodIn_of _ (by decide +kernel)) ggX2_tree_X2_treeTold
set_option maxRecDepth 20000 in
theorem ggX2_tree_X2_fail : GoodIn wsX2_tree wsX2_fail := goodIn_r _ [25, 1, 26, 27, 28, 29, 30, 31, 32, 33] (by decide +kernel) (by decide +kernel)
set_option maxRecDepth 20000 in
theorem gX2_tree_X2_fail : GoodIn wsX2_tree (wsV RX2 40 RX2 yX2_fail wsX2_fail) := goodIn_app (goodIn_of _ (by decide +kernel)) ggX2_tree_X2_fail
theorem dX2_tree_0 : decode cX2_tree 0 = .ok (.aload_n 0, 1) := by decide +kernel
theorem dX2_tree_1 : decode cX2_tree 1 = .ok (.iconst 0, 1) := by decide +kernel
theorem dX2_tree_2 : decode cX2_tree 2 = .ok (.putfield 28, 3) := by decide +kernel
theorem dX2_tree_5 : decode cX2_tree 5 = .ok (.iload_n 1, 1) := by decide +kernel
theorem dX2_tree_6 : decode cX2_tree 6 = .ok (.iload_n 2, 1) := by decide +kernel
theorem dX2_tree_7 : decode cX2_tree 7 = .ok (.invokestatic 77, 3) := by decide +kernel
theorem dX2_tree_10 : decode cX2_tree 10 = .ok (.ifCond .eq 26, 3) := by decide +kernel
theorem dX2_tree_13 : decode cX2_tree 13 = .ok (.iload_n 3, 1) := by decide +kernel
theorem dX2_tree_14 : decode cX2_tree 14 = .ok (.iconst 0, 1) := by decide +kernel
theorem dX2_tree_15 : decode cX2_tree 15 = .ok (.iconst 5, 1) := by decide +kernel
theorem dX2_tree_16 : decode cX2_tree 16 = .ok (.invokestatic 32, 3) := by decide +kernel
theorem dX2_tree_19 : decode cX2_tree 19 = .ok (.ifCond .eq 17, 3) := by decide +kernel
theorem dX2_tree_22 : decode cX2_tree 22 = .ok (.aload_n 0, 1) := by decide +kernel
theorem dX2_tree_23 : decode cX2_tree 23 = .ok (.bipush 8, 2) := by decide +kernel
theorem dX2_tree_25 : decode cX2_tree 25 = .ok (.iload_n 1, 1) := by decide +kernel
theorem dX2_tree_26 : decode cX2_tree 26 = .ok (.imul, 1) := by decide +kernel
theorem dX2_tree_27 : decode cX2_tree 27 = .ok (.iload_n 2, 1) := by decide +kernel
theorem dX2_tree_28 : decode cX2_tree 28 = .ok (.iadd, 1) := by decide +kernel
theorem dX2_tree_29 : decode cX2_tree 29 = .ok (.iload_n 3, 1) := by decide +kernel
theorem dX2_tree_30 : decode cX2_tree 30 = .ok (.invokevirtual 88, 3) := by decide +kernel
theorem dX2_tree_33 : decode cX2_tree 33 = .ok (.goto 8, 3) := by decide +kernel
theorem dX2_tree_36 : decode cX2_tree 36 = .ok (.aload_n 0, 1) := by decide +kernel
theorem dX2_tree_37 : decode cX2_tree 37 = .ok (.iconst 1, 1) := by decide +kernel
theorem dX2_tree_38 : decode cX2_tree 38 = .ok (.invokevirtual 40, 3) := by decide +kernel
theorem dX2_tree_41 : decode cX2_tree 41 = .ok (.ireturn, 1) := by decide +kernel
set_option maxRecDepth 20000 in
theorem ggX2_sortTold_X2_tr : GoodIn wsX2_sortTold wsX2_tr := goodIn_r _ [8, 9, 10, 11, 12, 13, 14, 15, 16, 17] (by decide +kernel) (by decide +kernel)
set_option maxRecDepth 20000 in
theorem gX2_sortTold_X2_tr : GoodIn wsX2_sortTold (wsV RX2 44 RX2 yX2_tr wsX2_tr) := goodIn_app (goodIn_of _ (by decide +kernel)) ggX2_sortTold_X2_tr
theorem dX2_sortTold_0 : decode cX2_sortTold 0 = .ok (.iconst 0, 1) := by decide +kernel
theorem dX2_sortTold_1 : decode cX2_sortTold 1 = .ok (.istore_n 3, 1) := by decide +kernel
theorem dX2_sortTold_2 : decode cX2_sortTold 2 = .ok (.iload_n 2, 1) := by decide +kernel
theorem dX2_sortTold_3 : decode cX2_sortTold 3 = .ok (.iconst 3, 1) := by decide +kernel
theorem dX2_sortTold_4 : decode cX2_sortTold 4 = .ok (.if_icmp .ge 37, 3) := by decide +kernel
theorem dX2_sortTold_7 : decode cX2_sortTold 7 = .ok (.iload_n 2, 1) := by decide +kernel
theorem dX2_sortTold_8 : decode cX2_sortTold 8 = .ok (.ifCond .ne 12, 3) := by decide +kernel
theorem dX2_sortTold_11 : decode cX2_sortTold 11 = .ok (.aload_n 0, 1) := by decide +kernel
theorem dX2_sortTold_12 : decode cX2_sortTold 12 = .ok (.getfield 9, 3) := by decide +kernel
theorem dX2_sortTold_15 : decode cX2_sortTold 15 = .ok (.iload_n 1, 1) := by decide +kernel
theorem dX2_sortTold_16 : decode cX2_sortTold 16 = .ok (.iaload, 1) := by decide +kernel
theorem dX2_sortTold_17 : decode cX2_sortTold 17 = .ok (.goto 23, 3) := by decide +kernel
theorem dX2_sortTold_20 : decode cX2_sortTold 20 = .ok (.iload_n 2, 1) := by decide +kernel
theorem dX2_sortTold_21 : decode cX2_sortTold 21 = .ok (.iconst 1, 1) := by decide +kernel
theorem dX2_sortTold_22 : decode cX2_sortTold 22 = .ok (.if_icmp .ne 12, 3) := by decide +kernel
theorem dX2_sortTold_25 : decode cX2_sortTold 25 = .ok (.aload_n 0, 1) := by decide +kernel
theorem dX2_sortTold_26 : decode cX2_sortTold 26 = .ok (.getfield 13, 3) := by decide +kernel
theorem dX2_sortTold_29 : decode cX2_sortTold 29 = .ok (.iload_n 1, 1) := by decide +kernel
theorem dX2_sortTold_30 : decode cX2_sortTold 30 = .ok (.iaload, 1) := by decide +kernel
theorem dX2_sortTold_31 : decode cX2_sortTold 31 = .ok (.goto 9, 3) := by decide +kernel
theorem dX2_sortTold_34 : decode cX2_sortTold 34 = .ok (.aload_n 0, 1) := by decide +kernel
theorem dX2_sortTold_35 : decode cX2_sortTold 35 = .ok (.getfield 22, 3) := by decide +kernel
theorem dX2_sortTold_38 : decode cX2_sortTold 38 = .ok (.iload_n 1, 1) := by decide +kernel
theorem dX2_sortTold_39 : decode cX2_sortTold 39 = .ok (.iaload, 1) := by decide +kernel
theorem dX2_sortTold_40 : decode cX2_sortTold 40 = .ok (.ireturn, 1) := by decide +kernel
theorem dX2_sortTold_41 : decode cX2_sortTold 41 = .ok (.iconst 0, 1) := by decide +kernel
theorem dX2_sortTold_42 : decode cX2_sortTold 42 = .ok (.istore 4, 2) := by decide +kernel
theorem dX2_sortTold_44 : decode cX2_sortTold 44 = .ok (.iload 4, 2) := by decide +kernel
theorem dX2_sortTold_46 : decode cX2_sortTold 46 = .ok (.bipush 40, 2) := by decide +kernel
theorem dX2_sortTold_48 : decode cX2_sortTold 48 = .ok (.if_icmp .ge 39, 3) := by decide +kernel
theorem dX2_sortTold_51 : decode cX2_sortTold 51 = .ok (.iload_n 3, 1) := by decide +kernel
theorem dX2_sortTold_52 : decode cX2_sortTold 52 = .ok (.aload_n 0, 1) := by decide +kernel
theorem dX2_sortTold_53 : decode cX2_sortTold 53 = .ok (.iload 4, 2) := by decide +kernel
theorem dX2_sortTold_55 : decode cX2_sortTold 55 = .ok (.iconst 0, 1) := by decide +kernel
theorem dX2_sortTold_56 : decode cX2_sortTold 56 = .ok (.invokevirtual 44, 3) := by decide +kernel
theorem dX2_sortTold_59 : decode cX2_sortTold 59 = .ok (.iconst 1, 1) := by decide +kernel
theorem dX2_sortTold_60 : decode cX2_sortTold 60 = .ok (.if_icmp .ne 18, 3) := by decide +kernel
theorem dX2_sortTold_63 : decode cX2_sortTold 63 = .ok (.aload_n 0, 1) := by decide +kernel
theorem dX2_sortTold_64 : decode cX2_sortTold 64 = .ok (.iload 4, 2) := by decide +kernel
theorem dX2_sortTold_66 : decode cX2_sortTold 66 = .ok (.iconst 3, 1) := by decide +kernel
theorem dX2_sortTold_67 : decode cX2_sortTold 67 = .ok (.invokevirtual 44, 3) := by decide +kernel
theorem dX2_sortTold_70 : decode cX2_sortTold 70 = .ok (.iload_n 1, 1) := by decide +kernel
theorem dX2_sortTold_71 : decode cX2_sortTold 71 = .ok (.if_icmp .ne 7, 3) := by decide +kernel
theorem dX2_sortTold_74 : decode cX2_sortTold 74 = .ok (.iconst 1, 1) := by decide +kernel
theorem dX2_sortTold_75 : decode cX2_sortTold 75 = .ok (.goto 4, 3) := by decide +kernel
theorem dX2_sortTold_78 : decode cX2_sortTold 78 = .ok (.iconst 0, 1) := by decide +kernel
theorem dX2_sortTold_79 : decode cX2_sortTold 79 = .ok (.iadd, 1) := by decide +kernel
theorem dX2_sortTold_80 : decode cX2_sortTold 80 = .ok (.istore_n 3, 1) := by decide +kernel
theorem dX2_sortTold_81 : decode cX2_sortTold 81 = .ok (.iinc 4 1, 3) := by decide +kernel
theorem dX2_sortTold_84 : decode cX2_sortTold 84 = .ok (.goto (-40), 3) := by decide +kernel
theorem dX2_sortTold_87 : decode cX2_sortTold 87 = .ok (.iload_n 3, 1) := by decide +kernel
theorem dX2_sortTold_88 : decode cX2_sortTold 88 = .ok (.ireturn, 1) := by decide +kernel
set_option maxRecDepth 20000 in
theorem ggX2_sort_X2_isSort : GoodIn wsX2_sort wsX2_isSort := goodIn_r _ [5, 6, 7, 4, 8] (by decide +kernel) (by decide +kernel)
set_option maxRecDepth 20000 in
theorem gX2_sort_X2_isSort : GoodIn wsX2_sort (va_wsS RX2 36 yX2_isSort wsX2_isSort) := goodIn_app (goodIn_of _ (by decide +kernel)) ggX2_sort_X2_isSort
set_option maxRecDepth 20000 in
theorem ggX2_sort_X2_isIn : GoodIn wsX2_sort wsX2_isIn := goodIn_r _ [8] (by decide +kernel) (by decide +kernel)
set_option maxRecDepth 20000 in
theorem gX2_sort_X2_isIn : GoodIn wsX2_sort (va_wsS RX2 32 yX2_isIn wsX2_isIn) := goodIn_app (goodIn_of _ (by decide +kernel)) ggX2_sort_X2_isIn
set_option maxRecDepth 20000 in
theorem ggX2_sort_X2_sortTold : GoodIn wsX2_sort wsX2_sortTold := goodIn_r _ [12, 13, 14, 15, 16, 17, 18, 4, 19, 20, 25, 26, 27, 28, 29, 30, 31, 32] (by decide +kernel) (by decide +kernel)
set_option maxRecDepth 20000 in
theorem gX2_sort_X2_sortTold : GoodIn wsX2_sort (wsV RX2 91 RX2 yX2_sortTold wsX2_sortTold) := goodIn_app (goodIn_of _ (by decide +kernel)) ggX2_sort_X2_sortTold
set_option maxRecDepth 20000 in
theorem ggX2_sort_X2_fail : GoodIn wsX2_sort wsX2_fail := goodIn_r _ [24, 1, 25, 26, 27, 28, 29, 30, 31, 32] (by decide +kernel) (by decide +kernel)
set_option maxRecDepth 20000 in
theorem gX2_sort_X2_fail : GoodIn wsX2_sort (wsV RX2 40 RX2 yX2_fail wsX2_fail) := goodIn_app (goodIn_of _ (by decide +kernel)) ggX2_sort_X2_fail
theorem dX2_sort_0 : decode cX2_sort 0 = .ok (.aload_n 0, 1) := by decide +kernel
theorem dX2_sort_1 : decode cX2_sort 1 = .ok (.iconst 0, 1) := by decide +kernel
theorem dX2_sort_2 : decode cX2_sort 2 = .ok (.putfield 28, 3) := by decide +kernel
theorem dX2_sort_5 : decode cX2_sort 5 = .ok (.iload_n 1, 1) := by decide +kernel
theorem dX2_sort_6 : decode cX2_sort 6 = .ok (.invokestatic 36, 3) := by decide +kernel
theorem dX2_sort_9 : decode cX2_sort 9 = .ok (.ifCond .eq 21, 3) := by decide +kernel
theorem dX2_sort_12 : decode cX2_sort 12 = .ok (.iload_n 2, 1) := by decide +kernel
theorem dX2_sort_13 : decode cX2_sort 13 = .ok (.iconst 0, 1) := by decide +kernel
theorem dX2_sort_14 : decode cX2_sort 14 = .ok (.iconst 3, 1) := by decide +kernel
theorem dX2_sort_15 : decode cX2_sort 15 = .ok (.invokestatic 32, 3) := by decide +kernel
theorem dX2_sort_18 : decode cX2_sort 18 = .ok (.ifCond .eq 12, 3) := by decide +kernel
theorem dX2_sort_21 : decode cX2_sort 21 = .ok (.aload_n 0, 1) := by decide +kernel
theorem dX2_sort_22 : decode cX2_sort 22 = .ok (.iload_n 1, 1) := by decide +kernel
theorem dX2_sort_23 : decode cX2_sort 23 = .ok (.iload_n 2, 1) := by decide +kernel
theorem dX2_sort_24 : decode cX2_sort 24 = .ok (.invokevirtual 91, 3) := by decide +kernel
theorem dX2_sort_27 : decode cX2_sort 27 = .ok (.goto 8, 3) := by decide +kernel
theorem dX2_sort_30 : decode cX2_sort 30 = .ok (.aload_n 0, 1) := by decide +kernel
theorem dX2_sort_31 : decode cX2_sort 31 = .ok (.iconst 1, 1) := by decide +kernel
theorem dX2_sort_32 : decode cX2_sort 32 = .ok (.invokevirtual 40, 3) := by decide +kernel
theorem dX2_sort_35 : decode cX2_sort 35 = .ok (.ireturn, 1) := by decide +kernel
set_option maxRecDepth 20000 in
theorem ggX2_all_X2_tr : GoodIn wsX2_all wsX2_tr := goodIn_r _ [5, 6, 7, 8, 9, 10, 11, 12, 13, 14] (by decide +kernel) (by decide +kernel)
set_option maxRecDepth 20000 in
theorem gX2_all_X2_tr : GoodIn wsX2_all (wsV RX2 44 RX2 yX2_tr wsX2_tr) := goodIn_app (goodIn_of _ (by decide +kernel)) ggX2_all_X2_tr
theorem dX2_all_0 : decode cX2_all 0 = .ok (.iconst 0, 1) := by decide +kernel
theorem dX2_all_1 : decode cX2_all 1 = .ok (.istore_n 2, 1) := by decide +kernel
theorem dX2_all_2 : decode cX2_all 2 = .ok (.iconst 0, 1) := by decide +kernel
theorem dX2_all_3 : decode cX2_all 3 = .ok (.istore_n 3, 1) := by decide +kernel
theorem dX2_all_4 : decode cX2_all 4 = .ok (.iload_n 3, 1) := by decide +kernel
theorem dX2_all_5 : decode cX2_all 5 = .ok (.bipush 40, 2) := by decide +kernel
theorem dX2_all_7 : decode cX2_all 7 = .ok (.if_icmp .ge 18, 3) := by decide +kernel
theorem dX2_all_10 : decode cX2_all 10 = .ok (.iload_n 2, 1) := by decide +kernel
theorem dX2_all_11 : decode cX2_all 11 = .ok (.aload_n 0, 1) := by decide +kernel
theorem dX2_all_12 : decode cX2_all 12 = .ok (.iload_n 3, 1) := by decide +kernel
theorem dX2_all_13 : decode cX2_all 13 = .ok (.iload_n 1, 1) := by decide +kernel
theorem dX2_all_14 : decode cX2_all 14 = .ok (.invokevirtual 44, 3) := by decide +kernel
theorem dX2_all_17 : decode cX2_all 17 = .ok (.iadd, 1) := by decide +kernel
theorem dX2_all_18 : decode cX2_all 18 = .ok (.istore_n 2, 1) := by decide +kernel
theorem dX2_all_19 : decode cX2_all 19 = .ok (.iinc 3 1, 3) := by decide +kernel
theorem dX2_all_22 : decode cX2_all 22 = .ok (.goto (-18), 3) := by decide +kernel
theorem dX2_all_25 : decode cX2_all 25 = .ok (.iload_n 2, 1) := by decide +kernel
theorem dX2_all_26 : decode cX2_all 26 = .ok (.ireturn, 1) := by decide +kernel
set_option maxRecDepth 20000 in
theorem ggX2_counted_X2_all : GoodIn wsX2_counted wsX2_all := goodIn_r _ [8, 9, 10, 11, 7, 12, 13, 14, 15, 16, 17, 18, 19, 20, 21] (by decide +kernel) (by decide +kernel)
set_option maxRecDepth 20000 in
theorem gX2_counted_X2_all : GoodIn wsX2_counted (wsV RX2 94 RX2 yX2_all wsX2_all) := goodIn_app (goodIn_of _ (by decide +kernel)) ggX2_counted_X2_all
set_option maxRecDepth 20000 in
theorem ggX2_counted_X2_tr : GoodIn wsX2_counted wsX2_tr := goodIn_r _ [12, 13, 14, 15, 16, 17, 18, 19, 20, 21] (by decide +kernel) (by decide +kernel)
set_option maxRecDepth 20000 in
theorem gX2_counted_X2_tr : GoodIn wsX2_counted (wsV RX2 44 RX2 yX2_tr wsX2_tr) := goodIn_app (goodIn_of _ (by decide +kernel)) ggX2_counted_X2_tr
theorem dX2_counted_0 : decode cX2_counted 0 = .ok (.iconst 0, 1) := by decide +kernel
theorem dX2_counted_1 : decode cX2_counted 1 = .ok (.istore_n 2, 1) := by decide +kernel
theorem dX2_counted_2 : decode cX2_counted 2 = .ok (.iload_n 1, 1) := by decide +kernel
theorem dX2_counted_3 : decode cX2_counted 3 = .ok (.tableswitch 110 0 6 #[41, 48, 48, 57, 63, 69, 69], 41) := by decide +kernel
theorem dX2_counted_44 : decode cX2_counted 44 = .ok (.aload_n 0, 1) := by decide +kernel
theorem dX2_counted_45 : decode cX2_counted 45 = .ok (.getfield 25, 3) := by decide +kernel
theorem dX2_counted_48 : decode cX2_counted 48 = .ok (.iconst 2, 1) := by decide +kernel
theorem dX2_counted_49 : decode cX2_counted 49 = .ok (.iaload, 1) := by decide +kernel
theorem dX2_counted_50 : decode cX2_counted 50 = .ok (.ireturn, 1) := by decide +kernel
theorem dX2_counted_51 : decode cX2_counted 51 = .ok (.aload_n 0, 1) := by decide +kernel
theorem dX2_counted_52 : decode cX2_counted 52 = .ok (.getfield 25, 3) := by decide +kernel
theorem dX2_counted_55 : decode cX2_counted 55 = .ok (.iload_n 1, 1) := by decide +kernel
theorem dX2_counted_56 : decode cX2_counted 56 = .ok (.iconst 1, 1) := by decide +kernel
theorem dX2_counted_57 : decode cX2_counted 57 = .ok (.isub, 1) := by decide +kernel
theorem dX2_counted_58 : decode cX2_counted 58 = .ok (.iaload, 1) := by decide +kernel
theorem dX2_counted_59 : decode cX2_counted 59 = .ok (.ireturn, 1) := by decide +kernel
theorem dX2_counted_60 : decode cX2_counted 60 = .ok (.aload_n 0, 1) := by decide +kernel
theorem dX2_counted_61 : decode cX2_counted 61 = .ok (.iconst 0, 1) := by decide +kernel
theorem dX2_counted_62 : decode cX2_counted 62 = .ok (.invokevirtual 94, 3) := by decide +kernel
theorem dX2_counted_65 : decode cX2_counted 65 = .ok (.ireturn, 1) := by decide +kernel
theorem dX2_counted_66 : decode cX2_counted 66 = .ok (.aload_n 0, 1) := by decide +kernel
theorem dX2_counted_67 : decode cX2_counted 67 = .ok (.iconst 4, 1) := by decide +kernel
theorem dX2_counted_68 : decode cX2_counted 68 = .ok (.invokevirtual 94, 3) := by decide +kernel
theorem dX2_counted_71 : decode cX2_counted 71 = .ok (.ireturn, 1) := by decide +kernel
theorem dX2_counted_72 : decode cX2_counted 72 = .ok (.iconst 0, 1) := by decide +kernel
theorem dX2_counted_73 : decode cX2_counted 73 = .ok (.istore_n 3, 1) := by decide +kernel
theorem dX2_counted_74 : decode cX2_counted 74 = .ok (.iload_n 3, 1) := by decide +kernel
theorem dX2_counted_75 : decode cX2_counted 75 = .ok (.bipush 6, 2) := by decide +kernel
theorem dX2_counted_77 : decode cX2_counted 77 = .ok (.if_icmp .ge 34, 3) := by decide +kernel
theorem dX2_counted_80 : decode cX2_counted 80 = .ok (.iload_n 2, 1) := by decide +kernel
theorem dX2_counted_81 : decode cX2_counted 81 = .ok (.aload_n 0, 1) := by decide +kernel
theorem dX2_counted_82 : decode cX2_counted 82 = .ok (.getfield 22, 3) := by decide +kernel
theorem dX2_counted_85 : decode cX2_counted 85 = .ok (.iload_n 3, 1) := by decide +kernel
theorem dX2_counted_86 : decode cX2_counted 86 = .ok (.iaload, 1) := by decide +kernel
theorem dX2_counted_87 : decode cX2_counted 87 = .ok (.iload_n 1, 1) := by decide +kernel
theorem dX2_counted_88 : decode cX2_counted 88 = .ok (.iconst 5, 1) := by decide +kernel
theorem dX2_counted_89 : decode cX2_counted 89 = .ok (.if_icmp .ne 7, 3) := by decide +kernel
theorem dX2_counted_92 : decode cX2_counted 92 = .ok (.iconst 1, 1) := by decide +kernel
theorem dX2_counted_93 : decode cX2_counted 93 = .ok (.goto 9, 3) := by decide +kernel
theorem dX2_counted_96 : decode cX2_counted 96 = .ok (.aload_n 0, 1) := by decide +kernel
theorem dX2_counted_97 : decode cX2_counted 97 = .ok (.getfield 9, 3) := by decide +kernel
theorem dX2_counted_100 : decode cX2_counted 100 = .ok (.iload_n 3, 1) := by decide +kernel
theorem dX2_counted_101 : decode cX2_counted 101 = .ok (.iaload, 1) := by decide +kernel
theorem dX2_counted_102 : decode cX2_counted 102 = .ok (.imul, 1) := by decide +kernel
theorem dX2_counted_103 : decode cX2_counted 103 = .ok (.iadd, 1) := by decide +kernel
theorem dX2_counted_104 : decode cX2_counted 104 = .ok (.istore_n 2, 1) := by decide +kernel
theorem dX2_counted_105 : decode cX2_counted 105 = .ok (.iinc 3 1, 3) := by decide +kernel
theorem dX2_counted_108 : decode cX2_counted 108 = .ok (.goto (-34), 3) := by decide +kernel
theorem dX2_counted_111 : decode cX2_counted 111 = .ok (.iload_n 2, 1) := by decide +kernel
theorem dX2_counted_112 : decode cX2_counted 112 = .ok (.ireturn, 1) := by decide +kernel
theorem dX2_counted_113 : decode cX2_counted 113 = .ok (.iconst 0, 1) := by decide +kernel
theorem dX2_counted_114 : decode cX2_counted 114 = .ok (.istore_n 3, 1) := by decide +kernel
theorem dX2_counted_115 : decode cX2_counted 115 = .ok (.iload_n 3, 1) := by decide +kernel
theorem dX2_counted_116 : decode cX2_counted 116 = .ok (.bipush 40, 2) := by decide +kernel
theorem dX2_counted_118 : decode cX2_counted 118 = .ok (.if_icmp .ge 105, 3) := by decide +kernel
theorem dX2_counted_121 : decode cX2_counted 121 = .ok (.iload_n 3, 1) := by decide +kernel
theorem dX2_counted_122 : decode cX2_counted 122 = .ok (.bipush 8, 2) := by decide +kernel
theorem dX2_counted_124 : decode cX2_counted 124 = .ok (.idiv, 1) := by decide +kernel
theorem dX2_counted_125 : decode cX2_counted 125 = .ok (.bipush 8, 2) := by decide +kernel
theorem dX2_counted_127 : decode cX2_counted 127 = .ok (.imul, 1) := by decide +kernel
theorem dX2_counted_128 : decode cX2_counted 128 = .ok (.bipush 8, 2) := by decide +kernel
theorem dX2_counted_130 : decode cX2_counted 130 = .ok (.iadd, 1) := by decide +kernel
theorem dX2_counted_131 : decode cX2_counted 131 = .ok (.iconst 1, 1) := by decide +kernel
theorem dX2_counted_132 : decode cX2_counted 132 = .ok (.isub, 1) := by decide +kernel
theorem dX2_counted_133 : decode cX2_counted 133 = .ok (.iload_n 3, 1) := by decide +kernel
theorem dX2_counted_134 : decode cX2_counted 134 = .ok (.bipush 8, 2) := by decide +kernel
theorem dX2_counted_136 : decode cX2_counted 136 = .ok (.irem, 1) := by decide +kernel
theorem dX2_counted_137 : decode cX2_counted 137 = .ok (.isub, 1) := by decide +kernel
theorem dX2_counted_138 : decode cX2_counted 138 = .ok (.istore 4, 2) := by decide +kernel
theorem dX2_counted_140 : decode cX2_counted 140 = .ok (.iload 4, 2) := by decide +kernel
theorem dX2_counted_142 : decode cX2_counted 142 = .ok (.iload_n 3, 1) := by decide +kernel
theorem dX2_counted_143 : decode cX2_counted 143 = .ok (.if_icmp .ge 6, 3) := by decide +kernel
theorem dX2_counted_146 : decode cX2_counted 146 = .ok (.goto 71, 3) := by decide +kernel
theorem dX2_counted_149 : decode cX2_counted 149 = .ok (.aload_n 0, 1) := by decide +kernel
theorem dX2_counted_150 : decode cX2_counted 150 = .ok (.iload_n 3, 1) := by decide +kernel
theorem dX2_counted_151 : decode cX2_counted 151 = .ok (.iconst 0, 1) := by decide +kernel
theorem dX2_counted_152 : decode cX2_counted 152 = .ok (.invokevirtual 44, 3) := by decide +kernel
theorem dX2_counted_155 : decode cX2_counted 155 = .ok (.aload_n 0, 1) := by decide +kernel
theorem dX2_counted_156 : decode cX2_counted 156 = .ok (.iload 4, 2) := by decide +kernel
theorem dX2_counted_158 : decode cX2_counted 158 = .ok (.iconst 0, 1) := by decide +kernel
theorem dX2_counted_159 : decode cX2_counted 159 = .ok (.invokevirtual 44, 3) := by decide +kernel
theorem dX2_counted_162 : decode cX2_counted 162 = .ok (.if_icmp .ne 39, 3) := by decide +kernel
theorem dX2_counted_165 : decode cX2_counted 165 = .ok (.aload_n 0, 1) := by decide +kernel
theorem dX2_counted_166 : decode cX2_counted 166 = .ok (.iload_n 3, 1) := by decide +kernel
theorem dX2_counted_167 : decode cX2_counted 167 = .ok (.iconst 3, 1) := by decide +kernel
theorem dX2_counted_168 : decode cX2_counted 168 = .ok (.invokevirtual 44, 3) := by decide +kernel
theorem dX2_counted_171 : decode cX2_counted 171 = .ok (.aload_n 0, 1) := by decide +kernel
theorem dX2_counted_172 : decode cX2_counted 172 = .ok (.iload 4, 2) := by decide +kernel
theorem dX2_counted_174 : decode cX2_counted 174 = .ok (.iconst 3, 1) := by decide +kernel
theorem dX2_counted_175 : decode cX2_counted 175 = .ok (.invokevirtual 44, 3) := by decide +kernel
theorem dX2_counted_178 : decode cX2_counted 178 = .ok (.if_icmp .ne 23, 3) := by decide +kernel
theorem dX2_counted_181 : decode cX2_counted 181 = .ok (.aload_n 0, 1) := by decide +kernel
theorem dX2_counted_182 : decode cX2_counted 182 = .ok (.iload_n 3, 1) := by decide +kernel
theorem dX2_counted_183 : decode cX2_counted 183 = .ok (.iconst 1, 1) := by decide +kernel
theorem dX2_counted_184 : decode cX2_counted 184 = .ok (.invokevirtual 44, 3) := by decide +kernel
theorem dX2_counted_187 : decode cX2_counted 187 = .ok (.aload_n 0, 1) := by decide +kernel
theorem dX2_counted_188 : decode cX2_counted 188 = .ok (.iload 4, 2) := by decide +kernel
theorem dX2_counted_190 : decode cX2_counted 190 = .ok (.iconst 1, 1) := by decide +kernel
theorem dX2_counted_191 : decode cX2_counted 191 = .ok (.invokevirtual 44, 3) := by decide +kernel
theorem dX2_counted_194 : decode cX2_counted 194 = .ok (.if_icmp .ne 7, 3) := by decide +kernel
theorem dX2_counted_197 : decode cX2_counted 197 = .ok (.iconst 1, 1) := by decide +kernel
theorem dX2_counted_198 : decode cX2_counted 198 = .ok (.goto 4, 3) := by decide +kernel
theorem dX2_counted_201 : decode cX2_counted 201 = .ok (.iconst 0, 1) := by decide +kernel
theorem dX2_counted_202 : decode cX2_counted 202 = .ok (.istore 5, 2) := by decide +kernel
theorem dX2_counted_204 : decode cX2_counted 204 = .ok (.iload_n 2, 1) := by decide +kernel
theorem dX2_counted_205 : decode cX2_counted 205 = .ok (.iload 5, 2) := by decide +kernel
theorem dX2_counted_207 : decode cX2_counted 207 = .ok (.ifCond .eq 7, 3) := by decide +kernel
theorem dX2_counted_210 : decode cX2_counted 210 = .ok (.iconst 0, 1) := by decide +kernel
theorem dX2_counted_211 : decode cX2_counted 211 = .ok (.goto 4, 3) := by decide +kernel
theorem dX2_counted_214 : decode cX2_counted 214 = .ok (.iconst 1, 1) := by decide +kernel
theorem dX2_counted_215 : decode cX2_counted 215 = .ok (.iadd, 1) := by decide +kernel
theorem dX2_counted_216 : decode cX2_counted 216 = .ok (.istore_n 2, 1) := by decide +kernel
theorem dX2_counted_217 : decode cX2_counted 217 = .ok (.iinc 3 1, 3) := by decide +kernel
theorem dX2_counted_220 : decode cX2_counted 220 = .ok (.goto (-105), 3) := by decide +kernel
theorem dX2_counted_223 : decode cX2_counted 223 = .ok (.iload_n 2, 1) := by decide +kernel
theorem dX2_counted_224 : decode cX2_counted 224 = .ok (.ireturn, 1) := by decide +kernel
set_option maxRecDepth 20000 in
theorem ggX2_count_X2_isIn : GoodIn wsX2_count wsX2_isIn := goodIn_r _ [5] (by decide +kernel) (by decide +kernel)
set_option maxRecDepth 20000 in
theorem gX2_count_X2_isIn : GoodIn wsX2_count (va_wsS RX2 32 yX2_isIn wsX2_isIn) := goodIn_app (goodIn_of _ (by decide +kernel)) ggX2_count_X2_isIn
set_option maxRecDepth 20000 in
theorem ggX2_count_X2_counted : GoodIn wsX2_count wsX2_counted := goodIn_r _ [9, 10, 11, 12, 13, 14, 15, 4, 16, 17, 18, 19, 20, 21, 26, 27, 28, 29, 30, 31, 32, 33] (by decide +kernel) (by decide +kernel)
set_option maxRecDepth 20000 in
theorem gX2_count_X2_counted : GoodIn wsX2_count (wsV RX2 97 RX2 yX2_counted wsX2_counted) := goodIn_app (goodIn_of _ (by decide +kernel)) ggX2_count_X2_counted
set_option maxRecDepth 20000 in
theorem ggX2_count_X2_fail : GoodIn wsX2_count wsX2_fail := goodIn_r _ [25, 1, 26, 27, 28, 29, 30, 31, 32, 33] (by decide +kernel) (by decide +kernel)
set_option maxRecDepth 20000 in
theorem gX2_count_X2_fail : GoodIn wsX2_count (wsV RX2 40 RX2 yX2_fail wsX2_fail) := goodIn_app (goodIn_of _ (by decide +kernel)) ggX2_count_X2_fail
theorem dX2_count_0 : decode cX2_count 0 = .ok (.aload_n 0, 1) := by decide +kernel
theorem dX2_count_1 : decode cX2_count 1 = .ok (.iconst 0, 1) := by decide +kernel
theorem dX2_count_2 : decode cX2_count 2 = .ok (.putfield 28, 3) := by decide +kernel
theorem dX2_count_5 : decode cX2_count 5 = .ok (.iload_n 1, 1) := by decide +kernel
theorem dX2_count_6 : decode cX2_count 6 = .ok (.iconst 0, 1) := by decide +kernel
theorem dX2_count_7 : decode cX2_count 7 = .ok (.bipush 7, 2) := by decide +kernel
theorem dX2_count_9 : decode cX2_count 9 = .ok (.invokestatic 32, 3) := by decide +kernel
theorem dX2_count_12 : decode cX2_count 12 = .ok (.ifCond .eq 11, 3) := by decide +kernel
theorem dX2_count_15 : decode cX2_count 15 = .ok (.aload_n 0, 1) := by decide +kernel
theorem dX2_count_16 : decode cX2_count 16 = .ok (.iload_n 1, 1) := by decide +kernel
theorem dX2_count_17 : decode cX2_count 17 = .ok (.invokevirtual 97, 3) := by decide +kernel
theorem dX2_count_20 : decode cX2_count 20 = .ok (.goto 8, 3) := by decide +kernel
theorem dX2_count_23 : decode cX2_count 23 = .ok (.aload_n 0, 1) := by decide +kernel
theorem dX2_count_24 : decode cX2_count 24 = .ok (.iconst 1, 1) := by decide +kernel
theorem dX2_count_25 : decode cX2_count 25 = .ok (.invokevirtual 40, 3) := by decide +kernel
theorem dX2_count_28 : decode cX2_count 28 = .ok (.ireturn, 1) := by decide +kernel
set_option maxRecDepth 20000 in
theorem ggX2_leans_X2_isIn : GoodIn wsX2_leans wsX2_isIn := goodIn_r _ [5] (by decide +kernel) (by decide +kernel)
set_option maxRecDepth 20000 in
theorem gX2_leans_X2_isIn : GoodIn wsX2_leans (va_wsS RX2 32 yX2_isIn wsX2_isIn) := goodIn_app (goodIn_of _ (by decide +kernel)) ggX2_leans_X2_isIn
set_option maxRecDepth 20000 in
theorem ggX2_leans_X2_fail : GoodIn wsX2_leans wsX2_fail := goodIn_r _ [9, 1, 19, 20, 21, 22, 23, 24, 25, 26] (by decide +kernel) (by decide +kernel)
set_option maxRecDepth 20000 in
theorem gX2_leans_X2_fail : GoodIn wsX2_leans (wsV RX2 40 RX2 yX2_fail wsX2_fail) := goodIn_app (goodIn_of _ (by decide +kernel)) ggX2_leans_X2_fail
set_option maxRecDepth 20000 in
theorem ggX2_leans_X2_apples : GoodIn wsX2_leans wsX2_apples := goodIn_r _ [13, 14, 15, 16, 4, 17, 18, 19, 20, 21, 22, 23, 24, 25, 26] (by decide +kernel) (by decide +kernel)
set_option maxRecDepth 20000 in
theorem gX2_leans_X2_apples : GoodIn wsX2_leans (wsV RX2 85 RX2 yX2_apples wsX2_apples) := goodIn_app (goodIn_of _ (by decide +kernel)) ggX2_leans_X2_apples
theorem dX2_leans_0 : decode cX2_leans 0 = .ok (.aload_n 0, 1) := by decide +kernel
theorem dX2_leans_1 : decode cX2_leans 1 = .ok (.iconst 0, 1) := by decide +kernel
theorem dX2_leans_2 : decode cX2_leans 2 = .ok (.putfield 28, 3) := by decide +kernel
theorem dX2_leans_5 : decode cX2_leans 5 = .ok (.iload_n 1, 1) := by decide +kernel
theorem dX2_leans_6 : decode cX2_leans 6 = .ok (.iconst 0, 1) := by decide +kernel
theorem dX2_leans_7 : decode cX2_leans 7 = .ok (.iconst 4, 1) := by decide +kernel
theorem dX2_leans_8 : decode cX2_leans 8 = .ok (.invokestatic 32, 3) := by decide +kernel
theorem dX2_leans_11 : decode cX2_leans 11 = .ok (.ifCond .ne 9, 3) := by decide +kernel
theorem dX2_leans_14 : decode cX2_leans 14 = .ok (.aload_n 0, 1) := by decide +kernel
theorem dX2_leans_15 : decode cX2_leans 15 = .ok (.iconst 1, 1) := by decide +kernel
theorem dX2_leans_16 : decode cX2_leans 16 = .ok (.invokevirtual 40, 3) := by decide +kernel
theorem dX2_leans_19 : decode cX2_leans 19 = .ok (.ireturn, 1) := by decide +kernel
theorem dX2_leans_20 : decode cX2_leans 20 = .ok (.iconst 0, 1) := by decide +kernel
theorem dX2_leans_21 : decode cX2_leans 21 = .ok (.istore_n 2, 1) := by decide +kernel
theorem dX2_leans_22 : decode cX2_leans 22 = .ok (.iconst 0, 1) := by decide +kernel
theorem dX2_leans_23 : decode cX2_leans 23 = .ok (.istore_n 3, 1) := by decide +kernel
theorem dX2_leans_24 : decode cX2_leans 24 = .ok (.iload_n 3, 1) := by decide +kernel
theorem dX2_leans_25 : decode cX2_leans 25 = .ok (.bipush 8, 2) := by decide +kernel
theorem dX2_leans_27 : decode cX2_leans 27 = .ok (.if_icmp .ge 41, 3) := by decide +kernel
theorem dX2_leans_30 : decode cX2_leans 30 = .ok (.iload_n 2, 1) := by decide +kernel
theorem dX2_leans_31 : decode cX2_leans 31 = .ok (.iload_n 3, 1) := by decide +kernel
theorem dX2_leans_32 : decode cX2_leans 32 = .ok (.iconst 4, 1) := by decide +kernel
theorem dX2_leans_33 : decode cX2_leans 33 = .ok (.if_icmp .ge 16, 3) := by decide +kernel
theorem dX2_leans_36 : decode cX2_leans 36 = .ok (.aload_n 0, 1) := by decide +kernel
theorem dX2_leans_37 : decode cX2_leans 37 = .ok (.bipush 8, 2) := by decide +kernel
theorem dX2_leans_39 : decode cX2_leans 39 = .ok (.iload_n 1, 1) := by decide +kernel
theorem dX2_leans_40 : decode cX2_leans 40 = .ok (.imul, 1) := by decide +kernel
theorem dX2_leans_41 : decode cX2_leans 41 = .ok (.iload_n 3, 1) := by decide +kernel
theorem dX2_leans_42 : decode cX2_leans 42 = .ok (.iadd, 1) := by decide +kernel
theorem dX2_leans_43 : decode cX2_leans 43 = .ok (.invokevirtual 85, 3) := by decide +kernel
theorem dX2_leans_46 : decode cX2_leans 46 = .ok (.goto 14, 3) := by decide +kernel
theorem dX2_leans_49 : decode cX2_leans 49 = .ok (.aload_n 0, 1) := by decide +kernel
theorem dX2_leans_50 : decode cX2_leans 50 = .ok (.bipush 8, 2) := by decide +kernel
theorem dX2_leans_52 : decode cX2_leans 52 = .ok (.iload_n 1, 1) := by decide +kernel
theorem dX2_leans_53 : decode cX2_leans 53 = .ok (.imul, 1) := by decide +kernel
theorem dX2_leans_54 : decode cX2_leans 54 = .ok (.iload_n 3, 1) := by decide +kernel
theorem dX2_leans_55 : decode cX2_leans 55 = .ok (.iadd, 1) := by decide +kernel
theorem dX2_leans_56 : decode cX2_leans 56 = .ok (.invokevirtual 85, 3) := by decide +kernel
theorem dX2_leans_59 : decode cX2_leans 59 = .ok (.ineg, 1) := by decide +kernel
theorem dX2_leans_60 : decode cX2_leans 60 = .ok (.iadd, 1) := by decide +kernel
theorem dX2_leans_61 : decode cX2_leans 61 = .ok (.istore_n 2, 1) := by decide +kernel
theorem dX2_leans_62 : decode cX2_leans 62 = .ok (.iinc 3 1, 3) := by decide +kernel
theorem dX2_leans_65 : decode cX2_leans 65 = .ok (.goto (-41), 3) := by decide +kernel
theorem dX2_leans_68 : decode cX2_leans 68 = .ok (.iload_n 2, 1) := by decide +kernel
theorem dX2_leans_69 : decode cX2_leans 69 = .ok (.ireturn, 1) := by decide +kernel
set_option maxRecDepth 20000 in
theorem ggX2_carry_X2_isSort : GoodIn wsX2_carry wsX2_isSort := goodIn_r _ [8, 9, 10, 7, 11] (by decide +kernel) (by decide +kernel)
set_option maxRecDepth 20000 in
theorem gX2_carry_X2_isSort : GoodIn wsX2_carry (va_wsS RX2 36 yX2_isSort wsX2_isSort) := goodIn_app (goodIn_of _ (by decide +kernel)) ggX2_carry_X2_isSort
set_option maxRecDepth 20000 in
theorem ggX2_carry_X2_fail : GoodIn wsX2_carry wsX2_fail := goodIn_r _ [15, 1, 16, 17, 18, 19, 20, 21, 22, 23] (by decide +kernel) (by decide +kernel)
set_option maxRecDepth 20000 in
theorem gX2_carry_X2_fail : GoodIn wsX2_carry (wsV RX2 40 RX2 yX2_fail wsX2_fail) := goodIn_app (goodIn_of _ (by decide +kernel)) ggX2_carry_X2_fail
set_option maxRecDepth 20000 in
theorem ggX2_carry_X2_isIn : GoodIn wsX2_carry wsX2_isIn := goodIn_r _ [11] (by decide +kernel) (by decide +kernel)
set_option maxRecDepth 20000 in
theorem gX2_carry_X2_isIn : GoodIn wsX2_carry (va_wsS RX2 32 yX2_isIn wsX2_isIn) := goodIn_app (goodIn_of _ (by decide +kernel)) ggX2_carry_X2_isIn
theorem dX2_carry_0 : decode cX2_carry 0 = .ok (.aload_n 0, 1) := by decide +kernel
theorem dX2_carry_1 : decode cX2_carry 1 = .ok (.iconst 0, 1) := by decide +kernel
theorem dX2_carry_2 : decode cX2_carry 2 = .ok (.putfield 28, 3) := by decide +kernel
theorem dX2_carry_5 : decode cX2_carry 5 = .ok (.iload_n 1, 1) := by decide +kernel
theorem dX2_carry_6 : decode cX2_carry 6 = .ok (.invokestatic 36, 3) := by decide +kernel
theorem dX2_carry_9 : decode cX2_carry 9 = .ok (.ifCond .ne 9, 3) := by decide +kernel
theorem dX2_carry_12 : decode cX2_carry 12 = .ok (.aload_n 0, 1) := by decide +kernel
theorem dX2_carry_13 : decode cX2_carry 13 = .ok (.iconst 1, 1) := by decide +kernel
theorem dX2_carry_14 : decode cX2_carry 14 = .ok (.invokevirtual 40, 3) := by decide +kernel
theorem dX2_carry_17 : decode cX2_carry 17 = .ok (.ireturn, 1) := by decide +kernel
theorem dX2_carry_18 : decode cX2_carry 18 = .ok (.iload_n 2, 1) := by decide +kernel
theorem dX2_carry_19 : decode cX2_carry 19 = .ok (.iconst 0, 1) := by decide +kernel
theorem dX2_carry_20 : decode cX2_carry 20 = .ok (.sipush 200, 3) := by decide +kernel
theorem dX2_carry_23 : decode cX2_carry 23 = .ok (.invokestatic 32, 3) := by decide +kernel
theorem dX2_carry_26 : decode cX2_carry 26 = .ok (.ifCond .eq 20, 3) := by decide +kernel
theorem dX2_carry_29 : decode cX2_carry 29 = .ok (.iload_n 3, 1) := by decide +kernel
theorem dX2_carry_30 : decode cX2_carry 30 = .ok (.iconst 0, 1) := by decide +kernel
theorem dX2_carry_31 : decode cX2_carry 31 = .ok (.sipush 200, 3) := by decide +kernel
theorem dX2_carry_34 : decode cX2_carry 34 = .ok (.invokestatic 32, 3) := by decide +kernel
theorem dX2_carry_37 : decode cX2_carry 37 = .ok (.ifCond .eq 9, 3) := by decide +kernel
theorem dX2_carry_40 : decode cX2_carry 40 = .ok (.iload_n 2, 1) := by decide +kernel
theorem dX2_carry_41 : decode cX2_carry 41 = .ok (.iload_n 3, 1) := by decide +kernel
theorem dX2_carry_42 : decode cX2_carry 42 = .ok (.iadd, 1) := by decide +kernel
theorem dX2_carry_43 : decode cX2_carry 43 = .ok (.ifCond .ne 9, 3) := by decide +kernel
theorem dX2_carry_46 : decode cX2_carry 46 = .ok (.aload_n 0, 1) := by decide +kernel
theorem dX2_carry_47 : decode cX2_carry 47 = .ok (.iconst 2, 1) := by decide +kernel
theorem dX2_carry_48 : decode cX2_carry 48 = .ok (.invokevirtual 40, 3) := by decide +kernel
theorem dX2_carry_51 : decode cX2_carry 51 = .ok (.ireturn, 1) := by decide +kernel
theorem dX2_carry_52 : decode cX2_carry 52 = .ok (.iload_n 2, 1) := by decide +kernel
theorem dX2_carry_53 : decode cX2_carry 53 = .ok (.iload_n 3, 1) := by decide +kernel
theorem dX2_carry_54 : decode cX2_carry 54 = .ok (.iadd, 1) := by decide +kernel
theorem dX2_carry_55 : decode cX2_carry 55 = .ok (.aload_n 0, 1) := by decide +kernel
theorem dX2_carry_56 : decode cX2_carry 56 = .ok (.getfield 22, 3) := by decide +kernel
theorem dX2_carry_59 : decode cX2_carry 59 = .ok (.iload_n 1, 1) := by decide +kernel
theorem dX2_carry_60 : decode cX2_carry 60 = .ok (.iaload, 1) := by decide +kernel
theorem dX2_carry_61 : decode cX2_carry 61 = .ok (.if_icmp .le 9, 3) := by decide +kernel
theorem dX2_carry_64 : decode cX2_carry 64 = .ok (.aload_n 0, 1) := by decide +kernel
theorem dX2_carry_65 : decode cX2_carry 65 = .ok (.iconst 3, 1) := by decide +kernel
theorem dX2_carry_66 : decode cX2_carry 66 = .ok (.invokevirtual 40, 3) := by decide +kernel
theorem dX2_carry_69 : decode cX2_carry 69 = .ok (.ireturn, 1) := by decide +kernel
theorem dX2_carry_70 : decode cX2_carry 70 = .ok (.aload_n 0, 1) := by decide +kernel
theorem dX2_carry_71 : decode cX2_carry 71 = .ok (.getfield 22, 3) := by decide +kernel
theorem dX2_carry_74 : decode cX2_carry 74 = .ok (.iload_n 1, 1) := by decide +kernel
theorem dX2_carry_75 : decode cX2_carry 75 = .ok (.dup2, 1) := by decide +kernel
theorem dX2_carry_76 : decode cX2_carry 76 = .ok (.iaload, 1) := by decide +kernel
theorem dX2_carry_77 : decode cX2_carry 77 = .ok (.iload_n 2, 1) := by decide +kernel
theorem dX2_carry_78 : decode cX2_carry 78 = .ok (.iload_n 3, 1) := by decide +kernel
theorem dX2_carry_79 : decode cX2_carry 79 = .ok (.iadd, 1) := by decide +kernel
theorem dX2_carry_80 : decode cX2_carry 80 = .ok (.isub, 1) := by decide +kernel
theorem dX2_carry_81 : decode cX2_carry 81 = .ok (.iastore, 1) := by decide +kernel
theorem dX2_carry_82 : decode cX2_carry 82 = .ok (.aload_n 0, 1) := by decide +kernel
theorem dX2_carry_83 : decode cX2_carry 83 = .ok (.dup, 1) := by decide +kernel
theorem dX2_carry_84 : decode cX2_carry 84 = .ok (.getfield 100, 3) := by decide +kernel
theorem dX2_carry_87 : decode cX2_carry 87 = .ok (.aload_n 0, 1) := by decide +kernel
theorem dX2_carry_88 : decode cX2_carry 88 = .ok (.getfield 9, 3) := by decide +kernel
theorem dX2_carry_91 : decode cX2_carry 91 = .ok (.iload_n 1, 1) := by decide +kernel
theorem dX2_carry_92 : decode cX2_carry 92 = .ok (.iaload, 1) := by decide +kernel
theorem dX2_carry_93 : decode cX2_carry 93 = .ok (.iload_n 2, 1) := by decide +kernel
theorem dX2_carry_94 : decode cX2_carry 94 = .ok (.iload_n 3, 1) := by decide +kernel
theorem dX2_carry_95 : decode cX2_carry 95 = .ok (.isub, 1) := by decide +kernel
theorem dX2_carry_96 : decode cX2_carry 96 = .ok (.imul, 1) := by decide +kernel
theorem dX2_carry_97 : decode cX2_carry 97 = .ok (.iadd, 1) := by decide +kernel
theorem dX2_carry_98 : decode cX2_carry 98 = .ok (.putfield 100, 3) := by decide +kernel
theorem dX2_carry_101 : decode cX2_carry 101 = .ok (.aload_n 0, 1) := by decide +kernel
theorem dX2_carry_102 : decode cX2_carry 102 = .ok (.getfield 22, 3) := by decide +kernel
theorem dX2_carry_105 : decode cX2_carry 105 = .ok (.iload_n 1, 1) := by decide +kernel
theorem dX2_carry_106 : decode cX2_carry 106 = .ok (.iaload, 1) := by decide +kernel
theorem dX2_carry_107 : decode cX2_carry 107 = .ok (.ireturn, 1) := by decide +kernel
theorem dX2_tilt_0 : decode cX2_tilt 0 = .ok (.aload_n 0, 1) := by decide +kernel
theorem dX2_tilt_1 : decode cX2_tilt 1 = .ok (.iconst 0, 1) := by decide +kernel
theorem dX2_tilt_2 : decode cX2_tilt 2 = .ok (.putfield 28, 3) := by decide +kernel
theorem dX2_tilt_5 : decode cX2_tilt 5 = .ok (.aload_n 0, 1) := by decide +kernel
theorem dX2_tilt_6 : decode cX2_tilt 6 = .ok (.getfield 100, 3) := by decide +kernel
theorem dX2_tilt_9 : decode cX2_tilt 9 = .ok (.ireturn, 1) := by decide +kernel
theorem dX2_balance_0 : decode cX2_balance 0 = .ok (.aload_n 0, 1) := by decide +kernel
theorem dX2_balance_1 : decode cX2_balance 1 = .ok (.iconst 0, 1) := by decide +kernel
theorem dX2_balance_2 : decode cX2_balance 2 = .ok (.putfield 28, 3) := by decide +kernel
theorem dX2_balance_5 : decode cX2_balance 5 = .ok (.iconst 0, 1) := by decide +kernel
theorem dX2_balance_6 : decode cX2_balance 6 = .ok (.istore_n 1, 1) := by decide +kernel
theorem dX2_balance_7 : decode cX2_balance 7 = .ok (.iconst 0, 1) := by decide +kernel
theorem dX2_balance_8 : decode cX2_balance 8 = .ok (.istore_n 2, 1) := by decide +kernel
theorem dX2_balance_9 : decode cX2_balance 9 = .ok (.iload_n 2, 1) := by decide +kernel
theorem dX2_balance_10 : decode cX2_balance 10 = .ok (.bipush 6, 2) := by decide +kernel
theorem dX2_balance_12 : decode cX2_balance 12 = .ok (.if_icmp .ge 30, 3) := by decide +kernel
theorem dX2_balance_15 : decode cX2_balance 15 = .ok (.iload_n 1, 1) := by decide +kernel
theorem dX2_balance_16 : decode cX2_balance 16 = .ok (.aload_n 0, 1) := by decide +kernel
theorem dX2_balance_17 : decode cX2_balance 17 = .ok (.getfield 9, 3) := by decide +kernel
theorem dX2_balance_20 : decode cX2_balance 20 = .ok (.iload_n 2, 1) := by decide +kernel
theorem dX2_balance_21 : decode cX2_balance 21 = .ok (.iaload, 1) := by decide +kernel
theorem dX2_balance_22 : decode cX2_balance 22 = .ok (.bipush 20, 2) := by decide +kernel
theorem dX2_balance_24 : decode cX2_balance 24 = .ok (.aload_n 0, 1) := by decide +kernel
theorem dX2_balance_25 : decode cX2_balance 25 = .ok (.getfield 22, 3) := by decide +kernel
theorem dX2_balance_28 : decode cX2_balance 28 = .ok (.iload_n 2, 1) := by decide +kernel
theorem dX2_balance_29 : decode cX2_balance 29 = .ok (.iaload, 1) := by decide +kernel
theorem dX2_balance_30 : decode cX2_balance 30 = .ok (.invokestatic 103, 3) := by decide +kernel
theorem dX2_balance_33 : decode cX2_balance 33 = .ok (.imul, 1) := by decide +kernel
theorem dX2_balance_34 : decode cX2_balance 34 = .ok (.iadd, 1) := by decide +kernel
theorem dX2_balance_35 : decode cX2_balance 35 = .ok (.istore_n 1, 1) := by decide +kernel
theorem dX2_balance_36 : decode cX2_balance 36 = .ok (.iinc 2 1, 3) := by decide +kernel
theorem dX2_balance_39 : decode cX2_balance 39 = .ok (.goto (-30), 3) := by decide +kernel
theorem dX2_balance_42 : decode cX2_balance 42 = .ok (.iload_n 1, 1) := by decide +kernel
theorem dX2_balance_43 : decode cX2_balance 43 = .ok (.iconst 1, 1) := by decide +kernel
theorem dX2_balance_44 : decode cX2_balance 44 = .ok (.iadd, 1) := by decide +kernel
theorem dX2_balance_45 : decode cX2_balance 45 = .ok (.newarray .boolean, 2) := by decide +kernel
theorem dX2_balance_47 : decode cX2_balance 47 = .ok (.astore_n 2, 1) := by decide +kernel
theorem dX2_balance_48 : decode cX2_balance 48 = .ok (.aload_n 2, 1) := by decide +kernel
theorem dX2_balance_49 : decode cX2_balance 49 = .ok (.iconst 0, 1) := by decide +kernel
theorem dX2_balance_50 : decode cX2_balance 50 = .ok (.iconst 1, 1) := by decide +kernel
theorem dX2_balance_51 : decode cX2_balance 51 = .ok (.bastore, 1) := by decide +kernel
theorem dX2_balance_52 : decode cX2_balance 52 = .ok (.iconst 0, 1) := by decide +kernel
theorem dX2_balance_53 : decode cX2_balance 53 = .ok (.istore_n 3, 1) := by decide +kernel
theorem dX2_balance_54 : decode cX2_balance 54 = .ok (.iload_n 3, 1) := by decide +kernel
theorem dX2_balance_55 : decode cX2_balance 55 = .ok (.bipush 6, 2) := by decide +kernel
theorem dX2_balance_57 : decode cX2_balance 57 = .ok (.if_icmp .ge 72, 3) := by decide +kernel
theorem dX2_balance_60 : decode cX2_balance 60 = .ok (.iconst 0, 1) := by decide +kernel
theorem dX2_balance_61 : decode cX2_balance 61 = .ok (.istore 4, 2) := by decide +kernel
theorem dX2_balance_63 : decode cX2_balance 63 = .ok (.iload 4, 2) := by decide +kernel
theorem dX2_balance_65 : decode cX2_balance 65 = .ok (.bipush 20, 2) := by decide +kernel
theorem dX2_balance_67 : decode cX2_balance 67 = .ok (.aload_n 0, 1) := by decide +kernel
theorem dX2_balance_68 : decode cX2_balance 68 = .ok (.getfield 22, 3) := by decide +kernel
theorem dX2_balance_71 : decode cX2_balance 71 = .ok (.iload_n 3, 1) := by decide +kernel
theorem dX2_balance_72 : decode cX2_balance 72 = .ok (.iaload, 1) := by decide +kernel
theorem dX2_balance_73 : decode cX2_balance 73 = .ok (.invokestatic 103, 3) := by decide +kernel
theorem dX2_balance_76 : decode cX2_balance 76 = .ok (.if_icmp .ge 47, 3) := by decide +kernel
theorem dX2_balance_79 : decode cX2_balance 79 = .ok (.iload_n 1, 1) := by decide +kernel
theorem dX2_balance_80 : decode cX2_balance 80 = .ok (.istore 5, 2) := by decide +kernel
theorem dX2_balance_82 : decode cX2_balance 82 = .ok (.iload 5, 2) := by decide +kernel
theorem dX2_balance_84 : decode cX2_balance 84 = .ok (.aload_n 0, 1) := by decide +kernel
theorem dX2_balance_85 : decode cX2_balance 85 = .ok (.getfield 9, 3) := by decide +kernel
theorem dX2_balance_88 : decode cX2_balance 88 = .ok (.iload_n 3, 1) := by decide +kernel
theorem dX2_balance_89 : decode cX2_balance 89 = .ok (.iaload, 1) := by decide +kernel
theorem dX2_balance_90 : decode cX2_balance 90 = .ok (.if_icmp .lt 27, 3) := by decide +kernel
theorem dX2_balance_93 : decode cX2_balance 93 = .ok (.aload_n 2, 1) := by decide +kernel
theorem dX2_balance_94 : decode cX2_balance 94 = .ok (.iload 5, 2) := by decide +kernel
theorem dX2_balance_96 : decode cX2_balance 96 = .ok (.dup2, 1) := by decide +kernel
theorem dX2_balance_97 : decode cX2_balance 97 = .ok (.baload, 1) := by decide +kernel
theorem dX2_balance_98 : decode cX2_balance 98 = .ok (.aload_n 2, 1) := by decide +kernel
theorem dX2_balance_99 : decode cX2_balance 99 = .ok (.iload 5, 2) := by decide +kernel
theorem dX2_balance_101 : decode cX2_balance 101 = .ok (.aload_n 0, 1) := by decide +kernel
theorem dX2_balance_102 : decode cX2_balance 102 = .ok (.getfield 9, 3) := by decide +kernel
theorem dX2_balance_105 : decode cX2_balance 105 = .ok (.iload_n 3, 1) := by decide +kernel
theorem dX2_balance_106 : decode cX2_balance 106 = .ok (.iaload, 1) := by decide +kernel
theorem dX2_balance_107 : decode cX2_balance 107 = .ok (.isub, 1) := by decide +kernel
theorem dX2_balance_108 : decode cX2_balance 108 = .ok (.baload, 1) := by decide +kernel
theorem dX2_balance_109 : decode cX2_balance 109 = .ok (.ior, 1) := by decide +kernel
theorem dX2_balance_110 : decode cX2_balance 110 = .ok (.bastore, 1) := by decide +kernel
theorem dX2_balance_111 : decode cX2_balance 111 = .ok (.iinc 5 (-1), 3) := by decide +kernel
theorem dX2_balance_114 : decode cX2_balance 114 = .ok (.goto (-32), 3) := by decide +kernel
theorem dX2_balance_117 : decode cX2_balance 117 = .ok (.iinc 4 1, 3) := by decide +kernel
theorem dX2_balance_120 : decode cX2_balance 120 = .ok (.goto (-57), 3) := by decide +kernel
theorem dX2_balance_123 : decode cX2_balance 123 = .ok (.iinc 3 1, 3) := by decide +kernel
theorem dX2_balance_126 : decode cX2_balance 126 = .ok (.goto (-72), 3) := by decide +kernel
theorem dX2_balance_129 : decode cX2_balance 129 = .ok (.iload_n 1, 1) := by decide +kernel
theorem dX2_balance_130 : decode cX2_balance 130 = .ok (.iconst 2, 1) := by decide +kernel
theorem dX2_balance_131 : decode cX2_balance 131 = .ok (.idiv, 1) := by decide +kernel
theorem dX2_balance_132 : decode cX2_balance 132 = .ok (.istore_n 3, 1) := by decide +kernel
theorem dX2_balance_133 : decode cX2_balance 133 = .ok (.aload_n 2, 1) := by decide +kernel
theorem dX2_balance_134 : decode cX2_balance 134 = .ok (.iload_n 3, 1) := by decide +kernel
theorem dX2_balance_135 : decode cX2_balance 135 = .ok (.baload, 1) := by decide +kernel
theorem dX2_balance_136 : decode cX2_balance 136 = .ok (.ifCond .ne 9, 3) := by decide +kernel
theorem dX2_balance_139 : decode cX2_balance 139 = .ok (.iinc 3 (-1), 3) := by decide +kernel
theorem dX2_balance_142 : decode cX2_balance 142 = .ok (.goto (-9), 3) := by decide +kernel
theorem dX2_balance_145 : decode cX2_balance 145 = .ok (.iload_n 1, 1) := by decide +kernel
theorem dX2_balance_146 : decode cX2_balance 146 = .ok (.iconst 2, 1) := by decide +kernel
theorem dX2_balance_147 : decode cX2_balance 147 = .ok (.iload_n 3, 1) := by decide +kernel
theorem dX2_balance_148 : decode cX2_balance 148 = .ok (.imul, 1) := by decide +kernel
theorem dX2_balance_149 : decode cX2_balance 149 = .ok (.isub, 1) := by decide +kernel
theorem dX2_balance_150 : decode cX2_balance 150 = .ok (.ireturn, 1) := by decide +kernel
set_option maxRecDepth 20000 in
theorem ggX2_yearOn_X2_tr : GoodIn wsX2_yearOn wsX2_tr := goodIn_r _ [16, 17, 26, 27, 28, 29, 30, 31, 32, 33] (by decide +kernel) (by decide +kernel)
set_option maxRecDepth 20000 in
theorem gX2_yearOn_X2_tr : GoodIn wsX2_yearOn (wsV RX2 44 RX2 yX2_tr wsX2_tr) := goodIn_app (goodIn_of _ (by decide +kernel)) ggX2_yearOn_X2_tr
set_option maxRecDepth 20000 in
theorem ggX2_yearOn_X2_set : GoodIn wsX2_yearOn wsX2_set := goodIn_r _ [21, 17, 26, 27, 28, 29, 30, 31, 32, 33] (by decide +kernel) (by decide +kernel)
set_option maxRecDepth 20000 in
theorem gX2_yearOn_X2_set : GoodIn wsX2_yearOn (wsV RX2 54 RX2 yX2_set wsX2_set) := goodIn_app (goodIn_of _ (by decide +kernel)) ggX2_yearOn_X2_set
set_option maxRecDepth 20000 in
theorem ggX2_yearOn_X2_apples : GoodIn wsX2_yearOn wsX2_apples := goodIn_r _ [25, 12, 13, 14, 15, 16, 17, 26, 27, 28, 29, 30, 31, 32, 33] (by decide +kernel) (by decide +kernel)
set_option maxRecDepth 20000 in
theorem gX2_yearOn_X2_apples : GoodIn wsX2_yearOn (wsV RX2 85 RX2 yX2_apples wsX2_apples) := goodIn_app (goodIn_of _ (by decide +kernel)) ggX2_yearOn_X2_apples
theorem dX2_yearOn_0 : decode cX2_yearOn 0 = .ok (.iconst 0, 1) := by decide +kernel
theorem dX2_yearOn_1 : decode cX2_yearOn 1 = .ok (.istore_n 1, 1) := by decide +kernel
theorem dX2_yearOn_2 : decode cX2_yearOn 2 = .ok (.aload_n 0, 1) := by decide +kernel
theorem dX2_yearOn_3 : decode cX2_yearOn 3 = .ok (.getfield 16, 3) := by decide +kernel
theorem dX2_yearOn_6 : decode cX2_yearOn 6 = .ok (.aload_n 0, 1) := by decide +kernel
theorem dX2_yearOn_7 : decode cX2_yearOn 7 = .ok (.getfield 25, 3) := by decide +kernel
theorem dX2_yearOn_10 : decode cX2_yearOn 10 = .ok (.iconst 2, 1) := by decide +kernel
theorem dX2_yearOn_11 : decode cX2_yearOn 11 = .ok (.iaload, 1) := by decide +kernel
theorem dX2_yearOn_12 : decode cX2_yearOn 12 = .ok (.bipush 10, 2) := by decide +kernel
theorem dX2_yearOn_14 : decode cX2_yearOn 14 = .ok (.irem, 1) := by decide +kernel
theorem dX2_yearOn_15 : decode cX2_yearOn 15 = .ok (.iaload, 1) := by decide +kernel
theorem dX2_yearOn_16 : decode cX2_yearOn 16 = .ok (.istore_n 2, 1) := by decide +kernel
theorem dX2_yearOn_17 : decode cX2_yearOn 17 = .ok (.iconst 0, 1) := by decide +kernel
theorem dX2_yearOn_18 : decode cX2_yearOn 18 = .ok (.istore_n 3, 1) := by decide +kernel
theorem dX2_yearOn_19 : decode cX2_yearOn 19 = .ok (.iload_n 3, 1) := by decide +kernel
theorem dX2_yearOn_20 : decode cX2_yearOn 20 = .ok (.bipush 40, 2) := by decide +kernel
theorem dX2_yearOn_22 : decode cX2_yearOn 22 = .ok (.if_icmp .ge 135, 3) := by decide +kernel
theorem dX2_yearOn_25 : decode cX2_yearOn 25 = .ok (.aload_n 0, 1) := by decide +kernel
theorem dX2_yearOn_26 : decode cX2_yearOn 26 = .ok (.iload_n 3, 1) := by decide +kernel
theorem dX2_yearOn_27 : decode cX2_yearOn 27 = .ok (.iconst 0, 1) := by decide +kernel
theorem dX2_yearOn_28 : decode cX2_yearOn 28 = .ok (.invokevirtual 44, 3) := by decide +kernel
theorem dX2_yearOn_31 : decode cX2_yearOn 31 = .ok (.ifCond .ne 6, 3) := by decide +kernel
theorem dX2_yearOn_34 : decode cX2_yearOn 34 = .ok (.goto 117, 3) := by decide +kernel
theorem dX2_yearOn_37 : decode cX2_yearOn 37 = .ok (.iconst 0, 1) := by decide +kernel
theorem dX2_yearOn_38 : decode cX2_yearOn 38 = .ok (.aload_n 0, 1) := by decide +kernel
theorem dX2_yearOn_39 : decode cX2_yearOn 39 = .ok (.iload_n 3, 1) := by decide +kernel
theorem dX2_yearOn_40 : decode cX2_yearOn 40 = .ok (.iconst 1, 1) := by decide +kernel
theorem dX2_yearOn_41 : decode cX2_yearOn 41 = .ok (.invokevirtual 44, 3) := by decide +kernel
theorem dX2_yearOn_44 : decode cX2_yearOn 44 = .ok (.iconst 0, 1) := by decide +kernel
theorem dX2_yearOn_45 : decode cX2_yearOn 45 = .ok (.iload_n 2, 1) := by decide +kernel
theorem dX2_yearOn_46 : decode cX2_yearOn 46 = .ok (.aload_n 0, 1) := by decide +kernel
theorem dX2_yearOn_47 : decode cX2_yearOn 47 = .ok (.getfield 13, 3) := by decide +kernel
theorem dX2_yearOn_50 : decode cX2_yearOn 50 = .ok (.aload_n 0, 1) := by decide +kernel
theorem dX2_yearOn_51 : decode cX2_yearOn 51 = .ok (.iload_n 3, 1) := by decide +kernel
theorem dX2_yearOn_52 : decode cX2_yearOn 52 = .ok (.iconst 3, 1) := by decide +kernel
theorem dX2_yearOn_53 : decode cX2_yearOn 53 = .ok (.invokevirtual 44, 3) := by decide +kernel
theorem dX2_yearOn_56 : decode cX2_yearOn 56 = .ok (.iaload, 1) := by decide +kernel
theorem dX2_yearOn_57 : decode cX2_yearOn 57 = .ok (.isub, 1) := by decide +kernel
theorem dX2_yearOn_58 : decode cX2_yearOn 58 = .ok (.invokestatic 58, 3) := by decide +kernel
theorem dX2_yearOn_61 : decode cX2_yearOn 61 = .ok (.isub, 1) := by decide +kernel
theorem dX2_yearOn_62 : decode cX2_yearOn 62 = .ok (.invokestatic 58, 3) := by decide +kernel
theorem dX2_yearOn_65 : decode cX2_yearOn 65 = .ok (.istore 4, 2) := by decide +kernel
theorem dX2_yearOn_67 : decode cX2_yearOn 67 = .ok (.aload_n 0, 1) := by decide +kernel
theorem dX2_yearOn_68 : decode cX2_yearOn 68 = .ok (.iload_n 3, 1) := by decide +kernel
theorem dX2_yearOn_69 : decode cX2_yearOn 69 = .ok (.iconst 1, 1) := by decide +kernel
theorem dX2_yearOn_70 : decode cX2_yearOn 70 = .ok (.iload 4, 2) := by decide +kernel
theorem dX2_yearOn_72 : decode cX2_yearOn 72 = .ok (.invokevirtual 54, 3) := by decide +kernel
theorem dX2_yearOn_75 : decode cX2_yearOn 75 = .ok (.aload_n 0, 1) := by decide +kernel
theorem dX2_yearOn_76 : decode cX2_yearOn 76 = .ok (.iload_n 3, 1) := by decide +kernel
theorem dX2_yearOn_77 : decode cX2_yearOn 77 = .ok (.invokevirtual 85, 3) := by decide +kernel
theorem dX2_yearOn_80 : decode cX2_yearOn 80 = .ok (.istore 5, 2) := by decide +kernel
theorem dX2_yearOn_82 : decode cX2_yearOn 82 = .ok (.aload_n 0, 1) := by decide +kernel
theorem dX2_yearOn_83 : decode cX2_yearOn 83 = .ok (.getfield 22, 3) := by decide +kernel
theorem dX2_yearOn_86 : decode cX2_yearOn 86 = .ok (.aload_n 0, 1) := by decide +kernel
theorem dX2_yearOn_87 : decode cX2_yearOn 87 = .ok (.iload_n 3, 1) := by decide +kernel
theorem dX2_yearOn_88 : decode cX2_yearOn 88 = .ok (.iconst 3, 1) := by decide +kernel
theorem dX2_yearOn_89 : decode cX2_yearOn 89 = .ok (.invokevirtual 44, 3) := by decide +kernel
theorem dX2_yearOn_92 : decode cX2_yearOn 92 = .ok (.dup2, 1) := by decide +kernel
theorem dX2_yearOn_93 : decode cX2_yearOn 93 = .ok (.iaload, 1) := by decide +kernel
theorem dX2_yearOn_94 : decode cX2_yearOn 94 = .ok (.iload 5, 2) := by decide +kernel
theorem dX2_yearOn_96 : decode cX2_yearOn 96 = .ok (.iadd, 1) := by decide +kernel
theorem dX2_yearOn_97 : decode cX2_yearOn 97 = .ok (.iastore, 1) := by decide +kernel
theorem dX2_yearOn_98 : decode cX2_yearOn 98 = .ok (.iload_n 1, 1) := by decide +kernel
theorem dX2_yearOn_99 : decode cX2_yearOn 99 = .ok (.iload 5, 2) := by decide +kernel
theorem dX2_yearOn_101 : decode cX2_yearOn 101 = .ok (.iadd, 1) := by decide +kernel
theorem dX2_yearOn_102 : decode cX2_yearOn 102 = .ok (.istore_n 1, 1) := by decide +kernel
theorem dX2_yearOn_103 : decode cX2_yearOn 103 = .ok (.aload_n 0, 1) := by decide +kernel
theorem dX2_yearOn_104 : decode cX2_yearOn 104 = .ok (.iload_n 3, 1) := by decide +kernel
theorem dX2_yearOn_105 : decode cX2_yearOn 105 = .ok (.iconst 4, 1) := by decide +kernel
theorem dX2_yearOn_106 : decode cX2_yearOn 106 = .ok (.iload 5, 2) := by decide +kernel
theorem dX2_yearOn_108 : decode cX2_yearOn 108 = .ok (.bipush 20, 2) := by decide +kernel
theorem dX2_yearOn_110 : decode cX2_yearOn 110 = .ok (.if_icmp .lt 7, 3) := by decide +kernel
theorem dX2_yearOn_113 : decode cX2_yearOn 113 = .ok (.iconst 1, 1) := by decide +kernel
theorem dX2_yearOn_114 : decode cX2_yearOn 114 = .ok (.goto 4, 3) := by decide +kernel
theorem dX2_yearOn_117 : decode cX2_yearOn 117 = .ok (.iconst 0, 1) := by decide +kernel
theorem dX2_yearOn_118 : decode cX2_yearOn 118 = .ok (.invokevirtual 54, 3) := by decide +kernel
theorem dX2_yearOn_121 : decode cX2_yearOn 121 = .ok (.aload_n 0, 1) := by decide +kernel
theorem dX2_yearOn_122 : decode cX2_yearOn 122 = .ok (.iload_n 3, 1) := by decide +kernel
theorem dX2_yearOn_123 : decode cX2_yearOn 123 = .ok (.iconst 1, 1) := by decide +kernel
theorem dX2_yearOn_124 : decode cX2_yearOn 124 = .ok (.bipush 9, 2) := by decide +kernel
theorem dX2_yearOn_126 : decode cX2_yearOn 126 = .ok (.iload 4, 2) := by decide +kernel
theorem dX2_yearOn_128 : decode cX2_yearOn 128 = .ok (.aload_n 0, 1) := by decide +kernel
theorem dX2_yearOn_129 : decode cX2_yearOn 129 = .ok (.iload_n 3, 1) := by decide +kernel
theorem dX2_yearOn_130 : decode cX2_yearOn 130 = .ok (.iconst 2, 1) := by decide +kernel
theorem dX2_yearOn_131 : decode cX2_yearOn 131 = .ok (.invokevirtual 44, 3) := by decide +kernel
theorem dX2_yearOn_134 : decode cX2_yearOn 134 = .ok (.bipush 7, 2) := by decide +kernel
theorem dX2_yearOn_136 : decode cX2_yearOn 136 = .ok (.if_icmp .lt 7, 3) := by decide +kernel
theorem dX2_yearOn_139 : decode cX2_yearOn 139 = .ok (.iconst 2, 1) := by decide +kernel
theorem dX2_yearOn_140 : decode cX2_yearOn 140 = .ok (.goto 4, 3) := by decide +kernel
theorem dX2_yearOn_143 : decode cX2_yearOn 143 = .ok (.iconst 1, 1) := by decide +kernel
theorem dX2_yearOn_144 : decode cX2_yearOn 144 = .ok (.iadd, 1) := by decide +kernel
theorem dX2_yearOn_145 : decode cX2_yearOn 145 = .ok (.invokestatic 103, 3) := by decide +kernel
theorem dX2_yearOn_148 : decode cX2_yearOn 148 = .ok (.invokevirtual 54, 3) := by decide +kernel
theorem dX2_yearOn_151 : decode cX2_yearOn 151 = .ok (.iinc 3 1, 3) := by decide +kernel
theorem dX2_yearOn_154 : decode cX2_yearOn 154 = .ok (.goto (-135), 3) := by decide +kernel
theorem dX2_yearOn_157 : decode cX2_yearOn 157 = .ok (.aload_n 0, 1) := by decide +kernel
theorem dX2_yearOn_158 : decode cX2_yearOn 158 = .ok (.getfield 25, 3) := by decide +kernel
theorem dX2_yearOn_161 : decode cX2_yearOn 161 = .ok (.iconst 0, 1) := by decide +kernel
theorem dX2_yearOn_162 : decode cX2_yearOn 162 = .ok (.bipush 20, 2) := by decide +kernel
theorem dX2_yearOn_164 : decode cX2_yearOn 164 = .ok (.iastore, 1) := by decide +kernel
theorem dX2_yearOn_165 : decode cX2_yearOn 165 = .ok (.aload_n 0, 1) := by decide +kernel
theorem dX2_yearOn_166 : decode cX2_yearOn 166 = .ok (.getfield 25, 3) := by decide +kernel
theorem dX2_yearOn_169 : decode cX2_yearOn 169 = .ok (.iconst 1, 1) := by decide +kernel
theorem dX2_yearOn_170 : decode cX2_yearOn 170 = .ok (.bipush 20, 2) := by decide +kernel
theorem dX2_yearOn_172 : decode cX2_yearOn 172 = .ok (.iastore, 1) := by decide +kernel
theorem dX2_yearOn_173 : decode cX2_yearOn 173 = .ok (.aload_n 0, 1) := by decide +kernel
theorem dX2_yearOn_174 : decode cX2_yearOn 174 = .ok (.getfield 25, 3) := by decide +kernel
theorem dX2_yearOn_177 : decode cX2_yearOn 177 = .ok (.iconst 2, 1) := by decide +kernel
theorem dX2_yearOn_178 : decode cX2_yearOn 178 = .ok (.dup2, 1) := by decide +kernel
theorem dX2_yearOn_179 : decode cX2_yearOn 179 = .ok (.iaload, 1) := by decide +kernel
theorem dX2_yearOn_180 : decode cX2_yearOn 180 = .ok (.iconst 1, 1) := by decide +kernel
theorem dX2_yearOn_181 : decode cX2_yearOn 181 = .ok (.iadd, 1) := by decide +kernel
theorem dX2_yearOn_182 : decode cX2_yearOn 182 = .ok (.iastore, 1) := by decide +kernel
theorem dX2_yearOn_183 : decode cX2_yearOn 183 = .ok (.iload_n 1, 1) := by decide +kernel
theorem dX2_yearOn_184 : decode cX2_yearOn 184 = .ok (.ireturn, 1) := by decide +kernel
set_option maxRecDepth 20000 in
theorem ggX2_yearsOn_X2_yearOn : GoodIn wsX2_yearsOn wsX2_yearOn := goodIn_r _ [5, 6, 7, 8, 9, 10, 11, 12, 13, 14, 15, 16, 17, 18, 19, 4, 20, 21, 22, 23, 24, 25, 26, 27, 28, 29, 30, 31, 32, 33, 34, 35, 36, 37] (by decide +kernel) (by decide +kernel)
set_option maxRecDepth 20000 in
theorem gX2_yearsOn_X2_yearOn : GoodIn wsX2_yearsOn (wsV RX2 106 RX2 yX2_yearOn wsX2_yearOn) := goodIn_app (goodIn_of _ (by decide +kernel)) ggX2_yearsOn_X2_yearOn
theorem dX2_yearsOn_0 : decode cX2_yearsOn 0 = .ok (.iconst 0, 1) := by decide +kernel
theorem dX2_yearsOn_1 : decode cX2_yearsOn 1 = .ok (.istore_n 2, 1) := by decide +kernel
theorem dX2_yearsOn_2 : decode cX2_yearsOn 2 = .ok (.iconst 0, 1) := by decide +kernel
theorem dX2_yearsOn_3 : decode cX2_yearsOn 3 = .ok (.istore_n 3, 1) := by decide +kernel
theorem dX2_yearsOn_4 : decode cX2_yearsOn 4 = .ok (.iload_n 3, 1) := by decide +kernel
theorem dX2_yearsOn_5 : decode cX2_yearsOn 5 = .ok (.iload_n 1, 1) := by decide +kernel
theorem dX2_yearsOn_6 : decode cX2_yearsOn 6 = .ok (.if_icmp .ge 16, 3) := by decide +kernel
theorem dX2_yearsOn_9 : decode cX2_yearsOn 9 = .ok (.iload_n 2, 1) := by decide +kernel
theorem dX2_yearsOn_10 : decode cX2_yearsOn 10 = .ok (.aload_n 0, 1) := by decide +kernel
theorem dX2_yearsOn_11 : decode cX2_yearsOn 11 = .ok (.invokevirtual 106, 3) := by decide +kernel
theorem dX2_yearsOn_14 : decode cX2_yearsOn 14 = .ok (.iadd, 1) := by decide +kernel
theorem dX2_yearsOn_15 : decode cX2_yearsOn 15 = .ok (.istore_n 2, 1) := by decide +kernel
theorem dX2_yearsOn_16 : decode cX2_yearsOn 16 = .ok (.iinc 3 1, 3) := by decide +kernel
theorem dX2_yearsOn_19 : decode cX2_yearsOn 19 = .ok (.goto (-15), 3) := by decide +kernel
theorem dX2_yearsOn_22 : decode cX2_yearsOn 22 = .ok (.iload_n 2, 1) := by decide +kernel
theorem dX2_yearsOn_23 : decode cX2_yearsOn 23 = .ok (.ireturn, 1) := by decide +kernel
set_option maxRecDepth 20000 in
theorem ggX2_pass_X2_isIn : GoodIn wsX2_pass wsX2_isIn := goodIn_r _ [5] (by decide +kernel) (by decide +kernel)
set_option maxRecDepth 20000 in
theorem gX2_pass_X2_isIn : GoodIn wsX2_pass (va_wsS RX2 32 yX2_isIn wsX2_isIn) := goodIn_app (goodIn_of _ (by decide +kernel)) ggX2_pass_X2_isIn
set_option maxRecDepth 20000 in
theorem ggX2_pass_X2_yearsOn : GoodIn wsX2_pass wsX2_yearsOn := goodIn_r _ [9, 10, 11, 12, 4, 13, 14, 15, 16, 17, 18, 19, 20, 21, 22, 23, 24, 25, 26, 27, 28, 29, 30, 31, 32, 33, 34, 35, 36, 37, 42, 43, 44, 45, 46, 47, 48, 49] (by decide +kernel) (by decide +kernel)
set_option maxRecDepth 20000 in
theorem gX2_pass_X2_yearsOn : GoodIn wsX2_pass (wsV RX2 110 RX2 yX2_yearsOn wsX2_yearsOn) := goodIn_app (goodIn_of _ (by decide +kernel)) ggX2_pass_X2_yearsOn
set_option maxRecDepth 20000 in
theorem ggX2_pass_X2_fail : GoodIn wsX2_pass wsX2_fail := goodIn_r _ [41, 1, 42, 43, 44, 45, 46, 47, 48, 49] (by decide +kernel) (by decide +kernel)
set_option maxRecDepth 20000 in
theorem gX2_pass_X2_fail : GoodIn wsX2_pass (wsV RX2 40 RX2 yX2_fail wsX2_fail) := goodIn_app (goodIn_of _ (by decide +kernel)) ggX2_pass_X2_fail
theorem dX2_pass_0 : decode cX2_pass 0 = .ok (.aload_n 0, 1) := by decide +kernel
theorem dX2_pass_1 : decode cX2_pass 1 = .ok (.iconst 0, 1) := by decide +kernel
theorem dX2_pass_2 : decode cX2_pass 2 = .ok (.putfield 28, 3) := by decide +kernel
theorem dX2_pass_5 : decode cX2_pass 5 = .ok (.iload_n 1, 1) := by decide +kernel
theorem dX2_pass_6 : decode cX2_pass 6 = .ok (.iconst 1, 1) := by decide +kernel
theorem dX2_pass_7 : decode cX2_pass 7 = .ok (.bipush 30, 2) := by decide +kernel
theorem dX2_pass_9 : decode cX2_pass 9 = .ok (.invokestatic 32, 3) := by decide +kernel
theorem dX2_pass_12 : decode cX2_pass 12 = .ok (.ifCond .eq 11, 3) := by decide +kernel
theorem dX2_pass_15 : decode cX2_pass 15 = .ok (.aload_n 0, 1) := by decide +kernel
theorem dX2_pass_16 : decode cX2_pass 16 = .ok (.iload_n 1, 1) := by decide +kernel
theorem dX2_pass_17 : decode cX2_pass 17 = .ok (.invokevirtual 110, 3) := by decide +kernel
theorem dX2_pass_20 : decode cX2_pass 20 = .ok (.goto 8, 3) := by decide +kernel
theorem dX2_pass_23 : decode cX2_pass 23 = .ok (.aload_n 0, 1) := by decide +kernel
theorem dX2_pass_24 : decode cX2_pass 24 = .ok (.iconst 1, 1) := by decide +kernel
theorem dX2_pass_25 : decode cX2_pass 25 = .ok (.invokevirtual 40, 3) := by decide +kernel
theorem dX2_pass_28 : decode cX2_pass 28 = .ok (.ireturn, 1) := by decide +kernel
theorem dX2_kept_0 : decode cX2_kept 0 = .ok (.iconst 3, 1) := by decide +kernel
theorem dX2_kept_1 : decode cX2_kept 1 = .ok (.anewarray 113, 3) := by decide +kernel
theorem dX2_kept_4 : decode cX2_kept 4 = .ok (.dup, 1) := by decide +kernel
theorem dX2_kept_5 : decode cX2_kept 5 = .ok (.iconst 0, 1) := by decide +kernel
theorem dX2_kept_6 : decode cX2_kept 6 = .ok (.aload_n 0, 1) := by decide +kernel
theorem dX2_kept_7 : decode cX2_kept 7 = .ok (.getfield 19, 3) := by decide +kernel
theorem dX2_kept_10 : decode cX2_kept 10 = .ok (.invokevirtual 114, 3) := by decide +kernel
theorem dX2_kept_13 : decode cX2_kept 13 = .ok (.checkcast 113, 3) := by decide +kernel
theorem dX2_kept_16 : decode cX2_kept 16 = .ok (.aastore, 1) := by decide +kernel
theorem dX2_kept_17 : decode cX2_kept 17 = .ok (.dup, 1) := by decide +kernel
theorem dX2_kept_18 : decode cX2_kept 18 = .ok (.iconst 1, 1) := by decide +kernel
theorem dX2_kept_19 : decode cX2_kept 19 = .ok (.aload_n 0, 1) := by decide +kernel
theorem dX2_kept_20 : decode cX2_kept 20 = .ok (.getfield 22, 3) := by decide +kernel
theorem dX2_kept_23 : decode cX2_kept 23 = .ok (.invokevirtual 114, 3) := by decide +kernel
theorem dX2_kept_26 : decode cX2_kept 26 = .ok (.checkcast 113, 3) := by decide +kernel
theorem dX2_kept_29 : decode cX2_kept 29 = .ok (.aastore, 1) := by decide +kernel
theorem dX2_kept_30 : decode cX2_kept 30 = .ok (.dup, 1) := by decide +kernel
theorem dX2_kept_31 : decode cX2_kept 31 = .ok (.iconst 2, 1) := by decide +kernel
theorem dX2_kept_32 : decode cX2_kept 32 = .ok (.aload_n 0, 1) := by decide +kernel
theorem dX2_kept_33 : decode cX2_kept 33 = .ok (.getfield 25, 3) := by decide +kernel
theorem dX2_kept_36 : decode cX2_kept 36 = .ok (.invokevirtual 114, 3) := by decide +kernel
theorem dX2_kept_39 : decode cX2_kept 39 = .ok (.checkcast 113, 3) := by decide +kernel
theorem dX2_kept_42 : decode cX2_kept 42 = .ok (.aastore, 1) := by decide +kernel
theorem dX2_kept_43 : decode cX2_kept 43 = .ok (.areturn, 1) := by decide +kernel
theorem dX2_bringBack_0 : decode cX2_bringBack 0 = .ok (.iconst 3, 1) := by decide +kernel
theorem dX2_bringBack_1 : decode cX2_bringBack 1 = .ok (.anewarray 113, 3) := by decide +kernel
theorem dX2_bringBack_4 : decode cX2_bringBack 4 = .ok (.dup, 1) := by decide +kernel
theorem dX2_bringBack_5 : decode cX2_bringBack 5 = .ok (.iconst 0, 1) := by decide +kernel
theorem dX2_bringBack_6 : decode cX2_bringBack 6 = .ok (.aload_n 0, 1) := by decide +kernel
theorem dX2_bringBack_7 : decode cX2_bringBack 7 = .ok (.getfield 19, 3) := by decide +kernel
theorem dX2_bringBack_10 : decode cX2_bringBack 10 = .ok (.aastore, 1) := by decide +kernel
theorem dX2_bringBack_11 : decode cX2_bringBack 11 = .ok (.dup, 1) := by decide +kernel
theorem dX2_bringBack_12 : decode cX2_bringBack 12 = .ok (.iconst 1, 1) := by decide +kernel
theorem dX2_bringBack_13 : decode cX2_bringBack 13 = .ok (.aload_n 0, 1) := by decide +kernel
theorem dX2_bringBack_14 : decode cX2_bringBack 14 = .ok (.getfield 22, 3) := by decide +kernel
theorem dX2_bringBack_17 : decode cX2_bringBack 17 = .ok (.aastore, 1) := by decide +kernel
theorem dX2_bringBack_18 : decode cX2_bringBack 18 = .ok (.dup, 1) := by decide +kernel
theorem dX2_bringBack_19 : decode cX2_bringBack 19 = .ok (.iconst 2, 1) := by decide +kernel
theorem dX2_bringBack_20 : decode cX2_bringBack 20 = .ok (.aload_n 0, 1) := by decide +kernel
theorem dX2_bringBack_21 : decode cX2_bringBack 21 = .ok (.getfield 25, 3) := by decide +kernel
theorem dX2_bringBack_24 : decode cX2_bringBack 24 = .ok (.aastore, 1) := by decide +kernel
theorem dX2_bringBack_25 : decode cX2_bringBack 25 = .ok (.astore_n 2, 1) := by decide +kernel
theorem dX2_bringBack_26 : decode cX2_bringBack 26 = .ok (.iconst 0, 1) := by decide +kernel
theorem dX2_bringBack_27 : decode cX2_bringBack 27 = .ok (.istore_n 3, 1) := by decide +kernel
theorem dX2_bringBack_28 : decode cX2_bringBack 28 = .ok (.iload_n 3, 1) := by decide +kernel
theorem dX2_bringBack_29 : decode cX2_bringBack 29 = .ok (.aload_n 2, 1) := by decide +kernel
theorem dX2_bringBack_30 : decode cX2_bringBack 30 = .ok (.arraylength, 1) := by decide +kernel
theorem dX2_bringBack_31 : decode cX2_bringBack 31 = .ok (.if_icmp .ge 24, 3) := by decide +kernel
theorem dX2_bringBack_34 : decode cX2_bringBack 34 = .ok (.aload_n 1, 1) := by decide +kernel
theorem dX2_bringBack_35 : decode cX2_bringBack 35 = .ok (.iload_n 3, 1) := by decide +kernel
theorem dX2_bringBack_36 : decode cX2_bringBack 36 = .ok (.aaload, 1) := by decide +kernel
theorem dX2_bringBack_37 : decode cX2_bringBack 37 = .ok (.iconst 0, 1) := by decide +kernel
theorem dX2_bringBack_38 : decode cX2_bringBack 38 = .ok (.aload_n 2, 1) := by decide +kernel
theorem dX2_bringBack_39 : decode cX2_bringBack 39 = .ok (.iload_n 3, 1) := by decide +kernel
theorem dX2_bringBack_40 : decode cX2_bringBack 40 = .ok (.aaload, 1) := by decide +kernel
theorem dX2_bringBack_41 : decode cX2_bringBack 41 = .ok (.iconst 0, 1) := by decide +kernel
theorem dX2_bringBack_42 : decode cX2_bringBack 42 = .ok (.aload_n 2, 1) := by decide +kernel
theorem dX2_bringBack_43 : decode cX2_bringBack 43 = .ok (.iload_n 3, 1) := by decide +kernel
theorem dX2_bringBack_44 : decode cX2_bringBack 44 = .ok (.aaload, 1) := by decide +kernel
theorem dX2_bringBack_45 : decode cX2_bringBack 45 = .ok (.arraylength, 1) := by decide +kernel
theorem dX2_bringBack_46 : decode cX2_bringBack 46 = .ok (.invokestatic 48, 3) := by decide +kernel
theorem dX2_bringBack_49 : decode cX2_bringBack 49 = .ok (.iinc 3 1, 3) := by decide +kernel
theorem dX2_bringBack_52 : decode cX2_bringBack 52 = .ok (.goto (-24), 3) := by decide +kernel
theorem dX2_bringBack_55 : decode cX2_bringBack 55 = .ok (.return_, 1) := by decide +kernel
set_option maxRecDepth 20000 in
theorem ggX2_foresee_X2_isIn : GoodIn wsX2_foresee wsX2_isIn := goodIn_r _ [5] (by decide +kernel) (by decide +kernel)
set_option maxRecDepth 20000 in
theorem gX2_foresee_X2_isIn : GoodIn wsX2_foresee (va_wsS RX2 32 yX2_isIn wsX2_isIn) := goodIn_app (goodIn_of _ (by decide +kernel)) ggX2_foresee_X2_isIn
set_option maxRecDepth 20000 in
theorem ggX2_foresee_X2_fail : GoodIn wsX2_foresee wsX2_fail := goodIn_r _ [9, 1, 64, 65, 66, 67, 68, 69, 70, 71] (by decide +kernel) (by decide +kernel)
set_option maxRecDepth 20000 in
theorem gX2_foresee_X2_fail : GoodIn wsX2_foresee (wsV RX2 40 RX2 yX2_fail wsX2_fail) := goodIn_app (goodIn_of _ (by decide +kernel)) ggX2_foresee_X2_fail
set_option maxRecDepth 20000 in
theorem ggX2_foresee_X2_kept : GoodIn wsX2_foresee wsX2_kept := goodIn_r _ [13, 14, 15, 16, 17, 18, 19, 20, 21, 22, 64, 65, 66, 67, 68, 69, 70, 71] (by decide +kernel) (by decide +kernel)
set_option maxRecDepth 20000 in
theorem gX2_foresee_X2_kept : GoodIn wsX2_foresee (wsV RX2 118 RX2 yX2_kept wsX2_kept) := goodIn_app (goodIn_of _ (by decide +kernel)) ggX2_foresee_X2_kept
set_option maxRecDepth 20000 in
theorem ggX2_foresee_X2_yearsOn : GoodIn wsX2_foresee wsX2_yearsOn := goodIn_r _ [26, 27, 28, 29, 4, 30, 31, 22, 32, 33, 34, 35, 36, 21, 37, 38, 39, 40, 41, 42, 43, 15, 44, 45, 46, 47, 48, 49, 50, 51, 64, 65, 66, 67, 68, 69, 70, 71] (by decide +kernel) (by decide +kernel)
set_option maxRecDepth 20000 in
theorem gX2_foresee_X2_yearsOn : GoodIn wsX2_foresee (wsV RX2 110 RX2 yX2_yearsOn wsX2_yearsOn) := goodIn_app (goodIn_of _ (by decide +kernel)) ggX2_foresee_X2_yearsOn
set_option maxRecDepth 20000 in
theorem ggX2_foresee_X2_all : GoodIn wsX2_foresee wsX2_all := goodIn_r _ [55, 40, 41, 42, 4, 43, 15, 64, 65, 66, 67, 68, 69, 70, 71] (by decide +kernel) (by decide +kernel)
set_option maxRecDepth 20000 in
theorem gX2_foresee_X2_all : GoodIn wsX2_foresee (wsV RX2 94 RX2 yX2_all wsX2_all) := goodIn_app (goodIn_of _ (by decide +kernel)) ggX2_foresee_X2_all
set_option maxRecDepth 20000 in
theorem ggX2_foresee_X2_bringBack : GoodIn wsX2_foresee wsX2_bringBack := goodIn_r _ [59, 14, 15, 21, 22, 60, 61, 62, 63, 64, 65, 66, 67, 68, 69, 70, 71] (by decide +kernel) (by decide +kernel)
set_option maxRecDepth 20000 in
theorem gX2_foresee_X2_bringBack : GoodIn wsX2_foresee (wsV RX2 122 RX2 yX2_bringBack wsX2_bringBack) := goodIn_app (goodIn_of _ (by decide +kernel)) ggX2_foresee_X2_bringBack
theorem dX2_foresee_0 : decode cX2_foresee 0 = .ok (.aload_n 0, 1) := by decide +kernel
theorem dX2_foresee_1 : decode cX2_foresee 1 = .ok (.iconst 0, 1) := by decide +kernel
theorem dX2_foresee_2 : decode cX2_foresee 2 = .ok (.putfield 28, 3) := by decide +kernel
theorem dX2_foresee_5 : decode cX2_foresee 5 = .ok (.iload_n 1, 1) := by decide +kernel
theorem dX2_foresee_6 : decode cX2_foresee 6 = .ok (.iconst 1, 1) := by decide +kernel
theorem dX2_foresee_7 : decode cX2_foresee 7 = .ok (.bipush 30, 2) := by decide +kernel
theorem dX2_foresee_9 : decode cX2_foresee 9 = .ok (.invokestatic 32, 3) := by decide +kernel
theorem dX2_foresee_12 : decode cX2_foresee 12 = .ok (.ifCond .ne 9, 3) := by decide +kernel
theorem dX2_foresee_15 : decode cX2_foresee 15 = .ok (.aload_n 0, 1) := by decide +kernel
theorem dX2_foresee_16 : decode cX2_foresee 16 = .ok (.iconst 1, 1) := by decide +kernel
theorem dX2_foresee_17 : decode cX2_foresee 17 = .ok (.invokevirtual 40, 3) := by decide +kernel
theorem dX2_foresee_20 : decode cX2_foresee 20 = .ok (.ireturn, 1) := by decide +kernel
theorem dX2_foresee_21 : decode cX2_foresee 21 = .ok (.iload_n 2, 1) := by decide +kernel
theorem dX2_foresee_22 : decode cX2_foresee 22 = .ok (.iconst 0, 1) := by decide +kernel
theorem dX2_foresee_23 : decode cX2_foresee 23 = .ok (.iconst 2, 1) := by decide +kernel
theorem dX2_foresee_24 : decode cX2_foresee 24 = .ok (.invokestatic 32, 3) := by decide +kernel
theorem dX2_foresee_27 : decode cX2_foresee 27 = .ok (.ifCond .ne 9, 3) := by decide +kernel
theorem dX2_foresee_30 : decode cX2_foresee 30 = .ok (.aload_n 0, 1) := by decide +kernel
theorem dX2_foresee_31 : decode cX2_foresee 31 = .ok (.iconst 2, 1) := by decide +kernel
theorem dX2_foresee_32 : decode cX2_foresee 32 = .ok (.invokevirtual 40, 3) := by decide +kernel
theorem dX2_foresee_35 : decode cX2_foresee 35 = .ok (.ireturn, 1) := by decide +kernel
theorem dX2_foresee_36 : decode cX2_foresee 36 = .ok (.aload_n 0, 1) := by decide +kernel
theorem dX2_foresee_37 : decode cX2_foresee 37 = .ok (.invokevirtual 118, 3) := by decide +kernel
theorem dX2_foresee_40 : decode cX2_foresee 40 = .ok (.astore_n 3, 1) := by decide +kernel
theorem dX2_foresee_41 : decode cX2_foresee 41 = .ok (.aload_n 0, 1) := by decide +kernel
theorem dX2_foresee_42 : decode cX2_foresee 42 = .ok (.iload_n 1, 1) := by decide +kernel
theorem dX2_foresee_43 : decode cX2_foresee 43 = .ok (.invokevirtual 110, 3) := by decide +kernel
theorem dX2_foresee_46 : decode cX2_foresee 46 = .ok (.istore 4, 2) := by decide +kernel
theorem dX2_foresee_48 : decode cX2_foresee 48 = .ok (.iload_n 2, 1) := by decide +kernel
theorem dX2_foresee_49 : decode cX2_foresee 49 = .ok (.ifCond .ne 8, 3) := by decide +kernel
theorem dX2_foresee_52 : decode cX2_foresee 52 = .ok (.iload 4, 2) := by decide +kernel
theorem dX2_foresee_54 : decode cX2_foresee 54 = .ok (.goto 17, 3) := by decide +kernel
theorem dX2_foresee_57 : decode cX2_foresee 57 = .ok (.aload_n 0, 1) := by decide +kernel
theorem dX2_foresee_58 : decode cX2_foresee 58 = .ok (.iload_n 2, 1) := by decide +kernel
theorem dX2_foresee_59 : decode cX2_foresee 59 = .ok (.iconst 1, 1) := by decide +kernel
theorem dX2_foresee_60 : decode cX2_foresee 60 = .ok (.if_icmp .ne 7, 3) := by decide +kernel
theorem dX2_foresee_63 : decode cX2_foresee 63 = .ok (.iconst 1, 1) := by decide +kernel
theorem dX2_foresee_64 : decode cX2_foresee 64 = .ok (.goto 4, 3) := by decide +kernel
theorem dX2_foresee_67 : decode cX2_foresee 67 = .ok (.iconst 4, 1) := by decide +kernel
theorem dX2_foresee_68 : decode cX2_foresee 68 = .ok (.invokevirtual 94, 3) := by decide +kernel
theorem dX2_foresee_71 : decode cX2_foresee 71 = .ok (.istore 5, 2) := by decide +kernel
theorem dX2_foresee_73 : decode cX2_foresee 73 = .ok (.aload_n 0, 1) := by decide +kernel
theorem dX2_foresee_74 : decode cX2_foresee 74 = .ok (.aload_n 3, 1) := by decide +kernel
theorem dX2_foresee_75 : decode cX2_foresee 75 = .ok (.invokevirtual 122, 3) := by decide +kernel
theorem dX2_foresee_78 : decode cX2_foresee 78 = .ok (.iload 5, 2) := by decide +kernel
theorem dX2_foresee_80 : decode cX2_foresee 80 = .ok (.ireturn, 1) := by decide +kernel
set_option maxRecDepth 20000 in
theorem ggX2_advise_X2_isIn : GoodIn wsX2_advise wsX2_isIn := goodIn_r _ [5] (by decide +kernel) (by decide +kernel)
set_option maxRecDepth 20000 in
theorem gX2_advise_X2_isIn : GoodIn wsX2_advise (va_wsS RX2 32 yX2_isIn wsX2_isIn) := goodIn_app (goodIn_of _ (by decide +kernel)) ggX2_advise_X2_isIn
set_option maxRecDepth 20000 in
theorem ggX2_advise_X2_fail : GoodIn wsX2_advise wsX2_fail := goodIn_r _ [9, 1, 78, 79, 80, 81, 82, 83, 84, 85] (by decide +kernel) (by decide +kernel)
set_option maxRecDepth 20000 in
theorem gX2_advise_X2_fail : GoodIn wsX2_advise (wsV RX2 40 RX2 yX2_fail wsX2_fail) := goodIn_app (goodIn_of _ (by decide +kernel)) ggX2_advise_X2_fail
set_option maxRecDepth 20000 in
theorem ggX2_advise_X2_kept : GoodIn wsX2_advise wsX2_kept := goodIn_r _ [13, 14, 15, 16, 17, 18, 19, 20, 21, 22, 78, 79, 80, 81, 82, 83, 84, 85] (by decide +kernel) (by decide +kernel)
set_option maxRecDepth 20000 in
theorem gX2_advise_X2_kept : GoodIn wsX2_advise (wsV RX2 118 RX2 yX2_kept wsX2_kept) := goodIn_app (goodIn_of _ (by decide +kernel)) ggX2_advise_X2_kept
set_option maxRecDepth 20000 in
theorem ggX2_advise_X2_yearsOn : GoodIn wsX2_advise wsX2_yearsOn := goodIn_r _ [26, 27, 28, 29, 4, 30, 31, 22, 32, 33, 34, 35, 36, 21, 37, 38, 39, 40, 41, 42, 43, 15, 44, 45, 46, 47, 48, 49, 50, 51, 78, 79, 80, 81, 82, 83, 84, 85] (by decide +kernel) (by decide +kernel)
set_option maxRecDepth 20000 in
theorem gX2_advise_X2_yearsOn : GoodIn wsX2_advise (wsV RX2 110 RX2 yX2_yearsOn wsX2_yearsOn) := goodIn_app (goodIn_of _ (by decide +kernel)) ggX2_advise_X2_yearsOn
set_option maxRecDepth 20000 in
theorem ggX2_advise_X2_bringBack : GoodIn wsX2_advise wsX2_bringBack := goodIn_r _ [55, 14, 15, 21, 22, 56, 57, 58, 59, 78, 79, 80, 81, 82, 83, 84, 85] (by decide +kernel) (by decide +kernel)
set_option maxRecDepth 20000 in
theorem gX2_advise_X2_bringBack : GoodIn wsX2_advise (wsV RX2 122 RX2 yX2_bringBack wsX2_bringBack) := goodIn_app (goodIn_of _ (by decide +kernel)) ggX2_advise_X2_bringBack
set_option maxRecDepth 20000 in
theorem ggX2_advise_X2_both : GoodIn wsX2_advise wsX2_both := goodIn_r _ [63, 64, 65, 66, 4, 67, 22, 68, 69, 70, 71, 72, 40, 41, 42, 43, 15, 73, 74, 75, 76, 77, 56, 57, 58, 59, 33, 34, 35, 36, 44, 45, 46, 47, 78, 79, 80, 81, 82, 83, 84, 85] (by decide +kernel) (by decide +kernel)
set_option maxRecDepth 20000 in
theorem gX2_advise_X2_both : GoodIn wsX2_advise (wsV RX2 81 RX2 yX2_both wsX2_both) := goodIn_app (goodIn_of _ (by decide +kernel)) ggX2_advise_X2_both
theorem dX2_advise_0 : decode cX2_advise 0 = .ok (.aload_n 0, 1) := by decide +kernel
theorem dX2_advise_1 : decode cX2_advise 1 = .ok (.iconst 0, 1) := by decide +kernel
theorem dX2_advise_2 : decode cX2_advise 2 = .ok (.putfield 28, 3) := by decide +kernel
theorem dX2_advise_5 : decode cX2_advise 5 = .ok (.iload_n 1, 1) := by decide +kernel
theorem dX2_advise_6 : decode cX2_advise 6 = .ok (.iconst 1, 1) := by decide +kernel
theorem dX2_advise_7 : decode cX2_advise 7 = .ok (.bipush 6, 2) := by decide +kernel
theorem dX2_advise_9 : decode cX2_advise 9 = .ok (.invokestatic 32, 3) := by decide +kernel
theorem dX2_advise_12 : decode cX2_advise 12 = .ok (.ifCond .ne 9, 3) := by decide +kernel
theorem dX2_advise_15 : decode cX2_advise 15 = .ok (.aload_n 0, 1) := by decide +kernel
theorem dX2_advise_16 : decode cX2_advise 16 = .ok (.iconst 1, 1) := by decide +kernel
theorem dX2_advise_17 : decode cX2_advise 17 = .ok (.invokevirtual 40, 3) := by decide +kernel
theorem dX2_advise_20 : decode cX2_advise 20 = .ok (.ireturn, 1) := by decide +kernel
theorem dX2_advise_21 : decode cX2_advise 21 = .ok (.aload_n 0, 1) := by decide +kernel
theorem dX2_advise_22 : decode cX2_advise 22 = .ok (.invokevirtual 118, 3) := by decide +kernel
theorem dX2_advise_25 : decode cX2_advise 25 = .ok (.astore_n 2, 1) := by decide +kernel
theorem dX2_advise_26 : decode cX2_advise 26 = .ok (.iconst (-1), 1) := by decide +kernel
theorem dX2_advise_27 : decode cX2_advise 27 = .ok (.istore_n 3, 1) := by decide +kernel
theorem dX2_advise_28 : decode cX2_advise 28 = .ok (.aload_n 0, 1) := by decide +kernel
theorem dX2_advise_29 : decode cX2_advise 29 = .ok (.iload_n 1, 1) := by decide +kernel
theorem dX2_advise_30 : decode cX2_advise 30 = .ok (.invokevirtual 110, 3) := by decide +kernel
theorem dX2_advise_33 : decode cX2_advise 33 = .ok (.istore 4, 2) := by decide +kernel
theorem dX2_advise_35 : decode cX2_advise 35 = .ok (.aload_n 0, 1) := by decide +kernel
theorem dX2_advise_36 : decode cX2_advise 36 = .ok (.aload_n 2, 1) := by decide +kernel
theorem dX2_advise_37 : decode cX2_advise 37 = .ok (.invokevirtual 122, 3) := by decide +kernel
theorem dX2_advise_40 : decode cX2_advise 40 = .ok (.iconst 0, 1) := by decide +kernel
theorem dX2_advise_41 : decode cX2_advise 41 = .ok (.istore 5, 2) := by decide +kernel
theorem dX2_advise_43 : decode cX2_advise 43 = .ok (.iload 5, 2) := by decide +kernel
theorem dX2_advise_45 : decode cX2_advise 45 = .ok (.bipush 40, 2) := by decide +kernel
theorem dX2_advise_47 : decode cX2_advise 47 = .ok (.if_icmp .ge 91, 3) := by decide +kernel
theorem dX2_advise_50 : decode cX2_advise 50 = .ok (.iconst 1, 1) := by decide +kernel
theorem dX2_advise_51 : decode cX2_advise 51 = .ok (.istore 6, 2) := by decide +kernel
theorem dX2_advise_53 : decode cX2_advise 53 = .ok (.iload 6, 2) := by decide +kernel
theorem dX2_advise_55 : decode cX2_advise 55 = .ok (.bipush 9, 2) := by decide +kernel
theorem dX2_advise_57 : decode cX2_advise 57 = .ok (.if_icmp .gt 75, 3) := by decide +kernel
theorem dX2_advise_60 : decode cX2_advise 60 = .ok (.aload_n 0, 1) := by decide +kernel
theorem dX2_advise_61 : decode cX2_advise 61 = .ok (.iload 5, 2) := by decide +kernel
theorem dX2_advise_63 : decode cX2_advise 63 = .ok (.bipush 8, 2) := by decide +kernel
theorem dX2_advise_65 : decode cX2_advise 65 = .ok (.idiv, 1) := by decide +kernel
theorem dX2_advise_66 : decode cX2_advise 66 = .ok (.iload 5, 2) := by decide +kernel
theorem dX2_advise_68 : decode cX2_advise 68 = .ok (.bipush 8, 2) := by decide +kernel
theorem dX2_advise_70 : decode cX2_advise 70 = .ok (.irem, 1) := by decide +kernel
theorem dX2_advise_71 : decode cX2_advise 71 = .ok (.iconst 1, 1) := by decide +kernel
theorem dX2_advise_72 : decode cX2_advise 72 = .ok (.iload 6, 2) := by decide +kernel
theorem dX2_advise_74 : decode cX2_advise 74 = .ok (.iconst 0, 1) := by decide +kernel
theorem dX2_advise_75 : decode cX2_advise 75 = .ok (.invokevirtual 81, 3) := by decide +kernel
theorem dX2_advise_78 : decode cX2_advise 78 = .ok (.pop, 1) := by decide +kernel
theorem dX2_advise_79 : decode cX2_advise 79 = .ok (.aload_n 0, 1) := by decide +kernel
theorem dX2_advise_80 : decode cX2_advise 80 = .ok (.iload_n 1, 1) := by decide +kernel
theorem dX2_advise_81 : decode cX2_advise 81 = .ok (.invokevirtual 110, 3) := by decide +kernel
theorem dX2_advise_84 : decode cX2_advise 84 = .ok (.istore 7, 2) := by decide +kernel
theorem dX2_advise_86 : decode cX2_advise 86 = .ok (.aload_n 0, 1) := by decide +kernel
theorem dX2_advise_87 : decode cX2_advise 87 = .ok (.aload_n 2, 1) := by decide +kernel
theorem dX2_advise_88 : decode cX2_advise 88 = .ok (.invokevirtual 122, 3) := by decide +kernel
theorem dX2_advise_91 : decode cX2_advise 91 = .ok (.iload 7, 2) := by decide +kernel
theorem dX2_advise_93 : decode cX2_advise 93 = .ok (.iload 4, 2) := by decide +kernel
theorem dX2_advise_95 : decode cX2_advise 95 = .ok (.if_icmp .gt 6, 3) := by decide +kernel
theorem dX2_advise_98 : decode cX2_advise 98 = .ok (.goto 28, 3) := by decide +kernel
theorem dX2_advise_101 : decode cX2_advise 101 = .ok (.bipush 100, 2) := by decide +kernel
theorem dX2_advise_103 : decode cX2_advise 103 = .ok (.iload 5, 2) := by decide +kernel
theorem dX2_advise_105 : decode cX2_advise 105 = .ok (.bipush 8, 2) := by decide +kernel
theorem dX2_advise_107 : decode cX2_advise 107 = .ok (.idiv, 1) := by decide +kernel
theorem dX2_advise_108 : decode cX2_advise 108 = .ok (.imul, 1) := by decide +kernel
theorem dX2_advise_109 : decode cX2_advise 109 = .ok (.bipush 10, 2) := by decide +kernel
theorem dX2_advise_111 : decode cX2_advise 111 = .ok (.iload 5, 2) := by decide +kernel
theorem dX2_advise_113 : decode cX2_advise 113 = .ok (.bipush 8, 2) := by decide +kernel
theorem dX2_advise_115 : decode cX2_advise 115 = .ok (.irem, 1) := by decide +kernel
theorem dX2_advise_116 : decode cX2_advise 116 = .ok (.imul, 1) := by decide +kernel
theorem dX2_advise_117 : decode cX2_advise 117 = .ok (.iadd, 1) := by decide +kernel
theorem dX2_advise_118 : decode cX2_advise 118 = .ok (.iload 6, 2) := by decide +kernel
theorem dX2_advise_120 : decode cX2_advise 120 = .ok (.iadd, 1) := by decide +kernel
theorem dX2_advise_121 : decode cX2_advise 121 = .ok (.istore_n 3, 1) := by decide +kernel
theorem dX2_advise_122 : decode cX2_advise 122 = .ok (.iload 7, 2) := by decide +kernel
theorem dX2_advise_124 : decode cX2_advise 124 = .ok (.istore 4, 2) := by decide +kernel
theorem dX2_advise_126 : decode cX2_advise 126 = .ok (.iinc 6 1, 3) := by decide +kernel
theorem dX2_advise_129 : decode cX2_advise 129 = .ok (.goto (-76), 3) := by decide +kernel
theorem dX2_advise_132 : decode cX2_advise 132 = .ok (.iinc 5 1, 3) := by decide +kernel
theorem dX2_advise_135 : decode cX2_advise 135 = .ok (.goto (-92), 3) := by decide +kernel
theorem dX2_advise_138 : decode cX2_advise 138 = .ok (.iload_n 3, 1) := by decide +kernel
theorem dX2_advise_139 : decode cX2_advise 139 = .ok (.ireturn, 1) := by decide +kernel
set_option maxRecDepth 20000 in
theorem ggX2_mean_X2_all : GoodIn wsX2_mean wsX2_all := goodIn_r _ [6, 7, 8, 9, 5, 10, 11, 12, 13, 14, 15, 16, 17, 18, 19] (by decide +kernel) (by decide +kernel)
set_option maxRecDepth 20000 in
theorem gX2_mean_X2_all : GoodIn wsX2_mean (wsV RX2 94 RX2 yX2_all wsX2_all) := goodIn_app (goodIn_of _ (by decide +kernel)) ggX2_mean_X2_all
theorem dX2_mean_0 : decode cX2_mean 0 = .ok (.aload_n 0, 1) := by decide +kernel
theorem dX2_mean_1 : decode cX2_mean 1 = .ok (.iconst 0, 1) := by decide +kernel
theorem dX2_mean_2 : decode cX2_mean 2 = .ok (.putfield 28, 3) := by decide +kernel
theorem dX2_mean_5 : decode cX2_mean 5 = .ok (.aload_n 0, 1) := by decide +kernel
theorem dX2_mean_6 : decode cX2_mean 6 = .ok (.iconst 0, 1) := by decide +kernel
theorem dX2_mean_7 : decode cX2_mean 7 = .ok (.invokevirtual 94, 3) := by decide +kernel
theorem dX2_mean_10 : decode cX2_mean 10 = .ok (.ifCond .ne 7, 3) := by decide +kernel
theorem dX2_mean_13 : decode cX2_mean 13 = .ok (.dconst 0, 1) := by decide +kernel
theorem dX2_mean_14 : decode cX2_mean 14 = .ok (.goto 16, 3) := by decide +kernel
theorem dX2_mean_17 : decode cX2_mean 17 = .ok (.aload_n 0, 1) := by decide +kernel
theorem dX2_mean_18 : decode cX2_mean 18 = .ok (.iconst 1, 1) := by decide +kernel
theorem dX2_mean_19 : decode cX2_mean 19 = .ok (.invokevirtual 94, 3) := by decide +kernel
theorem dX2_mean_22 : decode cX2_mean 22 = .ok (.i2d, 1) := by decide +kernel
theorem dX2_mean_23 : decode cX2_mean 23 = .ok (.aload_n 0, 1) := by decide +kernel
theorem dX2_mean_24 : decode cX2_mean 24 = .ok (.iconst 0, 1) := by decide +kernel
theorem dX2_mean_25 : decode cX2_mean 25 = .ok (.invokevirtual 94, 3) := by decide +kernel
theorem dX2_mean_28 : decode cX2_mean 28 = .ok (.i2d, 1) := by decide +kernel
theorem dX2_mean_29 : decode cX2_mean 29 = .ok (.ddiv, 1) := by decide +kernel
theorem dX2_mean_30 : decode cX2_mean 30 = .ok (.dreturn, 1) := by decide +kernel
set_option maxRecDepth 20000 in
theorem ggX2_digest_X2_counted : GoodIn wsX2_digest wsX2_counted := goodIn_r _ [10, 11, 12, 13, 14, 15, 16, 9, 17, 18, 19, 20, 21, 22, 36, 37, 38, 39, 40, 41, 42, 43] (by decide +kernel) (by decide +kernel)
set_option maxRecDepth 20000 in
theorem gX2_digest_X2_counted : GoodIn wsX2_digest (wsV RX2 97 RX2 yX2_counted wsX2_counted) := goodIn_app (goodIn_of _ (by decide +kernel)) ggX2_digest_X2_counted
set_option maxRecDepth 20000 in
theorem ggX2_digest_X2_sortTold : GoodIn wsX2_digest wsX2_sortTold := goodIn_r _ [26, 13, 27, 12, 18, 19, 20, 9, 21, 22, 36, 37, 38, 39, 40, 41, 42, 43] (by decide +kernel) (by decide +kernel)
set_option maxRecDepth 20000 in
theorem gX2_digest_X2_sortTold : GoodIn wsX2_digest (wsV RX2 91 RX2 yX2_sortTold wsX2_sortTold) := goodIn_app (goodIn_of _ (by decide +kernel)) ggX2_digest_X2_sortTold
set_option maxRecDepth 20000 in
theorem ggX2_digest_X2_treeTold : GoodIn wsX2_digest wsX2_treeTold := goodIn_r _ [31, 32, 33, 34, 9, 35, 18, 19, 20, 21, 22, 36, 37, 38, 39, 40, 41, 42, 43] (by decide +kernel) (by decide +kernel)
set_option maxRecDepth 20000 in
theorem gX2_digest_X2_treeTold : GoodIn wsX2_digest (wsV RX2 88 RX2 yX2_treeTold wsX2_treeTold) := goodIn_app (goodIn_of _ (by decide +kernel)) ggX2_digest_X2_treeTold
theorem dX2_digest_0 : decode cX2_digest 0 = .ok (.aload_n 0, 1) := by decide +kernel
theorem dX2_digest_1 : decode cX2_digest 1 = .ok (.iconst 0, 1) := by decide +kernel
theorem dX2_digest_2 : decode cX2_digest 2 = .ok (.putfield 28, 3) := by decide +kernel
theorem dX2_digest_5 : decode cX2_digest 5 = .ok (.ldc2_w 126, 3) := by decide +kernel
theorem dX2_digest_8 : decode cX2_digest 8 = .ok (.lstore_n 1, 1) := by decide +kernel
theorem dX2_digest_9 : decode cX2_digest 9 = .ok (.iconst 0, 1) := by decide +kernel
theorem dX2_digest_10 : decode cX2_digest 10 = .ok (.istore_n 3, 1) := by decide +kernel
theorem dX2_digest_11 : decode cX2_digest 11 = .ok (.iload_n 3, 1) := by decide +kernel
theorem dX2_digest_12 : decode cX2_digest 12 = .ok (.bipush 8, 2) := by decide +kernel
theorem dX2_digest_14 : decode cX2_digest 14 = .ok (.if_icmp .ge 22, 3) := by decide +kernel
theorem dX2_digest_17 : decode cX2_digest 17 = .ok (.lload_n 1, 1) := by decide +kernel
theorem dX2_digest_18 : decode cX2_digest 18 = .ok (.ldc2_w 128, 3) := by decide +kernel
theorem dX2_digest_21 : decode cX2_digest 21 = .ok (.lmul, 1) := by decide +kernel
theorem dX2_digest_22 : decode cX2_digest 22 = .ok (.aload_n 0, 1) := by decide +kernel
theorem dX2_digest_23 : decode cX2_digest 23 = .ok (.iload_n 3, 1) := by decide +kernel
theorem dX2_digest_24 : decode cX2_digest 24 = .ok (.invokevirtual 97, 3) := by decide +kernel
theorem dX2_digest_27 : decode cX2_digest 27 = .ok (.i2l, 1) := by decide +kernel
theorem dX2_digest_28 : decode cX2_digest 28 = .ok (.ladd, 1) := by decide +kernel
theorem dX2_digest_29 : decode cX2_digest 29 = .ok (.lstore_n 1, 1) := by decide +kernel
theorem dX2_digest_30 : decode cX2_digest 30 = .ok (.iinc 3 1, 3) := by decide +kernel
theorem dX2_digest_33 : decode cX2_digest 33 = .ok (.goto (-22), 3) := by decide +kernel
theorem dX2_digest_36 : decode cX2_digest 36 = .ok (.iconst 0, 1) := by decide +kernel
theorem dX2_digest_37 : decode cX2_digest 37 = .ok (.istore_n 3, 1) := by decide +kernel
theorem dX2_digest_38 : decode cX2_digest 38 = .ok (.iload_n 3, 1) := by decide +kernel
theorem dX2_digest_39 : decode cX2_digest 39 = .ok (.bipush 6, 2) := by decide +kernel
theorem dX2_digest_41 : decode cX2_digest 41 = .ok (.if_icmp .ge 39, 3) := by decide +kernel
theorem dX2_digest_44 : decode cX2_digest 44 = .ok (.iconst 0, 1) := by decide +kernel
theorem dX2_digest_45 : decode cX2_digest 45 = .ok (.istore 4, 2) := by decide +kernel
theorem dX2_digest_47 : decode cX2_digest 47 = .ok (.iload 4, 2) := by decide +kernel
theorem dX2_digest_49 : decode cX2_digest 49 = .ok (.iconst 4, 1) := by decide +kernel
theorem dX2_digest_50 : decode cX2_digest 50 = .ok (.if_icmp .ge 24, 3) := by decide +kernel
theorem dX2_digest_53 : decode cX2_digest 53 = .ok (.lload_n 1, 1) := by decide +kernel
theorem dX2_digest_54 : decode cX2_digest 54 = .ok (.ldc2_w 128, 3) := by decide +kernel
theorem dX2_digest_57 : decode cX2_digest 57 = .ok (.lmul, 1) := by decide +kernel
theorem dX2_digest_58 : decode cX2_digest 58 = .ok (.aload_n 0, 1) := by decide +kernel
theorem dX2_digest_59 : decode cX2_digest 59 = .ok (.iload_n 3, 1) := by decide +kernel
theorem dX2_digest_60 : decode cX2_digest 60 = .ok (.iload 4, 2) := by decide +kernel
theorem dX2_digest_62 : decode cX2_digest 62 = .ok (.invokevirtual 91, 3) := by decide +kernel
theorem dX2_digest_65 : decode cX2_digest 65 = .ok (.i2l, 1) := by decide +kernel
theorem dX2_digest_66 : decode cX2_digest 66 = .ok (.ladd, 1) := by decide +kernel
theorem dX2_digest_67 : decode cX2_digest 67 = .ok (.lstore_n 1, 1) := by decide +kernel
theorem dX2_digest_68 : decode cX2_digest 68 = .ok (.iinc 4 1, 3) := by decide +kernel
theorem dX2_digest_71 : decode cX2_digest 71 = .ok (.goto (-24), 3) := by decide +kernel
theorem dX2_digest_74 : decode cX2_digest 74 = .ok (.iinc 3 1, 3) := by decide +kernel
theorem dX2_digest_77 : decode cX2_digest 77 = .ok (.goto (-39), 3) := by decide +kernel
theorem dX2_digest_80 : decode cX2_digest 80 = .ok (.aload_n 0, 1) := by decide +kernel
theorem dX2_digest_81 : decode cX2_digest 81 = .ok (.getfield 16, 3) := by decide +kernel
theorem dX2_digest_84 : decode cX2_digest 84 = .ok (.astore_n 3, 1) := by decide +kernel
theorem dX2_digest_85 : decode cX2_digest 85 = .ok (.aload_n 3, 1) := by decide +kernel
theorem dX2_digest_86 : decode cX2_digest 86 = .ok (.arraylength, 1) := by decide +kernel
theorem dX2_digest_87 : decode cX2_digest 87 = .ok (.istore 4, 2) := by decide +kernel
theorem dX2_digest_89 : decode cX2_digest 89 = .ok (.iconst 0, 1) := by decide +kernel
theorem dX2_digest_90 : decode cX2_digest 90 = .ok (.istore 5, 2) := by decide +kernel
theorem dX2_digest_92 : decode cX2_digest 92 = .ok (.iload 5, 2) := by decide +kernel
theorem dX2_digest_94 : decode cX2_digest 94 = .ok (.iload 4, 2) := by decide +kernel
theorem dX2_digest_96 : decode cX2_digest 96 = .ok (.if_icmp .ge 25, 3) := by decide +kernel
theorem dX2_digest_99 : decode cX2_digest 99 = .ok (.aload_n 3, 1) := by decide +kernel
theorem dX2_digest_100 : decode cX2_digest 100 = .ok (.iload 5, 2) := by decide +kernel
theorem dX2_digest_102 : decode cX2_digest 102 = .ok (.iaload, 1) := by decide +kernel
theorem dX2_digest_103 : decode cX2_digest 103 = .ok (.istore 6, 2) := by decide +kernel
theorem dX2_digest_105 : decode cX2_digest 105 = .ok (.lload_n 1, 1) := by decide +kernel
theorem dX2_digest_106 : decode cX2_digest 106 = .ok (.ldc2_w 128, 3) := by decide +kernel
theorem dX2_digest_109 : decode cX2_digest 109 = .ok (.lmul, 1) := by decide +kernel
theorem dX2_digest_110 : decode cX2_digest 110 = .ok (.iload 6, 2) := by decide +kernel
theorem dX2_digest_112 : decode cX2_digest 112 = .ok (.i2l, 1) := by decide +kernel
theorem dX2_digest_113 : decode cX2_digest 113 = .ok (.ladd, 1) := by decide +kernel
theorem dX2_digest_114 : decode cX2_digest 114 = .ok (.lstore_n 1, 1) := by decide +kernel
theorem dX2_digest_115 : decode cX2_digest 115 = .ok (.iinc 5 1, 3) := by decide +kernel
theorem dX2_digest_118 : decode cX2_digest 118 = .ok (.goto (-26), 3) := by decide +kernel
theorem dX2_digest_121 : decode cX2_digest 121 = .ok (.iconst 0, 1) := by decide +kernel
theorem dX2_digest_122 : decode cX2_digest 122 = .ok (.istore_n 3, 1) := by decide +kernel
theorem dX2_digest_123 : decode cX2_digest 123 = .ok (.iload_n 3, 1) := by decide +kernel
theorem dX2_digest_124 : decode cX2_digest 124 = .ok (.bipush 40, 2) := by decide +kernel
theorem dX2_digest_126 : decode cX2_digest 126 = .ok (.if_icmp .ge 40, 3) := by decide +kernel
theorem dX2_digest_129 : decode cX2_digest 129 = .ok (.iconst 0, 1) := by decide +kernel
theorem dX2_digest_130 : decode cX2_digest 130 = .ok (.istore 4, 2) := by decide +kernel
theorem dX2_digest_132 : decode cX2_digest 132 = .ok (.iload 4, 2) := by decide +kernel
theorem dX2_digest_134 : decode cX2_digest 134 = .ok (.bipush 6, 2) := by decide +kernel
theorem dX2_digest_136 : decode cX2_digest 136 = .ok (.if_icmp .ge 24, 3) := by decide +kernel
theorem dX2_digest_139 : decode cX2_digest 139 = .ok (.lload_n 1, 1) := by decide +kernel
theorem dX2_digest_140 : decode cX2_digest 140 = .ok (.ldc2_w 128, 3) := by decide +kernel
theorem dX2_digest_143 : decode cX2_digest 143 = .ok (.lmul, 1) := by decide +kernel
theorem dX2_digest_144 : decode cX2_digest 144 = .ok (.aload_n 0, 1) := by decide +kernel
theorem dX2_digest_145 : decode cX2_digest 145 = .ok (.iload_n 3, 1) := by decide +kernel
theorem dX2_digest_146 : decode cX2_digest 146 = .ok (.iload 4, 2) := by decide +kernel
theorem dX2_digest_148 : decode cX2_digest 148 = .ok (.invokevirtual 88, 3) := by decide +kernel
theorem dX2_digest_151 : decode cX2_digest 151 = .ok (.i2l, 1) := by decide +kernel
theorem dX2_digest_152 : decode cX2_digest 152 = .ok (.ladd, 1) := by decide +kernel
theorem dX2_digest_153 : decode cX2_digest 153 = .ok (.lstore_n 1, 1) := by decide +kernel
theorem dX2_digest_154 : decode cX2_digest 154 = .ok (.iinc 4 1, 3) := by decide +kernel
theorem dX2_digest_157 : decode cX2_digest 157 = .ok (.goto (-25), 3) := by decide +kernel
theorem dX2_digest_160 : decode cX2_digest 160 = .ok (.iinc 3 1, 3) := by decide +kernel
theorem dX2_digest_163 : decode cX2_digest 163 = .ok (.goto (-40), 3) := by decide +kernel
theorem dX2_digest_166 : decode cX2_digest 166 = .ok (.lload_n 1, 1) := by decide +kernel
theorem dX2_digest_167 : decode cX2_digest 167 = .ok (.ldc2_w 128, 3) := by decide +kernel
theorem dX2_digest_170 : decode cX2_digest 170 = .ok (.lmul, 1) := by decide +kernel
theorem dX2_digest_171 : decode cX2_digest 171 = .ok (.aload_n 0, 1) := by decide +kernel
theorem dX2_digest_172 : decode cX2_digest 172 = .ok (.getfield 100, 3) := by decide +kernel
theorem dX2_digest_175 : decode cX2_digest 175 = .ok (.i2l, 1) := by decide +kernel
theorem dX2_digest_176 : decode cX2_digest 176 = .ok (.ladd, 1) := by decide +kernel
theorem dX2_digest_177 : decode cX2_digest 177 = .ok (.lreturn, 1) := by decide +kernel
theorem dJ9_floorMod_7cf53_0 : decode cJ9_floorMod_7cf53 0 = .ok (.iload_n 0, 1) := by decide +kernel
theorem dJ9_floorMod_7cf53_1 : decode cJ9_floorMod_7cf53 1 = .ok (.iload_n 1, 1) := by decide +kernel
theorem dJ9_floorMod_7cf53_2 : decode cJ9_floorMod_7cf53 2 = .ok (.irem, 1) := by decide +kernel
theorem dJ9_floorMod_7cf53_3 : decode cJ9_floorMod_7cf53 3 = .ok (.istore_n 2, 1) := by decide +kernel
theorem dJ9_floorMod_7cf53_4 : decode cJ9_floorMod_7cf53 4 = .ok (.iload_n 0, 1) := by decide +kernel
theorem dJ9_floorMod_7cf53_5 : decode cJ9_floorMod_7cf53 5 = .ok (.iload_n 1, 1) := by decide +kernel
theorem dJ9_floorMod_7cf53_6 : decode cJ9_floorMod_7cf53 6 = .ok (.ixor, 1) := by decide +kernel
theorem dJ9_floorMod_7cf53_7 : decode cJ9_floorMod_7cf53 7 = .ok (.ifCond .ge 11, 3) := by decide +kernel
theorem dJ9_floorMod_7cf53_10 : decode cJ9_floorMod_7cf53 10 = .ok (.iload_n 2, 1) := by decide +kernel
theorem dJ9_floorMod_7cf53_11 : decode cJ9_floorMod_7cf53 11 = .ok (.ifCond .eq 7, 3) := by decide +kernel
theorem dJ9_floorMod_7cf53_14 : decode cJ9_floorMod_7cf53 14 = .ok (.iload_n 2, 1) := by decide +kernel
theorem dJ9_floorMod_7cf53_15 : decode cJ9_floorMod_7cf53 15 = .ok (.iload_n 1, 1) := by decide +kernel
theorem dJ9_floorMod_7cf53_16 : decode cJ9_floorMod_7cf53 16 = .ok (.iadd, 1) := by decide +kernel
theorem dJ9_floorMod_7cf53_17 : decode cJ9_floorMod_7cf53 17 = .ok (.ireturn, 1) := by decide +kernel
theorem dJ9_floorMod_7cf53_18 : decode cJ9_floorMod_7cf53 18 = .ok (.iload_n 2, 1) := by decide +kernel
theorem dJ9_floorMod_7cf53_19 : decode cJ9_floorMod_7cf53 19 = .ok (.ireturn, 1) := by decide +kernel
theorem dJ9_max_7cf53_0 : decode cJ9_max_7cf53 0 = .ok (.iload_n 0, 1) := by decide +kernel
theorem dJ9_max_7cf53_1 : decode cJ9_max_7cf53 1 = .ok (.iload_n 1, 1) := by decide +kernel
theorem dJ9_max_7cf53_2 : decode cJ9_max_7cf53 2 = .ok (.if_icmp .lt 7, 3) := by decide +kernel
theorem dJ9_max_7cf53_5 : decode cJ9_max_7cf53 5 = .ok (.iload_n 0, 1) := by decide +kernel
theorem dJ9_max_7cf53_6 : decode cJ9_max_7cf53 6 = .ok (.goto 4, 3) := by decide +kernel
theorem dJ9_max_7cf53_9 : decode cJ9_max_7cf53 9 = .ok (.iload_n 1, 1) := by decide +kernel
theorem dJ9_max_7cf53_10 : decode cJ9_max_7cf53 10 = .ok (.ireturn, 1) := by decide +kernel
theorem dJ9_min_7cf53_0 : decode cJ9_min_7cf53 0 = .ok (.iload_n 0, 1) := by decide +kernel
theorem dJ9_min_7cf53_1 : decode cJ9_min_7cf53 1 = .ok (.iload_n 1, 1) := by decide +kernel
theorem dJ9_min_7cf53_2 : decode cJ9_min_7cf53 2 = .ok (.if_icmp .gt 7, 3) := by decide +kernel
theorem dJ9_min_7cf53_5 : decode cJ9_min_7cf53 5 = .ok (.iload_n 0, 1) := by decide +kernel
theorem dJ9_min_7cf53_6 : decode cJ9_min_7cf53 6 = .ok (.goto 4, 3) := by decide +kernel
theorem dJ9_min_7cf53_9 : decode cJ9_min_7cf53 9 = .ok (.iload_n 1, 1) := by decide +kernel
theorem dJ9_min_7cf53_10 : decode cJ9_min_7cf53 10 = .ok (.ireturn, 1) := by decide +kernel
theorem dJ7_fill_53178_0 : decode cJ7_fill_53178 0 = .ok (.iconst 0, 1) := by decide +kernel
theorem dJ7_fill_53178_1 : decode cJ7_fill_53178 1 = .ok (.istore_n 2, 1) := by decide +kernel
theorem dJ7_fill_53178_2 : decode cJ7_fill_53178 2 = .ok (.aload_n 0, 1) := by decide +kernel
theorem dJ7_fill_53178_3 : decode cJ7_fill_53178 3 = .ok (.arraylength, 1) := by decide +kernel
theorem dJ7_fill_53178_4 : decode cJ7_fill_53178 4 = .ok (.istore_n 3, 1) := by decide +kernel
theorem dJ7_fill_53178_5 : decode cJ7_fill_53178 5 = .ok (.iload_n 2, 1) := by decide +kernel
theorem dJ7_fill_53178_6 : decode cJ7_fill_53178 6 = .ok (.iload_n 3, 1) := by decide +kernel
theorem dJ7_fill_53178_7 : decode cJ7_fill_53178 7 = .ok (.if_icmp .ge 13, 3) := by decide +kernel
theorem dJ7_fill_53178_10 : decode cJ7_fill_53178 10 = .ok (.aload_n 0, 1) := by decide +kernel
theorem dJ7_fill_53178_11 : decode cJ7_fill_53178 11 = .ok (.iload_n 2, 1) := by decide +kernel
theorem dJ7_fill_53178_12 : decode cJ7_fill_53178 12 = .ok (.iload_n 1, 1) := by decide +kernel
theorem dJ7_fill_53178_13 : decode cJ7_fill_53178 13 = .ok (.iastore, 1) := by decide +kernel
theorem dJ7_fill_53178_14 : decode cJ7_fill_53178 14 = .ok (.iinc 2 1, 3) := by decide +kernel
theorem dJ7_fill_53178_17 : decode cJ7_fill_53178 17 = .ok (.goto (-12), 3) := by decide +kernel
theorem dJ7_fill_53178_20 : decode cJ7_fill_53178 20 = .ok (.return_, 1) := by decide +kernel
set_option maxRecDepth 20000 in
theorem ggL_setSort_X1_setSort : GoodIn wsL_setSort wsX1_setSort := goodIn_ca (goodIn_ca (goodIn_r _ [7, 8, 9, 10, 11, 12, 13, 14, 15, 6, 16, 17, 18, 19, 20, 21, 22, 23, 24, 25, 26, 27, 28, 29, 30, 31, 32] (by decide +kernel) (by decide +kernel)) (goodIn_sub (fun _ h => List.mem_cons_of_mem _ (List.mem_append_left _ (List.mem_append_right _ h))) (by decide +kernel))) (goodIn_sub (fun _ h => List.mem_cons_of_mem _ (List.mem_append_right _ h)) (by decide +kernel))
set_option maxRecDepth 20000 in
theorem gL_setSort_X1_setSort : GoodIn wsL_setSort (wsV RL 7 RX1 yX1_setSort wsX1_setSort) := goodIn_app (goodIn_of _ (by decide +kernel)) ggL_setSort_X1_setSort
end
section
/-! base: Int-valued words for Int32 -/
def iI (z : Int) : Int32 := Int32.ofInt z
abbrev St : Type := Nat → Int → Int
def fu (f : Int → Int) (k : Int) (v : Int) : Int → Int := fun j => if j = k then v else f j
def su (σ : St) (i : Nat) (k : Int) (v : Int) : St := fun a => if a = i then fu (σ i) k v else σ a
theorem fu_s (f : Int → Int) (k : Int) (v : Int) : fu f k v k = v := if_pos rfl
theorem fu_n (f : Int → Int) {k j : Int} (v : Int) (h : j ≠ k) : fu f k v j = f j := if_neg h
theorem iI_add (a b : Int) : iI a + iI b = iI (a + b) := (Int32.ofInt_add a b).symm
theorem iI_sub (a b : Int) : iI a - iI b = iI (a - b) := (Int32.ofInt_sub a b).symm
theorem iI_mul (a b : Int) : iI a * iI b = iI (a * b) := (Int32.ofInt_mul a b).symm
theorem iI_neg (a : Int) : -iI a = iI (-a) := (Int32.ofInt_neg a).symm
theorem iI_toInt {z : Int} (h1 : -2147483648 ≤ z) (h2 : z ≤ 2147483647) : (iI z).toInt = z := Int32.toInt_ofInt_of_le h1 (by omega)
theorem iI_of (x : Int32) : x = iI x.toInt := (Int32.ofInt_toInt x).symm
theorem iI_lo (x : Int32) : -2147483648 ≤ x.toInt := Int32.le_toInt x
theorem iI_hi (x : Int32) : x.toInt ≤ 2147483647 := by have := Int32.toInt_lt x; omega
theorem iI_ofNat (n : Nat) : Int32.ofNat n = iI (n : Int) := Int32.ofInt_eq_ofNat.symm
theorem iI_0 : iI 0 = 0 := rfl
/-- a value that an int can have -/
def inR (z : Int) : Prop := -2147483648 ≤ z ∧ z ≤ 2147483647
theorem iI_lt {a b : Int} (ha : inR a) (hb : inR b) : iI a < iI b ↔ a < b := by
  rw [Int32.lt_iff_toInt_lt, iI_toInt ha.1 ha.2, iI_toInt hb.1 hb.2]
theorem iI_le {a b : Int} (ha : inR a) (hb : inR b) : iI a ≤ iI b ↔ a ≤ b := by
  rw [Int32.le_iff_toInt_le, iI_toInt ha.1 ha.2, iI_toInt hb.1 hb.2]
theorem iI_eq {a b : Int} (ha : inR a) (hb : inR b) : iI a = iI b ↔ a = b := by
  rw [← Int32.toInt_inj, iI_toInt ha.1 ha.2, iI_toInt hb.1 hb.2]
theorem iI_div {a b : Int} (ha : 0 ≤ a ∧ a ≤ 2147483647) (hb : 0 < b ∧ b ≤ 2147483647) : iI a / iI b = iI (a / b) := by
  apply Int32.toInt_inj.mp
  have h1 := iI_toInt (z := a) (by omega) (by omega)
  have h2 := iI_toInt (z := b) (by omega) (by omega)
  have h3 : 0 ≤ a / b := Int.ediv_nonneg ha.1 (by omega)
  have h4 : a / b ≤ a := Int.ediv_le_self b ha.1
  rw [Int32.toInt_div_of_ne_right _ _ (fun h => by rw [h] at h2; have h5 : (-1 : Int32).toInt = -1 := rfl; omega), h1, h2, iI_toInt (by omega) (by omega), Int.tdiv_eq_ediv_of_nonneg ha.1]
theorem iI_rem {a b : Int} (ha : 0 ≤ a ∧ a ≤ 2147483647) (hb : 0 < b ∧ b ≤ 2147483647) : iI a - iI a / iI b * iI b = iI (a % b) := by
  rw [iI_div ha hb, iI_mul, iI_sub]
  congr 1
  have h := Int.emod_def a b
  rw [h, Int.mul_comm]
theorem iI_ne0 {b : Int} (hb : 0 < b ∧ b ≤ 2147483647) : ¬ iI b = 0 := by
  rw [← iI_0, iI_eq ⟨by omega, by omega⟩ ⟨by omega, by omega⟩]
  omega
theorem iI_in {z : Int} {n : Nat} (h0 : 0 ≤ z) (hj : z < (n : Int)) (hn : n ≤ 2147483647) : vp_in (iI z) n ∧ ((iI z).toNatClampNeg : Int) = z := by
  have h1 : (iI z).toInt = z := iI_toInt (by omega) (by omega)
  have h2 : (iI z).toNatClampNeg = z.toNat := by
    show (iI z).toInt.toNat = z.toNat
    rw [h1]
  refine ⟨?_, by rw [h2]; omega⟩
  rintro (h | h)
  · rw [← iI_0, iI_lt ⟨by omega, by omega⟩ ⟨by omega, by omega⟩] at h
    omega
  · rw [h2] at h
    omega
theorem iI_upd (f : Int → Int) (k : Nat) (v : Int) : upd (fun j : Nat => iI (f (j : Int))) k (iI v) = fun j : Nat => iI (fu f (k : Int) v (j : Int)) := by
  funext j
  by_cases h : j = k
  · subst h; simp [upd, fu]
  · have h2 : ¬ (j : Int) = (k : Int) := by omega
    simp [upd, fu, h, h2]
theorem iI_bool {v : Int} (hv : v = 0 ∨ v = 1) : vp_nar .boolean (iI v) = iI v := by
  rcases hv with rfl | rfl <;> rfl
section GB
variable {p : Program} {l : Launch} {e : Env} {R : Room} {s : State} {m : MethodId} {args : Array Value} {below : List Frame} {meth : Method} {c : Code} {H : Heap} {locs : List Loc} {cells slots : Nat} {Q : State → Prop}
variable {cc : ByteArray} {pc : Nat} {ls : Array Slot} {rest : List Value} {D : va_G} {cl : List vw_C} {A : Nat → Prop} {a : Nat} {tys : List (ClassId × FieldType)} {ws : va_W} {H0 : Heap}
theorem gi_add (hx : p.tables.exec = Jvm.exec) (hb : c.code = cc) {x y : Int} (hdg : decode cc pc = .ok (.iadd, 1))
    (k : W p l e R s m args below meth c H locs cells slots Q (F0 m (pc + 1) ls (.int (iI (x + y)) :: rest))) : W p l e R s m args below meth c H locs cells slots Q (F0 m pc ls (.int (iI y) :: .int (iI x) :: rest)) := lv_iadd hx hb hdg (by rw [iI_add]; exact k)
theorem gi_sub (hx : p.tables.exec = Jvm.exec) (hb : c.code = cc) {x y : Int} (hdg : decode cc pc = .ok (.isub, 1))
    (k : W p l e R s m args below meth c H locs cells slots Q (F0 m (pc + 1) ls (.int (iI (x - y)) :: rest))) : W p l e R s m args below meth c H locs cells slots Q (F0 m pc ls (.int (iI y) :: .int (iI x) :: rest)) := lv_isub hx hb hdg (by rw [iI_sub]; exact k)
theorem gi_mul (hx : p.tables.exec = Jvm.exec) (hb : c.code = cc) {x y : Int} (hdg : decode cc pc = .ok (.imul, 1))
    (k : W p l e R s m args below meth c H locs cells slots Q (F0 m (pc + 1) ls (.int (iI (x * y)) :: rest))) : W p l e R s m args below meth c H locs cells slots Q (F0 m pc ls (.int (iI y) :: .int (iI x) :: rest)) := lv_imul hx hb hdg (by rw [iI_mul]; exact k)
theorem gi_neg (hx : p.tables.exec = Jvm.exec) (hb : c.code = cc) {x : Int} (hdg : decode cc pc = .ok (.ineg, 1))
    (k : W p l e R s m args below meth c H locs cells slots Q (F0 m (pc + 1) ls (.int (iI (-x)) :: rest))) : W p l e R s m args below meth c H locs cells slots Q (F0 m pc ls (.int (iI x) :: rest)) := lv_ineg hx hb hdg (by rw [iI_neg]; exact k)
theorem gi_div (hx : p.tables.exec = Jvm.exec) (hb : c.code = cc) {x y : Int} (hx0 : 0 ≤ x ∧ x ≤ 2147483647) (hy0 : 0 < y ∧ y ≤ 2147483647) (hdg : decode cc pc = .ok (.idiv, 1))
    (k : W p l e R s m args below meth c H locs cells slots Q (F0 m (pc + 1) ls (.int (iI (x / y)) :: rest))) : W p l e R s m args below meth c H locs cells slots Q (F0 m pc ls (.int (iI y) :: .int (iI x) :: rest)) := lv_idiv hx hb hdg (iI_ne0 hy0) (by rw [iI_div hx0 hy0]; exact k)
theorem gi_rem (hx : p.tables.exec = Jvm.exec) (hb : c.code = cc) {x y : Int} (hx0 : 0 ≤ x ∧ x ≤ 2147483647) (hy0 : 0 < y ∧ y ≤ 2147483647) (hdg : decode cc pc = .ok (.irem, 1))
    (k : W p l e R s m args below meth c H locs cells slots Q (F0 m (pc + 1) ls (.int (iI (x % y)) :: rest))) : W p l e R s m args below meth c H locs cells slots Q (F0 m pc ls (.int (iI y) :: .int (iI x) :: rest)) := lv_irem hx hb hdg (iI_ne0 hy0) (by rw [iI_rem hx0 hy0]; exact k)
theorem gi_icmp_lt (hx : p.tables.exec = Jvm.exec) (hb : c.code = cc) {x y : Int} {off : Int} {tgt : Nat} (hdg : decode cc pc = .ok (.if_icmp .lt off, 3)) (ht : (pc : Int) + off = (tgt : Int)) (rx : inR x) (ry : inR y)
    (kt : x < y → W p l e R s m args below meth c H locs cells slots Q (F0 m tgt ls rest)) (kf : ¬ x < y → W p l e R s m args below meth c H locs cells slots Q (F0 m (pc + 3) ls rest)) : W p l e R s m args below meth c H locs cells slots Q (F0 m pc ls (.int (iI y) :: .int (iI x) :: rest)) := lv_icmp_lt hx hb hdg ht (fun h => kt ((iI_lt rx ry).mp h)) (fun h => kf (fun g => h ((iI_lt rx ry).mpr g)))
theorem gi_icmp_ge (hx : p.tables.exec = Jvm.exec) (hb : c.code = cc) {x y : Int} {off : Int} {tgt : Nat} (hdg : decode cc pc = .ok (.if_icmp .ge off, 3)) (ht : (pc : Int) + off = (tgt : Int)) (rx : inR x) (ry : inR y)
    (kt : y ≤ x → W p l e R s m args below meth c H locs cells slots Q (F0 m tgt ls rest)) (kf : ¬ y ≤ x → W p l e R s m args below meth c H locs cells slots Q (F0 m (pc + 3) ls rest)) : W p l e R s m args below meth c H locs cells slots Q (F0 m pc ls (.int (iI y) :: .int (iI x) :: rest)) := lv_icmp_ge hx hb hdg ht (fun h => kt ((iI_le ry rx).mp h)) (fun h => kf (fun g => h ((iI_le ry rx).mpr g)))
theorem gi_icmp_gt (hx : p.tables.exec = Jvm.exec) (hb : c.code = cc) {x y : Int} {off : Int} {tgt : Nat} (hdg : decode cc pc = .ok (.if_icmp .gt off, 3)) (ht : (pc : Int) + off = (tgt : Int)) (rx : inR x) (ry : inR y)
    (kt : y < x → W p l e R s m args below meth c H locs cells slots Q (F0 m tgt ls rest)) (kf : ¬ y < x → W p l e R s m args below meth c H locs cells slots Q (F0 m (pc + 3) ls rest)) : W p l e R s m args below meth c H locs cells slots Q (F0 m pc ls (.int (iI y) :: .int (iI x) :: rest)) := lv_icmp_gt hx hb hdg ht (fun h => kt ((iI_lt ry rx).mp h)) (fun h => kf (fun g => h ((iI_lt ry rx).mpr g)))
theorem gi_icmp_le (hx : p.tables.exec = Jvm.exec) (hb : c.code = cc) {x y : Int} {off : Int} {tgt : Nat} (hdg : decode cc pc = .ok (.if_icmp .le off, 3)) (ht : (pc : Int) + off = (tgt : Int)) (rx : inR x) (ry : inR y)
    (kt : x ≤ y → W p l e R s m args below meth c H locs cells slots Q (F0 m tgt ls rest)) (kf : ¬ x ≤ y → W p l e R s m args below meth c H locs cells slots Q (F0 m (pc + 3) ls rest)) : W p l e R s m args below meth c H locs cells slots Q (F0 m pc ls (.int (iI y) :: .int (iI x) :: rest)) := lv_icmp_le hx hb hdg ht (fun h => kt ((iI_le rx ry).mp h)) (fun h => kf (fun g => h ((iI_le rx ry).mpr g)))
theorem gi_icmp_eq (hx : p.tables.exec = Jvm.exec) (hb : c.code = cc) {x y : Int} {off : Int} {tgt : Nat} (hdg : decode cc pc = .ok (.if_icmp .eq off, 3)) (ht : (pc : Int) + off = (tgt : Int)) (rx : inR x) (ry : inR y)
    (kt : x = y → W p l e R s m args below meth c H locs cells slots Q (F0 m tgt ls rest)) (kf : ¬ x = y → W p l e R s m args below meth c H locs cells slots Q (F0 m (pc + 3) ls rest)) : W p l e R s m args below meth c H locs cells slots Q (F0 m pc ls (.int (iI y) :: .int (iI x) :: rest)) := lv_icmp_eq hx hb hdg ht (fun h => kt ((iI_eq rx ry).mp h)) (fun h => kf (fun g => h ((iI_eq rx ry).mpr g)))
theorem gi_icmp_ne (hx : p.tables.exec = Jvm.exec) (hb : c.code = cc) {x y : Int} {off : Int} {tgt : Nat} (hdg : decode cc pc = .ok (.if_icmp .ne off, 3)) (ht : (pc : Int) + off = (tgt : Int)) (rx : inR x) (ry : inR y)
    (kt : ¬ x = y → W p l e R s m args below meth c H locs cells slots Q (F0 m tgt ls rest)) (kf : x = y → W p l e R s m args below meth c H locs cells slots Q (F0 m (pc + 3) ls rest)) : W p l e R s m args below meth c H locs cells slots Q (F0 m pc ls (.int (iI y) :: .int (iI x) :: rest)) := lv_icmp_ne hx hb hdg ht (fun h => kt (fun g => h ((iI_eq rx ry).mpr g))) (fun h => kf ((iI_eq rx ry).mp h))
theorem gi_if_lt (hx : p.tables.exec = Jvm.exec) (hb : c.code = cc) {x : Int} {off : Int} {tgt : Nat} (hdg : decode cc pc = .ok (.ifCond .lt off, 3)) (ht : (pc : Int) + off = (tgt : Int)) (rx : inR x)
    (kt : x < 0 → W p l e R s m args below meth c H locs cells slots Q (F0 m tgt ls rest)) (kf : ¬ x < 0 → W p l e R s m args below meth c H locs cells slots Q (F0 m (pc + 3) ls rest)) : W p l e R s m args below meth c H locs cells slots Q (F0 m pc ls (.int (iI x) :: rest)) := lv_if_lt hx hb hdg ht (fun h => kt ((iI_lt rx ⟨by decide, by decide⟩).mp h)) (fun h => kf (fun g => h ((iI_lt rx ⟨by decide, by decide⟩).mpr g)))
theorem gi_if_ge (hx : p.tables.exec = Jvm.exec) (hb : c.code = cc) {x : Int} {off : Int} {tgt : Nat} (hdg : decode cc pc = .ok (.ifCond .ge off, 3)) (ht : (pc : Int) + off = (tgt : Int)) (rx : inR x)
    (kt : 0 ≤ x → W p l e R s m args below meth c H locs cells slots Q (F0 m tgt ls rest)) (kf : ¬ 0 ≤ x → W p l e R s m args below meth c H locs cells slots Q (F0 m (pc + 3) ls rest)) : W p l e R s m args below meth c H locs cells slots Q (F0 m pc ls (.int (iI x) :: rest)) := lv_if_ge hx hb hdg ht (fun h => kt ((iI_le ⟨by decide, by decide⟩ rx).mp h)) (fun h => kf (fun g => h ((iI_le ⟨by decide, by decide⟩ rx).mpr g)))
theorem gi_if_gt (hx : p.tables.exec = Jvm.exec) (hb : c.code = cc) {x : Int} {off : Int} {tgt : Nat} (hdg : decode cc pc = .ok (.ifCond .gt off, 3)) (ht : (pc : Int) + off = (tgt : Int)) (rx : inR x)
    (kt : 0 < x → W p l e R s m args below meth c H locs cells slots Q (F0 m tgt ls rest)) (kf : ¬ 0 < x → W p l e R s m args below meth c H locs cells slots Q (F0 m (pc + 3) ls rest)) : W p l e R s m args below meth c H locs cells slots Q (F0 m pc ls (.int (iI x) :: rest)) := lv_if_gt hx hb hdg ht (fun h => kt ((iI_lt ⟨by decide, by decide⟩ rx).mp h)) (fun h => kf (fun g => h ((iI_lt ⟨by decide, by decide⟩ rx).mpr g)))
theorem gi_if_le (hx : p.tables.exec = Jvm.exec) (hb : c.code = cc) {x : Int} {off : Int} {tgt : Nat} (hdg : decode cc pc = .ok (.ifCond .le off, 3)) (ht : (pc : Int) + off = (tgt : Int)) (rx : inR x)
    (kt : x ≤ 0 → W p l e R s m args below meth c H locs cells slots Q (F0 m tgt ls rest)) (kf : ¬ x ≤ 0 → W p l e R s m args below meth c H locs cells slots Q (F0 m (pc + 3) ls rest)) : W p l e R s m args below meth c H locs cells slots Q (F0 m pc ls (.int (iI x) :: rest)) := lv_if_le hx hb hdg ht (fun h => kt ((iI_le rx ⟨by decide, by decide⟩).mp h)) (fun h => kf (fun g => h ((iI_le rx ⟨by decide, by decide⟩).mpr g)))
theorem gi_if_eq (hx : p.tables.exec = Jvm.exec) (hb : c.code = cc) {x : Int} {off : Int} {tgt : Nat} (hdg : decode cc pc = .ok (.ifCond .eq off, 3)) (ht : (pc : Int) + off = (tgt : Int)) (rx : inR x)
    (kt : x = 0 → W p l e R s m args below meth c H locs cells slots Q (F0 m tgt ls rest)) (kf : ¬ x = 0 → W p l e R s m args below meth c H locs cells slots Q (F0 m (pc + 3) ls rest)) : W p l e R s m args below meth c H locs cells slots Q (F0 m pc ls (.int (iI x) :: rest)) := lv_if_eq hx hb hdg ht (fun h => kt ((iI_eq rx ⟨by decide, by decide⟩).mp h)) (fun h => kf (fun g => h ((iI_eq rx ⟨by decide, by decide⟩).mpr g)))
theorem gi_if_ne (hx : p.tables.exec = Jvm.exec) (hb : c.code = cc) {x : Int} {off : Int} {tgt : Nat} (hdg : decode cc pc = .ok (.ifCond .ne off, 3)) (ht : (pc : Int) + off = (tgt : Int)) (rx : inR x)
    (kt : ¬ x = 0 → W p l e R s m args below meth c H locs cells slots Q (F0 m tgt ls rest)) (kf : x = 0 → W p l e R s m args below meth c H locs cells slots Q (F0 m (pc + 3) ls rest)) : W p l e R s m args below meth c H locs cells slots Q (F0 m pc ls (.int (iI x) :: rest)) := lv_if_ne hx hb hdg ht (fun h => kt (fun g => h ((iI_eq rx ⟨by decide, by decide⟩).mpr g))) (fun h => kf ((iI_eq rx ⟨by decide, by decide⟩).mp h))
theorem gi_iald (hx : p.tables.exec = Jvm.exec) (hb : c.code = cc) (hK : va_K D cl tys s) (hP : va_P D cl ws H) (q0 t0 : Nat) {cA : ClassId} {n : Nat} {f : Int → Int} (ha : ws[q0]? = some (a, .inl (cA, n, .inl (fun j : Nat => iI (f (j : Int)))))) (ht : tys[t0]? = some (cA, .int)) {z : Int} (h0 : 0 ≤ z) (hj : z < (n : Int)) (hn : n ≤ 2147483647) (hdg : decode cc pc = .ok (.iaload, 1))
    (kk : W p l e R s m args below meth c H locs cells slots Q (F0 m (pc + 1) ls (.int (iI (f z)) :: rest))) : W p l e R s m args below meth c H locs cells slots Q (F0 m pc ls (.int (iI z) :: .ref a :: rest)) :=
  va_iald hx hb hK hP q0 t0 ha ht (iI_in h0 hj hn).1 hdg (by rw [(iI_in h0 hj hn).2]; exact kk)
theorem gi_zald (hx : p.tables.exec = Jvm.exec) (hb : c.code = cc) (hK : va_K D cl tys s) (hP : va_P D cl ws H) (q0 t0 : Nat) {cA : ClassId} {n : Nat} {f : Int → Int} (ha : ws[q0]? = some (a, .inl (cA, n, .inl (fun j : Nat => iI (f (j : Int)))))) (ht : tys[t0]? = some (cA, .boolean)) {z : Int} (h0 : 0 ≤ z) (hj : z < (n : Int)) (hn : n ≤ 2147483647) (hdg : decode cc pc = .ok (.baload, 1))
    (kk : W p l e R s m args below meth c H locs cells slots Q (F0 m (pc + 1) ls (.int (iI (f z)) :: rest))) : W p l e R s m args below meth c H locs cells slots Q (F0 m pc ls (.int (iI z) :: .ref a :: rest)) :=
  va_zald hx hb hK hP q0 t0 ha ht (iI_in h0 hj hn).1 hdg (by rw [(iI_in h0 hj hn).2]; exact kk)
theorem gi_iast (hx : p.tables.exec = Jvm.exec) (hb : c.code = cc) (hK : va_K D cl tys s) (hP : va_P D cl ws H) (hD : va_D A ws) (hS : va_S A H0 H locs) (q0 t0 : Nat) {cA : ClassId} {n : Nat} {f : Int → Int} (ha : ws[q0]? = some (a, .inl (cA, n, .inl (fun j : Nat => iI (f (j : Int)))))) (ht : tys[t0]? = some (cA, .int)) {z v : Int} (h0 : 0 ≤ z) (hj : z < (n : Int)) (hn : n ≤ 2147483647) (hdg : decode cc pc = .ok (.iastore, 1))
    (kk : ∀ (H1 : Heap) (locs1 : List Loc), va_P D cl (ws.set q0 (a, .inl (cA, n, .inl (fun j : Nat => iI (fu f z v (j : Int)))))) H1 → va_D A (ws.set q0 (a, .inl (cA, n, .inl (fun j : Nat => iI (fu f z v (j : Int)))))) → va_S A H0 H1 locs1 → W p l e R s m args below meth c H1 locs1 cells slots Q (F0 m (pc + 1) ls rest)) : W p l e R s m args below meth c H locs cells slots Q (F0 m pc ls (.int (iI v) :: .int (iI z) :: .ref a :: rest)) :=
  va_iast hx hb hK hP hD hS q0 t0 ha ht (iI_in h0 hj hn).1 hdg (by rw [iI_upd, (iI_in h0 hj hn).2]; exact kk)
theorem gi_zast (hx : p.tables.exec = Jvm.exec) (hb : c.code = cc) (hK : va_K D cl tys s) (hP : va_P D cl ws H) (hD : va_D A ws) (hS : va_S A H0 H locs) (q0 t0 : Nat) {cA : ClassId} {n : Nat} {f : Int → Int} (ha : ws[q0]? = some (a, .inl (cA, n, .inl (fun j : Nat => iI (f (j : Int)))))) (ht : tys[t0]? = some (cA, .boolean)) {z v : Int} (h0 : 0 ≤ z) (hj : z < (n : Int)) (hn : n ≤ 2147483647) (hv : v = 0 ∨ v = 1) (hdg : decode cc pc = .ok (.bastore, 1))
    (kk : ∀ (H1 : Heap) (locs1 : List Loc), va_P D cl (ws.set q0 (a, .inl (cA, n, .inl (fun j : Nat => iI (fu f z v (j : Int)))))) H1 → va_D A (ws.set q0 (a, .inl (cA, n, .inl (fun j : Nat => iI (fu f z v (j : Int)))))) → va_S A H0 H1 locs1 → W p l e R s m args below meth c H1 locs1 cells slots Q (F0 m (pc + 1) ls rest)) : W p l e R s m args below meth c H locs cells slots Q (F0 m pc ls (.int (iI v) :: .int (iI z) :: .ref a :: rest)) :=
  va_zast hx hb hK hP hD hS q0 t0 ha ht (iI_in h0 hj hn).1 hdg (by rw [iI_bool hv, iI_upd, (iI_in h0 hj hn).2]; exact kk)
theorem iI_max {a b : Int} (ha : inR a) (hb : inR b) : (if iI a < iI b then iI b else iI a) = iI (max a b) := by
  by_cases h : a < b
  · rw [if_pos ((iI_lt ha hb).mpr h), Int.max_eq_right (by omega)]
  · rw [if_neg (fun g => h ((iI_lt ha hb).mp g)), Int.max_eq_left (by omega)]
theorem iI_min {a b : Int} (ha : inR a) (hb : inR b) : (if iI b < iI a then iI b else iI a) = iI (min a b) := by
  by_cases h : b < a
  · rw [if_pos ((iI_lt hb ha).mpr h), Int.min_eq_right (by omega)]
  · rw [if_neg (fun g => h ((iI_lt hb ha).mp g)), Int.min_eq_left (by omega)]
theorem gi_max (hx : p.tables.exec = Jvm.exec) (hb : c.code = cc) (hml : c.maxLocals = ls.size) {own : String} {index : Nat} (hown : s.vm.findClass own = some m.cls) (hlink : (Cond.methodLink own index Lib.Math.max.name).before args s = true) (hstat : (Cond.static Lib.Math.max.name).before args s = true) (hini : (Cond.initialized "java/lang/Math").before args s = true) (hcode : (Cond.code Lib.Math.max.name Lib.Math.max.code 2 (some .int)).before args s = true)
    (hframes : 1 ≤ R.frames) (hlocals : (rest.map fun v => v.category).sum + 13 ≤ R.locals) (hc : cells ≤ R.cells) (hs : slots ≤ R.slots) {x y : Int} (rx : inR x) (ry : inR y) (hdg : decode cc pc = .ok (.invokestatic index, 3))
    (kk : W p l e R s m args below meth c H locs cells slots Q (F0 m (pc + 3) ls (.int (iI (max x y)) :: rest))) : W p l e R s m args below meth c H locs cells slots Q (F0 m pc ls (.int (iI y) :: .int (iI x) :: rest)) := va_mmax hx hb hml hown hlink hstat hini hcode hframes hlocals hc hs hdg (by rw [iI_max rx ry]; exact kk)
theorem gi_min (hx : p.tables.exec = Jvm.exec) (hb : c.code = cc) (hml : c.maxLocals = ls.size) {own : String} {index : Nat} (hown : s.vm.findClass own = some m.cls) (hlink : (Cond.methodLink own index Lib.Math.min.name).before args s = true) (hstat : (Cond.static Lib.Math.min.name).before args s = true) (hini : (Cond.initialized "java/lang/Math").before args s = true) (hcode : (Cond.code Lib.Math.min.name Lib.Math.min.code 2 (some .int)).before args s = true)
    (hframes : 1 ≤ R.frames) (hlocals : (rest.map fun v => v.category).sum + 13 ≤ R.locals) (hc : cells ≤ R.cells) (hs : slots ≤ R.slots) {x y : Int} (rx : inR x) (ry : inR y) (hdg : decode cc pc = .ok (.invokestatic index, 3))
    (kk : W p l e R s m args below meth c H locs cells slots Q (F0 m (pc + 3) ls (.int (iI (min x y)) :: rest))) : W p l e R s m args below meth c H locs cells slots Q (F0 m pc ls (.int (iI y) :: .int (iI x) :: rest)) := va_mmin hx hb hml hown hlink hstat hini hcode hframes hlocals hc hs hdg (by rw [iI_min rx ry]; exact kk)
end GB
end
section
/-! base: one shape of contract for all methods: a world goes in, a world comes out -/
/-- what a method's start gives -/
def gU (D : va_G) (tys : List (ClassId × FieldType)) (wi : va_W) (ex : State → Prop) (sz : Nat) : State → Prop := fun U => U.heap.size = sz ∧ va_P D vwCl wi U.heap ∧ va_K D vwCl tys U ∧ va_D (fun _ => True) wi ∧ ex U
/-- what a method's end gives: an answer, a world, both by a number of things κ of which kr is known -/
def gQ (D : va_G) (tys : List (ClassId × FieldType)) (wo : St → va_W) (A : Nat → Prop) (rv : St → Option Value) (kr : St → Prop) : Array Value → State → Outcome → State → Prop := fun _ st oc t =>
  (∃ κ : St, oc = .returned (rv κ) ∧ kr κ ∧ va_P D vwCl (wo κ) t.heap ∧ va_K D vwCl tys t ∧ va_D A (wo κ)) ∧ va_F A st t
def gMet (l : Launch) (y : MethodName) (ws : List Cond) (rm : Room) (D : va_G) (tys : List (ClassId × FieldType)) (wi : va_W) (av : List Value) (ex : State → Prop) (rv : St → Option Value) (kr : St → Prop) (wo : St → va_W) : Prop :=
  ∀ sz : Nat, Met l y ws rm (va_Pc av (gU D tys wi ex sz)) (gQ D tys wo (va_A wi sz) rv kr) rm.cells rm.slots (va_A wi sz)
/-- what is said of a state besides its world may be carried along -/
def gEx (ex : State → Prop) : Prop := (∀ (a : Array Value) (U : State) (g : JFrame) (mk : MethodId), ex U → ex (U.calling g mk a))
theorem gEx_t : gEx (fun _ => True) := fun _ _ _ _ _ => trivial
theorem g_blind {D : va_G} {tys : List (ClassId × FieldType)} {wi : va_W} {av : List Value} {ex : State → Prop} {sz : Nat} (he : gEx ex) : FrameBlind (va_Pc av (gU D tys wi ex sz)) := by
  intro a U g mk q
  obtain ⟨q0, q1, qP, qK, qD, qE⟩ := q
  exact ⟨q0, q1, qP, va_K.moved (u := U) (U := U.calling g mk a) (Vm.Alike.refl U.vm) qK, qD, he a U g mk qE⟩
theorem g_left {D : va_G} {cl : List vw_C} {a b : va_W} {H : Heap} (h : va_P D cl (a ++ b) H) : va_P D cl a H := fun k q hk => h k q (by rw [List.getElem?_append_left (List.getElem?_eq_some_iff.mp hk).1]; exact hk)
theorem g_right {D : va_G} {cl : List vw_C} {a b : va_W} {H : Heap} (h : va_P D cl (a ++ b) H) : va_P D cl b H := fun k q hk => h (a.length + k) q (by rw [List.getElem?_append_right (by omega), Nat.add_sub_cancel_left]; exact hk)
theorem g_Dleft {A : Nat → Prop} {a b : va_W} (h : va_D A (a ++ b)) : va_D A a := by
  have key : ∀ (k : Nat) (q : Nat × va_E), a[k]? = some q → (a ++ b)[k]? = some q := fun k q hk => by rw [List.getElem?_append_left (List.getElem?_eq_some_iff.mp hk).1]; exact hk
  exact ⟨fun i j x y hi hj => h.1 i j x y (key i x hi) (key j y hj), fun k q hk => h.2 k q (key k q hk)⟩
theorem g_Dright {A : Nat → Prop} {a b : va_W} (h : va_D A (a ++ b)) : va_D A b := by
  have key : ∀ (k : Nat) (q : Nat × va_E), b[k]? = some q → (a ++ b)[a.length + k]? = some q := fun k q hk => by rw [List.getElem?_append_right (by omega), Nat.add_sub_cancel_left]; exact hk
  exact ⟨fun i j x y hi hj hxy => by have := h.1 _ _ x y (key i x hi) (key j y hj) hxy; omega, fun k q hk => h.2 _ q (key k q hk)⟩
theorem g_Dapart {A : Nat → Prop} {a b : va_W} (h : va_D A (a ++ b)) {i j : Nat} {x y : Nat × va_E} (hi : a[i]? = some x) (hj : b[j]? = some y) : x.1 ≠ y.1 := by
  intro hxy
  have hl := (List.getElem?_eq_some_iff.mp hi).1
  have := h.1 i (a.length + j) x y (by rw [List.getElem?_append_left hl]; exact hi) (by rw [List.getElem?_append_right (by omega), Nat.add_sub_cancel_left]; exact hj) hxy
  omega
theorem g_swap {D : va_G} {cl : List vw_C} {A : Nat → Prop} {a b : va_W} {H : Heap} (hP : va_P D cl (a ++ b) H) (hD : va_D A (a ++ b)) : va_P D cl (b ++ a) H ∧ va_D A (b ++ a) :=
  ⟨va_P.app (g_right hP) (g_left hP), va_D.app (g_Dright hD) (g_Dleft hD) (fun i j x y hi hj hxy => g_Dapart hD hj hi hxy.symm)⟩
theorem g_free {A0 : Nat → Prop} {wi wr : va_W} {H0 H : Heap} {locs : List Loc} (hD : va_D A0 (wi ++ wr)) (hS : va_S A0 H0 H locs) (hA : ∀ q, H0.size ≤ q → A0 q) : ∀ q, va_A wi H.size q → A0 q := by
  intro q h
  rcases h with ⟨k, e, h⟩ | h
  · exact (g_Dleft hD).2 k (q, e) h
  · exact hA q (Nat.le_trans hS.1 h)
theorem g_join {A0 : Nat → Prop} {D : va_G} {cl : List vw_C} {wi wr w1 : va_W} {H H1 : Heap} (hP : va_P D cl (wi ++ wr) H) (hD : va_D A0 (wi ++ wr))
    (hk : ∀ q : Nat, q < H.size → ¬ va_A wi H.size q → H1[q]? = H[q]?) (hF : ∀ q, va_A wi H.size q → A0 q) (hP1 : va_P D cl w1 H1) (hD1 : va_D (va_A wi H.size) w1) : va_P D cl (w1 ++ wr) H1 ∧ va_D A0 (w1 ++ wr) := by
  have hPr := g_right hP
  have apart : ∀ (k : Nat) (q : Nat × va_E), wr[k]? = some q → q.1 < H.size ∧ ¬ va_A wi H.size q.1 := by
    intro k q hq
    have hl := (hPr k q hq).lt
    refine ⟨hl, fun h => ?_⟩
    rcases h with ⟨k2, e, h⟩ | h
    · exact g_Dapart hD h hq rfl
    · omega
  refine ⟨va_P.app hP1 (fun k q hq => ?_), va_D.app (hD1.weaken (fun k q _ h => hF q.1 h)) (g_Dright hD) (fun i j x y hx hy hxy => ?_)⟩
  · obtain ⟨g1, g2⟩ := apart k q hq
    exact (hPr k q hq).kept (hk q.1 g1 g2)
  · exact (apart j y hy).2 (by rw [← hxy]; exact hD1.2 i x hx)
section GC
variable {p : Program} {l : Launch} {e : Env} {R : Room} {s : State} {m : MethodId} {args : Array Value} {below : List Frame} {meth : Method} {c : Code} {H : Heap} {locs : List Loc} {cells slots : Nat} {Q : State → Prop}
variable {cc : ByteArray} {pc : Nat} {ls : Array Slot} {rest st0 : List Value} {D : va_G} {A0 : Nat → Prop} {tys tys' : List (ClassId × FieldType)} {wi wr : va_W} {H0 : Heap} {wo : St → va_W} {rv : St → Option Value} {kr : St → Prop} {a : Array Value} {mc ms : Nat}
/-- a call of a method with such a contract -/
theorem g_call (hr : va_Run p l e R s m args below meth c H locs cells slots mc ms (F0 m pc ls st0) rest (gQ D tys' wo (va_A wi H.size) rv kr a) (va_A wi H.size)) (hP : va_P D vwCl (wi ++ wr) H) (hD : va_D A0 (wi ++ wr)) (hS : va_S A0 H0 H locs) (hA : ∀ q, H0.size ≤ q → A0 q)
    (kk : ∀ (κ : St) (H1 : Heap) (locs1 : List Loc), kr κ → va_P D vwCl (wo κ ++ wr) H1 → va_D A0 (wo κ ++ wr) → va_S A0 H0 H1 locs1 → W p l e R s m args below meth c H1 locs1 (cells + mc) (slots + ms) Q (F0 m (pc + 3) ls ((rv κ).toList ++ rest))) : W p l e R s m args below meth c H locs cells slots Q (F0 m pc ls st0) := by
  intro T hT X
  obtain ⟨v, st₀, t, T', L, h0, X', hL, e1, e2, ⟨⟨κ, hv, hp, hb, hk2, hd⟩, hz, hk⟩, st⟩ := hr T hT X
  cases hv
  rw [h0] at hz hk
  have hF := g_free hD hS hA
  obtain ⟨hP1, hD1⟩ := g_join (H1 := T'.heap) hP hD (fun q h1 h2 => by rw [e1]; exact hk q h1 h2) hF (by rw [e1]; exact hb) hd
  obtain ⟨t2, a1, b1⟩ := kk κ T'.heap (locs ++ L) hp hP1 hD1
    ⟨Nat.le_trans hS.1 (by rw [e1]; exact hz), fun q h1 h2 => by rw [e1, hk q (Nat.lt_of_lt_of_le h1 hS.1) (fun z => h2 (hF q z))]; exact hS.2.1 q h1 h2, fun q hq => by
      rcases List.mem_append.mp hq with h | h
      · exact hS.2.2 q h
      · exact hF _ (hL q h)⟩ T' rfl X'
  exact ⟨t2, st t2 a1, b1⟩
theorem g_preS {As : List Value} {ex : State → Prop} (he : gEx ex) (hK : va_K D vwCl tys s) (is : List Nat) (hty : is.filterMap (fun i => tys[i]?) = tys') (hP : va_P D vwCl (wi ++ wr) H) (hD : va_D A0 (wi ++ wr)) (hex : ∀ U : State, U.heap = H → s.WarmedH U.vm → ex U) : PreS s H (va_Pc As (gU D tys' wi ex H.size)) As :=
  ⟨g_blind he, fun U hU hW => ⟨rfl, by rw [hU], by rw [hU]; exact g_left hP, va_K.moved hW.alike (hK.sub is hty), (g_Dleft hD).weaken (fun _ _ _ _ => trivial), hex U hU hW⟩⟩
theorem g_preV {As : List Value} {ex : State → Prop} {b q0 ci : Nat} {q : vw_C} {fs : List Value} {C : String} (he : gEx ex) (hK : va_K D vwCl tys s) (is : List Nat) (hty : is.filterMap (fun i => tys[i]?) = tys') (hP : va_P D vwCl (wi ++ wr) H) (hD : va_D A0 (wi ++ wr)) (hex : ∀ U : State, U.heap = H → s.WarmedH U.vm → ex U) (h0 : wi[q0]? = some (b, .inr (ci, fs))) (hc : vwCl[ci]? = some q) (hC : q.1 = C) : PreV s H C b (va_Pc (.ref b :: As) (gU D tys' wi ex H.size)) As :=
  ⟨g_blind he, by rw [← hC]; exact va_recv hK (g_left hP) hc h0, (g_preS (As := .ref b :: As) he hK is hty hP hD hex).2⟩
/-- a method's start -/
theorem g_start {y : MethodName} {ws0 ws' : List Cond} {rm : Room} {av : List Value} {ex : State → Prop} {maxL : Nat} {ret : Option FieldType} (hy : plainName y.cls = true) (hw : ws0 = Cond.code y cc maxL ret :: ws') (hn : (lg_sl av).length ≤ maxL)
    (body : ∀ (p : Program) (e : Env) (s : State) (m : MethodId) (args : Array Value) (below : List Frame) (meth : Method) (c : Code) (A : Nat → Prop) (ls : Array Slot) (H : Heap) (locs : List Loc), CallFix p m c cc maxL s args ws0 y.cls → meth.sig.returnType = ret → meth.locks = false → meth.name = y.name → va_P D vwCl wi H → va_K D vwCl tys s → va_D A wi → (∀ q : Nat, s.heap.size ≤ q → A q) → va_S A s.heap H locs → ex s → lv_has ls maxL (lv_args 0 av) →
      W p l e rm s m args below meth c H locs 0 0 (MQ below (gQ D tys wo A rv kr) args s rm.cells rm.slots A) (F0 m 0 ls [])) : gMet l y ws0 rm D tys wi av ex rv kr wo := by
  intro sz
  refine Met.ofW (cc := cc) (maxL := maxL) (ret := ret) hy hw ?_
  intro p e s m args below meth c s₁ B hml hv
  obtain ⟨rfl, hsz, hP, hK, hD0, hE⟩ := hv
  subst hsz
  have hl := lv_entry av (n := maxL) hn
  rw [lg_entry_eq]
  exact body p e s m _ below meth c _ _ _ _ ⟨B.exec, B.bytes, hml, findClass_of_methodNamed B.named, atoms_spec (ws := ws0) B.pre⟩ B.returns B.notSynchronized (name_of_methodNamed B.named B.method).1 hP hK hD0.self (fun q h => Or.inr h) va_S.rf hE hl
section Ends
variable {A : Nat → Prop}
theorem g_iret (hx : p.tables.exec = Jvm.exec) (hb : c.code = cc) {ty : FieldType} (hr : meth.sig.returnType = some ty) (hlocks : meth.locks = false) (κ : St) {z : Int} (hn : narrow ty (.int (iI z)) = .int (iI z)) (hP : va_P D vwCl (wo κ) H) (hK : va_K D vwCl tys s) (hD : va_D A (wo κ)) (hS : va_S A s.heap H locs) (hk : kr κ) (hv : rv κ = some (.int (iI z))) (hc : cells ≤ mc) (hs : slots ≤ ms) (hdg : decode cc pc = .ok (.ireturn, 1)) :
    W p l e R s m args below meth c H locs cells slots (MQ below (gQ D tys wo A rv kr) args s mc ms A) (F0 m pc ls [.int (iI z)]) := by
  refine W.widen hc hs ?_
  exact W.zret hx hb hr hn (fun t ht hW => ⟨⟨κ, by rw [hv], hk, by rw [ht]; exact hP, va_K.moved hW.alike hK, hD⟩, hS.F ht⟩) hS.2.2 hdg hlocks
theorem g_vret (hx : p.tables.exec = Jvm.exec) (hb : c.code = cc) (hr : meth.sig.returnType = none) (hlocks : meth.locks = false) (κ : St) (hP : va_P D vwCl (wo κ) H) (hK : va_K D vwCl tys s) (hD : va_D A (wo κ)) (hS : va_S A s.heap H locs) (hk : kr κ) (hv : rv κ = none) (hc : cells ≤ mc) (hs : slots ≤ ms) (hdg : decode cc pc = .ok (.return_, 1)) :
    W p l e R s m args below meth c H locs cells slots (MQ below (gQ D tys wo A rv kr) args s mc ms A) (F0 m pc ls []) := by
  refine W.widen hc hs ?_
  exact W.vret hx hb hr (fun t ht hW => ⟨⟨κ, by rw [hv], hk, by rw [ht]; exact hP, va_K.moved hW.alike hK, hD⟩, hS.F ht⟩) hS.2.2 hdg hlocks
theorem g_lret (hx : p.tables.exec = Jvm.exec) (hb : c.code = cc) (hr : meth.sig.returnType = some .long) (hlocks : meth.locks = false) (κ : St) {z : Int64} (hP : va_P D vwCl (wo κ) H) (hK : va_K D vwCl tys s) (hD : va_D A (wo κ)) (hS : va_S A s.heap H locs) (hk : kr κ) (hv : rv κ = some (.long z)) (hc : cells ≤ mc) (hs : slots ≤ ms) (hdg : decode cc pc = .ok (.lreturn, 1)) :
    W p l e R s m args below meth c H locs cells slots (MQ below (gQ D tys wo A rv kr) args s mc ms A) (F0 m pc ls [.long z]) := by
  refine W.widen hc hs ?_
  exact W.lret hx hb hr (fun t ht hW => ⟨⟨κ, by rw [hv], hk, by rw [ht]; exact hP, va_K.moved hW.alike hK, hD⟩, hS.F ht⟩) hS.2.2 hdg hlocks
end Ends
end GC
theorem nar_i (z : Int) : narrow .int (.int (iI z)) = .int (iI z) := rfl
theorem nar_z {z : Int} (h : z = 0 ∨ z = 1) : narrow .boolean (.int (iI z)) = .int (iI z) := by
  rcases h with rfl | rfl <;> rfl
end
section
/-! what a state of the class is: σ (0 weights, 1 hardiness, 2 barn, 3 frosts, 4 kinds, 5 branches, 6 vigours, 7 tired, 8 strength, 9 year and what was carried), κ (0 the tree looked at, 1 fewest) -/
def bI (P : Prop) [Decidable P] : Int := if P then 1 else 0
theorem bI_t {P : Prop} [Decidable P] (h : P) : bI P = 1 := if_pos h
theorem bI_f {P : Prop} [Decidable P] (h : ¬ P) : bI P = 0 := if_neg h
theorem bI01 (P : Prop) [Decidable P] : bI P = 0 ∨ bI P = 1 := by
  by_cases h : P
  · exact Or.inr (bI_t h)
  · exact Or.inl (bI_f h)
theorem bI_1 {P : Prop} [Decidable P] (h : bI P = 1) : P := by
  by_cases g : P
  · exact g
  · rw [bI_f g] at h; exact absurd h (by decide)
theorem bI_0 {P : Prop} [Decidable P] (h : bI P = 0) : ¬ P := by
  intro g
  rw [bI_t g] at h; exact absurd h (by decide)
theorem bI_R (P : Prop) [Decidable P] : inR (bI P) := by
  rcases bI01 P with h | h <;> rw [h] <;> exact ⟨by decide, by decide⟩
def isum (f : Int → Int) : Nat → Int
  | 0 => 0
  | n + 1 => isum f n + f n
def isumI (f : Int → Int) (i : Int) : Int := isum f i.toNat
theorem isumI_0 (f : Int → Int) : isumI f 0 = 0 := rfl
theorem isumI_s (f : Int → Int) {i : Int} (h : 0 ≤ i) : isumI f (i + 1) = isumI f i + f i := by
  unfold isumI
  have h1 : (i + 1).toNat = i.toNat + 1 := by omega
  rw [h1]
  show isum f i.toNat + f (i.toNat : Int) = _
  rw [show ((i.toNat : Nat) : Int) = i by omega]
def XO (d : Nat → Nat) (σ : St) : List Value := [.ref (d 1), .ref (d 2), .ref (d 3), .ref (d 4), .ref (d 5), .ref (d 6), .ref (d 7), .ref (d 8), .ref (d 9), .int (iI (σ 9 0)), .int (iI (σ 9 1)), .ref (d 10), .ref (d 11)]
def aI (cI : ClassId) (n : Nat) (f : Int → Int) : va_E := .inl (cI, (n, .inl (fun j : Nat => iI (f (j : Int)))))
def XW (cI cZ : ClassId) (d : Nat → Nat) (σ κ : St) : va_W := [(d 0, .inr (1, XO d σ)), (d 1, aI cI 6 (σ 0)), (d 2, aI cI 6 (σ 1)), (d 3, aI cI 6 (σ 2)), (d 4, aI cI 10 (σ 3)), (d 5, aI cI 40 (σ 4)), (d 6, aI cI 40 (σ 5)), (d 7, aI cI 40 (σ 6)), (d 8, aI cZ 40 (σ 7)), (d 9, aI cI 2 (σ 8)), (d 10, .inr (0, [.int (iI (κ 0 0)), .int (iI (κ 0 1)), .int (iI (κ 0 2)), .int (iI (κ 0 3))])), (d 11, aI cI 541 (κ 1))]
abbrev tyXs (cI cZ : ClassId) : List (ClassId × FieldType) := [(cI, .int), (cZ, .boolean)]
/-- the reference: 0 weights, 1 bears, 2 frosts, 3 trees, 4 barn, 5 numbers, 6 thrown and tilt -/
def MO (d : Nat → Nat) (μ : St) : List Value := [.int (iI (μ 6 0)), .ref (d 1), .ref (d 2), .ref (d 3), .ref (d 4), .ref (d 5), .ref (d 6), .int (iI (μ 6 1))]
def MW (cI : ClassId) (d : Nat → Nat) (μ : St) : va_W := [(d 0, .inr (2, MO d μ)), (d 1, aI cI 6 (μ 0)), (d 2, aI cI 6 (μ 1)), (d 3, aI cI 10 (μ 2)), (d 4, aI cI 200 (μ 3)), (d 5, aI cI 6 (μ 4)), (d 6, aI cI 3 (μ 5))]
/-- what the tables say of the private members of the nest mate -/
def xNest : List Cond := [.methodLinkNest "TwinOrchard" 47 yX0_init "TwinOrchard", .methodLinkNest "TwinOrchard" 215 yX0_shorten "TwinOrchard", .methodLinkNest "TwinOrchard" 237 yX0_apples "TwinOrchard", .methodLinkNest "TwinOrchard" 243 yX0_liveYear "TwinOrchard", .fieldLinkNest "TwinOrchard" 177 "TwinOrchard$Tree" "branches" "I" "TwinOrchard", .fieldLinkNest "TwinOrchard" 179 "TwinOrchard$Tree" "tired" "Z" "TwinOrchard", .fieldLinkNest "TwinOrchard" 232 "TwinOrchard$Tree" "vigour" "I" "TwinOrchard", .fieldLinkNest "TwinOrchard" 235 "TwinOrchard$Tree" "hardiness" "I" "TwinOrchard"]
def xEx (U : State) : Prop := ∀ w ∈ xNest, va_Nw w U
theorem xEx_g : gEx xEx := by
  intro a U g mk h w hw
  have h1 := h w hw
  simp only [xNest, List.mem_cons, List.not_mem_nil, or_false] at hw
  rcases hw with rfl | rfl | rfl | rfl | rfl | rfl | rfl | rfl <;> exact va_Nw.same rfl rfl h1
theorem xEx_w {s U : State} (hW : s.WarmedH U.vm) (h : xEx s) : xEx U := by
  intro w hw
  have h1 := h w hw
  simp only [xNest, List.mem_cons, List.not_mem_nil, or_false] at hw
  rcases hw with rfl | rfl | rfl | rfl | rfl | rfl | rfl | rfl
  · exact va_Nw.warmM hW h1
  · exact va_Nw.warmM hW h1
  · exact va_Nw.warmM hW h1
  · exact va_Nw.warmM hW h1
  · exact va_Nw.warmF hW h1
  · exact va_Nw.warmF hW h1
  · exact va_Nw.warmF hW h1
  · exact va_Nw.warmF hW h1
theorem xEx_u {s : State} {args : Array Value} (h : xEx s) (k : Nat) {w : Cond} (hk : xNest[k]? = some w) (hw : w.onTables = true) : w.before args s = true := va_Nw.use hw (h w (List.mem_of_getElem? hk))
section GX
variable {p : Program} {l : Launch} {e : Env} {R : Room} {s : State} {m : MethodId} {args : Array Value} {below : List Frame} {meth : Method} {c : Code} {H : Heap} {locs : List Loc} {cells slots : Nat} {Q : State → Prop}
variable {cc : ByteArray} {pc : Nat} {ls : Array Slot} {rest : List Value}
theorem gb_if_eq (hx : p.tables.exec = Jvm.exec) (hb : c.code = cc) {P : Prop} [Decidable P] {off : Int} {tgt : Nat} (hdg : decode cc pc = .ok (.ifCond .eq off, 3)) (ht : (pc : Int) + off = (tgt : Int))
    (kt : ¬ P → W p l e R s m args below meth c H locs cells slots Q (F0 m tgt ls rest)) (kf : P → W p l e R s m args below meth c H locs cells slots Q (F0 m (pc + 3) ls rest)) : W p l e R s m args below meth c H locs cells slots Q (F0 m pc ls (.int (iI (bI P)) :: rest)) := gi_if_eq hx hb hdg ht (bI_R P) (fun h => kt (bI_0 h)) (fun h => kf (by rcases bI01 P with g | g; exact absurd g h; exact bI_1 g))
theorem gb_if_ne (hx : p.tables.exec = Jvm.exec) (hb : c.code = cc) {P : Prop} [Decidable P] {off : Int} {tgt : Nat} (hdg : decode cc pc = .ok (.ifCond .ne off, 3)) (ht : (pc : Int) + off = (tgt : Int))
    (kt : P → W p l e R s m args below meth c H locs cells slots Q (F0 m tgt ls rest)) (kf : ¬ P → W p l e R s m args below meth c H locs cells slots Q (F0 m (pc + 3) ls rest)) : W p l e R s m args below meth c H locs cells slots Q (F0 m pc ls (.int (iI (bI P)) :: rest)) := gi_if_ne hx hb hdg ht (bI_R P) (fun h => kt (by rcases bI01 P with g | g; exact absurd g h; exact bI_1 g)) (fun h => kf (bI_0 h))
end GX
end
section
/-! pure words of the class's state -/
def tw (s : Int) : Int := if s % 8 < 4 then 0 else 1
theorem tw_in (s : Int) : 0 ≤ tw s ∧ tw s < 2 := by
  unfold tw
  split <;> omega
def xWF (σ : St) : Prop := (∀ j, 1 ≤ σ 0 j ∧ σ 0 j ≤ 9) ∧ (∀ j, 0 ≤ σ 1 j ∧ σ 1 j ≤ 9) ∧ (∀ j, 0 ≤ σ 2 j ∧ σ 2 j ≤ 100000000) ∧ (∀ j, 0 ≤ σ 3 j ∧ σ 3 j ≤ 9) ∧ (∀ j, -1 ≤ σ 4 j ∧ σ 4 j ≤ 5) ∧ (∀ j, 0 ≤ σ 5 j ∧ σ 5 j ≤ 9) ∧ (∀ j, 0 ≤ σ 6 j ∧ σ 6 j ≤ 9) ∧ (∀ j, 0 ≤ σ 7 j ∧ σ 7 j ≤ 1) ∧ (∀ j, 0 ≤ σ 8 j ∧ σ 8 j ≤ 20) ∧ (0 ≤ σ 9 0 ∧ σ 9 0 ≤ 100000000)
theorem xWF_0 {σ : St} (h : xWF σ) (j : Int) : 1 ≤ σ 0 j ∧ σ 0 j ≤ 9 := h.1 j
theorem xWF_1 {σ : St} (h : xWF σ) (j : Int) : 0 ≤ σ 1 j ∧ σ 1 j ≤ 9 := h.2.1 j
theorem xWF_2 {σ : St} (h : xWF σ) (j : Int) : 0 ≤ σ 2 j ∧ σ 2 j ≤ 100000000 := h.2.2.1 j
theorem xWF_3 {σ : St} (h : xWF σ) (j : Int) : 0 ≤ σ 3 j ∧ σ 3 j ≤ 9 := h.2.2.2.1 j
theorem xWF_4 {σ : St} (h : xWF σ) (j : Int) : -1 ≤ σ 4 j ∧ σ 4 j ≤ 5 := h.2.2.2.2.1 j
theorem xWF_5 {σ : St} (h : xWF σ) (j : Int) : 0 ≤ σ 5 j ∧ σ 5 j ≤ 9 := h.2.2.2.2.2.1 j
theorem xWF_6 {σ : St} (h : xWF σ) (j : Int) : 0 ≤ σ 6 j ∧ σ 6 j ≤ 9 := h.2.2.2.2.2.2.1 j
theorem xWF_7 {σ : St} (h : xWF σ) (j : Int) : 0 ≤ σ 7 j ∧ σ 7 j ≤ 1 := h.2.2.2.2.2.2.2.1 j
theorem xWF_8 {σ : St} (h : xWF σ) (j : Int) : 0 ≤ σ 8 j ∧ σ 8 j ≤ 20 := h.2.2.2.2.2.2.2.2.1 j
theorem xWF_9 {σ : St} (h : xWF σ) : 0 ≤ σ 9 0 ∧ σ 9 0 ≤ 100000000 := h.2.2.2.2.2.2.2.2.2
theorem xWF_s0 {σ : St} (h : xWF σ) {k v : Int} (hv : 1 ≤ v ∧ v ≤ 9) : xWF (su σ 0 k v) := ⟨(fun j => by show _ ≤ fu (σ 0) k v j ∧ fu (σ 0) k v j ≤ _; unfold fu; split; exact hv; exact xWF_0 (σ := σ) h j), xWF_1 (σ := σ) h, xWF_2 (σ := σ) h, xWF_3 (σ := σ) h, xWF_4 (σ := σ) h, xWF_5 (σ := σ) h, xWF_6 (σ := σ) h, xWF_7 (σ := σ) h, xWF_8 (σ := σ) h, xWF_9 (σ := σ) h⟩
theorem xWF_s1 {σ : St} (h : xWF σ) {k v : Int} (hv : 0 ≤ v ∧ v ≤ 9) : xWF (su σ 1 k v) := ⟨xWF_0 (σ := σ) h, (fun j => by show _ ≤ fu (σ 1) k v j ∧ fu (σ 1) k v j ≤ _; unfold fu; split; exact hv; exact xWF_1 (σ := σ) h j), xWF_2 (σ := σ) h, xWF_3 (σ := σ) h, xWF_4 (σ := σ) h, xWF_5 (σ := σ) h, xWF_6 (σ := σ) h, xWF_7 (σ := σ) h, xWF_8 (σ := σ) h, xWF_9 (σ := σ) h⟩
theorem xWF_s2 {σ : St} (h : xWF σ) {k v : Int} (hv : 0 ≤ v ∧ v ≤ 100000000) : xWF (su σ 2 k v) := ⟨xWF_0 (σ := σ) h, xWF_1 (σ := σ) h, (fun j => by show _ ≤ fu (σ 2) k v j ∧ fu (σ 2) k v j ≤ _; unfold fu; split; exact hv; exact xWF_2 (σ := σ) h j), xWF_3 (σ := σ) h, xWF_4 (σ := σ) h, xWF_5 (σ := σ) h, xWF_6 (σ := σ) h, xWF_7 (σ := σ) h, xWF_8 (σ := σ) h, xWF_9 (σ := σ) h⟩
theorem xWF_s3 {σ : St} (h : xWF σ) {k v : Int} (hv : 0 ≤ v ∧ v ≤ 9) : xWF (su σ 3 k v) := ⟨xWF_0 (σ := σ) h, xWF_1 (σ := σ) h, xWF_2 (σ := σ) h, (fun j => by show _ ≤ fu (σ 3) k v j ∧ fu (σ 3) k v j ≤ _; unfold fu; split; exact hv; exact xWF_3 (σ := σ) h j), xWF_4 (σ := σ) h, xWF_5 (σ := σ) h, xWF_6 (σ := σ) h, xWF_7 (σ := σ) h, xWF_8 (σ := σ) h, xWF_9 (σ := σ) h⟩
theorem xWF_s4 {σ : St} (h : xWF σ) {k v : Int} (hv : -1 ≤ v ∧ v ≤ 5) : xWF (su σ 4 k v) := ⟨xWF_0 (σ := σ) h, xWF_1 (σ := σ) h, xWF_2 (σ := σ) h, xWF_3 (σ := σ) h, (fun j => by show _ ≤ fu (σ 4) k v j ∧ fu (σ 4) k v j ≤ _; unfold fu; split; exact hv; exact xWF_4 (σ := σ) h j), xWF_5 (σ := σ) h, xWF_6 (σ := σ) h, xWF_7 (σ := σ) h, xWF_8 (σ := σ) h, xWF_9 (σ := σ) h⟩
theorem xWF_s5 {σ : St} (h : xWF σ) {k v : Int} (hv : 0 ≤ v ∧ v ≤ 9) : xWF (su σ 5 k v) := ⟨xWF_0 (σ := σ) h, xWF_1 (σ := σ) h, xWF_2 (σ := σ) h, xWF_3 (σ := σ) h, xWF_4 (σ := σ) h, (fun j => by show _ ≤ fu (σ 5) k v j ∧ fu (σ 5) k v j ≤ _; unfold fu; split; exact hv; exact xWF_5 (σ := σ) h j), xWF_6 (σ := σ) h, xWF_7 (σ := σ) h, xWF_8 (σ := σ) h, xWF_9 (σ := σ) h⟩
theorem xWF_s6 {σ : St} (h : xWF σ) {k v : Int} (hv : 0 ≤ v ∧ v ≤ 9) : xWF (su σ 6 k v) := ⟨xWF_0 (σ := σ) h, xWF_1 (σ := σ) h, xWF_2 (σ := σ) h, xWF_3 (σ := σ) h, xWF_4 (σ := σ) h, xWF_5 (σ := σ) h, (fun j => by show _ ≤ fu (σ 6) k v j ∧ fu (σ 6) k v j ≤ _; unfold fu; split; exact hv; exact xWF_6 (σ := σ) h j), xWF_7 (σ := σ) h, xWF_8 (σ := σ) h, xWF_9 (σ := σ) h⟩
theorem xWF_s7 {σ : St} (h : xWF σ) {k v : Int} (hv : 0 ≤ v ∧ v ≤ 1) : xWF (su σ 7 k v) := ⟨xWF_0 (σ := σ) h, xWF_1 (σ := σ) h, xWF_2 (σ := σ) h, xWF_3 (σ := σ) h, xWF_4 (σ := σ) h, xWF_5 (σ := σ) h, xWF_6 (σ := σ) h, (fun j => by show _ ≤ fu (σ 7) k v j ∧ fu (σ 7) k v j ≤ _; unfold fu; split; exact hv; exact xWF_7 (σ := σ) h j), xWF_8 (σ := σ) h, xWF_9 (σ := σ) h⟩
theorem xWF_s8 {σ : St} (h : xWF σ) {k v : Int} (hv : 0 ≤ v ∧ v ≤ 20) : xWF (su σ 8 k v) := ⟨xWF_0 (σ := σ) h, xWF_1 (σ := σ) h, xWF_2 (σ := σ) h, xWF_3 (σ := σ) h, xWF_4 (σ := σ) h, xWF_5 (σ := σ) h, xWF_6 (σ := σ) h, xWF_7 (σ := σ) h, (fun j => by show _ ≤ fu (σ 8) k v j ∧ fu (σ 8) k v j ≤ _; unfold fu; split; exact hv; exact xWF_8 (σ := σ) h j), xWF_9 (σ := σ) h⟩
def mir (s : Int) : Int := (s - s % 8) + (7 - s % 8)
theorem mir_in {s : Int} (h0 : 0 ≤ s) (h1 : s < 40) : 0 ≤ mir s ∧ mir s < 40 := by
  unfold mir
  omega
def upr (σ : St) (r q : Int) : Int := bI (¬ σ 4 (r * 8 + q) = σ 4 (mir (r * 8 + q)) ∨ ¬ σ 5 (r * 8 + q) = σ 5 (mir (r * 8 + q)))
def bal (σ : St) (s : Int) : Int := max 0 (min (σ 2 s) 20)
def lkh (σ : St) (s : Int) : Int := if σ 4 s = -1 then 0 else σ 1 (σ 4 s)
theorem lkh_in {σ : St} (h : xWF σ) (s : Int) : 0 ≤ lkh σ s ∧ lkh σ s ≤ 9 := by
  unfold lkh
  split
  · omega
  · exact xWF_1 h _
def apl (v b t : Int) : Int := if t = 0 then b * v else b * v / 4
theorem mul9 {a b : Int} (ha : 0 ≤ a ∧ a ≤ 9) (hb : 0 ≤ b ∧ b ≤ 9) : 0 ≤ a * b ∧ a * b ≤ 81 := by
  refine ⟨Int.mul_nonneg ha.1 hb.1, ?_⟩
  have h1 : a * b ≤ 9 * b := Int.mul_le_mul_of_nonneg_right ha.2 hb.1
  omega
theorem apl_in {v b t : Int} (hv : 0 ≤ v ∧ v ≤ 9) (hb : 0 ≤ b ∧ b ≤ 9) : 0 ≤ apl v b t ∧ apl v b t ≤ 81 := by
  have h := mul9 hb hv
  unfold apl
  split <;> omega
def apx (σ : St) (s : Int) : Int := apl (σ 6 s) (σ 5 s) (σ 7 s)
def kWF (κ : St) : Prop := (0 ≤ κ 0 0 ∧ κ 0 0 ≤ 9) ∧ (0 ≤ κ 0 1 ∧ κ 0 1 ≤ 9) ∧ (0 ≤ κ 0 2 ∧ κ 0 2 ≤ 9) ∧ (0 ≤ κ 0 3 ∧ κ 0 3 ≤ 1)
theorem kWF_lk {σ κ : St} (h : xWF σ) (s : Int) : kWF (su (su (su (su κ 0 0 (σ 6 s)) 0 2 (σ 5 s)) 0 3 (σ 7 s)) 0 1 (lkh σ s)) := ⟨xWF_6 h s, lkh_in h s, xWF_5 h s, xWF_7 h s⟩
def yfz (f h b : Int) : Int := max 0 (b - max 0 (f - h))
theorem yfz_in (f h : Int) {b : Int} (hb : 0 ≤ b ∧ b ≤ 9) : 0 ≤ yfz f h b ∧ yfz f h b ≤ 9 := by
  unfold yfz
  omega
def grm (v : Int) : Int := if 7 ≤ v then 2 else 1
theorem grm_in (v : Int) : 1 ≤ grm v ∧ grm v ≤ 2 := by
  unfold grm
  split <;> omega
def yap (v f h b t : Int) : Int := apl v (yfz f h b) t
def yb (v f h b : Int) : Int := min 9 (yfz f h b + grm v)
theorem yb_in (v f h : Int) {b : Int} (hb : 0 ≤ b ∧ b ≤ 9) : 0 ≤ yb v f h b ∧ yb v f h b ≤ 9 := by
  have h1 := yfz_in f h hb
  have h2 := grm_in v
  unfold yb
  omega
theorem yap_in {v : Int} (f h : Int) {b : Int} (t : Int) (hv : 0 ≤ v ∧ v ≤ 9) (hb : 0 ≤ b ∧ b ≤ 9) : 0 ≤ yap v f h b t ∧ yap v f h b t ≤ 81 := apl_in hv (yfz_in f h hb)
/-- a tree's branches, whether it is tired, and what it has borne, n years on -/
def tY (fr : Int → Int) (v h b t : Int) : Nat → Int × Int × Int
  | 0 => (b, t, 0)
  | n + 1 => (yb v (fr n) h (tY fr v h b t n).1, bI (20 ≤ yap v (fr n) h (tY fr v h b t n).1 (tY fr v h b t n).2.1), (tY fr v h b t n).2.2 + yap v (fr n) h (tY fr v h b t n).1 (tY fr v h b t n).2.1)
def fr (σ : St) (n : Int) : Int := σ 3 ((σ 9 0 + n) % 10)
def lvB (σ : St) (v h b t y : Int) : Int := (tY (fr σ) v h b t y.toNat).1
def lvT (σ : St) (v h b t y : Int) : Int := (tY (fr σ) v h b t y.toNat).2.1
def lvS (σ : St) (v h b t y : Int) : Int := (tY (fr σ) v h b t y.toNat).2.2
theorem lv_step (σ : St) (v h b t : Int) {y : Int} (hy : 0 ≤ y) : lvB σ v h b t (y + 1) = yb v (fr σ y) h (lvB σ v h b t y) ∧ lvT σ v h b t (y + 1) = bI (20 ≤ yap v (fr σ y) h (lvB σ v h b t y) (lvT σ v h b t y)) ∧ lvS σ v h b t (y + 1) = lvS σ v h b t y + yap v (fr σ y) h (lvB σ v h b t y) (lvT σ v h b t y) := by
  unfold lvB lvT lvS
  have h1 : (y + 1).toNat = y.toNat + 1 := by omega
  have h2 : ((y.toNat : Nat) : Int) = y := by omega
  rw [h1]
  simp only [tY, h2, and_self]
theorem lvB_in (σ : St) (v h : Int) {b t : Int} (y : Int) (hb : 0 ≤ b ∧ b ≤ 9) : 0 ≤ lvB σ v h b t y ∧ lvB σ v h b t y ≤ 9 := by
  unfold lvB
  induction y.toNat with
  | zero => exact hb
  | succ n ih => exact yb_in _ _ _ ih
theorem lvT_in (σ : St) (v h b : Int) {t : Int} (y : Int) (ht : 0 ≤ t ∧ t ≤ 1) : 0 ≤ lvT σ v h b t y ∧ lvT σ v h b t y ≤ 1 := by
  unfold lvT
  cases y.toNat with
  | zero => exact ht
  | succ n =>
    show 0 ≤ bI _ ∧ bI _ ≤ 1
    rcases bI01 (20 ≤ yap v (fr σ n) h (tY (fr σ) v h b t n).1 (tY (fr σ) v h b t n).2.1) with h | h <;> rw [h] <;> decide
theorem lvS_in (σ : St) {v : Int} (h : Int) {b : Int} (t : Int) {y : Int} (hv : 0 ≤ v ∧ v ≤ 9) (hb : 0 ≤ b ∧ b ≤ 9) (hy : 0 ≤ y) : 0 ≤ lvS σ v h b t y ∧ lvS σ v h b t y ≤ 81 * y := by
  have key : ∀ n : Nat, 0 ≤ (tY (fr σ) v h b t n).2.2 ∧ (tY (fr σ) v h b t n).2.2 ≤ 81 * (n : Int) := by
    intro n
    induction n with
    | zero => exact ⟨Int.le_refl _, by simp [tY]⟩
    | succ n ih =>
      have h1 : 0 ≤ (tY (fr σ) v h b t n).1 ∧ (tY (fr σ) v h b t n).1 ≤ 9 := by
        have := lvB_in σ v h (t := t) (n : Int) hb
        unfold lvB at this
        simpa using this
      have h2 := yap_in (fr σ n) h (tY (fr σ) v h b t n).2.1 hv h1
      simp only [tY]
      omega
  have h3 := key y.toNat
  unfold lvS
  omega
def xSp (σ : St) (s c : Int) : St := su σ 8 (tw s) (σ 8 (tw s) - c)
theorem xWF_sp {σ : St} (h : xWF σ) {s c : Int} (h0 : 0 ≤ c) (h1 : c ≤ σ 8 (tw s)) : xWF (su σ 8 (tw s) (σ 8 (tw s) - c)) := xWF_s8 h (by have := xWF_8 h (tw s); omega)
def xPlant (σ : St) (s so v : Int) : St := if σ 4 s = -1 ∧ 5 ≤ σ 8 (tw s) then su (su (su (su (xSp σ s 5) 4 s so) 5 s 1) 6 s v) 7 s 0 else σ
def xPrune (σ : St) (s c : Int) : St := if ¬ σ 4 s = -1 ∧ c ≤ σ 5 s ∧ 2 ≤ σ 8 (tw s) then su (su (xSp σ s 2) 5 s (σ 5 s - c)) 7 s 0 else σ
def xGraft (σ : St) (s so : Int) : St := if ¬ σ 4 s = -1 ∧ ¬ σ 4 s = so ∧ 1 ≤ σ 5 s ∧ 4 ≤ σ 8 (tw s) then su (su (xSp σ s 4) 4 s so) 5 s (max 1 (σ 5 s / 2)) else σ
def xFell (σ : St) (s : Int) : St := if ¬ σ 4 s = -1 ∧ 6 ≤ σ 8 (tw s) then su (su (su (su (xSp σ s 6) 4 s (-1)) 5 s 0) 6 s 0) 7 s 0 else σ
def xPassA (σ : St) (s y : Int) : St := su (su (su σ 5 s (lvB σ (σ 6 s) (lkh σ s) (σ 5 s) (σ 7 s) y)) 7 s (lvT σ (σ 6 s) (lkh σ s) (σ 5 s) (σ 7 s) y)) 2 (σ 4 s) (σ 2 (σ 4 s) + lvS σ (σ 6 s) (lkh σ s) (σ 5 s) (σ 7 s) y)
def gnP (σ : St) (s c y : Int) : Int := if ¬ σ 4 s = -1 ∧ c ≤ σ 5 s ∧ 2 ≤ σ 8 (tw s) then lvS σ (σ 6 s) (lkh σ s) (σ 5 s - c) 0 y - lvS σ (σ 6 s) (lkh σ s) (σ 5 s) (σ 7 s) y else 0
theorem fit_z {z : Int} (h : z = 0 ∨ z = 1) : fits .boolean (.int (iI z)) = true := by
  rcases h with rfl | rfl <;> rfl
end
section
/-! the JDK's own methods that are called: floorMod of what isn't negative, fill of an int row; calls on one cell of a world -/
theorem iI_xor_nn {a b : Int} (ha : 0 ≤ a ∧ a ≤ 2147483647) (hb : 0 ≤ b ∧ b ≤ 2147483647) : (0 : Int32) ≤ iI a ^^^ iI b := by
  have key : ∀ z : Int, 0 ≤ z ∧ z ≤ 2147483647 → (iI z).toBitVec.msb = false := by
    intro z h
    have h3 : (iI z).toBitVec.toInt = z := iI_toInt (by omega) h.2
    cases hm : (iI z).toBitVec.msb with
    | false => rfl
    | true =>
      have h4 := BitVec.msb_eq_true_iff_two_mul_ge.mp hm
      have h5 := BitVec.toInt_neg_iff.mpr h4
      omega
  rw [Int32.le_iff_toInt_le]
  show (0 : Int) ≤ (iI a ^^^ iI b).toBitVec.toInt
  rw [Int32.toBitVec_xor]
  apply BitVec.toInt_nonneg_of_msb_false
  rw [BitVec.msb_xor, key a ha, key b hb]
  rfl
/-- a method of a class some of whose methods are run by entries of the machine, but not this one -/
theorem g_ofF {l : Launch} {y : MethodName} {ws ws' : List Cond} {rm : Room} {Pc : Array Value → State → Prop} {Qc : Array Value → State → Outcome → State → Prop} {mc ms : Nat} {free : Addr → Prop} {cc : ByteArray} {maxL : Nat} {ret : Option FieldType}
    (hy : plainFor y = true) (hw : ws = Cond.code y cc maxL ret :: ws')
    (body : ∀ p e s m args below meth c s₁, BodyLoose p l y (headSpec ws rm) cc maxL ret e s m args below meth c s₁ → c.maxLocals = maxL → Pc args s →
      W p l e (headSpec ws rm).room s m args below meth c s.heap [] 0 0 (MQ below Qc args s mc ms free) (entryFrame m args maxL)) : Met l y ws rm Pc Qc mc ms free := by
  refine MetFree.of_bodySF (code := cc) (maxLocals := maxL) (ret := ret) hy ?_ ?_
  · intro args s m h hn
    obtain ⟨meth, c, h1, h2, h3, h4, h5, h6, -, -⟩ := Cond.code_spec hn (atoms_spec (ws := ws) h _ (by rw [hw]; exact List.mem_cons_self))
    exact ⟨meth, c, h1, h2, h3, h4, h5, h6⟩
  · intro p e s m args below meth c s₁ B hml hP _
    have hh0 : s₁.heap = s.heap := by rw [B.state]; rfl
    obtain ⟨t, a1, o, b1, b2, b3⟩ := body p e s m args below meth c s₁ B hml hP s₁ hh0 (Stand.of_body B)
    exact ⟨t, o, a1, b1, b2, ⟨b3.1, b3.2⟩⟩
theorem g_startF {l : Launch} {cc : ByteArray} {D : va_G} {tys : List (ClassId × FieldType)} {wi : va_W} {wo : St → va_W} {rv : St → Option Value} {kr : St → Prop} {y : MethodName} {ws0 ws' : List Cond} {rm : Room} {av : List Value} {ex : State → Prop} {maxL : Nat} {ret : Option FieldType} (hy : plainFor y = true) (hw : ws0 = Cond.code y cc maxL ret :: ws') (hn : (lg_sl av).length ≤ maxL)
    (body : ∀ (p : Program) (e : Env) (s : State) (m : MethodId) (args : Array Value) (below : List Frame) (meth : Method) (c : Code) (A : Nat → Prop) (ls : Array Slot) (H : Heap) (locs : List Loc), CallFix p m c cc maxL s args ws0 y.cls → meth.sig.returnType = ret → meth.locks = false → meth.name = y.name → va_P D vwCl wi H → va_K D vwCl tys s → va_D A wi → (∀ q : Nat, s.heap.size ≤ q → A q) → va_S A s.heap H locs → ex s → lv_has ls maxL (lv_args 0 av) →
      W p l e rm s m args below meth c H locs 0 0 (MQ below (gQ D tys wo A rv kr) args s rm.cells rm.slots A) (F0 m 0 ls [])) : gMet l y ws0 rm D tys wi av ex rv kr wo := by
  intro sz
  refine g_ofF (cc := cc) (maxL := maxL) (ret := ret) hy hw ?_
  intro p e s m args below meth c s₁ B hml hv
  obtain ⟨rfl, hsz, hP, hK, hD0, hE⟩ := hv
  subst hsz
  have hl := lv_entry av (n := maxL) hn
  rw [lg_entry_eq]
  exact body p e s m _ below meth c _ _ _ _ ⟨B.exec, B.bytes, hml, findClass_of_methodNamed B.named, atoms_spec (ws := ws0) B.pre⟩ B.returns B.notSynchronized (name_of_methodNamed B.named B.method).1 hP hK hD0.self (fun q h => Or.inr h) va_S.rf hE hl
set_option maxHeartbeats 4000000 in
set_option maxRecDepth 100000 in
theorem kJ9_floorMod_7cf53 (l : Launch) (D : va_G) (n0 n1 : Int) (h0 : 0 ≤ n0 ∧ n0 ≤ 2147483647) (h1 : 0 < n1 ∧ n1 ≤ 2147483647) : gMet l yJ9_floorMod_7cf53 wsJ9_floorMod_7cf53 ({ frames := 0, cells := 0, slots := 0, locals := 0 } : Room) D [] (([] : va_W)) [.int (iI n0), .int (iI n1)] (fun _ => True) (fun _ => some (.int (iI (n0 % n1)))) (fun _ => True) (fun κ' => ([] : va_W)) := by
  refine g_startF (cc := cJ9_floorMod_7cf53) (maxL := 3) (ret := (some .int)) (by decide +kernel) rfl (Nat.le_of_ble_eq_true rfl) ?_
  intro p e s m args below meth c A ls H locs S hr hlocks hname hP hK hD hA hS hE hl
  have S0 := S
  obtain ⟨hx, hb, hml, hown, hts⟩ := S0
  have hl : lv_has ls 3 [(0, .int (iI (n0))), (1, .int (iI (n1)))] := hl
  refine lv_iload_n hx hb dJ9_floorMod_7cf53_0 rfl (lv_at hl 0 rfl) ?_
  refine lv_iload_n hx hb dJ9_floorMod_7cf53_1 rfl (lv_at hl 1 rfl) ?_
  refine gi_rem hx hb h0 h1 dJ9_floorMod_7cf53_2 ?_
  refine lv_istore_n (lv' := [(2, .int (iI (n0 % n1))), (0, .int (iI n0)), (1, .int (iI n1))]) hx hb dJ9_floorMod_7cf53_3 rfl hl (by decide) rfl (fun ls hl => ?_)
  refine lv_iload_n hx hb dJ9_floorMod_7cf53_4 rfl (lv_at hl 1 rfl) ?_
  refine lv_iload_n hx hb dJ9_floorMod_7cf53_5 rfl (lv_at hl 2 rfl) ?_
  refine lv_ixor hx hb dJ9_floorMod_7cf53_6 ?_
  refine lv_if_ge (tgt := 18) hx hb dJ9_floorMod_7cf53_7 (by decide) (fun c7 => ?_) (fun c7 => ?_)
  · refine lv_iload_n hx hb dJ9_floorMod_7cf53_18 rfl (lv_at hl 0 rfl) ?_
    exact g_iret (wo := (fun κ' => ([] : va_W))) (kr := (fun _ => True)) (rv := (fun _ => some (.int (iI (n0 % n1))))) hx hb hr hlocks (fun _ _ => 0) rfl hP hK hD hS trivial rfl (Nat.le_of_ble_eq_true rfl) (Nat.le_of_ble_eq_true rfl) dJ9_floorMod_7cf53_19
  · exact absurd (iI_xor_nn h0 ⟨Int.le_of_lt h1.1, h1.2⟩) c7
/-- an int row filled with v, its first n places -/
def ffl (n : Nat) (v : Int) (f : Int → Int) : Int → Int := fun j => if 0 ≤ j ∧ j < (n : Int) then v else f j
theorem aI_congr (cI : ClassId) {n : Nat} {f g : Int → Int} (h : ∀ j : Int, 0 ≤ j → j < (n : Int) → f j = g j) : ∀ (D : va_G) (cl : List vw_C) (a : Nat) (H : Heap), va_at D cl (a, aI cI n f) H → va_at D cl (a, aI cI n g) H := by
  intro D cl a H h1
  show H[a]? = some (vp_cell _ _)
  have h2 : H[a]? = some (vp_cell cI (n, .inl (fun j : Nat => iI (f (j : Int))))) := h1
  rw [h2, vp_cell_i, vp_cell_i]
  congr 1
  unfold arrV
  congr 1
  apply Array.ext
  · simp
  · intro i h1 h2
    simp at h1 ⊢
    rw [h (i : Int) (by omega) (by omega)]
section G1
variable {p : Program} {l : Launch} {e : Env} {R : Room} {s : State} {m : MethodId} {args : Array Value} {below : List Frame} {meth : Method} {c : Code} {H : Heap} {locs : List Loc} {cells slots : Nat} {Q : State → Prop}
variable {pc : Nat} {ls : Array Slot} {rest st0 : List Value} {D : va_G} {A0 : Nat → Prop} {tys tys' : List (ClassId × FieldType)} {ws : va_W} {H0 : Heap} {rv : St → Option Value} {kr : St → Prop} {a : Array Value} {mc ms : Nat}
/-- a call of a method whose world is one cell of ours -/
theorem g_call1 {e0 : va_E} {e1 : St → va_E} {b : Nat} (q0 : Nat) (h0 : ws[q0]? = some (b, e0)) (hr : va_Run p l e R s m args below meth c H locs cells slots mc ms (F0 m pc ls st0) rest (gQ D tys' (fun κ => [(b, e1 κ)]) (va_A [(b, e0)] H.size) rv kr a) (va_A [(b, e0)] H.size)) (hP : va_P D vwCl ws H) (hD : va_D A0 ws) (hS : va_S A0 H0 H locs) (hA : ∀ q, H0.size ≤ q → A0 q)
    (kk : ∀ (κ : St) (H1 : Heap) (locs1 : List Loc), kr κ → va_P D vwCl (ws.set q0 (b, e1 κ)) H1 → va_D A0 (ws.set q0 (b, e1 κ)) → va_S A0 H0 H1 locs1 → W p l e R s m args below meth c H1 locs1 (cells + mc) (slots + ms) Q (F0 m (pc + 3) ls ((rv κ).toList ++ rest))) : W p l e R s m args below meth c H locs cells slots Q (F0 m pc ls st0) := by
  intro T hT X
  obtain ⟨v, st₀, t, T', L, hh0, X', hL, e1', e2, ⟨⟨κ, hv, hp, hb, hk2, hd⟩, hz, hk⟩, st⟩ := hr T hT X
  cases hv
  rw [hh0] at hz hk
  have hbl : b < H.size := (hP q0 _ h0).lt
  have hF : ∀ q, va_A [(b, e0)] H.size q → A0 q := by
    intro q h
    rcases h with ⟨k, e9, h⟩ | h
    · have hk0 : k = 0 := by
        have := (List.getElem?_eq_some_iff.mp h).1
        simp at this
        exact this
      subst hk0
      cases h
      exact hD.2 q0 _ h0
    · exact hA q (Nat.le_trans hS.1 h)
  have hne : ∀ q : Nat, q < H.size → q ≠ b → T'.heap[q]? = H[q]? := by
    intro q h1 h2
    rw [e1']
    refine hk q h1 ?_
    rintro (⟨k, e9, h⟩ | h)
    · have hk0 : k = 0 := by
        have := (List.getElem?_eq_some_iff.mp h).1
        simp at this
        exact this
      subst hk0
      cases h
      exact h2 rfl
    · omega
  have hP1 : va_P D vwCl (ws.set q0 (b, e1 κ)) T'.heap := by
    have hl := (List.getElem?_eq_some_iff.mp h0).1
    intro k q hk9
    by_cases hkp : k = q0
    · subst hkp
      rw [List.getElem?_set_self hl] at hk9
      cases hk9
      have := hb 0 (b, e1 κ) rfl
      rw [e1']
      exact this
    · rw [List.getElem?_set_ne (Ne.symm hkp)] at hk9
      exact (hP k q hk9).kept (hne q.1 ((hP k q hk9).lt) (fun z => hkp (hD.1 k q0 q (b, e0) hk9 h0 z)))
  obtain ⟨t2, a1, b1⟩ := kk κ T'.heap (locs ++ L) hp hP1 (hD.set h0)
    ⟨Nat.le_trans hS.1 (by rw [e1']; exact hz), fun q h1 h2 => by rw [e1', hk q (Nat.lt_of_lt_of_le h1 hS.1) (fun z => h2 (hF q z))]; exact hS.2.1 q h1 h2, fun q hq => by
      rcases List.mem_append.mp hq with h | h
      · exact hS.2.2 q h
      · exact hF _ (hL q h)⟩ T' rfl X'
  exact ⟨t2, st t2 a1, b1⟩
end G1
end
section
/-! methods that may throw: what is carried for a throw, the shape of their contracts -/
def eI : String := "java/lang/IndexOutOfBoundsException"
def eA : String := "java/lang/IllegalArgumentException"
def eS : String := "java/lang/IllegalStateException"
def eNs : List String := ["java/lang/RuntimeException", "java/lang/Exception"]
def tStr : List (Nat × String) := [(67, "no such sort"), (78, "weight or frost borne out of bounds"), (81, "no such year of the table"), (83, "frost out of bounds"), (89, "no such place"), (91, "sort or vigour out of bounds"), (108, "branches out of bounds"), (119, "no such place or question"), (127, "no such sort or question"), (132, "no such question"), (150, "no such row"), (152, "apples out of bounds"), (156, "not so many apples"), (165, "years out of bounds")]
def tB (E : String) : List Cond := [.castable E E, .declares (Bundle.initS "java/lang/RuntimeException"), .declares (Bundle.initS "java/lang/Exception"), .declares (Bundle.initS Bundle.tN)]
def tExA (A : Nat → Prop) (U : State) : Prop := xEx U ∧ (∀ q ∈ tStr, ∃ a : Nat, vk_R "TwinOrchard" q.1 q.2 a U) ∧ (∀ E, ∀ w ∈ tB E, (E = eI ∨ E = eA ∨ E = eS) → va_Nw w U) ∧ vx_Zq Bundle.tN "UNASSIGNED_STACK" Bundle.steD A U U.heap ∧ vx_Zq Bundle.tN "SUPPRESSED_SENTINEL" Bundle.listD A U U.heap
theorem tB_s {E : String} {u U : State} (hv : u.vm = U.vm) {w : Cond} (hw : w ∈ tB E) (h : va_Nw w u) : va_Nw w U := by
  simp only [tB, List.mem_cons, List.not_mem_nil, or_false] at hw
  rcases hw with rfl | rfl | rfl | rfl <;> exact va_Nw.same rfl hv h
theorem tB_w {E : String} {s U : State} (hW : s.WarmedH U.vm) {w : Cond} (hw : w ∈ tB E) (h : va_Nw w s) : va_Nw w U := by
  simp only [tB, List.mem_cons, List.not_mem_nil, or_false] at hw
  rcases hw with rfl | rfl | rfl | rfl
  · exact va_Nw.warmC hW h
  · exact va_Nw.warmD hW h
  · exact va_Nw.warmD hW h
  · exact va_Nw.warmD hW h
theorem tB_t {E : String} : ∀ w ∈ tB E, w.onTables = true := by
  intro w hw
  simp only [tB, List.mem_cons, List.not_mem_nil, or_false] at hw
  rcases hw with rfl | rfl | rfl | rfl <;> rfl
def tEx (wi : va_W) (U : State) : Prop := tExA (va_A wi U.heap.size) U
theorem tEx_g (wi : va_W) : gEx (tEx wi) := by
  intro a U g mk h
  obtain ⟨h1, h2, h3, h6, h7⟩ := h
  exact ⟨xEx_g a U g mk h1, fun q hq => (h2 q hq).elim (fun b hb => ⟨b, vk_R.same (u := U) (U := U.calling g mk a) rfl hb⟩), fun E w hw he => tB_s (u := U) (U := U.calling g mk a) rfl hw (h3 E w hw he), vx_Zq.moved (u := U) (U := U.calling g mk a) (Vm.Alike.refl U.vm) h6, vx_Zq.moved (u := U) (U := U.calling g mk a) (Vm.Alike.refl U.vm) h7⟩
theorem tExA_w {A B : Nat → Prop} {s U : State} {H : Heap} {locs : List Loc} (h : tExA A s) (hS : va_S A s.heap H locs) (hB : ∀ q, B q → A q) (hU : U.heap = H) (hW : s.WarmedH U.vm) : tExA B U := by
  obtain ⟨h1, h2, h3, h6, h7⟩ := h
  have key : ∀ a : Nat, a < s.heap.size → ¬ A a → U.heap[a]? = s.heap[a]? := fun a h8 h9 => by rw [hU]; exact hS.2.1 a h8 h9
  exact ⟨xEx_w hW h1, fun q hq => (h2 q hq).elim (fun b hb => ⟨b, vk_R.warm hW hb⟩), fun E w hw he => tB_w hW hw (h3 E w hw he), ((vx_Zq.moved hW.alike h6).kept key).narrow hB, ((vx_Zq.moved hW.alike h7).kept key).narrow hB⟩
theorem tEx_w {wi wr : va_W} {A : Nat → Prop} {s U : State} {H : Heap} {locs : List Loc} (h : tExA A s) (hD : va_D A (wi ++ wr)) (hS : va_S A s.heap H locs) (hA : ∀ q, s.heap.size ≤ q → A q) (hU : U.heap = H) (hW : s.WarmedH U.vm) : tEx wi U := by
  subst hU
  exact tExA_w h hS (g_free hD hS hA) rfl hW
def gX (D : va_G) (tys : List (ClassId × FieldType)) (wx : va_W) (A : Nat → Prop) (xc : String → Prop) : String → State → State → Prop := fun E st t => xc E ∧ va_P D vwCl wx t.heap ∧ va_K D vwCl tys t ∧ va_D A wx ∧ va_F A st t
def hMet (l : Launch) (y : MethodName) (ws : List Cond) (rm : Room) (D : va_G) (tys : List (ClassId × FieldType)) (wi : va_W) (av : List Value) (rv : St → Option Value) (kr : St → Prop) (wo : St → va_W) (xc : String → Prop) : Prop :=
  ∀ sz : Nat, vx_Met l y ws rm (va_Pc av (gU D tys wi (tEx wi) sz)) (gQ D tys wo (va_A wi sz) rv kr) (gX D tys wi (va_A wi sz) xc) rm.cells rm.slots (va_A wi sz)
theorem h_nI : ∀ w ∈ (vx_atS RX1 69 eI eNs).filter (fun w => !goodWord w), w ∈ tB eI := by decide +kernel
theorem h_nA : ∀ w ∈ (vx_atS RX1 80 eA eNs).filter (fun w => !goodWord w), w ∈ tB eA := by decide +kernel
theorem h_nS : ∀ w ∈ (vx_atS RX1 158 eS eNs).filter (fun w => !goodWord w), w ∈ tB eS := by decide +kernel
theorem h_gI : ∀ w ∈ Cond.classLink RX1 65 eI :: Cond.initialized eI :: vx_atS RX1 69 eI eNs, vx_ot w = true := by decide +kernel
theorem h_gS : ∀ w ∈ Cond.classLink RX1 154 eS :: Cond.initialized eS :: vx_atS RX1 158 eS eNs, vx_ot w = true := by decide +kernel
theorem h_gA : ∀ w ∈ Cond.classLink RX1 76 eA :: Cond.initialized eA :: vx_atS RX1 80 eA eNs, vx_ot w = true := by decide +kernel
section HS
variable {l : Launch} {cc : ByteArray} {D : va_G} {tys : List (ClassId × FieldType)} {wi : va_W} {wo : St → va_W} {rv : St → Option Value} {kr : St → Prop} {xc : String → Prop}
theorem h_start {y : MethodName} {ws0 ws' : List Cond} {rm : Room} {av : List Value} {maxL : Nat} {ret : Option FieldType} (hy : plainName y.cls = true) (hw : ws0 = Cond.code y cc maxL ret :: ws') (hn : (lg_sl av).length ≤ maxL)
    (body : ∀ (p : Program) (e : Env) (s : State) (m : MethodId) (args : Array Value) (below : List Frame) (meth : Method) (c : Code) (A : Nat → Prop) (ls : Array Slot) (H : Heap) (locs : List Loc), CallFix p m c cc maxL s args ws0 y.cls → meth.sig.returnType = ret → meth.locks = false → (∀ x ∈ c.exceptionTable.toList, False) → va_P D vwCl wi H → va_K D vwCl tys s → va_D A wi → (∀ q : Nat, s.heap.size ≤ q → A q) → va_S A s.heap H locs → tExA A s → lv_has ls maxL (lv_args 0 av) →
      W p l e rm s m args below meth c H locs 0 0 (vx_MQ below (gQ D tys wo A rv kr) (gX D tys wi A xc) args s rm.cells rm.slots A) (F0 m 0 ls [])) : hMet l y ws0 rm D tys wi av rv kr wo xc := by
  intro sz
  refine vx_ofW (cc := cc) (maxL := maxL) (ret := ret) hy hw ?_
  intro p e s m args below meth c s₁ B hml ht hv
  obtain ⟨rfl, hsz, hP, hK, hD0, hE⟩ := hv
  subst hsz
  have hl := lv_entry av (n := maxL) hn
  rw [lg_entry_eq]
  exact body p e s m _ below meth c _ _ _ _ ⟨B.exec, B.bytes, hml, findClass_of_methodNamed B.named, atoms_spec (ws := ws0) B.pre⟩ B.returns B.notSynchronized ht hP hK hD0.self (fun q h => Or.inr h) va_S.rf hE hl
end HS
section HT
variable {p : Program} {l : Launch} {e : Env} {R : Room} {s : State} {m : MethodId} {args : Array Value} {below : List Frame} {meth : Method} {c : Code} {H : Heap} {locs : List Loc} {cells slots : Nat}
variable {cc : ByteArray} {pc : Nat} {ls : Array Slot} {rest : List Value} {D : va_G} {A : Nat → Prop} {tys : List (ClassId × FieldType)} {wx : va_W} {xc : String → Prop} {Qc : Array Value → State → Outcome → State → Prop}
/-- new E(text), thrown -/
theorem h_throw {cls text : String} {ik is ic mc ms : Nat} (hx : p.tables.exec = Jvm.exec) (hb : c.code = cc) (hl : l.stackTraces = false) (hown : s.vm.findClass RX1 = some m.cls) (hE : tExA A s) (htx : (is, text) ∈ tStr) (hcls : Bundle.fit cls = true)
    (hk : (Cond.classLink RX1 ik cls).before args s = true) (hini : (Cond.initialized cls).before args s = true) (h3 : cls = eI ∨ cls = eA ∨ cls = eS) (h2 : ∀ w ∈ (vx_atS RX1 ic cls eNs).filter (fun w => !goodWord w), w ∈ tB cls) (h1 : ∀ w ∈ (vx_atS RX1 ic cls eNs).filter goodWord, w.before args s = true) (hgood : ∀ w ∈ Cond.classLink RX1 ik cls :: Cond.initialized cls :: vx_atS RX1 ic cls eNs, vx_ot w = true)
    (hS : va_S A s.heap H locs) (hsize : ls.size = c.maxLocals) (hT : ∀ x ∈ c.exceptionTable.toList, False) (hlocks : meth.locks = false) (hP : va_P D vwCl wx H) (hK : va_K D vwCl tys s) (hD : va_D A wx) (hxc : xc cls)
    (d0 : decode cc pc = .ok (.new ik, 3)) (d3 : decode cc (pc + 3) = .ok (.dup, 1)) (d4 : decode cc (pc + 4) = .ok (.ldc is, 2)) (d6 : decode cc (pc + 6) = .ok (.invokespecial ic, 3)) (d9 : decode cc (pc + 9) = .ok (.athrow, 1))
    (hRf : 5 < R.frames) (hRl : (rest.map fun v => v.category).sum + 82 ≤ R.locals) (hRc : cells + 1 ≤ R.cells) (hRs : slots + 6 ≤ R.slots) (hc : cells + 1 ≤ mc) (hs : slots + 6 ≤ ms) :
    W p l e R s m args below meth c H locs cells slots (vx_MQ below Qc (gX D tys wx A xc) args s mc ms A) (F0 m pc ls rest) := by
  obtain ⟨-, hs1, hB, hU, hN⟩ := hE
  obtain ⟨sa, hstr⟩ := hs1 (is, text) htx
  refine vx_throwS hx hb hl (own := RX1) (cls := cls) (text := text) (names := eNs) (ik := ik) (is := is) (ic := ic) (mc := mc) (ms := ms) (sa := sa) (A := A) hown hcls (by decide +kernel) hk hini hstr (vx_hat h1 h2 (fun w hw => va_Nw.use (tB_t w hw) (hB cls w hw h3))) hgood hU hN hS hsize d0 d3 d4 d6 d9 (fun x hx => (hT x hx).elim) hRf hRl hRc hRs hlocks ?_ hS.2.2 hc hs
  intro t hvm hz hq
  refine ⟨hxc, hP.kept (fun k q hk => hq q.1 ((hP k q hk).lt)), va_K.moved hvm hK, hD, ⟨Nat.le_trans hS.1 hz, fun q h1 h2 => by rw [hq q (Nat.lt_of_lt_of_le h1 hS.1)]; exact hS.2.1 q h1 h2⟩⟩
end HT
end
section
/-! a call of a method that may throw -/
section HC
variable {p : Program} {l : Launch} {e : Env} {R : Room} {s : State} {m : MethodId} {args : Array Value} {below : List Frame} {meth : Method} {c : Code} {H : Heap} {locs : List Loc} {cells slots : Nat} {Q : State → Prop}
variable {pc : Nat} {ls : Array Slot} {rest st0 : List Value} {D : va_G} {A0 : Nat → Prop} {tys tys' : List (ClassId × FieldType)} {wi wr : va_W} {H0 : Heap} {wo : St → va_W} {rv : St → Option Value} {kr : St → Prop} {xc : String → Prop} {a : Array Value} {mc ms : Nat}
theorem h_call (hr : vx_Run p l e R s m args below meth c H locs cells slots mc ms (F0 m pc ls st0) rest (gQ D tys' wo (va_A wi H.size) rv kr a) (gX D tys' wi (va_A wi H.size) xc) (va_A wi H.size)) (hP : va_P D vwCl (wi ++ wr) H) (hD : va_D A0 (wi ++ wr)) (hS : va_S A0 H0 H locs) (hA : ∀ q, H0.size ≤ q → A0 q)
    (kx : ∀ (E : String) (ce : Cell) (q9 : Addr) (H1 : Heap) (locs1 : List Loc), xc E → va_P D vwCl (wi ++ wr) H1 → va_S A0 H0 H1 locs1 → H1[q9]? = some ce → ce.vm = .none → s.vm.findClass E = some ce.cls → vx_W p l e R s m args below meth c H1 locs1 (cells + mc) (slots + ms) Q (F0 m pc ls rest) q9)
    (kk : ∀ (κ : St) (H1 : Heap) (locs1 : List Loc), kr κ → va_P D vwCl (wo κ ++ wr) H1 → va_D A0 (wo κ ++ wr) → va_S A0 H0 H1 locs1 → W p l e R s m args below meth c H1 locs1 (cells + mc) (slots + ms) Q (F0 m (pc + 3) ls ((rv κ).toList ++ rest))) : W p l e R s m args below meth c H locs cells slots Q (F0 m pc ls st0) := by
  intro T hT X
  have hF := g_free hD hS hA
  rcases hr T hT X with ⟨v, st₀, t, T', L, h0, X', hL, e1, e2, ⟨⟨κ, hv, hp, hb, hk2, hd⟩, hz, hk⟩, st⟩ | ⟨q, st₀, t, T', L, E, ce, h0, X', hL, e1, e2, ⟨hxc, hpx, -, hdx, hz, hk⟩, hce, hcv, hcl, st⟩
  · cases hv
    rw [h0] at hz hk
    obtain ⟨hP1, hD1⟩ := g_join (H1 := T'.heap) hP hD (fun q h1 h2 => by rw [e1]; exact hk q h1 h2) hF (by rw [e1]; exact hb) hd
    obtain ⟨t2, a1, b1⟩ := kk κ T'.heap (locs ++ L) hp hP1 hD1
      ⟨Nat.le_trans hS.1 (by rw [e1]; exact hz), fun q h1 h2 => by rw [e1, hk q (Nat.lt_of_lt_of_le h1 hS.1) (fun z => h2 (hF q z))]; exact hS.2.1 q h1 h2, fun q hq => by
        rcases List.mem_append.mp hq with h | h
        · exact hS.2.2 q h
        · exact hF _ (hL q h)⟩ T' rfl X'
    exact ⟨t2, st t2 a1, b1⟩
  · rw [h0] at hz hk
    obtain ⟨hP1, hD1⟩ := g_join (H1 := T'.heap) hP hD (fun q h1 h2 => by rw [e1]; exact hk q h1 h2) hF (by rw [e1]; exact hpx) hdx
    obtain ⟨t2, a1, b1⟩ := kx E ce q T'.heap (locs ++ L) hxc hP1
      ⟨Nat.le_trans hS.1 (by rw [e1]; exact hz), fun q h1 h2 => by rw [e1, hk q (Nat.lt_of_lt_of_le h1 hS.1) (fun z => h2 (hF q z))]; exact hS.2.1 q h1 h2, fun q hq => by
        rcases List.mem_append.mp hq with h | h
        · exact hS.2.2 q h
        · exact hF _ (hL q h)⟩ (by rw [e1]; exact hce) hcv hcl T' rfl X'
    exact ⟨t2, st.trans a1, b1⟩
/-- where it can't throw -/
theorem h_call0 (hr : vx_Run p l e R s m args below meth c H locs cells slots mc ms (F0 m pc ls st0) rest (gQ D tys' wo (va_A wi H.size) rv kr a) (gX D tys' wi (va_A wi H.size) xc) (va_A wi H.size)) (hP : va_P D vwCl (wi ++ wr) H) (hD : va_D A0 (wi ++ wr)) (hS : va_S A0 H0 H locs) (hA : ∀ q, H0.size ≤ q → A0 q) (hno : ∀ E, ¬ xc E)
    (kk : ∀ (κ : St) (H1 : Heap) (locs1 : List Loc), kr κ → va_P D vwCl (wo κ ++ wr) H1 → va_D A0 (wo κ ++ wr) → va_S A0 H0 H1 locs1 → W p l e R s m args below meth c H1 locs1 (cells + mc) (slots + ms) Q (F0 m (pc + 3) ls ((rv κ).toList ++ rest))) : W p l e R s m args below meth c H locs cells slots Q (F0 m pc ls st0) :=
  h_call hr hP hD hS hA (fun E _ _ _ _ h => (hno E h).elim) kk
theorem h_preV {As : List Value} {b q0 ci : Nat} {q : vw_C} {fs : List Value} {C : String} {A : Nat → Prop} (hK : va_K D vwCl tys s) (is : List Nat) (hty : is.filterMap (fun i => tys[i]?) = tys') (hP : va_P D vwCl (wi ++ wr) H) (hD : va_D A (wi ++ wr)) (hS : va_S A s.heap H locs) (hA : ∀ q, s.heap.size ≤ q → A q) (hE : tExA A s) (h0 : wi[q0]? = some (b, .inr (ci, fs))) (hc : vwCl[ci]? = some q) (hC : q.1 = C) : PreV s H C b (va_Pc (.ref b :: As) (gU D tys' wi (tEx wi) H.size)) As :=
  g_preV (tEx_g wi) hK is hty hP hD (fun U hU hW => tEx_w hE hD hS hA hU hW) h0 hc hC
end HC
end
section
/-! pure words of what the class's calls answer -/
def plA (σ : St) (s : Int) : Int := bI (σ 4 s = -1 ∧ 5 ≤ σ 8 (tw s))
def feA (σ : St) (s : Int) : Int := bI (¬ σ 4 s = -1 ∧ 6 ≤ σ 8 (tw s))
def grA (σ : St) (s so : Int) : Int := bI (¬ σ 4 s = -1 ∧ ¬ σ 4 s = so ∧ 1 ≤ σ 5 s ∧ 4 ≤ σ 8 (tw s))
def prA (σ : St) (s c : Int) : Int := bI (¬ σ 4 s = -1 ∧ c ≤ σ 5 s ∧ 2 ≤ σ 8 (tw s))
def who (a b : Int) : Int := (if a = 0 then 0 else 1) + (if b = 0 then 0 else 2)
theorem bIr {P : Prop} [Decidable P] : -2147483648 ≤ bI P ∧ bI P ≤ 2147483647 := bI_R P
theorem plA_r (σ : St) (s : Int) : -2147483648 ≤ plA σ s ∧ plA σ s ≤ 2147483647 := bI_R _
theorem feA_r (σ : St) (s : Int) : -2147483648 ≤ feA σ s ∧ feA σ s ≤ 2147483647 := bI_R _
theorem grA_r (σ : St) (s so : Int) : -2147483648 ≤ grA σ s so ∧ grA σ s so ≤ 2147483647 := bI_R _
theorem prA_r (σ : St) (s c : Int) : -2147483648 ≤ prA σ s c ∧ prA σ s c ≤ 2147483647 := bI_R _
theorem xWF_plant {σ : St} (h : xWF σ) {s so v : Int} (hs : 0 ≤ so ∧ so ≤ 5) (hv : 1 ≤ v ∧ v ≤ 9) : xWF (xPlant σ s so v) := by
  unfold xPlant
  split
  · rename_i g
    exact xWF_s7 (xWF_s6 (xWF_s5 (xWF_s4 (xWF_sp h (by decide) g.2) (by omega)) (by decide)) (by omega)) (by decide)
  · exact h
theorem xWF_prune {σ : St} (h : xWF σ) {s c : Int} (hc : 1 ≤ c) : xWF (xPrune σ s c) := by
  unfold xPrune
  split
  · rename_i g
    have k5 := xWF_5 h s
    exact xWF_s7 (xWF_s5 (xWF_sp h (by decide) g.2.2) (by omega)) (by decide)
  · exact h
theorem xWF_graft {σ : St} (h : xWF σ) {s so : Int} (hs : 0 ≤ so ∧ so ≤ 5) : xWF (xGraft σ s so) := by
  unfold xGraft
  split
  · rename_i g
    have k5 := xWF_5 h s
    exact xWF_s5 (xWF_s4 (xWF_sp h (by decide) g.2.2.2) (by omega)) (by omega)
  · exact h
theorem xWF_fell {σ : St} (h : xWF σ) {s : Int} : xWF (xFell σ s) := by
  unfold xFell
  split
  · rename_i g
    exact xWF_s7 (xWF_s6 (xWF_s5 (xWF_s4 (xWF_sp h (by decide) g.2) (by decide)) (by decide)) (by decide)) (by decide)
  · exact h
-- what is thrown: 0 nothing, else the number of the exception that comes first
def tSetSort (a w b : Int) : Int := if ¬ (0 ≤ a ∧ a ≤ 5) then 1 else if ¬ ((1 ≤ w ∧ w ≤ 9) ∧ 0 ≤ b ∧ b ≤ 9) then 2 else 0
def tSetFrost (a b : Int) : Int := if ¬ (0 ≤ a ∧ a ≤ 9) then 1 else if ¬ (0 ≤ b ∧ b ≤ 9) then 2 else 0
def tPlant (r p so v : Int) : Int := if ¬ ((0 ≤ r ∧ r ≤ 4) ∧ 0 ≤ p ∧ p ≤ 7) then 1 else if ¬ ((0 ≤ so ∧ so ≤ 5) ∧ 1 ≤ v ∧ v ≤ 9) then 2 else 0
def tPrune (r p c : Int) : Int := if ¬ ((0 ≤ r ∧ r ≤ 4) ∧ 0 ≤ p ∧ p ≤ 7) then 1 else if ¬ (1 ≤ c ∧ c ≤ 9) then 2 else 0
def tGraft (r p so : Int) : Int := if ¬ ((0 ≤ r ∧ r ≤ 4) ∧ 0 ≤ p ∧ p ≤ 7) then 1 else if ¬ (0 ≤ so ∧ so ≤ 5) then 2 else 0
def tFell (r p : Int) : Int := if ¬ ((0 ≤ r ∧ r ≤ 4) ∧ 0 ≤ p ∧ p ≤ 7) then 1 else 0
def tTree (r p w : Int) : Int := if ¬ (((0 ≤ r ∧ r ≤ 4) ∧ 0 ≤ p ∧ p ≤ 7) ∧ 0 ≤ w ∧ w ≤ 5) then 1 else 0
def tSort (a w : Int) : Int := if ¬ ((0 ≤ a ∧ a ≤ 5) ∧ 0 ≤ w ∧ w ≤ 3) then 1 else 0
def tCount (w : Int) : Int := if ¬ (0 ≤ w ∧ w ≤ 7) then 1 else 0
def tLeans (r : Int) : Int := if ¬ (0 ≤ r ∧ r ≤ 4) then 1 else 0
def tCarry (σ : St) (a x y : Int) : Int := if ¬ (0 ≤ a ∧ a ≤ 5) then 1 else if ¬ ((0 ≤ x ∧ x ≤ 200) ∧ (0 ≤ y ∧ y ≤ 200) ∧ ¬ x + y = 0) then 2 else if ¬ (x + y ≤ σ 2 a) then 3 else 0
def tPass (y : Int) : Int := if ¬ (1 ≤ y ∧ y ≤ 30) then 1 else 0
def tForesee (y w : Int) : Int := if ¬ (1 ≤ y ∧ y ≤ 30) then 1 else if ¬ (0 ≤ w ∧ w ≤ 2) then 2 else 0
def tAdvise (y : Int) : Int := if ¬ (1 ≤ y ∧ y ≤ 6) then 1 else 0
def xSetSort (σ : St) (a w b : Int) : St := su (su σ 0 a w) 1 a b
def xTree (σ : St) (s w : Int) : Int := if w = 0 then bI (¬ σ 4 s = -1) else if w = 1 then σ 5 s else if w = 2 then σ 6 s else if w = 3 then σ 4 s else if w = 4 then bI (¬ σ 7 s = 0) else apx σ s
def xSort (σ : St) (a w : Int) : Int := if w = 0 then σ 0 a else if w = 1 then σ 1 a else if w = 2 then σ 2 a else isumI (fun j => bI (σ 4 j = a)) 40
def xCount (σ : St) (w : Int) : Int := if w = 0 then σ 9 0 else if w = 1 then σ 8 0 else if w = 2 then σ 8 1 else if w = 3 then isumI (fun j => bI (¬ σ 4 j = -1)) 40 else if w = 4 then isumI (fun j => bI (¬ σ 7 j = 0)) 40 else if w = 5 then isumI (σ 2) 6 else if w = 6 then isumI (fun j => σ 2 j * σ 0 j) 6 else isumI (fun r => isumI (fun q => upr σ r q) 4) 5
def xLeans (σ : St) (r : Int) : Int := isumI (fun q => apx σ (r * 8 + q) - apx σ (mir (r * 8 + q))) 4
def xCarry (σ : St) (a x y : Int) : St := su (su σ 2 a (σ 2 a - (x + y))) 9 1 (σ 9 1 + (x - y) * σ 0 a)
section TS
variable {p : Program} {l : Launch} {e : Env} {R : Room} {s : State} {m : MethodId} {args : Array Value} {below : List Frame} {meth : Method} {c : Code} {H : Heap} {locs : List Loc} {cells slots : Nat} {Q : State → Prop}
variable {cc : ByteArray} {pc : Nat} {ls : Array Slot} {rest : List Value}
theorem gi_tableIn (hx : p.tables.exec = Jvm.exec) (hb : c.code = cc) {dflt lo hi : Int} {offs : Array Int} {len : Nat} {z off : Int} {tgt : Nat} (hdg : decode cc pc = .ok (.tableswitch dflt lo hi offs, len)) (rz : inR z) (k : Int) (hz : z = k) (h1 : lo ≤ k) (h2 : k ≤ hi) (ho : offs[(k - lo).toNat]? = some off) (ht : (pc : Int) + off = (tgt : Int))
    (kk : W p l e R s m args below meth c H locs cells slots Q (F0 m tgt ls rest)) : W p l e R s m args below meth c H locs cells slots Q (F0 m pc ls (.int (iI z) :: rest)) := by
  have h3 : (iI z).toInt = k := by rw [iI_toInt rz.1 rz.2, hz]
  exact lv_tableIn hx hb hdg (by rw [h3]; omega) (by rw [h3]; omega) (by rw [h3]; exact ho) ht kk
theorem gi_tableOut (hx : p.tables.exec = Jvm.exec) (hb : c.code = cc) {dflt lo hi : Int} {offs : Array Int} {len : Nat} {z : Int} {tgt : Nat} (hdg : decode cc pc = .ok (.tableswitch dflt lo hi offs, len)) (rz : inR z) (hz : z < lo ∨ hi < z) (ht : (pc : Int) + dflt = (tgt : Int))
    (kk : W p l e R s m args below meth c H locs cells slots Q (F0 m tgt ls rest)) : W p l e R s m args below meth c H locs cells slots Q (F0 m pc ls (.int (iI z) :: rest)) :=
  lv_tableOut hx hb hdg (by rw [iI_toInt rz.1 rz.2]; exact hz) ht kk
end TS
end
