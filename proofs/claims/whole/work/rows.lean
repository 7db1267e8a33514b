section
-- ===== PART A: goes FIRST, ahead of the names: the tables' words, and 'selects' of the private methods out of them =====
/-- a private method of a class that the tables say can be made, by its rows of tables_1 -/
def lw_okq (q : MethodName × Nat) : Prop := (q.1.cls ≠ "java/lang/invoke/MethodHandle" ∧ q.1.cls ≠ "java/lang/invoke/VarHandle") ∧ Cond.instantiable q.1.cls q.2 ∈ tables_1 ∧ Cond.privateMethod q.1 ∈ tables_1 ∧ Cond.instanceMethod q.1 ∈ tables_1
theorem lw_p0 : lw_okq (⟨"BackMarch", "isMother", "(I)Z"⟩, 10) := ⟨⟨by decide +kernel, by decide +kernel⟩, List.mem_of_getElem? (i := 14) (by decide +kernel), List.mem_of_getElem? (i := 389) (by decide +kernel), List.mem_of_getElem? (i := 390) (by decide +kernel)⟩
theorem lw_p1 : lw_okq (⟨"BackMarch", "isRegiment", "(I)Z"⟩, 10) := ⟨⟨by decide +kernel, by decide +kernel⟩, List.mem_of_getElem? (i := 14) (by decide +kernel), List.mem_of_getElem? (i := 409) (by decide +kernel), List.mem_of_getElem? (i := 410) (by decide +kernel)⟩
theorem lw_p2 : lw_okq (⟨"BackMarch", "cellIfWaved", "(IIII)I"⟩, 10) := ⟨⟨by decide +kernel, by decide +kernel⟩, List.mem_of_getElem? (i := 14) (by decide +kernel), List.mem_of_getElem? (i := 552) (by decide +kernel), List.mem_of_getElem? (i := 553) (by decide +kernel)⟩
theorem lw_p3 : lw_okq (⟨"BackMarch", "fallsIfDealt", "(II)I"⟩, 10) := ⟨⟨by decide +kernel, by decide +kernel⟩, List.mem_of_getElem? (i := 14) (by decide +kernel), List.mem_of_getElem? (i := 560) (by decide +kernel), List.mem_of_getElem? (i := 561) (by decide +kernel)⟩
theorem lw_p4 : lw_okq (⟨"BackMarch", "waysToSleep", "(II)I"⟩, 10) := ⟨⟨by decide +kernel, by decide +kernel⟩, List.mem_of_getElem? (i := 14) (by decide +kernel), List.mem_of_getElem? (i := 568) (by decide +kernel), List.mem_of_getElem? (i := 569) (by decide +kernel)⟩
theorem lw_p5 : lw_okq (⟨"BackMarch", "mindable", "(I)I"⟩, 10) := ⟨⟨by decide +kernel, by decide +kernel⟩, List.mem_of_getElem? (i := 14) (by decide +kernel), List.mem_of_getElem? (i := 598) (by decide +kernel), List.mem_of_getElem? (i := 599) (by decide +kernel)⟩
theorem lw_p6 : lw_okq (⟨"BackMarch", "fitsWatched", "(II)Z"⟩, 10) := ⟨⟨by decide +kernel, by decide +kernel⟩, List.mem_of_getElem? (i := 14) (by decide +kernel), List.mem_of_getElem? (i := 602) (by decide +kernel), List.mem_of_getElem? (i := 603) (by decide +kernel)⟩
theorem lw_p7 : lw_okq (⟨"BackMarch", "track", "(II)V"⟩, 10) := ⟨⟨by decide +kernel, by decide +kernel⟩, List.mem_of_getElem? (i := 14) (by decide +kernel), List.mem_of_getElem? (i := 615) (by decide +kernel), List.mem_of_getElem? (i := 616) (by decide +kernel)⟩
theorem lw_p8 : lw_okq (⟨"BackMarch", "greatestCrowd", "(II)I"⟩, 10) := ⟨⟨by decide +kernel, by decide +kernel⟩, List.mem_of_getElem? (i := 14) (by decide +kernel), List.mem_of_getElem? (i := 623) (by decide +kernel), List.mem_of_getElem? (i := 624) (by decide +kernel)⟩
theorem lw_p9 : lw_okq (⟨"BackMarch", "crowdAt", "(III)I"⟩, 10) := ⟨⟨by decide +kernel, by decide +kernel⟩, List.mem_of_getElem? (i := 14) (by decide +kernel), List.mem_of_getElem? (i := 628) (by decide +kernel), List.mem_of_getElem? (i := 629) (by decide +kernel)⟩
theorem lw_p10 : lw_okq (⟨"BackMarch", "rateFoot", "(I)I"⟩, 10) := ⟨⟨by decide +kernel, by decide +kernel⟩, List.mem_of_getElem? (i := 14) (by decide +kernel), List.mem_of_getElem? (i := 637) (by decide +kernel), List.mem_of_getElem? (i := 638) (by decide +kernel)⟩
theorem lw_p11 : lw_okq (⟨"BackMarch", "rateHussars", "(I)I"⟩, 10) := ⟨⟨by decide +kernel, by decide +kernel⟩, List.mem_of_getElem? (i := 14) (by decide +kernel), List.mem_of_getElem? (i := 643) (by decide +kernel), List.mem_of_getElem? (i := 644) (by decide +kernel)⟩
theorem lw_p12 : lw_okq (⟨"BackMarch", "rateGuards", "(I)I"⟩, 10) := ⟨⟨by decide +kernel, by decide +kernel⟩, List.mem_of_getElem? (i := 14) (by decide +kernel), List.mem_of_getElem? (i := 653) (by decide +kernel), List.mem_of_getElem? (i := 654) (by decide +kernel)⟩
theorem lw_p13 : lw_okq (⟨"BackMarch", "rateLancers", "(I)I"⟩, 10) := ⟨⟨by decide +kernel, by decide +kernel⟩, List.mem_of_getElem? (i := 14) (by decide +kernel), List.mem_of_getElem? (i := 658) (by decide +kernel), List.mem_of_getElem? (i := 659) (by decide +kernel)⟩
theorem lw_p14 : lw_okq (⟨"BackMarch", "rateScouts", "(I)I"⟩, 10) := ⟨⟨by decide +kernel, by decide +kernel⟩, List.mem_of_getElem? (i := 14) (by decide +kernel), List.mem_of_getElem? (i := 663) (by decide +kernel), List.mem_of_getElem? (i := 664) (by decide +kernel)⟩
theorem lw_p15 : lw_okq (⟨"BackMarch", "rateBand", "(I)I"⟩, 10) := ⟨⟨by decide +kernel, by decide +kernel⟩, List.mem_of_getElem? (i := 14) (by decide +kernel), List.mem_of_getElem? (i := 668) (by decide +kernel), List.mem_of_getElem? (i := 669) (by decide +kernel)⟩
def lw_privs_1 : List (MethodName × Nat) := [(⟨"BackMarch", "isMother", "(I)Z"⟩, 10), (⟨"BackMarch", "isRegiment", "(I)Z"⟩, 10), (⟨"BackMarch", "cellIfWaved", "(IIII)I"⟩, 10), (⟨"BackMarch", "fallsIfDealt", "(II)I"⟩, 10), (⟨"BackMarch", "waysToSleep", "(II)I"⟩, 10), (⟨"BackMarch", "mindable", "(I)I"⟩, 10), (⟨"BackMarch", "fitsWatched", "(II)Z"⟩, 10), (⟨"BackMarch", "track", "(II)V"⟩, 10), (⟨"BackMarch", "greatestCrowd", "(II)I"⟩, 10), (⟨"BackMarch", "crowdAt", "(III)I"⟩, 10), (⟨"BackMarch", "rateFoot", "(I)I"⟩, 10), (⟨"BackMarch", "rateHussars", "(I)I"⟩, 10), (⟨"BackMarch", "rateGuards", "(I)I"⟩, 10), (⟨"BackMarch", "rateLancers", "(I)I"⟩, 10), (⟨"BackMarch", "rateScouts", "(I)I"⟩, 10), (⟨"BackMarch", "rateBand", "(I)I"⟩, 10)]
theorem lw_r1 : ∀ q ∈ lw_privs_1, lw_okq q := List.forall_mem_cons.mpr ⟨lw_p0, List.forall_mem_cons.mpr ⟨lw_p1, List.forall_mem_cons.mpr ⟨lw_p2, List.forall_mem_cons.mpr ⟨lw_p3, List.forall_mem_cons.mpr ⟨lw_p4, List.forall_mem_cons.mpr ⟨lw_p5, List.forall_mem_cons.mpr ⟨lw_p6, List.forall_mem_cons.mpr ⟨lw_p7, List.forall_mem_cons.mpr ⟨lw_p8, List.forall_mem_cons.mpr ⟨lw_p9, List.forall_mem_cons.mpr ⟨lw_p10, List.forall_mem_cons.mpr ⟨lw_p11, List.forall_mem_cons.mpr ⟨lw_p12, List.forall_mem_cons.mpr ⟨lw_p13, List.forall_mem_cons.mpr ⟨lw_p14, List.forall_mem_cons.mpr ⟨lw_p15, fun _ h => absurd h List.not_mem_nil⟩⟩⟩⟩⟩⟩⟩⟩⟩⟩⟩⟩⟩⟩⟩⟩
theorem lw_p16 : lw_okq (⟨"BackMarchModel", "empty", "()V"⟩, 21) := ⟨⟨by decide +kernel, by decide +kernel⟩, List.mem_of_getElem? (i := 699) (by decide +kernel), List.mem_of_getElem? (i := 705) (by decide +kernel), List.mem_of_getElem? (i := 706) (by decide +kernel)⟩
theorem lw_p17 : lw_okq (⟨"BackMarchModel", "begin", "()V"⟩, 21) := ⟨⟨by decide +kernel, by decide +kernel⟩, List.mem_of_getElem? (i := 699) (by decide +kernel), List.mem_of_getElem? (i := 709) (by decide +kernel), List.mem_of_getElem? (i := 710) (by decide +kernel)⟩
theorem lw_p18 : lw_okq (⟨"BackMarchModel", "know", "(I)V"⟩, 21) := ⟨⟨by decide +kernel, by decide +kernel⟩, List.mem_of_getElem? (i := 699) (by decide +kernel), List.mem_of_getElem? (i := 713) (by decide +kernel), List.mem_of_getElem? (i := 714) (by decide +kernel)⟩
theorem lw_p19 : lw_okq (⟨"BackMarchModel", "take", "()V"⟩, 21) := ⟨⟨by decide +kernel, by decide +kernel⟩, List.mem_of_getElem? (i := 699) (by decide +kernel), List.mem_of_getElem? (i := 717) (by decide +kernel), List.mem_of_getElem? (i := 718) (by decide +kernel)⟩
theorem lw_p20 : lw_okq (⟨"BackMarchModel", "next", "()Z"⟩, 21) := ⟨⟨by decide +kernel, by decide +kernel⟩, List.mem_of_getElem? (i := 699) (by decide +kernel), List.mem_of_getElem? (i := 800) (by decide +kernel), List.mem_of_getElem? (i := 801) (by decide +kernel)⟩
theorem lw_p21 : lw_okq (⟨"BackMarchModel", "item", "(I)Z"⟩, 21) := ⟨⟨by decide +kernel, by decide +kernel⟩, List.mem_of_getElem? (i := 699) (by decide +kernel), List.mem_of_getElem? (i := 804) (by decide +kernel), List.mem_of_getElem? (i := 805) (by decide +kernel)⟩
theorem lw_p22 : lw_okq (⟨"BackMarchModel", "landItem", "(I)Z"⟩, 21) := ⟨⟨by decide +kernel, by decide +kernel⟩, List.mem_of_getElem? (i := 699) (by decide +kernel), List.mem_of_getElem? (i := 808) (by decide +kernel), List.mem_of_getElem? (i := 809) (by decide +kernel)⟩
theorem lw_p23 : lw_okq (⟨"BackMarchModel", "numberIn", "(II)Z"⟩, 21) := ⟨⟨by decide +kernel, by decide +kernel⟩, List.mem_of_getElem? (i := 699) (by decide +kernel), List.mem_of_getElem? (i := 812) (by decide +kernel), List.mem_of_getElem? (i := 813) (by decide +kernel)⟩
theorem lw_p24 : lw_okq (⟨"BackMarchModel", "ends", "()Z"⟩, 21) := ⟨⟨by decide +kernel, by decide +kernel⟩, List.mem_of_getElem? (i := 699) (by decide +kernel), List.mem_of_getElem? (i := 816) (by decide +kernel), List.mem_of_getElem? (i := 817) (by decide +kernel)⟩
theorem lw_p25 : lw_okq (⟨"BackMarchModel", "cellItem", "()Z"⟩, 21) := ⟨⟨by decide +kernel, by decide +kernel⟩, List.mem_of_getElem? (i := 699) (by decide +kernel), List.mem_of_getElem? (i := 820) (by decide +kernel), List.mem_of_getElem? (i := 821) (by decide +kernel)⟩
theorem lw_p26 : lw_okq (⟨"BackMarchModel", "cellRead", "()Z"⟩, 21) := ⟨⟨by decide +kernel, by decide +kernel⟩, List.mem_of_getElem? (i := 699) (by decide +kernel), List.mem_of_getElem? (i := 824) (by decide +kernel), List.mem_of_getElem? (i := 825) (by decide +kernel)⟩
theorem lw_p27 : lw_okq (⟨"BackMarchModel", "motherItem", "()Z"⟩, 21) := ⟨⟨by decide +kernel, by decide +kernel⟩, List.mem_of_getElem? (i := 699) (by decide +kernel), List.mem_of_getElem? (i := 828) (by decide +kernel), List.mem_of_getElem? (i := 829) (by decide +kernel)⟩
theorem lw_p28 : lw_okq (⟨"BackMarchModel", "regimentItem", "()Z"⟩, 21) := ⟨⟨by decide +kernel, by decide +kernel⟩, List.mem_of_getElem? (i := 699) (by decide +kernel), List.mem_of_getElem? (i := 832) (by decide +kernel), List.mem_of_getElem? (i := 833) (by decide +kernel)⟩
theorem lw_p29 : lw_okq (⟨"BackMarchModel", "isCell", "(I)Z"⟩, 21) := ⟨⟨by decide +kernel, by decide +kernel⟩, List.mem_of_getElem? (i := 699) (by decide +kernel), List.mem_of_getElem? (i := 840) (by decide +kernel), List.mem_of_getElem? (i := 841) (by decide +kernel)⟩
theorem lw_p30 : lw_okq (⟨"BackMarchModel", "whatIs", "(I)I"⟩, 21) := ⟨⟨by decide +kernel, by decide +kernel⟩, List.mem_of_getElem? (i := 699) (by decide +kernel), List.mem_of_getElem? (i := 847) (by decide +kernel), List.mem_of_getElem? (i := 848) (by decide +kernel)⟩
theorem lw_p31 : lw_okq (⟨"BackMarchModel", "isMother", "(I)Z"⟩, 21) := ⟨⟨by decide +kernel, by decide +kernel⟩, List.mem_of_getElem? (i := 699) (by decide +kernel), List.mem_of_getElem? (i := 855) (by decide +kernel), List.mem_of_getElem? (i := 856) (by decide +kernel)⟩
def lw_privs_2 : List (MethodName × Nat) := [(⟨"BackMarchModel", "empty", "()V"⟩, 21), (⟨"BackMarchModel", "begin", "()V"⟩, 21), (⟨"BackMarchModel", "know", "(I)V"⟩, 21), (⟨"BackMarchModel", "take", "()V"⟩, 21), (⟨"BackMarchModel", "next", "()Z"⟩, 21), (⟨"BackMarchModel", "item", "(I)Z"⟩, 21), (⟨"BackMarchModel", "landItem", "(I)Z"⟩, 21), (⟨"BackMarchModel", "numberIn", "(II)Z"⟩, 21), (⟨"BackMarchModel", "ends", "()Z"⟩, 21), (⟨"BackMarchModel", "cellItem", "()Z"⟩, 21), (⟨"BackMarchModel", "cellRead", "()Z"⟩, 21), (⟨"BackMarchModel", "motherItem", "()Z"⟩, 21), (⟨"BackMarchModel", "regimentItem", "()Z"⟩, 21), (⟨"BackMarchModel", "isCell", "(I)Z"⟩, 21), (⟨"BackMarchModel", "whatIs", "(I)I"⟩, 21), (⟨"BackMarchModel", "isMother", "(I)Z"⟩, 21)]
theorem lw_r2 : ∀ q ∈ lw_privs_2, lw_okq q := List.forall_mem_cons.mpr ⟨lw_p16, List.forall_mem_cons.mpr ⟨lw_p17, List.forall_mem_cons.mpr ⟨lw_p18, List.forall_mem_cons.mpr ⟨lw_p19, List.forall_mem_cons.mpr ⟨lw_p20, List.forall_mem_cons.mpr ⟨lw_p21, List.forall_mem_cons.mpr ⟨lw_p22, List.forall_mem_cons.mpr ⟨lw_p23, List.forall_mem_cons.mpr ⟨lw_p24, List.forall_mem_cons.mpr ⟨lw_p25, List.forall_mem_cons.mpr ⟨lw_p26, List.forall_mem_cons.mpr ⟨lw_p27, List.forall_mem_cons.mpr ⟨lw_p28, List.forall_mem_cons.mpr ⟨lw_p29, List.forall_mem_cons.mpr ⟨lw_p30, List.forall_mem_cons.mpr ⟨lw_p31, fun _ h => absurd h List.not_mem_nil⟩⟩⟩⟩⟩⟩⟩⟩⟩⟩⟩⟩⟩⟩⟩⟩
theorem lw_p32 : lw_okq (⟨"BackMarchModel", "isRegiment", "(I)Z"⟩, 21) := ⟨⟨by decide +kernel, by decide +kernel⟩, List.mem_of_getElem? (i := 699) (by decide +kernel), List.mem_of_getElem? (i := 866) (by decide +kernel), List.mem_of_getElem? (i := 867) (by decide +kernel)⟩
theorem lw_p33 : lw_okq (⟨"BackMarchModel", "knownMany", "()I"⟩, 21) := ⟨⟨by decide +kernel, by decide +kernel⟩, List.mem_of_getElem? (i := 699) (by decide +kernel), List.mem_of_getElem? (i := 874) (by decide +kernel), List.mem_of_getElem? (i := 875) (by decide +kernel)⟩
theorem lw_p34 : lw_okq (⟨"BackMarchModel", "note", "()V"⟩, 21) := ⟨⟨by decide +kernel, by decide +kernel⟩, List.mem_of_getElem? (i := 699) (by decide +kernel), List.mem_of_getElem? (i := 885) (by decide +kernel), List.mem_of_getElem? (i := 886) (by decide +kernel)⟩
theorem lw_p35 : lw_okq (⟨"BackMarchModel", "aside", "()V"⟩, 21) := ⟨⟨by decide +kernel, by decide +kernel⟩, List.mem_of_getElem? (i := 699) (by decide +kernel), List.mem_of_getElem? (i := 889) (by decide +kernel), List.mem_of_getElem? (i := 890) (by decide +kernel)⟩
theorem lw_p36 : lw_okq (⟨"BackMarchModel", "goStep", "()I"⟩, 21) := ⟨⟨by decide +kernel, by decide +kernel⟩, List.mem_of_getElem? (i := 699) (by decide +kernel), List.mem_of_getElem? (i := 893) (by decide +kernel), List.mem_of_getElem? (i := 894) (by decide +kernel)⟩
theorem lw_p37 : lw_okq (⟨"BackMarchModel", "goOne", "(I)Z"⟩, 21) := ⟨⟨by decide +kernel, by decide +kernel⟩, List.mem_of_getElem? (i := 699) (by decide +kernel), List.mem_of_getElem? (i := 897) (by decide +kernel), List.mem_of_getElem? (i := 898) (by decide +kernel)⟩
theorem lw_p38 : lw_okq (⟨"BackMarchModel", "beside", "(II)I"⟩, 21) := ⟨⟨by decide +kernel, by decide +kernel⟩, List.mem_of_getElem? (i := 699) (by decide +kernel), List.mem_of_getElem? (i := 907) (by decide +kernel), List.mem_of_getElem? (i := 908) (by decide +kernel)⟩
theorem lw_p39 : lw_okq (⟨"BackMarchModel", "at", "(II)I"⟩, 21) := ⟨⟨by decide +kernel, by decide +kernel⟩, List.mem_of_getElem? (i := 699) (by decide +kernel), List.mem_of_getElem? (i := 911) (by decide +kernel), List.mem_of_getElem? (i := 912) (by decide +kernel)⟩
theorem lw_p40 : lw_okq (⟨"BackMarchModel", "isFree", "(I)Z"⟩, 21) := ⟨⟨by decide +kernel, by decide +kernel⟩, List.mem_of_getElem? (i := 699) (by decide +kernel), List.mem_of_getElem? (i := 915) (by decide +kernel), List.mem_of_getElem? (i := 916) (by decide +kernel)⟩
theorem lw_p41 : lw_okq (⟨"BackMarchModel", "goTo", "(II)V"⟩, 21) := ⟨⟨by decide +kernel, by decide +kernel⟩, List.mem_of_getElem? (i := 699) (by decide +kernel), List.mem_of_getElem? (i := 919) (by decide +kernel), List.mem_of_getElem? (i := 920) (by decide +kernel)⟩
theorem lw_p42 : lw_okq (⟨"BackMarchModel", "isClear", "(I)Z"⟩, 21) := ⟨⟨by decide +kernel, by decide +kernel⟩, List.mem_of_getElem? (i := 699) (by decide +kernel), List.mem_of_getElem? (i := 923) (by decide +kernel), List.mem_of_getElem? (i := 924) (by decide +kernel)⟩
theorem lw_p43 : lw_okq (⟨"BackMarchModel", "goSteps", "(I)V"⟩, 21) := ⟨⟨by decide +kernel, by decide +kernel⟩, List.mem_of_getElem? (i := 699) (by decide +kernel), List.mem_of_getElem? (i := 951) (by decide +kernel), List.mem_of_getElem? (i := 952) (by decide +kernel)⟩
theorem lw_p44 : lw_okq (⟨"BackMarchModel", "facedBy", "(I)I"⟩, 21) := ⟨⟨by decide +kernel, by decide +kernel⟩, List.mem_of_getElem? (i := 699) (by decide +kernel), List.mem_of_getElem? (i := 987) (by decide +kernel), List.mem_of_getElem? (i := 988) (by decide +kernel)⟩
theorem lw_p45 : lw_okq (⟨"BackMarchModel", "greatest", "(III)I"⟩, 21) := ⟨⟨by decide +kernel, by decide +kernel⟩, List.mem_of_getElem? (i := 699) (by decide +kernel), List.mem_of_getElem? (i := 995) (by decide +kernel), List.mem_of_getElem? (i := 996) (by decide +kernel)⟩
theorem lw_p46 : lw_okq (⟨"BackMarchModel", "foot", "(I)I"⟩, 21) := ⟨⟨by decide +kernel, by decide +kernel⟩, List.mem_of_getElem? (i := 699) (by decide +kernel), List.mem_of_getElem? (i := 1004) (by decide +kernel), List.mem_of_getElem? (i := 1005) (by decide +kernel)⟩
theorem lw_p47 : lw_okq (⟨"BackMarchModel", "hussars", "(I)I"⟩, 21) := ⟨⟨by decide +kernel, by decide +kernel⟩, List.mem_of_getElem? (i := 699) (by decide +kernel), List.mem_of_getElem? (i := 1008) (by decide +kernel), List.mem_of_getElem? (i := 1009) (by decide +kernel)⟩
def lw_privs_3 : List (MethodName × Nat) := [(⟨"BackMarchModel", "isRegiment", "(I)Z"⟩, 21), (⟨"BackMarchModel", "knownMany", "()I"⟩, 21), (⟨"BackMarchModel", "note", "()V"⟩, 21), (⟨"BackMarchModel", "aside", "()V"⟩, 21), (⟨"BackMarchModel", "goStep", "()I"⟩, 21), (⟨"BackMarchModel", "goOne", "(I)Z"⟩, 21), (⟨"BackMarchModel", "beside", "(II)I"⟩, 21), (⟨"BackMarchModel", "at", "(II)I"⟩, 21), (⟨"BackMarchModel", "isFree", "(I)Z"⟩, 21), (⟨"BackMarchModel", "goTo", "(II)V"⟩, 21), (⟨"BackMarchModel", "isClear", "(I)Z"⟩, 21), (⟨"BackMarchModel", "goSteps", "(I)V"⟩, 21), (⟨"BackMarchModel", "facedBy", "(I)I"⟩, 21), (⟨"BackMarchModel", "greatest", "(III)I"⟩, 21), (⟨"BackMarchModel", "foot", "(I)I"⟩, 21), (⟨"BackMarchModel", "hussars", "(I)I"⟩, 21)]
theorem lw_r3 : ∀ q ∈ lw_privs_3, lw_okq q := List.forall_mem_cons.mpr ⟨lw_p32, List.forall_mem_cons.mpr ⟨lw_p33, List.forall_mem_cons.mpr ⟨lw_p34, List.forall_mem_cons.mpr ⟨lw_p35, List.forall_mem_cons.mpr ⟨lw_p36, List.forall_mem_cons.mpr ⟨lw_p37, List.forall_mem_cons.mpr ⟨lw_p38, List.forall_mem_cons.mpr ⟨lw_p39, List.forall_mem_cons.mpr ⟨lw_p40, List.forall_mem_cons.mpr ⟨lw_p41, List.forall_mem_cons.mpr ⟨lw_p42, List.forall_mem_cons.mpr ⟨lw_p43, List.forall_mem_cons.mpr ⟨lw_p44, List.forall_mem_cons.mpr ⟨lw_p45, List.forall_mem_cons.mpr ⟨lw_p46, List.forall_mem_cons.mpr ⟨lw_p47, fun _ h => absurd h List.not_mem_nil⟩⟩⟩⟩⟩⟩⟩⟩⟩⟩⟩⟩⟩⟩⟩⟩
theorem lw_p48 : lw_okq (⟨"BackMarchModel", "guards", "(I)I"⟩, 21) := ⟨⟨by decide +kernel, by decide +kernel⟩, List.mem_of_getElem? (i := 699) (by decide +kernel), List.mem_of_getElem? (i := 1013) (by decide +kernel), List.mem_of_getElem? (i := 1014) (by decide +kernel)⟩
def lw_privs_4 : List (MethodName × Nat) := [(⟨"BackMarchModel", "guards", "(I)I"⟩, 21)]
theorem lw_r4 : ∀ q ∈ lw_privs_4, lw_okq q := List.forall_mem_cons.mpr ⟨lw_p48, fun _ h => absurd h List.not_mem_nil⟩
def lw_privs : List (MethodName × Nat) := lw_privs_1 ++ (lw_privs_2 ++ (lw_privs_3 ++ (lw_privs_4)))
def lw_tbl : List Cond := k2_sels lw_privs ++ tables_1
theorem lw_privs_ok : ∀ q ∈ lw_privs, lw_okq q := by
  show ∀ q ∈ lw_privs_1 ++ (lw_privs_2 ++ (lw_privs_3 ++ (lw_privs_4))), lw_okq q
  exact List.forall_mem_append.mpr ⟨lw_r1, List.forall_mem_append.mpr ⟨lw_r2, List.forall_mem_append.mpr ⟨lw_r3, lw_r4⟩⟩⟩
-- ===== end of PART A; then your names; then what follows =====
end
section
/-! ===== BEGIN words of one list among another's, by their places ===== -/
theorem goodIn_r {big : List Cond} (ws : List Cond) (ps : List Nat) (hp : ws = ps.filterMap (fun i => big[i]?)) (h : ws.all goodWord = true) : GoodIn big ws := by
  intro w hw
  have h1 := List.all_eq_true.mp h w hw
  rw [hp] at hw
  obtain ⟨i, -, hi⟩ := List.mem_filterMap.mp hw
  have hm : w ∈ big := by first | exact List.mem_of_getElem? hi | exact List.getElem?_mem hi
  exact ⟨hm, good_of_word h1⟩
theorem goodIn_app {big a b : List Cond} (ha : GoodIn big a) (hb : GoodIn big b) : GoodIn big (a ++ b) := fun w h => (List.mem_append.mp h).elim (ha w) (hb w)
theorem goodIn_ca {big a b : List Cond} {c : Cond} (ha : GoodIn big (c :: a)) (hb : GoodIn big b) : GoodIn big (c :: (a ++ b)) := fun w h => (List.mem_cons.mp h).elim (fun e => ha w (List.mem_cons.mpr (Or.inl e))) (fun h => (List.mem_append.mp h).elim (fun h => ha w (List.mem_cons.mpr (Or.inr h))) (hb w))
theorem goodIn_sub {big ws : List Cond} (hm : ∀ w ∈ ws, w ∈ big) (h : ws.all goodWord = true) : GoodIn big ws := fun w hw => ⟨hm w hw, good_of_word (List.all_eq_true.mp h w hw)⟩
/-! ===== END ===== -/

/-! ===== BEGIN printed: names, fields, word lists, decode rows ===== -/
def RX0 : String := "BackMarch$History"
def TX0 : u_T := fun k => match k with
  | 0 => ("BackMarch$History", "marches", "[LBackMarch$March;", true)
  | 1 => ("BackMarch$History", "next", "I", false)
  | _ => ("BackMarch$History", "count", "I", false)
def tyX0 : Nat → FieldType := fun k => match k with
  | 0 => .array (.object "BackMarch$March")
  | 1 => .int
  | _ => .int
abbrev wsX00 : List Cond := u_ws RX0 TX0 3
theorem nmX0 : ∀ a, a < 3 → ∀ b, b < 3 → a ≠ b → (TX0 a).2.1 ≠ (TX0 b).2.1 := by decide +kernel
theorem tyX0_ok : ∀ k, k < 3 → parseFieldDescriptor (TX0 k).2.2.1 = some (tyX0 k) := by decide +kernel
abbrev cX0_init : ByteArray := prog_2_method_1_code
def yX0_init : MethodName := ⟨RX0, "<init>", "(LBackMarch$Land;)V"⟩
abbrev cX0_empty : ByteArray := prog_2_method_2_code
def yX0_empty : MethodName := ⟨RX0, "empty", "()V"⟩
abbrev cX0_push : ByteArray := prog_2_method_3_code
def yX0_push : MethodName := ⟨RX0, "push", "(LBackMarch$March;)V"⟩
abbrev cX0_pop : ByteArray := prog_2_method_4_code
def yX0_pop : MethodName := ⟨RX0, "pop", "(LBackMarch$March;)Z"⟩
def RX1 : String := "BackMarch$Images"
def TX1 : u_T := fun k => match k with
  | 0 => ("BackMarch$Images", "marches", "[LBackMarch$March;", true)
  | _ => ("BackMarch$Images", "kept", "I", false)
def tyX1 : Nat → FieldType := fun k => match k with
  | 0 => .array (.object "BackMarch$March")
  | _ => .int
abbrev wsX10 : List Cond := u_ws RX1 TX1 2
theorem nmX1 : ∀ a, a < 2 → ∀ b, b < 2 → a ≠ b → (TX1 a).2.1 ≠ (TX1 b).2.1 := by decide +kernel
theorem tyX1_ok : ∀ k, k < 2 → parseFieldDescriptor (TX1 k).2.2.1 = some (tyX1 k) := by decide +kernel
abbrev cX1_init : ByteArray := prog_3_method_1_code
def yX1_init : MethodName := ⟨RX1, "<init>", "(LBackMarch$Land;)V"⟩
abbrev cX1_empty : ByteArray := prog_3_method_2_code
def yX1_empty : MethodName := ⟨RX1, "empty", "()V"⟩
abbrev cX1_keepAs : ByteArray := prog_3_method_3_code
def yX1_keepAs : MethodName := ⟨RX1, "keepAs", "(ILBackMarch$March;)Z"⟩
abbrev cX1_bringBack : ByteArray := prog_3_method_4_code
def yX1_bringBack : MethodName := ⟨RX1, "bringBack", "(ILBackMarch$March;)Z"⟩
def RX2 : String := "BackMarch$Land"
def TX2 : u_T := fun k => match k with
  | 0 => ("BackMarch$Land", "wide", "I", false)
  | 1 => ("BackMarch$Land", "high", "I", false)
  | 2 => ("BackMarch$Land", "folds", "J", false)
  | 3 => ("BackMarch$Land", "walls", "J", false)
  | 4 => ("BackMarch$Land", "mothers", "I", false)
  | _ => ("BackMarch$Land", "regiments", "I", false)
def tyX2 : Nat → FieldType := fun k => match k with
  | 0 => .int
  | 1 => .int
  | 2 => .long
  | 3 => .long
  | 4 => .int
  | _ => .int
abbrev wsX20 : List Cond := u_ws RX2 TX2 6
theorem nmX2 : ∀ a, a < 6 → ∀ b, b < 6 → a ≠ b → (TX2 a).2.1 ≠ (TX2 b).2.1 := by decide +kernel
theorem tyX2_ok : ∀ k, k < 6 → parseFieldDescriptor (TX2 k).2.2.1 = some (tyX2 k) := by decide +kernel
abbrev cX2_init : ByteArray := prog_4_method_1_code
def yX2_init : MethodName := ⟨RX2, "<init>", "()V"⟩
abbrev cX2_reset : ByteArray := prog_4_method_2_code
def yX2_reset : MethodName := ⟨RX2, "reset", "()V"⟩
abbrev cX2_copyFrom : ByteArray := prog_4_method_3_code
def yX2_copyFrom : MethodName := ⟨RX2, "copyFrom", "(LBackMarch$Land;)V"⟩
abbrev cX2_has : ByteArray := prog_4_method_4_code
def yX2_has : MethodName := ⟨RX2, "has", "(I)Z"⟩
abbrev cX2_maskOf : ByteArray := prog_4_method_5_code
def yX2_maskOf : MethodName := ⟨RX2, "maskOf", "(I)J"⟩
abbrev cX2_isFold : ByteArray := prog_4_method_6_code
def yX2_isFold : MethodName := ⟨RX2, "isFold", "(I)Z"⟩
abbrev cX2_isOpen : ByteArray := prog_4_method_7_code
def yX2_isOpen : MethodName := ⟨RX2, "isOpen", "(I)Z"⟩
abbrev cX2_kindOf : ByteArray := prog_4_method_8_code
def yX2_kindOf : MethodName := ⟨RX2, "kindOf", "(I)I"⟩
abbrev cX2_make : ByteArray := prog_4_method_9_code
def yX2_make : MethodName := ⟨RX2, "make", "(II)V"⟩
abbrev cX2_beside : ByteArray := prog_4_method_10_code
def yX2_beside : MethodName := ⟨RX2, "beside", "(II)I"⟩
def RX3 : String := "BackMarch$March"
def TX3 : u_T := fun k => match k with
  | 0 => ("BackMarch$March", "ground", "LBackMarch$Land;", true)
  | 1 => ("BackMarch$March", "motherCells", "[I", true)
  | 2 => ("BackMarch$March", "regimentCells", "[I", true)
  | 3 => ("BackMarch$March", "minded", "[I", true)
  | 4 => ("BackMarch$March", "mirrors", "I", false)
  | 5 => ("BackMarch$March", "down", "I", false)
  | _ => ("BackMarch$March", "known", "J", false)
def tyX3 : Nat → FieldType := fun k => match k with
  | 0 => .object "BackMarch$Land"
  | 1 => .array .int
  | 2 => .array .int
  | 3 => .array .int
  | 4 => .int
  | 5 => .int
  | _ => .long
abbrev wsX30 : List Cond := u_ws RX3 TX3 7
theorem nmX3 : ∀ a, a < 7 → ∀ b, b < 7 → a ≠ b → (TX3 a).2.1 ≠ (TX3 b).2.1 := by decide +kernel
theorem tyX3_ok : ∀ k, k < 7 → parseFieldDescriptor (TX3 k).2.2.1 = some (tyX3 k) := by decide +kernel
abbrev cX3_init : ByteArray := prog_5_method_1_code
def yX3_init : MethodName := ⟨RX3, "<init>", "(LBackMarch$Land;)V"⟩
abbrev cX3_reset : ByteArray := prog_5_method_2_code
def yX3_reset : MethodName := ⟨RX3, "reset", "()V"⟩
abbrev cX3_copyFrom : ByteArray := prog_5_method_3_code
def yX3_copyFrom : MethodName := ⟨RX3, "copyFrom", "(LBackMarch$March;)V"⟩
abbrev cX3_motherCell : ByteArray := prog_5_method_4_code
def yX3_motherCell : MethodName := ⟨RX3, "motherCell", "(I)I"⟩
abbrev cX3_regimentCell : ByteArray := prog_5_method_5_code
def yX3_regimentCell : MethodName := ⟨RX3, "regimentCell", "(I)I"⟩
abbrev cX3_mindedBy : ByteArray := prog_5_method_6_code
def yX3_mindedBy : MethodName := ⟨RX3, "mindedBy", "(I)I"⟩
abbrev cX3_putMother : ByteArray := prog_5_method_7_code
def yX3_putMother : MethodName := ⟨RX3, "putMother", "(II)V"⟩
abbrev cX3_mind : ByteArray := prog_5_method_8_code
def yX3_mind : MethodName := ⟨RX3, "mind", "(II)V"⟩
abbrev cX3_knownCells : ByteArray := prog_5_method_9_code
def yX3_knownCells : MethodName := ⟨RX3, "knownCells", "()I"⟩
abbrev cX3_knows : ByteArray := prog_5_method_10_code
def yX3_knows : MethodName := ⟨RX3, "knows", "(I)I"⟩
abbrev cX3_regimentsAt : ByteArray := prog_5_method_11_code
def yX3_regimentsAt : MethodName := ⟨RX3, "regimentsAt", "(I)I"⟩
abbrev cX3_mindersOf : ByteArray := prog_5_method_12_code
def yX3_mindersOf : MethodName := ⟨RX3, "mindersOf", "(I)I"⟩
abbrev cX3_distanceToMinded : ByteArray := prog_5_method_13_code
def yX3_distanceToMinded : MethodName := ⟨RX3, "distanceToMinded", "(I)I"⟩
abbrev cX3_mayEnter : ByteArray := prog_5_method_14_code
def yX3_mayEnter : MethodName := ⟨RX3, "mayEnter", "(IZ)Z"⟩
abbrev cX3_settle : ByteArray := prog_5_method_15_code
def yX3_settle : MethodName := ⟨RX3, "settle", "(II)V"⟩
abbrev cX3_enter : ByteArray := prog_5_method_16_code
def yX3_enter : MethodName := ⟨RX3, "enter", "(II)V"⟩
abbrev cX3_advanceBy : ByteArray := prog_5_method_17_code
def yX3_advanceBy : MethodName := ⟨RX3, "advanceBy", "(I)I"⟩
abbrev cX3_advance : ByteArray := prog_5_method_18_code
def yX3_advance : MethodName := ⟨RX3, "advance", "()I"⟩
abbrev cX3_goalOf : ByteArray := prog_5_method_19_code
def yX3_goalOf : MethodName := ⟨RX3, "goalOf", "(I)I"⟩
abbrev cX3_sideAway : ByteArray := prog_5_method_20_code
def yX3_sideAway : MethodName := ⟨RX3, "sideAway", "(I)I"⟩
def RX4 : String := "BackMarch$Reader"
def TX4 : u_T := fun k => match k with
  | 0 => ("BackMarch$Reader", "text", "LBackMarch$Text;", true)
  | 1 => ("BackMarch$Reader", "ground", "LBackMarch$Land;", true)
  | 2 => ("BackMarch$Reader", "march", "LBackMarch$March;", true)
  | _ => ("BackMarch$Reader", "numbers", "[I", true)
def tyX4 : Nat → FieldType := fun k => match k with
  | 0 => .object "BackMarch$Text"
  | 1 => .object "BackMarch$Land"
  | 2 => .object "BackMarch$March"
  | _ => .array .int
abbrev wsX40 : List Cond := u_ws RX4 TX4 4
theorem nmX4 : ∀ a, a < 4 → ∀ b, b < 4 → a ≠ b → (TX4 a).2.1 ≠ (TX4 b).2.1 := by decide +kernel
theorem tyX4_ok : ∀ k, k < 4 → parseFieldDescriptor (TX4 k).2.2.1 = some (tyX4 k) := by decide +kernel
abbrev cX4_init : ByteArray := prog_6_method_1_code
def yX4_init : MethodName := ⟨RX4, "<init>", "(LBackMarch$Text;)V"⟩
abbrev cX4_readAll : ByteArray := prog_6_method_2_code
def yX4_readAll : MethodName := ⟨RX4, "readAll", "()I"⟩
abbrev cX4_mayBegin : ByteArray := prog_6_method_3_code
def yX4_mayBegin : MethodName := ⟨RX4, "mayBegin", "(II)Z"⟩
abbrev cX4_readItem : ByteArray := prog_6_method_4_code
def yX4_readItem : MethodName := ⟨RX4, "readItem", "(I)Z"⟩
abbrev cX4_mayStand : ByteArray := prog_6_method_5_code
def yX4_mayStand : MethodName := ⟨RX4, "mayStand", "(III)Z"⟩
abbrev cX4_take : ByteArray := prog_6_method_6_code
def yX4_take : MethodName := ⟨RX4, "take", "(IIII)V"⟩
def RX5 : String := "BackMarch$Text"
def TX5 : u_T := fun k => match k with
  | 0 => ("BackMarch$Text", "letters", "[I", true)
  | 1 => ("BackMarch$Text", "length", "I", false)
  | 2 => ("BackMarch$Text", "at", "I", false)
  | 3 => ("BackMarch$Text", "place", "I", false)
  | 4 => ("BackMarch$Text", "kind", "I", false)
  | _ => ("BackMarch$Text", "value", "I", false)
def tyX5 : Nat → FieldType := fun k => match k with
  | 0 => .array .int
  | 1 => .int
  | 2 => .int
  | 3 => .int
  | 4 => .int
  | _ => .int
abbrev wsX50 : List Cond := u_ws RX5 TX5 6
theorem nmX5 : ∀ a, a < 6 → ∀ b, b < 6 → a ≠ b → (TX5 a).2.1 ≠ (TX5 b).2.1 := by decide +kernel
theorem tyX5_ok : ∀ k, k < 6 → parseFieldDescriptor (TX5 k).2.2.1 = some (tyX5 k) := by decide +kernel
abbrev cX5_init : ByteArray := prog_7_method_1_code
def yX5_init : MethodName := ⟨RX5, "<init>", "()V"⟩
abbrev cX5_empty : ByteArray := prog_7_method_2_code
def yX5_empty : MethodName := ⟨RX5, "empty", "()V"⟩
abbrev cX5_append : ByteArray := prog_7_method_3_code
def yX5_append : MethodName := ⟨RX5, "append", "(I)Z"⟩
abbrev cX5_rewind : ByteArray := prog_7_method_4_code
def yX5_rewind : MethodName := ⟨RX5, "rewind", "()V"⟩
abbrev cX5_letterAt : ByteArray := prog_7_method_5_code
def yX5_letterAt : MethodName := ⟨RX5, "letterAt", "(I)I"⟩
abbrev cX5_readToken : ByteArray := prog_7_method_6_code
def yX5_readToken : MethodName := ⟨RX5, "readToken", "()V"⟩
abbrev cX5_readDigits : ByteArray := prog_7_method_7_code
def yX5_readDigits : MethodName := ⟨RX5, "readDigits", "()V"⟩
abbrev cX5_isDigit : ByteArray := prog_7_method_8_code
def yX5_isDigit : MethodName := ⟨RX5, "isDigit", "(I)Z"⟩
abbrev cX5_isSign : ByteArray := prog_7_method_9_code
def yX5_isSign : MethodName := ⟨RX5, "isSign", "(I)Z"⟩
def RX6 : String := "BackMarch$Watches"
def TX6 : u_T := fun k => match k with
  | 0 => ("BackMarch$Watches", "regiments", "[I", true)
  | 1 => ("BackMarch$Watches", "steps", "[I", true)
  | 2 => ("BackMarch$Watches", "cells", "[I", true)
  | _ => ("BackMarch$Watches", "count", "I", false)
def tyX6 : Nat → FieldType := fun k => match k with
  | 0 => .array .int
  | 1 => .array .int
  | 2 => .array .int
  | _ => .int
abbrev wsX60 : List Cond := u_ws RX6 TX6 4
theorem nmX6 : ∀ a, a < 4 → ∀ b, b < 4 → a ≠ b → (TX6 a).2.1 ≠ (TX6 b).2.1 := by decide +kernel
theorem tyX6_ok : ∀ k, k < 4 → parseFieldDescriptor (TX6 k).2.2.1 = some (tyX6 k) := by decide +kernel
abbrev cX6_init : ByteArray := prog_8_method_1_code
def yX6_init : MethodName := ⟨RX6, "<init>", "()V"⟩
abbrev cX6_empty : ByteArray := prog_8_method_2_code
def yX6_empty : MethodName := ⟨RX6, "empty", "()V"⟩
abbrev cX6_add : ByteArray := prog_8_method_3_code
def yX6_add : MethodName := ⟨RX6, "add", "(III)Z"⟩
abbrev cX6_allows : ByteArray := prog_8_method_4_code
def yX6_allows : MethodName := ⟨RX6, "allows", "(III)Z"⟩
def RX7 : String := "BackMarch"
def TX7 : u_T := fun k => match k with
  | 0 => ("BackMarch", "text", "LBackMarch$Text;", true)
  | 1 => ("BackMarch", "reader", "LBackMarch$Reader;", true)
  | 2 => ("BackMarch", "ground", "LBackMarch$Land;", true)
  | 3 => ("BackMarch", "present", "LBackMarch$March;", true)
  | 4 => ("BackMarch", "foretold", "LBackMarch$March;", true)
  | 5 => ("BackMarch", "history", "LBackMarch$History;", true)
  | 6 => ("BackMarch", "images", "LBackMarch$Images;", true)
  | 7 => ("BackMarch", "watched", "LBackMarch$Watches;", true)
  | 8 => ("BackMarch", "tracks", "[I", true)
  | _ => ("BackMarch", "asked", "J", false)
def tyX7 : Nat → FieldType := fun k => match k with
  | 0 => .object "BackMarch$Text"
  | 1 => .object "BackMarch$Reader"
  | 2 => .object "BackMarch$Land"
  | 3 => .object "BackMarch$March"
  | 4 => .object "BackMarch$March"
  | 5 => .object "BackMarch$History"
  | 6 => .object "BackMarch$Images"
  | 7 => .object "BackMarch$Watches"
  | 8 => .array .int
  | _ => .long
abbrev wsX70 : List Cond := u_ws RX7 TX7 10
theorem nmX7 : ∀ a, a < 10 → ∀ b, b < 10 → a ≠ b → (TX7 a).2.1 ≠ (TX7 b).2.1 := by decide +kernel
theorem tyX7_ok : ∀ k, k < 10 → parseFieldDescriptor (TX7 k).2.2.1 = some (tyX7 k) := by decide +kernel
abbrev cX7_init : ByteArray := prog_1_method_1_code
def yX7_init : MethodName := ⟨RX7, "<init>", "()V"⟩
abbrev cX7_type : ByteArray := prog_1_method_2_code
def yX7_type : MethodName := ⟨RX7, "type", "(I)I"⟩
abbrev cX7_clear : ByteArray := prog_1_method_3_code
def yX7_clear : MethodName := ⟨RX7, "clear", "()I"⟩
abbrev cX7_land : ByteArray := prog_1_method_4_code
def yX7_land : MethodName := ⟨RX7, "land", "()I"⟩
abbrev cX7_cell : ByteArray := prog_1_method_5_code
def yX7_cell : MethodName := ⟨RX7, "cell", "(II)I"⟩
abbrev cX7_mother : ByteArray := prog_1_method_6_code
def yX7_mother : MethodName := ⟨RX7, "mother", "(II)I"⟩
abbrev cX7_regiment : ByteArray := prog_1_method_7_code
def yX7_regiment : MethodName := ⟨RX7, "regiment", "(II)I"⟩
abbrev cX7_now : ByteArray := prog_1_method_8_code
def yX7_now : MethodName := ⟨RX7, "now", "(I)I"⟩
abbrev cX7_step : ByteArray := prog_1_method_9_code
def yX7_step : MethodName := ⟨RX7, "step", "()I"⟩
abbrev cX7_walks : ByteArray := prog_1_method_10_code
def yX7_walks : MethodName := ⟨RX7, "walks", "(II)I"⟩
abbrev cX7_seesOff : ByteArray := prog_1_method_11_code
def yX7_seesOff : MethodName := ⟨RX7, "seesOff", "(II)I"⟩
abbrev cX7_deals : ByteArray := prog_1_method_12_code
def yX7_deals : MethodName := ⟨RX7, "deals", "(II)I"⟩
abbrev cX7_leads : ByteArray := prog_1_method_13_code
def yX7_leads : MethodName := ⟨RX7, "leads", "(II)I"⟩
abbrev cX7_undo : ByteArray := prog_1_method_14_code
def yX7_undo : MethodName := ⟨RX7, "undo", "()I"⟩
abbrev cX7_where : ByteArray := prog_1_method_15_code
def yX7_where : MethodName := ⟨RX7, "where", "(II)I"⟩
abbrev cX7_falls : ByteArray := prog_1_method_16_code
def yX7_falls : MethodName := ⟨RX7, "falls", "(I)I"⟩
abbrev cX7_comes : ByteArray := prog_1_method_17_code
def yX7_comes : MethodName := ⟨RX7, "comes", "(II)I"⟩
abbrev cX7_wave : ByteArray := prog_1_method_18_code
def yX7_wave : MethodName := ⟨RX7, "wave", "(III)I"⟩
abbrev cX7_deal : ByteArray := prog_1_method_19_code
def yX7_deal : MethodName := ⟨RX7, "deal", "(II)I"⟩
abbrev cX7_odds : ByteArray := prog_1_method_20_code
def yX7_odds : MethodName := ⟨RX7, "odds", "(III)I"⟩
abbrev cX7_watches : ByteArray := prog_1_method_21_code
def yX7_watches : MethodName := ⟨RX7, "watches", "(III)I"⟩
abbrev cX7_forget : ByteArray := prog_1_method_22_code
def yX7_forget : MethodName := ⟨RX7, "forget", "()I"⟩
abbrev cX7_faced : ByteArray := prog_1_method_23_code
def yX7_faced : MethodName := ⟨RX7, "faced", "(I)I"⟩
abbrev cX7_look : ByteArray := prog_1_method_24_code
def yX7_look : MethodName := ⟨RX7, "look", "(I)I"⟩
abbrev cX7_rate : ByteArray := prog_1_method_25_code
def yX7_rate : MethodName := ⟨RX7, "rate", "(II)I"⟩
abbrev cX7_keep : ByteArray := prog_1_method_26_code
def yX7_keep : MethodName := ⟨RX7, "keep", "(I)I"⟩
abbrev cX7_back : ByteArray := prog_1_method_27_code
def yX7_back : MethodName := ⟨RX7, "back", "(I)I"⟩
abbrev cX7_count : ByteArray := prog_1_method_28_code
def yX7_count : MethodName := ⟨RX7, "count", "(I)I"⟩
abbrev cX7_trace : ByteArray := prog_1_method_29_code
def yX7_trace : MethodName := ⟨RX7, "trace", "()J"⟩
abbrev cX7_isMother : ByteArray := prog_1_method_30_code
def yX7_isMother : MethodName := ⟨RX7, "isMother", "(I)Z"⟩
abbrev cX7_isRegiment : ByteArray := prog_1_method_31_code
def yX7_isRegiment : MethodName := ⟨RX7, "isRegiment", "(I)Z"⟩
abbrev cX7_isSide : ByteArray := prog_1_method_32_code
def yX7_isSide : MethodName := ⟨RX7, "isSide", "(I)Z"⟩
abbrev cX7_toldMother : ByteArray := prog_1_method_33_code
def yX7_toldMother : MethodName := ⟨RX7, "toldMother", "(I)I"⟩
abbrev cX7_bitOf : ByteArray := prog_1_method_34_code
def yX7_bitOf : MethodName := ⟨RX7, "bitOf", "(II)I"⟩
abbrev cX7_cellAt : ByteArray := prog_1_method_35_code
def yX7_cellAt : MethodName := ⟨RX7, "cellAt", "(II)I"⟩
abbrev cX7_xOf : ByteArray := prog_1_method_36_code
def yX7_xOf : MethodName := ⟨RX7, "xOf", "(I)I"⟩
abbrev cX7_yOf : ByteArray := prog_1_method_37_code
def yX7_yOf : MethodName := ⟨RX7, "yOf", "(I)I"⟩
abbrev cX7_elementOf : ByteArray := prog_1_method_38_code
def yX7_elementOf : MethodName := ⟨RX7, "elementOf", "([II)I"⟩
abbrev cX7_setElement : ByteArray := prog_1_method_39_code
def yX7_setElement : MethodName := ⟨RX7, "setElement", "([III)V"⟩
abbrev cX7_cellIfWaved : ByteArray := prog_1_method_40_code
def yX7_cellIfWaved : MethodName := ⟨RX7, "cellIfWaved", "(IIII)I"⟩
abbrev cX7_fallsIfDealt : ByteArray := prog_1_method_41_code
def yX7_fallsIfDealt : MethodName := ⟨RX7, "fallsIfDealt", "(II)I"⟩
abbrev cX7_waysToSleep : ByteArray := prog_1_method_42_code
def yX7_waysToSleep : MethodName := ⟨RX7, "waysToSleep", "(II)I"⟩
abbrev cX7_power : ByteArray := prog_1_method_43_code
def yX7_power : MethodName := ⟨RX7, "power", "(II)I"⟩
abbrev cX7_greatestDivisor : ByteArray := prog_1_method_44_code
def yX7_greatestDivisor : MethodName := ⟨RX7, "greatestDivisor", "(II)I"⟩
abbrev cX7_mindable : ByteArray := prog_1_method_45_code
def yX7_mindable : MethodName := ⟨RX7, "mindable", "(I)I"⟩
abbrev cX7_fitsWatched : ByteArray := prog_1_method_46_code
def yX7_fitsWatched : MethodName := ⟨RX7, "fitsWatched", "(II)Z"⟩
abbrev cX7_trackPlace : ByteArray := prog_1_method_47_code
def yX7_trackPlace : MethodName := ⟨RX7, "trackPlace", "(II)I"⟩
abbrev cX7_track : ByteArray := prog_1_method_48_code
def yX7_track : MethodName := ⟨RX7, "track", "(II)V"⟩
abbrev cX7_greatestCrowd : ByteArray := prog_1_method_49_code
def yX7_greatestCrowd : MethodName := ⟨RX7, "greatestCrowd", "(II)I"⟩
abbrev cX7_crowdAt : ByteArray := prog_1_method_50_code
def yX7_crowdAt : MethodName := ⟨RX7, "crowdAt", "(III)I"⟩
abbrev cX7_rateFoot : ByteArray := prog_1_method_51_code
def yX7_rateFoot : MethodName := ⟨RX7, "rateFoot", "(I)I"⟩
abbrev cX7_rateHussars : ByteArray := prog_1_method_52_code
def yX7_rateHussars : MethodName := ⟨RX7, "rateHussars", "(I)I"⟩
abbrev cX7_rateGuards : ByteArray := prog_1_method_53_code
def yX7_rateGuards : MethodName := ⟨RX7, "rateGuards", "(I)I"⟩
abbrev cX7_rateLancers : ByteArray := prog_1_method_54_code
def yX7_rateLancers : MethodName := ⟨RX7, "rateLancers", "(I)I"⟩
abbrev cX7_rateScouts : ByteArray := prog_1_method_55_code
def yX7_rateScouts : MethodName := ⟨RX7, "rateScouts", "(I)I"⟩
abbrev cX7_rateBand : ByteArray := prog_1_method_56_code
def yX7_rateBand : MethodName := ⟨RX7, "rateBand", "(I)I"⟩
def RX8 : String := "BackMarchModel"
def TX8 : u_T := fun k => match k with
  | 0 => ("BackMarchModel", "length", "I", false)
  | 1 => ("BackMarchModel", "text", "[I", true)
  | 2 => ("BackMarchModel", "told", "[I", true)
  | 3 => ("BackMarchModel", "read", "[I", true)
  | 4 => ("BackMarchModel", "readRow", "[I", true)
  | 5 => ("BackMarchModel", "now", "[I", true)
  | 6 => ("BackMarchModel", "side", "[I", true)
  | 7 => ("BackMarchModel", "before", "[I", true)
  | 8 => ("BackMarchModel", "undoMany", "I", false)
  | 9 => ("BackMarchModel", "images", "[I", true)
  | 10 => ("BackMarchModel", "imaged", "I", false)
  | 11 => ("BackMarchModel", "watched", "[I", true)
  | 12 => ("BackMarchModel", "watchedMany", "I", false)
  | 13 => ("BackMarchModel", "trace", "J", false)
  | 14 => ("BackMarchModel", "spot", "I", false)
  | 15 => ("BackMarchModel", "begins", "I", false)
  | 16 => ("BackMarchModel", "token", "I", false)
  | 17 => ("BackMarchModel", "number", "I", false)
  | 18 => ("BackMarchModel", "cell", "I", false)
  | 19 => ("BackMarchModel", "fallen", "I", false)
  | _ => ("BackMarchModel", "would", "[I", true)
def tyX8 : Nat → FieldType := fun k => match k with
  | 0 => .int
  | 1 => .array .int
  | 2 => .array .int
  | 3 => .array .int
  | 4 => .array .int
  | 5 => .array .int
  | 6 => .array .int
  | 7 => .array .int
  | 8 => .int
  | 9 => .array .int
  | 10 => .int
  | 11 => .array .int
  | 12 => .int
  | 13 => .long
  | 14 => .int
  | 15 => .int
  | 16 => .int
  | 17 => .int
  | 18 => .int
  | 19 => .int
  | _ => .array .int
abbrev wsX80 : List Cond := u_ws RX8 TX8 21
theorem nmX8 : ∀ a, a < 21 → ∀ b, b < 21 → a ≠ b → (TX8 a).2.1 ≠ (TX8 b).2.1 := by decide +kernel
theorem tyX8_ok : ∀ k, k < 21 → parseFieldDescriptor (TX8 k).2.2.1 = some (tyX8 k) := by decide +kernel
abbrev cX8_init : ByteArray := prog_10_method_1_code
def yX8_init : MethodName := ⟨RX8, "<init>", "()V"⟩
abbrev cX8_in : ByteArray := prog_10_method_2_code
def yX8_in : MethodName := ⟨RX8, "in", "(III)Z"⟩
abbrev cX8_has : ByteArray := prog_10_method_3_code
def yX8_has : MethodName := ⟨RX8, "has", "(II)Z"⟩
abbrev cX8_ones : ByteArray := prog_10_method_4_code
def yX8_ones : MethodName := ⟨RX8, "ones", "(I)I"⟩
abbrev cX8_empty : ByteArray := prog_10_method_5_code
def yX8_empty : MethodName := ⟨RX8, "empty", "()V"⟩
abbrev cX8_begin : ByteArray := prog_10_method_6_code
def yX8_begin : MethodName := ⟨RX8, "begin", "()V"⟩
abbrev cX8_type : ByteArray := prog_10_method_7_code
def yX8_type : MethodName := ⟨RX8, "type", "(I)I"⟩
abbrev cX8_clear : ByteArray := prog_10_method_8_code
def yX8_clear : MethodName := ⟨RX8, "clear", "()I"⟩
abbrev cX8_next : ByteArray := prog_10_method_9_code
def yX8_next : MethodName := ⟨RX8, "next", "()Z"⟩
abbrev cX8_numberIn : ByteArray := prog_10_method_10_code
def yX8_numberIn : MethodName := ⟨RX8, "numberIn", "(II)Z"⟩
abbrev cX8_ends : ByteArray := prog_10_method_11_code
def yX8_ends : MethodName := ⟨RX8, "ends", "()Z"⟩
abbrev cX8_landItem : ByteArray := prog_10_method_12_code
def yX8_landItem : MethodName := ⟨RX8, "landItem", "(I)Z"⟩
abbrev cX8_cellRead : ByteArray := prog_10_method_13_code
def yX8_cellRead : MethodName := ⟨RX8, "cellRead", "()Z"⟩
abbrev cX8_cellItem : ByteArray := prog_10_method_14_code
def yX8_cellItem : MethodName := ⟨RX8, "cellItem", "()Z"⟩
abbrev cX8_motherItem : ByteArray := prog_10_method_15_code
def yX8_motherItem : MethodName := ⟨RX8, "motherItem", "()Z"⟩
abbrev cX8_regimentItem : ByteArray := prog_10_method_16_code
def yX8_regimentItem : MethodName := ⟨RX8, "regimentItem", "()Z"⟩
abbrev cX8_item : ByteArray := prog_10_method_17_code
def yX8_item : MethodName := ⟨RX8, "item", "(I)Z"⟩
abbrev cX8_land : ByteArray := prog_10_method_18_code
def yX8_land : MethodName := ⟨RX8, "land", "()I"⟩
abbrev cX8_tens : ByteArray := prog_10_method_19_code
def yX8_tens : MethodName := ⟨RX8, "tens", "(I)I"⟩
abbrev cX8_isCell : ByteArray := prog_10_method_20_code
def yX8_isCell : MethodName := ⟨RX8, "isCell", "(I)Z"⟩
abbrev cX8_eights : ByteArray := prog_10_method_21_code
def yX8_eights : MethodName := ⟨RX8, "eights", "(I)I"⟩
abbrev cX8_at : ByteArray := prog_10_method_22_code
def yX8_at : MethodName := ⟨RX8, "at", "(II)I"⟩
abbrev cX8_beside : ByteArray := prog_10_method_23_code
def yX8_beside : MethodName := ⟨RX8, "beside", "(II)I"⟩
abbrev cX8_whatIs : ByteArray := prog_10_method_24_code
def yX8_whatIs : MethodName := ⟨RX8, "whatIs", "(I)I"⟩
abbrev cX8_isRegiment : ByteArray := prog_10_method_25_code
def yX8_isRegiment : MethodName := ⟨RX8, "isRegiment", "(I)Z"⟩
abbrev cX8_isMother : ByteArray := prog_10_method_26_code
def yX8_isMother : MethodName := ⟨RX8, "isMother", "(I)Z"⟩
abbrev cX8_aside : ByteArray := prog_10_method_27_code
def yX8_aside : MethodName := ⟨RX8, "aside", "()V"⟩
abbrev cX8_take : ByteArray := prog_10_method_28_code
def yX8_take : MethodName := ⟨RX8, "take", "()V"⟩
abbrev cX8_know : ByteArray := prog_10_method_29_code
def yX8_know : MethodName := ⟨RX8, "know", "(I)V"⟩
abbrev cX8_isFree : ByteArray := prog_10_method_30_code
def yX8_isFree : MethodName := ⟨RX8, "isFree", "(I)Z"⟩
abbrev cX8_isClear : ByteArray := prog_10_method_31_code
def yX8_isClear : MethodName := ⟨RX8, "isClear", "(I)Z"⟩
abbrev cX8_goTo : ByteArray := prog_10_method_32_code
def yX8_goTo : MethodName := ⟨RX8, "goTo", "(II)V"⟩
abbrev cX8_size : ByteArray := prog_10_method_33_code
def yX8_size : MethodName := ⟨RX8, "size", "(I)I"⟩
abbrev cX8_goOne : ByteArray := prog_10_method_34_code
def yX8_goOne : MethodName := ⟨RX8, "goOne", "(I)Z"⟩
abbrev cX8_goStep : ByteArray := prog_10_method_35_code
def yX8_goStep : MethodName := ⟨RX8, "goStep", "()I"⟩
abbrev cX8_goSteps : ByteArray := prog_10_method_36_code
def yX8_goSteps : MethodName := ⟨RX8, "goSteps", "(I)V"⟩
abbrev cX8_knownMany : ByteArray := prog_10_method_37_code
def yX8_knownMany : MethodName := ⟨RX8, "knownMany", "()I"⟩
abbrev cX8_cell : ByteArray := prog_10_method_38_code
def yX8_cell : MethodName := ⟨RX8, "cell", "(II)I"⟩
abbrev cX8_mother : ByteArray := prog_10_method_39_code
def yX8_mother : MethodName := ⟨RX8, "mother", "(II)I"⟩
abbrev cX8_regiment : ByteArray := prog_10_method_40_code
def yX8_regiment : MethodName := ⟨RX8, "regiment", "(II)I"⟩
abbrev cX8_now : ByteArray := prog_10_method_41_code
def yX8_now : MethodName := ⟨RX8, "now", "(I)I"⟩
abbrev cX8_note : ByteArray := prog_10_method_42_code
def yX8_note : MethodName := ⟨RX8, "note", "()V"⟩
abbrev cX8_step : ByteArray := prog_10_method_43_code
def yX8_step : MethodName := ⟨RX8, "step", "()I"⟩
abbrev cX8_walks : ByteArray := prog_10_method_44_code
def yX8_walks : MethodName := ⟨RX8, "walks", "(II)I"⟩
abbrev cX8_seesOff : ByteArray := prog_10_method_45_code
def yX8_seesOff : MethodName := ⟨RX8, "seesOff", "(II)I"⟩
abbrev cX8_deals : ByteArray := prog_10_method_46_code
def yX8_deals : MethodName := ⟨RX8, "deals", "(II)I"⟩
abbrev cX8_leads : ByteArray := prog_10_method_47_code
def yX8_leads : MethodName := ⟨RX8, "leads", "(II)I"⟩
abbrev cX8_undo : ByteArray := prog_10_method_48_code
def yX8_undo : MethodName := ⟨RX8, "undo", "()I"⟩
abbrev cX8_where : ByteArray := prog_10_method_49_code
def yX8_where : MethodName := ⟨RX8, "where", "(II)I"⟩
abbrev cX8_falls : ByteArray := prog_10_method_50_code
def yX8_falls : MethodName := ⟨RX8, "falls", "(I)I"⟩
abbrev cX8_comes : ByteArray := prog_10_method_51_code
def yX8_comes : MethodName := ⟨RX8, "comes", "(II)I"⟩
abbrev cX8_wave : ByteArray := prog_10_method_52_code
def yX8_wave : MethodName := ⟨RX8, "wave", "(III)I"⟩
abbrev cX8_deal : ByteArray := prog_10_method_53_code
def yX8_deal : MethodName := ⟨RX8, "deal", "(II)I"⟩
abbrev cX8_odds : ByteArray := prog_10_method_54_code
def yX8_odds : MethodName := ⟨RX8, "odds", "(III)I"⟩
abbrev cX8_watches : ByteArray := prog_10_method_55_code
def yX8_watches : MethodName := ⟨RX8, "watches", "(III)I"⟩
abbrev cX8_forget : ByteArray := prog_10_method_56_code
def yX8_forget : MethodName := ⟨RX8, "forget", "()I"⟩
abbrev cX8_facedBy : ByteArray := prog_10_method_57_code
def yX8_facedBy : MethodName := ⟨RX8, "facedBy", "(I)I"⟩
abbrev cX8_faced : ByteArray := prog_10_method_58_code
def yX8_faced : MethodName := ⟨RX8, "faced", "(I)I"⟩
abbrev cX8_greatest : ByteArray := prog_10_method_59_code
def yX8_greatest : MethodName := ⟨RX8, "greatest", "(III)I"⟩
abbrev cX8_look : ByteArray := prog_10_method_60_code
def yX8_look : MethodName := ⟨RX8, "look", "(I)I"⟩
abbrev cX8_foot : ByteArray := prog_10_method_61_code
def yX8_foot : MethodName := ⟨RX8, "foot", "(I)I"⟩
abbrev cX8_hussars : ByteArray := prog_10_method_62_code
def yX8_hussars : MethodName := ⟨RX8, "hussars", "(I)I"⟩
abbrev cX8_guards : ByteArray := prog_10_method_63_code
def yX8_guards : MethodName := ⟨RX8, "guards", "(I)I"⟩
abbrev cX8_rate : ByteArray := prog_10_method_64_code
def yX8_rate : MethodName := ⟨RX8, "rate", "(II)I"⟩
abbrev cX8_keep : ByteArray := prog_10_method_65_code
def yX8_keep : MethodName := ⟨RX8, "keep", "(I)I"⟩
abbrev cX8_back : ByteArray := prog_10_method_66_code
def yX8_back : MethodName := ⟨RX8, "back", "(I)I"⟩
abbrev cX8_count : ByteArray := prog_10_method_67_code
def yX8_count : MethodName := ⟨RX8, "count", "(I)I"⟩
abbrev cX8_trace : ByteArray := prog_10_method_68_code
def yX8_trace : MethodName := ⟨RX8, "trace", "()J"⟩
def RJ6 : String := "java/lang/Integer"
def TJ6 : u_T := fun k => match k with
  | _ => ("", "", "", false)
def tyJ6 : Nat → FieldType := fun k => match k with
  | _ => .int
abbrev wsJ60 : List Cond := u_ws RJ6 TJ6 0
theorem nmJ6 : ∀ a, a < 0 → ∀ b, b < 0 → a ≠ b → (TJ6 a).2.1 ≠ (TJ6 b).2.1 := by decide +kernel
theorem tyJ6_ok : ∀ k, k < 0 → parseFieldDescriptor (TJ6 k).2.2.1 = some (tyJ6 k) := by decide +kernel
abbrev cJ6_bitCount_0f7a4 : ByteArray := prog_11_method_49_code
def yJ6_bitCount_0f7a4 : MethodName := ⟨RJ6, "bitCount", "(I)I"⟩
def RJ13 : String := "java/lang/Long"
def TJ13 : u_T := fun k => match k with
  | _ => ("", "", "", false)
def tyJ13 : Nat → FieldType := fun k => match k with
  | _ => .int
abbrev wsJ130 : List Cond := u_ws RJ13 TJ13 0
theorem nmJ13 : ∀ a, a < 0 → ∀ b, b < 0 → a ≠ b → (TJ13 a).2.1 ≠ (TJ13 b).2.1 := by decide +kernel
theorem tyJ13_ok : ∀ k, k < 0 → parseFieldDescriptor (TJ13 k).2.2.1 = some (tyJ13 k) := by decide +kernel
abbrev cJ13_bitCount_95d88 : ByteArray := prog_12_method_50_code
def yJ13_bitCount_95d88 : MethodName := ⟨RJ13, "bitCount", "(J)I"⟩
def RJ9 : String := "java/lang/Math"
def TJ9 : u_T := fun k => match k with
  | _ => ("", "", "", false)
def tyJ9 : Nat → FieldType := fun k => match k with
  | _ => .int
abbrev wsJ90 : List Cond := u_ws RJ9 TJ9 0
theorem nmJ9 : ∀ a, a < 0 → ∀ b, b < 0 → a ≠ b → (TJ9 a).2.1 ≠ (TJ9 b).2.1 := by decide +kernel
theorem tyJ9_ok : ∀ k, k < 0 → parseFieldDescriptor (TJ9 k).2.2.1 = some (tyJ9 k) := by decide +kernel
abbrev cJ9_abs_0f7a4 : ByteArray := prog_13_method_59_code
def yJ9_abs_0f7a4 : MethodName := ⟨RJ9, "abs", "(I)I"⟩
abbrev cJ9_max_7cf53 : ByteArray := prog_13_method_65_code
def yJ9_max_7cf53 : MethodName := ⟨RJ9, "max", "(II)I"⟩
abbrev cJ9_min_7cf53 : ByteArray := prog_13_method_69_code
def yJ9_min_7cf53 : MethodName := ⟨RJ9, "min", "(II)I"⟩
def RL : String := "BackMarchLaw"
abbrev cL_law : ByteArray := code
def yL_law : MethodName := ⟨RL, "law", "([I)Z"⟩
end
section
/-! THE TABLES OF THE PROGRAM: methods, calls, fields, constants, each with the place of its word in lw_tbl -/
def z_tbl : List Cond := lw_tbl.filter goodWord
theorem z_ws0 : ∀ w ∈ u_ws RX0 TX0 3, w ∈ z_tbl := fun w h => List.mem_filter.mpr ⟨(show ∀ w ∈ u_ws RX0 TX0 3, w ∈ lw_tbl by decide +kernel) w h, (show ∀ w ∈ u_ws RX0 TX0 3, goodWord w = true by decide +kernel) w h⟩
theorem z_ws1 : ∀ w ∈ u_ws RX1 TX1 2, w ∈ z_tbl := fun w h => List.mem_filter.mpr ⟨(show ∀ w ∈ u_ws RX1 TX1 2, w ∈ lw_tbl by decide +kernel) w h, (show ∀ w ∈ u_ws RX1 TX1 2, goodWord w = true by decide +kernel) w h⟩
theorem z_ws2 : ∀ w ∈ u_ws RX2 TX2 6, w ∈ z_tbl := fun w h => List.mem_filter.mpr ⟨(show ∀ w ∈ u_ws RX2 TX2 6, w ∈ lw_tbl by decide +kernel) w h, (show ∀ w ∈ u_ws RX2 TX2 6, goodWord w = true by decide +kernel) w h⟩
theorem z_ws3 : ∀ w ∈ u_ws RX3 TX3 7, w ∈ z_tbl := fun w h => List.mem_filter.mpr ⟨(show ∀ w ∈ u_ws RX3 TX3 7, w ∈ lw_tbl by decide +kernel) w h, (show ∀ w ∈ u_ws RX3 TX3 7, goodWord w = true by decide +kernel) w h⟩
theorem z_ws4 : ∀ w ∈ u_ws RX4 TX4 4, w ∈ z_tbl := fun w h => List.mem_filter.mpr ⟨(show ∀ w ∈ u_ws RX4 TX4 4, w ∈ lw_tbl by decide +kernel) w h, (show ∀ w ∈ u_ws RX4 TX4 4, goodWord w = true by decide +kernel) w h⟩
theorem z_ws5 : ∀ w ∈ u_ws RX5 TX5 6, w ∈ z_tbl := fun w h => List.mem_filter.mpr ⟨(show ∀ w ∈ u_ws RX5 TX5 6, w ∈ lw_tbl by decide +kernel) w h, (show ∀ w ∈ u_ws RX5 TX5 6, goodWord w = true by decide +kernel) w h⟩
theorem z_ws6 : ∀ w ∈ u_ws RX6 TX6 4, w ∈ z_tbl := fun w h => List.mem_filter.mpr ⟨(show ∀ w ∈ u_ws RX6 TX6 4, w ∈ lw_tbl by decide +kernel) w h, (show ∀ w ∈ u_ws RX6 TX6 4, goodWord w = true by decide +kernel) w h⟩
theorem z_ws7 : ∀ w ∈ u_ws RX7 TX7 10, w ∈ z_tbl := fun w h => List.mem_filter.mpr ⟨(show ∀ w ∈ u_ws RX7 TX7 10, w ∈ lw_tbl by decide +kernel) w h, (show ∀ w ∈ u_ws RX7 TX7 10, goodWord w = true by decide +kernel) w h⟩
theorem z_ws8 : ∀ w ∈ u_ws RX8 TX8 21, w ∈ z_tbl := fun w h => List.mem_filter.mpr ⟨(show ∀ w ∈ u_ws RX8 TX8 21, w ∈ lw_tbl by decide +kernel) w h, (show ∀ w ∈ u_ws RX8 TX8 21, goodWord w = true by decide +kernel) w h⟩
abbrev z_cl : List vw_C := [(RX0, TX0, 3), (RX1, TX1, 2), (RX2, TX2, 6), (RX3, TX3, 7), (RX4, TX4, 4), (RX5, TX5, 6), (RX6, TX6, 4), (RX7, TX7, 10), (RX8, TX8, 21)]
/-- a method: name, code, locals, type of the answer; its class, frames, locals of its room, cells, slots that it makes -/
abbrev z_M : Type := (MethodName × ByteArray × Nat × Option FieldType) × (Nat × Nat × Nat × Nat × Nat)
def z_MT : List z_M := [
  ((yL_law, cL_law, 4, ret), (9, 10, 388, 600000, 7302249)),
  ((yX0_init, cX0_init, 3, none), (0, 2, 42, 41, 200)),
  ((yX0_empty, cX0_empty, 1, none), (0, 0, 0, 0, 0)),
  ((yX0_push, cX0_push, 2, none), (0, 2, 44, 0, 0)),
  ((yX0_pop, cX0_pop, 3, some .boolean), (0, 2, 44, 0, 0)),
  ((yX1_init, cX1_init, 3, none), (1, 2, 42, 9, 40)),
  ((yX1_empty, cX1_empty, 1, none), (1, 0, 0, 0, 0)),
  ((yX1_keepAs, cX1_keepAs, 3, some .boolean), (1, 2, 44, 0, 0)),
  ((yX1_bringBack, cX1_bringBack, 3, some .boolean), (1, 2, 44, 0, 0)),
  ((yX2_init, cX2_init, 1, none), (2, 1, 21, 0, 0)),
  ((yX2_reset, cX2_reset, 1, none), (2, 0, 0, 0, 0)),
  ((yX2_copyFrom, cX2_copyFrom, 2, none), (2, 0, 0, 0, 0)),
  ((yX2_has, cX2_has, 2, some .boolean), (2, 0, 0, 0, 0)),
  ((yX2_maskOf, cX2_maskOf, 1, some .long), (2, 0, 0, 0, 0)),
  ((yX2_isFold, cX2_isFold, 2, some .boolean), (2, 1, 21, 0, 0)),
  ((yX2_isOpen, cX2_isOpen, 2, some .boolean), (2, 1, 21, 0, 0)),
  ((yX2_kindOf, cX2_kindOf, 2, some .int), (2, 2, 42, 0, 0)),
  ((yX2_make, cX2_make, 5, none), (2, 1, 20, 0, 0)),
  ((yX2_beside, cX2_beside, 6, some .int), (2, 1, 21, 0, 0)),
  ((yX3_init, cX3_init, 2, none), (3, 1, 21, 3, 12)),
  ((yX3_reset, cX3_reset, 2, none), (3, 1, 22, 0, 0)),
  ((yX3_copyFrom, cX3_copyFrom, 3, none), (3, 1, 22, 0, 0)),
  ((yX3_motherCell, cX3_motherCell, 2, some .int), (3, 1, 21, 0, 0)),
  ((yX3_regimentCell, cX3_regimentCell, 2, some .int), (3, 1, 21, 0, 0)),
  ((yX3_mindedBy, cX3_mindedBy, 2, some .int), (3, 1, 21, 0, 0)),
  ((yX3_putMother, cX3_putMother, 3, none), (3, 1, 22, 0, 0)),
  ((yX3_mind, cX3_mind, 3, none), (3, 1, 22, 0, 0)),
  ((yX3_knownCells, cX3_knownCells, 1, some .int), (3, 1, 21, 0, 0)),
  ((yX3_knows, cX3_knows, 2, some .int), (3, 1, 20, 0, 0)),
  ((yX3_regimentsAt, cX3_regimentsAt, 4, some .int), (3, 0, 0, 0, 0)),
  ((yX3_mindersOf, cX3_mindersOf, 4, some .int), (3, 2, 42, 0, 0)),
  ((yX3_distanceToMinded, cX3_distanceToMinded, 5, some .int), (3, 2, 42, 0, 0)),
  ((yX3_mayEnter, cX3_mayEnter, 6, some .boolean), (3, 1, 23, 0, 0)),
  ((yX3_settle, cX3_settle, 3, none), (3, 1, 22, 0, 0)),
  ((yX3_enter, cX3_enter, 3, none), (3, 2, 44, 0, 0)),
  ((yX3_advanceBy, cX3_advanceBy, 4, some .int), (3, 4, 99, 0, 0)),
  ((yX3_advance, cX3_advance, 4, some .int), (3, 3, 76, 0, 0)),
  ((yX3_goalOf, cX3_goalOf, 9, some .int), (3, 2, 48, 0, 0)),
  ((yX3_sideAway, cX3_sideAway, 7, some .int), (3, 1, 21, 0, 0)),
  ((yX4_init, cX4_init, 2, none), (4, 2, 42, 6, 28)),
  ((yX4_readAll, cX4_readAll, 2, some .int), (4, 5, 107, 0, 0)),
  ((yX4_mayBegin, cX4_mayBegin, 3, some .boolean), (4, 0, 0, 0, 0)),
  ((yX4_readItem, cX4_readItem, 4, some .boolean), (4, 4, 84, 0, 0)),
  ((yX4_mayStand, cX4_mayStand, 4, some .boolean), (4, 0, 0, 0, 0)),
  ((yX4_take, cX4_take, 6, none), (4, 2, 44, 0, 0)),
  ((yX5_init, cX5_init, 1, none), (5, 1, 21, 1, 120)),
  ((yX5_empty, cX5_empty, 1, none), (5, 0, 0, 0, 0)),
  ((yX5_append, cX5_append, 2, some .boolean), (5, 1, 22, 0, 0)),
  ((yX5_rewind, cX5_rewind, 1, none), (5, 0, 0, 0, 0)),
  ((yX5_letterAt, cX5_letterAt, 2, some .int), (5, 1, 21, 0, 0)),
  ((yX5_readToken, cX5_readToken, 2, none), (5, 3, 63, 0, 0)),
  ((yX5_readDigits, cX5_readDigits, 2, none), (5, 2, 42, 0, 0)),
  ((yX5_isDigit, cX5_isDigit, 1, some .boolean), (5, 0, 0, 0, 0)),
  ((yX5_isSign, cX5_isSign, 1, some .boolean), (5, 0, 0, 0, 0)),
  ((yX6_init, cX6_init, 1, none), (6, 1, 21, 3, 18)),
  ((yX6_empty, cX6_empty, 1, none), (6, 0, 0, 0, 0)),
  ((yX6_add, cX6_add, 4, some .boolean), (6, 1, 22, 0, 0)),
  ((yX6_allows, cX6_allows, 6, some .boolean), (6, 1, 21, 0, 0)),
  ((yX7_init, cX7_init, 1, none), (7, 3, 64, 75, 553)),
  ((yX7_type, cX7_type, 2, some .int), (7, 2, 43, 0, 0)),
  ((yX7_clear, cX7_clear, 2, some .int), (7, 1, 20, 0, 0)),
  ((yX7_land, cX7_land, 2, some .int), (7, 6, 128, 0, 0)),
  ((yX7_cell, cX7_cell, 3, some .int), (7, 3, 63, 0, 0)),
  ((yX7_mother, cX7_mother, 3, some .int), (7, 3, 65, 0, 0)),
  ((yX7_regiment, cX7_regiment, 3, some .int), (7, 2, 42, 0, 0)),
  ((yX7_now, cX7_now, 2, some .int), (7, 2, 41, 0, 0)),
  ((yX7_step, cX7_step, 1, some .int), (7, 4, 99, 0, 0)),
  ((yX7_walks, cX7_walks, 4, some .int), (7, 3, 65, 0, 0)),
  ((yX7_seesOff, cX7_seesOff, 4, some .int), (7, 3, 65, 0, 0)),
  ((yX7_deals, cX7_deals, 3, some .int), (7, 3, 65, 0, 0)),
  ((yX7_leads, cX7_leads, 5, some .int), (7, 3, 66, 0, 0)),
  ((yX7_undo, cX7_undo, 1, some .int), (7, 3, 66, 0, 0)),
  ((yX7_where, cX7_where, 3, some .int), (7, 5, 122, 0, 0)),
  ((yX7_falls, cX7_falls, 2, some .int), (7, 5, 122, 0, 0)),
  ((yX7_comes, cX7_comes, 4, some .int), (7, 4, 99, 0, 0)),
  ((yX7_wave, cX7_wave, 8, some .int), (7, 6, 146, 0, 0)),
  ((yX7_deal, cX7_deal, 7, some .int), (7, 6, 144, 0, 0)),
  ((yX7_odds, cX7_odds, 7, some .int), (7, 2, 48, 0, 0)),
  ((yX7_watches, cX7_watches, 4, some .int), (7, 2, 45, 0, 0)),
  ((yX7_forget, cX7_forget, 2, some .int), (7, 1, 20, 0, 0)),
  ((yX7_faced, cX7_faced, 2, some .int), (7, 6, 145, 0, 0)),
  ((yX7_look, cX7_look, 5, some .int), (7, 6, 145, 0, 0)),
  ((yX7_rate, cX7_rate, 3, some .int), (7, 5, 108, 0, 0)),
  ((yX7_keep, cX7_keep, 2, some .int), (7, 3, 66, 0, 0)),
  ((yX7_back, cX7_back, 2, some .int), (7, 3, 66, 0, 0)),
  ((yX7_count, cX7_count, 2, some .int), (7, 0, 0, 0, 0)),
  ((yX7_trace, cX7_trace, 1, some .long), (7, 0, 0, 0, 0)),
  ((yX7_isMother, cX7_isMother, 2, some .boolean), (7, 0, 0, 0, 0)),
  ((yX7_isRegiment, cX7_isRegiment, 2, some .boolean), (7, 0, 0, 0, 0)),
  ((yX7_isSide, cX7_isSide, 1, some .boolean), (7, 0, 0, 0, 0)),
  ((yX7_toldMother, cX7_toldMother, 1, some .int), (7, 0, 0, 0, 0)),
  ((yX7_bitOf, cX7_bitOf, 2, some .int), (7, 0, 0, 0, 0)),
  ((yX7_cellAt, cX7_cellAt, 2, some .int), (7, 0, 0, 0, 0)),
  ((yX7_xOf, cX7_xOf, 1, some .int), (7, 0, 0, 0, 0)),
  ((yX7_yOf, cX7_yOf, 1, some .int), (7, 0, 0, 0, 0)),
  ((yX7_elementOf, cX7_elementOf, 2, some .int), (7, 0, 0, 0, 0)),
  ((yX7_setElement, cX7_setElement, 3, none), (7, 0, 0, 0, 0)),
  ((yX7_cellIfWaved, cX7_cellIfWaved, 5, some .int), (7, 5, 122, 0, 0)),
  ((yX7_fallsIfDealt, cX7_fallsIfDealt, 3, some .int), (7, 5, 122, 0, 0)),
  ((yX7_waysToSleep, cX7_waysToSleep, 6, some .int), (7, 1, 23, 0, 0)),
  ((yX7_power, cX7_power, 4, some .int), (7, 0, 0, 0, 0)),
  ((yX7_greatestDivisor, cX7_greatestDivisor, 6, some .int), (7, 1, 21, 0, 0)),
  ((yX7_mindable, cX7_mindable, 4, some .int), (7, 5, 122, 0, 0)),
  ((yX7_fitsWatched, cX7_fitsWatched, 4, some .boolean), (7, 4, 99, 0, 0)),
  ((yX7_trackPlace, cX7_trackPlace, 2, some .int), (7, 0, 0, 0, 0)),
  ((yX7_track, cX7_track, 5, none), (7, 4, 99, 0, 0)),
  ((yX7_greatestCrowd, cX7_greatestCrowd, 5, some .int), (7, 2, 46, 0, 0)),
  ((yX7_crowdAt, cX7_crowdAt, 6, some .int), (7, 1, 21, 0, 0)),
  ((yX7_rateFoot, cX7_rateFoot, 3, some .int), (7, 2, 42, 0, 0)),
  ((yX7_rateHussars, cX7_rateHussars, 2, some .int), (7, 3, 66, 0, 0)),
  ((yX7_rateGuards, cX7_rateGuards, 2, some .int), (7, 3, 64, 0, 0)),
  ((yX7_rateLancers, cX7_rateLancers, 2, some .int), (7, 4, 87, 0, 0)),
  ((yX7_rateScouts, cX7_rateScouts, 2, some .int), (7, 4, 85, 0, 0)),
  ((yX7_rateBand, cX7_rateBand, 2, some .int), (7, 3, 64, 0, 0)),
  ((yX8_init, cX8_init, 1, none), (8, 2, 42, 10, 518)),
  ((yX8_in, cX8_in, 3, some .boolean), (8, 0, 0, 0, 0)),
  ((yX8_has, cX8_has, 2, some .boolean), (8, 0, 0, 0, 0)),
  ((yX8_ones, cX8_ones, 3, some .int), (8, 0, 0, 0, 0)),
  ((yX8_empty, cX8_empty, 2, none), (8, 0, 0, 0, 0)),
  ((yX8_begin, cX8_begin, 2, none), (8, 1, 21, 0, 0)),
  ((yX8_type, cX8_type, 2, some .int), (8, 1, 22, 0, 0)),
  ((yX8_clear, cX8_clear, 2, some .int), (8, 0, 0, 0, 0)),
  ((yX8_next, cX8_next, 3, some .boolean), (8, 1, 22, 0, 0)),
  ((yX8_numberIn, cX8_numberIn, 3, some .boolean), (8, 2, 44, 0, 0)),
  ((yX8_ends, cX8_ends, 1, some .boolean), (8, 2, 44, 0, 0)),
  ((yX8_landItem, cX8_landItem, 2, some .boolean), (8, 3, 66, 0, 0)),
  ((yX8_cellRead, cX8_cellRead, 2, some .boolean), (8, 3, 66, 0, 0)),
  ((yX8_cellItem, cX8_cellItem, 1, some .boolean), (8, 4, 87, 0, 0)),
  ((yX8_motherItem, cX8_motherItem, 1, some .boolean), (8, 4, 87, 0, 0)),
  ((yX8_regimentItem, cX8_regimentItem, 1, some .boolean), (8, 4, 87, 0, 0)),
  ((yX8_item, cX8_item, 2, some .boolean), (8, 5, 107, 0, 0)),
  ((yX8_land, cX8_land, 2, some .int), (8, 6, 128, 0, 0)),
  ((yX8_tens, cX8_tens, 1, some .int), (8, 0, 0, 0, 0)),
  ((yX8_isCell, cX8_isCell, 2, some .boolean), (8, 1, 22, 0, 0)),
  ((yX8_eights, cX8_eights, 1, some .int), (8, 0, 0, 0, 0)),
  ((yX8_at, cX8_at, 3, some .int), (8, 1, 22, 0, 0)),
  ((yX8_beside, cX8_beside, 5, some .int), (8, 2, 44, 0, 0)),
  ((yX8_whatIs, cX8_whatIs, 2, some .int), (8, 0, 0, 0, 0)),
  ((yX8_isRegiment, cX8_isRegiment, 2, some .boolean), (8, 1, 22, 0, 0)),
  ((yX8_isMother, cX8_isMother, 2, some .boolean), (8, 1, 22, 0, 0)),
  ((yX8_aside, cX8_aside, 2, none), (8, 0, 0, 0, 0)),
  ((yX8_take, cX8_take, 2, none), (8, 0, 0, 0, 0)),
  ((yX8_know, cX8_know, 2, none), (8, 0, 0, 0, 0)),
  ((yX8_isFree, cX8_isFree, 4, some .boolean), (8, 1, 21, 0, 0)),
  ((yX8_isClear, cX8_isClear, 2, some .boolean), (8, 2, 44, 0, 0)),
  ((yX8_goTo, cX8_goTo, 3, none), (8, 1, 21, 0, 0)),
  ((yX8_size, cX8_size, 1, some .int), (8, 0, 0, 0, 0)),
  ((yX8_goOne, cX8_goOne, 10, some .boolean), (8, 3, 68, 0, 0)),
  ((yX8_goStep, cX8_goStep, 3, some .int), (8, 4, 97, 0, 0)),
  ((yX8_goSteps, cX8_goSteps, 3, none), (8, 5, 119, 0, 0)),
  ((yX8_knownMany, cX8_knownMany, 1, some .int), (8, 1, 22, 0, 0)),
  ((yX8_cell, cX8_cell, 6, some .int), (8, 2, 43, 0, 0)),
  ((yX8_mother, cX8_mother, 5, some .int), (8, 2, 43, 0, 0)),
  ((yX8_regiment, cX8_regiment, 3, some .int), (8, 2, 43, 0, 0)),
  ((yX8_now, cX8_now, 2, some .int), (8, 2, 42, 0, 0)),
  ((yX8_note, cX8_note, 2, none), (8, 0, 0, 0, 0)),
  ((yX8_step, cX8_step, 2, some .int), (8, 5, 119, 0, 0)),
  ((yX8_walks, cX8_walks, 4, some .int), (8, 3, 68, 0, 0)),
  ((yX8_seesOff, cX8_seesOff, 5, some .int), (8, 2, 43, 0, 0)),
  ((yX8_deals, cX8_deals, 3, some .int), (8, 2, 43, 0, 0)),
  ((yX8_leads, cX8_leads, 4, some .int), (8, 3, 68, 0, 0)),
  ((yX8_undo, cX8_undo, 2, some .int), (8, 0, 0, 0, 0)),
  ((yX8_where, cX8_where, 3, some .int), (8, 6, 141, 0, 0)),
  ((yX8_falls, cX8_falls, 2, some .int), (8, 6, 141, 0, 0)),
  ((yX8_comes, cX8_comes, 4, some .int), (8, 5, 119, 0, 0)),
  ((yX8_wave, cX8_wave, 6, some .int), (8, 6, 141, 0, 0)),
  ((yX8_deal, cX8_deal, 7, some .int), (8, 6, 141, 0, 0)),
  ((yX8_odds, cX8_odds, 9, some .int), (8, 1, 22, 0, 0)),
  ((yX8_watches, cX8_watches, 4, some .int), (8, 2, 43, 0, 0)),
  ((yX8_forget, cX8_forget, 2, some .int), (8, 0, 0, 0, 0)),
  ((yX8_facedBy, cX8_facedBy, 7, some .int), (8, 5, 119, 0, 0)),
  ((yX8_faced, cX8_faced, 2, some .int), (8, 6, 145, 0, 0)),
  ((yX8_greatest, cX8_greatest, 8, some .int), (8, 6, 141, 0, 0)),
  ((yX8_look, cX8_look, 7, some .int), (8, 7, 168, 0, 0)),
  ((yX8_foot, cX8_foot, 2, some .int), (8, 0, 0, 0, 0)),
  ((yX8_hussars, cX8_hussars, 4, some .int), (8, 1, 21, 0, 0)),
  ((yX8_guards, cX8_guards, 2, some .int), (8, 1, 22, 0, 0)),
  ((yX8_rate, cX8_rate, 3, some .int), (8, 2, 44, 0, 0)),
  ((yX8_keep, cX8_keep, 3, some .int), (8, 2, 42, 0, 0)),
  ((yX8_back, cX8_back, 3, some .int), (8, 2, 42, 0, 0)),
  ((yX8_count, cX8_count, 2, some .int), (8, 1, 22, 0, 0)),
  ((yX8_trace, cX8_trace, 1, some .long), (8, 0, 0, 0, 0)),
  ((yJ6_bitCount_0f7a4, cJ6_bitCount_0f7a4, 1, some .int), (10, 0, 0, 0, 0)),
  ((yJ13_bitCount_95d88, cJ13_bitCount_95d88, 2, some .int), (11, 0, 0, 0, 0))]
def z_m0 : z_M := ((yL_law, cL_law, 4, ret), (9, 0, 0, 0, 0))
def z_mt (m : Nat) : z_M := z_MT.getD m z_m0
abbrev z_nm (m : Nat) : MethodName := (z_mt m).1.1
abbrev z_co (m : Nat) : ByteArray := (z_mt m).1.2.1
abbrev z_ml (m : Nat) : Nat := (z_mt m).1.2.2.1
abbrev z_rt (m : Nat) : Option FieldType := (z_mt m).1.2.2.2
abbrev z_ci (m : Nat) : Nat := (z_mt m).2.1
abbrev z_fr (m : Nat) : Nat := (z_mt m).2.2.1
abbrev z_lo (m : Nat) : Nat := (z_mt m).2.2.2.1
abbrev z_mc (m : Nat) : Nat := (z_mt m).2.2.2.2.1
abbrev z_ms (m : Nat) : Nat := (z_mt m).2.2.2.2.2
def z_RN : List String := [RX0, RX1, RX2, RX3, RX4, RX5, RX6, RX7, RX8, RL, RJ6, RJ13, RJ9]
def z_rn (c : Nat) : String := z_RN.getD c RL
def z_MP : List (Nat × Nat × Nat × Nat) := [(0, 0, 0, 0), (195, 55, 194, 194), (403, 55, 401, 402), (493, 55, 491, 492), (576, 55, 574, 575), (215, 56, 214, 214), (399, 56, 397, 398), (728, 56, 726, 727), (737, 56, 735, 736), (110, 53, 109, 109), (307, 53, 305, 306), (386, 53, 384, 385), (411, 53, 409, 410), (368, 53, 367, 0), (424, 53, 422, 423), (419, 53, 417, 418), (415, 53, 413, 414), (365, 53, 363, 364), (522, 53, 520, 521), (146, 54, 145, 145), (311, 54, 309, 310), (390, 54, 388, 389), (444, 54, 442, 443), (464, 54, 462, 463), (452, 54, 450, 451), (373, 54, 371, 372), (382, 54, 380, 381), (479, 54, 477, 478), (428, 54, 426, 427), (432, 54, 430, 431), (448, 54, 446, 447), (699, 54, 697, 698), (529, 54, 527, 528), (377, 54, 375, 376), (535, 54, 533, 534), (584, 54, 582, 583), (499, 54, 497, 498), (504, 54, 502, 503), (508, 54, 506, 507), (104, 52, 103, 103), (303, 52, 301, 302), (344, 52, 342, 343), (348, 52, 346, 347), (352, 52, 350, 351), (358, 52, 356, 357), (74, 51, 73, 73), (295, 51, 293, 294), (284, 51, 282, 283), (316, 51, 314, 315), (324, 51, 322, 323), (320, 51, 318, 319), (334, 51, 332, 333), (330, 51, 329, 0), (340, 51, 339, 0), (230, 57, 229, 229), (395, 57, 393, 394), (636, 57, 634, 635), (657, 57, 655, 656), (66, 50, 65, 65), (280, 50, 278, 279), (291, 50, 289, 290), (299, 50, 297, 298), (407, 50, 405, 406), (436, 50, 434, 435), (456, 50, 454, 455), (475, 50, 473, 474), (489, 50, 487, 488), (541, 50, 539, 540), (551, 50, 549, 550), (556, 50, 554, 555), (566, 50, 564, 565), (572, 50, 570, 571), (580, 50, 578, 579), (590, 50, 588, 589), (594, 50, 592, 593), (598, 50, 596, 597), (607, 50, 605, 606), (615, 50, 613, 614), (632, 50, 630, 631), (641, 50, 639, 640), (645, 50, 643, 644), (662, 50, 660, 661), (683, 50, 681, 682), (724, 50, 722, 723), (733, 50, 731, 732), (742, 50, 740, 741), (746, 50, 744, 745), (440, 50, 439, 0), (460, 50, 459, 1), (544, 50, 543, 0), (468, 50, 467, 0), (471, 50, 470, 0), (361, 50, 360, 0), (511, 50, 510, 0), (514, 50, 513, 0), (327, 50, 326, 0), (287, 50, 286, 0), (603, 50, 602, 2), (611, 50, 610, 3), (619, 50, 618, 4), (622, 50, 621, 0), (625, 50, 624, 0), (649, 50, 648, 5), (653, 50, 652, 6), (669, 50, 668, 0), (666, 50, 665, 7), (674, 50, 673, 8), (679, 50, 678, 9), (688, 50, 687, 10), (694, 50, 693, 11), (704, 50, 703, 12), (709, 50, 708, 13), (714, 50, 713, 14), (719, 50, 718, 15), (751, 58, 750, 750), (839, 58, 838, 0), (951, 58, 950, 0), (928, 58, 927, 0), (756, 58, 755, 16), (760, 58, 759, 17), (836, 58, 834, 835), (843, 58, 841, 842), (851, 58, 850, 20), (863, 58, 862, 23), (867, 58, 866, 24), (859, 58, 858, 22), (875, 58, 874, 26), (871, 58, 870, 25), (879, 58, 878, 27), (883, 58, 882, 28), (855, 58, 854, 21), (847, 58, 845, 846), (909, 58, 908, 0), (891, 58, 890, 29), (894, 58, 893, 0), (962, 58, 961, 39), (958, 58, 957, 38), (898, 58, 897, 30), (917, 58, 916, 32), (906, 58, 905, 31), (940, 58, 939, 35), (768, 58, 767, 19), (764, 58, 763, 18), (966, 58, 965, 40), (974, 58, 973, 42), (970, 58, 969, 41), (954, 58, 953, 0), (948, 58, 947, 37), (944, 58, 943, 36), (1002, 58, 1001, 43), (925, 58, 924, 33), (887, 58, 885, 886), (902, 58, 900, 901), (913, 58, 911, 912), (921, 58, 919, 920), (936, 58, 935, 34), (932, 58, 930, 931), (978, 58, 976, 977), (982, 58, 980, 981), (986, 58, 984, 985), (990, 58, 988, 989), (994, 58, 992, 993), (998, 58, 996, 997), (1006, 58, 1004, 1005), (1010, 58, 1008, 1009), (1014, 58, 1012, 1013), (1018, 58, 1016, 1017), (1022, 58, 1020, 1021), (1026, 58, 1024, 1025), (1030, 58, 1028, 1029), (1038, 58, 1037, 44), (1034, 58, 1032, 1033), (1046, 58, 1045, 45), (1042, 58, 1040, 1041), (1055, 58, 1054, 46), (1059, 58, 1058, 47), (1064, 58, 1063, 48), (1050, 58, 1048, 1049), (1072, 58, 1070, 1071), (1076, 58, 1074, 1075), (1080, 58, 1078, 1079), (1084, 58, 1082, 1083), (559, 61, 558, 0), (482, 60, 481, 0)]
def z_stat (m : Nat) : Bool := [13, 52, 53, 89, 90, 91, 92, 93, 94, 95, 96, 100, 101, 104, 115, 116, 117, 132, 134, 146, 182, 183].contains m
def z_ini (m : Nat) : Bool := [1, 5, 9, 19, 39, 45, 54, 58, 114].contains m
/-- calls: class, entry, kind (0 virtual, 1 static, 2 a constructor; 4, 5: 1, 2 of a nest mate; 9: Object.<init>), the method, the place of the word -/
def z_CT : List (Nat × Nat × Nat × Nat × Nat) := [(9, 9, 2, 58, 64), (9, 12, 2, 114, 749), (9, 13, 0, 59, 277), (9, 17, 0, 120, 833), (9, 18, 0, 60, 288), (9, 22, 0, 121, 840), (9, 23, 0, 61, 296), (9, 26, 0, 131, 844), (9, 27, 0, 62, 404), (9, 31, 0, 151, 884), (9, 32, 0, 63, 433), (9, 35, 0, 152, 899), (9, 36, 0, 64, 453), (9, 39, 0, 153, 910), (9, 40, 0, 65, 472), (9, 43, 0, 154, 918), (9, 44, 0, 66, 486), (9, 47, 0, 156, 929), (9, 48, 0, 67, 538), (9, 51, 0, 157, 975), (9, 52, 0, 68, 548), (9, 55, 0, 158, 979), (9, 56, 0, 69, 553), (9, 59, 0, 159, 983), (9, 60, 0, 70, 563), (9, 63, 0, 160, 987), (9, 64, 0, 71, 569), (9, 67, 0, 161, 991), (9, 68, 0, 72, 577), (9, 71, 0, 162, 995), (9, 72, 0, 73, 587), (9, 75, 0, 163, 1003), (9, 76, 0, 74, 591), (9, 79, 0, 164, 1007), (9, 80, 0, 75, 595), (9, 84, 0, 165, 1011), (9, 85, 0, 76, 604), (9, 88, 0, 166, 1015), (9, 89, 0, 77, 612), (9, 92, 0, 167, 1019), (9, 93, 0, 78, 629), (9, 96, 0, 168, 1023), (9, 97, 0, 79, 638), (9, 100, 0, 169, 1027), (9, 101, 0, 80, 642), (9, 104, 0, 171, 1031), (9, 105, 0, 81, 659), (9, 108, 0, 173, 1039), (9, 109, 0, 82, 680), (9, 112, 0, 177, 1047), (9, 113, 0, 83, 721), (9, 116, 0, 178, 1069), (9, 117, 0, 84, 730), (9, 120, 0, 179, 1073), (9, 121, 0, 85, 739), (9, 124, 0, 180, 1077), (9, 125, 0, 86, 743), (9, 129, 0, 181, 1081), (0, 3, 9, 0, 196), (0, 17, 2, 19, 199), (0, 27, 0, 21, 494), (0, 31, 7, 0, 495), (1, 3, 9, 0, 216), (1, 17, 2, 19, 218), (1, 24, 0, 21, 729), (1, 28, 4, 91, 738), (2, 3, 9, 0, 111), (2, 31, 0, 12, 420), (2, 35, 1, 13, 366), (2, 39, 0, 15, 416), (2, 42, 0, 14, 421), (2, 47, 4, 93, 523), (2, 51, 4, 94, 524), (2, 54, 4, 92, 525), (3, 3, 9, 0, 147), (3, 25, 4, 96, 312), (3, 40, 4, 95, 391), (3, 44, 1, 183, 480), (3, 50, 1, 13, 378), (3, 59, 0, 24, 449), (3, 63, 0, 23, 518), (3, 66, 0, 22, 700), (3, 69, 4, 93, 509), (3, 72, 8, 0, 515), (3, 77, 4, 94, 512), (3, 80, 0, 12, 530), (3, 90, 0, 29, 531), (3, 93, 0, 33, 536), (3, 97, 0, 14, 537), (3, 100, 4, 91, 500), (3, 104, 0, 36, 585), (3, 108, 1, 182, 586), (3, 112, 0, 37, 501), (3, 115, 0, 34, 532), (3, 118, 0, 38, 505), (3, 121, 0, 18, 519), (3, 124, 0, 32, 526), (4, 3, 9, 0, 105), (4, 11, 5, 9, 108), (4, 20, 2, 19, 144), (4, 35, 0, 10, 304), (4, 38, 0, 20, 308), (4, 39, 0, 48, 313), (4, 44, 0, 50, 317), (4, 51, 0, 41, 341), (4, 55, 0, 42, 345), (4, 71, 0, 43, 349), (4, 75, 4, 96, 353), (4, 79, 4, 95, 354), (4, 83, 0, 44, 355), (4, 93, 4, 92, 359), (4, 97, 0, 17, 362), (4, 101, 0, 25, 370), (4, 104, 0, 33, 374), (4, 107, 0, 26, 379), (5, 3, 9, 0, 75), (5, 19, 4, 96, 285), (5, 26, 4, 95, 325), (5, 30, 0, 49, 321), (5, 37, 1, 52, 328), (5, 41, 0, 51, 331), (5, 44, 1, 53, 338), (5, 53, 7, 0, 335), (6, 3, 9, 0, 231), (6, 25, 4, 96, 637), (6, 29, 4, 95, 658), (7, 1, 9, 0, 67), (7, 9, 5, 45, 72), (7, 18, 2, 39, 102), (7, 27, 5, 9, 188), (7, 34, 2, 19, 190), (7, 46, 2, 1, 193), (7, 53, 2, 5, 213), (7, 60, 5, 54, 228), (7, 73, 0, 47, 281), (7, 81, 0, 46, 292), (7, 84, 0, 40, 300), (7, 89, 0, 11, 383), (7, 95, 0, 21, 387), (7, 98, 0, 55, 392), (7, 99, 0, 6, 396), (7, 100, 0, 2, 400), (7, 101, 0, 12, 408), (7, 104, 0, 16, 412), (7, 108, 0, 28, 425), (7, 111, 0, 29, 429), (7, 114, 0, 87, 437), (7, 117, 0, 22, 441), (7, 120, 0, 30, 445), (7, 123, 0, 88, 457), (7, 126, 0, 23, 461), (7, 129, 0, 24, 465), (7, 132, 1, 90, 466), (7, 138, 1, 91, 469), (7, 145, 0, 27, 476), (7, 151, 0, 3, 490), (7, 154, 0, 36, 496), (7, 157, 1, 89, 542), (7, 160, 0, 18, 545), (7, 163, 0, 15, 546), (7, 166, 0, 25, 547), (7, 170, 0, 26, 552), (7, 173, 1, 182, 557), (7, 178, 0, 32, 567), (7, 182, 0, 34, 568), (7, 185, 0, 4, 573), (7, 189, 0, 35, 581), (7, 192, 1, 92, 599), (7, 195, 0, 97, 600), (7, 202, 0, 98, 608), (7, 205, 0, 99, 616), (7, 211, 1, 100, 620), (7, 214, 1, 101, 623), (7, 217, 0, 56, 633), (7, 222, 0, 102, 646), (7, 225, 0, 105, 663), (7, 228, 0, 106, 671), (7, 232, 0, 108, 685), (7, 235, 0, 109, 691), (7, 238, 0, 110, 701), (7, 241, 0, 111, 706), (7, 244, 0, 112, 711), (7, 247, 0, 113, 716), (7, 250, 0, 7, 725), (7, 254, 0, 8, 734), (7, 263, 6, 0, 626), (7, 268, 0, 103, 650), (7, 272, 0, 57, 654), (7, 275, 1, 104, 667), (7, 278, 1, 96, 670), (7, 282, 1, 95, 675), (7, 286, 0, 107, 676), (7, 290, 1, 93, 689), (7, 293, 1, 94, 690), (7, 298, 0, 31, 696), (8, 1, 9, 0, 752), (8, 40, 0, 118, 753), (8, 43, 0, 119, 757), (8, 46, 0, 142, 761), (8, 50, 0, 141, 765), (8, 63, 1, 115, 837), (8, 82, 0, 122, 848), (8, 86, 0, 123, 860), (8, 90, 0, 124, 864), (8, 96, 0, 126, 872), (8, 99, 0, 125, 856), (8, 103, 0, 127, 868), (8, 106, 0, 128, 876), (8, 109, 0, 129, 880), (8, 112, 0, 130, 852), (8, 115, 0, 135, 959), (8, 119, 0, 137, 895), (8, 123, 0, 143, 963), (8, 126, 1, 116, 949), (8, 129, 1, 146, 952), (8, 132, 0, 136, 955), (8, 135, 0, 145, 967), (8, 142, 0, 144, 971), (8, 145, 0, 147, 945), (8, 148, 0, 148, 941), (8, 152, 1, 117, 926), (8, 155, 0, 133, 888), (8, 158, 1, 134, 892), (8, 161, 0, 139, 903), (8, 164, 1, 132, 907), (8, 167, 0, 138, 914), (8, 170, 0, 150, 922), (8, 173, 0, 155, 933), (8, 176, 0, 140, 937), (8, 179, 0, 149, 999), (8, 182, 0, 170, 1035), (8, 185, 0, 172, 1043), (8, 195, 0, 174, 1052), (8, 201, 0, 175, 1056), (8, 204, 0, 176, 1061)]
/-- fields: class, entry, the class and the field, the place of the word -/
def z_FT : List (Nat × Nat × Nat × Nat × Nat) := [(5, 9, 5, 0, 76), (5, 15, 5, 1, 77), (7, 77, 5, 1, 78), (5, 23, 5, 2, 79), (4, 59, 5, 3, 80), (5, 34, 5, 3, 81), (4, 47, 5, 4, 82), (5, 47, 5, 4, 83), (4, 68, 5, 5, 84), (5, 50, 5, 5, 85), (2, 9, 2, 0, 112), (4, 87, 2, 0, 113), (7, 257, 2, 0, 114), (2, 15, 2, 1, 115), (4, 90, 2, 1, 116), (7, 260, 2, 1, 117), (2, 18, 2, 2, 118), (3, 87, 2, 2, 119), (2, 22, 2, 3, 120), (3, 84, 2, 3, 121), (2, 25, 2, 4, 122), (4, 62, 2, 4, 123), (7, 208, 2, 4, 124), (2, 28, 2, 5, 125), (4, 65, 2, 5, 126), (3, 56, 2, 5, 127), (7, 199, 2, 5, 128), (3, 21, 3, 0, 148), (3, 9, 3, 1, 149), (3, 15, 3, 2, 150), (3, 18, 3, 3, 151), (3, 29, 3, 4, 152), (7, 135, 3, 4, 153), (3, 33, 3, 5, 154), (7, 142, 3, 5, 155), (3, 36, 3, 6, 156), (4, 31, 4, 0, 172), (4, 12, 4, 1, 173), (7, 88, 4, 1, 174), (4, 23, 4, 2, 175), (7, 92, 4, 2, 176), (4, 27, 4, 3, 177), (0, 11, 0, 0, 200), (0, 24, 0, 1, 201), (0, 20, 0, 2, 202), (7, 148, 0, 2, 203), (1, 11, 1, 0, 219), (1, 20, 1, 1, 220), (6, 9, 6, 0, 232), (6, 15, 6, 1, 233), (6, 18, 6, 2, 234), (6, 21, 6, 3, 235), (7, 221, 6, 3, 236), (7, 10, 7, 0, 246), (7, 21, 7, 1, 247), (7, 28, 7, 2, 248), (7, 37, 7, 3, 249), (7, 41, 7, 4, 250), (7, 47, 7, 5, 251), (7, 54, 7, 6, 252), (7, 61, 7, 7, 253), (7, 65, 7, 8, 254), (7, 69, 7, 9, 255), (8, 67, 8, 0, 769), (8, 7, 8, 1, 770), (8, 13, 8, 2, 771), (8, 16, 8, 3, 772), (8, 19, 8, 4, 773), (8, 22, 8, 5, 774), (8, 25, 8, 6, 775), (8, 28, 8, 7, 776), (8, 53, 8, 8, 777), (8, 31, 8, 9, 778), (8, 57, 8, 10, 779), (8, 34, 8, 11, 780), (8, 60, 8, 12, 781), (8, 189, 8, 13, 782), (8, 70, 8, 14, 783), (8, 73, 8, 15, 784), (8, 79, 8, 16, 785), (8, 76, 8, 17, 786), (8, 93, 8, 18, 787), (8, 139, 8, 19, 788), (8, 37, 8, 20, 789)]
def z_KI : List (Nat × Nat × Int32 × Nat) := [(10, 265, 1431655765, 560), (10, 266, 858993459, 561), (10, 267, 252645135, 562), (7, 231, -1000000, 684), (8, 200, -1000000, 1051)]
def z_KL : List (Nat × Nat × Int64 × Nat) := [(2, 45, -1, 369), (11, 314, 6148914691236517205, 483), (11, 316, 3689348814741910323, 484), (11, 318, 1085102592571150095, 485), (7, 296, 10, 695), (7, 301, 100, 705), (7, 303, 1000, 710), (7, 305, 10000, 715), (7, 307, 100000, 720), (8, 193, 10, 1060), (8, 198, 100, 1065), (8, 207, 1000, 1066), (8, 209, 10000, 1067), (8, 211, 100000, 1068)]
/-- classes made: class, entry, the class made, places of classLink, instantiable, initialized -/
def z_NT : List (Nat × Nat × Nat × Nat × Nat × Nat) := [(9, 7, 7, 62, 63, 50), (7, 7, 5, 70, 71, 51), (7, 16, 4, 100, 101, 52), (4, 9, 2, 106, 107, 53), (4, 18, 3, 142, 143, 54), (7, 25, 2, 187, 107, 53), (7, 32, 3, 189, 143, 54), (7, 44, 0, 191, 192, 55), (0, 9, 3, 197, 143, 54), (7, 51, 1, 211, 212, 56), (1, 9, 3, 217, 143, 54), (7, 58, 6, 226, 227, 57), (9, 10, 8, 747, 748, 58)]
def z_nf (c : Nat) : Nat := [3, 2, 6, 7, 4, 6, 4, 10, 21].getD c 0
def z_wd (i : Nat) (w : Cond) : Bool := decide (lw_tbl[i]? = some w) && goodWord w
theorem z_wd_in {i : Nat} {w : Cond} (h : z_wd i w = true) : w ∈ z_tbl := by
  obtain ⟨h1, h2⟩ := Bool.and_eq_true_iff.mp h
  exact List.mem_filter.mpr ⟨List.mem_of_getElem? (of_decide_eq_true h1), h2⟩
theorem z_good : ∀ w ∈ z_tbl, goodWord w = true := fun _ h => (List.mem_filter.mp h).2
def z_nest : Cond → Bool
  | .methodLinkNest _ _ _ _ => true
  | _ => false
def z_NW : List Cond := lw_tbl.filter z_nest
def z_wn (i : Nat) (w : Cond) : Bool := decide (lw_tbl[i]? = some w) && z_nest w
theorem z_wn_in {i : Nat} {w : Cond} (h : z_wn i w = true) : w ∈ z_NW := by
  obtain ⟨h1, h2⟩ := Bool.and_eq_true_iff.mp h
  exact List.mem_filter.mpr ⟨List.mem_of_getElem? (of_decide_eq_true h1), h2⟩
def z_okM (m : Nat) (q : Nat × Nat × Nat × Nat) : Bool :=
  z_wd q.2.1 (.initialized (z_nm m).cls) &&
  (if z_stat m then z_wd q.2.2.1 (.static (z_nm m)) else z_wd q.2.2.1 (.instanceMethod (z_nm m)) && (z_ini m || z_wd q.2.2.2 (.selects (z_nm m).cls (z_nm m) (z_nm m)))) &&
  (decide ((z_nm m).cls = z_rn (z_ci m)) && decide ((z_nm m).cls ≠ "java/lang/invoke/MethodHandle" ∧ (z_nm m).cls ≠ "java/lang/invoke/VarHandle") && plainName (z_nm m).cls && (!z_ini m || (decide ((z_nm m).name = "<init>") && decide (z_rt m = none))) && (parseMethodDescriptor (z_nm m).desc).isSome)
set_option maxRecDepth 100000 in
theorem z_MP_ok : ((List.range 183).all fun k => z_okM (k + 1) (z_MP.getD (k + 1) (0, 0, 0, 0))) = true := by decide +kernel
def z_okC (e : Nat × Nat × Nat × Nat × Nat) : Bool :=
  if e.2.2.1 = 9 then z_wd e.2.2.2.2 (.methodLink (z_rn e.1) e.2.1 objectInit)
  else if e.2.2.1 = 6 then z_wd e.2.2.2.2 (.methodLink (z_rn e.1) e.2.1 Lib.Math.max.name)
  else if e.2.2.1 = 7 then z_wd e.2.2.2.2 (.methodLink (z_rn e.1) e.2.1 Lib.Math.min.name)
  else if e.2.2.1 = 8 then z_wd e.2.2.2.2 (.methodLink (z_rn e.1) e.2.1 Lib.Math.abs.name)
  else if e.2.2.1 = 0 ∨ e.2.2.1 = 1 ∨ e.2.2.1 = 2 then z_wd e.2.2.2.2 (.methodLink (z_rn e.1) e.2.1 (z_nm e.2.2.2.1)) && decide (0 < e.2.2.2.1 ∧ e.2.2.2.1 < 184)
  else if e.2.2.1 = 4 ∨ e.2.2.1 = 5 then z_wn e.2.2.2.2 (.methodLinkNest (z_rn e.1) e.2.1 (z_nm e.2.2.2.1) RX7) && decide (0 < e.2.2.2.1 ∧ e.2.2.2.1 < 184)
  else false
set_option maxRecDepth 100000 in
theorem z_CT_ok : z_CT.all z_okC = true := by decide +kernel
def z_F (c : Nat) : u_T := (z_cl.getD c (RX0, TX0, 3)).2.1
def z_okF (e : Nat × Nat × Nat × Nat × Nat) : Bool :=
  z_wd e.2.2.2.2 (.fieldLink (z_rn e.1) e.2.1 (z_rn e.2.2.1) (z_F e.2.2.1 e.2.2.2.1).2.1 (z_F e.2.2.1 e.2.2.2.1).2.2.1) && decide (e.2.2.1 < 9 ∧ e.2.2.2.1 < z_nf e.2.2.1)
set_option maxRecDepth 100000 in
theorem z_FT_ok : z_FT.all z_okF = true := by decide +kernel
theorem z_KI_ok : (z_KI.all fun e => z_wd e.2.2.2 (.constant (z_rn e.1) e.2.1 e.2.2.1)) = true := by decide +kernel
theorem z_KL_ok : (z_KL.all fun e => z_wd e.2.2.2 (.constantLong (z_rn e.1) e.2.1 e.2.2.1)) = true := by decide +kernel
def z_okN (e : Nat × Nat × Nat × Nat × Nat × Nat) : Bool :=
  z_wd e.2.2.2.1 (.classLink (z_rn e.1) e.2.1 (z_rn e.2.2.1)) && z_wd e.2.2.2.2.1 (.instantiable (z_rn e.2.2.1) (z_nf e.2.2.1)) && z_wd e.2.2.2.2.2 (.initialized (z_rn e.2.2.1)) && decide (e.2.2.1 < 9)
theorem z_wMath : (z_wd 627 (.static Lib.Math.max.name) && z_wd 336 (.static Lib.Math.min.name) && z_wd 516 (.static Lib.Math.abs.name) && z_wd 59 (.initialized "java/lang/Math") && z_wd 628 (.code Lib.Math.max.name Lib.Math.max.code 2 (some .int)) && z_wd 337 (.code Lib.Math.min.name Lib.Math.min.code 2 (some .int)) && z_wd 517 (.code Lib.Math.abs.name Lib.Math.abs.code 1 (some .int)) && z_wd 68 (.instanceMethod objectInit) && z_wd 69 (.code objectInit ⟨#[0xb1]⟩ 1 none) && z_wd 99 (.arrayClass .int)) = true := by decide +kernel
theorem z_wOver : lw_tbl[198]? = some (.arrayOver (.object RX3)) := by decide +kernel
theorem z_NT_ok : z_NT.all z_okN = true := by decide +kernel
end
section
theorem z_cw1 : Cond.code (z_nm 1) (z_co 1) (z_ml 1) (z_rt 1) ∈ tables_1 := List.mem_append_left _ (List.mem_of_getElem? (i := 146) (show tables_1_1[146]? = some _ from rfl))
theorem z_cw2 : Cond.code (z_nm 2) (z_co 2) (z_ml 2) (z_rt 2) ∈ tables_1 := List.mem_append_right _ (List.mem_append_left _ (List.mem_of_getElem? (i := 114) (show tables_1_2[114]? = some _ from rfl)))
theorem z_cw3 : Cond.code (z_nm 3) (z_co 3) (z_ml 3) (z_rt 3) ∈ tables_1 := List.mem_append_right _ (List.mem_append_left _ (List.mem_of_getElem? (i := 204) (show tables_1_2[204]? = some _ from rfl)))
theorem z_cw4 : Cond.code (z_nm 4) (z_co 4) (z_ml 4) (z_rt 4) ∈ tables_1 := List.mem_append_right _ (List.mem_append_right _ (List.mem_append_left _ (List.mem_of_getElem? (i := 47) (show tables_1_3[47]? = some _ from rfl))))
theorem z_cw5 : Cond.code (z_nm 5) (z_co 5) (z_ml 5) (z_rt 5) ∈ tables_1 := List.mem_append_left _ (List.mem_of_getElem? (i := 166) (show tables_1_1[166]? = some _ from rfl))
theorem z_cw6 : Cond.code (z_nm 6) (z_co 6) (z_ml 6) (z_rt 6) ∈ tables_1 := List.mem_append_right _ (List.mem_append_left _ (List.mem_of_getElem? (i := 110) (show tables_1_2[110]? = some _ from rfl)))
theorem z_cw7 : Cond.code (z_nm 7) (z_co 7) (z_ml 7) (z_rt 7) ∈ tables_1 := List.mem_append_right _ (List.mem_append_right _ (List.mem_append_left _ (List.mem_of_getElem? (i := 199) (show tables_1_3[199]? = some _ from rfl))))
theorem z_cw8 : Cond.code (z_nm 8) (z_co 8) (z_ml 8) (z_rt 8) ∈ tables_1 := List.mem_append_right _ (List.mem_append_right _ (List.mem_append_left _ (List.mem_of_getElem? (i := 208) (show tables_1_3[208]? = some _ from rfl))))
theorem z_cw9 : Cond.code (z_nm 9) (z_co 9) (z_ml 9) (z_rt 9) ∈ tables_1 := List.mem_append_left _ (List.mem_of_getElem? (i := 61) (show tables_1_1[61]? = some _ from rfl))
theorem z_cw10 : Cond.code (z_nm 10) (z_co 10) (z_ml 10) (z_rt 10) ∈ tables_1 := List.mem_append_right _ (List.mem_append_left _ (List.mem_of_getElem? (i := 18) (show tables_1_2[18]? = some _ from rfl)))
theorem z_cw11 : Cond.code (z_nm 11) (z_co 11) (z_ml 11) (z_rt 11) ∈ tables_1 := List.mem_append_right _ (List.mem_append_left _ (List.mem_of_getElem? (i := 97) (show tables_1_2[97]? = some _ from rfl)))
theorem z_cw12 : Cond.code (z_nm 12) (z_co 12) (z_ml 12) (z_rt 12) ∈ tables_1 := List.mem_append_right _ (List.mem_append_left _ (List.mem_of_getElem? (i := 122) (show tables_1_2[122]? = some _ from rfl)))
theorem z_cw13 : Cond.code (z_nm 13) (z_co 13) (z_ml 13) (z_rt 13) ∈ tables_1 := List.mem_append_right _ (List.mem_append_left _ (List.mem_of_getElem? (i := 79) (show tables_1_2[79]? = some _ from rfl)))
theorem z_cw14 : Cond.code (z_nm 14) (z_co 14) (z_ml 14) (z_rt 14) ∈ tables_1 := List.mem_append_right _ (List.mem_append_left _ (List.mem_of_getElem? (i := 135) (show tables_1_2[135]? = some _ from rfl)))
theorem z_cw15 : Cond.code (z_nm 15) (z_co 15) (z_ml 15) (z_rt 15) ∈ tables_1 := List.mem_append_right _ (List.mem_append_left _ (List.mem_of_getElem? (i := 130) (show tables_1_2[130]? = some _ from rfl)))
theorem z_cw16 : Cond.code (z_nm 16) (z_co 16) (z_ml 16) (z_rt 16) ∈ tables_1 := List.mem_append_right _ (List.mem_append_left _ (List.mem_of_getElem? (i := 126) (show tables_1_2[126]? = some _ from rfl)))
theorem z_cw17 : Cond.code (z_nm 17) (z_co 17) (z_ml 17) (z_rt 17) ∈ tables_1 := List.mem_append_right _ (List.mem_append_left _ (List.mem_of_getElem? (i := 76) (show tables_1_2[76]? = some _ from rfl)))
theorem z_cw18 : Cond.code (z_nm 18) (z_co 18) (z_ml 18) (z_rt 18) ∈ tables_1 := List.mem_append_right _ (List.mem_append_left _ (List.mem_of_getElem? (i := 233) (show tables_1_2[233]? = some _ from rfl)))
theorem z_cw19 : Cond.code (z_nm 19) (z_co 19) (z_ml 19) (z_rt 19) ∈ tables_1 := List.mem_append_left _ (List.mem_of_getElem? (i := 97) (show tables_1_1[97]? = some _ from rfl))
theorem z_cw20 : Cond.code (z_nm 20) (z_co 20) (z_ml 20) (z_rt 20) ∈ tables_1 := List.mem_append_right _ (List.mem_append_left _ (List.mem_of_getElem? (i := 22) (show tables_1_2[22]? = some _ from rfl)))
theorem z_cw21 : Cond.code (z_nm 21) (z_co 21) (z_ml 21) (z_rt 21) ∈ tables_1 := List.mem_append_right _ (List.mem_append_left _ (List.mem_of_getElem? (i := 101) (show tables_1_2[101]? = some _ from rfl)))
theorem z_cw22 : Cond.code (z_nm 22) (z_co 22) (z_ml 22) (z_rt 22) ∈ tables_1 := List.mem_append_right _ (List.mem_append_left _ (List.mem_of_getElem? (i := 155) (show tables_1_2[155]? = some _ from rfl)))
theorem z_cw23 : Cond.code (z_nm 23) (z_co 23) (z_ml 23) (z_rt 23) ∈ tables_1 := List.mem_append_right _ (List.mem_append_left _ (List.mem_of_getElem? (i := 175) (show tables_1_2[175]? = some _ from rfl)))
theorem z_cw24 : Cond.code (z_nm 24) (z_co 24) (z_ml 24) (z_rt 24) ∈ tables_1 := List.mem_append_right _ (List.mem_append_left _ (List.mem_of_getElem? (i := 163) (show tables_1_2[163]? = some _ from rfl)))
theorem z_cw25 : Cond.code (z_nm 25) (z_co 25) (z_ml 25) (z_rt 25) ∈ tables_1 := List.mem_append_right _ (List.mem_append_left _ (List.mem_of_getElem? (i := 84) (show tables_1_2[84]? = some _ from rfl)))
theorem z_cw26 : Cond.code (z_nm 26) (z_co 26) (z_ml 26) (z_rt 26) ∈ tables_1 := List.mem_append_right _ (List.mem_append_left _ (List.mem_of_getElem? (i := 93) (show tables_1_2[93]? = some _ from rfl)))
theorem z_cw27 : Cond.code (z_nm 27) (z_co 27) (z_ml 27) (z_rt 27) ∈ tables_1 := List.mem_append_right _ (List.mem_append_left _ (List.mem_of_getElem? (i := 190) (show tables_1_2[190]? = some _ from rfl)))
theorem z_cw28 : Cond.code (z_nm 28) (z_co 28) (z_ml 28) (z_rt 28) ∈ tables_1 := List.mem_append_right _ (List.mem_append_left _ (List.mem_of_getElem? (i := 139) (show tables_1_2[139]? = some _ from rfl)))
theorem z_cw29 : Cond.code (z_nm 29) (z_co 29) (z_ml 29) (z_rt 29) ∈ tables_1 := List.mem_append_right _ (List.mem_append_left _ (List.mem_of_getElem? (i := 143) (show tables_1_2[143]? = some _ from rfl)))
theorem z_cw30 : Cond.code (z_nm 30) (z_co 30) (z_ml 30) (z_rt 30) ∈ tables_1 := List.mem_append_right _ (List.mem_append_left _ (List.mem_of_getElem? (i := 159) (show tables_1_2[159]? = some _ from rfl)))
theorem z_cw31 : Cond.code (z_nm 31) (z_co 31) (z_ml 31) (z_rt 31) ∈ tables_1 := List.mem_append_right _ (List.mem_append_right _ (List.mem_append_left _ (List.mem_of_getElem? (i := 170) (show tables_1_3[170]? = some _ from rfl))))
theorem z_cw32 : Cond.code (z_nm 32) (z_co 32) (z_ml 32) (z_rt 32) ∈ tables_1 := List.mem_append_right _ (List.mem_append_right _ (List.mem_append_left _ (List.mem_of_getElem? (i := 0) (show tables_1_3[0]? = some _ from rfl))))
theorem z_cw33 : Cond.code (z_nm 33) (z_co 33) (z_ml 33) (z_rt 33) ∈ tables_1 := List.mem_append_right _ (List.mem_append_left _ (List.mem_of_getElem? (i := 88) (show tables_1_2[88]? = some _ from rfl)))
theorem z_cw34 : Cond.code (z_nm 34) (z_co 34) (z_ml 34) (z_rt 34) ∈ tables_1 := List.mem_append_right _ (List.mem_append_right _ (List.mem_append_left _ (List.mem_of_getElem? (i := 6) (show tables_1_3[6]? = some _ from rfl))))
theorem z_cw35 : Cond.code (z_nm 35) (z_co 35) (z_ml 35) (z_rt 35) ∈ tables_1 := List.mem_append_right _ (List.mem_append_right _ (List.mem_append_left _ (List.mem_of_getElem? (i := 55) (show tables_1_3[55]? = some _ from rfl))))
theorem z_cw36 : Cond.code (z_nm 36) (z_co 36) (z_ml 36) (z_rt 36) ∈ tables_1 := List.mem_append_right _ (List.mem_append_left _ (List.mem_of_getElem? (i := 210) (show tables_1_2[210]? = some _ from rfl)))
theorem z_cw37 : Cond.code (z_nm 37) (z_co 37) (z_ml 37) (z_rt 37) ∈ tables_1 := List.mem_append_right _ (List.mem_append_left _ (List.mem_of_getElem? (i := 215) (show tables_1_2[215]? = some _ from rfl)))
theorem z_cw38 : Cond.code (z_nm 38) (z_co 38) (z_ml 38) (z_rt 38) ∈ tables_1 := List.mem_append_right _ (List.mem_append_left _ (List.mem_of_getElem? (i := 219) (show tables_1_2[219]? = some _ from rfl)))
theorem z_cw39 : Cond.code (z_nm 39) (z_co 39) (z_ml 39) (z_rt 39) ∈ tables_1 := List.mem_append_left _ (List.mem_of_getElem? (i := 55) (show tables_1_1[55]? = some _ from rfl))
theorem z_cw40 : Cond.code (z_nm 40) (z_co 40) (z_ml 40) (z_rt 40) ∈ tables_1 := List.mem_append_right _ (List.mem_append_left _ (List.mem_of_getElem? (i := 14) (show tables_1_2[14]? = some _ from rfl)))
theorem z_cw41 : Cond.code (z_nm 41) (z_co 41) (z_ml 41) (z_rt 41) ∈ tables_1 := List.mem_append_right _ (List.mem_append_left _ (List.mem_of_getElem? (i := 55) (show tables_1_2[55]? = some _ from rfl)))
theorem z_cw42 : Cond.code (z_nm 42) (z_co 42) (z_ml 42) (z_rt 42) ∈ tables_1 := List.mem_append_right _ (List.mem_append_left _ (List.mem_of_getElem? (i := 59) (show tables_1_2[59]? = some _ from rfl)))
theorem z_cw43 : Cond.code (z_nm 43) (z_co 43) (z_ml 43) (z_rt 43) ∈ tables_1 := List.mem_append_right _ (List.mem_append_left _ (List.mem_of_getElem? (i := 63) (show tables_1_2[63]? = some _ from rfl)))
theorem z_cw44 : Cond.code (z_nm 44) (z_co 44) (z_ml 44) (z_rt 44) ∈ tables_1 := List.mem_append_right _ (List.mem_append_left _ (List.mem_of_getElem? (i := 69) (show tables_1_2[69]? = some _ from rfl)))
theorem z_cw45 : Cond.code (z_nm 45) (z_co 45) (z_ml 45) (z_rt 45) ∈ tables_1 := List.mem_append_left _ (List.mem_of_getElem? (i := 25) (show tables_1_1[25]? = some _ from rfl))
theorem z_cw46 : Cond.code (z_nm 46) (z_co 46) (z_ml 46) (z_rt 46) ∈ tables_1 := List.mem_append_right _ (List.mem_append_left _ (List.mem_of_getElem? (i := 6) (show tables_1_2[6]? = some _ from rfl)))
theorem z_cw47 : Cond.code (z_nm 47) (z_co 47) (z_ml 47) (z_rt 47) ∈ tables_1 := List.mem_append_left _ (List.mem_of_getElem? (i := 235) (show tables_1_1[235]? = some _ from rfl))
theorem z_cw48 : Cond.code (z_nm 48) (z_co 48) (z_ml 48) (z_rt 48) ∈ tables_1 := List.mem_append_right _ (List.mem_append_left _ (List.mem_of_getElem? (i := 27) (show tables_1_2[27]? = some _ from rfl)))
theorem z_cw49 : Cond.code (z_nm 49) (z_co 49) (z_ml 49) (z_rt 49) ∈ tables_1 := List.mem_append_right _ (List.mem_append_left _ (List.mem_of_getElem? (i := 35) (show tables_1_2[35]? = some _ from rfl)))
theorem z_cw50 : Cond.code (z_nm 50) (z_co 50) (z_ml 50) (z_rt 50) ∈ tables_1 := List.mem_append_right _ (List.mem_append_left _ (List.mem_of_getElem? (i := 31) (show tables_1_2[31]? = some _ from rfl)))
theorem z_cw51 : Cond.code (z_nm 51) (z_co 51) (z_ml 51) (z_rt 51) ∈ tables_1 := List.mem_append_right _ (List.mem_append_left _ (List.mem_of_getElem? (i := 45) (show tables_1_2[45]? = some _ from rfl)))
theorem z_cw52 : Cond.code (z_nm 52) (z_co 52) (z_ml 52) (z_rt 52) ∈ tables_1 := List.mem_append_right _ (List.mem_append_left _ (List.mem_of_getElem? (i := 41) (show tables_1_2[41]? = some _ from rfl)))
theorem z_cw53 : Cond.code (z_nm 53) (z_co 53) (z_ml 53) (z_rt 53) ∈ tables_1 := List.mem_append_right _ (List.mem_append_left _ (List.mem_of_getElem? (i := 51) (show tables_1_2[51]? = some _ from rfl)))
theorem z_cw54 : Cond.code (z_nm 54) (z_co 54) (z_ml 54) (z_rt 54) ∈ tables_1 := List.mem_append_left _ (List.mem_of_getElem? (i := 181) (show tables_1_1[181]? = some _ from rfl))
theorem z_cw55 : Cond.code (z_nm 55) (z_co 55) (z_ml 55) (z_rt 55) ∈ tables_1 := List.mem_append_right _ (List.mem_append_left _ (List.mem_of_getElem? (i := 106) (show tables_1_2[106]? = some _ from rfl)))
theorem z_cw56 : Cond.code (z_nm 56) (z_co 56) (z_ml 56) (z_rt 56) ∈ tables_1 := List.mem_append_right _ (List.mem_append_right _ (List.mem_append_left _ (List.mem_of_getElem? (i := 107) (show tables_1_3[107]? = some _ from rfl))))
theorem z_cw57 : Cond.code (z_nm 57) (z_co 57) (z_ml 57) (z_rt 57) ∈ tables_1 := List.mem_append_right _ (List.mem_append_right _ (List.mem_append_left _ (List.mem_of_getElem? (i := 128) (show tables_1_3[128]? = some _ from rfl))))
theorem z_cw58 : Cond.code (z_nm 58) (z_co 58) (z_ml 58) (z_rt 58) ∈ tables_1 := List.mem_append_left _ (List.mem_of_getElem? (i := 17) (show tables_1_1[17]? = some _ from rfl))
theorem z_cw59 : Cond.code (z_nm 59) (z_co 59) (z_ml 59) (z_rt 59) ∈ tables_1 := List.mem_append_left _ (List.mem_of_getElem? (i := 231) (show tables_1_1[231]? = some _ from rfl))
theorem z_cw60 : Cond.code (z_nm 60) (z_co 60) (z_ml 60) (z_rt 60) ∈ tables_1 := List.mem_append_right _ (List.mem_append_left _ (List.mem_of_getElem? (i := 2) (show tables_1_2[2]? = some _ from rfl)))
theorem z_cw61 : Cond.code (z_nm 61) (z_co 61) (z_ml 61) (z_rt 61) ∈ tables_1 := List.mem_append_right _ (List.mem_append_left _ (List.mem_of_getElem? (i := 10) (show tables_1_2[10]? = some _ from rfl)))
theorem z_cw62 : Cond.code (z_nm 62) (z_co 62) (z_ml 62) (z_rt 62) ∈ tables_1 := List.mem_append_right _ (List.mem_append_left _ (List.mem_of_getElem? (i := 118) (show tables_1_2[118]? = some _ from rfl)))
theorem z_cw63 : Cond.code (z_nm 63) (z_co 63) (z_ml 63) (z_rt 63) ∈ tables_1 := List.mem_append_right _ (List.mem_append_left _ (List.mem_of_getElem? (i := 147) (show tables_1_2[147]? = some _ from rfl)))
theorem z_cw64 : Cond.code (z_nm 64) (z_co 64) (z_ml 64) (z_rt 64) ∈ tables_1 := List.mem_append_right _ (List.mem_append_left _ (List.mem_of_getElem? (i := 167) (show tables_1_2[167]? = some _ from rfl)))
theorem z_cw65 : Cond.code (z_nm 65) (z_co 65) (z_ml 65) (z_rt 65) ∈ tables_1 := List.mem_append_right _ (List.mem_append_left _ (List.mem_of_getElem? (i := 186) (show tables_1_2[186]? = some _ from rfl)))
theorem z_cw66 : Cond.code (z_nm 66) (z_co 66) (z_ml 66) (z_rt 66) ∈ tables_1 := List.mem_append_right _ (List.mem_append_left _ (List.mem_of_getElem? (i := 200) (show tables_1_2[200]? = some _ from rfl)))
theorem z_cw67 : Cond.code (z_nm 67) (z_co 67) (z_ml 67) (z_rt 67) ∈ tables_1 := List.mem_append_right _ (List.mem_append_right _ (List.mem_append_left _ (List.mem_of_getElem? (i := 12) (show tables_1_3[12]? = some _ from rfl))))
theorem z_cw68 : Cond.code (z_nm 68) (z_co 68) (z_ml 68) (z_rt 68) ∈ tables_1 := List.mem_append_right _ (List.mem_append_right _ (List.mem_append_left _ (List.mem_of_getElem? (i := 22) (show tables_1_3[22]? = some _ from rfl))))
theorem z_cw69 : Cond.code (z_nm 69) (z_co 69) (z_ml 69) (z_rt 69) ∈ tables_1 := List.mem_append_right _ (List.mem_append_right _ (List.mem_append_left _ (List.mem_of_getElem? (i := 27) (show tables_1_3[27]? = some _ from rfl))))
theorem z_cw70 : Cond.code (z_nm 70) (z_co 70) (z_ml 70) (z_rt 70) ∈ tables_1 := List.mem_append_right _ (List.mem_append_right _ (List.mem_append_left _ (List.mem_of_getElem? (i := 37) (show tables_1_3[37]? = some _ from rfl))))
theorem z_cw71 : Cond.code (z_nm 71) (z_co 71) (z_ml 71) (z_rt 71) ∈ tables_1 := List.mem_append_right _ (List.mem_append_right _ (List.mem_append_left _ (List.mem_of_getElem? (i := 43) (show tables_1_3[43]? = some _ from rfl))))
theorem z_cw72 : Cond.code (z_nm 72) (z_co 72) (z_ml 72) (z_rt 72) ∈ tables_1 := List.mem_append_right _ (List.mem_append_right _ (List.mem_append_left _ (List.mem_of_getElem? (i := 51) (show tables_1_3[51]? = some _ from rfl))))
theorem z_cw73 : Cond.code (z_nm 73) (z_co 73) (z_ml 73) (z_rt 73) ∈ tables_1 := List.mem_append_right _ (List.mem_append_right _ (List.mem_append_left _ (List.mem_of_getElem? (i := 61) (show tables_1_3[61]? = some _ from rfl))))
theorem z_cw74 : Cond.code (z_nm 74) (z_co 74) (z_ml 74) (z_rt 74) ∈ tables_1 := List.mem_append_right _ (List.mem_append_right _ (List.mem_append_left _ (List.mem_of_getElem? (i := 65) (show tables_1_3[65]? = some _ from rfl))))
theorem z_cw75 : Cond.code (z_nm 75) (z_co 75) (z_ml 75) (z_rt 75) ∈ tables_1 := List.mem_append_right _ (List.mem_append_right _ (List.mem_append_left _ (List.mem_of_getElem? (i := 69) (show tables_1_3[69]? = some _ from rfl))))
theorem z_cw76 : Cond.code (z_nm 76) (z_co 76) (z_ml 76) (z_rt 76) ∈ tables_1 := List.mem_append_right _ (List.mem_append_right _ (List.mem_append_left _ (List.mem_of_getElem? (i := 78) (show tables_1_3[78]? = some _ from rfl))))
theorem z_cw77 : Cond.code (z_nm 77) (z_co 77) (z_ml 77) (z_rt 77) ∈ tables_1 := List.mem_append_right _ (List.mem_append_right _ (List.mem_append_left _ (List.mem_of_getElem? (i := 86) (show tables_1_3[86]? = some _ from rfl))))
theorem z_cw78 : Cond.code (z_nm 78) (z_co 78) (z_ml 78) (z_rt 78) ∈ tables_1 := List.mem_append_right _ (List.mem_append_right _ (List.mem_append_left _ (List.mem_of_getElem? (i := 103) (show tables_1_3[103]? = some _ from rfl))))
theorem z_cw79 : Cond.code (z_nm 79) (z_co 79) (z_ml 79) (z_rt 79) ∈ tables_1 := List.mem_append_right _ (List.mem_append_right _ (List.mem_append_left _ (List.mem_of_getElem? (i := 112) (show tables_1_3[112]? = some _ from rfl))))
theorem z_cw80 : Cond.code (z_nm 80) (z_co 80) (z_ml 80) (z_rt 80) ∈ tables_1 := List.mem_append_right _ (List.mem_append_right _ (List.mem_append_left _ (List.mem_of_getElem? (i := 116) (show tables_1_3[116]? = some _ from rfl))))
theorem z_cw81 : Cond.code (z_nm 81) (z_co 81) (z_ml 81) (z_rt 81) ∈ tables_1 := List.mem_append_right _ (List.mem_append_right _ (List.mem_append_left _ (List.mem_of_getElem? (i := 133) (show tables_1_3[133]? = some _ from rfl))))
theorem z_cw82 : Cond.code (z_nm 82) (z_co 82) (z_ml 82) (z_rt 82) ∈ tables_1 := List.mem_append_right _ (List.mem_append_right _ (List.mem_append_left _ (List.mem_of_getElem? (i := 154) (show tables_1_3[154]? = some _ from rfl))))
theorem z_cw83 : Cond.code (z_nm 83) (z_co 83) (z_ml 83) (z_rt 83) ∈ tables_1 := List.mem_append_right _ (List.mem_append_right _ (List.mem_append_left _ (List.mem_of_getElem? (i := 195) (show tables_1_3[195]? = some _ from rfl))))
theorem z_cw84 : Cond.code (z_nm 84) (z_co 84) (z_ml 84) (z_rt 84) ∈ tables_1 := List.mem_append_right _ (List.mem_append_right _ (List.mem_append_left _ (List.mem_of_getElem? (i := 204) (show tables_1_3[204]? = some _ from rfl))))
theorem z_cw85 : Cond.code (z_nm 85) (z_co 85) (z_ml 85) (z_rt 85) ∈ tables_1 := List.mem_append_right _ (List.mem_append_right _ (List.mem_append_left _ (List.mem_of_getElem? (i := 213) (show tables_1_3[213]? = some _ from rfl))))
theorem z_cw86 : Cond.code (z_nm 86) (z_co 86) (z_ml 86) (z_rt 86) ∈ tables_1 := List.mem_append_right _ (List.mem_append_right _ (List.mem_append_left _ (List.mem_of_getElem? (i := 217) (show tables_1_3[217]? = some _ from rfl))))
theorem z_cw87 : Cond.code (z_nm 87) (z_co 87) (z_ml 87) (z_rt 87) ∈ tables_1 := List.mem_append_right _ (List.mem_append_left _ (List.mem_of_getElem? (i := 151) (show tables_1_2[151]? = some _ from rfl)))
theorem z_cw88 : Cond.code (z_nm 88) (z_co 88) (z_ml 88) (z_rt 88) ∈ tables_1 := List.mem_append_right _ (List.mem_append_left _ (List.mem_of_getElem? (i := 171) (show tables_1_2[171]? = some _ from rfl)))
theorem z_cw89 : Cond.code (z_nm 89) (z_co 89) (z_ml 89) (z_rt 89) ∈ tables_1 := List.mem_append_right _ (List.mem_append_right _ (List.mem_append_left _ (List.mem_of_getElem? (i := 15) (show tables_1_3[15]? = some _ from rfl))))
theorem z_cw90 : Cond.code (z_nm 90) (z_co 90) (z_ml 90) (z_rt 90) ∈ tables_1 := List.mem_append_right _ (List.mem_append_left _ (List.mem_of_getElem? (i := 179) (show tables_1_2[179]? = some _ from rfl)))
theorem z_cw91 : Cond.code (z_nm 91) (z_co 91) (z_ml 91) (z_rt 91) ∈ tables_1 := List.mem_append_right _ (List.mem_append_left _ (List.mem_of_getElem? (i := 182) (show tables_1_2[182]? = some _ from rfl)))
theorem z_cw92 : Cond.code (z_nm 92) (z_co 92) (z_ml 92) (z_rt 92) ∈ tables_1 := List.mem_append_right _ (List.mem_append_left _ (List.mem_of_getElem? (i := 72) (show tables_1_2[72]? = some _ from rfl)))
theorem z_cw93 : Cond.code (z_nm 93) (z_co 93) (z_ml 93) (z_rt 93) ∈ tables_1 := List.mem_append_right _ (List.mem_append_left _ (List.mem_of_getElem? (i := 222) (show tables_1_2[222]? = some _ from rfl)))
theorem z_cw94 : Cond.code (z_nm 94) (z_co 94) (z_ml 94) (z_rt 94) ∈ tables_1 := List.mem_append_right _ (List.mem_append_left _ (List.mem_of_getElem? (i := 225) (show tables_1_2[225]? = some _ from rfl)))
theorem z_cw95 : Cond.code (z_nm 95) (z_co 95) (z_ml 95) (z_rt 95) ∈ tables_1 := List.mem_append_right _ (List.mem_append_left _ (List.mem_of_getElem? (i := 38) (show tables_1_2[38]? = some _ from rfl)))
theorem z_cw96 : Cond.code (z_nm 96) (z_co 96) (z_ml 96) (z_rt 96) ∈ tables_1 := List.mem_append_left _ (List.mem_of_getElem? (i := 238) (show tables_1_1[238]? = some _ from rfl))
theorem z_cw97 : Cond.code (z_nm 97) (z_co 97) (z_ml 97) (z_rt 97) ∈ tables_1 := List.mem_append_right _ (List.mem_append_right _ (List.mem_append_left _ (List.mem_of_getElem? (i := 74) (show tables_1_3[74]? = some _ from rfl))))
theorem z_cw98 : Cond.code (z_nm 98) (z_co 98) (z_ml 98) (z_rt 98) ∈ tables_1 := List.mem_append_right _ (List.mem_append_right _ (List.mem_append_left _ (List.mem_of_getElem? (i := 82) (show tables_1_3[82]? = some _ from rfl))))
theorem z_cw99 : Cond.code (z_nm 99) (z_co 99) (z_ml 99) (z_rt 99) ∈ tables_1 := List.mem_append_right _ (List.mem_append_right _ (List.mem_append_left _ (List.mem_of_getElem? (i := 90) (show tables_1_3[90]? = some _ from rfl))))
theorem z_cw100 : Cond.code (z_nm 100) (z_co 100) (z_ml 100) (z_rt 100) ∈ tables_1 := List.mem_append_right _ (List.mem_append_right _ (List.mem_append_left _ (List.mem_of_getElem? (i := 93) (show tables_1_3[93]? = some _ from rfl))))
theorem z_cw101 : Cond.code (z_nm 101) (z_co 101) (z_ml 101) (z_rt 101) ∈ tables_1 := List.mem_append_right _ (List.mem_append_right _ (List.mem_append_left _ (List.mem_of_getElem? (i := 96) (show tables_1_3[96]? = some _ from rfl))))
theorem z_cw102 : Cond.code (z_nm 102) (z_co 102) (z_ml 102) (z_rt 102) ∈ tables_1 := List.mem_append_right _ (List.mem_append_right _ (List.mem_append_left _ (List.mem_of_getElem? (i := 120) (show tables_1_3[120]? = some _ from rfl))))
theorem z_cw103 : Cond.code (z_nm 103) (z_co 103) (z_ml 103) (z_rt 103) ∈ tables_1 := List.mem_append_right _ (List.mem_append_right _ (List.mem_append_left _ (List.mem_of_getElem? (i := 124) (show tables_1_3[124]? = some _ from rfl))))
theorem z_cw104 : Cond.code (z_nm 104) (z_co 104) (z_ml 104) (z_rt 104) ∈ tables_1 := List.mem_append_right _ (List.mem_append_right _ (List.mem_append_left _ (List.mem_of_getElem? (i := 140) (show tables_1_3[140]? = some _ from rfl))))
theorem z_cw105 : Cond.code (z_nm 105) (z_co 105) (z_ml 105) (z_rt 105) ∈ tables_1 := List.mem_append_right _ (List.mem_append_right _ (List.mem_append_left _ (List.mem_of_getElem? (i := 137) (show tables_1_3[137]? = some _ from rfl))))
theorem z_cw106 : Cond.code (z_nm 106) (z_co 106) (z_ml 106) (z_rt 106) ∈ tables_1 := List.mem_append_right _ (List.mem_append_right _ (List.mem_append_left _ (List.mem_of_getElem? (i := 145) (show tables_1_3[145]? = some _ from rfl))))
theorem z_cw107 : Cond.code (z_nm 107) (z_co 107) (z_ml 107) (z_rt 107) ∈ tables_1 := List.mem_append_right _ (List.mem_append_right _ (List.mem_append_left _ (List.mem_of_getElem? (i := 150) (show tables_1_3[150]? = some _ from rfl))))
theorem z_cw108 : Cond.code (z_nm 108) (z_co 108) (z_ml 108) (z_rt 108) ∈ tables_1 := List.mem_append_right _ (List.mem_append_right _ (List.mem_append_left _ (List.mem_of_getElem? (i := 159) (show tables_1_3[159]? = some _ from rfl))))
theorem z_cw109 : Cond.code (z_nm 109) (z_co 109) (z_ml 109) (z_rt 109) ∈ tables_1 := List.mem_append_right _ (List.mem_append_right _ (List.mem_append_left _ (List.mem_of_getElem? (i := 165) (show tables_1_3[165]? = some _ from rfl))))
theorem z_cw110 : Cond.code (z_nm 110) (z_co 110) (z_ml 110) (z_rt 110) ∈ tables_1 := List.mem_append_right _ (List.mem_append_right _ (List.mem_append_left _ (List.mem_of_getElem? (i := 175) (show tables_1_3[175]? = some _ from rfl))))
theorem z_cw111 : Cond.code (z_nm 111) (z_co 111) (z_ml 111) (z_rt 111) ∈ tables_1 := List.mem_append_right _ (List.mem_append_right _ (List.mem_append_left _ (List.mem_of_getElem? (i := 180) (show tables_1_3[180]? = some _ from rfl))))
theorem z_cw112 : Cond.code (z_nm 112) (z_co 112) (z_ml 112) (z_rt 112) ∈ tables_1 := List.mem_append_right _ (List.mem_append_right _ (List.mem_append_left _ (List.mem_of_getElem? (i := 185) (show tables_1_3[185]? = some _ from rfl))))
theorem z_cw113 : Cond.code (z_nm 113) (z_co 113) (z_ml 113) (z_rt 113) ∈ tables_1 := List.mem_append_right _ (List.mem_append_right _ (List.mem_append_left _ (List.mem_of_getElem? (i := 190) (show tables_1_3[190]? = some _ from rfl))))
theorem z_cw114 : Cond.code (z_nm 114) (z_co 114) (z_ml 114) (z_rt 114) ∈ tables_1 := List.mem_append_right _ (List.mem_append_right _ (List.mem_append_left _ (List.mem_of_getElem? (i := 222) (show tables_1_3[222]? = some _ from rfl))))
theorem z_cw115 : Cond.code (z_nm 115) (z_co 115) (z_ml 115) (z_rt 115) ∈ tables_1 := List.mem_append_right _ (List.mem_append_right _ (List.mem_append_right _ (List.mem_append_left _ (List.mem_of_getElem? (i := 70) (show tables_1_4[70]? = some _ from rfl)))))
theorem z_cw116 : Cond.code (z_nm 116) (z_co 116) (z_ml 116) (z_rt 116) ∈ tables_1 := List.mem_append_right _ (List.mem_append_right _ (List.mem_append_right _ (List.mem_append_left _ (List.mem_of_getElem? (i := 182) (show tables_1_4[182]? = some _ from rfl)))))
theorem z_cw117 : Cond.code (z_nm 117) (z_co 117) (z_ml 117) (z_rt 117) ∈ tables_1 := List.mem_append_right _ (List.mem_append_right _ (List.mem_append_right _ (List.mem_append_left _ (List.mem_of_getElem? (i := 159) (show tables_1_4[159]? = some _ from rfl)))))
theorem z_cw118 : Cond.code (z_nm 118) (z_co 118) (z_ml 118) (z_rt 118) ∈ tables_1 := List.mem_append_right _ (List.mem_append_right _ (List.mem_append_left _ (List.mem_of_getElem? (i := 227) (show tables_1_3[227]? = some _ from rfl))))
theorem z_cw119 : Cond.code (z_nm 119) (z_co 119) (z_ml 119) (z_rt 119) ∈ tables_1 := List.mem_append_right _ (List.mem_append_right _ (List.mem_append_left _ (List.mem_of_getElem? (i := 231) (show tables_1_3[231]? = some _ from rfl))))
theorem z_cw120 : Cond.code (z_nm 120) (z_co 120) (z_ml 120) (z_rt 120) ∈ tables_1 := List.mem_append_right _ (List.mem_append_right _ (List.mem_append_right _ (List.mem_append_left _ (List.mem_of_getElem? (i := 67) (show tables_1_4[67]? = some _ from rfl)))))
theorem z_cw121 : Cond.code (z_nm 121) (z_co 121) (z_ml 121) (z_rt 121) ∈ tables_1 := List.mem_append_right _ (List.mem_append_right _ (List.mem_append_right _ (List.mem_append_left _ (List.mem_of_getElem? (i := 74) (show tables_1_4[74]? = some _ from rfl)))))
theorem z_cw122 : Cond.code (z_nm 122) (z_co 122) (z_ml 122) (z_rt 122) ∈ tables_1 := List.mem_append_right _ (List.mem_append_right _ (List.mem_append_right _ (List.mem_append_left _ (List.mem_of_getElem? (i := 82) (show tables_1_4[82]? = some _ from rfl)))))
theorem z_cw123 : Cond.code (z_nm 123) (z_co 123) (z_ml 123) (z_rt 123) ∈ tables_1 := List.mem_append_right _ (List.mem_append_right _ (List.mem_append_right _ (List.mem_append_left _ (List.mem_of_getElem? (i := 94) (show tables_1_4[94]? = some _ from rfl)))))
theorem z_cw124 : Cond.code (z_nm 124) (z_co 124) (z_ml 124) (z_rt 124) ∈ tables_1 := List.mem_append_right _ (List.mem_append_right _ (List.mem_append_right _ (List.mem_append_left _ (List.mem_of_getElem? (i := 98) (show tables_1_4[98]? = some _ from rfl)))))
theorem z_cw125 : Cond.code (z_nm 125) (z_co 125) (z_ml 125) (z_rt 125) ∈ tables_1 := List.mem_append_right _ (List.mem_append_right _ (List.mem_append_right _ (List.mem_append_left _ (List.mem_of_getElem? (i := 90) (show tables_1_4[90]? = some _ from rfl)))))
theorem z_cw126 : Cond.code (z_nm 126) (z_co 126) (z_ml 126) (z_rt 126) ∈ tables_1 := List.mem_append_right _ (List.mem_append_right _ (List.mem_append_right _ (List.mem_append_left _ (List.mem_of_getElem? (i := 106) (show tables_1_4[106]? = some _ from rfl)))))
theorem z_cw127 : Cond.code (z_nm 127) (z_co 127) (z_ml 127) (z_rt 127) ∈ tables_1 := List.mem_append_right _ (List.mem_append_right _ (List.mem_append_right _ (List.mem_append_left _ (List.mem_of_getElem? (i := 102) (show tables_1_4[102]? = some _ from rfl)))))
theorem z_cw128 : Cond.code (z_nm 128) (z_co 128) (z_ml 128) (z_rt 128) ∈ tables_1 := List.mem_append_right _ (List.mem_append_right _ (List.mem_append_right _ (List.mem_append_left _ (List.mem_of_getElem? (i := 110) (show tables_1_4[110]? = some _ from rfl)))))
theorem z_cw129 : Cond.code (z_nm 129) (z_co 129) (z_ml 129) (z_rt 129) ∈ tables_1 := List.mem_append_right _ (List.mem_append_right _ (List.mem_append_right _ (List.mem_append_left _ (List.mem_of_getElem? (i := 114) (show tables_1_4[114]? = some _ from rfl)))))
theorem z_cw130 : Cond.code (z_nm 130) (z_co 130) (z_ml 130) (z_rt 130) ∈ tables_1 := List.mem_append_right _ (List.mem_append_right _ (List.mem_append_right _ (List.mem_append_left _ (List.mem_of_getElem? (i := 86) (show tables_1_4[86]? = some _ from rfl)))))
theorem z_cw131 : Cond.code (z_nm 131) (z_co 131) (z_ml 131) (z_rt 131) ∈ tables_1 := List.mem_append_right _ (List.mem_append_right _ (List.mem_append_right _ (List.mem_append_left _ (List.mem_of_getElem? (i := 78) (show tables_1_4[78]? = some _ from rfl)))))
theorem z_cw132 : Cond.code (z_nm 132) (z_co 132) (z_ml 132) (z_rt 132) ∈ tables_1 := List.mem_append_right _ (List.mem_append_right _ (List.mem_append_right _ (List.mem_append_left _ (List.mem_of_getElem? (i := 140) (show tables_1_4[140]? = some _ from rfl)))))
theorem z_cw133 : Cond.code (z_nm 133) (z_co 133) (z_ml 133) (z_rt 133) ∈ tables_1 := List.mem_append_right _ (List.mem_append_right _ (List.mem_append_right _ (List.mem_append_left _ (List.mem_of_getElem? (i := 122) (show tables_1_4[122]? = some _ from rfl)))))
theorem z_cw134 : Cond.code (z_nm 134) (z_co 134) (z_ml 134) (z_rt 134) ∈ tables_1 := List.mem_append_right _ (List.mem_append_right _ (List.mem_append_right _ (List.mem_append_left _ (List.mem_of_getElem? (i := 125) (show tables_1_4[125]? = some _ from rfl)))))
theorem z_cw135 : Cond.code (z_nm 135) (z_co 135) (z_ml 135) (z_rt 135) ∈ tables_1 := List.mem_append_right _ (List.mem_append_right _ (List.mem_append_right _ (List.mem_append_left _ (List.mem_of_getElem? (i := 193) (show tables_1_4[193]? = some _ from rfl)))))
theorem z_cw136 : Cond.code (z_nm 136) (z_co 136) (z_ml 136) (z_rt 136) ∈ tables_1 := List.mem_append_right _ (List.mem_append_right _ (List.mem_append_right _ (List.mem_append_left _ (List.mem_of_getElem? (i := 189) (show tables_1_4[189]? = some _ from rfl)))))
theorem z_cw137 : Cond.code (z_nm 137) (z_co 137) (z_ml 137) (z_rt 137) ∈ tables_1 := List.mem_append_right _ (List.mem_append_right _ (List.mem_append_right _ (List.mem_append_left _ (List.mem_of_getElem? (i := 129) (show tables_1_4[129]? = some _ from rfl)))))
theorem z_cw138 : Cond.code (z_nm 138) (z_co 138) (z_ml 138) (z_rt 138) ∈ tables_1 := List.mem_append_right _ (List.mem_append_right _ (List.mem_append_right _ (List.mem_append_left _ (List.mem_of_getElem? (i := 148) (show tables_1_4[148]? = some _ from rfl)))))
theorem z_cw139 : Cond.code (z_nm 139) (z_co 139) (z_ml 139) (z_rt 139) ∈ tables_1 := List.mem_append_right _ (List.mem_append_right _ (List.mem_append_right _ (List.mem_append_left _ (List.mem_of_getElem? (i := 137) (show tables_1_4[137]? = some _ from rfl)))))
theorem z_cw140 : Cond.code (z_nm 140) (z_co 140) (z_ml 140) (z_rt 140) ∈ tables_1 := List.mem_append_right _ (List.mem_append_right _ (List.mem_append_right _ (List.mem_append_left _ (List.mem_of_getElem? (i := 171) (show tables_1_4[171]? = some _ from rfl)))))
theorem z_cw141 : Cond.code (z_nm 141) (z_co 141) (z_ml 141) (z_rt 141) ∈ tables_1 := List.mem_append_right _ (List.mem_append_right _ (List.mem_append_left _ (List.mem_of_getElem? (i := 239) (show tables_1_3[239]? = some _ from rfl))))
theorem z_cw142 : Cond.code (z_nm 142) (z_co 142) (z_ml 142) (z_rt 142) ∈ tables_1 := List.mem_append_right _ (List.mem_append_right _ (List.mem_append_left _ (List.mem_of_getElem? (i := 235) (show tables_1_3[235]? = some _ from rfl))))
theorem z_cw143 : Cond.code (z_nm 143) (z_co 143) (z_ml 143) (z_rt 143) ∈ tables_1 := List.mem_append_right _ (List.mem_append_right _ (List.mem_append_right _ (List.mem_append_left _ (List.mem_of_getElem? (i := 197) (show tables_1_4[197]? = some _ from rfl)))))
theorem z_cw144 : Cond.code (z_nm 144) (z_co 144) (z_ml 144) (z_rt 144) ∈ tables_1 := List.mem_append_right _ (List.mem_append_right _ (List.mem_append_right _ (List.mem_append_left _ (List.mem_of_getElem? (i := 205) (show tables_1_4[205]? = some _ from rfl)))))
theorem z_cw145 : Cond.code (z_nm 145) (z_co 145) (z_ml 145) (z_rt 145) ∈ tables_1 := List.mem_append_right _ (List.mem_append_right _ (List.mem_append_right _ (List.mem_append_left _ (List.mem_of_getElem? (i := 201) (show tables_1_4[201]? = some _ from rfl)))))
theorem z_cw146 : Cond.code (z_nm 146) (z_co 146) (z_ml 146) (z_rt 146) ∈ tables_1 := List.mem_append_right _ (List.mem_append_right _ (List.mem_append_right _ (List.mem_append_left _ (List.mem_of_getElem? (i := 185) (show tables_1_4[185]? = some _ from rfl)))))
theorem z_cw147 : Cond.code (z_nm 147) (z_co 147) (z_ml 147) (z_rt 147) ∈ tables_1 := List.mem_append_right _ (List.mem_append_right _ (List.mem_append_right _ (List.mem_append_left _ (List.mem_of_getElem? (i := 179) (show tables_1_4[179]? = some _ from rfl)))))
theorem z_cw148 : Cond.code (z_nm 148) (z_co 148) (z_ml 148) (z_rt 148) ∈ tables_1 := List.mem_append_right _ (List.mem_append_right _ (List.mem_append_right _ (List.mem_append_left _ (List.mem_of_getElem? (i := 175) (show tables_1_4[175]? = some _ from rfl)))))
theorem z_cw149 : Cond.code (z_nm 149) (z_co 149) (z_ml 149) (z_rt 149) ∈ tables_1 := List.mem_append_right _ (List.mem_append_right _ (List.mem_append_right _ (List.mem_append_left _ (List.mem_of_getElem? (i := 233) (show tables_1_4[233]? = some _ from rfl)))))
theorem z_cw150 : Cond.code (z_nm 150) (z_co 150) (z_ml 150) (z_rt 150) ∈ tables_1 := List.mem_append_right _ (List.mem_append_right _ (List.mem_append_right _ (List.mem_append_left _ (List.mem_of_getElem? (i := 156) (show tables_1_4[156]? = some _ from rfl)))))
theorem z_cw151 : Cond.code (z_nm 151) (z_co 151) (z_ml 151) (z_rt 151) ∈ tables_1 := List.mem_append_right _ (List.mem_append_right _ (List.mem_append_right _ (List.mem_append_left _ (List.mem_of_getElem? (i := 118) (show tables_1_4[118]? = some _ from rfl)))))
theorem z_cw152 : Cond.code (z_nm 152) (z_co 152) (z_ml 152) (z_rt 152) ∈ tables_1 := List.mem_append_right _ (List.mem_append_right _ (List.mem_append_right _ (List.mem_append_left _ (List.mem_of_getElem? (i := 133) (show tables_1_4[133]? = some _ from rfl)))))
theorem z_cw153 : Cond.code (z_nm 153) (z_co 153) (z_ml 153) (z_rt 153) ∈ tables_1 := List.mem_append_right _ (List.mem_append_right _ (List.mem_append_right _ (List.mem_append_left _ (List.mem_of_getElem? (i := 144) (show tables_1_4[144]? = some _ from rfl)))))
theorem z_cw154 : Cond.code (z_nm 154) (z_co 154) (z_ml 154) (z_rt 154) ∈ tables_1 := List.mem_append_right _ (List.mem_append_right _ (List.mem_append_right _ (List.mem_append_left _ (List.mem_of_getElem? (i := 152) (show tables_1_4[152]? = some _ from rfl)))))
theorem z_cw155 : Cond.code (z_nm 155) (z_co 155) (z_ml 155) (z_rt 155) ∈ tables_1 := List.mem_append_right _ (List.mem_append_right _ (List.mem_append_right _ (List.mem_append_left _ (List.mem_of_getElem? (i := 167) (show tables_1_4[167]? = some _ from rfl)))))
theorem z_cw156 : Cond.code (z_nm 156) (z_co 156) (z_ml 156) (z_rt 156) ∈ tables_1 := List.mem_append_right _ (List.mem_append_right _ (List.mem_append_right _ (List.mem_append_left _ (List.mem_of_getElem? (i := 163) (show tables_1_4[163]? = some _ from rfl)))))
theorem z_cw157 : Cond.code (z_nm 157) (z_co 157) (z_ml 157) (z_rt 157) ∈ tables_1 := List.mem_append_right _ (List.mem_append_right _ (List.mem_append_right _ (List.mem_append_left _ (List.mem_of_getElem? (i := 209) (show tables_1_4[209]? = some _ from rfl)))))
theorem z_cw158 : Cond.code (z_nm 158) (z_co 158) (z_ml 158) (z_rt 158) ∈ tables_1 := List.mem_append_right _ (List.mem_append_right _ (List.mem_append_right _ (List.mem_append_left _ (List.mem_of_getElem? (i := 213) (show tables_1_4[213]? = some _ from rfl)))))
theorem z_cw159 : Cond.code (z_nm 159) (z_co 159) (z_ml 159) (z_rt 159) ∈ tables_1 := List.mem_append_right _ (List.mem_append_right _ (List.mem_append_right _ (List.mem_append_left _ (List.mem_of_getElem? (i := 217) (show tables_1_4[217]? = some _ from rfl)))))
theorem z_cw160 : Cond.code (z_nm 160) (z_co 160) (z_ml 160) (z_rt 160) ∈ tables_1 := List.mem_append_right _ (List.mem_append_right _ (List.mem_append_right _ (List.mem_append_left _ (List.mem_of_getElem? (i := 221) (show tables_1_4[221]? = some _ from rfl)))))
theorem z_cw161 : Cond.code (z_nm 161) (z_co 161) (z_ml 161) (z_rt 161) ∈ tables_1 := List.mem_append_right _ (List.mem_append_right _ (List.mem_append_right _ (List.mem_append_left _ (List.mem_of_getElem? (i := 225) (show tables_1_4[225]? = some _ from rfl)))))
theorem z_cw162 : Cond.code (z_nm 162) (z_co 162) (z_ml 162) (z_rt 162) ∈ tables_1 := List.mem_append_right _ (List.mem_append_right _ (List.mem_append_right _ (List.mem_append_left _ (List.mem_of_getElem? (i := 229) (show tables_1_4[229]? = some _ from rfl)))))
theorem z_cw163 : Cond.code (z_nm 163) (z_co 163) (z_ml 163) (z_rt 163) ∈ tables_1 := List.mem_append_right _ (List.mem_append_right _ (List.mem_append_right _ (List.mem_append_left _ (List.mem_of_getElem? (i := 237) (show tables_1_4[237]? = some _ from rfl)))))
theorem z_cw164 : Cond.code (z_nm 164) (z_co 164) (z_ml 164) (z_rt 164) ∈ tables_1 := List.mem_append_right _ (List.mem_append_right _ (List.mem_append_right _ (List.mem_append_right _ (List.mem_of_getElem? (i := 1) (show tables_1_5[1]? = some _ from rfl)))))
theorem z_cw165 : Cond.code (z_nm 165) (z_co 165) (z_ml 165) (z_rt 165) ∈ tables_1 := List.mem_append_right _ (List.mem_append_right _ (List.mem_append_right _ (List.mem_append_right _ (List.mem_of_getElem? (i := 5) (show tables_1_5[5]? = some _ from rfl)))))
theorem z_cw166 : Cond.code (z_nm 166) (z_co 166) (z_ml 166) (z_rt 166) ∈ tables_1 := List.mem_append_right _ (List.mem_append_right _ (List.mem_append_right _ (List.mem_append_right _ (List.mem_of_getElem? (i := 9) (show tables_1_5[9]? = some _ from rfl)))))
theorem z_cw167 : Cond.code (z_nm 167) (z_co 167) (z_ml 167) (z_rt 167) ∈ tables_1 := List.mem_append_right _ (List.mem_append_right _ (List.mem_append_right _ (List.mem_append_right _ (List.mem_of_getElem? (i := 13) (show tables_1_5[13]? = some _ from rfl)))))
theorem z_cw168 : Cond.code (z_nm 168) (z_co 168) (z_ml 168) (z_rt 168) ∈ tables_1 := List.mem_append_right _ (List.mem_append_right _ (List.mem_append_right _ (List.mem_append_right _ (List.mem_of_getElem? (i := 17) (show tables_1_5[17]? = some _ from rfl)))))
theorem z_cw169 : Cond.code (z_nm 169) (z_co 169) (z_ml 169) (z_rt 169) ∈ tables_1 := List.mem_append_right _ (List.mem_append_right _ (List.mem_append_right _ (List.mem_append_right _ (List.mem_of_getElem? (i := 21) (show tables_1_5[21]? = some _ from rfl)))))
theorem z_cw170 : Cond.code (z_nm 170) (z_co 170) (z_ml 170) (z_rt 170) ∈ tables_1 := List.mem_append_right _ (List.mem_append_right _ (List.mem_append_right _ (List.mem_append_right _ (List.mem_of_getElem? (i := 29) (show tables_1_5[29]? = some _ from rfl)))))
theorem z_cw171 : Cond.code (z_nm 171) (z_co 171) (z_ml 171) (z_rt 171) ∈ tables_1 := List.mem_append_right _ (List.mem_append_right _ (List.mem_append_right _ (List.mem_append_right _ (List.mem_of_getElem? (i := 25) (show tables_1_5[25]? = some _ from rfl)))))
theorem z_cw172 : Cond.code (z_nm 172) (z_co 172) (z_ml 172) (z_rt 172) ∈ tables_1 := List.mem_append_right _ (List.mem_append_right _ (List.mem_append_right _ (List.mem_append_right _ (List.mem_of_getElem? (i := 37) (show tables_1_5[37]? = some _ from rfl)))))
theorem z_cw173 : Cond.code (z_nm 173) (z_co 173) (z_ml 173) (z_rt 173) ∈ tables_1 := List.mem_append_right _ (List.mem_append_right _ (List.mem_append_right _ (List.mem_append_right _ (List.mem_of_getElem? (i := 33) (show tables_1_5[33]? = some _ from rfl)))))
theorem z_cw174 : Cond.code (z_nm 174) (z_co 174) (z_ml 174) (z_rt 174) ∈ tables_1 := List.mem_append_right _ (List.mem_append_right _ (List.mem_append_right _ (List.mem_append_right _ (List.mem_of_getElem? (i := 46) (show tables_1_5[46]? = some _ from rfl)))))
theorem z_cw175 : Cond.code (z_nm 175) (z_co 175) (z_ml 175) (z_rt 175) ∈ tables_1 := List.mem_append_right _ (List.mem_append_right _ (List.mem_append_right _ (List.mem_append_right _ (List.mem_of_getElem? (i := 50) (show tables_1_5[50]? = some _ from rfl)))))
theorem z_cw176 : Cond.code (z_nm 176) (z_co 176) (z_ml 176) (z_rt 176) ∈ tables_1 := List.mem_append_right _ (List.mem_append_right _ (List.mem_append_right _ (List.mem_append_right _ (List.mem_of_getElem? (i := 55) (show tables_1_5[55]? = some _ from rfl)))))
theorem z_cw177 : Cond.code (z_nm 177) (z_co 177) (z_ml 177) (z_rt 177) ∈ tables_1 := List.mem_append_right _ (List.mem_append_right _ (List.mem_append_right _ (List.mem_append_right _ (List.mem_of_getElem? (i := 41) (show tables_1_5[41]? = some _ from rfl)))))
theorem z_cw178 : Cond.code (z_nm 178) (z_co 178) (z_ml 178) (z_rt 178) ∈ tables_1 := List.mem_append_right _ (List.mem_append_right _ (List.mem_append_right _ (List.mem_append_right _ (List.mem_of_getElem? (i := 63) (show tables_1_5[63]? = some _ from rfl)))))
theorem z_cw179 : Cond.code (z_nm 179) (z_co 179) (z_ml 179) (z_rt 179) ∈ tables_1 := List.mem_append_right _ (List.mem_append_right _ (List.mem_append_right _ (List.mem_append_right _ (List.mem_of_getElem? (i := 67) (show tables_1_5[67]? = some _ from rfl)))))
theorem z_cw180 : Cond.code (z_nm 180) (z_co 180) (z_ml 180) (z_rt 180) ∈ tables_1 := List.mem_append_right _ (List.mem_append_right _ (List.mem_append_right _ (List.mem_append_right _ (List.mem_of_getElem? (i := 71) (show tables_1_5[71]? = some _ from rfl)))))
theorem z_cw181 : Cond.code (z_nm 181) (z_co 181) (z_ml 181) (z_rt 181) ∈ tables_1 := List.mem_append_right _ (List.mem_append_right _ (List.mem_append_right _ (List.mem_append_right _ (List.mem_of_getElem? (i := 75) (show tables_1_5[75]? = some _ from rfl)))))
theorem z_cw182 : Cond.code (z_nm 182) (z_co 182) (z_ml 182) (z_rt 182) ∈ tables_1 := List.mem_append_right _ (List.mem_append_right _ (List.mem_append_left _ (List.mem_of_getElem? (i := 30) (show tables_1_3[30]? = some _ from rfl))))
theorem z_cw183 : Cond.code (z_nm 183) (z_co 183) (z_ml 183) (z_rt 183) ∈ tables_1 := List.mem_append_right _ (List.mem_append_left _ (List.mem_of_getElem? (i := 193) (show tables_1_2[193]? = some _ from rfl)))
def z_P4 (y : Nat) : Prop := Cond.code (z_nm y) (z_co y) (z_ml y) (z_rt y) ∈ tables_1
theorem z_cwc0 : ∀ y ∈ [1, 2, 3, 4, 5, 6, 7, 8, 9, 10, 11, 12, 13, 14, 15, 16, 17, 18, 19, 20, 21, 22, 23, 24, 25], z_P4 y := List.forall_mem_cons.mpr ⟨z_cw1, List.forall_mem_cons.mpr ⟨z_cw2, List.forall_mem_cons.mpr ⟨z_cw3, List.forall_mem_cons.mpr ⟨z_cw4, List.forall_mem_cons.mpr ⟨z_cw5, List.forall_mem_cons.mpr ⟨z_cw6, List.forall_mem_cons.mpr ⟨z_cw7, List.forall_mem_cons.mpr ⟨z_cw8, List.forall_mem_cons.mpr ⟨z_cw9, List.forall_mem_cons.mpr ⟨z_cw10, List.forall_mem_cons.mpr ⟨z_cw11, List.forall_mem_cons.mpr ⟨z_cw12, List.forall_mem_cons.mpr ⟨z_cw13, List.forall_mem_cons.mpr ⟨z_cw14, List.forall_mem_cons.mpr ⟨z_cw15, List.forall_mem_cons.mpr ⟨z_cw16, List.forall_mem_cons.mpr ⟨z_cw17, List.forall_mem_cons.mpr ⟨z_cw18, List.forall_mem_cons.mpr ⟨z_cw19, List.forall_mem_cons.mpr ⟨z_cw20, List.forall_mem_cons.mpr ⟨z_cw21, List.forall_mem_cons.mpr ⟨z_cw22, List.forall_mem_cons.mpr ⟨z_cw23, List.forall_mem_cons.mpr ⟨z_cw24, List.forall_mem_cons.mpr ⟨z_cw25, fun _ h => absurd h List.not_mem_nil⟩⟩⟩⟩⟩⟩⟩⟩⟩⟩⟩⟩⟩⟩⟩⟩⟩⟩⟩⟩⟩⟩⟩⟩⟩
theorem z_cwc1 : ∀ y ∈ [26, 27, 28, 29, 30, 31, 32, 33, 34, 35, 36, 37, 38, 39, 40, 41, 42, 43, 44, 45, 46, 47, 48, 49, 50], z_P4 y := List.forall_mem_cons.mpr ⟨z_cw26, List.forall_mem_cons.mpr ⟨z_cw27, List.forall_mem_cons.mpr ⟨z_cw28, List.forall_mem_cons.mpr ⟨z_cw29, List.forall_mem_cons.mpr ⟨z_cw30, List.forall_mem_cons.mpr ⟨z_cw31, List.forall_mem_cons.mpr ⟨z_cw32, List.forall_mem_cons.mpr ⟨z_cw33, List.forall_mem_cons.mpr ⟨z_cw34, List.forall_mem_cons.mpr ⟨z_cw35, List.forall_mem_cons.mpr ⟨z_cw36, List.forall_mem_cons.mpr ⟨z_cw37, List.forall_mem_cons.mpr ⟨z_cw38, List.forall_mem_cons.mpr ⟨z_cw39, List.forall_mem_cons.mpr ⟨z_cw40, List.forall_mem_cons.mpr ⟨z_cw41, List.forall_mem_cons.mpr ⟨z_cw42, List.forall_mem_cons.mpr ⟨z_cw43, List.forall_mem_cons.mpr ⟨z_cw44, List.forall_mem_cons.mpr ⟨z_cw45, List.forall_mem_cons.mpr ⟨z_cw46, List.forall_mem_cons.mpr ⟨z_cw47, List.forall_mem_cons.mpr ⟨z_cw48, List.forall_mem_cons.mpr ⟨z_cw49, List.forall_mem_cons.mpr ⟨z_cw50, fun _ h => absurd h List.not_mem_nil⟩⟩⟩⟩⟩⟩⟩⟩⟩⟩⟩⟩⟩⟩⟩⟩⟩⟩⟩⟩⟩⟩⟩⟩⟩
theorem z_cwc2 : ∀ y ∈ [51, 52, 53, 54, 55, 56, 57, 58, 59, 60, 61, 62, 63, 64, 65, 66, 67, 68, 69, 70, 71, 72, 73, 74, 75], z_P4 y := List.forall_mem_cons.mpr ⟨z_cw51, List.forall_mem_cons.mpr ⟨z_cw52, List.forall_mem_cons.mpr ⟨z_cw53, List.forall_mem_cons.mpr ⟨z_cw54, List.forall_mem_cons.mpr ⟨z_cw55, List.forall_mem_cons.mpr ⟨z_cw56, List.forall_mem_cons.mpr ⟨z_cw57, List.forall_mem_cons.mpr ⟨z_cw58, List.forall_mem_cons.mpr ⟨z_cw59, List.forall_mem_cons.mpr ⟨z_cw60, List.forall_mem_cons.mpr ⟨z_cw61, List.forall_mem_cons.mpr ⟨z_cw62, List.forall_mem_cons.mpr ⟨z_cw63, List.forall_mem_cons.mpr ⟨z_cw64, List.forall_mem_cons.mpr ⟨z_cw65, List.forall_mem_cons.mpr ⟨z_cw66, List.forall_mem_cons.mpr ⟨z_cw67, List.forall_mem_cons.mpr ⟨z_cw68, List.forall_mem_cons.mpr ⟨z_cw69, List.forall_mem_cons.mpr ⟨z_cw70, List.forall_mem_cons.mpr ⟨z_cw71, List.forall_mem_cons.mpr ⟨z_cw72, List.forall_mem_cons.mpr ⟨z_cw73, List.forall_mem_cons.mpr ⟨z_cw74, List.forall_mem_cons.mpr ⟨z_cw75, fun _ h => absurd h List.not_mem_nil⟩⟩⟩⟩⟩⟩⟩⟩⟩⟩⟩⟩⟩⟩⟩⟩⟩⟩⟩⟩⟩⟩⟩⟩⟩
theorem z_cwc3 : ∀ y ∈ [76, 77, 78, 79, 80, 81, 82, 83, 84, 85, 86, 87, 88, 89, 90, 91, 92, 93, 94, 95, 96, 97, 98, 99, 100], z_P4 y := List.forall_mem_cons.mpr ⟨z_cw76, List.forall_mem_cons.mpr ⟨z_cw77, List.forall_mem_cons.mpr ⟨z_cw78, List.forall_mem_cons.mpr ⟨z_cw79, List.forall_mem_cons.mpr ⟨z_cw80, List.forall_mem_cons.mpr ⟨z_cw81, List.forall_mem_cons.mpr ⟨z_cw82, List.forall_mem_cons.mpr ⟨z_cw83, List.forall_mem_cons.mpr ⟨z_cw84, List.forall_mem_cons.mpr ⟨z_cw85, List.forall_mem_cons.mpr ⟨z_cw86, List.forall_mem_cons.mpr ⟨z_cw87, List.forall_mem_cons.mpr ⟨z_cw88, List.forall_mem_cons.mpr ⟨z_cw89, List.forall_mem_cons.mpr ⟨z_cw90, List.forall_mem_cons.mpr ⟨z_cw91, List.forall_mem_cons.mpr ⟨z_cw92, List.forall_mem_cons.mpr ⟨z_cw93, List.forall_mem_cons.mpr ⟨z_cw94, List.forall_mem_cons.mpr ⟨z_cw95, List.forall_mem_cons.mpr ⟨z_cw96, List.forall_mem_cons.mpr ⟨z_cw97, List.forall_mem_cons.mpr ⟨z_cw98, List.forall_mem_cons.mpr ⟨z_cw99, List.forall_mem_cons.mpr ⟨z_cw100, fun _ h => absurd h List.not_mem_nil⟩⟩⟩⟩⟩⟩⟩⟩⟩⟩⟩⟩⟩⟩⟩⟩⟩⟩⟩⟩⟩⟩⟩⟩⟩
theorem z_cwc4 : ∀ y ∈ [101, 102, 103, 104, 105, 106, 107, 108, 109, 110, 111, 112, 113, 114, 115, 116, 117, 118, 119, 120, 121, 122, 123, 124, 125], z_P4 y := List.forall_mem_cons.mpr ⟨z_cw101, List.forall_mem_cons.mpr ⟨z_cw102, List.forall_mem_cons.mpr ⟨z_cw103, List.forall_mem_cons.mpr ⟨z_cw104, List.forall_mem_cons.mpr ⟨z_cw105, List.forall_mem_cons.mpr ⟨z_cw106, List.forall_mem_cons.mpr ⟨z_cw107, List.forall_mem_cons.mpr ⟨z_cw108, List.forall_mem_cons.mpr ⟨z_cw109, List.forall_mem_cons.mpr ⟨z_cw110, List.forall_mem_cons.mpr ⟨z_cw111, List.forall_mem_cons.mpr ⟨z_cw112, List.forall_mem_cons.mpr ⟨z_cw113, List.forall_mem_cons.mpr ⟨z_cw114, List.forall_mem_cons.mpr ⟨z_cw115, List.forall_mem_cons.mpr ⟨z_cw116, List.forall_mem_cons.mpr ⟨z_cw117, List.forall_mem_cons.mpr ⟨z_cw118, List.forall_mem_cons.mpr ⟨z_cw119, List.forall_mem_cons.mpr ⟨z_cw120, List.forall_mem_cons.mpr ⟨z_cw121, List.forall_mem_cons.mpr ⟨z_cw122, List.forall_mem_cons.mpr ⟨z_cw123, List.forall_mem_cons.mpr ⟨z_cw124, List.forall_mem_cons.mpr ⟨z_cw125, fun _ h => absurd h List.not_mem_nil⟩⟩⟩⟩⟩⟩⟩⟩⟩⟩⟩⟩⟩⟩⟩⟩⟩⟩⟩⟩⟩⟩⟩⟩⟩
theorem z_cwc5 : ∀ y ∈ [126, 127, 128, 129, 130, 131, 132, 133, 134, 135, 136, 137, 138, 139, 140, 141, 142, 143, 144, 145, 146, 147, 148, 149, 150], z_P4 y := List.forall_mem_cons.mpr ⟨z_cw126, List.forall_mem_cons.mpr ⟨z_cw127, List.forall_mem_cons.mpr ⟨z_cw128, List.forall_mem_cons.mpr ⟨z_cw129, List.forall_mem_cons.mpr ⟨z_cw130, List.forall_mem_cons.mpr ⟨z_cw131, List.forall_mem_cons.mpr ⟨z_cw132, List.forall_mem_cons.mpr ⟨z_cw133, List.forall_mem_cons.mpr ⟨z_cw134, List.forall_mem_cons.mpr ⟨z_cw135, List.forall_mem_cons.mpr ⟨z_cw136, List.forall_mem_cons.mpr ⟨z_cw137, List.forall_mem_cons.mpr ⟨z_cw138, List.forall_mem_cons.mpr ⟨z_cw139, List.forall_mem_cons.mpr ⟨z_cw140, List.forall_mem_cons.mpr ⟨z_cw141, List.forall_mem_cons.mpr ⟨z_cw142, List.forall_mem_cons.mpr ⟨z_cw143, List.forall_mem_cons.mpr ⟨z_cw144, List.forall_mem_cons.mpr ⟨z_cw145, List.forall_mem_cons.mpr ⟨z_cw146, List.forall_mem_cons.mpr ⟨z_cw147, List.forall_mem_cons.mpr ⟨z_cw148, List.forall_mem_cons.mpr ⟨z_cw149, List.forall_mem_cons.mpr ⟨z_cw150, fun _ h => absurd h List.not_mem_nil⟩⟩⟩⟩⟩⟩⟩⟩⟩⟩⟩⟩⟩⟩⟩⟩⟩⟩⟩⟩⟩⟩⟩⟩⟩
theorem z_cwc6 : ∀ y ∈ [151, 152, 153, 154, 155, 156, 157, 158, 159, 160, 161, 162, 163, 164, 165, 166, 167, 168, 169, 170, 171, 172, 173, 174, 175], z_P4 y := List.forall_mem_cons.mpr ⟨z_cw151, List.forall_mem_cons.mpr ⟨z_cw152, List.forall_mem_cons.mpr ⟨z_cw153, List.forall_mem_cons.mpr ⟨z_cw154, List.forall_mem_cons.mpr ⟨z_cw155, List.forall_mem_cons.mpr ⟨z_cw156, List.forall_mem_cons.mpr ⟨z_cw157, List.forall_mem_cons.mpr ⟨z_cw158, List.forall_mem_cons.mpr ⟨z_cw159, List.forall_mem_cons.mpr ⟨z_cw160, List.forall_mem_cons.mpr ⟨z_cw161, List.forall_mem_cons.mpr ⟨z_cw162, List.forall_mem_cons.mpr ⟨z_cw163, List.forall_mem_cons.mpr ⟨z_cw164, List.forall_mem_cons.mpr ⟨z_cw165, List.forall_mem_cons.mpr ⟨z_cw166, List.forall_mem_cons.mpr ⟨z_cw167, List.forall_mem_cons.mpr ⟨z_cw168, List.forall_mem_cons.mpr ⟨z_cw169, List.forall_mem_cons.mpr ⟨z_cw170, List.forall_mem_cons.mpr ⟨z_cw171, List.forall_mem_cons.mpr ⟨z_cw172, List.forall_mem_cons.mpr ⟨z_cw173, List.forall_mem_cons.mpr ⟨z_cw174, List.forall_mem_cons.mpr ⟨z_cw175, fun _ h => absurd h List.not_mem_nil⟩⟩⟩⟩⟩⟩⟩⟩⟩⟩⟩⟩⟩⟩⟩⟩⟩⟩⟩⟩⟩⟩⟩⟩⟩
theorem z_cwc7 : ∀ y ∈ [176, 177, 178, 179, 180, 181, 182, 183], z_P4 y := List.forall_mem_cons.mpr ⟨z_cw176, List.forall_mem_cons.mpr ⟨z_cw177, List.forall_mem_cons.mpr ⟨z_cw178, List.forall_mem_cons.mpr ⟨z_cw179, List.forall_mem_cons.mpr ⟨z_cw180, List.forall_mem_cons.mpr ⟨z_cw181, List.forall_mem_cons.mpr ⟨z_cw182, List.forall_mem_cons.mpr ⟨z_cw183, fun _ h => absurd h List.not_mem_nil⟩⟩⟩⟩⟩⟩⟩⟩
theorem z_cwIn : ((List.range 184).all fun y => decide (y = 0) || decide (y ∈ ([1, 2, 3, 4, 5, 6, 7, 8, 9, 10, 11, 12, 13, 14, 15, 16, 17, 18, 19, 20, 21, 22, 23, 24, 25] : List Nat)) || decide (y ∈ ([26, 27, 28, 29, 30, 31, 32, 33, 34, 35, 36, 37, 38, 39, 40, 41, 42, 43, 44, 45, 46, 47, 48, 49, 50] : List Nat)) || decide (y ∈ ([51, 52, 53, 54, 55, 56, 57, 58, 59, 60, 61, 62, 63, 64, 65, 66, 67, 68, 69, 70, 71, 72, 73, 74, 75] : List Nat)) || decide (y ∈ ([76, 77, 78, 79, 80, 81, 82, 83, 84, 85, 86, 87, 88, 89, 90, 91, 92, 93, 94, 95, 96, 97, 98, 99, 100] : List Nat)) || decide (y ∈ ([101, 102, 103, 104, 105, 106, 107, 108, 109, 110, 111, 112, 113, 114, 115, 116, 117, 118, 119, 120, 121, 122, 123, 124, 125] : List Nat)) || decide (y ∈ ([126, 127, 128, 129, 130, 131, 132, 133, 134, 135, 136, 137, 138, 139, 140, 141, 142, 143, 144, 145, 146, 147, 148, 149, 150] : List Nat)) || decide (y ∈ ([151, 152, 153, 154, 155, 156, 157, 158, 159, 160, 161, 162, 163, 164, 165, 166, 167, 168, 169, 170, 171, 172, 173, 174, 175] : List Nat)) || decide (y ∈ ([176, 177, 178, 179, 180, 181, 182, 183] : List Nat))) = true := by decide +kernel
theorem z_cwAll {y : Nat} (h1 : 0 < y) (h2 : y < 184) : z_P4 y := by
  have h := List.all_eq_true.mp z_cwIn y (List.mem_range.mpr h2)
  simp only [Bool.or_eq_true, decide_eq_true_eq] at h
  rcases h with ((((((((h | h) | h) | h) | h) | h) | h) | h) | h)
  · omega
  · exact z_cwc0 y h
  · exact z_cwc1 y h
  · exact z_cwc2 y h
  · exact z_cwc3 y h
  · exact z_cwc4 y h
  · exact z_cwc5 y h
  · exact z_cwc6 y h
  · exact z_cwc7 y h
end
section
/-! A MACHINE OF ITS OWN, over cells whose addresses are their places: what it computes, the JVM computes (part 06). -/
/-- an object (its class, its fields), an array of ints, an array of references to objects of class 3 -/
abbrev z_C : Type := (Nat × List Value) ⊕ (List Int32 ⊕ List (Option Nat))
abbrev z_H : Type := List z_C
/-- the next instruction, the locals, the stack, the heap, the cells and slots made -/
abbrev z_S : Type := Nat × List (Option Value) × List Value × z_H × Nat × Nat
abbrev z_O : Type := Option Value × z_H
/-- a local that was a long is broken by a store just behind it -/
def z_nk : Option Value → Option Value
  | some (.long _) => none
  | some (.double _) => none
  | o => o
def z_k (lv : List (Option Value)) : Nat → List (Option Value)
  | 0 => lv
  | i + 1 => lv.modify i z_nk
def z_s1 (lv : List (Option Value)) (i : Nat) (v : Value) : List (Option Value) := (z_k lv i).set i (some v)
def z_s2 (lv : List (Option Value)) (i : Nat) (v : Value) : List (Option Value) := ((z_k lv i).set i (some v)).set (i + 1) none
def z_cnd (c : ClassFile.Cond) (x y : Int32) : Bool := match c with
  | .eq => decide (x = y)
  | .ne => !decide (x = y)
  | .lt => decide (x < y)
  | .ge => decide (y ≤ x)
  | .gt => decide (y < x)
  | .le => decide (x ≤ y)
def z_in (i : Int32) (n : Nat) : Bool := decide (¬ i < 0) && decide (i.toNatClampNeg < n)
abbrev z_R : Type := Option (z_S ⊕ z_O)
def z_nx (pc : Nat) (lv : List (Option Value)) (st : List Value) (ph : z_H) (kc ks : Nat) : z_R := some (.inl (pc, lv, st, ph, kc, ks))
def z_go (pc : Nat) (off : Int) (lv : List (Option Value)) (st : List Value) (ph : z_H) (kc ks : Nat) : z_R :=
  if 0 ≤ (pc : Int) + off then z_nx ((pc : Int) + off).toNat lv st ph kc ks else none
def z_fl (m idx : Nat) : Option (Nat × Nat) := (z_FT.find? fun e => e.1 == z_ci m && e.2.1 == idx).map fun e => (e.2.2.1, e.2.2.2.1)
def z_cl2 (m idx : Nat) : Option (Nat × Nat) := (z_CT.find? fun e => e.1 == z_ci m && e.2.1 == idx).map fun e => (e.2.2.1, e.2.2.2.1)
def z_ki (m idx : Nat) : Option Int32 := (z_KI.find? fun e => e.1 == z_ci m && e.2.1 == idx).map fun e => e.2.2.1
def z_kl (m idx : Nat) : Option Int64 := (z_KL.find? fun e => e.1 == z_ci m && e.2.1 == idx).map fun e => e.2.2.1
def z_nw (m idx : Nat) : Option Nat := (z_NT.find? fun e => e.1 == z_ci m && e.2.1 == idx).map fun e => e.2.2.1
/-- the fields of a new object -/
def z_f0 (c : Nat) : List Value := (List.range (z_nf c)).map fun k => match (z_F c k).2.2.1 with
  | "I" => .int 0
  | "J" => .long 0
  | _ => .null
/-- whether a value may stand in a field -/
def z_fv (c k : Nat) (v : Value) : Bool := match v with
  | .int _ => decide ((z_F c k).2.2.1 = "I")
  | .long _ => decide ((z_F c k).2.2.1 = "J")
  | .ref _ => decide ((z_F c k).2.2.1 ≠ "I") && decide ((z_F c k).2.2.1 ≠ "J")
  | _ => false
def z_len (i : Instr) (n : Nat) : Bool := match i with
  | .tableswitch .. => true
  | .iload _ | .lload _ | .aload _ | .istore _ | .lstore _ | .astore _ | .bipush _ | .ldc _ | .newarray _ => n == 2
  | .sipush _ | .ldc_w _ | .ldc2_w _ | .iinc _ _ | .goto _ | .if_icmp _ _ | .ifCond _ _ | .getfield _ | .putfield _ | .new _ | .anewarray _ | .invokevirtual _ | .invokestatic _ | .invokespecial _ => n == 3
  | _ => n == 1
/-- an instruction that is no call -/
def z_step (sc : List Int32) (m : Nat) (i : Instr) (pc : Nat) (lv : List (Option Value)) (st : List Value) (ph : z_H) (kc ks : Nat) : z_R :=
  match i with
  | .iload_n k => match lv[k.val]? with
    | some (some (.int x)) => z_nx (pc + 1) lv (.int x :: st) ph kc ks
    | _ => none
  | .iload k => match lv[k]? with
    | some (some (.int x)) => z_nx (pc + 2) lv (.int x :: st) ph kc ks
    | _ => none
  | .lload_n k => match lv[k.val]? with
    | some (some (.long x)) => z_nx (pc + 1) lv (.long x :: st) ph kc ks
    | _ => none
  | .lload k => match lv[k]? with
    | some (some (.long x)) => z_nx (pc + 2) lv (.long x :: st) ph kc ks
    | _ => none
  | .aload_n k => match lv[k.val]? with
    | some (some (.ref x)) => z_nx (pc + 1) lv (.ref x :: st) ph kc ks
    | some (some (.retAddr x)) => z_nx (pc + 1) lv (.retAddr x :: st) ph kc ks
    | _ => none
  | .aload k => match lv[k]? with
    | some (some (.ref x)) => z_nx (pc + 2) lv (.ref x :: st) ph kc ks
    | _ => none
  | .istore_n k => match st with
    | .int x :: st => if k.val < z_ml m then z_nx (pc + 1) (z_s1 lv k.val (.int x)) st ph kc ks else none
    | _ => none
  | .istore k => match st with
    | .int x :: st => if k < z_ml m then z_nx (pc + 2) (z_s1 lv k (.int x)) st ph kc ks else none
    | _ => none
  | .astore_n k => match st with
    | .ref x :: st => if k.val < z_ml m then z_nx (pc + 1) (z_s1 lv k.val (.ref x)) st ph kc ks else none
    | _ => none
  | .astore k => match st with
    | .ref x :: st => if k < z_ml m then z_nx (pc + 2) (z_s1 lv k (.ref x)) st ph kc ks else none
    | _ => none
  | .lstore_n k => match st with
    | .long x :: st => if k.val + 1 < z_ml m then z_nx (pc + 1) (z_s2 lv k.val (.long x)) st ph kc ks else none
    | _ => none
  | .lstore k => match st with
    | .long x :: st => if k + 1 < z_ml m then z_nx (pc + 2) (z_s2 lv k (.long x)) st ph kc ks else none
    | _ => none
  | .iinc k n => match lv[k]? with
    | some (some (.int x)) => if k < z_ml m then z_nx (pc + 3) (z_s1 lv k (.int (x + Int32.ofInt n))) st ph kc ks else none
    | _ => none
  | .iconst n => z_nx (pc + 1) lv (.int (Int32.ofInt n) :: st) ph kc ks
  | .bipush n => z_nx (pc + 2) lv (.int (Int8.ofInt n).toInt32 :: st) ph kc ks
  | .sipush n => z_nx (pc + 3) lv (.int (Int16.ofInt n).toInt32 :: st) ph kc ks
  | .lconst n => z_nx (pc + 1) lv (.long (Int64.ofNat n.val) :: st) ph kc ks
  | .ldc k => match z_ki m k with
    | some v => z_nx (pc + 2) lv (.int v :: st) ph kc ks
    | none => none
  | .ldc_w k => match z_ki m k with
    | some v => z_nx (pc + 3) lv (.int v :: st) ph kc ks
    | none => none
  | .ldc2_w k => match z_kl m k with
    | some v => z_nx (pc + 3) lv (.long v :: st) ph kc ks
    | none => none
  | .iadd => match st with
    | .int y :: .int x :: st => z_nx (pc + 1) lv (.int (x + y) :: st) ph kc ks
    | _ => none
  | .isub => match st with
    | .int y :: .int x :: st => z_nx (pc + 1) lv (.int (x - y) :: st) ph kc ks
    | _ => none
  | .imul => match st with
    | .int y :: .int x :: st => z_nx (pc + 1) lv (.int (x * y) :: st) ph kc ks
    | _ => none
  | .idiv => match st with
    | .int y :: .int x :: st => if y = 0 then none else z_nx (pc + 1) lv (.int (x / y) :: st) ph kc ks
    | _ => none
  | .irem => match st with
    | .int y :: .int x :: st => if y = 0 then none else z_nx (pc + 1) lv (.int (x - x / y * y) :: st) ph kc ks
    | _ => none
  | .ineg => match st with
    | .int x :: st => z_nx (pc + 1) lv (.int (-x) :: st) ph kc ks
    | _ => none
  | .ishl => match st with
    | .int y :: .int x :: st => z_nx (pc + 1) lv (.int (x <<< (y &&& 31)) :: st) ph kc ks
    | _ => none
  | .ishr => match st with
    | .int y :: .int x :: st => z_nx (pc + 1) lv (.int (x >>> (y &&& 31)) :: st) ph kc ks
    | _ => none
  | .iushr => match st with
    | .int y :: .int x :: st => z_nx (pc + 1) lv (.int (x.toUInt32 >>> (y.toUInt32 &&& Int32.toUInt32 31)).toInt32 :: st) ph kc ks
    | _ => none
  | .iand => match st with
    | .int y :: .int x :: st => z_nx (pc + 1) lv (.int (x &&& y) :: st) ph kc ks
    | _ => none
  | .ior => match st with
    | .int y :: .int x :: st => z_nx (pc + 1) lv (.int (x ||| y) :: st) ph kc ks
    | _ => none
  | .ixor => match st with
    | .int y :: .int x :: st => z_nx (pc + 1) lv (.int (x ^^^ y) :: st) ph kc ks
    | _ => none
  | .ladd => match st with
    | .long y :: .long x :: st => z_nx (pc + 1) lv (.long (x + y) :: st) ph kc ks
    | _ => none
  | .lsub => match st with
    | .long y :: .long x :: st => z_nx (pc + 1) lv (.long (x - y) :: st) ph kc ks
    | _ => none
  | .land => match st with
    | .long y :: .long x :: st => z_nx (pc + 1) lv (.long (x &&& y) :: st) ph kc ks
    | _ => none
  | .lor => match st with
    | .long y :: .long x :: st => z_nx (pc + 1) lv (.long (x ||| y) :: st) ph kc ks
    | _ => none
  | .lxor => match st with
    | .long y :: .long x :: st => z_nx (pc + 1) lv (.long (x ^^^ y) :: st) ph kc ks
    | _ => none
  | .lshl => match st with
    | .int y :: .long x :: st => z_nx (pc + 1) lv (.long (x <<< (y.toInt64 &&& 63)) :: st) ph kc ks
    | _ => none
  | .lushr => match st with
    | .int y :: .long x :: st => z_nx (pc + 1) lv (.long (x.toUInt64 >>> (y.toInt64.toUInt64 &&& Int64.toUInt64 63)).toInt64 :: st) ph kc ks
    | _ => none
  | .lcmp => match st with
    | .long y :: .long x :: st => z_nx (pc + 1) lv (.int (lg_cmp x y) :: st) ph kc ks
    | _ => none
  | .i2l => match st with
    | .int x :: st => z_nx (pc + 1) lv (.long x.toInt64 :: st) ph kc ks
    | _ => none
  | .l2i => match st with
    | .long x :: st => z_nx (pc + 1) lv (.int x.toInt32 :: st) ph kc ks
    | _ => none
  | .goto off => z_go pc off lv st ph kc ks
  | .if_icmp c off => match st with
    | .int y :: .int x :: st => if 0 ≤ (pc : Int) + off then if z_cnd c x y = true then z_nx ((pc : Int) + off).toNat lv st ph kc ks else z_nx (pc + 3) lv st ph kc ks else none
    | _ => none
  | .ifCond c off => match st with
    | .int x :: st => if 0 ≤ (pc : Int) + off then if z_cnd c x 0 = true then z_nx ((pc : Int) + off).toNat lv st ph kc ks else z_nx (pc + 3) lv st ph kc ks else none
    | _ => none
  | .tableswitch dflt lo hi offs => match st with
    | .int x :: st => if x.toInt < lo ∨ hi < x.toInt then z_go pc dflt lv st ph kc ks else match offs[(x.toInt - lo).toNat]? with
      | some off => z_go pc off lv st ph kc ks
      | none => none
    | _ => none
  | .dup => match st with
    | .int x :: st => z_nx (pc + 1) lv (.int x :: .int x :: st) ph kc ks
    | .ref x :: st => z_nx (pc + 1) lv (.ref x :: .ref x :: st) ph kc ks
    | _ => none
  | .dup2 => match st with
    | .int x :: .ref y :: st => z_nx (pc + 1) lv (.int x :: .ref y :: .int x :: .ref y :: st) ph kc ks
    | _ => none
  | .dup_x1 => match st with
    | .int x :: .ref y :: st => z_nx (pc + 1) lv (.int x :: .ref y :: .int x :: st) ph kc ks
    | _ => none
  | .pop => match st with
    | .int _ :: st => z_nx (pc + 1) lv st ph kc ks
    | _ => none
  | .getfield idx => match st, z_fl m idx with
    | .ref a :: st, some (ci, k) => match ph[a]? with
      | some (.inl (ci', fs)) => if ci' = ci then match fs[k]? with
        | some (.int x) => z_nx (pc + 3) lv (.int x :: st) ph kc ks
        | some (.long x) => z_nx (pc + 3) lv (.long x :: st) ph kc ks
        | some (.ref x) => z_nx (pc + 3) lv (.ref x :: st) ph kc ks
        | _ => none
        else none
      | _ => none
    | _, _ => none
  | .putfield idx => match st, z_fl m idx with
    | v :: .ref a :: st, some (ci, k) => match ph[a]? with
      | some (.inl (ci', fs)) => if ci' = ci ∧ k < fs.length ∧ z_fv ci k v = true ∧ ((z_F ci k).2.2.2 = true → z_ini m = true ∧ (z_F ci k).1 = z_rn (z_ci m)) then z_nx (pc + 3) lv st (ph.set a (.inl (ci, fs.set k v))) kc ks else none
      | _ => none
    | _, _ => none
  | .iaload => match st with
    | .int j :: .ref a :: st => match ph[a]? with
      | some (.inr (.inl l)) => if z_in j l.length then z_nx (pc + 1) lv (.int (l.getD j.toNatClampNeg 0) :: st) ph kc ks else none
      | _ => none
    | .int j :: .retAddr _ :: st => if m = 0 ∧ z_in j sc.length = true then z_nx (pc + 1) lv (.int (sc.getD j.toNatClampNeg 0) :: st) ph kc ks else none
    | _ => none
  | .iastore => match st with
    | .int x :: .int j :: .ref a :: st => match ph[a]? with
      | some (.inr (.inl l)) => if z_in j l.length then z_nx (pc + 1) lv st (ph.set a (.inr (.inl (l.set j.toNatClampNeg x)))) kc ks else none
      | _ => none
    | _ => none
  | .aaload => match st with
    | .int j :: .ref a :: st => match ph[a]? with
      | some (.inr (.inr l)) => if z_in j l.length then match l.getD j.toNatClampNeg none with
        | some x => z_nx (pc + 1) lv (.ref x :: st) ph kc ks
        | none => none
        else none
      | _ => none
    | _ => none
  | .aastore => match st with
    | .ref x :: .int j :: .ref a :: st => match ph[a]?, ph[x]? with
      | some (.inr (.inr l)), some (.inl (3, _)) => if z_in j l.length then z_nx (pc + 1) lv st (ph.set a (.inr (.inr (l.set j.toNatClampNeg (some x))))) kc ks else none
      | _, _ => none
    | _ => none
  | .arraylength => match st with
    | .ref a :: st => match ph[a]? with
      | some (.inr (.inl l)) => z_nx (pc + 1) lv (.int (Int32.ofNat l.length) :: st) ph kc ks
      | some (.inr (.inr l)) => z_nx (pc + 1) lv (.int (Int32.ofNat l.length) :: st) ph kc ks
      | _ => none
    | .retAddr _ :: st => if m = 0 then z_nx (pc + 1) lv (.int (Int32.ofNat sc.length) :: st) ph kc ks else none
    | _ => none
  | .new idx => match z_nw m idx with
    | some c => if kc + 1 ≤ z_mc m ∧ ks + z_nf c ≤ z_ms m then z_nx (pc + 3) lv (.ref ph.length :: st) (ph ++ [.inl (c, z_f0 c)]) (kc + 1) (ks + z_nf c) else none
    | none => none
  | .newarray ty => match ty, st with
    | .int, .int n :: st => if ¬ n < 0 ∧ n.toNatClampNeg ≤ 65536 ∧ kc + 1 ≤ z_mc m ∧ ks + n.toNatClampNeg ≤ z_ms m then z_nx (pc + 2) lv (.ref ph.length :: st) (ph ++ [.inr (.inl (List.replicate n.toNatClampNeg 0))]) (kc + 1) (ks + n.toNatClampNeg) else none
    | _, _ => none
  | .anewarray idx => match st, z_nw m idx with
    | .int n :: st, some 3 => if ¬ n < 0 ∧ n.toNatClampNeg ≤ 65536 ∧ kc + 1 ≤ z_mc m ∧ ks + n.toNatClampNeg ≤ z_ms m then z_nx (pc + 3) lv (.ref ph.length :: st) (ph ++ [.inr (.inr (List.replicate n.toNatClampNeg none))]) (kc + 1) (ks + n.toNatClampNeg) else none
    | _, _ => none
  | .ireturn => match st with
    | [.int x] => match z_rt m with
      | some .int => some (.inr (some (.int x), ph))
      | some .boolean => if x &&& 1 = x then some (.inr (some (.int x), ph)) else none
      | _ => none
    | _ => none
  | .lreturn => match st with
    | [.long x] => if z_rt m = some .long then some (.inr (some (.long x), ph)) else none
    | _ => none
  | .return_ => match st with
    | [] => if z_rt m = none then some (.inr (none, ph)) else none
    | _ => none
  | _ => none
/-- whether the class of a receiver is the method's -/
def z_rcv (ph : z_H) (y : Nat) : List Value → Bool
  | .ref a :: _ => match ph[a]? with
    | some (.inl (ci, _)) => ci == z_ci y
    | _ => false
  | _ => false
def z_isref : List Value → Bool
  | .ref _ :: _ => true
  | _ => false
def z_nr : Value → Bool
  | .retAddr _ => false
  | _ => true
def z_np (y : Nat) : Nat := (parseMethodDescriptor (z_nm y).desc).elim 0 (fun d => d.parameters.length)
def z_il : List Value → List (Option Value)
  | [] => []
  | v :: vs => if v.category = 2 then some v :: none :: z_il vs else some v :: z_il vs
/-- the locals at a method's entry -/
def z_init (y : Nat) (as : List Value) : List (Option Value) := z_il as ++ List.replicate (z_ml y - (z_il as).length) none
/-- how many values a call takes -/
def z_na (k y : Nat) : Nat := if k = 1 ∨ k = 4 then z_np y else z_np y + 1
/-- what a call asks ahead -/
def z_okc (m k y : Nat) (as rest : List Value) (ph : z_H) (kc ks : Nat) : Bool :=
  decide ((rest.map fun v => v.category).sum ≤ 8) && decide (z_fr y + 1 ≤ z_fr m) && decide (8 + (z_ml y + 11) + z_lo y ≤ z_lo m) && decide (kc + z_mc y ≤ z_mc m) && decide (ks + z_ms y ≤ z_ms m) &&
  as.all z_nr && decide ((z_il as).length ≤ z_ml y) && decide (as.length = z_na k y) && (match k with
    | 0 => !z_stat y && !z_ini y && z_rcv ph y as
    | 1 => z_stat y
    | 2 => z_ini y && !z_stat y && z_isref as
    | 4 => z_stat y
    | 5 => z_ini y && !z_stat y && z_isref as
    | _ => false)
def z_idx (i : Instr) : Option (Nat × Nat) := match i with
  | .invokevirtual k => some (0, k)
  | .invokestatic k => some (1, k)
  | .invokespecial k => some (2, k)
  | _ => none
/-- how a call's kind fits its instruction -/
def z_kk (w k : Nat) : Bool := match w with
  | 0 => k == 0
  | 1 => k == 1 || k == 4 || k == 6 || k == 7 || k == 8
  | _ => k == 2 || k == 5 || k == 9
def z_out : Option Value → Bool
  | none => true
  | some (.int _) => true
  | some (.long _) => true
  | _ => false
/-- the calls that end in a row of the kit: Object.<init>, Math.max, min, abs -/
def z_lib (k m : Nat) (st : List Value) : Option (List Value) := match k with
  | 9 => match st with
    | .ref _ :: rest => if (rest.map fun v => v.category).sum + 12 ≤ z_lo m ∧ 1 ≤ z_fr m then some rest else none
    | _ => none
  | 6 => match st with
    | .int y :: .int x :: rest => if (rest.map fun v => v.category).sum + 13 ≤ z_lo m ∧ 1 ≤ z_fr m then some (.int (if x < y then y else x) :: rest) else none
    | _ => none
  | 7 => match st with
    | .int y :: .int x :: rest => if (rest.map fun v => v.category).sum + 13 ≤ z_lo m ∧ 1 ≤ z_fr m then some (.int (if y < x then y else x) :: rest) else none
    | _ => none
  | 8 => match st with
    | .int x :: rest => if (rest.map fun v => v.category).sum + 13 ≤ z_lo m ∧ 1 ≤ z_fr m then some (.int (if 0 ≤ x then x else 0 - x) :: rest) else none
    | _ => none
  | _ => none
def z_ex (sc : List Int32) : Nat → Nat → Nat → List (Option Value) → List Value → z_H → Nat → Nat → Option z_O
  | 0, _, _, _, _, _, _, _ => none
  | n + 1, m, pc, lv, st, ph, kc, ks => match decode (z_co m) pc with
    | .error _ => none
    | .ok (i, len) => if z_len i len = true then match z_idx i with
      | none => match z_step sc m i pc lv st ph kc ks with
        | none => none
        | some (.inr r) => if kc ≤ z_mc m ∧ ks ≤ z_ms m then some r else none
        | some (.inl (pc', lv', st', ph', kc', ks')) => z_ex sc n m pc' lv' st' ph' kc' ks'
      | some (w, idx) => match z_cl2 m idx with
        | none => none
        | some (k, y) => if z_kk w k = true then
            if k = 6 ∨ k = 7 ∨ k = 8 ∨ k = 9 then match z_lib k m st with
              | none => none
              | some st' => if kc ≤ z_mc m ∧ ks ≤ z_ms m then z_ex sc n m (pc + 3) lv st' ph kc ks else none
            else if z_okc m k y (st.take (z_na k y)).reverse (st.drop (z_na k y)) ph kc ks = true then match z_ex sc n y 0 (z_init y (st.take (z_na k y)).reverse) [] ph 0 0 with
              | none => none
              | some (r, ph') => if z_out r = true then z_ex sc n m (pc + 3) lv (r.toList ++ st.drop (z_na k y)) ph' (kc + z_mc y) (ks + z_ms y) else none
            else none
          else none
      else none
end
section
/-! What the machine of part 05 computes, the JVM computes. -/
def z_rv (base b : Nat) : Value → Value
  | .ref a => .ref (base + a)
  | .retAddr _ => .ref b
  | v => v
theorem z_rv_cat (base b : Nat) (v : Value) : (z_rv base b v).category = v.category := by cases v <;> rfl
theorem z_rv_nr {base b b' : Nat} {v : Value} (h : z_nr v = true) : z_rv base b v = z_rv base b' v := by cases v <;> first | rfl | cases h
def z_at (U : State) (D : va_G) (base : Nat) (a : Nat) (c : z_C) (H : Heap) : Prop := match c with
  | .inl o => ∃ r : vw_C, z_cl[o.1]? = some r ∧ o.2.length = r.2.2 ∧ t_OB a (D.1 o.1) r.2.2 (D.2 o.1) H (vp_V (o.2.map (z_rv base 0)))
  | .inr (.inl l) => ∃ cA : ClassId, H[a]? = some (arrV cA l.length (fun j => .int (l.getD j 0))) ∧ ArrOfT U cA .int
  | .inr (.inr l) => ∃ cA : ClassId, H[a]? = some (arrV cA l.length (fun j => va_rf ((l.getD j none).map (base + ·)))) ∧ ArrOfT U cA (.object RX3) ∧ va_RA U cA (.object RX3)
def z_HH (U : State) (D : va_G) (base : Nat) (ph : z_H) (H : Heap) : Prop := H.size = base + ph.length ∧ ∀ (k : Nat) (c : z_C), ph[k]? = some c → z_at U D base (base + k) c H
def z_Kx (D : va_G) (U : State) : Prop := va_K D z_cl [] U ∧ (∀ w ∈ z_NW, va_Nw w U) ∧ va_AO RX3 U
theorem z_at.kept {U : State} {D : va_G} {base a : Nat} {c : z_C} {H H1 : Heap} (h : z_at U D base a c H) (hq : H1[a]? = H[a]?) : z_at U D base a c H1 := by
  rcases c with o | l | l
  · obtain ⟨r, h1, h2, h3⟩ := h
    exact ⟨r, h1, h2, h3.kept hq⟩
  · obtain ⟨cA, h1, h2⟩ := h
    exact ⟨cA, hq.trans h1, h2⟩
  · obtain ⟨cA, h1, h2⟩ := h
    exact ⟨cA, hq.trans h1, h2⟩
theorem z_at.moved {u U : State} (hvm : u.vm.Alike U.vm) {D : va_G} {base a : Nat} {c : z_C} {H : Heap} (h : z_at u D base a c H) : z_at U D base a c H := by
  rcases c with o | l | l
  · exact h
  · obtain ⟨cA, h1, h2⟩ := h
    exact ⟨cA, h1, arrOfT_moved hvm h2⟩
  · obtain ⟨cA, h1, h2, h3⟩ := h
    exact ⟨cA, h1, arrOfT_moved hvm h2, h3.moved hvm⟩
theorem z_HH.moved {u U : State} (hvm : u.vm.Alike U.vm) {D : va_G} {base : Nat} {ph : z_H} {H : Heap} (h : z_HH u D base ph H) : z_HH U D base ph H := ⟨h.1, fun k c hk => (h.2 k c hk).moved hvm⟩
theorem z_HH.set {U : State} {D : va_G} {base : Nat} {ph : z_H} {H H1 : Heap} (h : z_HH U D base ph H) {k : Nat} {c0 c : z_C} (hk : ph[k]? = some c0) (z : H1.size = H.size) (oq : ∀ q, q ≠ base + k → H1[q]? = H[q]?) (hc : z_at U D base (base + k) c H1) : z_HH U D base (ph.set k c) H1 := by
  have hl := (List.getElem?_eq_some_iff.mp hk).1
  refine ⟨by rw [z, h.1, List.length_set], fun j d hj => ?_⟩
  by_cases hjk : j = k
  · subst hjk
    rw [List.getElem?_set_self hl] at hj
    cases hj
    exact hc
  · rw [List.getElem?_set_ne (Ne.symm hjk)] at hj
    exact (h.2 j d hj).kept (oq _ (by omega))
theorem z_HH.push {U : State} {D : va_G} {base : Nat} {ph : z_H} {H H1 : Heap} (h : z_HH U D base ph H) {c : z_C} (z : H1.size = H.size + 1) (oq : ∀ q, q < H.size → H1[q]? = H[q]?) (hc : z_at U D base (base + ph.length) c H1) : z_HH U D base (ph ++ [c]) H1 := by
  refine ⟨by rw [z, h.1, List.length_append]; rfl, fun j d hj => ?_⟩
  by_cases hl : j < ph.length
  · rw [List.getElem?_append_left hl] at hj
    exact (h.2 j d hj).kept (oq _ (by rw [h.1]; omega))
  · rw [List.getElem?_append_right (by omega)] at hj
    have hz : j - ph.length < 1 := (List.getElem?_eq_some_iff.mp hj).1
    have e : j = ph.length := by omega
    subst e
    rw [Nat.sub_self] at hj
    cases hj
    exact hc
theorem z_Kx.warm {D : va_G} {s U : State} (h : z_Kx D s) (hW : s.WarmedH U.vm) : z_Kx D U := by
  refine ⟨va_K.moved hW.alike h.1, fun w hw => ?_, va_AO.moved hW.alike h.2.2⟩
  have h1 := h.2.1 w hw
  have h2 := (List.mem_filter.mp hw).2
  cases w <;> first | exact va_Nw.warmM hW h1 | cases h2
theorem z_Kx.same {D : va_G} {s : State} {g : JFrame} {mk : MethodId} {a : Array Value} (h : z_Kx D s) : z_Kx D (s.calling g mk a) := by
  refine ⟨va_K.moved (u := s) (U := s.calling g mk a) (Vm.Alike.refl s.vm) h.1, fun w hw => ?_, va_AO.moved (u := s) (U := s.calling g mk a) (Vm.Alike.refl s.vm) h.2.2⟩
  have h2 := (List.mem_filter.mp hw).2
  cases w <;> first | exact va_Nw.same (u := s) rfl rfl (h.2.1 _ hw) | cases h2
-- locals
def z_as (base b : Nat) : Nat → List (Option Value) → List (Nat × Value)
  | _, [] => []
  | i, none :: l => z_as base b (i + 1) l
  | i, some v :: l => (i, z_rv base b v) :: z_as base b (i + 1) l
theorem z_as_in {base b : Nat} {q : Nat × Value} : ∀ (l : List (Option Value)) (i : Nat), q ∈ z_as base b i l ↔ ∃ v, i ≤ q.1 ∧ l[q.1 - i]? = some (some v) ∧ q.2 = z_rv base b v
  | [], i => by simp [z_as]
  | none :: l, i => by
    rw [z_as, z_as_in l (i + 1)]
    constructor
    · rintro ⟨v, h1, h2, h3⟩
      refine ⟨v, by omega, ?_, h3⟩
      rw [show q.1 - i = (q.1 - (i + 1)) + 1 by omega, List.getElem?_cons_succ]
      exact h2
    · rintro ⟨v, h1, h2, h3⟩
      rcases Nat.eq_or_lt_of_le h1 with e | e
      · rw [← e, Nat.sub_self] at h2
        simp at h2
      · refine ⟨v, e, ?_, h3⟩
        rw [show q.1 - i = (q.1 - (i + 1)) + 1 by omega, List.getElem?_cons_succ] at h2
        exact h2
  | some w :: l, i => by
    rw [z_as, List.mem_cons, z_as_in l (i + 1)]
    constructor
    · rintro (rfl | ⟨v, h1, h2, h3⟩)
      · exact ⟨w, Nat.le_refl _, by simp, rfl⟩
      · refine ⟨v, by omega, ?_, h3⟩
        rw [show q.1 - i = (q.1 - (i + 1)) + 1 by omega, List.getElem?_cons_succ]
        exact h2
    · rintro ⟨v, h1, h2, h3⟩
      rcases Nat.eq_or_lt_of_le h1 with e | e
      · rw [← e, Nat.sub_self] at h2
        simp at h2
        subst h2
        exact Or.inl (Prod.ext e.symm h3)
      · refine Or.inr ⟨v, e, ?_, h3⟩
        rw [show q.1 - i = (q.1 - (i + 1)) + 1 by omega, List.getElem?_cons_succ] at h2
        exact h2
def z_LL (base b nL : Nat) (ls : Array Slot) (lv : List (Option Value)) : Prop := lv_has ls nL (z_as base b 0 lv)
theorem z_LL.get {base b nL : Nat} {ls : Array Slot} {lv : List (Option Value)} (h : z_LL base b nL ls lv) {i : Nat} {v : Value} (hi : lv[i]? = some (some v)) : ls[i]? = some (.val (z_rv base b v)) :=
  h.2.2 (i, z_rv base b v) ((z_as_in lv 0).mpr ⟨v, Nat.zero_le _, hi, rfl⟩)
theorem z_nk_get {o : Option Value} {w : Value} (h : z_nk o = some w) : o = some w ∧ ¬ w.category = 2 := by
  rcases o with _ | v
  · cases h
  · cases v <;> first | (cases h; exact ⟨rfl, by decide⟩) | (cases h; exact ⟨rfl, by simp [Value.category]⟩) | cases h
theorem z_k_get {lv : List (Option Value)} {i j : Nat} {w : Value} (h : (z_k lv i)[j]? = some (some w)) : lv[j]? = some (some w) ∧ ¬ (j + 1 = i ∧ w.category = 2) := by
  cases i with
  | zero => exact ⟨h, fun q => absurd q.1 (by omega)⟩
  | succ i =>
    simp only [z_k, List.getElem?_modify] at h
    cases hj : lv[j]? with
    | none => rw [hj] at h; cases h
    | some x =>
      rw [hj] at h
      simp only [Option.map_eq_map, Option.map_some, Option.some.injEq] at h
      by_cases e : i = j
      · rw [if_pos e] at h
        obtain ⟨h1, h2⟩ := z_nk_get h
        exact ⟨by rw [h1], fun q => h2 q.2⟩
      · rw [if_neg e] at h
        exact ⟨by rw [h], fun q => e (by omega)⟩
theorem z_s1_get {lv : List (Option Value)} {i j : Nat} {v w : Value} (h : (z_s1 lv i v)[j]? = some (some w)) : (j = i ∧ w = v) ∨ (j ≠ i ∧ lv[j]? = some (some w) ∧ ¬ (j + 1 = i ∧ w.category = 2)) := by
  unfold z_s1 at h
  by_cases e : j = i
  · subst e
    rw [List.getElem?_set] at h
    simp only [if_true] at h
    split at h
    · exact Or.inl ⟨rfl, (Option.some.inj (Option.some.inj h)).symm⟩
    · cases h
  · rw [List.getElem?_set_ne (Ne.symm e)] at h
    exact Or.inr ⟨e, z_k_get h⟩
theorem z_s2_get {lv : List (Option Value)} {i j : Nat} {v w : Value} (h : (z_s2 lv i v)[j]? = some (some w)) : (j = i ∧ w = v) ∨ (j ≠ i ∧ j ≠ i + 1 ∧ lv[j]? = some (some w) ∧ ¬ (j + 1 = i ∧ w.category = 2)) := by
  unfold z_s2 at h
  by_cases e : j = i + 1
  · subst e
    rw [List.getElem?_set] at h
    simp only [if_true] at h
    split at h <;> cases h
  · rw [List.getElem?_set_ne (Ne.symm e)] at h
    rcases z_s1_get (by unfold z_s1; exact h) with h1 | h1
    · exact Or.inl h1
    · exact Or.inr ⟨h1.1, e, h1.2⟩
theorem z_LL.s1 {base b nL i : Nat} {ls' : Array Slot} {lv : List (Option Value)} {v : Value} {x : Value} (hx : z_rv base b v = x) (h : lv_has ls' nL ((i, x) :: (z_as base b 0 lv).filter (fun q => !(q.1 == i) && !(q.1 + 1 == i && q.2.category == 2)))) : z_LL base b nL ls' (z_s1 lv i v) := by
  refine ⟨h.1, h.2.1, fun q hq => ?_⟩
  obtain ⟨w, -, h2, h3⟩ := (z_as_in _ 0).mp hq
  rw [Nat.sub_zero] at h2
  rcases z_s1_get h2 with ⟨e1, e2⟩ | ⟨e1, e2, e3⟩
  · rw [e1, h3, e2, hx]
    exact h.2.2 (i, x) List.mem_cons_self
  · refine h.2.2 q (List.mem_cons_of_mem _ (List.mem_filter.mpr ⟨(z_as_in lv 0).mpr ⟨w, Nat.zero_le _, by rw [Nat.sub_zero]; exact e2, h3⟩, ?_⟩))
    rw [h3, z_rv_cat]
    simp only [Bool.and_eq_true, Bool.not_eq_true', beq_eq_false_iff_ne, ne_eq, Bool.and_eq_false_imp, beq_iff_eq]
    exact ⟨e1, fun q1 q2 => e3 ⟨q1, q2⟩⟩
theorem z_LL.s2 {base b nL i : Nat} {ls' : Array Slot} {lv : List (Option Value)} {v : Value} {x : Value} (hx : z_rv base b v = x) (h : lv_has ls' nL ((i, x) :: (z_as base b 0 lv).filter (fun q => !(q.1 == i) && (!(q.1 == i + 1) && !(q.1 + 1 == i && q.2.category == 2))))) : z_LL base b nL ls' (z_s2 lv i v) := by
  refine ⟨h.1, h.2.1, fun q hq => ?_⟩
  obtain ⟨w, -, h2, h3⟩ := (z_as_in _ 0).mp hq
  rw [Nat.sub_zero] at h2
  rcases z_s2_get h2 with ⟨e1, e2⟩ | ⟨e1, e2, e3, e4⟩
  · rw [e1, h3, e2, hx]
    exact h.2.2 (i, x) List.mem_cons_self
  · refine h.2.2 q (List.mem_cons_of_mem _ (List.mem_filter.mpr ⟨(z_as_in lv 0).mpr ⟨w, Nat.zero_le _, by rw [Nat.sub_zero]; exact e3, h3⟩, ?_⟩))
    rw [h3, z_rv_cat]
    simp only [Bool.and_eq_true, Bool.not_eq_true', beq_eq_false_iff_ne, ne_eq, Bool.and_eq_false_imp, beq_iff_eq]
    exact ⟨e1, e2, fun q1 q2 => e4 ⟨q1, q2⟩⟩
-- the words of a method, its room
def z_ws (m : Nat) : List Cond := .code (z_nm m) (z_co m) (z_ml m) (z_rt m) :: z_tbl
def z_rm (m : Nat) : Room := { frames := z_fr m, cells := z_mc m, slots := z_ms m, locals := z_lo m }
/-- what holds in a method's body -/
def z_Cx (p : Program) (R : Room) (s : State) (m : MethodId) (args : Array Value) (meth : Method) (c : Code) (D : va_G) (base b : Nat) (sc : List Int32) (mi : Nat) : Prop :=
  p.tables.exec = Jvm.exec ∧ c.code = z_co mi ∧ c.maxLocals = z_ml mi ∧ s.vm.findClass (z_rn (z_ci mi)) = some m.cls ∧ (∀ w ∈ z_tbl, w.before args s = true) ∧ z_Kx D s ∧ R = z_rm mi ∧ (z_ini mi = true → meth.name = "<init>") ∧ base ≤ s.heap.size ∧
  (mi = 0 → va_X b sc.length (fun j => sc.getD j 0) s s.heap ∧ b < base)
def z_Wt (p : Program) (l : Launch) (e : Env) (R : Room) (s : State) (m : MethodId) (args : Array Value) (below : List Frame) (meth : Method) (c : Code) (Q : State → Prop) (D : va_G) (base b nL : Nat) (S : z_S) : Prop :=
  ∀ (ls : Array Slot) (H : Heap) (locs : List Loc), z_LL base b nL ls S.2.1 → z_HH s D base S.2.2.2.1 H → va_S (fun q => base ≤ q) s.heap H locs → W p l e R s m args below meth c H locs S.2.2.2.2.1 S.2.2.2.2.2 Q (F0 m S.1 ls (S.2.2.1.map (z_rv base b)))

section ZS
variable {p : Program} {l : Launch} {e : Env} {R : Room} {s : State} {m : MethodId} {args : Array Value} {below : List Frame} {meth : Method} {c : Code} {Q : State → Prop} {D : va_G} {base b : Nat} {sc : List Int32} {mi pc kc ks : Nat} {lv : List (Option Value)} {st : List Value} {ph : z_H}
theorem zs_iload_n (C : z_Cx p R s m args meth c D base b sc mi) {k : Fin 4} {x : Int32} (h : lv[k.val]? = some (some (.int x))) (hdg : decode (z_co mi) pc = .ok (.iload_n k, 1)) (kk : z_Wt p l e R s m args below meth c Q D base b (z_ml mi) (pc + 1, lv, .int x :: st, ph, kc, ks)) : z_Wt p l e R s m args below meth c Q D base b (z_ml mi) (pc, lv, st, ph, kc, ks) := by
  intro ls H locs hl hh hs
  obtain ⟨hx, hb, hml, hown, hts, hK, hR, hini, hbase, hscr⟩ := C
  exact lv_iload_n hx hb hdg rfl (hl.get h) (kk ls H locs hl hh hs)
theorem zs_iload (C : z_Cx p R s m args meth c D base b sc mi) {k : Nat} {x : Int32} (h : lv[k]? = some (some (.int x))) (hdg : decode (z_co mi) pc = .ok (.iload k, 2)) (kk : z_Wt p l e R s m args below meth c Q D base b (z_ml mi) (pc + 2, lv, .int x :: st, ph, kc, ks)) : z_Wt p l e R s m args below meth c Q D base b (z_ml mi) (pc, lv, st, ph, kc, ks) := by
  intro ls H locs hl hh hs
  obtain ⟨hx, hb, hml, hown, hts, hK, hR, hini, hbase, hscr⟩ := C
  exact lv_iload hx hb hdg (hl.get h) (kk ls H locs hl hh hs)
theorem zs_lload_n (C : z_Cx p R s m args meth c D base b sc mi) {k : Fin 4} {x : Int64} (h : lv[k.val]? = some (some (.long x))) (hdg : decode (z_co mi) pc = .ok (.lload_n k, 1)) (kk : z_Wt p l e R s m args below meth c Q D base b (z_ml mi) (pc + 1, lv, .long x :: st, ph, kc, ks)) : z_Wt p l e R s m args below meth c Q D base b (z_ml mi) (pc, lv, st, ph, kc, ks) := by
  intro ls H locs hl hh hs
  obtain ⟨hx, hb, hml, hown, hts, hK, hR, hini, hbase, hscr⟩ := C
  exact lv_lload_n hx hb hdg rfl (hl.get h) (kk ls H locs hl hh hs)
theorem zs_lload (C : z_Cx p R s m args meth c D base b sc mi) {k : Nat} {x : Int64} (h : lv[k]? = some (some (.long x))) (hdg : decode (z_co mi) pc = .ok (.lload k, 2)) (kk : z_Wt p l e R s m args below meth c Q D base b (z_ml mi) (pc + 2, lv, .long x :: st, ph, kc, ks)) : z_Wt p l e R s m args below meth c Q D base b (z_ml mi) (pc, lv, st, ph, kc, ks) := by
  intro ls H locs hl hh hs
  obtain ⟨hx, hb, hml, hown, hts, hK, hR, hini, hbase, hscr⟩ := C
  exact lv_lload hx hb hdg (hl.get h) (kk ls H locs hl hh hs)
theorem zs_aload_n (C : z_Cx p R s m args meth c D base b sc mi) {k : Fin 4} {x : Nat} (h : lv[k.val]? = some (some (.ref x))) (hdg : decode (z_co mi) pc = .ok (.aload_n k, 1)) (kk : z_Wt p l e R s m args below meth c Q D base b (z_ml mi) (pc + 1, lv, .ref x :: st, ph, kc, ks)) : z_Wt p l e R s m args below meth c Q D base b (z_ml mi) (pc, lv, st, ph, kc, ks) := by
  intro ls H locs hl hh hs
  obtain ⟨hx, hb, hml, hown, hts, hK, hR, hini, hbase, hscr⟩ := C
  exact lv_aload_n hx hb hdg rfl (hl.get h) (kk ls H locs hl hh hs)
theorem zs_aload_s (C : z_Cx p R s m args meth c D base b sc mi) {k : Fin 4} {x : Nat} (h : lv[k.val]? = some (some (.retAddr x))) (hdg : decode (z_co mi) pc = .ok (.aload_n k, 1)) (kk : z_Wt p l e R s m args below meth c Q D base b (z_ml mi) (pc + 1, lv, .retAddr x :: st, ph, kc, ks)) : z_Wt p l e R s m args below meth c Q D base b (z_ml mi) (pc, lv, st, ph, kc, ks) := by
  intro ls H locs hl hh hs
  obtain ⟨hx, hb, hml, hown, hts, hK, hR, hini, hbase, hscr⟩ := C
  exact lv_aload_n hx hb hdg rfl (hl.get h) (kk ls H locs hl hh hs)
theorem zs_aload (C : z_Cx p R s m args meth c D base b sc mi) {k : Nat} {x : Nat} (h : lv[k]? = some (some (.ref x))) (hdg : decode (z_co mi) pc = .ok (.aload k, 2)) (kk : z_Wt p l e R s m args below meth c Q D base b (z_ml mi) (pc + 2, lv, .ref x :: st, ph, kc, ks)) : z_Wt p l e R s m args below meth c Q D base b (z_ml mi) (pc, lv, st, ph, kc, ks) := by
  intro ls H locs hl hh hs
  obtain ⟨hx, hb, hml, hown, hts, hK, hR, hini, hbase, hscr⟩ := C
  exact lv_aload hx hb hdg (hl.get h) (kk ls H locs hl hh hs)
theorem zs_istore_n (C : z_Cx p R s m args meth c D base b sc mi) {k : Fin 4} {x : Int32} (h : k.val < z_ml mi) (hdg : decode (z_co mi) pc = .ok (.istore_n k, 1)) (kk : z_Wt p l e R s m args below meth c Q D base b (z_ml mi) (pc + 1, z_s1 lv k.val (.int x), st, ph, kc, ks)) : z_Wt p l e R s m args below meth c Q D base b (z_ml mi) (pc, lv, .int x :: st, ph, kc, ks) := by
  intro ls H locs hl hh hs
  obtain ⟨hx, hb, hml, hown, hts, hK, hR, hini, hbase, hscr⟩ := C
  exact lv_istore_n hx hb hdg rfl hl h rfl (fun ls2 hl2 => kk ls2 H locs (z_LL.s1 rfl hl2) hh hs)
theorem zs_istore (C : z_Cx p R s m args meth c D base b sc mi) {k : Nat} {x : Int32} (h : k < z_ml mi) (hdg : decode (z_co mi) pc = .ok (.istore k, 2)) (kk : z_Wt p l e R s m args below meth c Q D base b (z_ml mi) (pc + 2, z_s1 lv k (.int x), st, ph, kc, ks)) : z_Wt p l e R s m args below meth c Q D base b (z_ml mi) (pc, lv, .int x :: st, ph, kc, ks) := by
  intro ls H locs hl hh hs
  obtain ⟨hx, hb, hml, hown, hts, hK, hR, hini, hbase, hscr⟩ := C
  exact lv_istore hx hb hdg hl h rfl (fun ls2 hl2 => kk ls2 H locs (z_LL.s1 rfl hl2) hh hs)
theorem zs_astore_n (C : z_Cx p R s m args meth c D base b sc mi) {k : Fin 4} {x : Nat} (h : k.val < z_ml mi) (hdg : decode (z_co mi) pc = .ok (.astore_n k, 1)) (kk : z_Wt p l e R s m args below meth c Q D base b (z_ml mi) (pc + 1, z_s1 lv k.val (.ref x), st, ph, kc, ks)) : z_Wt p l e R s m args below meth c Q D base b (z_ml mi) (pc, lv, .ref x :: st, ph, kc, ks) := by
  intro ls H locs hl hh hs
  obtain ⟨hx, hb, hml, hown, hts, hK, hR, hini, hbase, hscr⟩ := C
  exact lv_astore_n hx hb hdg rfl hl h rfl (fun ls2 hl2 => kk ls2 H locs (z_LL.s1 rfl hl2) hh hs)
theorem zs_astore (C : z_Cx p R s m args meth c D base b sc mi) {k : Nat} {x : Nat} (h : k < z_ml mi) (hdg : decode (z_co mi) pc = .ok (.astore k, 2)) (kk : z_Wt p l e R s m args below meth c Q D base b (z_ml mi) (pc + 2, z_s1 lv k (.ref x), st, ph, kc, ks)) : z_Wt p l e R s m args below meth c Q D base b (z_ml mi) (pc, lv, .ref x :: st, ph, kc, ks) := by
  intro ls H locs hl hh hs
  obtain ⟨hx, hb, hml, hown, hts, hK, hR, hini, hbase, hscr⟩ := C
  exact lv_astore hx hb hdg hl h rfl (fun ls2 hl2 => kk ls2 H locs (z_LL.s1 rfl hl2) hh hs)
theorem zs_lstore_n (C : z_Cx p R s m args meth c D base b sc mi) {k : Fin 4} {x : Int64} (h : k.val + 1 < z_ml mi) (hdg : decode (z_co mi) pc = .ok (.lstore_n k, 1)) (kk : z_Wt p l e R s m args below meth c Q D base b (z_ml mi) (pc + 1, z_s2 lv k.val (.long x), st, ph, kc, ks)) : z_Wt p l e R s m args below meth c Q D base b (z_ml mi) (pc, lv, .long x :: st, ph, kc, ks) := by
  intro ls H locs hl hh hs
  obtain ⟨hx, hb, hml, hown, hts, hK, hR, hini, hbase, hscr⟩ := C
  exact lv_lstore_n hx hb hdg rfl hl h rfl (fun ls2 hl2 => kk ls2 H locs (z_LL.s2 rfl hl2) hh hs)
theorem zs_lstore (C : z_Cx p R s m args meth c D base b sc mi) {k : Nat} {x : Int64} (h : k + 1 < z_ml mi) (hdg : decode (z_co mi) pc = .ok (.lstore k, 2)) (kk : z_Wt p l e R s m args below meth c Q D base b (z_ml mi) (pc + 2, z_s2 lv k (.long x), st, ph, kc, ks)) : z_Wt p l e R s m args below meth c Q D base b (z_ml mi) (pc, lv, .long x :: st, ph, kc, ks) := by
  intro ls H locs hl hh hs
  obtain ⟨hx, hb, hml, hown, hts, hK, hR, hini, hbase, hscr⟩ := C
  exact lv_lstore hx hb hdg hl h rfl (fun ls2 hl2 => kk ls2 H locs (z_LL.s2 rfl hl2) hh hs)
theorem zs_iinc (C : z_Cx p R s m args meth c D base b sc mi) {k : Nat} {n : Int} {x : Int32} (h0 : lv[k]? = some (some (.int x))) (h : k < z_ml mi) (hdg : decode (z_co mi) pc = .ok (.iinc k n, 3)) (kk : z_Wt p l e R s m args below meth c Q D base b (z_ml mi) (pc + 3, z_s1 lv k (.int (x + Int32.ofInt n)), st, ph, kc, ks)) : z_Wt p l e R s m args below meth c Q D base b (z_ml mi) (pc, lv, st, ph, kc, ks) := by
  intro ls H locs hl hh hs
  obtain ⟨hx, hb, hml, hown, hts, hK, hR, hini, hbase, hscr⟩ := C
  obtain ⟨q, hq⟩ := List.getElem?_of_mem ((z_as_in (base := base) (b := b) (q := (k, .int x)) lv 0).mpr ⟨.int x, Nat.zero_le _, h0, rfl⟩)
  exact lv_iinc hx hb hdg hl hq rfl h rfl (fun ls2 hl2 => kk ls2 H locs (z_LL.s1 rfl hl2) hh hs)
theorem zs_iconst (C : z_Cx p R s m args meth c D base b sc mi) {n : Int} (hdg : decode (z_co mi) pc = .ok (.iconst n, 1)) (kk : z_Wt p l e R s m args below meth c Q D base b (z_ml mi) (pc + 1, lv, .int (Int32.ofInt n) :: st, ph, kc, ks)) : z_Wt p l e R s m args below meth c Q D base b (z_ml mi) (pc, lv, st, ph, kc, ks) := by
  intro ls H locs hl hh hs
  obtain ⟨hx, hb, hml, hown, hts, hK, hR, hini, hbase, hscr⟩ := C
  exact lv_iconst hx hb hdg rfl (kk ls H locs hl hh hs)
theorem zs_bipush (C : z_Cx p R s m args meth c D base b sc mi) {n : Int} (hdg : decode (z_co mi) pc = .ok (.bipush n, 2)) (kk : z_Wt p l e R s m args below meth c Q D base b (z_ml mi) (pc + 2, lv, .int (Int8.ofInt n).toInt32 :: st, ph, kc, ks)) : z_Wt p l e R s m args below meth c Q D base b (z_ml mi) (pc, lv, st, ph, kc, ks) := by
  intro ls H locs hl hh hs
  obtain ⟨hx, hb, hml, hown, hts, hK, hR, hini, hbase, hscr⟩ := C
  exact lv_bipush hx hb hdg rfl (kk ls H locs hl hh hs)
theorem zs_sipush (C : z_Cx p R s m args meth c D base b sc mi) {n : Int} (hdg : decode (z_co mi) pc = .ok (.sipush n, 3)) (kk : z_Wt p l e R s m args below meth c Q D base b (z_ml mi) (pc + 3, lv, .int (Int16.ofInt n).toInt32 :: st, ph, kc, ks)) : z_Wt p l e R s m args below meth c Q D base b (z_ml mi) (pc, lv, st, ph, kc, ks) := by
  intro ls H locs hl hh hs
  obtain ⟨hx, hb, hml, hown, hts, hK, hR, hini, hbase, hscr⟩ := C
  exact lv_sipush hx hb hdg rfl (kk ls H locs hl hh hs)
theorem zs_lconst (C : z_Cx p R s m args meth c D base b sc mi) {n : Fin 2} (hdg : decode (z_co mi) pc = .ok (.lconst n, 1)) (kk : z_Wt p l e R s m args below meth c Q D base b (z_ml mi) (pc + 1, lv, .long (Int64.ofNat n.val) :: st, ph, kc, ks)) : z_Wt p l e R s m args below meth c Q D base b (z_ml mi) (pc, lv, st, ph, kc, ks) := by
  intro ls H locs hl hh hs
  obtain ⟨hx, hb, hml, hown, hts, hK, hR, hini, hbase, hscr⟩ := C
  exact lv_lconst hx hb hdg rfl (kk ls H locs hl hh hs)
theorem zs_ldc (C : z_Cx p R s m args meth c D base b sc mi) {n : Nat} {v : Int32} (h : Cond.constant (z_rn (z_ci mi)) n v ∈ z_tbl) (hdg : decode (z_co mi) pc = .ok (.ldc n, 2)) (kk : z_Wt p l e R s m args below meth c Q D base b (z_ml mi) (pc + 2, lv, .int v :: st, ph, kc, ks)) : z_Wt p l e R s m args below meth c Q D base b (z_ml mi) (pc, lv, st, ph, kc, ks) := by
  intro ls H locs hl hh hs
  obtain ⟨hx, hb, hml, hown, hts, hK, hR, hini, hbase, hscr⟩ := C
  exact lv_ldc hx hb hown (hts _ h) hdg (kk ls H locs hl hh hs)
theorem zs_ldc_w (C : z_Cx p R s m args meth c D base b sc mi) {n : Nat} {v : Int32} (h : Cond.constant (z_rn (z_ci mi)) n v ∈ z_tbl) (hdg : decode (z_co mi) pc = .ok (.ldc_w n, 3)) (kk : z_Wt p l e R s m args below meth c Q D base b (z_ml mi) (pc + 3, lv, .int v :: st, ph, kc, ks)) : z_Wt p l e R s m args below meth c Q D base b (z_ml mi) (pc, lv, st, ph, kc, ks) := by
  intro ls H locs hl hh hs
  obtain ⟨hx, hb, hml, hown, hts, hK, hR, hini, hbase, hscr⟩ := C
  exact lv_ldcw hx hb hown (hts _ h) hdg (kk ls H locs hl hh hs)
theorem zs_ldc2_w (C : z_Cx p R s m args meth c D base b sc mi) {n : Nat} {v : Int64} (h : Cond.constantLong (z_rn (z_ci mi)) n v ∈ z_tbl) (hdg : decode (z_co mi) pc = .ok (.ldc2_w n, 3)) (kk : z_Wt p l e R s m args below meth c Q D base b (z_ml mi) (pc + 3, lv, .long v :: st, ph, kc, ks)) : z_Wt p l e R s m args below meth c Q D base b (z_ml mi) (pc, lv, st, ph, kc, ks) := by
  intro ls H locs hl hh hs
  obtain ⟨hx, hb, hml, hown, hts, hK, hR, hini, hbase, hscr⟩ := C
  exact lv_ldc2 hx hb hown (hts _ h) hdg (kk ls H locs hl hh hs)
theorem zs_iadd (C : z_Cx p R s m args meth c D base b sc mi) {x y : Int32} (hdg : decode (z_co mi) pc = .ok (.iadd, 1)) (kk : z_Wt p l e R s m args below meth c Q D base b (z_ml mi) (pc + 1, lv, .int (x + y) :: st, ph, kc, ks)) : z_Wt p l e R s m args below meth c Q D base b (z_ml mi) (pc, lv, .int y :: .int x :: st, ph, kc, ks) := by
  intro ls H locs hl hh hs
  obtain ⟨hx, hb, hml, hown, hts, hK, hR, hini, hbase, hscr⟩ := C
  exact lv_iadd hx hb hdg (kk ls H locs hl hh hs)
theorem zs_isub (C : z_Cx p R s m args meth c D base b sc mi) {x y : Int32} (hdg : decode (z_co mi) pc = .ok (.isub, 1)) (kk : z_Wt p l e R s m args below meth c Q D base b (z_ml mi) (pc + 1, lv, .int (x - y) :: st, ph, kc, ks)) : z_Wt p l e R s m args below meth c Q D base b (z_ml mi) (pc, lv, .int y :: .int x :: st, ph, kc, ks) := by
  intro ls H locs hl hh hs
  obtain ⟨hx, hb, hml, hown, hts, hK, hR, hini, hbase, hscr⟩ := C
  exact lv_isub hx hb hdg (kk ls H locs hl hh hs)
theorem zs_imul (C : z_Cx p R s m args meth c D base b sc mi) {x y : Int32} (hdg : decode (z_co mi) pc = .ok (.imul, 1)) (kk : z_Wt p l e R s m args below meth c Q D base b (z_ml mi) (pc + 1, lv, .int (x * y) :: st, ph, kc, ks)) : z_Wt p l e R s m args below meth c Q D base b (z_ml mi) (pc, lv, .int y :: .int x :: st, ph, kc, ks) := by
  intro ls H locs hl hh hs
  obtain ⟨hx, hb, hml, hown, hts, hK, hR, hini, hbase, hscr⟩ := C
  exact lv_imul hx hb hdg (kk ls H locs hl hh hs)
theorem zs_ishl (C : z_Cx p R s m args meth c D base b sc mi) {x y : Int32} (hdg : decode (z_co mi) pc = .ok (.ishl, 1)) (kk : z_Wt p l e R s m args below meth c Q D base b (z_ml mi) (pc + 1, lv, .int (x <<< (y &&& 31)) :: st, ph, kc, ks)) : z_Wt p l e R s m args below meth c Q D base b (z_ml mi) (pc, lv, .int y :: .int x :: st, ph, kc, ks) := by
  intro ls H locs hl hh hs
  obtain ⟨hx, hb, hml, hown, hts, hK, hR, hini, hbase, hscr⟩ := C
  exact lv_ishl hx hb hdg (kk ls H locs hl hh hs)
theorem zs_ishr (C : z_Cx p R s m args meth c D base b sc mi) {x y : Int32} (hdg : decode (z_co mi) pc = .ok (.ishr, 1)) (kk : z_Wt p l e R s m args below meth c Q D base b (z_ml mi) (pc + 1, lv, .int (x >>> (y &&& 31)) :: st, ph, kc, ks)) : z_Wt p l e R s m args below meth c Q D base b (z_ml mi) (pc, lv, .int y :: .int x :: st, ph, kc, ks) := by
  intro ls H locs hl hh hs
  obtain ⟨hx, hb, hml, hown, hts, hK, hR, hini, hbase, hscr⟩ := C
  exact lv_ishr hx hb hdg (kk ls H locs hl hh hs)
theorem zs_iand (C : z_Cx p R s m args meth c D base b sc mi) {x y : Int32} (hdg : decode (z_co mi) pc = .ok (.iand, 1)) (kk : z_Wt p l e R s m args below meth c Q D base b (z_ml mi) (pc + 1, lv, .int (x &&& y) :: st, ph, kc, ks)) : z_Wt p l e R s m args below meth c Q D base b (z_ml mi) (pc, lv, .int y :: .int x :: st, ph, kc, ks) := by
  intro ls H locs hl hh hs
  obtain ⟨hx, hb, hml, hown, hts, hK, hR, hini, hbase, hscr⟩ := C
  exact lv_iand hx hb hdg (kk ls H locs hl hh hs)
theorem zs_ior (C : z_Cx p R s m args meth c D base b sc mi) {x y : Int32} (hdg : decode (z_co mi) pc = .ok (.ior, 1)) (kk : z_Wt p l e R s m args below meth c Q D base b (z_ml mi) (pc + 1, lv, .int (x ||| y) :: st, ph, kc, ks)) : z_Wt p l e R s m args below meth c Q D base b (z_ml mi) (pc, lv, .int y :: .int x :: st, ph, kc, ks) := by
  intro ls H locs hl hh hs
  obtain ⟨hx, hb, hml, hown, hts, hK, hR, hini, hbase, hscr⟩ := C
  exact lv_ior hx hb hdg (kk ls H locs hl hh hs)
theorem zs_ixor (C : z_Cx p R s m args meth c D base b sc mi) {x y : Int32} (hdg : decode (z_co mi) pc = .ok (.ixor, 1)) (kk : z_Wt p l e R s m args below meth c Q D base b (z_ml mi) (pc + 1, lv, .int (x ^^^ y) :: st, ph, kc, ks)) : z_Wt p l e R s m args below meth c Q D base b (z_ml mi) (pc, lv, .int y :: .int x :: st, ph, kc, ks) := by
  intro ls H locs hl hh hs
  obtain ⟨hx, hb, hml, hown, hts, hK, hR, hini, hbase, hscr⟩ := C
  exact lv_ixor hx hb hdg (kk ls H locs hl hh hs)
theorem zs_iushr (C : z_Cx p R s m args meth c D base b sc mi) {x y : Int32} (hdg : decode (z_co mi) pc = .ok (.iushr, 1)) (kk : z_Wt p l e R s m args below meth c Q D base b (z_ml mi) (pc + 1, lv, .int (x.toUInt32 >>> (y.toUInt32 &&& Int32.toUInt32 31)).toInt32 :: st, ph, kc, ks)) : z_Wt p l e R s m args below meth c Q D base b (z_ml mi) (pc, lv, .int y :: .int x :: st, ph, kc, ks) := by
  intro ls H locs hl hh hs
  obtain ⟨hx, hb, hml, hown, hts, hK, hR, hini, hbase, hscr⟩ := C
  exact lv_iushr hx hb hdg rfl (kk ls H locs hl hh hs)
theorem zs_idiv (C : z_Cx p R s m args meth c D base b sc mi) {x y : Int32} (h : ¬ y = 0) (hdg : decode (z_co mi) pc = .ok (.idiv, 1)) (kk : z_Wt p l e R s m args below meth c Q D base b (z_ml mi) (pc + 1, lv, .int (x / y) :: st, ph, kc, ks)) : z_Wt p l e R s m args below meth c Q D base b (z_ml mi) (pc, lv, .int y :: .int x :: st, ph, kc, ks) := by
  intro ls H locs hl hh hs
  obtain ⟨hx, hb, hml, hown, hts, hK, hR, hini, hbase, hscr⟩ := C
  exact lv_idiv hx hb hdg h (kk ls H locs hl hh hs)
theorem zs_irem (C : z_Cx p R s m args meth c D base b sc mi) {x y : Int32} (h : ¬ y = 0) (hdg : decode (z_co mi) pc = .ok (.irem, 1)) (kk : z_Wt p l e R s m args below meth c Q D base b (z_ml mi) (pc + 1, lv, .int (x - x / y * y) :: st, ph, kc, ks)) : z_Wt p l e R s m args below meth c Q D base b (z_ml mi) (pc, lv, .int y :: .int x :: st, ph, kc, ks) := by
  intro ls H locs hl hh hs
  obtain ⟨hx, hb, hml, hown, hts, hK, hR, hini, hbase, hscr⟩ := C
  exact lv_irem hx hb hdg h (kk ls H locs hl hh hs)
theorem zs_ineg (C : z_Cx p R s m args meth c D base b sc mi) {x : Int32} (hdg : decode (z_co mi) pc = .ok (.ineg, 1)) (kk : z_Wt p l e R s m args below meth c Q D base b (z_ml mi) (pc + 1, lv, .int (-x) :: st, ph, kc, ks)) : z_Wt p l e R s m args below meth c Q D base b (z_ml mi) (pc, lv, .int x :: st, ph, kc, ks) := by
  intro ls H locs hl hh hs
  obtain ⟨hx, hb, hml, hown, hts, hK, hR, hini, hbase, hscr⟩ := C
  exact lv_ineg hx hb hdg (kk ls H locs hl hh hs)
theorem zs_ladd (C : z_Cx p R s m args meth c D base b sc mi) {x y : Int64} (hdg : decode (z_co mi) pc = .ok (.ladd, 1)) (kk : z_Wt p l e R s m args below meth c Q D base b (z_ml mi) (pc + 1, lv, .long (x + y) :: st, ph, kc, ks)) : z_Wt p l e R s m args below meth c Q D base b (z_ml mi) (pc, lv, .long y :: .long x :: st, ph, kc, ks) := by
  intro ls H locs hl hh hs
  obtain ⟨hx, hb, hml, hown, hts, hK, hR, hini, hbase, hscr⟩ := C
  exact lv_ladd hx hb hdg (kk ls H locs hl hh hs)
theorem zs_lsub (C : z_Cx p R s m args meth c D base b sc mi) {x y : Int64} (hdg : decode (z_co mi) pc = .ok (.lsub, 1)) (kk : z_Wt p l e R s m args below meth c Q D base b (z_ml mi) (pc + 1, lv, .long (x - y) :: st, ph, kc, ks)) : z_Wt p l e R s m args below meth c Q D base b (z_ml mi) (pc, lv, .long y :: .long x :: st, ph, kc, ks) := by
  intro ls H locs hl hh hs
  obtain ⟨hx, hb, hml, hown, hts, hK, hR, hini, hbase, hscr⟩ := C
  exact lv_lsub hx hb hdg (kk ls H locs hl hh hs)
theorem zs_land (C : z_Cx p R s m args meth c D base b sc mi) {x y : Int64} (hdg : decode (z_co mi) pc = .ok (.land, 1)) (kk : z_Wt p l e R s m args below meth c Q D base b (z_ml mi) (pc + 1, lv, .long (x &&& y) :: st, ph, kc, ks)) : z_Wt p l e R s m args below meth c Q D base b (z_ml mi) (pc, lv, .long y :: .long x :: st, ph, kc, ks) := by
  intro ls H locs hl hh hs
  obtain ⟨hx, hb, hml, hown, hts, hK, hR, hini, hbase, hscr⟩ := C
  exact lv_land hx hb hdg (kk ls H locs hl hh hs)
theorem zs_lor (C : z_Cx p R s m args meth c D base b sc mi) {x y : Int64} (hdg : decode (z_co mi) pc = .ok (.lor, 1)) (kk : z_Wt p l e R s m args below meth c Q D base b (z_ml mi) (pc + 1, lv, .long (x ||| y) :: st, ph, kc, ks)) : z_Wt p l e R s m args below meth c Q D base b (z_ml mi) (pc, lv, .long y :: .long x :: st, ph, kc, ks) := by
  intro ls H locs hl hh hs
  obtain ⟨hx, hb, hml, hown, hts, hK, hR, hini, hbase, hscr⟩ := C
  exact lv_lor hx hb hdg (kk ls H locs hl hh hs)
theorem zs_lxor (C : z_Cx p R s m args meth c D base b sc mi) {x y : Int64} (hdg : decode (z_co mi) pc = .ok (.lxor, 1)) (kk : z_Wt p l e R s m args below meth c Q D base b (z_ml mi) (pc + 1, lv, .long (x ^^^ y) :: st, ph, kc, ks)) : z_Wt p l e R s m args below meth c Q D base b (z_ml mi) (pc, lv, .long y :: .long x :: st, ph, kc, ks) := by
  intro ls H locs hl hh hs
  obtain ⟨hx, hb, hml, hown, hts, hK, hR, hini, hbase, hscr⟩ := C
  exact lv_lxor hx hb hdg (kk ls H locs hl hh hs)
theorem zs_lshl (C : z_Cx p R s m args meth c D base b sc mi) {x : Int64} {y : Int32} (hdg : decode (z_co mi) pc = .ok (.lshl, 1)) (kk : z_Wt p l e R s m args below meth c Q D base b (z_ml mi) (pc + 1, lv, .long (x <<< (y.toInt64 &&& 63)) :: st, ph, kc, ks)) : z_Wt p l e R s m args below meth c Q D base b (z_ml mi) (pc, lv, .int y :: .long x :: st, ph, kc, ks) := by
  intro ls H locs hl hh hs
  obtain ⟨hx, hb, hml, hown, hts, hK, hR, hini, hbase, hscr⟩ := C
  exact lv_lshl hx hb hdg rfl (kk ls H locs hl hh hs)
theorem zs_lushr (C : z_Cx p R s m args meth c D base b sc mi) {x : Int64} {y : Int32} (hdg : decode (z_co mi) pc = .ok (.lushr, 1)) (kk : z_Wt p l e R s m args below meth c Q D base b (z_ml mi) (pc + 1, lv, .long (x.toUInt64 >>> (y.toInt64.toUInt64 &&& Int64.toUInt64 63)).toInt64 :: st, ph, kc, ks)) : z_Wt p l e R s m args below meth c Q D base b (z_ml mi) (pc, lv, .int y :: .long x :: st, ph, kc, ks) := by
  intro ls H locs hl hh hs
  obtain ⟨hx, hb, hml, hown, hts, hK, hR, hini, hbase, hscr⟩ := C
  exact lv_lushr hx hb hdg rfl (kk ls H locs hl hh hs)
theorem zs_lcmp (C : z_Cx p R s m args meth c D base b sc mi) {x y : Int64} (hdg : decode (z_co mi) pc = .ok (.lcmp, 1)) (kk : z_Wt p l e R s m args below meth c Q D base b (z_ml mi) (pc + 1, lv, .int (lg_cmp x y) :: st, ph, kc, ks)) : z_Wt p l e R s m args below meth c Q D base b (z_ml mi) (pc, lv, .long y :: .long x :: st, ph, kc, ks) := by
  intro ls H locs hl hh hs
  obtain ⟨hx, hb, hml, hown, hts, hK, hR, hini, hbase, hscr⟩ := C
  exact W.lcmp hx hb hdg (kk ls H locs hl hh hs)
theorem zs_i2l (C : z_Cx p R s m args meth c D base b sc mi) {x : Int32} (hdg : decode (z_co mi) pc = .ok (.i2l, 1)) (kk : z_Wt p l e R s m args below meth c Q D base b (z_ml mi) (pc + 1, lv, .long x.toInt64 :: st, ph, kc, ks)) : z_Wt p l e R s m args below meth c Q D base b (z_ml mi) (pc, lv, .int x :: st, ph, kc, ks) := by
  intro ls H locs hl hh hs
  obtain ⟨hx, hb, hml, hown, hts, hK, hR, hini, hbase, hscr⟩ := C
  exact lv_i2l hx hb hdg rfl (kk ls H locs hl hh hs)
theorem zs_l2i (C : z_Cx p R s m args meth c D base b sc mi) {x : Int64} (hdg : decode (z_co mi) pc = .ok (.l2i, 1)) (kk : z_Wt p l e R s m args below meth c Q D base b (z_ml mi) (pc + 1, lv, .int x.toInt32 :: st, ph, kc, ks)) : z_Wt p l e R s m args below meth c Q D base b (z_ml mi) (pc, lv, .long x :: st, ph, kc, ks) := by
  intro ls H locs hl hh hs
  obtain ⟨hx, hb, hml, hown, hts, hK, hR, hini, hbase, hscr⟩ := C
  exact lv_l2i hx hb hdg rfl (kk ls H locs hl hh hs)
theorem zs_dupi (C : z_Cx p R s m args meth c D base b sc mi) {x : Int32} (hdg : decode (z_co mi) pc = .ok (.dup, 1)) (kk : z_Wt p l e R s m args below meth c Q D base b (z_ml mi) (pc + 1, lv, .int x :: .int x :: st, ph, kc, ks)) : z_Wt p l e R s m args below meth c Q D base b (z_ml mi) (pc, lv, .int x :: st, ph, kc, ks) := by
  intro ls H locs hl hh hs
  obtain ⟨hx, hb, hml, hown, hts, hK, hR, hini, hbase, hscr⟩ := C
  exact lv_dup hx hb hdg rfl (kk ls H locs hl hh hs)
theorem zs_dupa (C : z_Cx p R s m args meth c D base b sc mi) {x : Nat} (hdg : decode (z_co mi) pc = .ok (.dup, 1)) (kk : z_Wt p l e R s m args below meth c Q D base b (z_ml mi) (pc + 1, lv, .ref x :: .ref x :: st, ph, kc, ks)) : z_Wt p l e R s m args below meth c Q D base b (z_ml mi) (pc, lv, .ref x :: st, ph, kc, ks) := by
  intro ls H locs hl hh hs
  obtain ⟨hx, hb, hml, hown, hts, hK, hR, hini, hbase, hscr⟩ := C
  exact lv_dup hx hb hdg rfl (kk ls H locs hl hh hs)
theorem zs_dup2 (C : z_Cx p R s m args meth c D base b sc mi) {x : Int32} {y : Nat} (hdg : decode (z_co mi) pc = .ok (.dup2, 1)) (kk : z_Wt p l e R s m args below meth c Q D base b (z_ml mi) (pc + 1, lv, .int x :: .ref y :: .int x :: .ref y :: st, ph, kc, ks)) : z_Wt p l e R s m args below meth c Q D base b (z_ml mi) (pc, lv, .int x :: .ref y :: st, ph, kc, ks) := by
  intro ls H locs hl hh hs
  obtain ⟨hx, hb, hml, hown, hts, hK, hR, hini, hbase, hscr⟩ := C
  exact lv_dup2_11 hx hb hdg rfl rfl (kk ls H locs hl hh hs)
theorem zs_dup_x1 (C : z_Cx p R s m args meth c D base b sc mi) {x : Int32} {y : Nat} (hdg : decode (z_co mi) pc = .ok (.dup_x1, 1)) (kk : z_Wt p l e R s m args below meth c Q D base b (z_ml mi) (pc + 1, lv, .int x :: .ref y :: .int x :: st, ph, kc, ks)) : z_Wt p l e R s m args below meth c Q D base b (z_ml mi) (pc, lv, .int x :: .ref y :: st, ph, kc, ks) := by
  intro ls H locs hl hh hs
  obtain ⟨hx, hb, hml, hown, hts, hK, hR, hini, hbase, hscr⟩ := C
  exact lv_dup_x1 hx hb hdg rfl rfl (kk ls H locs hl hh hs)
theorem zs_pop (C : z_Cx p R s m args meth c D base b sc mi) {x : Int32} (hdg : decode (z_co mi) pc = .ok (.pop, 1)) (kk : z_Wt p l e R s m args below meth c Q D base b (z_ml mi) (pc + 1, lv, st, ph, kc, ks)) : z_Wt p l e R s m args below meth c Q D base b (z_ml mi) (pc, lv, .int x :: st, ph, kc, ks) := by
  intro ls H locs hl hh hs
  obtain ⟨hx, hb, hml, hown, hts, hK, hR, hini, hbase, hscr⟩ := C
  exact lv_pop hx hb hdg rfl (kk ls H locs hl hh hs)
theorem z_tgt {pc : Nat} {off : Int} (h : 0 ≤ (pc : Int) + off) : (pc : Int) + off = ((((pc : Int) + off).toNat : Nat) : Int) := (Int.toNat_of_nonneg h).symm
theorem zs_goto (C : z_Cx p R s m args meth c D base b sc mi) {off : Int} (h : 0 ≤ (pc : Int) + off) (hdg : decode (z_co mi) pc = .ok (.goto off, 3)) (kk : z_Wt p l e R s m args below meth c Q D base b (z_ml mi) (((pc : Int) + off).toNat, lv, st, ph, kc, ks)) : z_Wt p l e R s m args below meth c Q D base b (z_ml mi) (pc, lv, st, ph, kc, ks) := by
  intro ls H locs hl hh hs
  obtain ⟨hx, hb, hml, hown, hts, hK, hR, hini, hbase, hscr⟩ := C
  exact lv_goto hx hb hdg (z_tgt h) (kk ls H locs hl hh hs)
theorem zs_if_icmp (C : z_Cx p R s m args meth c D base b sc mi) {cn : ClassFile.Cond} {x y : Int32} {off : Int} (h0 : 0 ≤ (pc : Int) + off) (hdg : decode (z_co mi) pc = .ok (.if_icmp cn off, 3))
    (kt : z_cnd cn x y = true → z_Wt p l e R s m args below meth c Q D base b (z_ml mi) (((pc : Int) + off).toNat, lv, st, ph, kc, ks)) (kf : z_cnd cn x y = false → z_Wt p l e R s m args below meth c Q D base b (z_ml mi) (pc + 3, lv, st, ph, kc, ks)) : z_Wt p l e R s m args below meth c Q D base b (z_ml mi) (pc, lv, .int y :: .int x :: st, ph, kc, ks) := by
  intro ls H locs hl hh hs
  obtain ⟨hx, hb, hml, hown, hts, hK, hR, hini, hbase, hscr⟩ := C
  cases cn
  · exact lv_icmp_eq hx hb hdg (z_tgt h0) (fun q => kt (by simp [z_cnd, q]) ls H locs hl hh hs) (fun q => kf (by simp [z_cnd] <;> exact q) ls H locs hl hh hs)
  · exact lv_icmp_ne hx hb hdg (z_tgt h0) (fun q => kt (by simp [z_cnd, q]) ls H locs hl hh hs) (fun q => kf (by simp [z_cnd] <;> exact q) ls H locs hl hh hs)
  · exact lv_icmp_lt hx hb hdg (z_tgt h0) (fun q => kt (decide_eq_true q) ls H locs hl hh hs) (fun q => kf (decide_eq_false q) ls H locs hl hh hs)
  · exact lv_icmp_ge hx hb hdg (z_tgt h0) (fun q => kt (decide_eq_true q) ls H locs hl hh hs) (fun q => kf (decide_eq_false q) ls H locs hl hh hs)
  · exact lv_icmp_gt hx hb hdg (z_tgt h0) (fun q => kt (decide_eq_true q) ls H locs hl hh hs) (fun q => kf (decide_eq_false q) ls H locs hl hh hs)
  · exact lv_icmp_le hx hb hdg (z_tgt h0) (fun q => kt (decide_eq_true q) ls H locs hl hh hs) (fun q => kf (decide_eq_false q) ls H locs hl hh hs)
theorem zs_ifCond (C : z_Cx p R s m args meth c D base b sc mi) {cn : ClassFile.Cond} {x : Int32} {off : Int} (h0 : 0 ≤ (pc : Int) + off) (hdg : decode (z_co mi) pc = .ok (.ifCond cn off, 3))
    (kt : z_cnd cn x 0 = true → z_Wt p l e R s m args below meth c Q D base b (z_ml mi) (((pc : Int) + off).toNat, lv, st, ph, kc, ks)) (kf : z_cnd cn x 0 = false → z_Wt p l e R s m args below meth c Q D base b (z_ml mi) (pc + 3, lv, st, ph, kc, ks)) : z_Wt p l e R s m args below meth c Q D base b (z_ml mi) (pc, lv, .int x :: st, ph, kc, ks) := by
  intro ls H locs hl hh hs
  obtain ⟨hx, hb, hml, hown, hts, hK, hR, hini, hbase, hscr⟩ := C
  cases cn
  · exact lv_if_eq hx hb hdg (z_tgt h0) (fun q => kt (by simp [z_cnd, q]) ls H locs hl hh hs) (fun q => kf (by simp [z_cnd] <;> exact q) ls H locs hl hh hs)
  · exact lv_if_ne hx hb hdg (z_tgt h0) (fun q => kt (by simp [z_cnd, q]) ls H locs hl hh hs) (fun q => kf (by simp [z_cnd] <;> exact q) ls H locs hl hh hs)
  · exact lv_if_lt hx hb hdg (z_tgt h0) (fun q => kt (decide_eq_true q) ls H locs hl hh hs) (fun q => kf (decide_eq_false q) ls H locs hl hh hs)
  · exact lv_if_ge hx hb hdg (z_tgt h0) (fun q => kt (decide_eq_true q) ls H locs hl hh hs) (fun q => kf (decide_eq_false q) ls H locs hl hh hs)
  · exact lv_if_gt hx hb hdg (z_tgt h0) (fun q => kt (decide_eq_true q) ls H locs hl hh hs) (fun q => kf (decide_eq_false q) ls H locs hl hh hs)
  · exact lv_if_le hx hb hdg (z_tgt h0) (fun q => kt (decide_eq_true q) ls H locs hl hh hs) (fun q => kf (decide_eq_false q) ls H locs hl hh hs)
theorem zs_tsw (C : z_Cx p R s m args meth c D base b sc mi) {dflt lo hi : Int} {offs : Array Int} {len : Nat} {x : Int32} {off : Int} (hdg : decode (z_co mi) pc = .ok (.tableswitch dflt lo hi offs, len)) (h1 : ¬ (x.toInt < lo ∨ hi < x.toInt)) (ho : offs[(x.toInt - lo).toNat]? = some off) (h0 : 0 ≤ (pc : Int) + off) (kk : z_Wt p l e R s m args below meth c Q D base b (z_ml mi) (((pc : Int) + off).toNat, lv, st, ph, kc, ks)) : z_Wt p l e R s m args below meth c Q D base b (z_ml mi) (pc, lv, .int x :: st, ph, kc, ks) := by
  intro ls H locs hl hh hs
  obtain ⟨hx, hb, hml, hown, hts, hK, hR, hini, hbase, hscr⟩ := C
  exact lv_tableIn hx hb hdg (fun q => h1 (Or.inl q)) (fun q => h1 (Or.inr q)) ho (z_tgt h0) (kk ls H locs hl hh hs)
theorem zs_tsd (C : z_Cx p R s m args meth c D base b sc mi) {dflt lo hi : Int} {offs : Array Int} {len : Nat} {x : Int32} (hdg : decode (z_co mi) pc = .ok (.tableswitch dflt lo hi offs, len)) (h1 : x.toInt < lo ∨ hi < x.toInt) (h0 : 0 ≤ (pc : Int) + dflt) (kk : z_Wt p l e R s m args below meth c Q D base b (z_ml mi) (((pc : Int) + dflt).toNat, lv, st, ph, kc, ks)) : z_Wt p l e R s m args below meth c Q D base b (z_ml mi) (pc, lv, .int x :: st, ph, kc, ks) := by
  intro ls H locs hl hh hs
  obtain ⟨hx, hb, hml, hown, hts, hK, hR, hini, hbase, hscr⟩ := C
  exact lv_tableOut hx hb hdg h1 (z_tgt h0) (kk ls H locs hl hh hs)
end ZS
end
section
/-! the instructions that touch the heap -/
def z_ty (c : Nat) : Nat → FieldType := match c with
  | 0 => tyX0
  | 1 => tyX1
  | 2 => tyX2
  | 3 => tyX3
  | 4 => tyX4
  | 5 => tyX5
  | 6 => tyX6
  | 7 => tyX7
  | _ => tyX8
theorem z_lt9 {P : Nat → Prop} (h0 : P 0) (h1 : P 1) (h2 : P 2) (h3 : P 3) (h4 : P 4) (h5 : P 5) (h6 : P 6) (h7 : P 7) (h8 : P 8) : ∀ c, c < 9 → P c
  | 0, _ => h0
  | 1, _ => h1
  | 2, _ => h2
  | 3, _ => h3
  | 4, _ => h4
  | 5, _ => h5
  | 6, _ => h6
  | 7, _ => h7
  | 8, _ => h8
  | n + 9, h => absurd h (by omega)
theorem z_cl_at : ∀ c, c < 9 → z_cl[c]? = some (z_rn c, z_F c, z_nf c) := z_lt9 rfl rfl rfl rfl rfl rfl rfl rfl rfl
theorem z_wsIn : ∀ c, c < 9 → ∀ w ∈ u_ws (z_rn c) (z_F c) (z_nf c), w ∈ z_tbl := z_lt9 z_ws0 z_ws1 z_ws2 z_ws3 z_ws4 z_ws5 z_ws6 z_ws7 z_ws8
theorem z_tyOk : ∀ c, c < 9 → ∀ k, k < z_nf c → parseFieldDescriptor (z_F c k).2.2.1 = some (z_ty c k) := z_lt9 tyX0_ok tyX1_ok tyX2_ok tyX3_ok tyX4_ok tyX5_ok tyX6_ok tyX7_ok tyX8_ok
theorem z_nmOk : ∀ c, c < 9 → ∀ a, a < z_nf c → ∀ b, b < z_nf c → a ≠ b → (z_F c a).2.1 ≠ (z_F c b).2.1 := z_lt9 nmX0 nmX1 nmX2 nmX3 nmX4 nmX5 nmX6 nmX7 nmX8
theorem z_decl : ∀ c, c < 9 → ∀ k, k < z_nf c → (z_F c k).1 = z_rn c := by decide +kernel
theorem z_tyk : ∀ c, c < 9 → ∀ k, k < z_nf c → (if (z_F c k).2.2.1 = "I" then z_ty c k = .int else if (z_F c k).2.2.1 = "J" then z_ty c k = .long else (z_ty c k).isReference = true) := by decide +kernel
theorem z_f0_ok : ∀ c, c < 9 → ∀ k, k < z_nf c → vp_V ((z_f0 c).map (z_rv 0 0)) k = defaultValue (z_ty c k) := by decide +kernel
theorem z_f0_nr : ∀ c, c < 9 → ((z_f0 c).all fun v => match v with
  | .ref _ => false
  | .retAddr _ => false
  | _ => true) = true := by decide +kernel
theorem z_f0_len : ∀ c, c < 9 → (z_f0 c).length = z_nf c := by decide +kernel
theorem z_f0_rv {c : Nat} (hc : c < 9) (base : Nat) : (z_f0 c).map (z_rv base 0) = (z_f0 c).map (z_rv 0 0) := by
  refine List.map_congr_left fun v hv => ?_
  have h := List.all_eq_true.mp (z_f0_nr c hc) v hv
  cases v <;> first | rfl | cases h
theorem z_fl_spec {m idx c k : Nat} (h : z_fl m idx = some (c, k)) : Cond.fieldLink (z_rn (z_ci m)) idx (z_rn c) (z_F c k).2.1 (z_F c k).2.2.1 ∈ z_tbl ∧ c < 9 ∧ k < z_nf c := by
  unfold z_fl at h
  obtain ⟨e, he, hq⟩ := Option.map_eq_some_iff.mp h
  have h1 := List.find?_some he
  have h2 := List.all_eq_true.mp z_FT_ok e (List.mem_of_find?_eq_some he)
  simp only [Bool.and_eq_true, beq_iff_eq] at h1
  unfold z_okF at h2
  simp only [Bool.and_eq_true, decide_eq_true_eq] at h2
  cases hq
  rw [← h1.1, ← h1.2]
  exact ⟨z_wd_in h2.1, h2.2⟩
theorem z_ki_spec {m idx : Nat} {v : Int32} (h : z_ki m idx = some v) : Cond.constant (z_rn (z_ci m)) idx v ∈ z_tbl := by
  unfold z_ki at h
  obtain ⟨e, he, hq⟩ := Option.map_eq_some_iff.mp h
  have h1 := List.find?_some he
  have h2 := List.all_eq_true.mp z_KI_ok e (List.mem_of_find?_eq_some he)
  simp only [Bool.and_eq_true, beq_iff_eq] at h1
  cases hq
  rw [← h1.1, ← h1.2]
  exact z_wd_in h2
theorem z_kl_spec {m idx : Nat} {v : Int64} (h : z_kl m idx = some v) : Cond.constantLong (z_rn (z_ci m)) idx v ∈ z_tbl := by
  unfold z_kl at h
  obtain ⟨e, he, hq⟩ := Option.map_eq_some_iff.mp h
  have h1 := List.find?_some he
  have h2 := List.all_eq_true.mp z_KL_ok e (List.mem_of_find?_eq_some he)
  simp only [Bool.and_eq_true, beq_iff_eq] at h1
  cases hq
  rw [← h1.1, ← h1.2]
  exact z_wd_in h2
theorem z_nw_spec {m idx c : Nat} (h : z_nw m idx = some c) : Cond.classLink (z_rn (z_ci m)) idx (z_rn c) ∈ z_tbl ∧ Cond.instantiable (z_rn c) (z_nf c) ∈ z_tbl ∧ Cond.initialized (z_rn c) ∈ z_tbl ∧ c < 9 := by
  unfold z_nw at h
  obtain ⟨e, he, hq⟩ := Option.map_eq_some_iff.mp h
  have h1 := List.find?_some he
  have h2 := List.all_eq_true.mp z_NT_ok e (List.mem_of_find?_eq_some he)
  simp only [Bool.and_eq_true, beq_iff_eq] at h1
  unfold z_okN at h2
  simp only [Bool.and_eq_true, decide_eq_true_eq] at h2
  cases hq
  rw [← h1.1, ← h1.2]
  exact ⟨z_wd_in h2.1.1.1, z_wd_in h2.1.1.2, z_wd_in h2.1.2, h2.2⟩
theorem z_fv_ok {c k base b : Nat} {v : Value} (hc : c < 9) (hk : k < z_nf c) (h : z_fv c k v = true) : narrow (z_ty c k) (z_rv base b v) = z_rv base b v ∧ fits (z_ty c k) (z_rv base b v) = true ∧ z_rv base b v = z_rv base 0 v := by
  have ht := z_tyk c hc k hk
  cases v <;> simp only [z_fv, Bool.and_eq_true, decide_eq_true_eq, Bool.false_eq_true] at h
  · rw [if_pos h] at ht
    rw [ht]
    exact ⟨rfl, rfl, rfl⟩
  · rw [if_neg (by rw [h]; decide), if_pos h] at ht
    rw [ht]
    exact ⟨rfl, rfl, rfl⟩
  · rw [if_neg h.1, if_neg h.2] at ht
    cases hq : z_ty c k <;> rw [hq] at ht <;> first | exact ⟨rfl, rfl, rfl⟩ | cases ht
section ZH
variable {p : Program} {l : Launch} {e : Env} {R : Room} {s : State} {m : MethodId} {args : Array Value} {below : List Frame} {meth : Method} {c : Code} {Q : State → Prop} {D : va_G} {base b : Nat} {sc : List Int32} {mi pc kc ks : Nat} {lv : List (Option Value)} {st : List Value} {ph : z_H}
theorem zs_getfield (C : z_Cx p R s m args meth c D base b sc mi) {idx ci k a : Nat} {fs : List Value} {v : Value} (h0 : z_fl mi idx = some (ci, k)) (ha : ph[a]? = some (.inl (ci, fs))) (hv : fs[k]? = some v) (hnr : z_nr v = true) (hdg : decode (z_co mi) pc = .ok (.getfield idx, 3)) (kk : z_Wt p l e R s m args below meth c Q D base b (z_ml mi) (pc + 3, lv, v :: st, ph, kc, ks)) : z_Wt p l e R s m args below meth c Q D base b (z_ml mi) (pc, lv, .ref a :: st, ph, kc, ks) := by
  intro ls H locs hl hh hs
  obtain ⟨hx, hb, hml, hown, hts, hK, hR, hini, hbase, hscr⟩ := C
  obtain ⟨hw, hc9, hkn⟩ := z_fl_spec h0
  have hc := z_cl_at ci hc9
  have hat := hh.2 a _ ha
  have hP : va_P D z_cl [(base + a, .inr (ci, fs.map (z_rv base 0)))] H := by
    intro i q hq
    cases i with
    | zero =>
      simp only [List.getElem?_cons_zero, Option.some.injEq] at hq
      subst hq
      obtain ⟨r, h1, -, h3⟩ := hat
      exact ⟨r, h1, h3⟩
    | succ i => simp at hq
  refine va_get (C := z_rn ci) (T := z_F ci) (N := z_nf ci) (ref := z_rn ci) hx hb hts (z_wsIn ci hc9) hown hK.1 hP 0 rfl hc k hkn (hts _ hw) (fun x hxx => by rw [← z_decl ci hc9 k hkn] at *; exact hxx) (v := z_rv base b v) ?_ hdg (kk ls H locs hl hh hs)
  rw [z_rv_nr (b' := 0) hnr, List.getElem?_map, hv]
  rfl
theorem zs_putfield (C : z_Cx p R s m args meth c D base b sc mi) {idx ci k a : Nat} {fs : List Value} {v : Value} (h0 : z_fl mi idx = some (ci, k)) (ha : ph[a]? = some (.inl (ci, fs))) (hlen : k < fs.length) (hfv : z_fv ci k v = true) (hfin : (z_F ci k).2.2.2 = true → z_ini mi = true ∧ (z_F ci k).1 = z_rn (z_ci mi)) (hdg : decode (z_co mi) pc = .ok (.putfield idx, 3)) (kk : z_Wt p l e R s m args below meth c Q D base b (z_ml mi) (pc + 3, lv, st, ph.set a (.inl (ci, fs.set k v)), kc, ks)) : z_Wt p l e R s m args below meth c Q D base b (z_ml mi) (pc, lv, v :: .ref a :: st, ph, kc, ks) := by
  intro ls H locs hl hh hs
  obtain ⟨hx, hb, hml, hown, hts, hK, hR, hini, hbase, hscr⟩ := C
  obtain ⟨hw, hc9, hkn⟩ := z_fl_spec h0
  have hc := z_cl_at ci hc9
  obtain ⟨r, hr, hfl, cell, q1, q2, q3, q4⟩ := hh.2 a _ ha
  cases hr.symm.trans hc
  obtain ⟨hS, hfc, kC, hkC, hkind⟩ := hK.1.1 ci _ hc
  obtain ⟨cf, kf, fi, f, hi, hsl⟩ := hS k hkn
  have hap := va_apart (own := z_rn (z_ci mi)) hts (z_wsIn ci hc9) (z_ty ci) (z_tyOk ci hc9) (z_nmOk ci hc9) hK.1 hc
  have hlay := hts _ (z_wsIn ci hc9 _ (u_in_lay hkn))
  unfold u_lay at hlay
  have hst := (u_facts hfc hkC (u_lays hts (z_wsIn ci hc9) hkn) hi).1
  have hd := z_tyOk ci hc9 k hkn
  obtain ⟨hn, hfit, he⟩ := z_fv_ok (base := base) (b := b) hc9 hkn hfv
  have hi' : s.fieldFound? (z_rn ci) (z_F ci k).2.1 (z_F ci k).2.2.1 = some (cf, kf, fi, f) := by rw [← z_decl ci hc9 k hkn]; exact hi
  have hsz : f.slot < cell.slots.size := by rw [hsl]; exact k2_hasslot (q4 k hkn)
  have fin : ∀ H' : Heap, H'[base + a]? = some (cell.setSlot f.slot (z_rv base b v)) → H'.size = H.size → (∀ q, q ≠ base + a → H'[q]? = H[q]?) → W p l e R s m args below meth c H' (locs ++ [⟨base + a, f.slot⟩]) kc ks Q (F0 m (pc + 3) ls (st.map (z_rv base b))) := by
    intro H' e1 e2 e3
    refine kk ls H' _ hl (hh.set ha e2 e3 ⟨_, hc, by rw [List.length_set]; exact hfl, ?_⟩) (hs.put e2 e3 (Nat.le_add_right base a))
    rw [hsl] at e1
    refine t_OB.to (V := updV (vp_V (fs.map (z_rv base 0))) k (z_rv base b v)) ⟨_, e1, q2, q3, t_set q4 hap hkn _⟩ (fun j _ => ?_)
    rw [List.map_set, he]
    exact vp_updV_set (by rw [List.length_map]; exact hlen) _ j
  by_cases hf : (z_F ci k).2.2.2 = true
  · rw [if_pos hf] at hlay
    have hcf : m.cls = cf := by
      obtain ⟨_, _, c', _, _, _, -, -, hf', -, -, -, hown2, -⟩ := Cond.laysFinal_spec hlay
      have e1 : c' = cf := by have := hi.symm.trans hf'; simp at this; exact this.1.symm
      rw [(hfin hf).2] at hown2
      rw [← e1]; exact Option.some.inj (hown.symm.trans hown2)
    exact W.putFinK hx hb hown (hts _ hw) hi' hst hcf (hini (hfin hf).1) (by rw [q2]; exact u_fits hfc hkC hkind (Or.inr hlay) hi hd hn hfit) q1 q3 hsz rfl rfl hdg fin
  · rw [if_neg hf] at hlay
    exact W.putK hx hb (f := f) ⟨hown, hts _ hw, ⟨_, _, _, hi'⟩, hst⟩ (by rw [q2]; exact u_store hfc hkC hkind hlay hi hd hn hfit) q1 q3 hsz rfl rfl hdg fin
theorem z_in_spec {i : Int32} {n : Nat} (h : z_in i n = true) : ¬ i < 0 ∧ i.toNatClampNeg < n := by
  unfold z_in at h
  simp only [Bool.and_eq_true, decide_eq_true_eq] at h
  exact h
theorem z_in_vp {i : Int32} {n : Nat} (h : z_in i n = true) : ¬ (i < 0 ∨ n ≤ i.toNatClampNeg) := fun q => q.elim (z_in_spec h).1 (Nat.not_le.mpr (z_in_spec h).2)
theorem zs_iaload (C : z_Cx p R s m args meth c D base b sc mi) {a : Nat} {j : Int32} {x : List Int32} (ha : ph[a]? = some (.inr (.inl x))) (hj : z_in j x.length = true) (hdg : decode (z_co mi) pc = .ok (.iaload, 1)) (kk : z_Wt p l e R s m args below meth c Q D base b (z_ml mi) (pc + 1, lv, .int (x.getD j.toNatClampNeg 0) :: st, ph, kc, ks)) : z_Wt p l e R s m args below meth c Q D base b (z_ml mi) (pc, lv, .int j :: .ref a :: st, ph, kc, ks) := by
  intro ls H locs hl hh hs
  obtain ⟨hx, hb, hml, hown, hts, hK, hR, hini, hbase, hscr⟩ := C
  obtain ⟨cA, h1, h2⟩ := hh.2 a _ ha
  exact W.iald (v := .int (x.getD j.toNatClampNeg 0)) hx hb h1 (h2 _ _) (fun q => by cases q) (by rw [arrV_size]; exact z_in_vp hj) (arrV_read _ _ (z_in_spec hj).2) rfl rfl hdg (kk ls H locs hl hh hs)
theorem zs_sload (C : z_Cx p R s m args meth c D base b sc mi) {a : Nat} {j : Int32} (hm : mi = 0) (hj : z_in j sc.length = true) (hdg : decode (z_co mi) pc = .ok (.iaload, 1)) (kk : z_Wt p l e R s m args below meth c Q D base b (z_ml mi) (pc + 1, lv, .int (sc.getD j.toNatClampNeg 0) :: st, ph, kc, ks)) : z_Wt p l e R s m args below meth c Q D base b (z_ml mi) (pc, lv, .int j :: .retAddr a :: st, ph, kc, ks) := by
  intro ls H locs hl hh hs
  obtain ⟨hx, hb, hml, hown, hts, hK, hR, hini, hbase, hscr⟩ := C
  obtain ⟨hX, hbl⟩ := hscr hm
  exact va_sld hx hb hX (Nat.lt_of_lt_of_le hbl hbase) (A := fun q => base ≤ q) (Nat.not_le.mpr hbl) hs (z_in_vp hj) hdg (kk ls H locs hl hh hs)
theorem zs_slen (C : z_Cx p R s m args meth c D base b sc mi) {a : Nat} (hm : mi = 0) (hdg : decode (z_co mi) pc = .ok (.arraylength, 1)) (kk : z_Wt p l e R s m args below meth c Q D base b (z_ml mi) (pc + 1, lv, .int (Int32.ofNat sc.length) :: st, ph, kc, ks)) : z_Wt p l e R s m args below meth c Q D base b (z_ml mi) (pc, lv, .retAddr a :: st, ph, kc, ks) := by
  intro ls H locs hl hh hs
  obtain ⟨hx, hb, hml, hown, hts, hK, hR, hini, hbase, hscr⟩ := C
  obtain ⟨hX, hbl⟩ := hscr hm
  exact va_slen hx hb hX (Nat.lt_of_lt_of_le hbl hbase) (A := fun q => base ≤ q) (Nat.not_le.mpr hbl) hs hdg (kk ls H locs hl hh hs)
theorem zs_ilen (C : z_Cx p R s m args meth c D base b sc mi) {a : Nat} {x : List Int32} (ha : ph[a]? = some (.inr (.inl x))) (hdg : decode (z_co mi) pc = .ok (.arraylength, 1)) (kk : z_Wt p l e R s m args below meth c Q D base b (z_ml mi) (pc + 1, lv, .int (Int32.ofNat x.length) :: st, ph, kc, ks)) : z_Wt p l e R s m args below meth c Q D base b (z_ml mi) (pc, lv, .ref a :: st, ph, kc, ks) := by
  intro ls H locs hl hh hs
  obtain ⟨hx, hb, hml, hown, hts, hK, hR, hini, hbase, hscr⟩ := C
  obtain ⟨cA, h1, h2⟩ := hh.2 a _ ha
  exact W.alen (n := Int32.ofNat x.length) hx hb h1 (h2 _ _) (by rw [arrV_size] <;> rfl) rfl rfl hdg (kk ls H locs hl hh hs)
theorem zs_alen (C : z_Cx p R s m args meth c D base b sc mi) {a : Nat} {x : List (Option Nat)} (ha : ph[a]? = some (.inr (.inr x))) (hdg : decode (z_co mi) pc = .ok (.arraylength, 1)) (kk : z_Wt p l e R s m args below meth c Q D base b (z_ml mi) (pc + 1, lv, .int (Int32.ofNat x.length) :: st, ph, kc, ks)) : z_Wt p l e R s m args below meth c Q D base b (z_ml mi) (pc, lv, .ref a :: st, ph, kc, ks) := by
  intro ls H locs hl hh hs
  obtain ⟨hx, hb, hml, hown, hts, hK, hR, hini, hbase, hscr⟩ := C
  obtain ⟨cA, h1, h2, h3⟩ := hh.2 a _ ha
  exact W.alen (n := Int32.ofNat x.length) hx hb h1 (h2 _ _) (by rw [arrV_size] <;> rfl) rfl rfl hdg (kk ls H locs hl hh hs)
theorem zs_iastore (C : z_Cx p R s m args meth c D base b sc mi) {a : Nat} {j v : Int32} {x : List Int32} (ha : ph[a]? = some (.inr (.inl x))) (hj : z_in j x.length = true) (hdg : decode (z_co mi) pc = .ok (.iastore, 1)) (kk : z_Wt p l e R s m args below meth c Q D base b (z_ml mi) (pc + 1, lv, st, ph.set a (.inr (.inl (x.set j.toNatClampNeg v))), kc, ks)) : z_Wt p l e R s m args below meth c Q D base b (z_ml mi) (pc, lv, .int v :: .int j :: .ref a :: st, ph, kc, ks) := by
  intro ls H locs hl hh hs
  obtain ⟨hx, hb, hml, hown, hts, hK, hR, hini, hbase, hscr⟩ := C
  obtain ⟨cA, h1, h2⟩ := hh.2 a _ ha
  refine W.iast hx hb h1 (h2 _ _) (fun q => by cases q) (by rw [arrV_size]; exact z_in_vp hj) rfl rfl hdg fun H1 e z oq => kk ls H1 _ hl (hh.set ha z oq ⟨cA, ?_, h2⟩) (hs.put z oq (Nat.le_add_right base a))
  rw [e, arrV_store, List.length_set]
  congr 2
  funext i
  have hlt := (z_in_spec hj).2
  by_cases hi : i = j.toNatClampNeg
  · subst hi
    simp [updV, List.getD, hlt]
  · simp [updV, List.getD, hi, List.getElem?_set_ne (Ne.symm hi)]
theorem zs_aaload (C : z_Cx p R s m args meth c D base b sc mi) {a v : Nat} {j : Int32} {x : List (Option Nat)} (ha : ph[a]? = some (.inr (.inr x))) (hj : z_in j x.length = true) (hv : x.getD j.toNatClampNeg none = some v) (hdg : decode (z_co mi) pc = .ok (.aaload, 1)) (kk : z_Wt p l e R s m args below meth c Q D base b (z_ml mi) (pc + 1, lv, .ref v :: st, ph, kc, ks)) : z_Wt p l e R s m args below meth c Q D base b (z_ml mi) (pc, lv, .int j :: .ref a :: st, ph, kc, ks) := by
  intro ls H locs hl hh hs
  obtain ⟨hx, hb, hml, hown, hts, hK, hR, hini, hbase, hscr⟩ := C
  obtain ⟨cA, h1, h2, h3⟩ := hh.2 a _ ha
  exact W.aald (v := .ref (base + v)) hx hb h1 (h2 _ _) rfl (fun q => by cases q) (by rw [arrV_size]; exact z_in_vp hj) (by rw [arrV_read _ _ (z_in_spec hj).2, hv]; rfl) rfl rfl hdg (kk ls H locs hl hh hs)
theorem zs_aastore (C : z_Cx p R s m args meth c D base b sc mi) {a v : Nat} {j : Int32} {x : List (Option Nat)} {fs : List Value} (ha : ph[a]? = some (.inr (.inr x))) (hv : ph[v]? = some (.inl (3, fs))) (hj : z_in j x.length = true) (hdg : decode (z_co mi) pc = .ok (.aastore, 1)) (kk : z_Wt p l e R s m args below meth c Q D base b (z_ml mi) (pc + 1, lv, st, ph.set a (.inr (.inr (x.set j.toNatClampNeg (some v)))), kc, ks)) : z_Wt p l e R s m args below meth c Q D base b (z_ml mi) (pc, lv, .ref v :: .int j :: .ref a :: st, ph, kc, ks) := by
  intro ls H locs hl hh hs
  obtain ⟨hx, hb, hml, hown, hts, hK, hR, hini, hbase, hscr⟩ := C
  obtain ⟨cA, h1, h2, kA, comp, k1, k2, k3, k4⟩ := hh.2 a _ ha
  obtain ⟨r, hr, hfl, cell, q1, q2, q3, q4⟩ := hh.2 v _ hv
  have hc := z_cl_at 3 (by decide)
  have hcls := (hK.1.1 3 _ hc).2
  have hcomp : comp = D.1 3 := Option.some.inj (k3.symm.trans hcls.1)
  subst hcomp
  obtain ⟨kC, hkC, hkind⟩ := id hcls.2
  refine W.aast (k := kA) (kv := kC) (kcomp := kC) (comp := D.1 3) (t := .object RX3) hx hb h1 (fun q => by intro hq; cases hq) (fun q => by cases q) k1 k2 rfl hkC ⟨(z_in_spec hj).1, by rw [arrV_size]; exact (z_in_spec hj).2⟩ q1 (fun q => by rw [q3]; intro hq; cases hq) (by rw [q2]; exact hkC) (by rw [q2]; exact va_assign hcls) rfl rfl hdg fun H1 e z oq => kk ls H1 _ hl (hh.set ha z oq ⟨cA, ?_, h2, kA, D.1 3, k1, k2, k3, k4⟩) (hs.put z oq (Nat.le_add_right base a))
  rw [e, arrV_store, List.length_set]
  congr 2
  funext i
  have hlt := (z_in_spec hj).2
  by_cases hi : i = j.toNatClampNeg
  · subst hi
    simp [updV, List.getD, hlt, va_rf]
  · simp [updV, List.getD, hi, List.getElem?_set_ne (Ne.symm hi)]
theorem z_grow {A : Nat → Prop} {H0 H H1 : Heap} {locs : List Loc} (h : va_S A H0 H locs) (z : H1.size = H.size + 1) (oq : ∀ q, q < H.size → H1[q]? = H[q]?) : va_S A H0 H1 locs :=
  ⟨by rw [z]; exact Nat.le_succ_of_le h.1, fun q h1 h2 => (oq q (Nat.lt_of_lt_of_le h1 h.1)).trans (h.2.1 q h1 h2), h.2.2⟩
theorem zs_new (C : z_Cx p R s m args meth c D base b sc mi) {idx ci : Nat} (h0 : z_nw mi idx = some ci) (h1 : kc + 1 ≤ z_mc mi) (h2 : ks + z_nf ci ≤ z_ms mi) (hdg : decode (z_co mi) pc = .ok (.new idx, 3)) (kk : z_Wt p l e R s m args below meth c Q D base b (z_ml mi) (pc + 3, lv, .ref ph.length :: st, ph ++ [.inl (ci, z_f0 ci)], kc + 1, ks + z_nf ci)) : z_Wt p l e R s m args below meth c Q D base b (z_ml mi) (pc, lv, st, ph, kc, ks) := by
  intro ls H locs hl hh hs
  obtain ⟨hx, hb, hml, hown, hts, hK, hR, hini, hbase, hscr⟩ := C
  obtain ⟨w1, w2, w3, hc9⟩ := z_nw_spec h0
  have hc := z_cl_at ci hc9
  have hKn := hK.1.1 ci _ hc
  refine W.newcK hx hb hown (hts _ w1) (hts _ w2) (hts _ w3) rfl hdg (by rw [hR]; exact h1) (by rw [hR]; exact h2) hKn.2.1 hh.1 fun H1 kC hkC e1 z1 o1 => ?_
  refine kk ls H1 locs hl (hh.push (by rw [hh.1]; exact z1) (by rw [hh.1]; exact o1) ⟨_, hc, z_f0_len ci hc9, ?_⟩) (z_grow hs (by rw [hh.1]; exact z1) (by rw [hh.1]; exact o1))
  refine t_OB.to (u_born (z_ty ci) hts (z_wsIn ci hc9) hKn hkC e1 (z_tyOk ci hc9)) fun k hk => ?_
  show _ = vp_V ((z_f0 ci).map (z_rv base 0)) k
  rw [z_f0_rv hc9]
  exact (z_f0_ok ci hc9 k hk).symm
theorem z_wArr : Cond.arrayClass .int ∈ z_tbl := z_wd_in (Bool.and_eq_true_iff.mp z_wMath).2
theorem zs_newarray (C : z_Cx p R s m args meth c D base b sc mi) {n : Int32} (hn : ¬ n < 0) (h3 : n.toNatClampNeg ≤ 65536) (h1 : kc + 1 ≤ z_mc mi) (h2 : ks + n.toNatClampNeg ≤ z_ms mi) (hdg : decode (z_co mi) pc = .ok (.newarray .int, 2)) (kk : z_Wt p l e R s m args below meth c Q D base b (z_ml mi) (pc + 2, lv, .ref ph.length :: st, ph ++ [.inr (.inl (List.replicate n.toNatClampNeg 0))], kc + 1, ks + n.toNatClampNeg)) : z_Wt p l e R s m args below meth c Q D base b (z_ml mi) (pc, lv, .int n :: st, ph, kc, ks) := by
  intro ls H locs hl hh hs
  obtain ⟨hx, hb, hml, hown, hts, hK, hR, hini, hbase, hscr⟩ := C
  refine va_newaK (atype := .int) hx hb (hts _ z_wArr) rfl hdg rfl hn rfl (by show n.toNatClampNeg * 4 ≤ 536870912; omega) (by rw [hR]; exact h1) (by rw [hR]; exact h2) hh.1 fun H1 cA e1 z1 o1 hAr hNm => ?_
  refine kk ls H1 locs hl (hh.push (by rw [hh.1]; exact z1) (by rw [hh.1]; exact o1) ⟨cA, ?_, hAr⟩) (z_grow hs (by rw [hh.1]; exact z1) (by rw [hh.1]; exact o1))
  rw [e1, List.length_replicate]
  congr 2
  funext i
  show Value.int 0 = _
  congr 1
  simp only [List.getD, List.getElem?_replicate]
  split <;> rfl
theorem zs_anewarray (C : z_Cx p R s m args meth c D base b sc mi) {idx : Nat} {n : Int32} (h0 : z_nw mi idx = some 3) (hn : ¬ n < 0) (h3 : n.toNatClampNeg ≤ 65536) (h1 : kc + 1 ≤ z_mc mi) (h2 : ks + n.toNatClampNeg ≤ z_ms mi) (hdg : decode (z_co mi) pc = .ok (.anewarray idx, 3)) (kk : z_Wt p l e R s m args below meth c Q D base b (z_ml mi) (pc + 3, lv, .ref ph.length :: st, ph ++ [.inr (.inr (List.replicate n.toNatClampNeg none))], kc + 1, ks + n.toNatClampNeg)) : z_Wt p l e R s m args below meth c Q D base b (z_ml mi) (pc, lv, .int n :: st, ph, kc, ks) := by
  intro ls H locs hl hh hs
  obtain ⟨hx, hb, hml, hown, hts, hK, hR, hini, hbase, hscr⟩ := C
  obtain ⟨w1, w2, w3, hc9⟩ := z_nw_spec h0
  have e0 : (base + ph.length) = H.size := hh.1.symm
  refine W.anew (C := RX3) hx hb hown (hts _ w1) (va_AO.use hK.2.2) rfl hdg rfl hn (by omega) (by rw [hR]; exact h1) (by rw [hR]; exact h2) fun cA kA comp f1 f2 f3 f4 => ?_
  show W p l e R s m args below meth c _ locs _ _ Q (F0 m (pc + 3) ls (.ref H.size :: st.map (z_rv base b)))
  rw [← e0]
  have z1 : ∀ x : Cell, (H.push x).size = H.size + 1 := fun x => by rw [Array.size_push]
  have o1 : ∀ (x : Cell) (q : Nat), q < H.size → (H.push x)[q]? = H[q]? := fun x q hq => by rw [Array.getElem?_push, if_neg (Nat.ne_of_lt hq)]
  refine kk ls _ locs hl (hh.push (z1 _) (o1 _) ⟨cA, ?_, fun n z => ⟨fun k h => (by cases h), kA, f2, comp, f3⟩, kA, comp, f2, f3, f4, f1⟩) (z_grow hs (z1 _) (o1 _))
  rw [e0, Array.getElem?_push_size, List.length_replicate, arrV_new]
  congr 2
  funext i
  simp only [List.getD, List.getElem?_replicate]
  split <;> rfl
end ZH
end
section
/-! calls, and the whole: what z_ex answers, the method answers -/
def z_Pc (D : va_G) (base : Nat) (ph : z_H) (as : List Value) : Array Value → State → Prop := fun a U => a = (as.map (z_rv base 0)).toArray ∧ z_HH U D base ph U.heap ∧ z_Kx D U
def z_Qc (D : va_G) (base : Nat) (o : z_O) : Array Value → State → Outcome → State → Prop := fun _ st oc t => oc = .returned (o.1.map (z_rv base 0)) ∧ z_HH t D base o.2 t.heap ∧ st.heap.size ≤ t.heap.size ∧ ∀ q, q < st.heap.size → ¬ base ≤ q → t.heap[q]? = st.heap[q]?
def z_Mt (l : Launch) (D : va_G) (base : Nat) (ph : z_H) (as : List Value) (y : Nat) (o : z_O) : Prop := Met l (z_nm y) (z_ws y) (z_rm y) (z_Pc D base ph as) (z_Qc D base o) (z_mc y) (z_ms y) (fun q => base ≤ q)
theorem z_blind {D : va_G} {base : Nat} {ph : z_H} {as : List Value} : FrameBlind (z_Pc D base ph as) := fun a U g mk h => ⟨h.1, h.2.1.moved (u := U) (U := U.calling g mk a) (Vm.Alike.refl U.vm), h.2.2.same⟩
theorem z_code_in {y : Nat} (h1 : 0 < y) (h2 : y < 184) : Cond.code (z_nm y) (z_co y) (z_ml y) (z_rt y) ∈ z_tbl := List.mem_filter.mpr ⟨List.mem_append_right _ (z_cwAll h1 h2), rfl⟩
theorem z_wsGood {y : Nat} (h1 : 0 < y) (h2 : y < 184) : GoodIn z_tbl (z_ws y) := by
  intro w hw
  have hm : w ∈ z_tbl := by
    rcases List.mem_cons.mp hw with rfl | h
    · exact z_code_in h1 h2
    · exact h
  exact ⟨hm, good_of_word (z_good w hm)⟩
theorem z_okM_of {y : Nat} (h1 : 0 < y) (h2 : y < 184) : z_okM y (z_MP.getD y (0, 0, 0, 0)) = true := by
  have h := List.all_eq_true.mp z_MP_ok (y - 1) (List.mem_range.mpr (by omega))
  rw [show y - 1 + 1 = y by omega] at h
  exact h
theorem z_m_ini {y : Nat} (h1 : 0 < y) (h2 : y < 184) : Cond.initialized (z_nm y).cls ∈ z_tbl := by
  have h := z_okM_of h1 h2
  unfold z_okM at h
  simp only [Bool.and_eq_true] at h
  exact z_wd_in h.1.1
theorem z_m_stat {y : Nat} (h1 : 0 < y) (h2 : y < 184) (hs : z_stat y = true) : Cond.static (z_nm y) ∈ z_tbl := by
  have h := z_okM_of h1 h2
  unfold z_okM at h
  simp only [Bool.and_eq_true] at h
  have h3 := h.1.2
  rw [if_pos hs] at h3
  exact z_wd_in h3
theorem z_m_inst {y : Nat} (h1 : 0 < y) (h2 : y < 184) (hs : z_stat y = false) : Cond.instanceMethod (z_nm y) ∈ z_tbl ∧ (z_ini y = false → Cond.selects (z_nm y).cls (z_nm y) (z_nm y) ∈ z_tbl) := by
  have h := z_okM_of h1 h2
  unfold z_okM at h
  simp only [Bool.and_eq_true] at h
  have h3 := h.1.2
  rw [if_neg (by rw [hs]; decide)] at h3
  simp only [Bool.and_eq_true] at h3
  refine ⟨z_wd_in h3.1, fun hi => ?_⟩
  have h4 := h3.2
  rw [hi, Bool.false_or] at h4
  exact z_wd_in h4
theorem z_m_rest {y : Nat} (h1 : 0 < y) (h2 : y < 184) : (z_nm y).cls = z_rn (z_ci y) ∧ ((z_nm y).cls ≠ "java/lang/invoke/MethodHandle" ∧ (z_nm y).cls ≠ "java/lang/invoke/VarHandle") ∧ plainName (z_nm y).cls = true ∧ (z_ini y = true → (z_nm y).name = "<init>" ∧ z_rt y = none) ∧ (parseMethodDescriptor (z_nm y).desc).map (fun d => d.parameters.length) = some (z_np y) := by
  have h := z_okM_of h1 h2
  unfold z_okM at h
  simp only [Bool.and_eq_true, decide_eq_true_eq, Bool.or_eq_true, Bool.not_eq_true'] at h
  obtain ⟨-, ⟨⟨⟨ha, hb⟩, hc⟩, hd⟩, he⟩ := h
  refine ⟨ha, hb, hc, fun hi => ?_, ?_⟩
  · rcases hd with hd | hd
    · rw [hi] at hd; cases hd
    · exact hd
  · unfold z_np
    cases hq : parseMethodDescriptor (z_nm y).desc with
    | none => rw [hq] at he; cases he
    | some d => rfl
/-- the table of calls -/
theorem z_cl2_spec {m idx k y : Nat} (h : z_cl2 m idx = some (k, y)) :
    (k = 9 → Cond.methodLink (z_rn (z_ci m)) idx objectInit ∈ z_tbl) ∧ (k = 6 → Cond.methodLink (z_rn (z_ci m)) idx Lib.Math.max.name ∈ z_tbl) ∧ (k = 7 → Cond.methodLink (z_rn (z_ci m)) idx Lib.Math.min.name ∈ z_tbl) ∧ (k = 8 → Cond.methodLink (z_rn (z_ci m)) idx Lib.Math.abs.name ∈ z_tbl) ∧
    (k = 0 ∨ k = 1 ∨ k = 2 → Cond.methodLink (z_rn (z_ci m)) idx (z_nm y) ∈ z_tbl ∧ 0 < y ∧ y < 184) ∧ (k = 4 ∨ k = 5 → Cond.methodLinkNest (z_rn (z_ci m)) idx (z_nm y) RX7 ∈ z_NW ∧ 0 < y ∧ y < 184) := by
  unfold z_cl2 at h
  obtain ⟨e, he, hq⟩ := Option.map_eq_some_iff.mp h
  have h1 := List.find?_some he
  have h2 := List.all_eq_true.mp z_CT_ok e (List.mem_of_find?_eq_some he)
  simp only [Bool.and_eq_true, beq_iff_eq] at h1
  cases hq
  rw [← h1.1, ← h1.2]
  unfold z_okC at h2
  refine ⟨fun hk => ?_, fun hk => ?_, fun hk => ?_, fun hk => ?_, fun hk => ?_, fun hk => ?_⟩
  · rw [if_pos hk] at h2
    exact z_wd_in h2
  · rw [if_neg (by omega), if_pos hk] at h2
    exact z_wd_in h2
  · rw [if_neg (by omega), if_neg (by omega), if_pos hk] at h2
    exact z_wd_in h2
  · rw [if_neg (by omega), if_neg (by omega), if_neg (by omega), if_pos hk] at h2
    exact z_wd_in h2
  · rw [if_neg (by omega), if_neg (by omega), if_neg (by omega), if_neg (by omega), if_pos hk] at h2
    simp only [Bool.and_eq_true, decide_eq_true_eq] at h2
    exact ⟨z_wd_in h2.1, h2.2⟩
  · rw [if_neg (by omega), if_neg (by omega), if_neg (by omega), if_neg (by omega), if_neg (by omega), if_pos hk] at h2
    simp only [Bool.and_eq_true, decide_eq_true_eq] at h2
    exact ⟨z_wn_in h2.1, h2.2⟩
section ZC
variable {p : Program} {l : Launch} {e : Env} {R : Room} {s : State} {m : MethodId} {args : Array Value} {below : List Frame} {meth : Method} {c : Code} {Q : State → Prop} {D : va_G} {base b : Nat} {sc : List Int32} {mi pc kc ks : Nat} {lv : List (Option Value)} {st : List Value} {ph : z_H}
theorem z_after {H : Heap} {locs : List Loc} {mc ms : Nat} {ls : Array Slot} {st0 rest : List Value} {aa : Array Value} {o : z_O} (hr : va_Run p l e R s m args below meth c H locs kc ks mc ms (F0 m pc ls st0) rest (z_Qc D base o aa) (fun q => base ≤ q)) (hs : va_S (fun q => base ≤ q) s.heap H locs)
    (kk : ∀ (H1 : Heap) (locs1 : List Loc), z_HH s D base o.2 H1 → va_S (fun q => base ≤ q) s.heap H1 locs1 → W p l e R s m args below meth c H1 locs1 (kc + mc) (ks + ms) Q (F0 m (pc + 3) ls ((o.1.map (z_rv base 0)).toList ++ rest))) : W p l e R s m args below meth c H locs kc ks Q (F0 m pc ls st0) := by
  intro T hT X
  obtain ⟨v, st₀, t, T', L, h0, X', hL, e1, e2, ⟨hv, hH, hz, hq⟩, stp⟩ := hr T hT X
  cases hv
  rw [h0] at hz hq
  have hal : t.vm.Alike s.vm := by rw [← e2]; exact X'.warmed.alike.symm
  obtain ⟨t2, a1, b1⟩ := kk T'.heap (locs ++ L) (by rw [e1]; exact hH.moved hal)
    ⟨Nat.le_trans hs.1 (by rw [e1]; exact hz), fun q h1 h2 => by rw [e1, hq q (Nat.lt_of_lt_of_le h1 hs.1) h2]; exact hs.2.1 q h1 h2, fun q hq => by
      rcases List.mem_append.mp hq with h | h
      · exact hs.2.2 q h
      · exact hL q h⟩ T' rfl X'
  exact ⟨t2, stp t2 a1, b1⟩
theorem z_ent {base b : Nat} {q : Nat × Value} {r : Nat} : ∀ (as : List Value) (i : Nat), q ∈ z_as base b i (z_il as ++ List.replicate r none) → q ∈ lv_args i (as.map (z_rv base b))
  | [], i, h => by
    exfalso
    have : ∀ (r i : Nat), q ∉ z_as base b i (List.replicate r none) := by
      intro r
      induction r with
      | zero => intro i h; cases h
      | succ r ih => intro i h; rw [List.replicate_succ, z_as] at h; exact ih _ h
    exact this r i h
  | v :: vs, i, h => by
    rw [List.map_cons, lv_args, z_rv_cat]
    rw [z_il] at h
    split at h
    · rename_i hc
      rw [List.cons_append, List.cons_append, z_as, z_as] at h
      rw [if_pos hc]
      rcases List.mem_cons.mp h with rfl | h
      · exact List.mem_cons_self
      · exact List.mem_cons_of_mem _ (z_ent vs (i + 2) h)
    · rename_i hc
      rw [List.cons_append, z_as] at h
      rw [if_neg hc]
      rcases List.mem_cons.mp h with rfl | h
      · exact List.mem_cons_self
      · exact List.mem_cons_of_mem _ (z_ent vs (i + 1) h)
theorem z_sl_len {base b : Nat} : ∀ (as : List Value), (lg_sl (as.map (z_rv base b))).length = (z_il as).length
  | [] => rfl
  | v :: vs => by
    have h := z_sl_len (base := base) (b := b) vs
    unfold lg_sl at h ⊢
    rw [List.map_cons, List.flatMap_cons, List.length_append, h, z_rv_cat, z_il]
    split <;> simp <;> omega
/-- the end of a method -/
theorem z_ret (hx : p.tables.exec = Jvm.exec) (hb : c.code = z_co mi) (hr : meth.sig.returnType = z_rt mi) (hlocks : meth.locks = false) {i : Instr} {len : Nat} {o : z_O} (hdg : decode (z_co mi) pc = .ok (i, len)) (hlen : z_len i len = true) (h : z_step sc mi i pc lv st ph kc ks = some (.inr o)) (h1 : kc ≤ z_mc mi) (h2 : ks ≤ z_ms mi) :
    z_Wt p l e R s m args below meth c (MQ below (z_Qc D base o) args s (z_mc mi) (z_ms mi) (fun q => base ≤ q)) D base b (z_ml mi) (pc, lv, st, ph, kc, ks) := by
  intro ls H locs hl hh hs
  refine W.widen h1 h2 ?_
  have hq : ∀ (r : Option Value), o = (r, ph) → ∀ t : State, t.heap = H → s.WarmedH t.vm → z_Qc D base o args s (.returned (r.map (z_rv base 0))) t := by
    intro r ho t ht hW
    subst ho
    exact ⟨rfl, by rw [ht]; exact hh.moved hW.alike, by rw [ht]; exact hs.1, fun q g1 g2 => by rw [ht]; exact hs.2.1 q g1 g2⟩
  cases i <;> simp only [z_step] at h
  case ireturn =>
    have hl1 : len = 1 := by simpa [z_len] using hlen
    subst hl1
    split at h
    · rename_i x
      split at h
      · rename_i hrt
        cases h
        exact W.zret (ty := .int) hx hb (by rw [hr, hrt]) rfl (hq (some (.int x)) rfl) hs.2.2 hdg hlocks
      · rename_i hrt
        split at h
        · rename_i hx1
          cases h
          exact W.zret (ty := .boolean) hx hb (by rw [hr, hrt]) (by show Value.int (x &&& 1) = .int x; rw [hx1]) (hq (some (.int x)) rfl) hs.2.2 hdg hlocks
        · cases h
      · cases h
    · cases h
  case lreturn =>
    have hl1 : len = 1 := by simpa [z_len] using hlen
    subst hl1
    split at h
    · rename_i x
      split at h
      · rename_i hrt
        cases h
        exact W.lret hx hb (by rw [hr, hrt]) (hq (some (.long x)) rfl) hs.2.2 hdg hlocks
      · cases h
    · cases h
  case return_ =>
    have hl1 : len = 1 := by simpa [z_len] using hlen
    subst hl1
    split at h
    · split at h
      · rename_i hrt
        cases h
        exact W.vret hx hb (by rw [hr, hrt]) (hq none rfl) hs.2.2 hdg hlocks
      · cases h
    · cases h
  all_goals first
    | cases h
    | (exfalso; simp only [z_nx, z_go] at h; (repeat' split at h) <;> cases h)
end ZC
section ZD
/-- what z_ex answers from a place, the JVM comes to -/
def z_Ok (sc : List Int32) (n : Nat) : Prop := ∀ (p : Program) (l : Launch) (e : Env) (R : Room) (s : State) (m : MethodId) (args : Array Value) (below : List Frame) (meth : Method) (c : Code) (Q : State → Prop) (D : va_G) (base b mi pc kc ks : Nat) (lv : List (Option Value)) (st : List Value) (ph : z_H) (o : z_O),
  z_Cx p R s m args meth c D base b sc mi → z_ex sc n mi pc lv st ph kc ks = some o →
  (∀ (pc kc ks : Nat) (lv : List (Option Value)) (st : List Value) (ph : z_H) (i : Instr) (len : Nat), decode (z_co mi) pc = .ok (i, len) → z_len i len = true → z_step sc mi i pc lv st ph kc ks = some (.inr o) → kc ≤ z_mc mi → ks ≤ z_ms mi → z_Wt p l e R s m args below meth c Q D base b (z_ml mi) (pc, lv, st, ph, kc, ks)) →
  z_Wt p l e R s m args below meth c Q D base b (z_ml mi) (pc, lv, st, ph, kc, ks)
theorem z_met {sc : List Int32} {n : Nat} (hn : z_Ok sc n) {l : Launch} {D : va_G} {base y : Nat} {as : List Value} {ph : z_H} {o : z_O} (h : z_ex sc n y 0 (z_init y as) [] ph 0 0 = some o) (h1 : 0 < y) (h2 : y < 184) (hlen : (z_il as).length ≤ z_ml y) : z_Mt l D base ph as y o := by
  obtain ⟨g1, g2, g3, g4, g5⟩ := z_m_rest h1 h2
  refine Met.ofW (cc := z_co y) (maxL := z_ml y) (ret := z_rt y) g3 rfl ?_
  intro p e s m args below meth c s₁ B hml hv
  obtain ⟨rfl, hH, hK⟩ := hv
  have hts0 := atoms_spec (ws := z_ws y) B.pre
  have hts : ∀ w ∈ z_tbl, w.before (as.map (z_rv base 0)).toArray s = true := fun w hw => hts0 w (List.mem_cons_of_mem _ hw)
  have hown : s.vm.findClass (z_rn (z_ci y)) = some m.cls := by rw [← g1]; exact findClass_of_methodNamed B.named
  have hname : meth.name = (z_nm y).name := (name_of_methodNamed B.named B.method).1
  have C : z_Cx p (headSpec (z_ws y) (z_rm y)).room s m (as.map (z_rv base 0)).toArray meth c D base 0 sc y :=
    ⟨B.exec, B.bytes, hml, hown, hts, hK, rfl, fun hi => hname.trans (g4 hi).1, by rw [hH.1]; exact Nat.le_add_right _ _, fun hy => absurd hy (by omega)⟩
  rw [lg_entry_eq]
  have hl := lv_entry (as.map (z_rv base 0)) (n := z_ml y) (by rw [z_sl_len]; exact hlen)
  refine hn p l e _ s m _ below meth c _ D base 0 y 0 0 0 (z_init y as) [] ph o C h (fun pc kc ks lv st ph i len hd hle hst k1 k2 => z_ret B.exec B.bytes B.returns B.notSynchronized hd hle hst k1 k2) _ s.heap [] ?_ hH va_S.rf
  refine ⟨hl.1, hl.2.1, fun q hq => hl.2.2 q (z_ent as 0 hq)⟩
end ZD
end
section
/-! one instruction, one call, all of it -/
section ZE
variable {p : Program} {l : Launch} {e : Env} {R : Room} {s : State} {m : MethodId} {args : Array Value} {below : List Frame} {meth : Method} {c : Code} {Q : State → Prop} {D : va_G} {base b : Nat} {sc : List Int32} {mi pc kc ks : Nat} {lv : List (Option Value)} {st : List Value} {ph : z_H}
theorem z_nx_eq {pc kc ks : Nat} {lv : List (Option Value)} {st : List Value} {ph : z_H} {S : z_S} (h : z_nx pc lv st ph kc ks = some (.inl S)) : S = (pc, lv, st, ph, kc, ks) := by
  unfold z_nx at h
  cases h
  rfl
theorem z_step_ok (C : z_Cx p R s m args meth c D base b sc mi) {i : Instr} {len : Nat} {S : z_S} (hdg : decode (z_co mi) pc = .ok (i, len)) (hlen : z_len i len = true) (h : z_step sc mi i pc lv st ph kc ks = some (.inl S)) (kk : z_Wt p l e R s m args below meth c Q D base b (z_ml mi) S) : z_Wt p l e R s m args below meth c Q D base b (z_ml mi) (pc, lv, st, ph, kc, ks) := by
  cases i <;> simp only [z_step] at h <;> first
    | cases h
    | skip
  case iload_n k =>
    obtain rfl : len = 1 := by simpa [z_len] using hlen
    split at h
    · rename_i hv
      rw [z_nx_eq h] at kk
      exact zs_iload_n C hv hdg kk
    · cases h
  case iload k =>
    obtain rfl : len = 2 := by simpa [z_len] using hlen
    split at h
    · rename_i hv
      rw [z_nx_eq h] at kk
      exact zs_iload C hv hdg kk
    · cases h
  case lload_n k =>
    obtain rfl : len = 1 := by simpa [z_len] using hlen
    split at h
    · rename_i hv
      rw [z_nx_eq h] at kk
      exact zs_lload_n C hv hdg kk
    · cases h
  case lload k =>
    obtain rfl : len = 2 := by simpa [z_len] using hlen
    split at h
    · rename_i hv
      rw [z_nx_eq h] at kk
      exact zs_lload C hv hdg kk
    · cases h
  case aload_n k =>
    obtain rfl : len = 1 := by simpa [z_len] using hlen
    split at h
    · rename_i hv
      rw [z_nx_eq h] at kk
      exact zs_aload_n C hv hdg kk
    · rename_i hv
      rw [z_nx_eq h] at kk
      exact zs_aload_s C hv hdg kk
    · cases h
  case aload k =>
    obtain rfl : len = 2 := by simpa [z_len] using hlen
    split at h
    · rename_i hv
      rw [z_nx_eq h] at kk
      exact zs_aload C hv hdg kk
    · cases h
  case istore_n k =>
    obtain rfl : len = 1 := by simpa [z_len] using hlen
    split at h
    · split at h
      · rename_i hv
        rw [z_nx_eq h] at kk
        exact zs_istore_n C hv hdg kk
      · cases h
    · cases h
  case istore k =>
    obtain rfl : len = 2 := by simpa [z_len] using hlen
    split at h
    · split at h
      · rename_i hv
        rw [z_nx_eq h] at kk
        exact zs_istore C hv hdg kk
      · cases h
    · cases h
  case astore_n k =>
    obtain rfl : len = 1 := by simpa [z_len] using hlen
    split at h
    · split at h
      · rename_i hv
        rw [z_nx_eq h] at kk
        exact zs_astore_n C hv hdg kk
      · cases h
    · cases h
  case astore k =>
    obtain rfl : len = 2 := by simpa [z_len] using hlen
    split at h
    · split at h
      · rename_i hv
        rw [z_nx_eq h] at kk
        exact zs_astore C hv hdg kk
      · cases h
    · cases h
  case lstore_n k =>
    obtain rfl : len = 1 := by simpa [z_len] using hlen
    split at h
    · split at h
      · rename_i hv
        rw [z_nx_eq h] at kk
        exact zs_lstore_n C hv hdg kk
      · cases h
    · cases h
  case lstore k =>
    obtain rfl : len = 2 := by simpa [z_len] using hlen
    split at h
    · split at h
      · rename_i hv
        rw [z_nx_eq h] at kk
        exact zs_lstore C hv hdg kk
      · cases h
    · cases h
  case iinc k n =>
    obtain rfl : len = 3 := by simpa [z_len] using hlen
    split at h
    · rename_i hv
      split at h
      · rename_i hk
        rw [z_nx_eq h] at kk
        exact zs_iinc C hv hk hdg kk
      · cases h
    · cases h
  case iconst n =>
    obtain rfl : len = 1 := by simpa [z_len] using hlen
    exact zs_iconst C hdg kk
  case bipush n =>
    obtain rfl : len = 2 := by simpa [z_len] using hlen
    exact zs_bipush C hdg kk
  case sipush n =>
    obtain rfl : len = 3 := by simpa [z_len] using hlen
    exact zs_sipush C hdg kk
  case lconst n =>
    obtain rfl : len = 1 := by simpa [z_len] using hlen
    exact zs_lconst C hdg kk
  case ldc k =>
    obtain rfl : len = 2 := by simpa [z_len] using hlen
    split at h
    · rename_i hv
      rw [z_nx_eq h] at kk
      exact zs_ldc C (z_ki_spec hv) hdg kk
    · cases h
  case ldc_w k =>
    obtain rfl : len = 3 := by simpa [z_len] using hlen
    split at h
    · rename_i hv
      rw [z_nx_eq h] at kk
      exact zs_ldc_w C (z_ki_spec hv) hdg kk
    · cases h
  case ldc2_w k =>
    obtain rfl : len = 3 := by simpa [z_len] using hlen
    split at h
    · rename_i hv
      rw [z_nx_eq h] at kk
      exact zs_ldc2_w C (z_kl_spec hv) hdg kk
    · cases h
  case iadd =>
    obtain rfl : len = 1 := by simpa [z_len] using hlen
    split at h
    · rw [z_nx_eq h] at kk
      exact zs_iadd C hdg kk
    · cases h
  case isub =>
    obtain rfl : len = 1 := by simpa [z_len] using hlen
    split at h
    · rw [z_nx_eq h] at kk
      exact zs_isub C hdg kk
    · cases h
  case imul =>
    obtain rfl : len = 1 := by simpa [z_len] using hlen
    split at h
    · rw [z_nx_eq h] at kk
      exact zs_imul C hdg kk
    · cases h
  case ineg =>
    obtain rfl : len = 1 := by simpa [z_len] using hlen
    split at h
    · rw [z_nx_eq h] at kk
      exact zs_ineg C hdg kk
    · cases h
  case ishl =>
    obtain rfl : len = 1 := by simpa [z_len] using hlen
    split at h
    · rw [z_nx_eq h] at kk
      exact zs_ishl C hdg kk
    · cases h
  case ishr =>
    obtain rfl : len = 1 := by simpa [z_len] using hlen
    split at h
    · rw [z_nx_eq h] at kk
      exact zs_ishr C hdg kk
    · cases h
  case iushr =>
    obtain rfl : len = 1 := by simpa [z_len] using hlen
    split at h
    · rw [z_nx_eq h] at kk
      exact zs_iushr C hdg kk
    · cases h
  case iand =>
    obtain rfl : len = 1 := by simpa [z_len] using hlen
    split at h
    · rw [z_nx_eq h] at kk
      exact zs_iand C hdg kk
    · cases h
  case ior =>
    obtain rfl : len = 1 := by simpa [z_len] using hlen
    split at h
    · rw [z_nx_eq h] at kk
      exact zs_ior C hdg kk
    · cases h
  case ixor =>
    obtain rfl : len = 1 := by simpa [z_len] using hlen
    split at h
    · rw [z_nx_eq h] at kk
      exact zs_ixor C hdg kk
    · cases h
  case ladd =>
    obtain rfl : len = 1 := by simpa [z_len] using hlen
    split at h
    · rw [z_nx_eq h] at kk
      exact zs_ladd C hdg kk
    · cases h
  case lsub =>
    obtain rfl : len = 1 := by simpa [z_len] using hlen
    split at h
    · rw [z_nx_eq h] at kk
      exact zs_lsub C hdg kk
    · cases h
  case land =>
    obtain rfl : len = 1 := by simpa [z_len] using hlen
    split at h
    · rw [z_nx_eq h] at kk
      exact zs_land C hdg kk
    · cases h
  case lor =>
    obtain rfl : len = 1 := by simpa [z_len] using hlen
    split at h
    · rw [z_nx_eq h] at kk
      exact zs_lor C hdg kk
    · cases h
  case lxor =>
    obtain rfl : len = 1 := by simpa [z_len] using hlen
    split at h
    · rw [z_nx_eq h] at kk
      exact zs_lxor C hdg kk
    · cases h
  case lshl =>
    obtain rfl : len = 1 := by simpa [z_len] using hlen
    split at h
    · rw [z_nx_eq h] at kk
      exact zs_lshl C hdg kk
    · cases h
  case lushr =>
    obtain rfl : len = 1 := by simpa [z_len] using hlen
    split at h
    · rw [z_nx_eq h] at kk
      exact zs_lushr C hdg kk
    · cases h
  case lcmp =>
    obtain rfl : len = 1 := by simpa [z_len] using hlen
    split at h
    · rw [z_nx_eq h] at kk
      exact zs_lcmp C hdg kk
    · cases h
  case i2l =>
    obtain rfl : len = 1 := by simpa [z_len] using hlen
    split at h
    · rw [z_nx_eq h] at kk
      exact zs_i2l C hdg kk
    · cases h
  case l2i =>
    obtain rfl : len = 1 := by simpa [z_len] using hlen
    split at h
    · rw [z_nx_eq h] at kk
      exact zs_l2i C hdg kk
    · cases h
  case dup2 =>
    obtain rfl : len = 1 := by simpa [z_len] using hlen
    split at h
    · rw [z_nx_eq h] at kk
      exact zs_dup2 C hdg kk
    · cases h
  case dup_x1 =>
    obtain rfl : len = 1 := by simpa [z_len] using hlen
    split at h
    · rw [z_nx_eq h] at kk
      exact zs_dup_x1 C hdg kk
    · cases h
  case pop =>
    obtain rfl : len = 1 := by simpa [z_len] using hlen
    split at h
    · rw [z_nx_eq h] at kk
      exact zs_pop C hdg kk
    · cases h
  case idiv =>
    obtain rfl : len = 1 := by simpa [z_len] using hlen
    split at h
    · split at h
      · cases h
      · rename_i hv
        rw [z_nx_eq h] at kk
        exact zs_idiv C hv hdg kk
    · cases h
  case irem =>
    obtain rfl : len = 1 := by simpa [z_len] using hlen
    split at h
    · split at h
      · cases h
      · rename_i hv
        rw [z_nx_eq h] at kk
        exact zs_irem C hv hdg kk
    · cases h
  case dup =>
    obtain rfl : len = 1 := by simpa [z_len] using hlen
    split at h
    · rw [z_nx_eq h] at kk
      exact zs_dupi C hdg kk
    · rw [z_nx_eq h] at kk
      exact zs_dupa C hdg kk
    · cases h
  case goto off =>
    obtain rfl : len = 3 := by simpa [z_len] using hlen
    unfold z_go at h
    split at h
    · rename_i h0
      rw [z_nx_eq h] at kk
      exact zs_goto C h0 hdg kk
    · cases h
  case if_icmp cn off =>
    obtain rfl : len = 3 := by simpa [z_len] using hlen
    split at h
    · split at h
      · rename_i h0
        refine zs_if_icmp C h0 hdg (fun hc => ?_) (fun hc => ?_)
        · rw [if_pos hc] at h
          rw [z_nx_eq h] at kk
          exact kk
        · rw [if_neg (by rw [hc]; decide)] at h
          rw [z_nx_eq h] at kk
          exact kk
      · cases h
    · cases h
  case ifCond cn off =>
    obtain rfl : len = 3 := by simpa [z_len] using hlen
    split at h
    · split at h
      · rename_i h0
        refine zs_ifCond C h0 hdg (fun hc => ?_) (fun hc => ?_)
        · rw [if_pos hc] at h
          rw [z_nx_eq h] at kk
          exact kk
        · rw [if_neg (by rw [hc]; decide)] at h
          rw [z_nx_eq h] at kk
          exact kk
      · cases h
    · cases h
  case tableswitch dflt lo hi offs =>
    split at h
    · split at h
      · rename_i h1
        unfold z_go at h
        split at h
        · rename_i h0
          rw [z_nx_eq h] at kk
          exact zs_tsd C hdg h1 h0 kk
        · cases h
      · rename_i h1
        split at h
        · rename_i ho
          unfold z_go at h
          split at h
          · rename_i h0
            rw [z_nx_eq h] at kk
            exact zs_tsw C hdg h1 ho h0 kk
          · cases h
        · cases h
    · cases h
  case getfield idx =>
    obtain rfl : len = 3 := by simpa [z_len] using hlen
    split at h
    · rename_i h0
      split at h
      · rename_i ha
        split at h
        · rename_i hci
          subst hci
          split at h
          · rename_i hv
            rw [z_nx_eq h] at kk
            exact zs_getfield C h0 ha hv rfl hdg kk
          · rename_i hv
            rw [z_nx_eq h] at kk
            exact zs_getfield C h0 ha hv rfl hdg kk
          · rename_i hv
            rw [z_nx_eq h] at kk
            exact zs_getfield C h0 ha hv rfl hdg kk
          · cases h
        · cases h
      · cases h
    · cases h
  case putfield idx =>
    obtain rfl : len = 3 := by simpa [z_len] using hlen
    split at h
    · rename_i h0
      split at h
      · rename_i ha
        split at h
        · rename_i hci
          obtain ⟨rfl, g1, g2, g3⟩ := hci
          rw [z_nx_eq h] at kk
          exact zs_putfield C h0 ha g1 g2 g3 hdg kk
        · cases h
      · cases h
    · cases h
  case iaload =>
    obtain rfl : len = 1 := by simpa [z_len] using hlen
    split at h
    · split at h
      · rename_i ha
        split at h
        · rename_i hj
          rw [z_nx_eq h] at kk
          exact zs_iaload C ha hj hdg kk
        · cases h
      · cases h
    · split at h
      · rename_i hj
        rw [z_nx_eq h] at kk
        exact zs_sload C hj.1 hj.2 hdg kk
      · cases h
    · cases h
  case iastore =>
    obtain rfl : len = 1 := by simpa [z_len] using hlen
    split at h
    · split at h
      · rename_i ha
        split at h
        · rename_i hj
          rw [z_nx_eq h] at kk
          exact zs_iastore C ha hj hdg kk
        · cases h
      · cases h
    · cases h
  case aaload =>
    obtain rfl : len = 1 := by simpa [z_len] using hlen
    split at h
    · split at h
      · rename_i ha
        split at h
        · rename_i hj
          split at h
          · rename_i hv
            rw [z_nx_eq h] at kk
            exact zs_aaload C ha hj hv hdg kk
          · cases h
        · cases h
      · cases h
    · cases h
  case aastore =>
    obtain rfl : len = 1 := by simpa [z_len] using hlen
    split at h
    · split at h
      · rename_i ha hv
        split at h
        · rename_i hj
          rw [z_nx_eq h] at kk
          exact zs_aastore C ha hv hj hdg kk
        · cases h
      · cases h
    · cases h
  case arraylength =>
    obtain rfl : len = 1 := by simpa [z_len] using hlen
    split at h
    · split at h
      · rename_i ha
        rw [z_nx_eq h] at kk
        exact zs_ilen C ha hdg kk
      · rename_i ha
        rw [z_nx_eq h] at kk
        exact zs_alen C ha hdg kk
      · cases h
    · split at h
      · rename_i hm
        rw [z_nx_eq h] at kk
        exact zs_slen C hm hdg kk
      · cases h
    · cases h
  case new idx =>
    obtain rfl : len = 3 := by simpa [z_len] using hlen
    split at h
    · rename_i h0
      split at h
      · rename_i hk
        rw [z_nx_eq h] at kk
        exact zs_new C h0 hk.1 hk.2 hdg kk
      · cases h
    · cases h
  case newarray ty =>
    obtain rfl : len = 2 := by simpa [z_len] using hlen
    split at h
    · split at h
      · rename_i hk
        rw [z_nx_eq h] at kk
        exact zs_newarray C hk.1 hk.2.1 hk.2.2.1 hk.2.2.2 hdg kk
      · cases h
    · cases h
  case anewarray idx =>
    obtain rfl : len = 3 := by simpa [z_len] using hlen
    split at h
    · rename_i h0
      split at h
      · rename_i hk
        rw [z_nx_eq h] at kk
        exact zs_anewarray C h0 hk.1 hk.2.1 hk.2.2.1 hk.2.2.2 hdg kk
      · cases h
    · cases h
  case ireturn =>
    (repeat' split at h) <;> cases h
  case lreturn =>
    (repeat' split at h) <;> cases h
  case return_ =>
    (repeat' split at h) <;> cases h
end ZE
section ZF
variable {p : Program} {l : Launch} {e : Env} {R : Room} {s : State} {m : MethodId} {args : Array Value} {below : List Frame} {meth : Method} {c : Code} {Q : State → Prop} {D : va_G} {base b : Nat} {sc : List Int32} {mi pc kc ks : Nat} {lv : List (Option Value)} {st : List Value} {ph : z_H}
theorem z_wM : (Cond.static Lib.Math.max.name ∈ z_tbl ∧ Cond.static Lib.Math.min.name ∈ z_tbl ∧ Cond.static Lib.Math.abs.name ∈ z_tbl ∧ Cond.initialized "java/lang/Math" ∈ z_tbl ∧ Cond.code Lib.Math.max.name Lib.Math.max.code 2 (some .int) ∈ z_tbl) ∧ Cond.code Lib.Math.min.name Lib.Math.min.code 2 (some .int) ∈ z_tbl ∧ Cond.code Lib.Math.abs.name Lib.Math.abs.code 1 (some .int) ∈ z_tbl ∧ Cond.instanceMethod objectInit ∈ z_tbl ∧ Cond.code objectInit ⟨#[0xb1]⟩ 1 none ∈ z_tbl := by
  have h := z_wMath
  simp only [Bool.and_eq_true] at h
  obtain ⟨⟨⟨⟨⟨⟨⟨⟨⟨h1, h2⟩, h3⟩, h4⟩, h5⟩, h6⟩, h7⟩, h8⟩, h9⟩, -⟩ := h
  exact ⟨⟨z_wd_in h1, z_wd_in h2, z_wd_in h3, z_wd_in h4, z_wd_in h5⟩, z_wd_in h6, z_wd_in h7, z_wd_in h8, z_wd_in h9⟩
theorem z_sum (base b : Nat) (st : List Value) : ((st.map (z_rv base b)).map fun v => v.category).sum = (st.map fun v => v.category).sum := by
  rw [List.map_map]
  congr 1
  exact List.map_congr_left fun v _ => z_rv_cat base b v
/-- the calls that a row of the kit serves -/
theorem z_lib_ok (C : z_Cx p R s m args meth c D base b sc mi) {k y idx w : Nat} {i : Instr} {st' : List Value} (hi : z_idx i = some (w, idx)) (hc : z_cl2 mi idx = some (k, y)) (hk : z_kk w k = true) (h4 : k = 6 ∨ k = 7 ∨ k = 8 ∨ k = 9) (h : z_lib k mi st = some st') (h1 : kc ≤ z_mc mi) (h2 : ks ≤ z_ms mi) {len : Nat} (hdg : decode (z_co mi) pc = .ok (i, len)) (hlen : z_len i len = true) (kk : z_Wt p l e R s m args below meth c Q D base b (z_ml mi) (pc + 3, lv, st', ph, kc, ks)) : z_Wt p l e R s m args below meth c Q D base b (z_ml mi) (pc, lv, st, ph, kc, ks) := by
  intro ls H locs hl hh hs
  obtain ⟨hx, hb, hml, hown, hts, hK, hR, hini, hbase, hscr⟩ := id C
  obtain ⟨w9, w6, w7, w8, -, -⟩ := z_cl2_spec hc
  obtain ⟨⟨m1, m2, m3, m4, m5⟩, m6, m7, m8, m9⟩ := z_wM
  have hsz : ls.size = c.maxLocals := hl.1.trans hml.symm
  have k3 := kk ls H locs hl hh hs
  rcases h4 with rfl | rfl | rfl | rfl
  · have hw : i = .invokestatic idx := by
      cases i <;> simp only [z_idx] at hi <;> cases hi <;> first | rfl | cases hk
    subst hw
    obtain rfl : len = 3 := by simpa [z_len] using hlen
    simp only [z_lib] at h
    split at h
    · split at h
      · rename_i hr
        cases h
        exact va_mmax hx hb hsz.symm hown (hts _ (w6 rfl)) (hts _ m1) (hts _ m4) (hts _ m5) (by rw [hR]; exact hr.2) (by rw [hR, z_sum]; exact hr.1) (by rw [hR]; exact h1) (by rw [hR]; exact h2) hdg k3
      · cases h
    · cases h
  · have hw : i = .invokestatic idx := by
      cases i <;> simp only [z_idx] at hi <;> cases hi <;> first | rfl | cases hk
    subst hw
    obtain rfl : len = 3 := by simpa [z_len] using hlen
    simp only [z_lib] at h
    split at h
    · split at h
      · rename_i hr
        cases h
        exact va_mmin hx hb hsz.symm hown (hts _ (w7 rfl)) (hts _ m2) (hts _ m4) (hts _ m6) (by rw [hR]; exact hr.2) (by rw [hR, z_sum]; exact hr.1) (by rw [hR]; exact h1) (by rw [hR]; exact h2) hdg k3
      · cases h
    · cases h
  · have hw : i = .invokestatic idx := by
      cases i <;> simp only [z_idx] at hi <;> cases hi <;> first | rfl | cases hk
    subst hw
    obtain rfl : len = 3 := by simpa [z_len] using hlen
    simp only [z_lib] at h
    split at h
    · split at h
      · rename_i hr
        cases h
        exact va_mabs hx hb hsz.symm hown (hts _ (w8 rfl)) (hts _ m3) (hts _ m4) (hts _ m7) (by rw [hR]; exact hr.2) (by rw [hR, z_sum]; exact hr.1) (by rw [hR]; exact h1) (by rw [hR]; exact h2) hdg k3
      · cases h
    · cases h
  · have hw : i = .invokespecial idx := by
      cases i <;> simp only [z_idx] at hi <;> cases hi <;> first | rfl | cases hk
    subst hw
    obtain rfl : len = 3 := by simpa [z_len] using hlen
    simp only [z_lib] at h
    split at h
    · split at h
      · rename_i hr
        cases h
        exact W.objInit hx hb hown (hts _ (w9 rfl)) (hts _ m8) (hts _ m9) rfl hsz rfl hdg (by rw [hR]; exact hr.2) (by rw [hR, z_sum]; have := hr.1; show 2 * 0 + _ + 12 ≤ z_lo mi; omega) k3
      · cases h
    · cases h
/-- a call of a method -/
theorem z_call_ok {n : Nat} (hn : z_Ok sc n) (C : z_Cx p R s m args meth c D base b sc mi) {k y idx w : Nat} {i : Instr} {o : z_O} {as rest : List Value} (hi : z_idx i = some (w, idx)) (hc : z_cl2 mi idx = some (k, y)) (hk : z_kk w k = true) (h4 : ¬ (k = 6 ∨ k = 7 ∨ k = 8 ∨ k = 9)) (hok : z_okc mi k y as rest ph kc ks = true) (hst : st = as.reverse ++ rest) (h : z_ex sc n y 0 (z_init y as) [] ph 0 0 = some o) (ho : z_out o.1 = true) {len : Nat} (hdg : decode (z_co mi) pc = .ok (i, len)) (hlen : z_len i len = true) (kk : z_Wt p l e R s m args below meth c Q D base b (z_ml mi) (pc + 3, lv, o.1.toList ++ rest, o.2, kc + z_mc y, ks + z_ms y)) : z_Wt p l e R s m args below meth c Q D base b (z_ml mi) (pc, lv, st, ph, kc, ks) := by
  intro ls H locs hl hh hs
  subst hst
  obtain ⟨hx, hb, hml, hown, hts, hK, hR, hini, hbase, hscr⟩ := id C
  obtain ⟨-, -, -, -, wA, wB⟩ := z_cl2_spec hc
  unfold z_okc at hok
  simp only [Bool.and_eq_true, decide_eq_true_eq] at hok
  obtain ⟨⟨⟨⟨⟨⟨⟨⟨o1, o2⟩, o3⟩, o4⟩, o5⟩, o6⟩, o7⟩, o8⟩, o9⟩ := hok
  have hk5 : k = 0 ∨ k = 1 ∨ k = 2 ∨ k = 4 ∨ k = 5 := by
    unfold z_kk at hk
    split at hk <;> simp only [Bool.or_eq_true, beq_iff_eq] at hk <;> omega
  have hy : 0 < y ∧ y < 184 := by
    rcases hk5 with q | q | q | q | q
    · exact (wA (by omega)).2
    · exact (wA (by omega)).2
    · exact (wA (by omega)).2
    · exact (wB (by omega)).2
    · exact (wB (by omega)).2
  obtain ⟨y1, y2⟩ := hy
  obtain ⟨g1, g2, g3, g4, g5⟩ := z_m_rest y1 y2
  have hM : z_Mt l D base ph as y o := z_met hn h y1 y2 o7
  have hG := z_wsGood y1 y2
  have hRm : (z_rm y).frames + 1 ≤ R.frames ∧ 8 + (z_ml y + 11) + (z_rm y).locals ≤ R.locals := by rw [hR]; exact ⟨o2, o3⟩
  have hfin := hts _ (z_m_ini y1 y2)
  have hPc : ∀ U : State, U.heap = H → s.WarmedH U.vm → z_Pc D base ph as (as.map (z_rv base 0)).toArray U := fun U hU hW => ⟨rfl, by rw [hU]; exact hh.moved hW.alike, hK.warm hW⟩
  have hsize : (F0 m pc ls ((as.reverse ++ rest).map (z_rv base b))).locals.size = z_ml mi := hl.1
  have hf : kc + z_mc y ≤ R.cells ∧ ks + z_ms y ≤ R.slots := by rw [hR]; exact ⟨o4, o5⟩
  have hW8 : 2 * (F0 m pc ls ((as.reverse ++ rest).map (z_rv base b))).monitorRoom + ((rest.map (z_rv base b)).map fun v => v.category).sum ≤ 8 := by rw [z_sum]; show 2 * 0 + _ ≤ 8; omega
  have has : as.map (z_rv base b) = as.map (z_rv base 0) := List.map_congr_left fun v hv => z_rv_nr (List.all_eq_true.mp o6 v hv)
  have S : CallFix p m c (z_co mi) (z_ml mi) s args z_tbl (z_rn (z_ci mi)) := ⟨hx, hb, hml, hown, hts⟩
  have fin : ∀ aa : Array Value, va_Run p l e R s m args below meth c H locs kc ks (z_mc y) (z_ms y) (F0 m pc ls ((as.reverse ++ rest).map (z_rv base b))) (rest.map (z_rv base b)) (z_Qc D base o aa) (fun q => base ≤ q) → W p l e R s m args below meth c H locs kc ks Q (F0 m pc ls ((as.reverse ++ rest).map (z_rv base b))) := by
    intro aa hr
    refine z_after hr hs fun H1 locs1 hh1 hs1 => ?_
    have e1 : ((o.1.map (z_rv base 0)).toList ++ rest.map (z_rv base b)) = (o.1.toList ++ rest).map (z_rv base b) := by
      rw [List.map_append]
      congr 1
      rcases o with ⟨r, ph1⟩
      rcases r with _ | v
      · rfl
      · cases v <;> first | rfl | cases ho
    rw [e1]
    exact kk ls H1 locs1 hl hh1 hs1
  have hstk : (as.reverse ++ rest).map (z_rv base b) = (as.map (z_rv base 0)).reverse ++ rest.map (z_rv base b) := by
    rw [List.map_append, List.map_reverse, has]
  rcases hk5 with rfl | rfl | rfl | rfl | rfl
  · -- virtual
    have hw : i = .invokevirtual idx := by
      cases i <;> simp only [z_idx] at hi <;> cases hi <;> first | rfl | cases hk
    subst hw
    obtain rfl : len = 3 := by simpa [z_len] using hlen
    simp only [Bool.and_eq_true, Bool.not_eq_true'] at o9
    obtain ⟨⟨p1, p2⟩, p3⟩ := o9
    obtain ⟨wl, -⟩ := wA (by omega)
    obtain ⟨wi, wsel⟩ := z_m_inst y1 y2 p1
    rcases as with _ | ⟨v, As⟩
    · cases p3
    rcases v with _ | _ | _ | _ | _ | a | _ <;> first | cases p3 | skip
    simp only [z_rcv] at p3
    split at p3 <;> first | cases p3 | skip
    rename_i ci fs hrec
    have p4 : ci = z_ci y := by simpa using p3
    subst p4
    obtain ⟨r, hr, hfl, cell, q1, q2, q3, q4⟩ := hh.2 a _ hrec
    have hcls := (hK.1.1 (z_ci y) _ hr).2.1
    have hn1 : As.length = z_np y := by simpa [z_na] using o8
    refine fin _ (va_runV (b := base + a) (As := As.map (z_rv base 0)) (n := z_np y) (C := (z_nm y).cls) S hM ⟨callB_of (z_np y) hts hG rfl rfl rfl hfin (hts _ wl) ⟨g2.1, g2.2, g5⟩ hRm, hts _ wi, hts _ (wsel p2)⟩ ⟨z_blind, ⟨cell, q1, by rw [q3]; rfl, ?_⟩, hPc⟩ rfl (by rw [List.length_map]; exact hn1) hsize ?_ hW8 hdg hf)
    · rw [q2, g1]
      have e2 : r.1 = z_rn (z_ci y) := by
        have hlt : z_ci y < 9 := (List.getElem?_eq_some_iff.mp hr).1
        have := hr.symm.trans (z_cl_at (z_ci y) hlt)
        cases this
        rfl
      rw [← e2]
      exact hcls
    · show ((Value.ref a :: As).reverse ++ rest).map (z_rv base b) = _
      rw [hstk]
      simp [z_rv]
  · -- static
    have hw : i = .invokestatic idx := by
      cases i <;> simp only [z_idx] at hi <;> cases hi <;> first | rfl | cases hk
    subst hw
    obtain rfl : len = 3 := by simpa [z_len] using hlen
    obtain ⟨wl, -⟩ := wA (by omega)
    have hn1 : as.length = z_np y := by simpa [z_na] using o8
    exact fin _ (va_runS (As := as.map (z_rv base 0)) (n := z_np y) S hM ⟨callB_of (z_np y) hts hG rfl rfl rfl hfin (hts _ wl) ⟨g2.1, g2.2, g5⟩ hRm, hts _ (z_m_stat y1 y2 o9)⟩ ⟨z_blind, hPc⟩ rfl (by rw [List.length_map]; exact hn1) hsize hstk hW8 hdg hf)
  · -- a constructor
    have hw : i = .invokespecial idx := by
      cases i <;> simp only [z_idx] at hi <;> cases hi <;> first | rfl | cases hk
    subst hw
    obtain rfl : len = 3 := by simpa [z_len] using hlen
    simp only [Bool.and_eq_true, Bool.not_eq_true'] at o9
    obtain ⟨⟨p1, p2⟩, p3⟩ := o9
    obtain ⟨wl, -⟩ := wA (by omega)
    obtain ⟨wi, -⟩ := z_m_inst y1 y2 p2
    obtain ⟨i1, i2⟩ := g4 p1
    rcases as with _ | ⟨v, As⟩
    · cases p3
    rcases v with _ | _ | _ | _ | _ | a | _ <;> first | cases p3 | skip
    have hn1 : As.length = z_np y := by simpa [z_na] using o8
    refine fin _ (va_runI (b := base + a) (As := As.map (z_rv base 0)) (n := z_np y) S hM ⟨callB_of (z_np y) hts hG (by unfold z_ws; rw [i2]) rfl rfl hfin (hts _ wl) ⟨g2.1, g2.2, g5⟩ hRm, i1, hts _ wi⟩ ⟨z_blind, hPc⟩ rfl (by rw [List.length_map]; exact hn1) hsize ?_ hW8 hdg hf)
    show ((Value.ref a :: As).reverse ++ rest).map (z_rv base b) = _
    rw [hstk]
    simp [z_rv]
  · -- a static of a nest mate
    have hw : i = .invokestatic idx := by
      cases i <;> simp only [z_idx] at hi <;> cases hi <;> first | rfl | cases hk
    subst hw
    obtain rfl : len = 3 := by simpa [z_len] using hlen
    obtain ⟨wl, -⟩ := wB (by omega)
    have hn1 : as.length = z_np y := by simpa [z_na] using o8
    exact fin _ (va_runSN (As := as.map (z_rv base 0)) (n := z_np y) S hM ⟨va_cnB (z_np y) hts hG rfl rfl rfl (hK.2.1 _ wl) hfin ⟨g2.1, g2.2, g5⟩ hRm, hts _ (z_m_stat y1 y2 o9), trivial⟩ ⟨z_blind, hPc⟩ rfl (by rw [List.length_map]; exact hn1) hsize hstk hW8 hdg hf)
  · -- a constructor of a nest mate
    have hw : i = .invokespecial idx := by
      cases i <;> simp only [z_idx] at hi <;> cases hi <;> first | rfl | cases hk
    subst hw
    obtain rfl : len = 3 := by simpa [z_len] using hlen
    simp only [Bool.and_eq_true, Bool.not_eq_true'] at o9
    obtain ⟨⟨p1, p2⟩, p3⟩ := o9
    obtain ⟨wl, -⟩ := wB (by omega)
    obtain ⟨wi, -⟩ := z_m_inst y1 y2 p2
    obtain ⟨i1, i2⟩ := g4 p1
    rcases as with _ | ⟨v, As⟩
    · cases p3
    rcases v with _ | _ | _ | _ | _ | a | _ <;> first | cases p3 | skip
    have hn1 : As.length = z_np y := by simpa [z_na] using o8
    refine fin _ (va_runIN (b := base + a) (As := As.map (z_rv base 0)) (n := z_np y) S hM ⟨va_cnB (z_np y) hts hG (by unfold z_ws; rw [i2]) rfl rfl (hK.2.1 _ wl) hfin ⟨g2.1, g2.2, g5⟩ hRm, i1, hts _ wi⟩ ⟨z_blind, hPc⟩ rfl (by rw [List.length_map]; exact hn1) hsize ?_ hW8 hdg hf)
    show ((Value.ref a :: As).reverse ++ rest).map (z_rv base b) = _
    rw [hstk]
    simp [z_rv]
/-- THE MACHINE OF PART 05 IS THE JVM'S -/
theorem z_sound (sc : List Int32) : ∀ n, z_Ok sc n := by
  intro n
  induction n with
  | zero =>
    intro p l e R s m args below meth c Q D base b mi pc kc ks lv st ph o C h
    unfold z_ex at h
    cases h
  | succ n ih =>
    intro p l e R s m args below meth c Q D base b mi pc kc ks lv st ph o C h hret
    unfold z_ex at h
    split at h
    · cases h
    · rename_i i len hdg
      split at h
      · rename_i hlen
        split at h
        · split at h
          · cases h
          · rename_i r hst
            split at h
            · rename_i hk
              cases h
              exact hret _ _ _ _ _ _ _ _ hdg hlen hst hk.1 hk.2
            · cases h
          · rename_i pc' lv' st' ph' kc' ks' hst
            exact z_step_ok C hdg hlen hst (ih p l e R s m args below meth c Q D base b mi pc' kc' ks' lv' st' ph' o C h hret)
        · rename_i w idx hi
          split at h
          · cases h
          · rename_i k y hc
            split at h
            · rename_i hk
              split at h
              · rename_i h4
                split at h
                · cases h
                · rename_i st' hl
                  split at h
                  · rename_i hb
                    exact z_lib_ok C hi hc hk h4 hl hb.1 hb.2 hdg hlen (ih p l e R s m args below meth c Q D base b mi (pc + 3) kc ks lv st' ph o C h hret)
                  · cases h
              · rename_i h4
                split at h
                · rename_i hok
                  split at h
                  · cases h
                  · rename_i r ph' hex
                    split at h
                    · rename_i ho
                      exact z_call_ok (o := (r, ph')) ih C hi hc hk h4 hok (by rw [List.reverse_reverse, List.take_append_drop]) hex ho hdg hlen (ih p l e R s m args below meth c Q D base b mi (pc + 3) (kc + z_mc y) (ks + z_ms y) lv _ ph' o C h hret)
                    · cases h
                · cases h
            · cases h
      · cases h
end ZF
end
section
/-! the law's own body: what z_ex answers for it is the claim -/
theorem z_known {s : State} {args : Array Value} (hts : ∀ w ∈ z_tbl, w.before args s = true) : ∀ c, c < 9 → ∃ (cC : ClassId) (iS : Nat → Nat), u_Kn s (z_rn c) (z_F c) (z_nf c) cC iS := by
  have hin : ∀ c, c < 9 → Cond.instantiable (z_rn c) (z_nf c) ∈ z_tbl := by
    have h : ∀ c, c < 9 → (z_NT.any fun e => e.2.2.1 == c) = true := by decide +kernel
    intro c hc
    obtain ⟨e, he, h1⟩ := List.any_eq_true.mp (h c hc)
    have h2 := List.all_eq_true.mp z_NT_ok e he
    unfold z_okN at h2
    simp only [Bool.and_eq_true, decide_eq_true_eq] at h2
    simp only [beq_iff_eq] at h1
    rw [← h1]
    exact z_wd_in h2.1.1.2
  exact fun c hc => u_known hts (z_wsIn c hc) (hts _ (hin c hc))
theorem z_whole (hlaw : ∀ sc : List Int32, sc.length ≤ 2048 → ∃ (n : Nat) (ph : z_H), z_ex sc n 0 0 (z_init 0 [.retAddr 0]) [] [] 0 0 = some (some (.int 1), ph))
    {p : Program} {e : Env} {s : State} {m : MethodId} {below : List Frame} {meth : Method} {c : Code} {Q : State → Prop} (l : Launch) {b L : Nat} {xs : Nat → Int32} (hL : L ≤ 2048)
    (hx : p.tables.exec = Jvm.exec) (hb : c.code = code) (hr : meth.sig.returnType = ret) (hml : c.maxLocals = 4) (hown : s.vm.findClass RL = some m.cls) (hts0 : ∀ w ∈ lw_tbl, w.before #[Value.ref b] s = true) (hX : va_X b L xs s s.heap) (hbl : b < s.heap.size) (hlocks : meth.locks = false)
    (hend : ∀ {pc : Nat} {H : Heap} {ls : Array Slot}, decode code pc = .ok (.ireturn, 1) → W p l e room_1 s m #[Value.ref b] below meth c H [] 600000 7302249 Q (F0 m pc ls [.int 1])) :
    W p l e room_1 s m #[Value.ref b] below meth c s.heap [] 0 0 Q (entryFrame m ([Value.ref b] : List Value).toArray 4) := by
  have hts : ∀ w ∈ z_tbl, w.before #[Value.ref b] s = true := fun w hw => hts0 w (List.mem_filter.mp hw).1
  obtain ⟨dC, dI, hKc⟩ : ∃ (dC : Nat → ClassId) (dI : Nat → Nat → Nat), ∀ c, c < 9 → u_Kn s (z_rn c) (z_F c) (z_nf c) (dC c) (dI c) := by
    have h : ∀ c, ∃ q : ClassId × (Nat → Nat), c < 9 → u_Kn s (z_rn c) (z_F c) (z_nf c) q.1 q.2 := by
      intro c
      by_cases hc : c < 9
      · obtain ⟨a, i, h⟩ := z_known hts c hc
        exact ⟨(a, i), fun _ => h⟩
      · exact ⟨(0, fun _ => 0), fun h => absurd h hc⟩
    exact ⟨fun c => (Classical.choose (h c)).1, fun c => (Classical.choose (h c)).2, fun c hc => Classical.choose_spec (h c) hc⟩
  have hK : z_Kx (dC, dI) s := by
    refine ⟨⟨fun c q hq => ?_, fun k q h => by simp at h⟩, fun w hw => ?_, va_AO.of (hts0 _ (List.mem_of_getElem? z_wOver))⟩
    · have hc : c < 9 := (List.getElem?_eq_some_iff.mp hq).1
      have h1 := hq.symm.trans (z_cl_at c hc)
      cases h1
      exact hKc c hc
    · have h1 := List.mem_filter.mp hw
      have h2 := hts0 w h1.1
      have h3 := h1.2
      cases w <;> first | exact va_Nw.of rfl h2 | cases h3
  obtain ⟨n, ph, hex⟩ := hlaw ((List.range L).map xs) (by rw [List.length_map, List.length_range]; exact hL)
  have hlen : ((List.range L).map xs).length = L := by rw [List.length_map, List.length_range]
  have hX' : va_X b ((List.range L).map xs).length (fun j => ((List.range L).map xs).getD j 0) s s.heap := by
    rw [hlen]
    obtain ⟨scr, h1, h2, h3, h4, h5⟩ := hX
    refine ⟨scr, h1, h2, h3, h4, fun j hj => ?_⟩
    rw [h5 j hj]
    simp [List.getD, hj]
  have C : z_Cx p room_1 s m #[Value.ref b] meth c (dC, dI) s.heap.size b ((List.range L).map xs) 0 :=
    ⟨hx, hb, hml, hown, hts, hK, rfl, (fun h => by cases h), Nat.le_refl _, fun _ => ⟨hX', hbl⟩⟩
  rw [lg_entry_eq]
  have hl := lv_entry ([.ref b]) (n := 4) (Nat.le_of_ble_eq_true rfl)
  refine z_sound ((List.range L).map xs) n p l e room_1 s m _ below meth c Q (dC, dI) s.heap.size b 0 0 0 0 (z_init 0 [.retAddr 0]) [] [] _ C hex ?_ _ s.heap [] ?_ ⟨rfl, fun k c h => by simp at h⟩ va_S.rf
  · intro pc kc ks lv st ph1 i len hdg hlen hst h1 h2 ls H locs hll hh hs
    have hi : i = .ireturn ∧ st = [.int 1] := by
      cases i <;> simp only [z_step] at hst
      case ireturn =>
        split at hst
        · split at hst
          · cases hst; exact ⟨rfl, rfl⟩
          · split at hst
            · cases hst; exact ⟨rfl, rfl⟩
            · cases hst
          · cases hst
        · cases hst
      case lreturn => (repeat' split at hst) <;> cases hst
      case return_ => (repeat' split at hst) <;> cases hst
      all_goals first
        | cases hst
        | (exfalso; simp only [z_nx, z_go] at hst; (repeat' split at hst) <;> cases hst)
    obtain ⟨rfl, rfl⟩ := hi
    obtain rfl : len = 1 := by simpa [z_len] using hlen
    exact va_forget hs.2.2 (W.widen h1 h2 (hend hdg))
  · refine ⟨hl.1, hl.2.1, fun q hq => hl.2.2 q ?_⟩
    exact z_ent (base := s.heap.size) (b := b) (r := 3) [.retAddr 0] 0 hq
end
