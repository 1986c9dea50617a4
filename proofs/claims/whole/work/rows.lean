section
-- ===== PART A: goes FIRST, ahead of the names: the tables' words, and 'selects' of the private methods out of them =====
/-- a private method of a class that the tables say can be made, by its rows of tables_1 -/
def lw_okq (q : MethodName × Nat) : Prop := (q.1.cls ≠ "java/lang/invoke/MethodHandle" ∧ q.1.cls ≠ "java/lang/invoke/VarHandle") ∧ Cond.instantiable q.1.cls q.2 ∈ tables_1 ∧ Cond.privateMethod q.1 ∈ tables_1 ∧ Cond.instanceMethod q.1 ∈ tables_1
theorem lw_p0 : lw_okq (⟨"GingerArmy", "refuse", "(I)I"⟩, 10) := ⟨⟨by decide +kernel, by decide +kernel⟩, List.mem_of_getElem? (i := 12) (by decide +kernel), List.mem_of_getElem? (i := 164) (by decide +kernel), List.mem_of_getElem? (i := 165) (by decide +kernel)⟩
theorem lw_p1 : lw_okq (⟨"GingerArmy$Tale", "firstBroken", "()I"⟩, 2) := ⟨⟨by decide +kernel, by decide +kernel⟩, List.mem_of_getElem? (i := 115) (by decide +kernel), List.mem_of_getElem? (i := 187) (by decide +kernel), List.mem_of_getElem? (i := 188) (by decide +kernel)⟩
theorem lw_p2 : lw_okq (⟨"GingerArmy$Tale", "letterAt", "(I)I"⟩, 2) := ⟨⟨by decide +kernel, by decide +kernel⟩, List.mem_of_getElem? (i := 115) (by decide +kernel), List.mem_of_getElem? (i := 191) (by decide +kernel), List.mem_of_getElem? (i := 192) (by decide +kernel)⟩
theorem lw_p3 : lw_okq (⟨"GingerArmy$Tale", "carryOut", "(LGingerArmy$Shelf;I)Z"⟩, 2) := ⟨⟨by decide +kernel, by decide +kernel⟩, List.mem_of_getElem? (i := 115) (by decide +kernel), List.mem_of_getElem? (i := 201) (by decide +kernel), List.mem_of_getElem? (i := 202) (by decide +kernel)⟩
theorem lw_p4 : lw_okq (⟨"GingerArmy$Tale", "digitAt", "(I)I"⟩, 2) := ⟨⟨by decide +kernel, by decide +kernel⟩, List.mem_of_getElem? (i := 115) (by decide +kernel), List.mem_of_getElem? (i := 205) (by decide +kernel), List.mem_of_getElem? (i := 206) (by decide +kernel)⟩
theorem lw_p5 : lw_okq (⟨"GingerArmy$Tale", "numberAt", "(I)I"⟩, 2) := ⟨⟨by decide +kernel, by decide +kernel⟩, List.mem_of_getElem? (i := 115) (by decide +kernel), List.mem_of_getElem? (i := 209) (by decide +kernel), List.mem_of_getElem? (i := 210) (by decide +kernel)⟩
theorem lw_p6 : lw_okq (⟨"GingerArmy$Mind", "leftBehind", "(I)I"⟩, 3) := ⟨⟨by decide +kernel, by decide +kernel⟩, List.mem_of_getElem? (i := 97) (by decide +kernel), List.mem_of_getElem? (i := 464) (by decide +kernel), List.mem_of_getElem? (i := 465) (by decide +kernel)⟩
theorem lw_p7 : lw_okq (⟨"GingerArmy$Mind", "isReady", "(II)Z"⟩, 3) := ⟨⟨by decide +kernel, by decide +kernel⟩, List.mem_of_getElem? (i := 97) (by decide +kernel), List.mem_of_getElem? (i := 510) (by decide +kernel), List.mem_of_getElem? (i := 511) (by decide +kernel)⟩
theorem lw_p8 : lw_okq (⟨"GingerArmy$Mind", "leavesAsTold", "([II)Z"⟩, 3) := ⟨⟨by decide +kernel, by decide +kernel⟩, List.mem_of_getElem? (i := 97) (by decide +kernel), List.mem_of_getElem? (i := 552) (by decide +kernel), List.mem_of_getElem? (i := 553) (by decide +kernel)⟩
theorem lw_p9 : lw_okq (⟨"GingerArmy$Mind", "pressesAsTold", "(I[II)Z"⟩, 3) := ⟨⟨by decide +kernel, by decide +kernel⟩, List.mem_of_getElem? (i := 97) (by decide +kernel), List.mem_of_getElem? (i := 566) (by decide +kernel), List.mem_of_getElem? (i := 567) (by decide +kernel)⟩
theorem lw_p10 : lw_okq (⟨"GingerArmy", "areNoTwo", "(II)Z"⟩, 10) := ⟨⟨by decide +kernel, by decide +kernel⟩, List.mem_of_getElem? (i := 12) (by decide +kernel), List.mem_of_getElem? (i := 579) (by decide +kernel), List.mem_of_getElem? (i := 580) (by decide +kernel)⟩
theorem lw_p11 : lw_okq (⟨"GingerArmy$Mind", "wantMet", "(I)I"⟩, 3) := ⟨⟨by decide +kernel, by decide +kernel⟩, List.mem_of_getElem? (i := 97) (by decide +kernel), List.mem_of_getElem? (i := 587) (by decide +kernel), List.mem_of_getElem? (i := 588) (by decide +kernel)⟩
theorem lw_p12 : lw_okq (⟨"GingerArmy", "refuseLong", "(I)J"⟩, 10) := ⟨⟨by decide +kernel, by decide +kernel⟩, List.mem_of_getElem? (i := 12) (by decide +kernel), List.mem_of_getElem? (i := 595) (by decide +kernel), List.mem_of_getElem? (i := 596) (by decide +kernel)⟩
theorem lw_p13 : lw_okq (⟨"GingerArmy", "refusalsTold", "(I)I"⟩, 10) := ⟨⟨by decide +kernel, by decide +kernel⟩, List.mem_of_getElem? (i := 12) (by decide +kernel), List.mem_of_getElem? (i := 724) (by decide +kernel), List.mem_of_getElem? (i := 725) (by decide +kernel)⟩
theorem lw_p14 : lw_okq (⟨"GingerArmyModel", "no", "(I)I"⟩, 27) := ⟨⟨by decide +kernel, by decide +kernel⟩, List.mem_of_getElem? (i := 728) (by decide +kernel), List.mem_of_getElem? (i := 823) (by decide +kernel), List.mem_of_getElem? (i := 824) (by decide +kernel)⟩
theorem lw_p15 : lw_okq (⟨"GingerArmyModel", "statement", "()Z"⟩, 27) := ⟨⟨by decide +kernel, by decide +kernel⟩, List.mem_of_getElem? (i := 728) (by decide +kernel), List.mem_of_getElem? (i := 831) (by decide +kernel), List.mem_of_getElem? (i := 832) (by decide +kernel)⟩
def lw_privs_1 : List (MethodName × Nat) := [(⟨"GingerArmy", "refuse", "(I)I"⟩, 10), (⟨"GingerArmy$Tale", "firstBroken", "()I"⟩, 2), (⟨"GingerArmy$Tale", "letterAt", "(I)I"⟩, 2), (⟨"GingerArmy$Tale", "carryOut", "(LGingerArmy$Shelf;I)Z"⟩, 2), (⟨"GingerArmy$Tale", "digitAt", "(I)I"⟩, 2), (⟨"GingerArmy$Tale", "numberAt", "(I)I"⟩, 2), (⟨"GingerArmy$Mind", "leftBehind", "(I)I"⟩, 3), (⟨"GingerArmy$Mind", "isReady", "(II)Z"⟩, 3), (⟨"GingerArmy$Mind", "leavesAsTold", "([II)Z"⟩, 3), (⟨"GingerArmy$Mind", "pressesAsTold", "(I[II)Z"⟩, 3), (⟨"GingerArmy", "areNoTwo", "(II)Z"⟩, 10), (⟨"GingerArmy$Mind", "wantMet", "(I)I"⟩, 3), (⟨"GingerArmy", "refuseLong", "(I)J"⟩, 10), (⟨"GingerArmy", "refusalsTold", "(I)I"⟩, 10), (⟨"GingerArmyModel", "no", "(I)I"⟩, 27), (⟨"GingerArmyModel", "statement", "()Z"⟩, 27)]
theorem lw_r1 : ∀ q ∈ lw_privs_1, lw_okq q := List.forall_mem_cons.mpr ⟨lw_p0, List.forall_mem_cons.mpr ⟨lw_p1, List.forall_mem_cons.mpr ⟨lw_p2, List.forall_mem_cons.mpr ⟨lw_p3, List.forall_mem_cons.mpr ⟨lw_p4, List.forall_mem_cons.mpr ⟨lw_p5, List.forall_mem_cons.mpr ⟨lw_p6, List.forall_mem_cons.mpr ⟨lw_p7, List.forall_mem_cons.mpr ⟨lw_p8, List.forall_mem_cons.mpr ⟨lw_p9, List.forall_mem_cons.mpr ⟨lw_p10, List.forall_mem_cons.mpr ⟨lw_p11, List.forall_mem_cons.mpr ⟨lw_p12, List.forall_mem_cons.mpr ⟨lw_p13, List.forall_mem_cons.mpr ⟨lw_p14, List.forall_mem_cons.mpr ⟨lw_p15, fun _ h => absurd h List.not_mem_nil⟩⟩⟩⟩⟩⟩⟩⟩⟩⟩⟩⟩⟩⟩⟩⟩
theorem lw_p16 : lw_okq (⟨"GingerArmyModel", "letterNow", "()I"⟩, 27) := ⟨⟨by decide +kernel, by decide +kernel⟩, List.mem_of_getElem? (i := 728) (by decide +kernel), List.mem_of_getElem? (i := 835) (by decide +kernel), List.mem_of_getElem? (i := 836) (by decide +kernel)⟩
theorem lw_p17 : lw_okq (⟨"GingerArmyModel", "readsAll", "(II)Z"⟩, 27) := ⟨⟨by decide +kernel, by decide +kernel⟩, List.mem_of_getElem? (i := 728) (by decide +kernel), List.mem_of_getElem? (i := 839) (by decide +kernel), List.mem_of_getElem? (i := 840) (by decide +kernel)⟩
theorem lw_p18 : lw_okq (⟨"GingerArmyModel", "readsDigits", "(II)Z"⟩, 27) := ⟨⟨by decide +kernel, by decide +kernel⟩, List.mem_of_getElem? (i := 728) (by decide +kernel), List.mem_of_getElem? (i := 843) (by decide +kernel), List.mem_of_getElem? (i := 844) (by decide +kernel)⟩
theorem lw_p19 : lw_okq (⟨"GingerArmyModel", "passesAll", "(IZ)V"⟩, 27) := ⟨⟨by decide +kernel, by decide +kernel⟩, List.mem_of_getElem? (i := 728) (by decide +kernel), List.mem_of_getElem? (i := 850) (by decide +kernel), List.mem_of_getElem? (i := 851) (by decide +kernel)⟩
theorem lw_p20 : lw_okq (⟨"GingerArmyModel", "passes", "([I)V"⟩, 27) := ⟨⟨by decide +kernel, by decide +kernel⟩, List.mem_of_getElem? (i := 728) (by decide +kernel), List.mem_of_getElem? (i := 854) (by decide +kernel), List.mem_of_getElem? (i := 855) (by decide +kernel)⟩
theorem lw_p21 : lw_okq (⟨"GingerArmyModel", "passOne", "(I)I"⟩, 27) := ⟨⟨by decide +kernel, by decide +kernel⟩, List.mem_of_getElem? (i := 728) (by decide +kernel), List.mem_of_getElem? (i := 858) (by decide +kernel), List.mem_of_getElem? (i := 859) (by decide +kernel)⟩
theorem lw_p22 : lw_okq (⟨"GingerArmyModel", "comesTold", "(I)Z"⟩, 27) := ⟨⟨by decide +kernel, by decide +kernel⟩, List.mem_of_getElem? (i := 728) (by decide +kernel), List.mem_of_getElem? (i := 862) (by decide +kernel), List.mem_of_getElem? (i := 863) (by decide +kernel)⟩
theorem lw_p23 : lw_okq (⟨"GingerArmyModel", "comesBottle", "(I)Z"⟩, 27) := ⟨⟨by decide +kernel, by decide +kernel⟩, List.mem_of_getElem? (i := 728) (by decide +kernel), List.mem_of_getElem? (i := 866) (by decide +kernel), List.mem_of_getElem? (i := 867) (by decide +kernel)⟩
theorem lw_p24 : lw_okq (⟨"GingerArmyModel", "wholeAt", "(I)I"⟩, 27) := ⟨⟨by decide +kernel, by decide +kernel⟩, List.mem_of_getElem? (i := 728) (by decide +kernel), List.mem_of_getElem? (i := 873) (by decide +kernel), List.mem_of_getElem? (i := 874) (by decide +kernel)⟩
theorem lw_p25 : lw_okq (⟨"GingerArmyModel", "isWhole", "(I)Z"⟩, 27) := ⟨⟨by decide +kernel, by decide +kernel⟩, List.mem_of_getElem? (i := 728) (by decide +kernel), List.mem_of_getElem? (i := 877) (by decide +kernel), List.mem_of_getElem? (i := 878) (by decide +kernel)⟩
theorem lw_p26 : lw_okq (⟨"GingerArmyModel", "adds", "(III)V"⟩, 27) := ⟨⟨by decide +kernel, by decide +kernel⟩, List.mem_of_getElem? (i := 728) (by decide +kernel), List.mem_of_getElem? (i := 881) (by decide +kernel), List.mem_of_getElem? (i := 882) (by decide +kernel)⟩
theorem lw_p27 : lw_okq (⟨"GingerArmyModel", "comesDays", "(I)Z"⟩, 27) := ⟨⟨by decide +kernel, by decide +kernel⟩, List.mem_of_getElem? (i := 728) (by decide +kernel), List.mem_of_getElem? (i := 885) (by decide +kernel), List.mem_of_getElem? (i := 886) (by decide +kernel)⟩
theorem lw_p28 : lw_okq (⟨"GingerArmyModel", "goesAll", "(I)V"⟩, 27) := ⟨⟨by decide +kernel, by decide +kernel⟩, List.mem_of_getElem? (i := 728) (by decide +kernel), List.mem_of_getElem? (i := 889) (by decide +kernel), List.mem_of_getElem? (i := 890) (by decide +kernel)⟩
theorem lw_p29 : lw_okq (⟨"GingerArmyModel", "goesDay", "()V"⟩, 27) := ⟨⟨by decide +kernel, by decide +kernel⟩, List.mem_of_getElem? (i := 728) (by decide +kernel), List.mem_of_getElem? (i := 893) (by decide +kernel), List.mem_of_getElem? (i := 894) (by decide +kernel)⟩
theorem lw_p30 : lw_okq (⟨"GingerArmyModel", "rises", "(I)I"⟩, 27) := ⟨⟨by decide +kernel, by decide +kernel⟩, List.mem_of_getElem? (i := 728) (by decide +kernel), List.mem_of_getElem? (i := 897) (by decide +kernel), List.mem_of_getElem? (i := 898) (by decide +kernel)⟩
theorem lw_p31 : lw_okq (⟨"GingerArmyModel", "burstsAll", "()V"⟩, 27) := ⟨⟨by decide +kernel, by decide +kernel⟩, List.mem_of_getElem? (i := 728) (by decide +kernel), List.mem_of_getElem? (i := 904) (by decide +kernel), List.mem_of_getElem? (i := 905) (by decide +kernel)⟩
def lw_privs_2 : List (MethodName × Nat) := [(⟨"GingerArmyModel", "letterNow", "()I"⟩, 27), (⟨"GingerArmyModel", "readsAll", "(II)Z"⟩, 27), (⟨"GingerArmyModel", "readsDigits", "(II)Z"⟩, 27), (⟨"GingerArmyModel", "passesAll", "(IZ)V"⟩, 27), (⟨"GingerArmyModel", "passes", "([I)V"⟩, 27), (⟨"GingerArmyModel", "passOne", "(I)I"⟩, 27), (⟨"GingerArmyModel", "comesTold", "(I)Z"⟩, 27), (⟨"GingerArmyModel", "comesBottle", "(I)Z"⟩, 27), (⟨"GingerArmyModel", "wholeAt", "(I)I"⟩, 27), (⟨"GingerArmyModel", "isWhole", "(I)Z"⟩, 27), (⟨"GingerArmyModel", "adds", "(III)V"⟩, 27), (⟨"GingerArmyModel", "comesDays", "(I)Z"⟩, 27), (⟨"GingerArmyModel", "goesAll", "(I)V"⟩, 27), (⟨"GingerArmyModel", "goesDay", "()V"⟩, 27), (⟨"GingerArmyModel", "rises", "(I)I"⟩, 27), (⟨"GingerArmyModel", "burstsAll", "()V"⟩, 27)]
theorem lw_r2 : ∀ q ∈ lw_privs_2, lw_okq q := List.forall_mem_cons.mpr ⟨lw_p16, List.forall_mem_cons.mpr ⟨lw_p17, List.forall_mem_cons.mpr ⟨lw_p18, List.forall_mem_cons.mpr ⟨lw_p19, List.forall_mem_cons.mpr ⟨lw_p20, List.forall_mem_cons.mpr ⟨lw_p21, List.forall_mem_cons.mpr ⟨lw_p22, List.forall_mem_cons.mpr ⟨lw_p23, List.forall_mem_cons.mpr ⟨lw_p24, List.forall_mem_cons.mpr ⟨lw_p25, List.forall_mem_cons.mpr ⟨lw_p26, List.forall_mem_cons.mpr ⟨lw_p27, List.forall_mem_cons.mpr ⟨lw_p28, List.forall_mem_cons.mpr ⟨lw_p29, List.forall_mem_cons.mpr ⟨lw_p30, List.forall_mem_cons.mpr ⟨lw_p31, fun _ h => absurd h List.not_mem_nil⟩⟩⟩⟩⟩⟩⟩⟩⟩⟩⟩⟩⟩⟩⟩⟩
theorem lw_p32 : lw_okq (⟨"GingerArmyModel", "nextToGo", "()I"⟩, 27) := ⟨⟨by decide +kernel, by decide +kernel⟩, List.mem_of_getElem? (i := 728) (by decide +kernel), List.mem_of_getElem? (i := 908) (by decide +kernel), List.mem_of_getElem? (i := 909) (by decide +kernel)⟩
theorem lw_p33 : lw_okq (⟨"GingerArmyModel", "bears", "(I)I"⟩, 27) := ⟨⟨by decide +kernel, by decide +kernel⟩, List.mem_of_getElem? (i := 728) (by decide +kernel), List.mem_of_getElem? (i := 912) (by decide +kernel), List.mem_of_getElem? (i := 913) (by decide +kernel)⟩
theorem lw_p34 : lw_okq (⟨"GingerArmyModel", "bursts", "(I)V"⟩, 27) := ⟨⟨by decide +kernel, by decide +kernel⟩, List.mem_of_getElem? (i := 728) (by decide +kernel), List.mem_of_getElem? (i := 916) (by decide +kernel), List.mem_of_getElem? (i := 917) (by decide +kernel)⟩
theorem lw_p35 : lw_okq (⟨"GingerArmyModel", "areNear", "(II)Z"⟩, 27) := ⟨⟨by decide +kernel, by decide +kernel⟩, List.mem_of_getElem? (i := 728) (by decide +kernel), List.mem_of_getElem? (i := 920) (by decide +kernel), List.mem_of_getElem? (i := 921) (by decide +kernel)⟩
theorem lw_p36 : lw_okq (⟨"GingerArmyModel", "shocks", "(I)I"⟩, 27) := ⟨⟨by decide +kernel, by decide +kernel⟩, List.mem_of_getElem? (i := 728) (by decide +kernel), List.mem_of_getElem? (i := 927) (by decide +kernel), List.mem_of_getElem? (i := 928) (by decide +kernel)⟩
theorem lw_p37 : lw_okq (⟨"GingerArmyModel", "comesOf", "(III)Z"⟩, 27) := ⟨⟨by decide +kernel, by decide +kernel⟩, List.mem_of_getElem? (i := 728) (by decide +kernel), List.mem_of_getElem? (i := 931) (by decide +kernel), List.mem_of_getElem? (i := 932) (by decide +kernel)⟩
theorem lw_p38 : lw_okq (⟨"GingerArmyModel", "isBottle", "(I)Z"⟩, 27) := ⟨⟨by decide +kernel, by decide +kernel⟩, List.mem_of_getElem? (i := 728) (by decide +kernel), List.mem_of_getElem? (i := 935) (by decide +kernel), List.mem_of_getElem? (i := 936) (by decide +kernel)⟩
theorem lw_p39 : lw_okq (⟨"GingerArmyModel", "keepsBack", "()V"⟩, 27) := ⟨⟨by decide +kernel, by decide +kernel⟩, List.mem_of_getElem? (i := 728) (by decide +kernel), List.mem_of_getElem? (i := 967) (by decide +kernel), List.mem_of_getElem? (i := 968) (by decide +kernel)⟩
theorem lw_p40 : lw_okq (⟨"GingerArmyModel", "notWhole", "(I)I"⟩, 27) := ⟨⟨by decide +kernel, by decide +kernel⟩, List.mem_of_getElem? (i := 728) (by decide +kernel), List.mem_of_getElem? (i := 975) (by decide +kernel), List.mem_of_getElem? (i := 976) (by decide +kernel)⟩
theorem lw_p41 : lw_okq (⟨"GingerArmyModel", "whole", "()I"⟩, 27) := ⟨⟨by decide +kernel, by decide +kernel⟩, List.mem_of_getElem? (i := 728) (by decide +kernel), List.mem_of_getElem? (i := 987) (by decide +kernel), List.mem_of_getElem? (i := 988) (by decide +kernel)⟩
theorem lw_p42 : lw_okq (⟨"GingerArmyModel", "pressBehind", "(II)I"⟩, 27) := ⟨⟨by decide +kernel, by decide +kernel⟩, List.mem_of_getElem? (i := 728) (by decide +kernel), List.mem_of_getElem? (i := 1001) (by decide +kernel), List.mem_of_getElem? (i := 1002) (by decide +kernel)⟩
theorem lw_p43 : lw_okq (⟨"GingerArmyModel", "thinks", "()V"⟩, 27) := ⟨⟨by decide +kernel, by decide +kernel⟩, List.mem_of_getElem? (i := 728) (by decide +kernel), List.mem_of_getElem? (i := 1005) (by decide +kernel), List.mem_of_getElem? (i := 1006) (by decide +kernel)⟩
theorem lw_p44 : lw_okq (⟨"GingerArmyModel", "forgets", "()V"⟩, 27) := ⟨⟨by decide +kernel, by decide +kernel⟩, List.mem_of_getElem? (i := 728) (by decide +kernel), List.mem_of_getElem? (i := 1009) (by decide +kernel), List.mem_of_getElem? (i := 1010) (by decide +kernel)⟩
theorem lw_p45 : lw_okq (⟨"GingerArmyModel", "allPress", "()I"⟩, 27) := ⟨⟨by decide +kernel, by decide +kernel⟩, List.mem_of_getElem? (i := 728) (by decide +kernel), List.mem_of_getElem? (i := 1017) (by decide +kernel), List.mem_of_getElem? (i := 1018) (by decide +kernel)⟩
theorem lw_p46 : lw_okq (⟨"GingerArmyModel", "firstToGo", "()I"⟩, 27) := ⟨⟨by decide +kernel, by decide +kernel⟩, List.mem_of_getElem? (i := 728) (by decide +kernel), List.mem_of_getElem? (i := 1025) (by decide +kernel), List.mem_of_getElem? (i := 1026) (by decide +kernel)⟩
theorem lw_p47 : lw_okq (⟨"GingerArmyModel", "goesWhen", "(I)I"⟩, 27) := ⟨⟨by decide +kernel, by decide +kernel⟩, List.mem_of_getElem? (i := 728) (by decide +kernel), List.mem_of_getElem? (i := 1029) (by decide +kernel), List.mem_of_getElem? (i := 1030) (by decide +kernel)⟩
def lw_privs_3 : List (MethodName × Nat) := [(⟨"GingerArmyModel", "nextToGo", "()I"⟩, 27), (⟨"GingerArmyModel", "bears", "(I)I"⟩, 27), (⟨"GingerArmyModel", "bursts", "(I)V"⟩, 27), (⟨"GingerArmyModel", "areNear", "(II)Z"⟩, 27), (⟨"GingerArmyModel", "shocks", "(I)I"⟩, 27), (⟨"GingerArmyModel", "comesOf", "(III)Z"⟩, 27), (⟨"GingerArmyModel", "isBottle", "(I)Z"⟩, 27), (⟨"GingerArmyModel", "keepsBack", "()V"⟩, 27), (⟨"GingerArmyModel", "notWhole", "(I)I"⟩, 27), (⟨"GingerArmyModel", "whole", "()I"⟩, 27), (⟨"GingerArmyModel", "pressBehind", "(II)I"⟩, 27), (⟨"GingerArmyModel", "thinks", "()V"⟩, 27), (⟨"GingerArmyModel", "forgets", "()V"⟩, 27), (⟨"GingerArmyModel", "allPress", "()I"⟩, 27), (⟨"GingerArmyModel", "firstToGo", "()I"⟩, 27), (⟨"GingerArmyModel", "goesWhen", "(I)I"⟩, 27)]
theorem lw_r3 : ∀ q ∈ lw_privs_3, lw_okq q := List.forall_mem_cons.mpr ⟨lw_p32, List.forall_mem_cons.mpr ⟨lw_p33, List.forall_mem_cons.mpr ⟨lw_p34, List.forall_mem_cons.mpr ⟨lw_p35, List.forall_mem_cons.mpr ⟨lw_p36, List.forall_mem_cons.mpr ⟨lw_p37, List.forall_mem_cons.mpr ⟨lw_p38, List.forall_mem_cons.mpr ⟨lw_p39, List.forall_mem_cons.mpr ⟨lw_p40, List.forall_mem_cons.mpr ⟨lw_p41, List.forall_mem_cons.mpr ⟨lw_p42, List.forall_mem_cons.mpr ⟨lw_p43, List.forall_mem_cons.mpr ⟨lw_p44, List.forall_mem_cons.mpr ⟨lw_p45, List.forall_mem_cons.mpr ⟨lw_p46, List.forall_mem_cons.mpr ⟨lw_p47, fun _ h => absurd h List.not_mem_nil⟩⟩⟩⟩⟩⟩⟩⟩⟩⟩⟩⟩⟩⟩⟩⟩
theorem lw_p48 : lw_okq (⟨"GingerArmyModel", "takenBy", "(I)I"⟩, 27) := ⟨⟨by decide +kernel, by decide +kernel⟩, List.mem_of_getElem? (i := 728) (by decide +kernel), List.mem_of_getElem? (i := 1041) (by decide +kernel), List.mem_of_getElem? (i := 1042) (by decide +kernel)⟩
theorem lw_p49 : lw_okq (⟨"GingerArmyModel", "leftIn", "(I)I"⟩, 27) := ⟨⟨by decide +kernel, by decide +kernel⟩, List.mem_of_getElem? (i := 728) (by decide +kernel), List.mem_of_getElem? (i := 1053) (by decide +kernel), List.mem_of_getElem? (i := 1054) (by decide +kernel)⟩
theorem lw_p50 : lw_okq (⟨"GingerArmyModel", "leftFed", "(II)I"⟩, 27) := ⟨⟨by decide +kernel, by decide +kernel⟩, List.mem_of_getElem? (i := 728) (by decide +kernel), List.mem_of_getElem? (i := 1065) (by decide +kernel), List.mem_of_getElem? (i := 1066) (by decide +kernel)⟩
theorem lw_p51 : lw_okq (⟨"GingerArmyModel", "isReady", "(II)Z"⟩, 27) := ⟨⟨by decide +kernel, by decide +kernel⟩, List.mem_of_getElem? (i := 728) (by decide +kernel), List.mem_of_getElem? (i := 1077) (by decide +kernel), List.mem_of_getElem? (i := 1078) (by decide +kernel)⟩
theorem lw_p52 : lw_okq (⟨"GingerArmyModel", "isReadyFed", "(III)Z"⟩, 27) := ⟨⟨by decide +kernel, by decide +kernel⟩, List.mem_of_getElem? (i := 728) (by decide +kernel), List.mem_of_getElem? (i := 1085) (by decide +kernel), List.mem_of_getElem? (i := 1086) (by decide +kernel)⟩
theorem lw_p53 : lw_okq (⟨"GingerArmyModel", "movesTwo", "(II)V"⟩, 27) := ⟨⟨by decide +kernel, by decide +kernel⟩, List.mem_of_getElem? (i := 728) (by decide +kernel), List.mem_of_getElem? (i := 1093) (by decide +kernel), List.mem_of_getElem? (i := 1094) (by decide +kernel)⟩
theorem lw_p54 : lw_okq (⟨"GingerArmyModel", "isLeftSo", "(I)Z"⟩, 27) := ⟨⟨by decide +kernel, by decide +kernel⟩, List.mem_of_getElem? (i := 728) (by decide +kernel), List.mem_of_getElem? (i := 1105) (by decide +kernel), List.mem_of_getElem? (i := 1106) (by decide +kernel)⟩
theorem lw_p55 : lw_okq (⟨"GingerArmyModel", "bitsFor", "([III)I"⟩, 27) := ⟨⟨by decide +kernel, by decide +kernel⟩, List.mem_of_getElem? (i := 728) (by decide +kernel), List.mem_of_getElem? (i := 1113) (by decide +kernel), List.mem_of_getElem? (i := 1114) (by decide +kernel)⟩
theorem lw_p56 : lw_okq (⟨"GingerArmyModel", "isPressedSo", "(I)Z"⟩, 27) := ⟨⟨by decide +kernel, by decide +kernel⟩, List.mem_of_getElem? (i := 728) (by decide +kernel), List.mem_of_getElem? (i := 1117) (by decide +kernel), List.mem_of_getElem? (i := 1118) (by decide +kernel)⟩
theorem lw_p57 : lw_okq (⟨"GingerArmyModel", "findGets", "(III)V"⟩, 27) := ⟨⟨by decide +kernel, by decide +kernel⟩, List.mem_of_getElem? (i := 728) (by decide +kernel), List.mem_of_getElem? (i := 1125) (by decide +kernel), List.mem_of_getElem? (i := 1126) (by decide +kernel)⟩
theorem lw_p58 : lw_okq (⟨"GingerArmyModel", "getsOf", "(I)I"⟩, 27) := ⟨⟨by decide +kernel, by decide +kernel⟩, List.mem_of_getElem? (i := 728) (by decide +kernel), List.mem_of_getElem? (i := 1129) (by decide +kernel), List.mem_of_getElem? (i := 1130) (by decide +kernel)⟩
theorem lw_p59 : lw_okq (⟨"GingerArmyModel", "lowestOf", "(I)J"⟩, 27) := ⟨⟨by decide +kernel, by decide +kernel⟩, List.mem_of_getElem? (i := 728) (by decide +kernel), List.mem_of_getElem? (i := 1137) (by decide +kernel), List.mem_of_getElem? (i := 1138) (by decide +kernel)⟩
theorem lw_p60 : lw_okq (⟨"GingerArmyModel", "tightestOne", "()I"⟩, 27) := ⟨⟨by decide +kernel, by decide +kernel⟩, List.mem_of_getElem? (i := 728) (by decide +kernel), List.mem_of_getElem? (i := 1159) (by decide +kernel), List.mem_of_getElem? (i := 1160) (by decide +kernel)⟩
theorem lw_p61 : lw_okq (⟨"GingerArmyModel", "longestGap", "()I"⟩, 27) := ⟨⟨by decide +kernel, by decide +kernel⟩, List.mem_of_getElem? (i := 728) (by decide +kernel), List.mem_of_getElem? (i := 1163) (by decide +kernel), List.mem_of_getElem? (i := 1164) (by decide +kernel)⟩
theorem lw_p62 : lw_okq (⟨"GingerArmyModel", "nearTwos", "()I"⟩, 27) := ⟨⟨by decide +kernel, by decide +kernel⟩, List.mem_of_getElem? (i := 728) (by decide +kernel), List.mem_of_getElem? (i := 1183) (by decide +kernel), List.mem_of_getElem? (i := 1184) (by decide +kernel)⟩
theorem lw_p63 : lw_okq (⟨"GingerArmyModel", "calmest", "()I"⟩, 27) := ⟨⟨by decide +kernel, by decide +kernel⟩, List.mem_of_getElem? (i := 728) (by decide +kernel), List.mem_of_getElem? (i := 1187) (by decide +kernel), List.mem_of_getElem? (i := 1188) (by decide +kernel)⟩
def lw_privs_4 : List (MethodName × Nat) := [(⟨"GingerArmyModel", "takenBy", "(I)I"⟩, 27), (⟨"GingerArmyModel", "leftIn", "(I)I"⟩, 27), (⟨"GingerArmyModel", "leftFed", "(II)I"⟩, 27), (⟨"GingerArmyModel", "isReady", "(II)Z"⟩, 27), (⟨"GingerArmyModel", "isReadyFed", "(III)Z"⟩, 27), (⟨"GingerArmyModel", "movesTwo", "(II)V"⟩, 27), (⟨"GingerArmyModel", "isLeftSo", "(I)Z"⟩, 27), (⟨"GingerArmyModel", "bitsFor", "([III)I"⟩, 27), (⟨"GingerArmyModel", "isPressedSo", "(I)Z"⟩, 27), (⟨"GingerArmyModel", "findGets", "(III)V"⟩, 27), (⟨"GingerArmyModel", "getsOf", "(I)I"⟩, 27), (⟨"GingerArmyModel", "lowestOf", "(I)J"⟩, 27), (⟨"GingerArmyModel", "tightestOne", "()I"⟩, 27), (⟨"GingerArmyModel", "longestGap", "()I"⟩, 27), (⟨"GingerArmyModel", "nearTwos", "()I"⟩, 27), (⟨"GingerArmyModel", "calmest", "()I"⟩, 27)]
theorem lw_r4 : ∀ q ∈ lw_privs_4, lw_okq q := List.forall_mem_cons.mpr ⟨lw_p48, List.forall_mem_cons.mpr ⟨lw_p49, List.forall_mem_cons.mpr ⟨lw_p50, List.forall_mem_cons.mpr ⟨lw_p51, List.forall_mem_cons.mpr ⟨lw_p52, List.forall_mem_cons.mpr ⟨lw_p53, List.forall_mem_cons.mpr ⟨lw_p54, List.forall_mem_cons.mpr ⟨lw_p55, List.forall_mem_cons.mpr ⟨lw_p56, List.forall_mem_cons.mpr ⟨lw_p57, List.forall_mem_cons.mpr ⟨lw_p58, List.forall_mem_cons.mpr ⟨lw_p59, List.forall_mem_cons.mpr ⟨lw_p60, List.forall_mem_cons.mpr ⟨lw_p61, List.forall_mem_cons.mpr ⟨lw_p62, List.forall_mem_cons.mpr ⟨lw_p63, fun _ h => absurd h List.not_mem_nil⟩⟩⟩⟩⟩⟩⟩⟩⟩⟩⟩⟩⟩⟩⟩⟩
theorem lw_p64 : lw_okq (⟨"GingerArmyModel", "endWhen", "()I"⟩, 27) := ⟨⟨by decide +kernel, by decide +kernel⟩, List.mem_of_getElem? (i := 728) (by decide +kernel), List.mem_of_getElem? (i := 1191) (by decide +kernel), List.mem_of_getElem? (i := 1192) (by decide +kernel)⟩
theorem lw_p65 : lw_okq (⟨"GingerArmyModel", "lower", "(I)I"⟩, 27) := ⟨⟨by decide +kernel, by decide +kernel⟩, List.mem_of_getElem? (i := 728) (by decide +kernel), List.mem_of_getElem? (i := 1199) (by decide +kernel), List.mem_of_getElem? (i := 1200) (by decide +kernel)⟩
theorem lw_p66 : lw_okq (⟨"GingerArmyModel", "draw", "(I)I"⟩, 27) := ⟨⟨by decide +kernel, by decide +kernel⟩, List.mem_of_getElem? (i := 728) (by decide +kernel), List.mem_of_getElem? (i := 1224) (by decide +kernel), List.mem_of_getElem? (i := 1225) (by decide +kernel)⟩
def lw_privs_5 : List (MethodName × Nat) := [(⟨"GingerArmyModel", "endWhen", "()I"⟩, 27), (⟨"GingerArmyModel", "lower", "(I)I"⟩, 27), (⟨"GingerArmyModel", "draw", "(I)I"⟩, 27)]
theorem lw_r5 : ∀ q ∈ lw_privs_5, lw_okq q := List.forall_mem_cons.mpr ⟨lw_p64, List.forall_mem_cons.mpr ⟨lw_p65, List.forall_mem_cons.mpr ⟨lw_p66, fun _ h => absurd h List.not_mem_nil⟩⟩⟩
def lw_privs : List (MethodName × Nat) := lw_privs_1 ++ (lw_privs_2 ++ (lw_privs_3 ++ (lw_privs_4 ++ (lw_privs_5))))
def lw_tbl : List Cond := k2_sels lw_privs ++ tables_1
theorem lw_privs_ok : ∀ q ∈ lw_privs, lw_okq q := by
  show ∀ q ∈ lw_privs_1 ++ (lw_privs_2 ++ (lw_privs_3 ++ (lw_privs_4 ++ (lw_privs_5)))), lw_okq q
  exact List.forall_mem_append.mpr ⟨lw_r1, List.forall_mem_append.mpr ⟨lw_r2, List.forall_mem_append.mpr ⟨lw_r3, List.forall_mem_append.mpr ⟨lw_r4, lw_r5⟩⟩⟩⟩
end
section
def RX0 : String := "GingerArmy$Kinds"
def TX0 : u_T := fun k => match k with
  | _ => ("", "", "", false)
def tyX0 : Nat → FieldType := fun k => match k with
  | _ => .int
theorem nmX0 : ∀ a, a < 0 → ∀ b, b < 0 → a ≠ b → (TX0 a).2.1 ≠ (TX0 b).2.1 := by decide +kernel
theorem tyX0_ok : ∀ k, k < 0 → parseFieldDescriptor (TX0 k).2.2.1 = some (tyX0 k) := by decide +kernel
def RX1 : String := "GingerArmy$Mind"
def TX1 : u_T := fun k => match k with
  | 0 => ("GingerArmy$Mind", "shelf", "LGingerArmy$Shelf;", true)
  | 1 => ("GingerArmy$Mind", "oneWants", "[I", true)
  | _ => ("GingerArmy$Mind", "otherWants", "[I", true)
def tyX1 : Nat → FieldType := fun k => match k with
  | 0 => .object "GingerArmy$Shelf"
  | 1 => .array .int
  | _ => .array .int
theorem nmX1 : ∀ a, a < 3 → ∀ b, b < 3 → a ≠ b → (TX1 a).2.1 ≠ (TX1 b).2.1 := by decide +kernel
theorem tyX1_ok : ∀ k, k < 3 → parseFieldDescriptor (TX1 k).2.2.1 = some (tyX1 k) := by decide +kernel
def RX2 : String := "GingerArmy$Past"
def TX2 : u_T := fun k => match k with
  | 0 => ("GingerArmy$Past", "shelves", "[LGingerArmy$Shelf;", true)
  | 1 => ("GingerArmy$Past", "next", "I", false)
  | _ => ("GingerArmy$Past", "kept", "I", false)
def tyX2 : Nat → FieldType := fun k => match k with
  | 0 => .array (.object "GingerArmy$Shelf")
  | 1 => .int
  | _ => .int
theorem nmX2 : ∀ a, a < 3 → ∀ b, b < 3 → a ≠ b → (TX2 a).2.1 ≠ (TX2 b).2.1 := by decide +kernel
theorem tyX2_ok : ∀ k, k < 3 → parseFieldDescriptor (TX2 k).2.2.1 = some (tyX2 k) := by decide +kernel
def RX3 : String := "GingerArmy$Shelf"
def TX3 : u_T := fun k => match k with
  | 0 => ("GingerArmy$Shelf", "kind", "[I", true)
  | 1 => ("GingerArmy$Shelf", "figure", "[I", true)
  | 2 => ("GingerArmy$Shelf", "place", "[I", true)
  | 3 => ("GingerArmy$Shelf", "press", "[I", true)
  | 4 => ("GingerArmy$Shelf", "rise", "[I", true)
  | 5 => ("GingerArmy$Shelf", "bear", "[I", true)
  | 6 => ("GingerArmy$Shelf", "shock", "[I", true)
  | 7 => ("GingerArmy$Shelf", "bottles", "I", false)
  | 8 => ("GingerArmy$Shelf", "whole", "I", false)
  | 9 => ("GingerArmy$Shelf", "covered", "I", false)
  | 10 => ("GingerArmy$Shelf", "sugar", "I", false)
  | 11 => ("GingerArmy$Shelf", "heat", "I", false)
  | _ => ("GingerArmy$Shelf", "day", "I", false)
def tyX3 : Nat → FieldType := fun k => match k with
  | 0 => .array .int
  | 1 => .array .int
  | 2 => .array .int
  | 3 => .array .int
  | 4 => .array .int
  | 5 => .array .int
  | 6 => .array .int
  | 7 => .int
  | 8 => .int
  | 9 => .int
  | 10 => .int
  | 11 => .int
  | _ => .int
theorem nmX3 : ∀ a, a < 13 → ∀ b, b < 13 → a ≠ b → (TX3 a).2.1 ≠ (TX3 b).2.1 := by decide +kernel
theorem tyX3_ok : ∀ k, k < 13 → parseFieldDescriptor (TX3 k).2.2.1 = some (tyX3 k) := by decide +kernel
def RX4 : String := "GingerArmy$Tale"
def TX4 : u_T := fun k => match k with
  | 0 => ("GingerArmy$Tale", "letters", "[I", true)
  | _ => ("GingerArmy$Tale", "length", "I", false)
def tyX4 : Nat → FieldType := fun k => match k with
  | 0 => .array .int
  | _ => .int
theorem nmX4 : ∀ a, a < 2 → ∀ b, b < 2 → a ≠ b → (TX4 a).2.1 ≠ (TX4 b).2.1 := by decide +kernel
theorem tyX4_ok : ∀ k, k < 2 → parseFieldDescriptor (TX4 k).2.2.1 = some (tyX4 k) := by decide +kernel
def RX5 : String := "GingerArmy"
def TX5 : u_T := fun k => match k with
  | 0 => ("GingerArmy", "now", "LGingerArmy$Shelf;", true)
  | 1 => ("GingerArmy", "trial", "LGingerArmy$Shelf;", true)
  | 2 => ("GingerArmy", "picture", "LGingerArmy$Shelf;", true)
  | 3 => ("GingerArmy", "past", "LGingerArmy$Past;", true)
  | 4 => ("GingerArmy", "mind", "LGingerArmy$Mind;", true)
  | 5 => ("GingerArmy", "tale", "LGingerArmy$Tale;", true)
  | 6 => ("GingerArmy", "told", "[I", true)
  | 7 => ("GingerArmy", "refusals", "[I", true)
  | 8 => ("GingerArmy", "toldCount", "I", false)
  | _ => ("GingerArmy", "pictured", "Z", false)
def tyX5 : Nat → FieldType := fun k => match k with
  | 0 => .object "GingerArmy$Shelf"
  | 1 => .object "GingerArmy$Shelf"
  | 2 => .object "GingerArmy$Shelf"
  | 3 => .object "GingerArmy$Past"
  | 4 => .object "GingerArmy$Mind"
  | 5 => .object "GingerArmy$Tale"
  | 6 => .array .int
  | 7 => .array .int
  | 8 => .int
  | _ => .boolean
theorem nmX5 : ∀ a, a < 10 → ∀ b, b < 10 → a ≠ b → (TX5 a).2.1 ≠ (TX5 b).2.1 := by decide +kernel
theorem tyX5_ok : ∀ k, k < 10 → parseFieldDescriptor (TX5 k).2.2.1 = some (tyX5 k) := by decide +kernel
def RX6 : String := "GingerArmyModel"
def TX6 : u_T := fun k => match k with
  | 0 => ("GingerArmyModel", "refused", "[I", true)
  | 1 => ("GingerArmyModel", "kind", "[I", true)
  | 2 => ("GingerArmyModel", "figure", "[I", true)
  | 3 => ("GingerArmyModel", "place", "[I", true)
  | 4 => ("GingerArmyModel", "press", "[I", true)
  | 5 => ("GingerArmyModel", "burst", "[I", true)
  | 6 => ("GingerArmyModel", "towelled", "[I", true)
  | 7 => ("GingerArmyModel", "bottles", "I", false)
  | 8 => ("GingerArmyModel", "sugar", "I", false)
  | 9 => ("GingerArmyModel", "heat", "I", false)
  | 10 => ("GingerArmyModel", "day", "I", false)
  | 11 => ("GingerArmyModel", "tape", "[I", true)
  | 12 => ("GingerArmyModel", "letter", "[I", true)
  | 13 => ("GingerArmyModel", "letterAt", "[I", true)
  | 14 => ("GingerArmyModel", "told", "[I", true)
  | 15 => ("GingerArmyModel", "taped", "I", false)
  | 16 => ("GingerArmyModel", "reading", "I", false)
  | 17 => ("GingerArmyModel", "statements", "I", false)
  | 18 => ("GingerArmyModel", "kept", "[I", true)
  | 19 => ("GingerArmyModel", "hasImage", "Z", false)
  | 20 => ("GingerArmyModel", "isKeeping", "Z", false)
  | 21 => ("GingerArmyModel", "cursor", "I", false)
  | 22 => ("GingerArmyModel", "backs", "I", false)
  | 23 => ("GingerArmyModel", "row", "[I", true)
  | 24 => ("GingerArmyModel", "rowMany", "I", false)
  | 25 => ("GingerArmyModel", "gets", "[I", true)
  | _ => ("GingerArmyModel", "lots", "I", false)
def tyX6 : Nat → FieldType := fun k => match k with
  | 0 => .array .int
  | 1 => .array .int
  | 2 => .array .int
  | 3 => .array .int
  | 4 => .array .int
  | 5 => .array .int
  | 6 => .array .int
  | 7 => .int
  | 8 => .int
  | 9 => .int
  | 10 => .int
  | 11 => .array .int
  | 12 => .array .int
  | 13 => .array .int
  | 14 => .array .int
  | 15 => .int
  | 16 => .int
  | 17 => .int
  | 18 => .array .int
  | 19 => .boolean
  | 20 => .boolean
  | 21 => .int
  | 22 => .int
  | 23 => .array .int
  | 24 => .int
  | 25 => .array .int
  | _ => .int
theorem nmX6 : ∀ a, a < 27 → ∀ b, b < 27 → a ≠ b → (TX6 a).2.1 ≠ (TX6 b).2.1 := by decide +kernel
theorem tyX6_ok : ∀ k, k < 27 → parseFieldDescriptor (TX6 k).2.2.1 = some (tyX6 k) := by decide +kernel
abbrev gCl : List vw_C := [(RX1, TX1, 3), (RX2, TX2, 3), (RX3, TX3, 13), (RX4, TX4, 2), (RX5, TX5, 10), (RX6, TX6, 27)]
/-- the classes of the methods by number -/
def ownName : Nat → String
  | 0 => "GingerArmy$Kinds"
  | 1 => "GingerArmy$Mind"
  | 2 => "GingerArmy$Past"
  | 3 => "GingerArmy$Shelf"
  | 4 => "GingerArmy$Tale"
  | 5 => "GingerArmy"
  | 6 => "GingerArmyModel"
  | 7 => "java/lang/Integer"
  | 8 => "java/lang/Math"
  | 9 => "GingerArmyLaw"
  | 10 => "java/lang/System"
  | _ => ""
/-- own class, pool index: kind of object, field, 1 a nest mate's -/
def fldL : List (Nat × Nat × Nat × Nat × Nat) := [(1, 12, 0, 0, 0), (1, 18, 0, 1, 0), (1, 22, 0, 2, 0), (1, 33, 2, 8, 1), (1, 92, 2, 11, 1), (1, 136, 2, 10, 1), (2, 11, 1, 0, 0), (2, 16, 1, 1, 0), (2, 24, 1, 2, 0), (3, 9, 2, 0, 0), (3, 15, 2, 1, 0), (3, 18, 2, 2, 0), (3, 21, 2, 3, 0), (3, 24, 2, 4, 0), (3, 27, 2, 5, 0), (3, 30, 2, 6, 0), (3, 33, 2, 10, 0), (3, 43, 2, 7, 0), (3, 46, 2, 8, 0), (3, 49, 2, 9, 0), (3, 52, 2, 11, 0), (3, 55, 2, 12, 0), (4, 9, 3, 0, 0), (4, 15, 3, 1, 0), (4, 68, 2, 7, 1), (4, 87, 2, 12, 1), (5, 10, 4, 0, 0), (5, 16, 4, 1, 0), (5, 19, 4, 2, 0), (5, 25, 4, 3, 0), (5, 32, 4, 4, 0), (5, 39, 4, 5, 0), (5, 43, 4, 6, 0), (5, 47, 4, 7, 0), (5, 54, 3, 1, 1), (5, 108, 2, 7, 1), (5, 120, 2, 10, 1), (5, 123, 2, 11, 1), (5, 136, 2, 12, 1), (5, 142, 2, 8, 1), (5, 150, 1, 2, 1), (5, 212, 4, 8, 0), (5, 279, 4, 9, 0), (6, 7, 5, 0, 0), (6, 13, 5, 1, 0), (6, 16, 5, 2, 0), (6, 19, 5, 3, 0), (6, 22, 5, 4, 0), (6, 25, 5, 5, 0), (6, 28, 5, 6, 0), (6, 31, 5, 11, 0), (6, 34, 5, 12, 0), (6, 37, 5, 13, 0), (6, 40, 5, 14, 0), (6, 43, 5, 18, 0), (6, 46, 5, 23, 0), (6, 49, 5, 25, 0), (6, 52, 5, 8, 0), (6, 59, 5, 7, 0), (6, 66, 5, 15, 0), (6, 73, 5, 16, 0), (6, 88, 5, 17, 0), (6, 111, 5, 10, 0), (6, 121, 5, 9, 0), (6, 141, 5, 22, 0), (6, 144, 5, 20, 0), (6, 148, 5, 21, 0), (6, 158, 5, 19, 0), (6, 244, 5, 24, 0), (6, 296, 5, 26, 0)]
def fldP : List Nat := [171, 172, 173, 103, 111, 108, 152, 153, 154, 92, 93, 94, 95, 96, 97, 98, 106, 99, 102, 105, 109, 112, 187, 188, 101, 114, 195, 196, 197, 198, 199, 200, 201, 202, 189, 100, 107, 110, 113, 104, 155, 203, 204, 800, 801, 802, 803, 804, 805, 806, 811, 812, 813, 814, 818, 823, 825, 808, 807, 815, 816, 817, 810, 809, 822, 820, 821, 819, 824, 826]
def cstL : List (Nat × Nat × Int32) := [(7, 265, 1431655765), (7, 266, 858993459), (7, 267, 252645135), (5, 269, 1000000000), (1, 142, 1103515245), (1, 143, 2147483647), (1, 144, 65536), (6, 56, 1000000000), (6, 299, 1103515245), (6, 300, 2147483647), (6, 301, 65536)]
def cstP : List Nat := [442, 443, 444, 737, 774, 775, 776, 1269, 1294, 1295, 1296]
def cs2L : List (Nat × Nat × Nat) := [(5, 286, 4000000000000000000), (6, 57, 4000000000000000000)]
def cs2P : List Nat := [665, 1207]
abbrev CE : Type := Nat × Instr × Nat × Int32 × Nat × Nat × Nat
abbrev MethT : Type := Nat × List CE × ByteArray × Nat × Option FieldType × MethodName
abbrev C0_rises : List CE := [(0, .iload_n 2, 1, 0, 0, 0, 0), (1, .iload_n 3, 1, 0, 0, 0, 0), (2, .iconst 2, 1, 2, 0, 0, 0), (3, .idiv, 1, 0, 0, 0, 0), (4, .iadd, 1, 0, 0, 0, 0), (5, .istore 4, 2, 0, 0, 0, 0), (7, .iconst 0, 1, 0, 0, 0, 0), (8, .iload 4, 2, 0, 0, 0, 0), (10, .iconst 1, 1, 1, 0, 0, 0), (11, .isub, 1, 0, 0, 0, 0), (12, .invokestatic 7, 3, 0, 0, 0, 0), (15, .istore 5, 2, 0, 0, 0, 0), (17, .iload 5, 2, 0, 0, 0, 0), (19, .iload_n 1, 1, 0, 0, 0, 0), (20, .iconst 3, 1, 3, 0, 0, 0), (21, .idiv, 1, 0, 0, 0, 0), (22, .iadd, 1, 0, 0, 0, 0), (23, .istore 6, 2, 0, 0, 0, 0), (25, .iload_n 0, 1, 0, 0, 0, 0), (26, .tableswitch 62 0 5 #[38, 41, 62, 44, 47, 57], 38, 0, 0, 0, 0), (64, .iload 4, 2, 0, 0, 0, 0), (66, .ireturn, 1, 0, 0, 0, 0), (67, .iload 5, 2, 0, 0, 0, 0), (69, .ireturn, 1, 0, 0, 0, 0), (70, .iload 6, 2, 0, 0, 0, 0), (72, .ireturn, 1, 0, 0, 0, 0), (73, .iload_n 2, 1, 0, 0, 0, 0), (74, .ifCond .le 7, 3, 0, 81, 0, 0), (77, .iconst 1, 1, 1, 0, 0, 0), (78, .goto 4, 3, 0, 82, 0, 0), (81, .iconst 0, 1, 0, 0, 0, 0), (82, .ireturn, 1, 0, 0, 0, 0), (83, .iconst 2, 1, 2, 0, 0, 0), (84, .iload 6, 2, 0, 0, 0, 0), (86, .imul, 1, 0, 0, 0, 0), (87, .ireturn, 1, 0, 0, 0, 0), (88, .iconst 0, 1, 0, 0, 0, 0), (89, .ireturn, 1, 0, 0, 0, 0)]
abbrev Y0_rises : MethodName := ⟨"GingerArmy$Kinds", "rises", "(IIII)I"⟩
abbrev M0_rises : MethT := (0, C0_rises, prog_2_method_2_code, 7, (some .int), Y0_rises)
abbrev C0_bears : List CE := [(0, .bipush 10, 2, 10, 0, 0, 0), (2, .iload_n 1, 1, 0, 0, 0, 0), (3, .iadd, 1, 0, 0, 0, 0), (4, .istore_n 2, 1, 0, 0, 0, 0), (5, .iconst 2, 1, 2, 0, 0, 0), (6, .iload_n 2, 1, 0, 0, 0, 0), (7, .imul, 1, 0, 0, 0, 0), (8, .istore_n 3, 1, 0, 0, 0, 0), (9, .iload_n 3, 1, 0, 0, 0, 0), (10, .iconst 5, 1, 5, 0, 0, 0), (11, .isub, 1, 0, 0, 0, 0), (12, .istore 4, 2, 0, 0, 0, 0), (14, .iload_n 0, 1, 0, 0, 0, 0), (15, .tableswitch 49 0 5 #[37, 39, 49, 41, 49, 44], 37, 0, 0, 0, 0), (52, .iload_n 2, 1, 0, 0, 0, 0), (53, .ireturn, 1, 0, 0, 0, 0), (54, .iload_n 3, 1, 0, 0, 0, 0), (55, .ireturn, 1, 0, 0, 0, 0), (56, .iload 4, 2, 0, 0, 0, 0), (58, .ireturn, 1, 0, 0, 0, 0), (59, .iload 4, 2, 0, 0, 0, 0), (61, .iload_n 1, 1, 0, 0, 0, 0), (62, .iadd, 1, 0, 0, 0, 0), (63, .ireturn, 1, 0, 0, 0, 0), (64, .bipush 99, 2, 99, 0, 0, 0), (66, .ireturn, 1, 0, 0, 0, 0)]
abbrev Y0_bears : MethodName := ⟨"GingerArmy$Kinds", "bears", "(II)I"⟩
abbrev M0_bears : MethT := (0, C0_bears, prog_2_method_3_code, 5, (some .int), Y0_bears)
abbrev C0_shocks : List CE := [(0, .iload_n 0, 1, 0, 0, 0, 0), (1, .tableswitch 53 0 5 #[39, 42, 53, 45, 48, 50], 39, 0, 0, 0, 0), (40, .bipush 6, 2, 6, 0, 0, 0), (42, .ireturn, 1, 0, 0, 0, 0), (43, .bipush 10, 2, 10, 0, 0, 0), (45, .ireturn, 1, 0, 0, 0, 0), (46, .bipush 20, 2, 20, 0, 0, 0), (48, .ireturn, 1, 0, 0, 0, 0), (49, .iload_n 1, 1, 0, 0, 0, 0), (50, .ireturn, 1, 0, 0, 0, 0), (51, .bipush 20, 2, 20, 0, 0, 0), (53, .ireturn, 1, 0, 0, 0, 0), (54, .iconst 0, 1, 0, 0, 0, 0), (55, .ireturn, 1, 0, 0, 0, 0)]
abbrev Y0_shocks : MethodName := ⟨"GingerArmy$Kinds", "shocks", "(II)I"⟩
abbrev M0_shocks : MethT := (0, C0_shocks, prog_2_method_4_code, 2, (some .int), Y0_shocks)
abbrev C1_init : List CE := [(0, .aload_n 0, 1, 0, 0, 0, 0), (1, .invokespecial 3, 3, 0, 0, 0, 0), (4, .aload_n 0, 1, 0, 0, 0, 0), (5, .new 9, 3, 0, 0, 0, 0), (8, .dup, 1, 0, 0, 0, 0), (9, .invokespecial 11, 3, 0, 0, 0, 0), (12, .putfield 12, 3, 0, 0, 0, 0), (15, .aload_n 0, 1, 0, 0, 0, 0), (16, .iconst 4, 1, 4, 0, 0, 0), (17, .newarray .int, 2, 0, 0, 0, 0), (19, .putfield 18, 3, 0, 0, 1, 0), (22, .aload_n 0, 1, 0, 0, 0, 0), (23, .iconst 4, 1, 4, 0, 0, 0), (24, .newarray .int, 2, 0, 0, 0, 0), (26, .putfield 22, 3, 0, 0, 2, 0), (29, .return_, 1, 0, 0, 0, 0)]
abbrev Y1_init : MethodName := ⟨"GingerArmy$Mind", "<init>", "()V"⟩
abbrev M1_init : MethT := (1, C1_init, prog_3_method_1_code, 1, none, Y1_init)
abbrev C1_ahead : List CE := [(0, .aload_n 0, 1, 0, 0, 0, 0), (1, .getfield 12, 3, 0, 0, 0, 0), (4, .aload_n 1, 1, 0, 0, 0, 0), (5, .invokevirtual 25, 3, 0, 0, 0, 0), (8, .aload_n 0, 1, 0, 0, 0, 0), (9, .getfield 12, 3, 0, 0, 0, 0), (12, .iload_n 2, 1, 0, 0, 0, 0), (13, .invokevirtual 29, 3, 0, 0, 0, 0), (16, .aload_n 0, 1, 0, 0, 0, 0), (17, .getfield 12, 3, 0, 0, 0, 0), (20, .areturn, 1, 0, 0, 0, 0)]
abbrev Y1_ahead : MethodName := ⟨"GingerArmy$Mind", "ahead", "(LGingerArmy$Shelf;I)LGingerArmy$Shelf;"⟩
abbrev M1_ahead : MethT := (1, C1_ahead, prog_3_method_2_code, 3, (some (.object "GingerArmy$Shelf")), Y1_ahead)
abbrev C1_leftBehind : List CE := [(0, .aload_n 0, 1, 0, 0, 0, 0), (1, .getfield 12, 3, 0, 0, 0, 0), (4, .iload_n 1, 1, 0, 0, 0, 0), (5, .invokevirtual 29, 3, 0, 0, 0, 0), (8, .aload_n 0, 1, 0, 0, 0, 0), (9, .getfield 12, 3, 0, 0, 0, 0), (12, .getfield 33, 3, 0, 2, 8, 1), (15, .invokestatic 37, 3, 0, 0, 0, 0), (18, .ireturn, 1, 0, 0, 0, 0)]
abbrev Y1_leftBehind : MethodName := ⟨"GingerArmy$Mind", "leftBehind", "(I)I"⟩
abbrev M1_leftBehind : MethT := (1, C1_leftBehind, prog_3_method_3_code, 2, (some .int), Y1_leftBehind)
abbrev C1_daysTillGone : List CE := [(0, .aload_n 0, 1, 0, 0, 0, 0), (1, .getfield 12, 3, 0, 0, 0, 0), (4, .aload_n 1, 1, 0, 0, 0, 0), (5, .invokevirtual 25, 3, 0, 0, 0, 0), (8, .iconst 0, 1, 0, 0, 0, 0), (9, .istore_n 3, 1, 0, 0, 0, 0), (10, .iload_n 3, 1, 0, 0, 0, 0), (11, .bipush 60, 2, 60, 0, 0, 0), (13, .if_icmp .gt 29, 3, 0, 42, 0, 0), (16, .aload_n 0, 1, 0, 0, 0, 0), (17, .getfield 12, 3, 0, 0, 0, 0), (20, .iload_n 2, 1, 0, 0, 0, 0), (21, .invokevirtual 43, 3, 0, 0, 0, 0), (24, .ifCond .ne 5, 3, 0, 29, 0, 0), (27, .iload_n 3, 1, 0, 0, 0, 0), (28, .ireturn, 1, 0, 0, 0, 0), (29, .aload_n 0, 1, 0, 0, 0, 0), (30, .getfield 12, 3, 0, 0, 0, 0), (33, .invokevirtual 47, 3, 0, 0, 0, 0), (36, .iinc 3 1, 3, 1, 0, 0, 0), (39, .goto (-29), 3, 0, 10, 0, 0), (42, .bipush (-9), 2, -9, 0, 0, 0), (44, .ireturn, 1, 0, 0, 0, 0)]
abbrev Y1_daysTillGone : MethodName := ⟨"GingerArmy$Mind", "daysTillGone", "(LGingerArmy$Shelf;I)I"⟩
abbrev M1_daysTillGone : MethT := (1, C1_daysTillGone, prog_3_method_4_code, 4, (some .int), Y1_daysTillGone)
abbrev C1_firstToGo : List CE := [(0, .aload_n 0, 1, 0, 0, 0, 0), (1, .getfield 12, 3, 0, 0, 0, 0), (4, .aload_n 1, 1, 0, 0, 0, 0), (5, .invokevirtual 25, 3, 0, 0, 0, 0), (8, .iconst 0, 1, 0, 0, 0, 0), (9, .istore_n 2, 1, 0, 0, 0, 0), (10, .iload_n 2, 1, 0, 0, 0, 0), (11, .bipush 60, 2, 60, 0, 0, 0), (13, .if_icmp .ge 59, 3, 0, 72, 0, 0), (16, .aload_n 0, 1, 0, 0, 0, 0), (17, .getfield 12, 3, 0, 0, 0, 0), (20, .invokevirtual 47, 3, 0, 0, 0, 0), (23, .aload_n 1, 1, 0, 0, 0, 0), (24, .getfield 33, 3, 0, 2, 8, 1), (27, .aload_n 0, 1, 0, 0, 0, 0), (28, .getfield 12, 3, 0, 0, 0, 0), (31, .getfield 33, 3, 0, 2, 8, 1), (34, .iconst (-1), 1, -1, 0, 0, 0), (35, .ixor, 1, 0, 0, 0, 0), (36, .iand, 1, 0, 0, 0, 0), (37, .istore_n 3, 1, 0, 0, 0, 0), (38, .iconst 0, 1, 0, 0, 0, 0), (39, .istore 4, 2, 0, 0, 0, 0), (41, .iload 4, 2, 0, 0, 0, 0), (43, .bipush 8, 2, 8, 0, 0, 0), (45, .if_icmp .ge 21, 3, 0, 66, 0, 0), (48, .iload_n 3, 1, 0, 0, 0, 0), (49, .iload 4, 2, 0, 0, 0, 0), (51, .ishr, 1, 0, 0, 0, 0), (52, .iconst 1, 1, 1, 0, 0, 0), (53, .iand, 1, 0, 0, 0, 0), (54, .ifCond .eq 6, 3, 0, 60, 0, 0), (57, .iload 4, 2, 0, 0, 0, 0), (59, .ireturn, 1, 0, 0, 0, 0), (60, .iinc 4 1, 3, 1, 0, 0, 0), (63, .goto (-22), 3, 0, 41, 0, 0), (66, .iinc 2 1, 3, 1, 0, 0, 0), (69, .goto (-59), 3, 0, 10, 0, 0), (72, .bipush (-9), 2, -9, 0, 0, 0), (74, .ireturn, 1, 0, 0, 0, 0)]
abbrev Y1_firstToGo : MethodName := ⟨"GingerArmy$Mind", "firstToGo", "(LGingerArmy$Shelf;)I"⟩
abbrev M1_firstToGo : MethT := (1, C1_firstToGo, prog_3_method_5_code, 5, (some .int), Y1_firstToGo)
abbrev C1_longestQuiet : List CE := [(0, .aload_n 0, 1, 0, 0, 0, 0), (1, .getfield 12, 3, 0, 0, 0, 0), (4, .aload_n 1, 1, 0, 0, 0, 0), (5, .invokevirtual 25, 3, 0, 0, 0, 0), (8, .iconst 0, 1, 0, 0, 0, 0), (9, .istore_n 2, 1, 0, 0, 0, 0), (10, .iconst 0, 1, 0, 0, 0, 0), (11, .istore_n 3, 1, 0, 0, 0, 0), (12, .iconst 0, 1, 0, 0, 0, 0), (13, .istore 4, 2, 0, 0, 0, 0), (15, .iload 4, 2, 0, 0, 0, 0), (17, .bipush 60, 2, 60, 0, 0, 0), (19, .if_icmp .ge 51, 3, 0, 70, 0, 0), (22, .aload_n 0, 1, 0, 0, 0, 0), (23, .getfield 12, 3, 0, 0, 0, 0), (26, .getfield 33, 3, 0, 2, 8, 1), (29, .istore 5, 2, 0, 0, 0, 0), (31, .aload_n 0, 1, 0, 0, 0, 0), (32, .getfield 12, 3, 0, 0, 0, 0), (35, .invokevirtual 47, 3, 0, 0, 0, 0), (38, .aload_n 0, 1, 0, 0, 0, 0), (39, .getfield 12, 3, 0, 0, 0, 0), (42, .getfield 33, 3, 0, 2, 8, 1), (45, .iload 5, 2, 0, 0, 0, 0), (47, .if_icmp .ne 9, 3, 0, 56, 0, 0), (50, .iload_n 3, 1, 0, 0, 0, 0), (51, .iconst 1, 1, 1, 0, 0, 0), (52, .iadd, 1, 0, 0, 0, 0), (53, .goto 4, 3, 0, 57, 0, 0), (56, .iconst 0, 1, 0, 0, 0, 0), (57, .istore_n 3, 1, 0, 0, 0, 0), (58, .iload_n 2, 1, 0, 0, 0, 0), (59, .iload_n 3, 1, 0, 0, 0, 0), (60, .invokestatic 50, 3, 0, 0, 0, 0), (63, .istore_n 2, 1, 0, 0, 0, 0), (64, .iinc 4 1, 3, 1, 0, 0, 0), (67, .goto (-52), 3, 0, 15, 0, 0), (70, .iload_n 2, 1, 0, 0, 0, 0), (71, .ireturn, 1, 0, 0, 0, 0)]
abbrev Y1_longestQuiet : MethodName := ⟨"GingerArmy$Mind", "longestQuiet", "(LGingerArmy$Shelf;)I"⟩
abbrev M1_longestQuiet : MethT := (1, C1_longestQuiet, prog_3_method_6_code, 6, (some .int), Y1_longestQuiet)
abbrev C1_takenBy : List CE := [(0, .aload_n 0, 1, 0, 0, 0, 0), (1, .getfield 12, 3, 0, 0, 0, 0), (4, .aload_n 1, 1, 0, 0, 0, 0), (5, .invokevirtual 25, 3, 0, 0, 0, 0), (8, .aload_n 0, 1, 0, 0, 0, 0), (9, .getfield 12, 3, 0, 0, 0, 0), (12, .iload_n 2, 1, 0, 0, 0, 0), (13, .invokevirtual 56, 3, 0, 0, 0, 0), (16, .aload_n 0, 1, 0, 0, 0, 0), (17, .getfield 12, 3, 0, 0, 0, 0), (20, .getfield 33, 3, 0, 2, 8, 1), (23, .istore_n 3, 1, 0, 0, 0, 0), (24, .aload_n 0, 1, 0, 0, 0, 0), (25, .getfield 12, 3, 0, 0, 0, 0), (28, .invokevirtual 59, 3, 0, 0, 0, 0), (31, .iload_n 3, 1, 0, 0, 0, 0), (32, .aload_n 0, 1, 0, 0, 0, 0), (33, .getfield 12, 3, 0, 0, 0, 0), (36, .getfield 33, 3, 0, 2, 8, 1), (39, .iconst (-1), 1, -1, 0, 0, 0), (40, .ixor, 1, 0, 0, 0, 0), (41, .iand, 1, 0, 0, 0, 0), (42, .ireturn, 1, 0, 0, 0, 0)]
abbrev Y1_takenBy : MethodName := ⟨"GingerArmy$Mind", "takenBy", "(LGingerArmy$Shelf;I)I"⟩
abbrev M1_takenBy : MethT := (1, C1_takenBy, prog_3_method_7_code, 4, (some .int), Y1_takenBy)
abbrev C1_worstOne : List CE := [(0, .bipush (-9), 2, -9, 0, 0, 0), (2, .istore_n 2, 1, 0, 0, 0, 0), (3, .iconst (-1), 1, -1, 0, 0, 0), (4, .istore_n 3, 1, 0, 0, 0, 0), (5, .iconst 0, 1, 0, 0, 0, 0), (6, .istore 4, 2, 0, 0, 0, 0), (8, .iload 4, 2, 0, 0, 0, 0), (10, .bipush 8, 2, 8, 0, 0, 0), (12, .if_icmp .ge 45, 3, 0, 57, 0, 0), (15, .aload_n 1, 1, 0, 0, 0, 0), (16, .iload 4, 2, 0, 0, 0, 0), (18, .invokevirtual 43, 3, 0, 0, 0, 0), (21, .ifCond .ne 6, 3, 0, 27, 0, 0), (24, .goto 27, 3, 0, 51, 0, 0), (27, .aload_n 0, 1, 0, 0, 0, 0), (28, .aload_n 1, 1, 0, 0, 0, 0), (29, .iload 4, 2, 0, 0, 0, 0), (31, .invokevirtual 62, 3, 0, 0, 0, 0), (34, .invokestatic 37, 3, 0, 0, 0, 0), (37, .istore 5, 2, 0, 0, 0, 0), (39, .iload 5, 2, 0, 0, 0, 0), (41, .iload_n 3, 1, 0, 0, 0, 0), (42, .if_icmp .le 9, 3, 0, 51, 0, 0), (45, .iload 5, 2, 0, 0, 0, 0), (47, .istore_n 3, 1, 0, 0, 0, 0), (48, .iload 4, 2, 0, 0, 0, 0), (50, .istore_n 2, 1, 0, 0, 0, 0), (51, .iinc 4 1, 3, 1, 0, 0, 0), (54, .goto (-46), 3, 0, 8, 0, 0), (57, .iload_n 2, 1, 0, 0, 0, 0), (58, .ireturn, 1, 0, 0, 0, 0)]
abbrev Y1_worstOne : MethodName := ⟨"GingerArmy$Mind", "worstOne", "(LGingerArmy$Shelf;)I"⟩
abbrev M1_worstOne : MethT := (1, C1_worstOne, prog_3_method_8_code, 6, (some .int), Y1_worstOne)
abbrev C1_safestPlace : List CE := [(0, .bipush (-9), 2, -9, 0, 0, 0), (2, .istore 4, 2, 0, 0, 0, 0), (4, .iconst (-1), 1, -1, 0, 0, 0), (5, .istore 5, 2, 0, 0, 0, 0), (7, .iconst 0, 1, 0, 0, 0, 0), (8, .istore 6, 2, 0, 0, 0, 0), (10, .iload 6, 2, 0, 0, 0, 0), (12, .bipush 15, 2, 15, 0, 0, 0), (14, .if_icmp .ge 73, 3, 0, 87, 0, 0), (17, .aload_n 1, 1, 0, 0, 0, 0), (18, .iload 6, 2, 0, 0, 0, 0), (20, .invokevirtual 66, 3, 0, 0, 0, 0), (23, .istore 7, 2, 0, 0, 0, 0), (25, .iload 7, 2, 0, 0, 0, 0), (27, .bipush (-9), 2, -9, 0, 0, 0), (29, .if_icmp .eq 12, 3, 0, 41, 0, 0), (32, .iload 7, 2, 0, 0, 0, 0), (34, .iload_n 2, 1, 0, 0, 0, 0), (35, .if_icmp .eq 6, 3, 0, 41, 0, 0), (38, .goto 43, 3, 0, 81, 0, 0), (41, .aload_n 0, 1, 0, 0, 0, 0), (42, .getfield 12, 3, 0, 0, 0, 0), (45, .aload_n 1, 1, 0, 0, 0, 0), (46, .invokevirtual 25, 3, 0, 0, 0, 0), (49, .aload_n 0, 1, 0, 0, 0, 0), (50, .getfield 12, 3, 0, 0, 0, 0), (53, .iload_n 2, 1, 0, 0, 0, 0), (54, .iload 6, 2, 0, 0, 0, 0), (56, .invokevirtual 69, 3, 0, 0, 0, 0), (59, .aload_n 0, 1, 0, 0, 0, 0), (60, .iload_n 3, 1, 0, 0, 0, 0), (61, .invokevirtual 73, 3, 0, 0, 0, 0), (64, .istore 8, 2, 0, 0, 0, 0), (66, .iload 8, 2, 0, 0, 0, 0), (68, .iload 5, 2, 0, 0, 0, 0), (70, .if_icmp .le 11, 3, 0, 81, 0, 0), (73, .iload 8, 2, 0, 0, 0, 0), (75, .istore 5, 2, 0, 0, 0, 0), (77, .iload 6, 2, 0, 0, 0, 0), (79, .istore 4, 2, 0, 0, 0, 0), (81, .iinc 6 1, 3, 1, 0, 0, 0), (84, .goto (-74), 3, 0, 10, 0, 0), (87, .iload 4, 2, 0, 0, 0, 0), (89, .ireturn, 1, 0, 0, 0, 0)]
abbrev Y1_safestPlace : MethodName := ⟨"GingerArmy$Mind", "safestPlace", "(LGingerArmy$Shelf;II)I"⟩
abbrev M1_safestPlace : MethT := (1, C1_safestPlace, prog_3_method_9_code, 9, (some .int), Y1_safestPlace)
abbrev C1_oneToCover : List CE := [(0, .bipush (-9), 2, -9, 0, 0, 0), (2, .istore_n 3, 1, 0, 0, 0, 0), (3, .aload_n 0, 1, 0, 0, 0, 0), (4, .aload_n 1, 1, 0, 0, 0, 0), (5, .iload_n 2, 1, 0, 0, 0, 0), (6, .invokevirtual 76, 3, 0, 0, 0, 0), (9, .getfield 33, 3, 0, 2, 8, 1), (12, .invokestatic 37, 3, 0, 0, 0, 0), (15, .istore 4, 2, 0, 0, 0, 0), (17, .iconst 0, 1, 0, 0, 0, 0), (18, .istore 5, 2, 0, 0, 0, 0), (20, .iload 5, 2, 0, 0, 0, 0), (22, .bipush 8, 2, 8, 0, 0, 0), (24, .if_icmp .ge 68, 3, 0, 92, 0, 0), (27, .aload_n 1, 1, 0, 0, 0, 0), (28, .iload 5, 2, 0, 0, 0, 0), (30, .invokevirtual 43, 3, 0, 0, 0, 0), (33, .ifCond .eq 53, 3, 0, 86, 0, 0), (36, .aload_n 1, 1, 0, 0, 0, 0), (37, .iload 5, 2, 0, 0, 0, 0), (39, .invokevirtual 80, 3, 0, 0, 0, 0), (42, .ifCond .eq 6, 3, 0, 48, 0, 0), (45, .goto 41, 3, 0, 86, 0, 0), (48, .aload_n 0, 1, 0, 0, 0, 0), (49, .getfield 12, 3, 0, 0, 0, 0), (52, .aload_n 1, 1, 0, 0, 0, 0), (53, .invokevirtual 25, 3, 0, 0, 0, 0), (56, .aload_n 0, 1, 0, 0, 0, 0), (57, .getfield 12, 3, 0, 0, 0, 0), (60, .iload 5, 2, 0, 0, 0, 0), (62, .invokevirtual 83, 3, 0, 0, 0, 0), (65, .aload_n 0, 1, 0, 0, 0, 0), (66, .iload_n 2, 1, 0, 0, 0, 0), (67, .invokevirtual 73, 3, 0, 0, 0, 0), (70, .istore 6, 2, 0, 0, 0, 0), (72, .iload 6, 2, 0, 0, 0, 0), (74, .iload 4, 2, 0, 0, 0, 0), (76, .if_icmp .le 10, 3, 0, 86, 0, 0), (79, .iload 6, 2, 0, 0, 0, 0), (81, .istore 4, 2, 0, 0, 0, 0), (83, .iload 5, 2, 0, 0, 0, 0), (85, .istore_n 3, 1, 0, 0, 0, 0), (86, .iinc 5 1, 3, 1, 0, 0, 0), (89, .goto (-69), 3, 0, 20, 0, 0), (92, .iload_n 3, 1, 0, 0, 0, 0), (93, .ireturn, 1, 0, 0, 0, 0)]
abbrev Y1_oneToCover : MethodName := ⟨"GingerArmy$Mind", "oneToCover", "(LGingerArmy$Shelf;I)I"⟩
abbrev M1_oneToCover : MethT := (1, C1_oneToCover, prog_3_method_10_code, 7, (some .int), Y1_oneToCover)
abbrev C1_oneToLetOut : List CE := [(0, .bipush (-9), 2, -9, 0, 0, 0), (2, .istore_n 3, 1, 0, 0, 0, 0), (3, .aload_n 0, 1, 0, 0, 0, 0), (4, .aload_n 1, 1, 0, 0, 0, 0), (5, .iload_n 2, 1, 0, 0, 0, 0), (6, .invokevirtual 76, 3, 0, 0, 0, 0), (9, .getfield 33, 3, 0, 2, 8, 1), (12, .invokestatic 37, 3, 0, 0, 0, 0), (15, .istore 4, 2, 0, 0, 0, 0), (17, .iconst 0, 1, 0, 0, 0, 0), (18, .istore 5, 2, 0, 0, 0, 0), (20, .iload 5, 2, 0, 0, 0, 0), (22, .bipush 8, 2, 8, 0, 0, 0), (24, .if_icmp .ge 60, 3, 0, 84, 0, 0), (27, .aload_n 1, 1, 0, 0, 0, 0), (28, .iload 5, 2, 0, 0, 0, 0), (30, .invokevirtual 43, 3, 0, 0, 0, 0), (33, .ifCond .ne 6, 3, 0, 39, 0, 0), (36, .goto 42, 3, 0, 78, 0, 0), (39, .aload_n 0, 1, 0, 0, 0, 0), (40, .getfield 12, 3, 0, 0, 0, 0), (43, .aload_n 1, 1, 0, 0, 0, 0), (44, .invokevirtual 25, 3, 0, 0, 0, 0), (47, .aload_n 0, 1, 0, 0, 0, 0), (48, .getfield 12, 3, 0, 0, 0, 0), (51, .iload 5, 2, 0, 0, 0, 0), (53, .iconst 0, 1, 0, 0, 0, 0), (54, .invokevirtual 86, 3, 0, 0, 0, 0), (57, .aload_n 0, 1, 0, 0, 0, 0), (58, .iload_n 2, 1, 0, 0, 0, 0), (59, .invokevirtual 73, 3, 0, 0, 0, 0), (62, .istore 6, 2, 0, 0, 0, 0), (64, .iload 6, 2, 0, 0, 0, 0), (66, .iload 4, 2, 0, 0, 0, 0), (68, .if_icmp .le 10, 3, 0, 78, 0, 0), (71, .iload 6, 2, 0, 0, 0, 0), (73, .istore 4, 2, 0, 0, 0, 0), (75, .iload 5, 2, 0, 0, 0, 0), (77, .istore_n 3, 1, 0, 0, 0, 0), (78, .iinc 5 1, 3, 1, 0, 0, 0), (81, .goto (-61), 3, 0, 20, 0, 0), (84, .iload_n 3, 1, 0, 0, 0, 0), (85, .ireturn, 1, 0, 0, 0, 0)]
abbrev Y1_oneToLetOut : MethodName := ⟨"GingerArmy$Mind", "oneToLetOut", "(LGingerArmy$Shelf;I)I"⟩
abbrev M1_oneToLetOut : MethT := (1, C1_oneToLetOut, prog_3_method_11_code, 7, (some .int), Y1_oneToLetOut)
abbrev C1_bestChange : List CE := [(0, .bipush (-9), 2, -9, 0, 0, 0), (2, .istore_n 3, 1, 0, 0, 0, 0), (3, .aload_n 0, 1, 0, 0, 0, 0), (4, .aload_n 1, 1, 0, 0, 0, 0), (5, .iload_n 2, 1, 0, 0, 0, 0), (6, .invokevirtual 76, 3, 0, 0, 0, 0), (9, .getfield 33, 3, 0, 2, 8, 1), (12, .invokestatic 37, 3, 0, 0, 0, 0), (15, .istore 4, 2, 0, 0, 0, 0), (17, .iconst 0, 1, 0, 0, 0, 0), (18, .istore 5, 2, 0, 0, 0, 0), (20, .iload 5, 2, 0, 0, 0, 0), (22, .bipush 8, 2, 8, 0, 0, 0), (24, .if_icmp .ge 114, 3, 0, 138, 0, 0), (27, .iload 5, 2, 0, 0, 0, 0), (29, .iconst 1, 1, 1, 0, 0, 0), (30, .iadd, 1, 0, 0, 0, 0), (31, .istore 6, 2, 0, 0, 0, 0), (33, .iload 6, 2, 0, 0, 0, 0), (35, .bipush 8, 2, 8, 0, 0, 0), (37, .if_icmp .ge 95, 3, 0, 132, 0, 0), (40, .aload_n 1, 1, 0, 0, 0, 0), (41, .iload 5, 2, 0, 0, 0, 0), (43, .invokevirtual 43, 3, 0, 0, 0, 0), (46, .ifCond .eq 80, 3, 0, 126, 0, 0), (49, .aload_n 1, 1, 0, 0, 0, 0), (50, .iload 6, 2, 0, 0, 0, 0), (52, .invokevirtual 43, 3, 0, 0, 0, 0), (55, .ifCond .ne 6, 3, 0, 61, 0, 0), (58, .goto 68, 3, 0, 126, 0, 0), (61, .aload_n 0, 1, 0, 0, 0, 0), (62, .getfield 12, 3, 0, 0, 0, 0), (65, .aload_n 1, 1, 0, 0, 0, 0), (66, .invokevirtual 25, 3, 0, 0, 0, 0), (69, .aload_n 0, 1, 0, 0, 0, 0), (70, .getfield 12, 3, 0, 0, 0, 0), (73, .iload 5, 2, 0, 0, 0, 0), (75, .aload_n 1, 1, 0, 0, 0, 0), (76, .iload 6, 2, 0, 0, 0, 0), (78, .invokevirtual 89, 3, 0, 0, 0, 0), (81, .invokevirtual 69, 3, 0, 0, 0, 0), (84, .aload_n 0, 1, 0, 0, 0, 0), (85, .getfield 12, 3, 0, 0, 0, 0), (88, .iload 6, 2, 0, 0, 0, 0), (90, .aload_n 1, 1, 0, 0, 0, 0), (91, .iload 5, 2, 0, 0, 0, 0), (93, .invokevirtual 89, 3, 0, 0, 0, 0), (96, .invokevirtual 69, 3, 0, 0, 0, 0), (99, .aload_n 0, 1, 0, 0, 0, 0), (100, .iload_n 2, 1, 0, 0, 0, 0), (101, .invokevirtual 73, 3, 0, 0, 0, 0), (104, .istore 7, 2, 0, 0, 0, 0), (106, .iload 7, 2, 0, 0, 0, 0), (108, .iload 4, 2, 0, 0, 0, 0), (110, .if_icmp .le 16, 3, 0, 126, 0, 0), (113, .iload 7, 2, 0, 0, 0, 0), (115, .istore 4, 2, 0, 0, 0, 0), (117, .bipush 10, 2, 10, 0, 0, 0), (119, .iload 5, 2, 0, 0, 0, 0), (121, .imul, 1, 0, 0, 0, 0), (122, .iload 6, 2, 0, 0, 0, 0), (124, .iadd, 1, 0, 0, 0, 0), (125, .istore_n 3, 1, 0, 0, 0, 0), (126, .iinc 6 1, 3, 1, 0, 0, 0), (129, .goto (-96), 3, 0, 33, 0, 0), (132, .iinc 5 1, 3, 1, 0, 0, 0), (135, .goto (-115), 3, 0, 20, 0, 0), (138, .iload_n 3, 1, 0, 0, 0, 0), (139, .ireturn, 1, 0, 0, 0, 0)]
abbrev Y1_bestChange : MethodName := ⟨"GingerArmy$Mind", "bestChange", "(LGingerArmy$Shelf;I)I"⟩
abbrev M1_bestChange : MethT := (1, C1_bestChange, prog_3_method_12_code, 8, (some .int), Y1_bestChange)
abbrev C1_leftWithSugar : List CE := [(0, .aload_n 0, 1, 0, 0, 0, 0), (1, .getfield 12, 3, 0, 0, 0, 0), (4, .aload_n 1, 1, 0, 0, 0, 0), (5, .invokevirtual 25, 3, 0, 0, 0, 0), (8, .aload_n 0, 1, 0, 0, 0, 0), (9, .getfield 12, 3, 0, 0, 0, 0), (12, .iload_n 2, 1, 0, 0, 0, 0), (13, .aload_n 1, 1, 0, 0, 0, 0), (14, .getfield 92, 3, 0, 2, 11, 1), (17, .invokevirtual 95, 3, 0, 0, 0, 0), (20, .aload_n 0, 1, 0, 0, 0, 0), (21, .getfield 12, 3, 0, 0, 0, 0), (24, .iload_n 3, 1, 0, 0, 0, 0), (25, .invokevirtual 29, 3, 0, 0, 0, 0), (28, .aload_n 0, 1, 0, 0, 0, 0), (29, .getfield 12, 3, 0, 0, 0, 0), (32, .getfield 33, 3, 0, 2, 8, 1), (35, .invokestatic 37, 3, 0, 0, 0, 0), (38, .ireturn, 1, 0, 0, 0, 0)]
abbrev Y1_leftWithSugar : MethodName := ⟨"GingerArmy$Mind", "leftWithSugar", "(LGingerArmy$Shelf;II)I"⟩
abbrev M1_leftWithSugar : MethT := (1, C1_leftWithSugar, prog_3_method_13_code, 4, (some .int), Y1_leftWithSugar)
abbrev C1_bestSugar : List CE := [(0, .iconst 0, 1, 0, 0, 0, 0), (1, .istore_n 3, 1, 0, 0, 0, 0), (2, .iconst (-1), 1, -1, 0, 0, 0), (3, .istore 4, 2, 0, 0, 0, 0), (5, .iconst 0, 1, 0, 0, 0, 0), (6, .istore 5, 2, 0, 0, 0, 0), (8, .iload 5, 2, 0, 0, 0, 0), (10, .bipush 9, 2, 9, 0, 0, 0), (12, .if_icmp .gt 33, 3, 0, 45, 0, 0), (15, .aload_n 0, 1, 0, 0, 0, 0), (16, .aload_n 1, 1, 0, 0, 0, 0), (17, .iload 5, 2, 0, 0, 0, 0), (19, .iload_n 2, 1, 0, 0, 0, 0), (20, .invokevirtual 98, 3, 0, 0, 0, 0), (23, .istore 6, 2, 0, 0, 0, 0), (25, .iload 6, 2, 0, 0, 0, 0), (27, .iload 4, 2, 0, 0, 0, 0), (29, .if_icmp .lt 10, 3, 0, 39, 0, 0), (32, .iload 6, 2, 0, 0, 0, 0), (34, .istore 4, 2, 0, 0, 0, 0), (36, .iload 5, 2, 0, 0, 0, 0), (38, .istore_n 3, 1, 0, 0, 0, 0), (39, .iinc 5 1, 3, 1, 0, 0, 0), (42, .goto (-34), 3, 0, 8, 0, 0), (45, .iload_n 3, 1, 0, 0, 0, 0), (46, .ireturn, 1, 0, 0, 0, 0)]
abbrev Y1_bestSugar : MethodName := ⟨"GingerArmy$Mind", "bestSugar", "(LGingerArmy$Shelf;I)I"⟩
abbrev M1_bestSugar : MethT := (1, C1_bestSugar, prog_3_method_14_code, 7, (some .int), Y1_bestSugar)
abbrev C1_leastSugarFor : List CE := [(0, .iconst 0, 1, 0, 0, 0, 0), (1, .istore 5, 2, 0, 0, 0, 0), (3, .iload 5, 2, 0, 0, 0, 0), (5, .bipush 9, 2, 9, 0, 0, 0), (7, .if_icmp .gt 51, 3, 0, 58, 0, 0), (10, .aload_n 0, 1, 0, 0, 0, 0), (11, .getfield 12, 3, 0, 0, 0, 0), (14, .aload_n 1, 1, 0, 0, 0, 0), (15, .invokevirtual 25, 3, 0, 0, 0, 0), (18, .aload_n 0, 1, 0, 0, 0, 0), (19, .getfield 12, 3, 0, 0, 0, 0), (22, .iload 5, 2, 0, 0, 0, 0), (24, .aload_n 1, 1, 0, 0, 0, 0), (25, .getfield 92, 3, 0, 2, 11, 1), (28, .invokevirtual 95, 3, 0, 0, 0, 0), (31, .aload_n 0, 1, 0, 0, 0, 0), (32, .getfield 12, 3, 0, 0, 0, 0), (35, .iload 4, 2, 0, 0, 0, 0), (37, .invokevirtual 29, 3, 0, 0, 0, 0), (40, .aload_n 0, 1, 0, 0, 0, 0), (41, .iload_n 2, 1, 0, 0, 0, 0), (42, .iload_n 3, 1, 0, 0, 0, 0), (43, .invokevirtual 102, 3, 0, 0, 0, 0), (46, .ifCond .eq 6, 3, 0, 52, 0, 0), (49, .iload 5, 2, 0, 0, 0, 0), (51, .ireturn, 1, 0, 0, 0, 0), (52, .iinc 5 1, 3, 1, 0, 0, 0), (55, .goto (-52), 3, 0, 3, 0, 0), (58, .bipush (-9), 2, -9, 0, 0, 0), (60, .ireturn, 1, 0, 0, 0, 0)]
abbrev Y1_leastSugarFor : MethodName := ⟨"GingerArmy$Mind", "leastSugarFor", "(LGingerArmy$Shelf;III)I"⟩
abbrev M1_leastSugarFor : MethT := (1, C1_leastSugarFor, prog_3_method_15_code, 6, (some .int), Y1_leastSugarFor)
abbrev C1_isReady : List CE := [(0, .aload_n 0, 1, 0, 0, 0, 0), (1, .getfield 12, 3, 0, 0, 0, 0), (4, .iload_n 1, 1, 0, 0, 0, 0), (5, .invokevirtual 43, 3, 0, 0, 0, 0), (8, .ifCond .eq 19, 3, 0, 27, 0, 0), (11, .aload_n 0, 1, 0, 0, 0, 0), (12, .getfield 12, 3, 0, 0, 0, 0), (15, .iload_n 1, 1, 0, 0, 0, 0), (16, .invokevirtual 106, 3, 0, 0, 0, 0), (19, .iload_n 2, 1, 0, 0, 0, 0), (20, .if_icmp .lt 7, 3, 0, 27, 0, 0), (23, .iconst 1, 1, 1, 0, 0, 0), (24, .goto 4, 3, 0, 28, 0, 0), (27, .iconst 0, 1, 0, 0, 0, 0), (28, .ireturn, 1, 0, 0, 0, 0)]
abbrev Y1_isReady : MethodName := ⟨"GingerArmy$Mind", "isReady", "(II)Z"⟩
abbrev M1_isReady : MethT := (1, C1_isReady, prog_3_method_16_code, 3, (some .boolean), Y1_isReady)
abbrev C1_fewestSweetDays : List CE := [(0, .iconst 0, 1, 0, 0, 0, 0), (1, .istore 4, 2, 0, 0, 0, 0), (3, .iload 4, 2, 0, 0, 0, 0), (5, .bipush 30, 2, 30, 0, 0, 0), (7, .if_icmp .gt 84, 3, 0, 91, 0, 0), (10, .aload_n 0, 1, 0, 0, 0, 0), (11, .getfield 12, 3, 0, 0, 0, 0), (14, .aload_n 1, 1, 0, 0, 0, 0), (15, .invokevirtual 25, 3, 0, 0, 0, 0), (18, .aload_n 0, 1, 0, 0, 0, 0), (19, .getfield 12, 3, 0, 0, 0, 0), (22, .bipush 9, 2, 9, 0, 0, 0), (24, .aload_n 1, 1, 0, 0, 0, 0), (25, .getfield 92, 3, 0, 2, 11, 1), (28, .invokevirtual 95, 3, 0, 0, 0, 0), (31, .iconst 0, 1, 0, 0, 0, 0), (32, .istore 5, 2, 0, 0, 0, 0), (34, .iload 5, 2, 0, 0, 0, 0), (36, .bipush 30, 2, 30, 0, 0, 0), (38, .if_icmp .gt 47, 3, 0, 85, 0, 0), (41, .aload_n 0, 1, 0, 0, 0, 0), (42, .iload_n 2, 1, 0, 0, 0, 0), (43, .iload_n 3, 1, 0, 0, 0, 0), (44, .invokevirtual 102, 3, 0, 0, 0, 0), (47, .ifCond .eq 6, 3, 0, 53, 0, 0), (50, .iload 4, 2, 0, 0, 0, 0), (52, .ireturn, 1, 0, 0, 0, 0), (53, .iload 5, 2, 0, 0, 0, 0), (55, .iload 4, 2, 0, 0, 0, 0), (57, .if_icmp .ne 15, 3, 0, 72, 0, 0), (60, .aload_n 0, 1, 0, 0, 0, 0), (61, .getfield 12, 3, 0, 0, 0, 0), (64, .iconst 0, 1, 0, 0, 0, 0), (65, .aload_n 1, 1, 0, 0, 0, 0), (66, .getfield 92, 3, 0, 2, 11, 1), (69, .invokevirtual 95, 3, 0, 0, 0, 0), (72, .aload_n 0, 1, 0, 0, 0, 0), (73, .getfield 12, 3, 0, 0, 0, 0), (76, .invokevirtual 47, 3, 0, 0, 0, 0), (79, .iinc 5 1, 3, 1, 0, 0, 0), (82, .goto (-48), 3, 0, 34, 0, 0), (85, .iinc 4 1, 3, 1, 0, 0, 0), (88, .goto (-85), 3, 0, 3, 0, 0), (91, .bipush (-9), 2, -9, 0, 0, 0), (93, .ireturn, 1, 0, 0, 0, 0)]
abbrev Y1_fewestSweetDays : MethodName := ⟨"GingerArmy$Mind", "fewestSweetDays", "(LGingerArmy$Shelf;II)I"⟩
abbrev M1_fewestSweetDays : MethT := (1, C1_fewestSweetDays, prog_3_method_17_code, 6, (some .int), Y1_fewestSweetDays)
abbrev C1_daysTillOneGoesHalved : List CE := [(0, .aload_n 0, 1, 0, 0, 0, 0), (1, .getfield 12, 3, 0, 0, 0, 0), (4, .aload_n 1, 1, 0, 0, 0, 0), (5, .invokevirtual 25, 3, 0, 0, 0, 0), (8, .iconst 1, 1, 1, 0, 0, 0), (9, .istore_n 2, 1, 0, 0, 0, 0), (10, .iload_n 2, 1, 0, 0, 0, 0), (11, .bipush 60, 2, 60, 0, 0, 0), (13, .if_icmp .gt 46, 3, 0, 59, 0, 0), (16, .iload_n 2, 1, 0, 0, 0, 0), (17, .bipush 7, 2, 7, 0, 0, 0), (19, .irem, 1, 0, 0, 0, 0), (20, .ifCond .ne 10, 3, 0, 30, 0, 0), (23, .aload_n 0, 1, 0, 0, 0, 0), (24, .getfield 12, 3, 0, 0, 0, 0), (27, .invokevirtual 109, 3, 0, 0, 0, 0), (30, .aload_n 0, 1, 0, 0, 0, 0), (31, .getfield 12, 3, 0, 0, 0, 0), (34, .invokevirtual 47, 3, 0, 0, 0, 0), (37, .aload_n 0, 1, 0, 0, 0, 0), (38, .getfield 12, 3, 0, 0, 0, 0), (41, .getfield 33, 3, 0, 2, 8, 1), (44, .aload_n 1, 1, 0, 0, 0, 0), (45, .getfield 33, 3, 0, 2, 8, 1), (48, .if_icmp .eq 5, 3, 0, 53, 0, 0), (51, .iload_n 2, 1, 0, 0, 0, 0), (52, .ireturn, 1, 0, 0, 0, 0), (53, .iinc 2 1, 3, 1, 0, 0, 0), (56, .goto (-46), 3, 0, 10, 0, 0), (59, .bipush (-9), 2, -9, 0, 0, 0), (61, .ireturn, 1, 0, 0, 0, 0)]
abbrev Y1_daysTillOneGoesHalved : MethodName := ⟨"GingerArmy$Mind", "daysTillOneGoesHalved", "(LGingerArmy$Shelf;)I"⟩
abbrev M1_daysTillOneGoesHalved : MethT := (1, C1_daysTillOneGoesHalved, prog_3_method_18_code, 3, (some .int), Y1_daysTillOneGoesHalved)
abbrev C1_whoLeaves : List CE := [(0, .iconst 0, 1, 0, 0, 0, 0), (1, .istore 4, 2, 0, 0, 0, 0), (3, .iconst 0, 1, 0, 0, 0, 0), (4, .istore 5, 2, 0, 0, 0, 0), (6, .iload 5, 2, 0, 0, 0, 0), (8, .bipush 8, 2, 8, 0, 0, 0), (10, .if_icmp .ge 63, 3, 0, 73, 0, 0), (13, .aload_n 1, 1, 0, 0, 0, 0), (14, .iload 5, 2, 0, 0, 0, 0), (16, .invokevirtual 43, 3, 0, 0, 0, 0), (19, .ifCond .ne 6, 3, 0, 25, 0, 0), (22, .goto 45, 3, 0, 67, 0, 0), (25, .aload_n 0, 1, 0, 0, 0, 0), (26, .getfield 12, 3, 0, 0, 0, 0), (29, .aload_n 1, 1, 0, 0, 0, 0), (30, .invokevirtual 25, 3, 0, 0, 0, 0), (33, .aload_n 0, 1, 0, 0, 0, 0), (34, .getfield 12, 3, 0, 0, 0, 0), (37, .iload 5, 2, 0, 0, 0, 0), (39, .invokevirtual 56, 3, 0, 0, 0, 0), (42, .aload_n 0, 1, 0, 0, 0, 0), (43, .getfield 12, 3, 0, 0, 0, 0), (46, .invokevirtual 59, 3, 0, 0, 0, 0), (49, .aload_n 0, 1, 0, 0, 0, 0), (50, .aload_n 2, 1, 0, 0, 0, 0), (51, .iload_n 3, 1, 0, 0, 0, 0), (52, .invokevirtual 112, 3, 0, 0, 0, 0), (55, .ifCond .eq 12, 3, 0, 67, 0, 0), (58, .iload 4, 2, 0, 0, 0, 0), (60, .iconst 1, 1, 1, 0, 0, 0), (61, .iload 5, 2, 0, 0, 0, 0), (63, .ishl, 1, 0, 0, 0, 0), (64, .ior, 1, 0, 0, 0, 0), (65, .istore 4, 2, 0, 0, 0, 0), (67, .iinc 5 1, 3, 1, 0, 0, 0), (70, .goto (-64), 3, 0, 6, 0, 0), (73, .iload 4, 2, 0, 0, 0, 0), (75, .ireturn, 1, 0, 0, 0, 0)]
abbrev Y1_whoLeaves : MethodName := ⟨"GingerArmy$Mind", "whoLeaves", "(LGingerArmy$Shelf;[II)I"⟩
abbrev M1_whoLeaves : MethT := (1, C1_whoLeaves, prog_3_method_19_code, 6, (some .int), Y1_whoLeaves)
abbrev C1_leavesAsTold : List CE := [(0, .iconst 0, 1, 0, 0, 0, 0), (1, .istore_n 3, 1, 0, 0, 0, 0), (2, .iload_n 3, 1, 0, 0, 0, 0), (3, .iload_n 2, 1, 0, 0, 0, 0), (4, .if_icmp .ge 40, 3, 0, 44, 0, 0), (7, .iload_n 3, 1, 0, 0, 0, 0), (8, .aload_n 1, 1, 0, 0, 0, 0), (9, .arraylength, 1, 0, 0, 0, 0), (10, .if_icmp .ge 34, 3, 0, 44, 0, 0), (13, .aload_n 0, 1, 0, 0, 0, 0), (14, .getfield 12, 3, 0, 0, 0, 0), (17, .getfield 33, 3, 0, 2, 8, 1), (20, .invokestatic 37, 3, 0, 0, 0, 0), (23, .aload_n 1, 1, 0, 0, 0, 0), (24, .iload_n 3, 1, 0, 0, 0, 0), (25, .iaload, 1, 0, 0, 0, 0), (26, .if_icmp .eq 5, 3, 0, 31, 0, 0), (29, .iconst 0, 1, 0, 0, 0, 0), (30, .ireturn, 1, 0, 0, 0, 0), (31, .aload_n 0, 1, 0, 0, 0, 0), (32, .getfield 12, 3, 0, 0, 0, 0), (35, .invokevirtual 47, 3, 0, 0, 0, 0), (38, .iinc 3 1, 3, 1, 0, 0, 0), (41, .goto (-39), 3, 0, 2, 0, 0), (44, .iconst 1, 1, 1, 0, 0, 0), (45, .ireturn, 1, 0, 0, 0, 0)]
abbrev Y1_leavesAsTold : MethodName := ⟨"GingerArmy$Mind", "leavesAsTold", "([II)Z"⟩
abbrev M1_leavesAsTold : MethT := (1, C1_leavesAsTold, prog_3_method_20_code, 4, (some .boolean), Y1_leavesAsTold)
abbrev C1_kindsThatPress : List CE := [(0, .iconst 0, 1, 0, 0, 0, 0), (1, .istore 5, 2, 0, 0, 0, 0), (3, .iconst 0, 1, 0, 0, 0, 0), (4, .istore 6, 2, 0, 0, 0, 0), (6, .iload 6, 2, 0, 0, 0, 0), (8, .bipush 6, 2, 6, 0, 0, 0), (10, .if_icmp .ge 52, 3, 0, 62, 0, 0), (13, .aload_n 0, 1, 0, 0, 0, 0), (14, .getfield 12, 3, 0, 0, 0, 0), (17, .aload_n 1, 1, 0, 0, 0, 0), (18, .invokevirtual 25, 3, 0, 0, 0, 0), (21, .aload_n 0, 1, 0, 0, 0, 0), (22, .getfield 12, 3, 0, 0, 0, 0), (25, .iload_n 2, 1, 0, 0, 0, 0), (26, .iload 6, 2, 0, 0, 0, 0), (28, .aload_n 1, 1, 0, 0, 0, 0), (29, .iload_n 2, 1, 0, 0, 0, 0), (30, .invokevirtual 116, 3, 0, 0, 0, 0), (33, .invokevirtual 119, 3, 0, 0, 0, 0), (36, .aload_n 0, 1, 0, 0, 0, 0), (37, .iload_n 2, 1, 0, 0, 0, 0), (38, .aload_n 3, 1, 0, 0, 0, 0), (39, .iload 4, 2, 0, 0, 0, 0), (41, .invokevirtual 123, 3, 0, 0, 0, 0), (44, .ifCond .eq 12, 3, 0, 56, 0, 0), (47, .iload 5, 2, 0, 0, 0, 0), (49, .iconst 1, 1, 1, 0, 0, 0), (50, .iload 6, 2, 0, 0, 0, 0), (52, .ishl, 1, 0, 0, 0, 0), (53, .ior, 1, 0, 0, 0, 0), (54, .istore 5, 2, 0, 0, 0, 0), (56, .iinc 6 1, 3, 1, 0, 0, 0), (59, .goto (-53), 3, 0, 6, 0, 0), (62, .iload 5, 2, 0, 0, 0, 0), (64, .ireturn, 1, 0, 0, 0, 0)]
abbrev Y1_kindsThatPress : MethodName := ⟨"GingerArmy$Mind", "kindsThatPress", "(LGingerArmy$Shelf;I[II)I"⟩
abbrev M1_kindsThatPress : MethT := (1, C1_kindsThatPress, prog_3_method_21_code, 7, (some .int), Y1_kindsThatPress)
abbrev C1_figuresThatPress : List CE := [(0, .iconst 0, 1, 0, 0, 0, 0), (1, .istore 5, 2, 0, 0, 0, 0), (3, .iconst 0, 1, 0, 0, 0, 0), (4, .istore 6, 2, 0, 0, 0, 0), (6, .iload 6, 2, 0, 0, 0, 0), (8, .bipush 10, 2, 10, 0, 0, 0), (10, .if_icmp .ge 52, 3, 0, 62, 0, 0), (13, .aload_n 0, 1, 0, 0, 0, 0), (14, .getfield 12, 3, 0, 0, 0, 0), (17, .aload_n 1, 1, 0, 0, 0, 0), (18, .invokevirtual 25, 3, 0, 0, 0, 0), (21, .aload_n 0, 1, 0, 0, 0, 0), (22, .getfield 12, 3, 0, 0, 0, 0), (25, .iload_n 2, 1, 0, 0, 0, 0), (26, .aload_n 1, 1, 0, 0, 0, 0), (27, .iload_n 2, 1, 0, 0, 0, 0), (28, .invokevirtual 127, 3, 0, 0, 0, 0), (31, .iload 6, 2, 0, 0, 0, 0), (33, .invokevirtual 119, 3, 0, 0, 0, 0), (36, .aload_n 0, 1, 0, 0, 0, 0), (37, .iload_n 2, 1, 0, 0, 0, 0), (38, .aload_n 3, 1, 0, 0, 0, 0), (39, .iload 4, 2, 0, 0, 0, 0), (41, .invokevirtual 123, 3, 0, 0, 0, 0), (44, .ifCond .eq 12, 3, 0, 56, 0, 0), (47, .iload 5, 2, 0, 0, 0, 0), (49, .iconst 1, 1, 1, 0, 0, 0), (50, .iload 6, 2, 0, 0, 0, 0), (52, .ishl, 1, 0, 0, 0, 0), (53, .ior, 1, 0, 0, 0, 0), (54, .istore 5, 2, 0, 0, 0, 0), (56, .iinc 6 1, 3, 1, 0, 0, 0), (59, .goto (-53), 3, 0, 6, 0, 0), (62, .iload 5, 2, 0, 0, 0, 0), (64, .ireturn, 1, 0, 0, 0, 0)]
abbrev Y1_figuresThatPress : MethodName := ⟨"GingerArmy$Mind", "figuresThatPress", "(LGingerArmy$Shelf;I[II)I"⟩
abbrev M1_figuresThatPress : MethT := (1, C1_figuresThatPress, prog_3_method_22_code, 7, (some .int), Y1_figuresThatPress)
abbrev C1_pressesAsTold : List CE := [(0, .iconst 0, 1, 0, 0, 0, 0), (1, .istore 4, 2, 0, 0, 0, 0), (3, .iload 4, 2, 0, 0, 0, 0), (5, .iload_n 3, 1, 0, 0, 0, 0), (6, .if_icmp .ge 40, 3, 0, 46, 0, 0), (9, .iload 4, 2, 0, 0, 0, 0), (11, .aload_n 2, 1, 0, 0, 0, 0), (12, .arraylength, 1, 0, 0, 0, 0), (13, .if_icmp .ge 33, 3, 0, 46, 0, 0), (16, .aload_n 0, 1, 0, 0, 0, 0), (17, .getfield 12, 3, 0, 0, 0, 0), (20, .iload_n 1, 1, 0, 0, 0, 0), (21, .invokevirtual 106, 3, 0, 0, 0, 0), (24, .aload_n 2, 1, 0, 0, 0, 0), (25, .iload 4, 2, 0, 0, 0, 0), (27, .iaload, 1, 0, 0, 0, 0), (28, .if_icmp .eq 5, 3, 0, 33, 0, 0), (31, .iconst 0, 1, 0, 0, 0, 0), (32, .ireturn, 1, 0, 0, 0, 0), (33, .aload_n 0, 1, 0, 0, 0, 0), (34, .getfield 12, 3, 0, 0, 0, 0), (37, .invokevirtual 47, 3, 0, 0, 0, 0), (40, .iinc 4 1, 3, 1, 0, 0, 0), (43, .goto (-40), 3, 0, 3, 0, 0), (46, .iconst 1, 1, 1, 0, 0, 0), (47, .ireturn, 1, 0, 0, 0, 0)]
abbrev Y1_pressesAsTold : MethodName := ⟨"GingerArmy$Mind", "pressesAsTold", "(I[II)Z"⟩
abbrev M1_pressesAsTold : MethT := (1, C1_pressesAsTold, prog_3_method_23_code, 5, (some .boolean), Y1_pressesAsTold)
abbrev C1_restingPair : List CE := [(0, .iconst 0, 1, 0, 0, 0, 0), (1, .istore 5, 2, 0, 0, 0, 0), (3, .iload 5, 2, 0, 0, 0, 0), (5, .iconst 4, 1, 4, 0, 0, 0), (6, .if_icmp .ge 82, 3, 0, 88, 0, 0), (9, .aload_n 0, 1, 0, 0, 0, 0), (10, .getfield 12, 3, 0, 0, 0, 0), (13, .aload_n 1, 1, 0, 0, 0, 0), (14, .invokevirtual 25, 3, 0, 0, 0, 0), (17, .iload 5, 2, 0, 0, 0, 0), (19, .iconst 2, 1, 2, 0, 0, 0), (20, .if_icmp .lt 12, 3, 0, 32, 0, 0), (23, .aload_n 0, 1, 0, 0, 0, 0), (24, .getfield 12, 3, 0, 0, 0, 0), (27, .iload_n 2, 1, 0, 0, 0, 0), (28, .iconst 0, 1, 0, 0, 0, 0), (29, .invokevirtual 86, 3, 0, 0, 0, 0), (32, .iload 5, 2, 0, 0, 0, 0), (34, .iconst 2, 1, 2, 0, 0, 0), (35, .irem, 1, 0, 0, 0, 0), (36, .iconst 1, 1, 1, 0, 0, 0), (37, .if_icmp .ne 12, 3, 0, 49, 0, 0), (40, .aload_n 0, 1, 0, 0, 0, 0), (41, .getfield 12, 3, 0, 0, 0, 0), (44, .iload_n 3, 1, 0, 0, 0, 0), (45, .iconst 0, 1, 0, 0, 0, 0), (46, .invokevirtual 86, 3, 0, 0, 0, 0), (49, .aload_n 0, 1, 0, 0, 0, 0), (50, .getfield 12, 3, 0, 0, 0, 0), (53, .iload 4, 2, 0, 0, 0, 0), (55, .invokevirtual 29, 3, 0, 0, 0, 0), (58, .aload_n 0, 1, 0, 0, 0, 0), (59, .getfield 18, 3, 0, 0, 1, 0), (62, .iload 5, 2, 0, 0, 0, 0), (64, .aload_n 0, 1, 0, 0, 0, 0), (65, .iload_n 2, 1, 0, 0, 0, 0), (66, .invokevirtual 130, 3, 0, 0, 0, 0), (69, .iastore, 1, 0, 0, 0, 0), (70, .aload_n 0, 1, 0, 0, 0, 0), (71, .getfield 22, 3, 0, 0, 2, 0), (74, .iload 5, 2, 0, 0, 0, 0), (76, .aload_n 0, 1, 0, 0, 0, 0), (77, .iload_n 3, 1, 0, 0, 0, 0), (78, .invokevirtual 130, 3, 0, 0, 0, 0), (81, .iastore, 1, 0, 0, 0, 0), (82, .iinc 5 1, 3, 1, 0, 0, 0), (85, .goto (-82), 3, 0, 3, 0, 0), (88, .iconst 0, 1, 0, 0, 0, 0), (89, .istore 5, 2, 0, 0, 0, 0), (91, .iload 5, 2, 0, 0, 0, 0), (93, .iconst 4, 1, 4, 0, 0, 0), (94, .if_icmp .ge 84, 3, 0, 178, 0, 0), (97, .aload_n 0, 1, 0, 0, 0, 0), (98, .getfield 18, 3, 0, 0, 1, 0), (101, .iload 5, 2, 0, 0, 0, 0), (103, .iaload, 1, 0, 0, 0, 0), (104, .aload_n 0, 1, 0, 0, 0, 0), (105, .getfield 18, 3, 0, 0, 1, 0), (108, .iload 5, 2, 0, 0, 0, 0), (110, .iconst 2, 1, 2, 0, 0, 0), (111, .ixor, 1, 0, 0, 0, 0), (112, .iaload, 1, 0, 0, 0, 0), (113, .if_icmp .lt 7, 3, 0, 120, 0, 0), (116, .iconst 1, 1, 1, 0, 0, 0), (117, .goto 4, 3, 0, 121, 0, 0), (120, .iconst 0, 1, 0, 0, 0, 0), (121, .istore 6, 2, 0, 0, 0, 0), (123, .aload_n 0, 1, 0, 0, 0, 0), (124, .getfield 22, 3, 0, 0, 2, 0), (127, .iload 5, 2, 0, 0, 0, 0), (129, .iaload, 1, 0, 0, 0, 0), (130, .aload_n 0, 1, 0, 0, 0, 0), (131, .getfield 22, 3, 0, 0, 2, 0), (134, .iload 5, 2, 0, 0, 0, 0), (136, .iconst 1, 1, 1, 0, 0, 0), (137, .ixor, 1, 0, 0, 0, 0), (138, .iaload, 1, 0, 0, 0, 0), (139, .if_icmp .lt 7, 3, 0, 146, 0, 0), (142, .iconst 1, 1, 1, 0, 0, 0), (143, .goto 4, 3, 0, 147, 0, 0), (146, .iconst 0, 1, 0, 0, 0, 0), (147, .istore 7, 2, 0, 0, 0, 0), (149, .iload 6, 2, 0, 0, 0, 0), (151, .ifCond .eq 21, 3, 0, 172, 0, 0), (154, .iload 7, 2, 0, 0, 0, 0), (156, .ifCond .eq 16, 3, 0, 172, 0, 0), (159, .bipush 10, 2, 10, 0, 0, 0), (161, .iload 5, 2, 0, 0, 0, 0), (163, .iconst 2, 1, 2, 0, 0, 0), (164, .idiv, 1, 0, 0, 0, 0), (165, .imul, 1, 0, 0, 0, 0), (166, .iload 5, 2, 0, 0, 0, 0), (168, .iconst 2, 1, 2, 0, 0, 0), (169, .irem, 1, 0, 0, 0, 0), (170, .iadd, 1, 0, 0, 0, 0), (171, .ireturn, 1, 0, 0, 0, 0), (172, .iinc 5 1, 3, 1, 0, 0, 0), (175, .goto (-84), 3, 0, 91, 0, 0), (178, .bipush (-9), 2, -9, 0, 0, 0), (180, .ireturn, 1, 0, 0, 0, 0)]
abbrev Y1_restingPair : MethodName := ⟨"GingerArmy$Mind", "restingPair", "(LGingerArmy$Shelf;III)I"⟩
abbrev M1_restingPair : MethT := (1, C1_restingPair, prog_3_method_24_code, 8, (some .int), Y1_restingPair)
abbrev C1_wantMet : List CE := [(0, .aload_n 0, 1, 0, 0, 0, 0), (1, .getfield 12, 3, 0, 0, 0, 0), (4, .iload_n 1, 1, 0, 0, 0, 0), (5, .invokevirtual 43, 3, 0, 0, 0, 0), (8, .ifCond .eq 19, 3, 0, 27, 0, 0), (11, .iconst 5, 1, 5, 0, 0, 0), (12, .aload_n 0, 1, 0, 0, 0, 0), (13, .getfield 12, 3, 0, 0, 0, 0), (16, .iload_n 1, 1, 0, 0, 0, 0), (17, .invokevirtual 106, 3, 0, 0, 0, 0), (20, .bipush 10, 2, 10, 0, 0, 0), (22, .idiv, 1, 0, 0, 0, 0), (23, .iadd, 1, 0, 0, 0, 0), (24, .goto 4, 3, 0, 28, 0, 0), (27, .iconst 0, 1, 0, 0, 0, 0), (28, .ireturn, 1, 0, 0, 0, 0)]
abbrev Y1_wantMet : MethodName := ⟨"GingerArmy$Mind", "wantMet", "(I)I"⟩
abbrev M1_wantMet : MethT := (1, C1_wantMet, prog_3_method_25_code, 2, (some .int), Y1_wantMet)
abbrev C1_waysToStay : List CE := [(0, .lconst 0, 1, 0, 0, 0, 0), (1, .lstore 5, 2, 0, 0, 0, 0), (3, .iconst 1, 1, 1, 0, 0, 0), (4, .iload_n 3, 1, 0, 0, 0, 0), (5, .bipush 7, 2, 7, 0, 0, 0), (7, .invokestatic 133, 3, 0, 0, 0, 0), (10, .ishl, 1, 0, 0, 0, 0), (11, .istore 7, 2, 0, 0, 0, 0), (13, .iconst 0, 1, 0, 0, 0, 0), (14, .istore 8, 2, 0, 0, 0, 0), (16, .iload 8, 2, 0, 0, 0, 0), (18, .iload 7, 2, 0, 0, 0, 0), (20, .if_icmp .ge 128, 3, 0, 148, 0, 0), (23, .aload_n 0, 1, 0, 0, 0, 0), (24, .getfield 12, 3, 0, 0, 0, 0), (27, .aload_n 1, 1, 0, 0, 0, 0), (28, .invokevirtual 25, 3, 0, 0, 0, 0), (31, .lconst 1, 1, 0, 1, 0, 0), (32, .lstore 9, 2, 0, 0, 0, 0), (34, .iconst 0, 1, 0, 0, 0, 0), (35, .istore 11, 2, 0, 0, 0, 0), (37, .iload 11, 2, 0, 0, 0, 0), (39, .iload_n 3, 1, 0, 0, 0, 0), (40, .if_icmp .ge 84, 3, 0, 124, 0, 0), (43, .aload_n 0, 1, 0, 0, 0, 0), (44, .getfield 12, 3, 0, 0, 0, 0), (47, .iload_n 2, 1, 0, 0, 0, 0), (48, .invokevirtual 43, 3, 0, 0, 0, 0), (51, .ifCond .eq 73, 3, 0, 124, 0, 0), (54, .iload 8, 2, 0, 0, 0, 0), (56, .iload 11, 2, 0, 0, 0, 0), (58, .ishr, 1, 0, 0, 0, 0), (59, .iconst 1, 1, 1, 0, 0, 0), (60, .iand, 1, 0, 0, 0, 0), (61, .ifCond .eq 7, 3, 0, 68, 0, 0), (64, .iconst 1, 1, 1, 0, 0, 0), (65, .goto 4, 3, 0, 69, 0, 0), (68, .iconst 0, 1, 0, 0, 0, 0), (69, .istore 12, 2, 0, 0, 0, 0), (71, .aload_n 0, 1, 0, 0, 0, 0), (72, .getfield 12, 3, 0, 0, 0, 0), (75, .aload_n 1, 1, 0, 0, 0, 0), (76, .getfield 136, 3, 0, 2, 10, 1), (79, .iload 12, 2, 0, 0, 0, 0), (81, .ifCond .eq 8, 3, 0, 89, 0, 0), (84, .bipush 9, 2, 9, 0, 0, 0), (86, .goto 7, 3, 0, 93, 0, 0), (89, .aload_n 1, 1, 0, 0, 0, 0), (90, .getfield 92, 3, 0, 2, 11, 1), (93, .invokevirtual 95, 3, 0, 0, 0, 0), (96, .aload_n 0, 1, 0, 0, 0, 0), (97, .getfield 12, 3, 0, 0, 0, 0), (100, .invokevirtual 47, 3, 0, 0, 0, 0), (103, .iload 12, 2, 0, 0, 0, 0), (105, .ifCond .ne 13, 3, 0, 118, 0, 0), (108, .lload 9, 2, 0, 0, 0, 0), (110, .iload 4, 2, 0, 0, 0, 0), (112, .iconst 1, 1, 1, 0, 0, 0), (113, .isub, 1, 0, 0, 0, 0), (114, .i2l, 1, 0, 0, 0, 0), (115, .lmul, 1, 0, 0, 0, 0), (116, .lstore 9, 2, 0, 0, 0, 0), (118, .iinc 11 1, 3, 1, 0, 0, 0), (121, .goto (-84), 3, 0, 37, 0, 0), (124, .aload_n 0, 1, 0, 0, 0, 0), (125, .getfield 12, 3, 0, 0, 0, 0), (128, .iload_n 2, 1, 0, 0, 0, 0), (129, .invokevirtual 43, 3, 0, 0, 0, 0), (132, .ifCond .eq 10, 3, 0, 142, 0, 0), (135, .lload 5, 2, 0, 0, 0, 0), (137, .lload 9, 2, 0, 0, 0, 0), (139, .ladd, 1, 0, 0, 0, 0), (140, .lstore 5, 2, 0, 0, 0, 0), (142, .iinc 8 1, 3, 1, 0, 0, 0), (145, .goto (-129), 3, 0, 16, 0, 0), (148, .lload 5, 2, 0, 0, 0, 0), (150, .lreturn, 1, 0, 0, 0, 0)]
abbrev Y1_waysToStay : MethodName := ⟨"GingerArmy$Mind", "waysToStay", "(LGingerArmy$Shelf;III)J"⟩
abbrev M1_waysToStay : MethT := (1, C1_waysToStay, prog_3_method_26_code, 13, (some .long), Y1_waysToStay)
abbrev C1_greatestCalmHeat : List CE := [(0, .bipush 9, 2, 9, 0, 0, 0), (2, .istore_n 2, 1, 0, 0, 0, 0), (3, .iload_n 2, 1, 0, 0, 0, 0), (4, .ifCond .lt 52, 3, 0, 56, 0, 0), (7, .aload_n 0, 1, 0, 0, 0, 0), (8, .getfield 12, 3, 0, 0, 0, 0), (11, .aload_n 1, 1, 0, 0, 0, 0), (12, .invokevirtual 25, 3, 0, 0, 0, 0), (15, .aload_n 0, 1, 0, 0, 0, 0), (16, .getfield 12, 3, 0, 0, 0, 0), (19, .aload_n 1, 1, 0, 0, 0, 0), (20, .getfield 136, 3, 0, 2, 10, 1), (23, .iload_n 2, 1, 0, 0, 0, 0), (24, .invokevirtual 95, 3, 0, 0, 0, 0), (27, .aload_n 0, 1, 0, 0, 0, 0), (28, .getfield 12, 3, 0, 0, 0, 0), (31, .invokevirtual 47, 3, 0, 0, 0, 0), (34, .aload_n 0, 1, 0, 0, 0, 0), (35, .getfield 12, 3, 0, 0, 0, 0), (38, .getfield 33, 3, 0, 2, 8, 1), (41, .aload_n 1, 1, 0, 0, 0, 0), (42, .getfield 33, 3, 0, 2, 8, 1), (45, .if_icmp .ne 5, 3, 0, 50, 0, 0), (48, .iload_n 2, 1, 0, 0, 0, 0), (49, .ireturn, 1, 0, 0, 0, 0), (50, .iinc 2 (-1), 3, -1, 0, 0, 0), (53, .goto (-50), 3, 0, 3, 0, 0), (56, .bipush (-9), 2, -9, 0, 0, 0), (58, .ireturn, 1, 0, 0, 0, 0)]
abbrev Y1_greatestCalmHeat : MethodName := ⟨"GingerArmy$Mind", "greatestCalmHeat", "(LGingerArmy$Shelf;)I"⟩
abbrev M1_greatestCalmHeat : MethT := (1, C1_greatestCalmHeat, prog_3_method_27_code, 3, (some .int), Y1_greatestCalmHeat)
abbrev C1_daysTillAllGone : List CE := [(0, .aload_n 0, 1, 0, 0, 0, 0), (1, .getfield 12, 3, 0, 0, 0, 0), (4, .aload_n 1, 1, 0, 0, 0, 0), (5, .invokevirtual 25, 3, 0, 0, 0, 0), (8, .iconst 0, 1, 0, 0, 0, 0), (9, .istore_n 2, 1, 0, 0, 0, 0), (10, .iload_n 2, 1, 0, 0, 0, 0), (11, .bipush 60, 2, 60, 0, 0, 0), (13, .if_icmp .gt 28, 3, 0, 41, 0, 0), (16, .aload_n 0, 1, 0, 0, 0, 0), (17, .getfield 12, 3, 0, 0, 0, 0), (20, .getfield 33, 3, 0, 2, 8, 1), (23, .ifCond .ne 5, 3, 0, 28, 0, 0), (26, .iload_n 2, 1, 0, 0, 0, 0), (27, .ireturn, 1, 0, 0, 0, 0), (28, .aload_n 0, 1, 0, 0, 0, 0), (29, .getfield 12, 3, 0, 0, 0, 0), (32, .invokevirtual 47, 3, 0, 0, 0, 0), (35, .iinc 2 1, 3, 1, 0, 0, 0), (38, .goto (-28), 3, 0, 10, 0, 0), (41, .bipush (-9), 2, -9, 0, 0, 0), (43, .ireturn, 1, 0, 0, 0, 0)]
abbrev Y1_daysTillAllGone : MethodName := ⟨"GingerArmy$Mind", "daysTillAllGone", "(LGingerArmy$Shelf;)I"⟩
abbrev M1_daysTillAllGone : MethT := (1, C1_daysTillAllGone, prog_3_method_28_code, 3, (some .int), Y1_daysTillAllGone)
abbrev C1_easedBy : List CE := [(0, .aload_n 0, 1, 0, 0, 0, 0), (1, .aload_n 1, 1, 0, 0, 0, 0), (2, .iload 4, 2, 0, 0, 0, 0), (4, .invokevirtual 76, 3, 0, 0, 0, 0), (7, .iload_n 2, 1, 0, 0, 0, 0), (8, .invokevirtual 106, 3, 0, 0, 0, 0), (11, .istore 5, 2, 0, 0, 0, 0), (13, .aload_n 0, 1, 0, 0, 0, 0), (14, .getfield 12, 3, 0, 0, 0, 0), (17, .aload_n 1, 1, 0, 0, 0, 0), (18, .invokevirtual 25, 3, 0, 0, 0, 0), (21, .aload_n 0, 1, 0, 0, 0, 0), (22, .getfield 12, 3, 0, 0, 0, 0), (25, .iload_n 3, 1, 0, 0, 0, 0), (26, .invokevirtual 139, 3, 0, 0, 0, 0), (29, .aload_n 0, 1, 0, 0, 0, 0), (30, .getfield 12, 3, 0, 0, 0, 0), (33, .iload 4, 2, 0, 0, 0, 0), (35, .invokevirtual 29, 3, 0, 0, 0, 0), (38, .iload 5, 2, 0, 0, 0, 0), (40, .aload_n 0, 1, 0, 0, 0, 0), (41, .getfield 12, 3, 0, 0, 0, 0), (44, .iload_n 2, 1, 0, 0, 0, 0), (45, .invokevirtual 106, 3, 0, 0, 0, 0), (48, .isub, 1, 0, 0, 0, 0), (49, .ireturn, 1, 0, 0, 0, 0)]
abbrev Y1_easedBy : MethodName := ⟨"GingerArmy$Mind", "easedBy", "(LGingerArmy$Shelf;III)I"⟩
abbrev M1_easedBy : MethT := (1, C1_easedBy, prog_3_method_29_code, 6, (some .int), Y1_easedBy)
abbrev C1_summersByLot : List CE := [(0, .iload_n 3, 1, 0, 0, 0, 0), (1, .istore 5, 2, 0, 0, 0, 0), (3, .iconst 0, 1, 0, 0, 0, 0), (4, .istore 6, 2, 0, 0, 0, 0), (6, .iconst 0, 1, 0, 0, 0, 0), (7, .istore 7, 2, 0, 0, 0, 0), (9, .iload 7, 2, 0, 0, 0, 0), (11, .iload_n 2, 1, 0, 0, 0, 0), (12, .if_icmp .ge 103, 3, 0, 115, 0, 0), (15, .aload_n 0, 1, 0, 0, 0, 0), (16, .getfield 12, 3, 0, 0, 0, 0), (19, .aload_n 1, 1, 0, 0, 0, 0), (20, .invokevirtual 25, 3, 0, 0, 0, 0), (23, .iconst 0, 1, 0, 0, 0, 0), (24, .istore 8, 2, 0, 0, 0, 0), (26, .iload 8, 2, 0, 0, 0, 0), (28, .bipush 10, 2, 10, 0, 0, 0), (30, .if_icmp .ge 49, 3, 0, 79, 0, 0), (33, .iload 5, 2, 0, 0, 0, 0), (35, .ldc 142, 2, 1103515245, 0, 0, 0), (37, .imul, 1, 0, 0, 0, 0), (38, .sipush 12345, 3, 12345, 0, 0, 0), (41, .iadd, 1, 0, 0, 0, 0), (42, .istore 5, 2, 0, 0, 0, 0), (44, .aload_n 0, 1, 0, 0, 0, 0), (45, .getfield 12, 3, 0, 0, 0, 0), (48, .aload_n 1, 1, 0, 0, 0, 0), (49, .getfield 136, 3, 0, 2, 10, 1), (52, .iload 5, 2, 0, 0, 0, 0), (54, .ldc 143, 2, 2147483647, 0, 0, 0), (56, .iand, 1, 0, 0, 0, 0), (57, .ldc 144, 2, 65536, 0, 0, 0), (59, .idiv, 1, 0, 0, 0, 0), (60, .bipush 10, 2, 10, 0, 0, 0), (62, .irem, 1, 0, 0, 0, 0), (63, .invokevirtual 95, 3, 0, 0, 0, 0), (66, .aload_n 0, 1, 0, 0, 0, 0), (67, .getfield 12, 3, 0, 0, 0, 0), (70, .invokevirtual 47, 3, 0, 0, 0, 0), (73, .iinc 8 1, 3, 1, 0, 0, 0), (76, .goto (-50), 3, 0, 26, 0, 0), (79, .iload 6, 2, 0, 0, 0, 0), (81, .iload 4, 2, 0, 0, 0, 0), (83, .ifCond .ne 16, 3, 0, 99, 0, 0), (86, .aload_n 0, 1, 0, 0, 0, 0), (87, .getfield 12, 3, 0, 0, 0, 0), (90, .getfield 33, 3, 0, 2, 8, 1), (93, .invokestatic 37, 3, 0, 0, 0, 0), (96, .goto 10, 3, 0, 106, 0, 0), (99, .aload_n 0, 1, 0, 0, 0, 0), (100, .getfield 12, 3, 0, 0, 0, 0), (103, .invokevirtual 145, 3, 0, 0, 0, 0), (106, .iadd, 1, 0, 0, 0, 0), (107, .istore 6, 2, 0, 0, 0, 0), (109, .iinc 7 1, 3, 1, 0, 0, 0), (112, .goto (-103), 3, 0, 9, 0, 0), (115, .iload 6, 2, 0, 0, 0, 0), (117, .ireturn, 1, 0, 0, 0, 0)]
abbrev Y1_summersByLot : MethodName := ⟨"GingerArmy$Mind", "summersByLot", "(LGingerArmy$Shelf;III)I"⟩
abbrev M1_summersByLot : MethT := (1, C1_summersByLot, prog_3_method_30_code, 9, (some .int), Y1_summersByLot)
abbrev C2_init : List CE := [(0, .aload_n 0, 1, 0, 0, 0, 0), (1, .invokespecial 3, 3, 0, 0, 0, 0), (4, .aload_n 0, 1, 0, 0, 0, 0), (5, .bipush 8, 2, 8, 0, 0, 0), (7, .anewarray 9, 3, 0, 0, 0, 0), (10, .putfield 11, 3, 0, 1, 0, 0), (13, .iconst 0, 1, 0, 0, 0, 0), (14, .istore_n 1, 1, 0, 0, 0, 0), (15, .iload_n 1, 1, 0, 0, 0, 0), (16, .bipush 8, 2, 8, 0, 0, 0), (18, .if_icmp .ge 22, 3, 0, 40, 0, 0), (21, .aload_n 0, 1, 0, 0, 0, 0), (22, .getfield 11, 3, 0, 1, 0, 0), (25, .iload_n 1, 1, 0, 0, 0, 0), (26, .new 9, 3, 0, 0, 0, 0), (29, .dup, 1, 0, 0, 0, 0), (30, .invokespecial 15, 3, 0, 0, 0, 0), (33, .aastore, 1, 0, 0, 0, 0), (34, .iinc 1 1, 3, 1, 0, 0, 0), (37, .goto (-22), 3, 0, 15, 0, 0), (40, .return_, 1, 0, 0, 0, 0)]
abbrev Y2_init : MethodName := ⟨"GingerArmy$Past", "<init>", "()V"⟩
abbrev M2_init : MethT := (2, C2_init, prog_4_method_1_code, 2, none, Y2_init)
abbrev C2_keep : List CE := [(0, .aload_n 0, 1, 0, 0, 0, 0), (1, .getfield 11, 3, 0, 1, 0, 0), (4, .aload_n 0, 1, 0, 0, 0, 0), (5, .getfield 16, 3, 0, 1, 1, 0), (8, .bipush 7, 2, 7, 0, 0, 0), (10, .iand, 1, 0, 0, 0, 0), (11, .aaload, 1, 0, 0, 0, 0), (12, .astore_n 2, 1, 0, 0, 0, 0), (13, .aload_n 2, 1, 0, 0, 0, 0), (14, .ifnonnull 4, 3, 0, 18, 0, 0), (17, .return_, 1, 0, 0, 0, 0), (18, .aload_n 2, 1, 0, 0, 0, 0), (19, .aload_n 1, 1, 0, 0, 0, 0), (20, .invokevirtual 20, 3, 0, 0, 0, 0), (23, .aload_n 0, 1, 0, 0, 0, 0), (24, .aload_n 0, 1, 0, 0, 0, 0), (25, .getfield 16, 3, 0, 1, 1, 0), (28, .iconst 1, 1, 1, 0, 0, 0), (29, .iadd, 1, 0, 0, 0, 0), (30, .bipush 7, 2, 7, 0, 0, 0), (32, .iand, 1, 0, 0, 0, 0), (33, .putfield 16, 3, 0, 1, 1, 0), (36, .aload_n 0, 1, 0, 0, 0, 0), (37, .bipush 8, 2, 8, 0, 0, 0), (39, .aload_n 0, 1, 0, 0, 0, 0), (40, .getfield 24, 3, 0, 1, 2, 0), (43, .iconst 1, 1, 1, 0, 0, 0), (44, .iadd, 1, 0, 0, 0, 0), (45, .invokestatic 27, 3, 0, 0, 0, 0), (48, .putfield 24, 3, 0, 1, 2, 0), (51, .return_, 1, 0, 0, 0, 0)]
abbrev Y2_keep : MethodName := ⟨"GingerArmy$Past", "keep", "(LGingerArmy$Shelf;)V"⟩
abbrev M2_keep : MethT := (2, C2_keep, prog_4_method_2_code, 3, none, Y2_keep)
abbrev C2_takeBack : List CE := [(0, .aload_n 0, 1, 0, 0, 0, 0), (1, .getfield 24, 3, 0, 1, 2, 0), (4, .ifCond .ne 4, 3, 0, 8, 0, 0), (7, .return_, 1, 0, 0, 0, 0), (8, .aload_n 0, 1, 0, 0, 0, 0), (9, .aload_n 0, 1, 0, 0, 0, 0), (10, .getfield 16, 3, 0, 1, 1, 0), (13, .iconst 1, 1, 1, 0, 0, 0), (14, .isub, 1, 0, 0, 0, 0), (15, .bipush 7, 2, 7, 0, 0, 0), (17, .iand, 1, 0, 0, 0, 0), (18, .putfield 16, 3, 0, 1, 1, 0), (21, .aload_n 0, 1, 0, 0, 0, 0), (22, .dup, 1, 0, 0, 0, 0), (23, .getfield 24, 3, 0, 1, 2, 0), (26, .iconst 1, 1, 1, 0, 0, 0), (27, .isub, 1, 0, 0, 0, 0), (28, .putfield 24, 3, 0, 1, 2, 0), (31, .aload_n 0, 1, 0, 0, 0, 0), (32, .getfield 11, 3, 0, 1, 0, 0), (35, .aload_n 0, 1, 0, 0, 0, 0), (36, .getfield 16, 3, 0, 1, 1, 0), (39, .aaload, 1, 0, 0, 0, 0), (40, .astore_n 2, 1, 0, 0, 0, 0), (41, .aload_n 2, 1, 0, 0, 0, 0), (42, .ifnull 8, 3, 0, 50, 0, 0), (45, .aload_n 1, 1, 0, 0, 0, 0), (46, .aload_n 2, 1, 0, 0, 0, 0), (47, .invokevirtual 20, 3, 0, 0, 0, 0), (50, .return_, 1, 0, 0, 0, 0)]
abbrev Y2_takeBack : MethodName := ⟨"GingerArmy$Past", "takeBack", "(LGingerArmy$Shelf;)V"⟩
abbrev M2_takeBack : MethT := (2, C2_takeBack, prog_4_method_3_code, 3, none, Y2_takeBack)
abbrev C2_forget : List CE := [(0, .aload_n 0, 1, 0, 0, 0, 0), (1, .iconst 0, 1, 0, 0, 0, 0), (2, .putfield 24, 3, 0, 1, 2, 0), (5, .return_, 1, 0, 0, 0, 0)]
abbrev Y2_forget : MethodName := ⟨"GingerArmy$Past", "forget", "()V"⟩
abbrev M2_forget : MethT := (2, C2_forget, prog_4_method_4_code, 1, none, Y2_forget)
abbrev C3_init : List CE := [(0, .aload_n 0, 1, 0, 0, 0, 0), (1, .invokespecial 3, 3, 0, 0, 0, 0), (4, .aload_n 0, 1, 0, 0, 0, 0), (5, .bipush 8, 2, 8, 0, 0, 0), (7, .newarray .int, 2, 0, 0, 0, 0), (9, .putfield 9, 3, 0, 2, 0, 0), (12, .aload_n 0, 1, 0, 0, 0, 0), (13, .bipush 8, 2, 8, 0, 0, 0), (15, .newarray .int, 2, 0, 0, 0, 0), (17, .putfield 15, 3, 0, 2, 1, 0), (20, .aload_n 0, 1, 0, 0, 0, 0), (21, .bipush 8, 2, 8, 0, 0, 0), (23, .newarray .int, 2, 0, 0, 0, 0), (25, .putfield 18, 3, 0, 2, 2, 0), (28, .aload_n 0, 1, 0, 0, 0, 0), (29, .bipush 8, 2, 8, 0, 0, 0), (31, .newarray .int, 2, 0, 0, 0, 0), (33, .putfield 21, 3, 0, 2, 3, 0), (36, .aload_n 0, 1, 0, 0, 0, 0), (37, .bipush 8, 2, 8, 0, 0, 0), (39, .newarray .int, 2, 0, 0, 0, 0), (41, .putfield 24, 3, 0, 2, 4, 0), (44, .aload_n 0, 1, 0, 0, 0, 0), (45, .bipush 8, 2, 8, 0, 0, 0), (47, .newarray .int, 2, 0, 0, 0, 0), (49, .putfield 27, 3, 0, 2, 5, 0), (52, .aload_n 0, 1, 0, 0, 0, 0), (53, .bipush 8, 2, 8, 0, 0, 0), (55, .newarray .int, 2, 0, 0, 0, 0), (57, .putfield 30, 3, 0, 2, 6, 0), (60, .aload_n 0, 1, 0, 0, 0, 0), (61, .iconst 2, 1, 2, 0, 0, 0), (62, .putfield 33, 3, 0, 2, 10, 0), (65, .return_, 1, 0, 0, 0, 0)]
abbrev Y3_init : MethodName := ⟨"GingerArmy$Shelf", "<init>", "()V"⟩
abbrev M3_init : MethT := (3, C3_init, prog_5_method_1_code, 1, none, Y3_init)
abbrev C3_copyFrom : List CE := [(0, .aload_n 1, 1, 0, 0, 0, 0), (1, .getfield 9, 3, 0, 2, 0, 0), (4, .iconst 0, 1, 0, 0, 0, 0), (5, .aload_n 0, 1, 0, 0, 0, 0), (6, .getfield 9, 3, 0, 2, 0, 0), (9, .iconst 0, 1, 0, 0, 0, 0), (10, .bipush 8, 2, 8, 0, 0, 0), (12, .invokestatic 37, 3, 0, 0, 0, 0), (15, .aload_n 1, 1, 0, 0, 0, 0), (16, .getfield 15, 3, 0, 2, 1, 0), (19, .iconst 0, 1, 0, 0, 0, 0), (20, .aload_n 0, 1, 0, 0, 0, 0), (21, .getfield 15, 3, 0, 2, 1, 0), (24, .iconst 0, 1, 0, 0, 0, 0), (25, .bipush 8, 2, 8, 0, 0, 0), (27, .invokestatic 37, 3, 0, 0, 0, 0), (30, .aload_n 1, 1, 0, 0, 0, 0), (31, .getfield 18, 3, 0, 2, 2, 0), (34, .iconst 0, 1, 0, 0, 0, 0), (35, .aload_n 0, 1, 0, 0, 0, 0), (36, .getfield 18, 3, 0, 2, 2, 0), (39, .iconst 0, 1, 0, 0, 0, 0), (40, .bipush 8, 2, 8, 0, 0, 0), (42, .invokestatic 37, 3, 0, 0, 0, 0), (45, .aload_n 1, 1, 0, 0, 0, 0), (46, .getfield 21, 3, 0, 2, 3, 0), (49, .iconst 0, 1, 0, 0, 0, 0), (50, .aload_n 0, 1, 0, 0, 0, 0), (51, .getfield 21, 3, 0, 2, 3, 0), (54, .iconst 0, 1, 0, 0, 0, 0), (55, .bipush 8, 2, 8, 0, 0, 0), (57, .invokestatic 37, 3, 0, 0, 0, 0), (60, .aload_n 1, 1, 0, 0, 0, 0), (61, .getfield 24, 3, 0, 2, 4, 0), (64, .iconst 0, 1, 0, 0, 0, 0), (65, .aload_n 0, 1, 0, 0, 0, 0), (66, .getfield 24, 3, 0, 2, 4, 0), (69, .iconst 0, 1, 0, 0, 0, 0), (70, .bipush 8, 2, 8, 0, 0, 0), (72, .invokestatic 37, 3, 0, 0, 0, 0), (75, .aload_n 1, 1, 0, 0, 0, 0), (76, .getfield 27, 3, 0, 2, 5, 0), (79, .iconst 0, 1, 0, 0, 0, 0), (80, .aload_n 0, 1, 0, 0, 0, 0), (81, .getfield 27, 3, 0, 2, 5, 0), (84, .iconst 0, 1, 0, 0, 0, 0), (85, .bipush 8, 2, 8, 0, 0, 0), (87, .invokestatic 37, 3, 0, 0, 0, 0), (90, .aload_n 1, 1, 0, 0, 0, 0), (91, .getfield 30, 3, 0, 2, 6, 0), (94, .iconst 0, 1, 0, 0, 0, 0), (95, .aload_n 0, 1, 0, 0, 0, 0), (96, .getfield 30, 3, 0, 2, 6, 0), (99, .iconst 0, 1, 0, 0, 0, 0), (100, .bipush 8, 2, 8, 0, 0, 0), (102, .invokestatic 37, 3, 0, 0, 0, 0), (105, .aload_n 0, 1, 0, 0, 0, 0), (106, .aload_n 1, 1, 0, 0, 0, 0), (107, .getfield 43, 3, 0, 2, 7, 0), (110, .putfield 43, 3, 0, 2, 7, 0), (113, .aload_n 0, 1, 0, 0, 0, 0), (114, .aload_n 1, 1, 0, 0, 0, 0), (115, .getfield 46, 3, 0, 2, 8, 0), (118, .putfield 46, 3, 0, 2, 8, 0), (121, .aload_n 0, 1, 0, 0, 0, 0), (122, .aload_n 1, 1, 0, 0, 0, 0), (123, .getfield 49, 3, 0, 2, 9, 0), (126, .putfield 49, 3, 0, 2, 9, 0), (129, .aload_n 0, 1, 0, 0, 0, 0), (130, .aload_n 1, 1, 0, 0, 0, 0), (131, .getfield 33, 3, 0, 2, 10, 0), (134, .putfield 33, 3, 0, 2, 10, 0), (137, .aload_n 0, 1, 0, 0, 0, 0), (138, .aload_n 1, 1, 0, 0, 0, 0), (139, .getfield 52, 3, 0, 2, 11, 0), (142, .putfield 52, 3, 0, 2, 11, 0), (145, .aload_n 0, 1, 0, 0, 0, 0), (146, .aload_n 1, 1, 0, 0, 0, 0), (147, .getfield 55, 3, 0, 2, 12, 0), (150, .putfield 55, 3, 0, 2, 12, 0), (153, .return_, 1, 0, 0, 0, 0)]
abbrev Y3_copyFrom : MethodName := ⟨"GingerArmy$Shelf", "copyFrom", "(LGingerArmy$Shelf;)V"⟩
abbrev M3_copyFrom : MethT := (3, C3_copyFrom, prog_5_method_2_code, 2, none, Y3_copyFrom)
abbrev C3_has : List CE := [(0, .iload_n 1, 1, 0, 0, 0, 0), (1, .ifCond .lt 21, 3, 0, 22, 0, 0), (4, .iload_n 1, 1, 0, 0, 0, 0), (5, .aload_n 0, 1, 0, 0, 0, 0), (6, .getfield 43, 3, 0, 2, 7, 0), (9, .if_icmp .ge 13, 3, 0, 22, 0, 0), (12, .iload_n 1, 1, 0, 0, 0, 0), (13, .bipush 8, 2, 8, 0, 0, 0), (15, .if_icmp .ge 7, 3, 0, 22, 0, 0), (18, .iconst 1, 1, 1, 0, 0, 0), (19, .goto 4, 3, 0, 23, 0, 0), (22, .iconst 0, 1, 0, 0, 0, 0), (23, .ireturn, 1, 0, 0, 0, 0)]
abbrev Y3_has : MethodName := ⟨"GingerArmy$Shelf", "has", "(I)Z"⟩
abbrev M3_has : MethT := (3, C3_has, prog_5_method_3_code, 2, (some .boolean), Y3_has)
abbrev C3_isWhole : List CE := [(0, .iload_n 1, 1, 0, 0, 0, 0), (1, .ifCond .lt 24, 3, 0, 25, 0, 0), (4, .iload_n 1, 1, 0, 0, 0, 0), (5, .bipush 8, 2, 8, 0, 0, 0), (7, .if_icmp .ge 18, 3, 0, 25, 0, 0), (10, .aload_n 0, 1, 0, 0, 0, 0), (11, .getfield 46, 3, 0, 2, 8, 0), (14, .iload_n 1, 1, 0, 0, 0, 0), (15, .ishr, 1, 0, 0, 0, 0), (16, .iconst 1, 1, 1, 0, 0, 0), (17, .iand, 1, 0, 0, 0, 0), (18, .ifCond .eq 7, 3, 0, 25, 0, 0), (21, .iconst 1, 1, 1, 0, 0, 0), (22, .goto 4, 3, 0, 26, 0, 0), (25, .iconst 0, 1, 0, 0, 0, 0), (26, .ireturn, 1, 0, 0, 0, 0)]
abbrev Y3_isWhole : MethodName := ⟨"GingerArmy$Shelf", "isWhole", "(I)Z"⟩
abbrev M3_isWhole : MethT := (3, C3_isWhole, prog_5_method_4_code, 2, (some .boolean), Y3_isWhole)
abbrev C3_isCovered : List CE := [(0, .iload_n 1, 1, 0, 0, 0, 0), (1, .ifCond .lt 24, 3, 0, 25, 0, 0), (4, .iload_n 1, 1, 0, 0, 0, 0), (5, .bipush 8, 2, 8, 0, 0, 0), (7, .if_icmp .ge 18, 3, 0, 25, 0, 0), (10, .aload_n 0, 1, 0, 0, 0, 0), (11, .getfield 49, 3, 0, 2, 9, 0), (14, .iload_n 1, 1, 0, 0, 0, 0), (15, .ishr, 1, 0, 0, 0, 0), (16, .iconst 1, 1, 1, 0, 0, 0), (17, .iand, 1, 0, 0, 0, 0), (18, .ifCond .eq 7, 3, 0, 25, 0, 0), (21, .iconst 1, 1, 1, 0, 0, 0), (22, .goto 4, 3, 0, 26, 0, 0), (25, .iconst 0, 1, 0, 0, 0, 0), (26, .ireturn, 1, 0, 0, 0, 0)]
abbrev Y3_isCovered : MethodName := ⟨"GingerArmy$Shelf", "isCovered", "(I)Z"⟩
abbrev M3_isCovered : MethT := (3, C3_isCovered, prog_5_method_5_code, 2, (some .boolean), Y3_isCovered)
abbrev C3_kindOf : List CE := [(0, .aload_n 0, 1, 0, 0, 0, 0), (1, .iload_n 1, 1, 0, 0, 0, 0), (2, .invokevirtual 58, 3, 0, 0, 0, 0), (5, .ifCond .eq 12, 3, 0, 17, 0, 0), (8, .aload_n 0, 1, 0, 0, 0, 0), (9, .getfield 9, 3, 0, 2, 0, 0), (12, .iload_n 1, 1, 0, 0, 0, 0), (13, .iaload, 1, 0, 0, 0, 0), (14, .goto 4, 3, 0, 18, 0, 0), (17, .iconst 0, 1, 0, 0, 0, 0), (18, .ireturn, 1, 0, 0, 0, 0)]
abbrev Y3_kindOf : MethodName := ⟨"GingerArmy$Shelf", "kindOf", "(I)I"⟩
abbrev M3_kindOf : MethT := (3, C3_kindOf, prog_5_method_6_code, 2, (some .int), Y3_kindOf)
abbrev C3_figureOf : List CE := [(0, .aload_n 0, 1, 0, 0, 0, 0), (1, .iload_n 1, 1, 0, 0, 0, 0), (2, .invokevirtual 58, 3, 0, 0, 0, 0), (5, .ifCond .eq 12, 3, 0, 17, 0, 0), (8, .aload_n 0, 1, 0, 0, 0, 0), (9, .getfield 15, 3, 0, 2, 1, 0), (12, .iload_n 1, 1, 0, 0, 0, 0), (13, .iaload, 1, 0, 0, 0, 0), (14, .goto 4, 3, 0, 18, 0, 0), (17, .iconst 0, 1, 0, 0, 0, 0), (18, .ireturn, 1, 0, 0, 0, 0)]
abbrev Y3_figureOf : MethodName := ⟨"GingerArmy$Shelf", "figureOf", "(I)I"⟩
abbrev M3_figureOf : MethT := (3, C3_figureOf, prog_5_method_7_code, 2, (some .int), Y3_figureOf)
abbrev C3_placeOf : List CE := [(0, .aload_n 0, 1, 0, 0, 0, 0), (1, .iload_n 1, 1, 0, 0, 0, 0), (2, .invokevirtual 58, 3, 0, 0, 0, 0), (5, .ifCond .eq 12, 3, 0, 17, 0, 0), (8, .aload_n 0, 1, 0, 0, 0, 0), (9, .getfield 18, 3, 0, 2, 2, 0), (12, .iload_n 1, 1, 0, 0, 0, 0), (13, .iaload, 1, 0, 0, 0, 0), (14, .goto 4, 3, 0, 18, 0, 0), (17, .iconst 0, 1, 0, 0, 0, 0), (18, .ireturn, 1, 0, 0, 0, 0)]
abbrev Y3_placeOf : MethodName := ⟨"GingerArmy$Shelf", "placeOf", "(I)I"⟩
abbrev M3_placeOf : MethT := (3, C3_placeOf, prog_5_method_8_code, 2, (some .int), Y3_placeOf)
abbrev C3_pressOf : List CE := [(0, .aload_n 0, 1, 0, 0, 0, 0), (1, .iload_n 1, 1, 0, 0, 0, 0), (2, .invokevirtual 58, 3, 0, 0, 0, 0), (5, .ifCond .eq 12, 3, 0, 17, 0, 0), (8, .aload_n 0, 1, 0, 0, 0, 0), (9, .getfield 21, 3, 0, 2, 3, 0), (12, .iload_n 1, 1, 0, 0, 0, 0), (13, .iaload, 1, 0, 0, 0, 0), (14, .goto 4, 3, 0, 18, 0, 0), (17, .iconst 0, 1, 0, 0, 0, 0), (18, .ireturn, 1, 0, 0, 0, 0)]
abbrev Y3_pressOf : MethodName := ⟨"GingerArmy$Shelf", "pressOf", "(I)I"⟩
abbrev M3_pressOf : MethT := (3, C3_pressOf, prog_5_method_9_code, 2, (some .int), Y3_pressOf)
abbrev C3_riseOf : List CE := [(0, .aload_n 0, 1, 0, 0, 0, 0), (1, .iload_n 1, 1, 0, 0, 0, 0), (2, .invokevirtual 58, 3, 0, 0, 0, 0), (5, .ifCond .eq 12, 3, 0, 17, 0, 0), (8, .aload_n 0, 1, 0, 0, 0, 0), (9, .getfield 24, 3, 0, 2, 4, 0), (12, .iload_n 1, 1, 0, 0, 0, 0), (13, .iaload, 1, 0, 0, 0, 0), (14, .goto 4, 3, 0, 18, 0, 0), (17, .iconst 0, 1, 0, 0, 0, 0), (18, .ireturn, 1, 0, 0, 0, 0)]
abbrev Y3_riseOf : MethodName := ⟨"GingerArmy$Shelf", "riseOf", "(I)I"⟩
abbrev M3_riseOf : MethT := (3, C3_riseOf, prog_5_method_10_code, 2, (some .int), Y3_riseOf)
abbrev C3_bearOf : List CE := [(0, .aload_n 0, 1, 0, 0, 0, 0), (1, .iload_n 1, 1, 0, 0, 0, 0), (2, .invokevirtual 58, 3, 0, 0, 0, 0), (5, .ifCond .eq 12, 3, 0, 17, 0, 0), (8, .aload_n 0, 1, 0, 0, 0, 0), (9, .getfield 27, 3, 0, 2, 5, 0), (12, .iload_n 1, 1, 0, 0, 0, 0), (13, .iaload, 1, 0, 0, 0, 0), (14, .goto 4, 3, 0, 18, 0, 0), (17, .iconst 0, 1, 0, 0, 0, 0), (18, .ireturn, 1, 0, 0, 0, 0)]
abbrev Y3_bearOf : MethodName := ⟨"GingerArmy$Shelf", "bearOf", "(I)I"⟩
abbrev M3_bearOf : MethT := (3, C3_bearOf, prog_5_method_11_code, 2, (some .int), Y3_bearOf)
abbrev C3_shockOf : List CE := [(0, .aload_n 0, 1, 0, 0, 0, 0), (1, .iload_n 1, 1, 0, 0, 0, 0), (2, .invokevirtual 58, 3, 0, 0, 0, 0), (5, .ifCond .eq 12, 3, 0, 17, 0, 0), (8, .aload_n 0, 1, 0, 0, 0, 0), (9, .getfield 30, 3, 0, 2, 6, 0), (12, .iload_n 1, 1, 0, 0, 0, 0), (13, .iaload, 1, 0, 0, 0, 0), (14, .goto 4, 3, 0, 18, 0, 0), (17, .iconst 0, 1, 0, 0, 0, 0), (18, .ireturn, 1, 0, 0, 0, 0)]
abbrev Y3_shockOf : MethodName := ⟨"GingerArmy$Shelf", "shockOf", "(I)I"⟩
abbrev M3_shockOf : MethT := (3, C3_shockOf, prog_5_method_12_code, 2, (some .int), Y3_shockOf)
abbrev C3_add : List CE := [(0, .aload_n 0, 1, 0, 0, 0, 0), (1, .getfield 43, 3, 0, 2, 7, 0), (4, .ifCond .lt 12, 3, 0, 16, 0, 0), (7, .aload_n 0, 1, 0, 0, 0, 0), (8, .getfield 43, 3, 0, 2, 7, 0), (11, .bipush 8, 2, 8, 0, 0, 0), (13, .if_icmp .lt 4, 3, 0, 17, 0, 0), (16, .return_, 1, 0, 0, 0, 0), (17, .aload_n 0, 1, 0, 0, 0, 0), (18, .getfield 43, 3, 0, 2, 7, 0), (21, .istore 4, 2, 0, 0, 0, 0), (23, .aload_n 0, 1, 0, 0, 0, 0), (24, .dup, 1, 0, 0, 0, 0), (25, .getfield 43, 3, 0, 2, 7, 0), (28, .iconst 1, 1, 1, 0, 0, 0), (29, .iadd, 1, 0, 0, 0, 0), (30, .putfield 43, 3, 0, 2, 7, 0), (33, .aload_n 0, 1, 0, 0, 0, 0), (34, .dup, 1, 0, 0, 0, 0), (35, .getfield 46, 3, 0, 2, 8, 0), (38, .iconst 1, 1, 1, 0, 0, 0), (39, .iload 4, 2, 0, 0, 0, 0), (41, .ishl, 1, 0, 0, 0, 0), (42, .ior, 1, 0, 0, 0, 0), (43, .putfield 46, 3, 0, 2, 8, 0), (46, .aload_n 0, 1, 0, 0, 0, 0), (47, .getfield 18, 3, 0, 2, 2, 0), (50, .iload 4, 2, 0, 0, 0, 0), (52, .iload_n 3, 1, 0, 0, 0, 0), (53, .iastore, 1, 0, 0, 0, 0), (54, .aload_n 0, 1, 0, 0, 0, 0), (55, .iload 4, 2, 0, 0, 0, 0), (57, .iload_n 1, 1, 0, 0, 0, 0), (58, .iload_n 2, 1, 0, 0, 0, 0), (59, .invokevirtual 62, 3, 0, 0, 0, 0), (62, .return_, 1, 0, 0, 0, 0)]
abbrev Y3_add : MethodName := ⟨"GingerArmy$Shelf", "add", "(III)V"⟩
abbrev M3_add : MethT := (3, C3_add, prog_5_method_13_code, 5, none, Y3_add)
abbrev C3_become : List CE := [(0, .aload_n 0, 1, 0, 0, 0, 0), (1, .iload_n 1, 1, 0, 0, 0, 0), (2, .invokevirtual 58, 3, 0, 0, 0, 0), (5, .ifCond .ne 4, 3, 0, 9, 0, 0), (8, .return_, 1, 0, 0, 0, 0), (9, .aload_n 0, 1, 0, 0, 0, 0), (10, .getfield 9, 3, 0, 2, 0, 0), (13, .iload_n 1, 1, 0, 0, 0, 0), (14, .iload_n 2, 1, 0, 0, 0, 0), (15, .iastore, 1, 0, 0, 0, 0), (16, .aload_n 0, 1, 0, 0, 0, 0), (17, .getfield 15, 3, 0, 2, 1, 0), (20, .iload_n 1, 1, 0, 0, 0, 0), (21, .iload_n 3, 1, 0, 0, 0, 0), (22, .iastore, 1, 0, 0, 0, 0), (23, .aload_n 0, 1, 0, 0, 0, 0), (24, .getfield 24, 3, 0, 2, 4, 0), (27, .iload_n 1, 1, 0, 0, 0, 0), (28, .iload_n 2, 1, 0, 0, 0, 0), (29, .iload_n 3, 1, 0, 0, 0, 0), (30, .aload_n 0, 1, 0, 0, 0, 0), (31, .getfield 33, 3, 0, 2, 10, 0), (34, .aload_n 0, 1, 0, 0, 0, 0), (35, .getfield 52, 3, 0, 2, 11, 0), (38, .invokestatic 66, 3, 0, 0, 0, 0), (41, .iastore, 1, 0, 0, 0, 0), (42, .aload_n 0, 1, 0, 0, 0, 0), (43, .getfield 27, 3, 0, 2, 5, 0), (46, .iload_n 1, 1, 0, 0, 0, 0), (47, .iload_n 2, 1, 0, 0, 0, 0), (48, .iload_n 3, 1, 0, 0, 0, 0), (49, .invokestatic 72, 3, 0, 0, 0, 0), (52, .iastore, 1, 0, 0, 0, 0), (53, .aload_n 0, 1, 0, 0, 0, 0), (54, .getfield 30, 3, 0, 2, 6, 0), (57, .iload_n 1, 1, 0, 0, 0, 0), (58, .iload_n 2, 1, 0, 0, 0, 0), (59, .iload_n 3, 1, 0, 0, 0, 0), (60, .invokestatic 76, 3, 0, 0, 0, 0), (63, .iastore, 1, 0, 0, 0, 0), (64, .return_, 1, 0, 0, 0, 0)]
abbrev Y3_become : MethodName := ⟨"GingerArmy$Shelf", "become", "(III)V"⟩
abbrev M3_become : MethT := (3, C3_become, prog_5_method_14_code, 4, none, Y3_become)
abbrev C3_nourish : List CE := [(0, .aload_n 0, 1, 0, 0, 0, 0), (1, .iload_n 1, 1, 0, 0, 0, 0), (2, .putfield 33, 3, 0, 2, 10, 0), (5, .aload_n 0, 1, 0, 0, 0, 0), (6, .iload_n 2, 1, 0, 0, 0, 0), (7, .putfield 52, 3, 0, 2, 11, 0), (10, .iconst 0, 1, 0, 0, 0, 0), (11, .istore_n 3, 1, 0, 0, 0, 0), (12, .iload_n 3, 1, 0, 0, 0, 0), (13, .bipush 8, 2, 8, 0, 0, 0), (15, .if_icmp .ge 32, 3, 0, 47, 0, 0), (18, .aload_n 0, 1, 0, 0, 0, 0), (19, .getfield 24, 3, 0, 2, 4, 0), (22, .iload_n 3, 1, 0, 0, 0, 0), (23, .aload_n 0, 1, 0, 0, 0, 0), (24, .getfield 9, 3, 0, 2, 0, 0), (27, .iload_n 3, 1, 0, 0, 0, 0), (28, .iaload, 1, 0, 0, 0, 0), (29, .aload_n 0, 1, 0, 0, 0, 0), (30, .getfield 15, 3, 0, 2, 1, 0), (33, .iload_n 3, 1, 0, 0, 0, 0), (34, .iaload, 1, 0, 0, 0, 0), (35, .iload_n 1, 1, 0, 0, 0, 0), (36, .iload_n 2, 1, 0, 0, 0, 0), (37, .invokestatic 66, 3, 0, 0, 0, 0), (40, .iastore, 1, 0, 0, 0, 0), (41, .iinc 3 1, 3, 1, 0, 0, 0), (44, .goto (-32), 3, 0, 12, 0, 0), (47, .return_, 1, 0, 0, 0, 0)]
abbrev Y3_nourish : MethodName := ⟨"GingerArmy$Shelf", "nourish", "(II)V"⟩
abbrev M3_nourish : MethT := (3, C3_nourish, prog_5_method_15_code, 4, none, Y3_nourish)
abbrev C3_setPress : List CE := [(0, .aload_n 0, 1, 0, 0, 0, 0), (1, .iload_n 1, 1, 0, 0, 0, 0), (2, .invokevirtual 58, 3, 0, 0, 0, 0), (5, .ifCond .eq 10, 3, 0, 15, 0, 0), (8, .aload_n 0, 1, 0, 0, 0, 0), (9, .getfield 21, 3, 0, 2, 3, 0), (12, .iload_n 1, 1, 0, 0, 0, 0), (13, .iload_n 2, 1, 0, 0, 0, 0), (14, .iastore, 1, 0, 0, 0, 0), (15, .return_, 1, 0, 0, 0, 0)]
abbrev Y3_setPress : MethodName := ⟨"GingerArmy$Shelf", "setPress", "(II)V"⟩
abbrev M3_setPress : MethT := (3, C3_setPress, prog_5_method_16_code, 3, none, Y3_setPress)
abbrev C3_setPlace : List CE := [(0, .aload_n 0, 1, 0, 0, 0, 0), (1, .iload_n 1, 1, 0, 0, 0, 0), (2, .invokevirtual 58, 3, 0, 0, 0, 0), (5, .ifCond .eq 10, 3, 0, 15, 0, 0), (8, .aload_n 0, 1, 0, 0, 0, 0), (9, .getfield 18, 3, 0, 2, 2, 0), (12, .iload_n 1, 1, 0, 0, 0, 0), (13, .iload_n 2, 1, 0, 0, 0, 0), (14, .iastore, 1, 0, 0, 0, 0), (15, .return_, 1, 0, 0, 0, 0)]
abbrev Y3_setPlace : MethodName := ⟨"GingerArmy$Shelf", "setPlace", "(II)V"⟩
abbrev M3_setPlace : MethT := (3, C3_setPlace, prog_5_method_17_code, 3, none, Y3_setPlace)
abbrev C3_turnTowel : List CE := [(0, .aload_n 0, 1, 0, 0, 0, 0), (1, .iload_n 1, 1, 0, 0, 0, 0), (2, .invokevirtual 58, 3, 0, 0, 0, 0), (5, .ifCond .eq 15, 3, 0, 20, 0, 0), (8, .aload_n 0, 1, 0, 0, 0, 0), (9, .dup, 1, 0, 0, 0, 0), (10, .getfield 49, 3, 0, 2, 9, 0), (13, .iconst 1, 1, 1, 0, 0, 0), (14, .iload_n 1, 1, 0, 0, 0, 0), (15, .ishl, 1, 0, 0, 0, 0), (16, .ixor, 1, 0, 0, 0, 0), (17, .putfield 49, 3, 0, 2, 9, 0), (20, .return_, 1, 0, 0, 0, 0)]
abbrev Y3_turnTowel : MethodName := ⟨"GingerArmy$Shelf", "turnTowel", "(I)V"⟩
abbrev M3_turnTowel : MethT := (3, C3_turnTowel, prog_5_method_18_code, 2, none, Y3_turnTowel)
abbrev C3_takeAway : List CE := [(0, .aload_n 0, 1, 0, 0, 0, 0), (1, .iload_n 1, 1, 0, 0, 0, 0), (2, .invokevirtual 58, 3, 0, 0, 0, 0), (5, .ifCond .eq 17, 3, 0, 22, 0, 0), (8, .aload_n 0, 1, 0, 0, 0, 0), (9, .dup, 1, 0, 0, 0, 0), (10, .getfield 46, 3, 0, 2, 8, 0), (13, .iconst 1, 1, 1, 0, 0, 0), (14, .iload_n 1, 1, 0, 0, 0, 0), (15, .ishl, 1, 0, 0, 0, 0), (16, .iconst (-1), 1, -1, 0, 0, 0), (17, .ixor, 1, 0, 0, 0, 0), (18, .iand, 1, 0, 0, 0, 0), (19, .putfield 46, 3, 0, 2, 8, 0), (22, .return_, 1, 0, 0, 0, 0)]
abbrev Y3_takeAway : MethodName := ⟨"GingerArmy$Shelf", "takeAway", "(I)V"⟩
abbrev M3_takeAway : MethT := (3, C3_takeAway, prog_5_method_19_code, 2, none, Y3_takeAway)
abbrev C3_halvePress : List CE := [(0, .iconst 0, 1, 0, 0, 0, 0), (1, .istore_n 1, 1, 0, 0, 0, 0), (2, .iload_n 1, 1, 0, 0, 0, 0), (3, .bipush 8, 2, 8, 0, 0, 0), (5, .if_icmp .ge 27, 3, 0, 32, 0, 0), (8, .aload_n 0, 1, 0, 0, 0, 0), (9, .iload_n 1, 1, 0, 0, 0, 0), (10, .invokevirtual 79, 3, 0, 0, 0, 0), (13, .ifCond .eq 13, 3, 0, 26, 0, 0), (16, .aload_n 0, 1, 0, 0, 0, 0), (17, .getfield 21, 3, 0, 2, 3, 0), (20, .iload_n 1, 1, 0, 0, 0, 0), (21, .dup2, 1, 0, 0, 0, 0), (22, .iaload, 1, 0, 0, 0, 0), (23, .iconst 2, 1, 2, 0, 0, 0), (24, .idiv, 1, 0, 0, 0, 0), (25, .iastore, 1, 0, 0, 0, 0), (26, .iinc 1 1, 3, 1, 0, 0, 0), (29, .goto (-27), 3, 0, 2, 0, 0), (32, .return_, 1, 0, 0, 0, 0)]
abbrev Y3_halvePress : MethodName := ⟨"GingerArmy$Shelf", "halvePress", "()V"⟩
abbrev M3_halvePress : MethT := (3, C3_halvePress, prog_5_method_20_code, 2, none, Y3_halvePress)
abbrev C3_pass : List CE := [(0, .iconst 0, 1, 0, 0, 0, 0), (1, .istore_n 2, 1, 0, 0, 0, 0), (2, .iload_n 2, 1, 0, 0, 0, 0), (3, .iload_n 1, 1, 0, 0, 0, 0), (4, .if_icmp .ge 13, 3, 0, 17, 0, 0), (7, .aload_n 0, 1, 0, 0, 0, 0), (8, .invokevirtual 82, 3, 0, 0, 0, 0), (11, .iinc 2 1, 3, 1, 0, 0, 0), (14, .goto (-12), 3, 0, 2, 0, 0), (17, .return_, 1, 0, 0, 0, 0)]
abbrev Y3_pass : MethodName := ⟨"GingerArmy$Shelf", "pass", "(I)V"⟩
abbrev M3_pass : MethT := (3, C3_pass, prog_5_method_21_code, 3, none, Y3_pass)
abbrev C3_dayGoesBy : List CE := [(0, .iconst 0, 1, 0, 0, 0, 0), (1, .istore_n 1, 1, 0, 0, 0, 0), (2, .iload_n 1, 1, 0, 0, 0, 0), (3, .bipush 8, 2, 8, 0, 0, 0), (5, .if_icmp .ge 55, 3, 0, 60, 0, 0), (8, .aload_n 0, 1, 0, 0, 0, 0), (9, .getfield 46, 3, 0, 2, 8, 0), (12, .iload_n 1, 1, 0, 0, 0, 0), (13, .ishr, 1, 0, 0, 0, 0), (14, .iconst 1, 1, 1, 0, 0, 0), (15, .iand, 1, 0, 0, 0, 0), (16, .ifCond .ne 6, 3, 0, 22, 0, 0), (19, .goto 35, 3, 0, 54, 0, 0), (22, .aload_n 0, 1, 0, 0, 0, 0), (23, .getfield 21, 3, 0, 2, 3, 0), (26, .iload_n 1, 1, 0, 0, 0, 0), (27, .iaload, 1, 0, 0, 0, 0), (28, .aload_n 0, 1, 0, 0, 0, 0), (29, .getfield 24, 3, 0, 2, 4, 0), (32, .iload_n 1, 1, 0, 0, 0, 0), (33, .iaload, 1, 0, 0, 0, 0), (34, .iadd, 1, 0, 0, 0, 0), (35, .istore_n 2, 1, 0, 0, 0, 0), (36, .aload_n 0, 1, 0, 0, 0, 0), (37, .getfield 21, 3, 0, 2, 3, 0), (40, .iload_n 1, 1, 0, 0, 0, 0), (41, .iload_n 2, 1, 0, 0, 0, 0), (42, .bipush 99, 2, 99, 0, 0, 0), (44, .if_icmp .le 8, 3, 0, 52, 0, 0), (47, .bipush 99, 2, 99, 0, 0, 0), (49, .goto 4, 3, 0, 53, 0, 0), (52, .iload_n 2, 1, 0, 0, 0, 0), (53, .iastore, 1, 0, 0, 0, 0), (54, .iinc 1 1, 3, 1, 0, 0, 0), (57, .goto (-55), 3, 0, 2, 0, 0), (60, .aload_n 0, 1, 0, 0, 0, 0), (61, .invokevirtual 85, 3, 0, 0, 0, 0), (64, .aload_n 0, 1, 0, 0, 0, 0), (65, .dup, 1, 0, 0, 0, 0), (66, .getfield 55, 3, 0, 2, 12, 0), (69, .iconst 1, 1, 1, 0, 0, 0), (70, .iadd, 1, 0, 0, 0, 0), (71, .putfield 55, 3, 0, 2, 12, 0), (74, .return_, 1, 0, 0, 0, 0)]
abbrev Y3_dayGoesBy : MethodName := ⟨"GingerArmy$Shelf", "dayGoesBy", "()V"⟩
abbrev M3_dayGoesBy : MethT := (3, C3_dayGoesBy, prog_5_method_22_code, 3, none, Y3_dayGoesBy)
abbrev C3_settle : List CE := [(0, .iconst 0, 1, 0, 0, 0, 0), (1, .istore_n 1, 1, 0, 0, 0, 0), (2, .iload_n 1, 1, 0, 0, 0, 0), (3, .bipush 8, 2, 8, 0, 0, 0), (5, .if_icmp .ge 72, 3, 0, 77, 0, 0), (8, .bipush (-9), 2, -9, 0, 0, 0), (10, .istore_n 2, 1, 0, 0, 0, 0), (11, .iconst 0, 1, 0, 0, 0, 0), (12, .istore_n 3, 1, 0, 0, 0, 0), (13, .iload_n 3, 1, 0, 0, 0, 0), (14, .bipush 8, 2, 8, 0, 0, 0), (16, .if_icmp .ge 43, 3, 0, 59, 0, 0), (19, .iload_n 2, 1, 0, 0, 0, 0), (20, .bipush (-9), 2, -9, 0, 0, 0), (22, .if_icmp .ne 37, 3, 0, 59, 0, 0), (25, .aload_n 0, 1, 0, 0, 0, 0), (26, .getfield 46, 3, 0, 2, 8, 0), (29, .iload_n 3, 1, 0, 0, 0, 0), (30, .ishr, 1, 0, 0, 0, 0), (31, .iconst 1, 1, 1, 0, 0, 0), (32, .iand, 1, 0, 0, 0, 0), (33, .ifCond .eq 20, 3, 0, 53, 0, 0), (36, .aload_n 0, 1, 0, 0, 0, 0), (37, .getfield 21, 3, 0, 2, 3, 0), (40, .iload_n 3, 1, 0, 0, 0, 0), (41, .iaload, 1, 0, 0, 0, 0), (42, .aload_n 0, 1, 0, 0, 0, 0), (43, .getfield 27, 3, 0, 2, 5, 0), (46, .iload_n 3, 1, 0, 0, 0, 0), (47, .iaload, 1, 0, 0, 0, 0), (48, .if_icmp .le 5, 3, 0, 53, 0, 0), (51, .iload_n 3, 1, 0, 0, 0, 0), (52, .istore_n 2, 1, 0, 0, 0, 0), (53, .iinc 3 1, 3, 1, 0, 0, 0), (56, .goto (-43), 3, 0, 13, 0, 0), (59, .iload_n 2, 1, 0, 0, 0, 0), (60, .bipush (-9), 2, -9, 0, 0, 0), (62, .if_icmp .ne 4, 3, 0, 66, 0, 0), (65, .return_, 1, 0, 0, 0, 0), (66, .aload_n 0, 1, 0, 0, 0, 0), (67, .iload_n 2, 1, 0, 0, 0, 0), (68, .invokevirtual 88, 3, 0, 0, 0, 0), (71, .iinc 1 1, 3, 1, 0, 0, 0), (74, .goto (-72), 3, 0, 2, 0, 0), (77, .return_, 1, 0, 0, 0, 0)]
abbrev Y3_settle : MethodName := ⟨"GingerArmy$Shelf", "settle", "()V"⟩
abbrev M3_settle : MethT := (3, C3_settle, prog_5_method_23_code, 4, none, Y3_settle)
abbrev C3_burst : List CE := [(0, .iload_n 1, 1, 0, 0, 0, 0), (1, .ifCond .lt 9, 3, 0, 10, 0, 0), (4, .iload_n 1, 1, 0, 0, 0, 0), (5, .bipush 8, 2, 8, 0, 0, 0), (7, .if_icmp .lt 4, 3, 0, 11, 0, 0), (10, .return_, 1, 0, 0, 0, 0), (11, .aload_n 0, 1, 0, 0, 0, 0), (12, .dup, 1, 0, 0, 0, 0), (13, .getfield 46, 3, 0, 2, 8, 0), (16, .iconst 1, 1, 1, 0, 0, 0), (17, .iload_n 1, 1, 0, 0, 0, 0), (18, .ishl, 1, 0, 0, 0, 0), (19, .iconst (-1), 1, -1, 0, 0, 0), (20, .ixor, 1, 0, 0, 0, 0), (21, .iand, 1, 0, 0, 0, 0), (22, .putfield 46, 3, 0, 2, 8, 0), (25, .aload_n 0, 1, 0, 0, 0, 0), (26, .getfield 46, 3, 0, 2, 8, 0), (29, .aload_n 0, 1, 0, 0, 0, 0), (30, .getfield 49, 3, 0, 2, 9, 0), (33, .iconst (-1), 1, -1, 0, 0, 0), (34, .ixor, 1, 0, 0, 0, 0), (35, .iand, 1, 0, 0, 0, 0), (36, .istore_n 2, 1, 0, 0, 0, 0), (37, .iconst 0, 1, 0, 0, 0, 0), (38, .istore_n 3, 1, 0, 0, 0, 0), (39, .iload_n 3, 1, 0, 0, 0, 0), (40, .bipush 8, 2, 8, 0, 0, 0), (42, .if_icmp .ge 83, 3, 0, 125, 0, 0), (45, .aload_n 0, 1, 0, 0, 0, 0), (46, .getfield 18, 3, 0, 2, 2, 0), (49, .iload_n 1, 1, 0, 0, 0, 0), (50, .iaload, 1, 0, 0, 0, 0), (51, .aload_n 0, 1, 0, 0, 0, 0), (52, .getfield 18, 3, 0, 2, 2, 0), (55, .iload_n 3, 1, 0, 0, 0, 0), (56, .iaload, 1, 0, 0, 0, 0), (57, .isub, 1, 0, 0, 0, 0), (58, .istore 4, 2, 0, 0, 0, 0), (60, .iload_n 2, 1, 0, 0, 0, 0), (61, .iload_n 3, 1, 0, 0, 0, 0), (62, .ishr, 1, 0, 0, 0, 0), (63, .iconst 1, 1, 1, 0, 0, 0), (64, .iand, 1, 0, 0, 0, 0), (65, .ifCond .eq 54, 3, 0, 119, 0, 0), (68, .iload 4, 2, 0, 0, 0, 0), (70, .iconst 2, 1, 2, 0, 0, 0), (71, .if_icmp .gt 48, 3, 0, 119, 0, 0), (74, .iload 4, 2, 0, 0, 0, 0), (76, .bipush (-2), 2, -2, 0, 0, 0), (78, .if_icmp .ge 6, 3, 0, 84, 0, 0), (81, .goto 38, 3, 0, 119, 0, 0), (84, .aload_n 0, 1, 0, 0, 0, 0), (85, .getfield 21, 3, 0, 2, 3, 0), (88, .iload_n 3, 1, 0, 0, 0, 0), (89, .iaload, 1, 0, 0, 0, 0), (90, .aload_n 0, 1, 0, 0, 0, 0), (91, .getfield 30, 3, 0, 2, 6, 0), (94, .iload_n 1, 1, 0, 0, 0, 0), (95, .iaload, 1, 0, 0, 0, 0), (96, .iadd, 1, 0, 0, 0, 0), (97, .istore 5, 2, 0, 0, 0, 0), (99, .aload_n 0, 1, 0, 0, 0, 0), (100, .getfield 21, 3, 0, 2, 3, 0), (103, .iload_n 3, 1, 0, 0, 0, 0), (104, .iload 5, 2, 0, 0, 0, 0), (106, .bipush 99, 2, 99, 0, 0, 0), (108, .if_icmp .le 8, 3, 0, 116, 0, 0), (111, .bipush 99, 2, 99, 0, 0, 0), (113, .goto 5, 3, 0, 118, 0, 0), (116, .iload 5, 2, 0, 0, 0, 0), (118, .iastore, 1, 0, 0, 0, 0), (119, .iinc 3 1, 3, 1, 0, 0, 0), (122, .goto (-83), 3, 0, 39, 0, 0), (125, .return_, 1, 0, 0, 0, 0)]
abbrev Y3_burst : MethodName := ⟨"GingerArmy$Shelf", "burst", "(I)V"⟩
abbrev M3_burst : MethT := (3, C3_burst, prog_5_method_24_code, 6, none, Y3_burst)
abbrev C3_wholeAt : List CE := [(0, .iconst 0, 1, 0, 0, 0, 0), (1, .istore_n 2, 1, 0, 0, 0, 0), (2, .iload_n 2, 1, 0, 0, 0, 0), (3, .bipush 8, 2, 8, 0, 0, 0), (5, .if_icmp .ge 29, 3, 0, 34, 0, 0), (8, .aload_n 0, 1, 0, 0, 0, 0), (9, .iload_n 2, 1, 0, 0, 0, 0), (10, .invokevirtual 79, 3, 0, 0, 0, 0), (13, .ifCond .eq 15, 3, 0, 28, 0, 0), (16, .aload_n 0, 1, 0, 0, 0, 0), (17, .getfield 18, 3, 0, 2, 2, 0), (20, .iload_n 2, 1, 0, 0, 0, 0), (21, .iaload, 1, 0, 0, 0, 0), (22, .iload_n 1, 1, 0, 0, 0, 0), (23, .if_icmp .ne 5, 3, 0, 28, 0, 0), (26, .iload_n 2, 1, 0, 0, 0, 0), (27, .ireturn, 1, 0, 0, 0, 0), (28, .iinc 2 1, 3, 1, 0, 0, 0), (31, .goto (-29), 3, 0, 2, 0, 0), (34, .bipush (-9), 2, -9, 0, 0, 0), (36, .ireturn, 1, 0, 0, 0, 0)]
abbrev Y3_wholeAt : MethodName := ⟨"GingerArmy$Shelf", "wholeAt", "(I)I"⟩
abbrev M3_wholeAt : MethT := (3, C3_wholeAt, prog_5_method_25_code, 3, (some .int), Y3_wholeAt)
abbrev C3_pressOfWhole : List CE := [(0, .iconst 0, 1, 0, 0, 0, 0), (1, .istore_n 1, 1, 0, 0, 0, 0), (2, .iconst 0, 1, 0, 0, 0, 0), (3, .istore_n 2, 1, 0, 0, 0, 0), (4, .iload_n 2, 1, 0, 0, 0, 0), (5, .bipush 8, 2, 8, 0, 0, 0), (7, .if_icmp .ge 26, 3, 0, 33, 0, 0), (10, .aload_n 0, 1, 0, 0, 0, 0), (11, .iload_n 2, 1, 0, 0, 0, 0), (12, .invokevirtual 79, 3, 0, 0, 0, 0), (15, .ifCond .eq 12, 3, 0, 27, 0, 0), (18, .iload_n 1, 1, 0, 0, 0, 0), (19, .aload_n 0, 1, 0, 0, 0, 0), (20, .getfield 21, 3, 0, 2, 3, 0), (23, .iload_n 2, 1, 0, 0, 0, 0), (24, .iaload, 1, 0, 0, 0, 0), (25, .iadd, 1, 0, 0, 0, 0), (26, .istore_n 1, 1, 0, 0, 0, 0), (27, .iinc 2 1, 3, 1, 0, 0, 0), (30, .goto (-26), 3, 0, 4, 0, 0), (33, .iload_n 1, 1, 0, 0, 0, 0), (34, .ireturn, 1, 0, 0, 0, 0)]
abbrev Y3_pressOfWhole : MethodName := ⟨"GingerArmy$Shelf", "pressOfWhole", "()I"⟩
abbrev M3_pressOfWhole : MethT := (3, C3_pressOfWhole, prog_5_method_26_code, 3, (some .int), Y3_pressOfWhole)
abbrev C3_wholeOfKind : List CE := [(0, .iconst 0, 1, 0, 0, 0, 0), (1, .istore_n 2, 1, 0, 0, 0, 0), (2, .iconst 0, 1, 0, 0, 0, 0), (3, .istore_n 3, 1, 0, 0, 0, 0), (4, .iload_n 3, 1, 0, 0, 0, 0), (5, .bipush 8, 2, 8, 0, 0, 0), (7, .if_icmp .ge 30, 3, 0, 37, 0, 0), (10, .aload_n 0, 1, 0, 0, 0, 0), (11, .iload_n 3, 1, 0, 0, 0, 0), (12, .invokevirtual 79, 3, 0, 0, 0, 0), (15, .ifCond .eq 16, 3, 0, 31, 0, 0), (18, .aload_n 0, 1, 0, 0, 0, 0), (19, .getfield 9, 3, 0, 2, 0, 0), (22, .iload_n 3, 1, 0, 0, 0, 0), (23, .iaload, 1, 0, 0, 0, 0), (24, .iload_n 1, 1, 0, 0, 0, 0), (25, .if_icmp .ne 6, 3, 0, 31, 0, 0), (28, .iinc 2 1, 3, 1, 0, 0, 0), (31, .iinc 3 1, 3, 1, 0, 0, 0), (34, .goto (-30), 3, 0, 4, 0, 0), (37, .iload_n 2, 1, 0, 0, 0, 0), (38, .ireturn, 1, 0, 0, 0, 0)]
abbrev Y3_wholeOfKind : MethodName := ⟨"GingerArmy$Shelf", "wholeOfKind", "(I)I"⟩
abbrev M3_wholeOfKind : MethT := (3, C3_wholeOfKind, prog_5_method_27_code, 4, (some .int), Y3_wholeOfKind)
abbrev C3_nearTo : List CE := [(0, .iconst 0, 1, 0, 0, 0, 0), (1, .istore_n 2, 1, 0, 0, 0, 0), (2, .aload_n 0, 1, 0, 0, 0, 0), (3, .iload_n 1, 1, 0, 0, 0, 0), (4, .invokevirtual 58, 3, 0, 0, 0, 0), (7, .ifCond .ne 5, 3, 0, 12, 0, 0), (10, .iload_n 2, 1, 0, 0, 0, 0), (11, .ireturn, 1, 0, 0, 0, 0), (12, .iconst 0, 1, 0, 0, 0, 0), (13, .istore_n 3, 1, 0, 0, 0, 0), (14, .iload_n 3, 1, 0, 0, 0, 0), (15, .bipush 8, 2, 8, 0, 0, 0), (17, .if_icmp .ge 48, 3, 0, 65, 0, 0), (20, .iload_n 3, 1, 0, 0, 0, 0), (21, .iload_n 1, 1, 0, 0, 0, 0), (22, .if_icmp .eq 37, 3, 0, 59, 0, 0), (25, .aload_n 0, 1, 0, 0, 0, 0), (26, .iload_n 3, 1, 0, 0, 0, 0), (27, .invokevirtual 79, 3, 0, 0, 0, 0), (30, .ifCond .eq 29, 3, 0, 59, 0, 0), (33, .aload_n 0, 1, 0, 0, 0, 0), (34, .getfield 18, 3, 0, 2, 2, 0), (37, .iload_n 1, 1, 0, 0, 0, 0), (38, .iaload, 1, 0, 0, 0, 0), (39, .aload_n 0, 1, 0, 0, 0, 0), (40, .getfield 18, 3, 0, 2, 2, 0), (43, .iload_n 3, 1, 0, 0, 0, 0), (44, .iaload, 1, 0, 0, 0, 0), (45, .isub, 1, 0, 0, 0, 0), (46, .invokestatic 92, 3, 0, 0, 0, 0), (49, .iconst 2, 1, 2, 0, 0, 0), (50, .if_icmp .gt 9, 3, 0, 59, 0, 0), (53, .iload_n 2, 1, 0, 0, 0, 0), (54, .iconst 1, 1, 1, 0, 0, 0), (55, .iload_n 3, 1, 0, 0, 0, 0), (56, .ishl, 1, 0, 0, 0, 0), (57, .ior, 1, 0, 0, 0, 0), (58, .istore_n 2, 1, 0, 0, 0, 0), (59, .iinc 3 1, 3, 1, 0, 0, 0), (62, .goto (-48), 3, 0, 14, 0, 0), (65, .iload_n 2, 1, 0, 0, 0, 0), (66, .ireturn, 1, 0, 0, 0, 0)]
abbrev Y3_nearTo : MethodName := ⟨"GingerArmy$Shelf", "nearTo", "(I)I"⟩
abbrev M3_nearTo : MethT := (3, C3_nearTo, prog_5_method_28_code, 4, (some .int), Y3_nearTo)
abbrev C3_pairsNear : List CE := [(0, .iconst 0, 1, 0, 0, 0, 0), (1, .istore_n 1, 1, 0, 0, 0, 0), (2, .iconst 0, 1, 0, 0, 0, 0), (3, .istore_n 2, 1, 0, 0, 0, 0), (4, .iload_n 2, 1, 0, 0, 0, 0), (5, .bipush 8, 2, 8, 0, 0, 0), (7, .if_icmp .ge 28, 3, 0, 35, 0, 0), (10, .aload_n 0, 1, 0, 0, 0, 0), (11, .iload_n 2, 1, 0, 0, 0, 0), (12, .invokevirtual 79, 3, 0, 0, 0, 0), (15, .ifCond .eq 14, 3, 0, 29, 0, 0), (18, .iload_n 1, 1, 0, 0, 0, 0), (19, .aload_n 0, 1, 0, 0, 0, 0), (20, .iload_n 2, 1, 0, 0, 0, 0), (21, .invokevirtual 98, 3, 0, 0, 0, 0), (24, .invokestatic 101, 3, 0, 0, 0, 0), (27, .iadd, 1, 0, 0, 0, 0), (28, .istore_n 1, 1, 0, 0, 0, 0), (29, .iinc 2 1, 3, 1, 0, 0, 0), (32, .goto (-28), 3, 0, 4, 0, 0), (35, .iload_n 1, 1, 0, 0, 0, 0), (36, .iconst 2, 1, 2, 0, 0, 0), (37, .idiv, 1, 0, 0, 0, 0), (38, .ireturn, 1, 0, 0, 0, 0)]
abbrev Y3_pairsNear : MethodName := ⟨"GingerArmy$Shelf", "pairsNear", "()I"⟩
abbrev M3_pairsNear : MethT := (3, C3_pairsNear, prog_5_method_29_code, 3, (some .int), Y3_pairsNear)
abbrev C3_tightestOne : List CE := [(0, .bipush (-9), 2, -9, 0, 0, 0), (2, .istore_n 1, 1, 0, 0, 0, 0), (3, .iconst 0, 1, 0, 0, 0, 0), (4, .istore_n 2, 1, 0, 0, 0, 0), (5, .iconst 0, 1, 0, 0, 0, 0), (6, .istore_n 3, 1, 0, 0, 0, 0), (7, .iload_n 3, 1, 0, 0, 0, 0), (8, .bipush 8, 2, 8, 0, 0, 0), (10, .if_icmp .ge 56, 3, 0, 66, 0, 0), (13, .aload_n 0, 1, 0, 0, 0, 0), (14, .iload_n 3, 1, 0, 0, 0, 0), (15, .invokevirtual 79, 3, 0, 0, 0, 0), (18, .ifCond .eq 42, 3, 0, 60, 0, 0), (21, .iload_n 1, 1, 0, 0, 0, 0), (22, .bipush (-9), 2, -9, 0, 0, 0), (24, .if_icmp .eq 20, 3, 0, 44, 0, 0), (27, .aload_n 0, 1, 0, 0, 0, 0), (28, .getfield 27, 3, 0, 2, 5, 0), (31, .iload_n 3, 1, 0, 0, 0, 0), (32, .iaload, 1, 0, 0, 0, 0), (33, .aload_n 0, 1, 0, 0, 0, 0), (34, .getfield 21, 3, 0, 2, 3, 0), (37, .iload_n 3, 1, 0, 0, 0, 0), (38, .iaload, 1, 0, 0, 0, 0), (39, .isub, 1, 0, 0, 0, 0), (40, .iload_n 2, 1, 0, 0, 0, 0), (41, .if_icmp .ge 19, 3, 0, 60, 0, 0), (44, .iload_n 3, 1, 0, 0, 0, 0), (45, .istore_n 1, 1, 0, 0, 0, 0), (46, .aload_n 0, 1, 0, 0, 0, 0), (47, .getfield 27, 3, 0, 2, 5, 0), (50, .iload_n 3, 1, 0, 0, 0, 0), (51, .iaload, 1, 0, 0, 0, 0), (52, .aload_n 0, 1, 0, 0, 0, 0), (53, .getfield 21, 3, 0, 2, 3, 0), (56, .iload_n 3, 1, 0, 0, 0, 0), (57, .iaload, 1, 0, 0, 0, 0), (58, .isub, 1, 0, 0, 0, 0), (59, .istore_n 2, 1, 0, 0, 0, 0), (60, .iinc 3 1, 3, 1, 0, 0, 0), (63, .goto (-56), 3, 0, 7, 0, 0), (66, .iload_n 1, 1, 0, 0, 0, 0), (67, .ireturn, 1, 0, 0, 0, 0)]
abbrev Y3_tightestOne : MethodName := ⟨"GingerArmy$Shelf", "tightestOne", "()I"⟩
abbrev M3_tightestOne : MethT := (3, C3_tightestOne, prog_5_method_30_code, 4, (some .int), Y3_tightestOne)
abbrev C3_longestGap : List CE := [(0, .iconst 0, 1, 0, 0, 0, 0), (1, .istore_n 1, 1, 0, 0, 0, 0), (2, .iconst 0, 1, 0, 0, 0, 0), (3, .istore_n 2, 1, 0, 0, 0, 0), (4, .iconst 0, 1, 0, 0, 0, 0), (5, .istore_n 3, 1, 0, 0, 0, 0), (6, .iload_n 3, 1, 0, 0, 0, 0), (7, .bipush 15, 2, 15, 0, 0, 0), (9, .if_icmp .ge 33, 3, 0, 42, 0, 0), (12, .aload_n 0, 1, 0, 0, 0, 0), (13, .iload_n 3, 1, 0, 0, 0, 0), (14, .invokevirtual 106, 3, 0, 0, 0, 0), (17, .bipush (-9), 2, -9, 0, 0, 0), (19, .if_icmp .ne 9, 3, 0, 28, 0, 0), (22, .iload_n 2, 1, 0, 0, 0, 0), (23, .iconst 1, 1, 1, 0, 0, 0), (24, .iadd, 1, 0, 0, 0, 0), (25, .goto 4, 3, 0, 29, 0, 0), (28, .iconst 0, 1, 0, 0, 0, 0), (29, .istore_n 2, 1, 0, 0, 0, 0), (30, .iload_n 1, 1, 0, 0, 0, 0), (31, .iload_n 2, 1, 0, 0, 0, 0), (32, .invokestatic 109, 3, 0, 0, 0, 0), (35, .istore_n 1, 1, 0, 0, 0, 0), (36, .iinc 3 1, 3, 1, 0, 0, 0), (39, .goto (-33), 3, 0, 6, 0, 0), (42, .iload_n 1, 1, 0, 0, 0, 0), (43, .ireturn, 1, 0, 0, 0, 0)]
abbrev Y3_longestGap : MethodName := ⟨"GingerArmy$Shelf", "longestGap", "()I"⟩
abbrev M3_longestGap : MethT := (3, C3_longestGap, prog_5_method_31_code, 4, (some .int), Y3_longestGap)
abbrev C4_init : List CE := [(0, .aload_n 0, 1, 0, 0, 0, 0), (1, .invokespecial 3, 3, 0, 0, 0, 0), (4, .aload_n 0, 1, 0, 0, 0, 0), (5, .bipush 96, 2, 96, 0, 0, 0), (7, .newarray .int, 2, 0, 0, 0, 0), (9, .putfield 9, 3, 0, 3, 0, 0), (12, .return_, 1, 0, 0, 0, 0)]
abbrev Y4_init : MethodName := ⟨"GingerArmy$Tale", "<init>", "()V"⟩
abbrev M4_init : MethT := (4, C4_init, prog_6_method_1_code, 1, none, Y4_init)
abbrev C4_add : List CE := [(0, .aload_n 0, 1, 0, 0, 0, 0), (1, .getfield 15, 3, 0, 3, 1, 0), (4, .ifCond .lt 15, 3, 0, 19, 0, 0), (7, .aload_n 0, 1, 0, 0, 0, 0), (8, .getfield 15, 3, 0, 3, 1, 0), (11, .aload_n 0, 1, 0, 0, 0, 0), (12, .getfield 9, 3, 0, 3, 0, 0), (15, .arraylength, 1, 0, 0, 0, 0), (16, .if_icmp .lt 4, 3, 0, 20, 0, 0), (19, .return_, 1, 0, 0, 0, 0), (20, .aload_n 0, 1, 0, 0, 0, 0), (21, .getfield 9, 3, 0, 3, 0, 0), (24, .aload_n 0, 1, 0, 0, 0, 0), (25, .getfield 15, 3, 0, 3, 1, 0), (28, .iload_n 1, 1, 0, 0, 0, 0), (29, .iastore, 1, 0, 0, 0, 0), (30, .aload_n 0, 1, 0, 0, 0, 0), (31, .dup, 1, 0, 0, 0, 0), (32, .getfield 15, 3, 0, 3, 1, 0), (35, .iconst 1, 1, 1, 0, 0, 0), (36, .iadd, 1, 0, 0, 0, 0), (37, .putfield 15, 3, 0, 3, 1, 0), (40, .return_, 1, 0, 0, 0, 0)]
abbrev Y4_add : MethodName := ⟨"GingerArmy$Tale", "add", "(I)V"⟩
abbrev M4_add : MethT := (4, C4_add, prog_6_method_2_code, 2, none, Y4_add)
abbrev C4_forget : List CE := [(0, .aload_n 0, 1, 0, 0, 0, 0), (1, .iconst 0, 1, 0, 0, 0, 0), (2, .putfield 15, 3, 0, 3, 1, 0), (5, .return_, 1, 0, 0, 0, 0)]
abbrev Y4_forget : MethodName := ⟨"GingerArmy$Tale", "forget", "()V"⟩
abbrev M4_forget : MethT := (4, C4_forget, prog_6_method_3_code, 1, none, Y4_forget)
abbrev C4_tellTo : List CE := [(0, .aload_n 0, 1, 0, 0, 0, 0), (1, .invokevirtual 19, 3, 0, 0, 0, 0), (4, .istore_n 2, 1, 0, 0, 0, 0), (5, .iload_n 2, 1, 0, 0, 0, 0), (6, .bipush (-9), 2, -9, 0, 0, 0), (8, .if_icmp .eq 9, 3, 0, 17, 0, 0), (11, .sipush (-1000), 3, -1000, 0, 0, 0), (14, .iload_n 2, 1, 0, 0, 0, 0), (15, .isub, 1, 0, 0, 0, 0), (16, .ireturn, 1, 0, 0, 0, 0), (17, .iconst 0, 1, 0, 0, 0, 0), (18, .istore_n 3, 1, 0, 0, 0, 0), (19, .iconst 0, 1, 0, 0, 0, 0), (20, .istore 4, 2, 0, 0, 0, 0), (22, .iload 4, 2, 0, 0, 0, 0), (24, .bipush 96, 2, 96, 0, 0, 0), (26, .if_icmp .ge 48, 3, 0, 74, 0, 0), (29, .iload_n 3, 1, 0, 0, 0, 0), (30, .aload_n 0, 1, 0, 0, 0, 0), (31, .getfield 15, 3, 0, 3, 1, 0), (34, .if_icmp .lt 6, 3, 0, 40, 0, 0), (37, .iload 4, 2, 0, 0, 0, 0), (39, .ireturn, 1, 0, 0, 0, 0), (40, .aload_n 0, 1, 0, 0, 0, 0), (41, .aload_n 1, 1, 0, 0, 0, 0), (42, .iload_n 3, 1, 0, 0, 0, 0), (43, .invokevirtual 23, 3, 0, 0, 0, 0), (46, .ifCond .ne 9, 3, 0, 55, 0, 0), (49, .sipush (-2000), 3, -2000, 0, 0, 0), (52, .iload_n 3, 1, 0, 0, 0, 0), (53, .isub, 1, 0, 0, 0, 0), (54, .ireturn, 1, 0, 0, 0, 0), (55, .iload_n 3, 1, 0, 0, 0, 0), (56, .aload_n 0, 1, 0, 0, 0, 0), (57, .iload_n 3, 1, 0, 0, 0, 0), (58, .invokevirtual 27, 3, 0, 0, 0, 0), (61, .invokestatic 31, 3, 0, 0, 0, 0), (64, .iconst 2, 1, 2, 0, 0, 0), (65, .iadd, 1, 0, 0, 0, 0), (66, .iadd, 1, 0, 0, 0, 0), (67, .istore_n 3, 1, 0, 0, 0, 0), (68, .iinc 4 1, 3, 1, 0, 0, 0), (71, .goto (-49), 3, 0, 22, 0, 0), (74, .bipush 96, 2, 96, 0, 0, 0), (76, .ireturn, 1, 0, 0, 0, 0)]
abbrev Y4_tellTo : MethodName := ⟨"GingerArmy$Tale", "tellTo", "(LGingerArmy$Shelf;)I"⟩
abbrev M4_tellTo : MethT := (4, C4_tellTo, prog_6_method_4_code, 5, (some .int), Y4_tellTo)
abbrev C4_firstBroken : List CE := [(0, .iconst 0, 1, 0, 0, 0, 0), (1, .istore_n 1, 1, 0, 0, 0, 0), (2, .iconst 0, 1, 0, 0, 0, 0), (3, .istore_n 2, 1, 0, 0, 0, 0), (4, .iload_n 2, 1, 0, 0, 0, 0), (5, .bipush 96, 2, 96, 0, 0, 0), (7, .if_icmp .ge 88, 3, 0, 95, 0, 0), (10, .iload_n 2, 1, 0, 0, 0, 0), (11, .ifCond .le 14, 3, 0, 25, 0, 0), (14, .iload_n 1, 1, 0, 0, 0, 0), (15, .aload_n 0, 1, 0, 0, 0, 0), (16, .getfield 15, 3, 0, 3, 1, 0), (19, .if_icmp .lt 6, 3, 0, 25, 0, 0), (22, .bipush (-9), 2, -9, 0, 0, 0), (24, .ireturn, 1, 0, 0, 0, 0), (25, .aload_n 0, 1, 0, 0, 0, 0), (26, .iload_n 1, 1, 0, 0, 0, 0), (27, .invokevirtual 27, 3, 0, 0, 0, 0), (30, .invokestatic 31, 3, 0, 0, 0, 0), (33, .istore_n 3, 1, 0, 0, 0, 0), (34, .iload_n 3, 1, 0, 0, 0, 0), (35, .ifCond .ne 5, 3, 0, 40, 0, 0), (38, .iload_n 1, 1, 0, 0, 0, 0), (39, .ireturn, 1, 0, 0, 0, 0), (40, .iinc 1 1, 3, 1, 0, 0, 0), (43, .iconst 0, 1, 0, 0, 0, 0), (44, .istore 4, 2, 0, 0, 0, 0), (46, .iload 4, 2, 0, 0, 0, 0), (48, .iload_n 3, 1, 0, 0, 0, 0), (49, .if_icmp .ge 25, 3, 0, 74, 0, 0), (52, .aload_n 0, 1, 0, 0, 0, 0), (53, .iload_n 1, 1, 0, 0, 0, 0), (54, .invokevirtual 27, 3, 0, 0, 0, 0), (57, .invokestatic 34, 3, 0, 0, 0, 0), (60, .ifCond .ne 5, 3, 0, 65, 0, 0), (63, .iload_n 1, 1, 0, 0, 0, 0), (64, .ireturn, 1, 0, 0, 0, 0), (65, .iinc 1 1, 3, 1, 0, 0, 0), (68, .iinc 4 1, 3, 1, 0, 0, 0), (71, .goto (-25), 3, 0, 46, 0, 0), (74, .aload_n 0, 1, 0, 0, 0, 0), (75, .iload_n 1, 1, 0, 0, 0, 0), (76, .invokevirtual 27, 3, 0, 0, 0, 0), (79, .bipush 59, 2, 59, 0, 0, 0), (81, .if_icmp .eq 5, 3, 0, 86, 0, 0), (84, .iload_n 1, 1, 0, 0, 0, 0), (85, .ireturn, 1, 0, 0, 0, 0), (86, .iinc 1 1, 3, 1, 0, 0, 0), (89, .iinc 2 1, 3, 1, 0, 0, 0), (92, .goto (-88), 3, 0, 4, 0, 0), (95, .bipush (-9), 2, -9, 0, 0, 0), (97, .ireturn, 1, 0, 0, 0, 0)]
abbrev Y4_firstBroken : MethodName := ⟨"GingerArmy$Tale", "firstBroken", "()I"⟩
abbrev M4_firstBroken : MethT := (4, C4_firstBroken, prog_6_method_5_code, 5, (some .int), Y4_firstBroken)
abbrev C4_letterAt : List CE := [(0, .iload_n 1, 1, 0, 0, 0, 0), (1, .ifCond .lt 29, 3, 0, 30, 0, 0), (4, .iload_n 1, 1, 0, 0, 0, 0), (5, .aload_n 0, 1, 0, 0, 0, 0), (6, .getfield 15, 3, 0, 3, 1, 0), (9, .if_icmp .ge 21, 3, 0, 30, 0, 0), (12, .iload_n 1, 1, 0, 0, 0, 0), (13, .aload_n 0, 1, 0, 0, 0, 0), (14, .getfield 9, 3, 0, 3, 0, 0), (17, .arraylength, 1, 0, 0, 0, 0), (18, .if_icmp .ge 12, 3, 0, 30, 0, 0), (21, .aload_n 0, 1, 0, 0, 0, 0), (22, .getfield 9, 3, 0, 3, 0, 0), (25, .iload_n 1, 1, 0, 0, 0, 0), (26, .iaload, 1, 0, 0, 0, 0), (27, .goto 4, 3, 0, 31, 0, 0), (30, .iconst 0, 1, 0, 0, 0, 0), (31, .ireturn, 1, 0, 0, 0, 0)]
abbrev Y4_letterAt : MethodName := ⟨"GingerArmy$Tale", "letterAt", "(I)I"⟩
abbrev M4_letterAt : MethT := (4, C4_letterAt, prog_6_method_6_code, 2, (some .int), Y4_letterAt)
abbrev C4_digitAt : List CE := [(0, .aload_n 0, 1, 0, 0, 0, 0), (1, .iload_n 1, 1, 0, 0, 0, 0), (2, .invokevirtual 27, 3, 0, 0, 0, 0), (5, .bipush 48, 2, 48, 0, 0, 0), (7, .isub, 1, 0, 0, 0, 0), (8, .ireturn, 1, 0, 0, 0, 0)]
abbrev Y4_digitAt : MethodName := ⟨"GingerArmy$Tale", "digitAt", "(I)I"⟩
abbrev M4_digitAt : MethT := (4, C4_digitAt, prog_6_method_7_code, 2, (some .int), Y4_digitAt)
abbrev C4_numberAt : List CE := [(0, .bipush 10, 2, 10, 0, 0, 0), (2, .aload_n 0, 1, 0, 0, 0, 0), (3, .iload_n 1, 1, 0, 0, 0, 0), (4, .invokevirtual 38, 3, 0, 0, 0, 0), (7, .imul, 1, 0, 0, 0, 0), (8, .aload_n 0, 1, 0, 0, 0, 0), (9, .iload_n 1, 1, 0, 0, 0, 0), (10, .iconst 1, 1, 1, 0, 0, 0), (11, .iadd, 1, 0, 0, 0, 0), (12, .invokevirtual 38, 3, 0, 0, 0, 0), (15, .iadd, 1, 0, 0, 0, 0), (16, .ireturn, 1, 0, 0, 0, 0)]
abbrev Y4_numberAt : MethodName := ⟨"GingerArmy$Tale", "numberAt", "(I)I"⟩
abbrev M4_numberAt : MethT := (4, C4_numberAt, prog_6_method_8_code, 2, (some .int), Y4_numberAt)
abbrev C4_isDigit : List CE := [(0, .iload_n 0, 1, 0, 0, 0, 0), (1, .bipush 48, 2, 48, 0, 0, 0), (3, .if_icmp .lt 13, 3, 0, 16, 0, 0), (6, .iload_n 0, 1, 0, 0, 0, 0), (7, .bipush 57, 2, 57, 0, 0, 0), (9, .if_icmp .gt 7, 3, 0, 16, 0, 0), (12, .iconst 1, 1, 1, 0, 0, 0), (13, .goto 4, 3, 0, 17, 0, 0), (16, .iconst 0, 1, 0, 0, 0, 0), (17, .ireturn, 1, 0, 0, 0, 0)]
abbrev Y4_isDigit : MethodName := ⟨"GingerArmy$Tale", "isDigit", "(I)Z"⟩
abbrev M4_isDigit : MethT := (4, C4_isDigit, prog_6_method_9_code, 1, (some .boolean), Y4_isDigit)
abbrev C4_digitsBehind : List CE := [(0, .iload_n 0, 1, 0, 0, 0, 0), (1, .tableswitch 107 98 117 #[95, 107, 105, 107, 107, 107, 107, 107, 107, 107, 107, 107, 107, 103, 97, 107, 107, 107, 99, 101], 95, 0, 0, 0, 0), (96, .iconst 4, 1, 4, 0, 0, 0), (97, .ireturn, 1, 0, 0, 0, 0), (98, .iconst 3, 1, 3, 0, 0, 0), (99, .ireturn, 1, 0, 0, 0, 0), (100, .iconst 1, 1, 1, 0, 0, 0), (101, .ireturn, 1, 0, 0, 0, 0), (102, .iconst 2, 1, 2, 0, 0, 0), (103, .ireturn, 1, 0, 0, 0, 0), (104, .iconst 1, 1, 1, 0, 0, 0), (105, .ireturn, 1, 0, 0, 0, 0), (106, .iconst 2, 1, 2, 0, 0, 0), (107, .ireturn, 1, 0, 0, 0, 0), (108, .iconst 0, 1, 0, 0, 0, 0), (109, .ireturn, 1, 0, 0, 0, 0)]
abbrev Y4_digitsBehind : MethodName := ⟨"GingerArmy$Tale", "digitsBehind", "(I)I"⟩
abbrev M4_digitsBehind : MethT := (4, C4_digitsBehind, prog_6_method_10_code, 1, (some .int), Y4_digitsBehind)
abbrev C4_carryOut : List CE := [(0, .aload_n 0, 1, 0, 0, 0, 0), (1, .iload_n 2, 1, 0, 0, 0, 0), (2, .iconst 1, 1, 1, 0, 0, 0), (3, .iadd, 1, 0, 0, 0, 0), (4, .invokevirtual 38, 3, 0, 0, 0, 0), (7, .istore_n 3, 1, 0, 0, 0, 0), (8, .aload_n 0, 1, 0, 0, 0, 0), (9, .iload_n 2, 1, 0, 0, 0, 0), (10, .invokevirtual 27, 3, 0, 0, 0, 0), (13, .lookupswitch 111 #[(98, 51), (111, 90), (112, 71), (116, 84), (117, 97)], 51, 0, 0, 0, 0), (64, .aload_n 1, 1, 0, 0, 0, 0), (65, .iload_n 3, 1, 0, 0, 0, 0), (66, .aload_n 0, 1, 0, 0, 0, 0), (67, .iload_n 2, 1, 0, 0, 0, 0), (68, .iconst 2, 1, 2, 0, 0, 0), (69, .iadd, 1, 0, 0, 0, 0), (70, .invokevirtual 38, 3, 0, 0, 0, 0), (73, .aload_n 0, 1, 0, 0, 0, 0), (74, .iload_n 2, 1, 0, 0, 0, 0), (75, .iconst 3, 1, 3, 0, 0, 0), (76, .iadd, 1, 0, 0, 0, 0), (77, .invokevirtual 41, 3, 0, 0, 0, 0), (80, .invokestatic 44, 3, 0, 0, 0, 0), (83, .ireturn, 1, 0, 0, 0, 0), (84, .aload_n 1, 1, 0, 0, 0, 0), (85, .iload_n 3, 1, 0, 0, 0, 0), (86, .aload_n 0, 1, 0, 0, 0, 0), (87, .iload_n 2, 1, 0, 0, 0, 0), (88, .iconst 2, 1, 2, 0, 0, 0), (89, .iadd, 1, 0, 0, 0, 0), (90, .invokevirtual 41, 3, 0, 0, 0, 0), (93, .invokestatic 48, 3, 0, 0, 0, 0), (96, .ireturn, 1, 0, 0, 0, 0), (97, .aload_n 1, 1, 0, 0, 0, 0), (98, .iload_n 3, 1, 0, 0, 0, 0), (99, .invokestatic 52, 3, 0, 0, 0, 0), (102, .ireturn, 1, 0, 0, 0, 0), (103, .aload_n 1, 1, 0, 0, 0, 0), (104, .iload_n 3, 1, 0, 0, 0, 0), (105, .iconst 0, 1, 0, 0, 0, 0), (106, .invokestatic 48, 3, 0, 0, 0, 0), (109, .ireturn, 1, 0, 0, 0, 0), (110, .aload_n 1, 1, 0, 0, 0, 0), (111, .iload_n 3, 1, 0, 0, 0, 0), (112, .aload_n 0, 1, 0, 0, 0, 0), (113, .iload_n 2, 1, 0, 0, 0, 0), (114, .iconst 2, 1, 2, 0, 0, 0), (115, .iadd, 1, 0, 0, 0, 0), (116, .invokevirtual 38, 3, 0, 0, 0, 0), (119, .invokevirtual 55, 3, 0, 0, 0, 0), (122, .iconst 1, 1, 1, 0, 0, 0), (123, .ireturn, 1, 0, 0, 0, 0), (124, .aload_n 0, 1, 0, 0, 0, 0), (125, .iload_n 2, 1, 0, 0, 0, 0), (126, .iconst 1, 1, 1, 0, 0, 0), (127, .iadd, 1, 0, 0, 0, 0), (128, .invokevirtual 41, 3, 0, 0, 0, 0), (131, .istore 4, 2, 0, 0, 0, 0), (133, .aload_n 1, 1, 0, 0, 0, 0), (134, .iload 4, 2, 0, 0, 0, 0), (136, .invokestatic 61, 3, 0, 0, 0, 0), (139, .ifCond .ne 5, 3, 0, 144, 0, 0), (142, .iconst 0, 1, 0, 0, 0, 0), (143, .ireturn, 1, 0, 0, 0, 0), (144, .aload_n 1, 1, 0, 0, 0, 0), (145, .iload 4, 2, 0, 0, 0, 0), (147, .invokevirtual 64, 3, 0, 0, 0, 0), (150, .iconst 1, 1, 1, 0, 0, 0), (151, .ireturn, 1, 0, 0, 0, 0)]
abbrev Y4_carryOut : MethodName := ⟨"GingerArmy$Tale", "carryOut", "(LGingerArmy$Shelf;I)Z"⟩
abbrev M4_carryOut : MethT := (4, C4_carryOut, prog_6_method_11_code, 5, (some .boolean), Y4_carryOut)
abbrev C4_addBottle : List CE := [(0, .iload_n 1, 1, 0, 0, 0, 0), (1, .bipush 6, 2, 6, 0, 0, 0), (3, .if_icmp .ge 9, 3, 0, 12, 0, 0), (6, .iload_n 3, 1, 0, 0, 0, 0), (7, .bipush 15, 2, 15, 0, 0, 0), (9, .if_icmp .lt 5, 3, 0, 14, 0, 0), (12, .iconst 0, 1, 0, 0, 0, 0), (13, .ireturn, 1, 0, 0, 0, 0), (14, .aload_n 0, 1, 0, 0, 0, 0), (15, .getfield 68, 3, 0, 2, 7, 1), (18, .bipush 8, 2, 8, 0, 0, 0), (20, .if_icmp .ge 13, 3, 0, 33, 0, 0), (23, .aload_n 0, 1, 0, 0, 0, 0), (24, .iload_n 3, 1, 0, 0, 0, 0), (25, .invokevirtual 71, 3, 0, 0, 0, 0), (28, .bipush (-9), 2, -9, 0, 0, 0), (30, .if_icmp .eq 5, 3, 0, 35, 0, 0), (33, .iconst 0, 1, 0, 0, 0, 0), (34, .ireturn, 1, 0, 0, 0, 0), (35, .aload_n 0, 1, 0, 0, 0, 0), (36, .iload_n 1, 1, 0, 0, 0, 0), (37, .iload_n 2, 1, 0, 0, 0, 0), (38, .iload_n 3, 1, 0, 0, 0, 0), (39, .invokevirtual 74, 3, 0, 0, 0, 0), (42, .iconst 1, 1, 1, 0, 0, 0), (43, .ireturn, 1, 0, 0, 0, 0)]
abbrev Y4_addBottle : MethodName := ⟨"GingerArmy$Tale", "addBottle", "(LGingerArmy$Shelf;III)Z"⟩
abbrev M4_addBottle : MethT := (4, C4_addBottle, prog_6_method_12_code, 4, (some .boolean), Y4_addBottle)
abbrev C4_pressOne : List CE := [(0, .aload_n 0, 1, 0, 0, 0, 0), (1, .iload_n 1, 1, 0, 0, 0, 0), (2, .invokevirtual 78, 3, 0, 0, 0, 0), (5, .ifCond .ne 5, 3, 0, 10, 0, 0), (8, .iconst 0, 1, 0, 0, 0, 0), (9, .ireturn, 1, 0, 0, 0, 0), (10, .aload_n 0, 1, 0, 0, 0, 0), (11, .iload_n 1, 1, 0, 0, 0, 0), (12, .iload_n 2, 1, 0, 0, 0, 0), (13, .invokevirtual 81, 3, 0, 0, 0, 0), (16, .iconst 1, 1, 1, 0, 0, 0), (17, .ireturn, 1, 0, 0, 0, 0)]
abbrev Y4_pressOne : MethodName := ⟨"GingerArmy$Tale", "pressOne", "(LGingerArmy$Shelf;II)Z"⟩
abbrev M4_pressOne : MethT := (4, C4_pressOne, prog_6_method_13_code, 3, (some .boolean), Y4_pressOne)
abbrev C4_coverOne : List CE := [(0, .aload_n 0, 1, 0, 0, 0, 0), (1, .iload_n 1, 1, 0, 0, 0, 0), (2, .invokevirtual 78, 3, 0, 0, 0, 0), (5, .ifCond .ne 5, 3, 0, 10, 0, 0), (8, .iconst 0, 1, 0, 0, 0, 0), (9, .ireturn, 1, 0, 0, 0, 0), (10, .aload_n 0, 1, 0, 0, 0, 0), (11, .iload_n 1, 1, 0, 0, 0, 0), (12, .invokevirtual 84, 3, 0, 0, 0, 0), (15, .iconst 1, 1, 1, 0, 0, 0), (16, .ireturn, 1, 0, 0, 0, 0)]
abbrev Y4_coverOne : MethodName := ⟨"GingerArmy$Tale", "coverOne", "(LGingerArmy$Shelf;I)Z"⟩
abbrev M4_coverOne : MethT := (4, C4_coverOne, prog_6_method_14_code, 2, (some .boolean), Y4_coverOne)
abbrev C4_canPass : List CE := [(0, .iload_n 1, 1, 0, 0, 0, 0), (1, .iconst 1, 1, 1, 0, 0, 0), (2, .if_icmp .lt 25, 3, 0, 27, 0, 0), (5, .iload_n 1, 1, 0, 0, 0, 0), (6, .bipush 60, 2, 60, 0, 0, 0), (8, .if_icmp .gt 19, 3, 0, 27, 0, 0), (11, .aload_n 0, 1, 0, 0, 0, 0), (12, .getfield 87, 3, 0, 2, 12, 1), (15, .iload_n 1, 1, 0, 0, 0, 0), (16, .iadd, 1, 0, 0, 0, 0), (17, .sipush 999, 3, 999, 0, 0, 0), (20, .if_icmp .gt 7, 3, 0, 27, 0, 0), (23, .iconst 1, 1, 1, 0, 0, 0), (24, .goto 4, 3, 0, 28, 0, 0), (27, .iconst 0, 1, 0, 0, 0, 0), (28, .ireturn, 1, 0, 0, 0, 0)]
abbrev Y4_canPass : MethodName := ⟨"GingerArmy$Tale", "canPass", "(LGingerArmy$Shelf;I)Z"⟩
abbrev M4_canPass : MethT := (4, C4_canPass, prog_6_method_15_code, 2, (some .boolean), Y4_canPass)
abbrev C5_init : List CE := [(0, .aload_n 0, 1, 0, 0, 0, 0), (1, .invokespecial 1, 3, 0, 0, 0, 0), (4, .aload_n 0, 1, 0, 0, 0, 0), (5, .new 7, 3, 0, 0, 0, 0), (8, .dup, 1, 0, 0, 0, 0), (9, .invokespecial 9, 3, 0, 0, 0, 0), (12, .putfield 10, 3, 0, 4, 0, 0), (15, .aload_n 0, 1, 0, 0, 0, 0), (16, .new 7, 3, 0, 0, 0, 0), (19, .dup, 1, 0, 0, 0, 0), (20, .invokespecial 9, 3, 0, 0, 0, 0), (23, .putfield 16, 3, 0, 4, 1, 0), (26, .aload_n 0, 1, 0, 0, 0, 0), (27, .new 7, 3, 0, 0, 0, 0), (30, .dup, 1, 0, 0, 0, 0), (31, .invokespecial 9, 3, 0, 0, 0, 0), (34, .putfield 19, 3, 0, 4, 2, 0), (37, .aload_n 0, 1, 0, 0, 0, 0), (38, .new 22, 3, 0, 0, 0, 0), (41, .dup, 1, 0, 0, 0, 0), (42, .invokespecial 24, 3, 0, 0, 0, 0), (45, .putfield 25, 3, 0, 4, 3, 0), (48, .aload_n 0, 1, 0, 0, 0, 0), (49, .new 29, 3, 0, 0, 0, 0), (52, .dup, 1, 0, 0, 0, 0), (53, .invokespecial 31, 3, 0, 0, 0, 0), (56, .putfield 32, 3, 0, 4, 4, 0), (59, .aload_n 0, 1, 0, 0, 0, 0), (60, .new 36, 3, 0, 0, 0, 0), (63, .dup, 1, 0, 0, 0, 0), (64, .invokespecial 38, 3, 0, 0, 0, 0), (67, .putfield 39, 3, 0, 4, 5, 0), (70, .aload_n 0, 1, 0, 0, 0, 0), (71, .bipush 12, 2, 12, 0, 0, 0), (73, .newarray .int, 2, 0, 0, 0, 0), (75, .putfield 43, 3, 0, 4, 6, 0), (78, .aload_n 0, 1, 0, 0, 0, 0), (79, .bipush 7, 2, 7, 0, 0, 0), (81, .newarray .int, 2, 0, 0, 0, 0), (83, .putfield 47, 3, 0, 4, 7, 0), (86, .return_, 1, 0, 0, 0, 0)]
abbrev Y5_init : MethodName := ⟨"GingerArmy", "<init>", "()V"⟩
abbrev M5_init : MethT := (5, C5_init, prog_1_method_1_code, 1, none, Y5_init)
abbrev C5_feed : List CE := [(0, .iload_n 1, 1, 0, 0, 0, 0), (1, .ifCond .ge 10, 3, 0, 11, 0, 0), (4, .aload_n 0, 1, 0, 0, 0, 0), (5, .bipush (-4), 2, -4, 0, 0, 0), (7, .invokevirtual 50, 3, 0, 0, 0, 0), (10, .ireturn, 1, 0, 0, 0, 0), (11, .iload_n 1, 1, 0, 0, 0, 0), (12, .sipush 255, 3, 255, 0, 0, 0), (15, .if_icmp .gt 15, 3, 0, 30, 0, 0), (18, .aload_n 0, 1, 0, 0, 0, 0), (19, .getfield 39, 3, 0, 4, 5, 0), (22, .getfield 54, 3, 0, 3, 1, 1), (25, .bipush 96, 2, 96, 0, 0, 0), (27, .if_icmp .lt 10, 3, 0, 37, 0, 0), (30, .aload_n 0, 1, 0, 0, 0, 0), (31, .bipush (-6), 2, -6, 0, 0, 0), (33, .invokevirtual 50, 3, 0, 0, 0, 0), (36, .ireturn, 1, 0, 0, 0, 0), (37, .aload_n 0, 1, 0, 0, 0, 0), (38, .getfield 39, 3, 0, 4, 5, 0), (41, .iload_n 1, 1, 0, 0, 0, 0), (42, .invokevirtual 58, 3, 0, 0, 0, 0), (45, .aload_n 0, 1, 0, 0, 0, 0), (46, .getfield 39, 3, 0, 4, 5, 0), (49, .getfield 54, 3, 0, 3, 1, 1), (52, .ireturn, 1, 0, 0, 0, 0)]
abbrev Y5_feed : MethodName := ⟨"GingerArmy", "feed", "(I)I"⟩
abbrev M5_feed : MethT := (5, C5_feed, prog_1_method_2_code, 2, (some .int), Y5_feed)
abbrev C5_cellar : List CE := [(0, .aload_n 0, 1, 0, 0, 0, 0), (1, .getfield 16, 3, 0, 4, 1, 0), (4, .aload_n 0, 1, 0, 0, 0, 0), (5, .getfield 10, 3, 0, 4, 0, 0), (8, .invokevirtual 62, 3, 0, 0, 0, 0), (11, .aload_n 0, 1, 0, 0, 0, 0), (12, .getfield 39, 3, 0, 4, 5, 0), (15, .aload_n 0, 1, 0, 0, 0, 0), (16, .getfield 16, 3, 0, 4, 1, 0), (19, .invokevirtual 66, 3, 0, 0, 0, 0), (22, .istore_n 1, 1, 0, 0, 0, 0), (23, .aload_n 0, 1, 0, 0, 0, 0), (24, .getfield 39, 3, 0, 4, 5, 0), (27, .invokevirtual 70, 3, 0, 0, 0, 0), (30, .iload_n 1, 1, 0, 0, 0, 0), (31, .ifCond .lt 21, 3, 0, 52, 0, 0), (34, .aload_n 0, 1, 0, 0, 0, 0), (35, .getfield 10, 3, 0, 4, 0, 0), (38, .aload_n 0, 1, 0, 0, 0, 0), (39, .getfield 16, 3, 0, 4, 1, 0), (42, .invokevirtual 62, 3, 0, 0, 0, 0), (45, .aload_n 0, 1, 0, 0, 0, 0), (46, .getfield 25, 3, 0, 4, 3, 0), (49, .invokevirtual 73, 3, 0, 0, 0, 0), (52, .iload_n 1, 1, 0, 0, 0, 0), (53, .ireturn, 1, 0, 0, 0, 0)]
abbrev Y5_cellar : MethodName := ⟨"GingerArmy", "cellar", "()I"⟩
abbrev M5_cellar : MethT := (5, C5_cellar, prog_1_method_3_code, 2, (some .int), Y5_cellar)
abbrev C5_bottleOf : List CE := [(0, .aload_n 0, 1, 0, 0, 0, 0), (1, .getfield 10, 3, 0, 4, 0, 0), (4, .iload_n 1, 1, 0, 0, 0, 0), (5, .invokevirtual 74, 3, 0, 0, 0, 0), (8, .ifCond .ne 9, 3, 0, 17, 0, 0), (11, .aload_n 0, 1, 0, 0, 0, 0), (12, .iconst (-1), 1, -1, 0, 0, 0), (13, .invokevirtual 50, 3, 0, 0, 0, 0), (16, .ireturn, 1, 0, 0, 0, 0), (17, .iload_n 2, 1, 0, 0, 0, 0), (18, .tableswitch 147 0 8 #[50, 59, 68, 77, 86, 103, 120, 129, 138], 50, 0, 0, 0, 0), (68, .aload_n 0, 1, 0, 0, 0, 0), (69, .getfield 10, 3, 0, 4, 0, 0), (72, .iload_n 1, 1, 0, 0, 0, 0), (73, .invokevirtual 78, 3, 0, 0, 0, 0), (76, .ireturn, 1, 0, 0, 0, 0), (77, .aload_n 0, 1, 0, 0, 0, 0), (78, .getfield 10, 3, 0, 4, 0, 0), (81, .iload_n 1, 1, 0, 0, 0, 0), (82, .invokevirtual 81, 3, 0, 0, 0, 0), (85, .ireturn, 1, 0, 0, 0, 0), (86, .aload_n 0, 1, 0, 0, 0, 0), (87, .getfield 10, 3, 0, 4, 0, 0), (90, .iload_n 1, 1, 0, 0, 0, 0), (91, .invokevirtual 84, 3, 0, 0, 0, 0), (94, .ireturn, 1, 0, 0, 0, 0), (95, .aload_n 0, 1, 0, 0, 0, 0), (96, .getfield 10, 3, 0, 4, 0, 0), (99, .iload_n 1, 1, 0, 0, 0, 0), (100, .invokevirtual 87, 3, 0, 0, 0, 0), (103, .ireturn, 1, 0, 0, 0, 0), (104, .aload_n 0, 1, 0, 0, 0, 0), (105, .getfield 10, 3, 0, 4, 0, 0), (108, .iload_n 1, 1, 0, 0, 0, 0), (109, .invokevirtual 90, 3, 0, 0, 0, 0), (112, .ifCond .eq 7, 3, 0, 119, 0, 0), (115, .iconst 1, 1, 1, 0, 0, 0), (116, .goto 4, 3, 0, 120, 0, 0), (119, .iconst 0, 1, 0, 0, 0, 0), (120, .ireturn, 1, 0, 0, 0, 0), (121, .aload_n 0, 1, 0, 0, 0, 0), (122, .getfield 10, 3, 0, 4, 0, 0), (125, .iload_n 1, 1, 0, 0, 0, 0), (126, .invokevirtual 93, 3, 0, 0, 0, 0), (129, .ifCond .eq 7, 3, 0, 136, 0, 0), (132, .iconst 1, 1, 1, 0, 0, 0), (133, .goto 4, 3, 0, 137, 0, 0), (136, .iconst 0, 1, 0, 0, 0, 0), (137, .ireturn, 1, 0, 0, 0, 0), (138, .aload_n 0, 1, 0, 0, 0, 0), (139, .getfield 10, 3, 0, 4, 0, 0), (142, .iload_n 1, 1, 0, 0, 0, 0), (143, .invokevirtual 96, 3, 0, 0, 0, 0), (146, .ireturn, 1, 0, 0, 0, 0), (147, .aload_n 0, 1, 0, 0, 0, 0), (148, .getfield 10, 3, 0, 4, 0, 0), (151, .iload_n 1, 1, 0, 0, 0, 0), (152, .invokevirtual 99, 3, 0, 0, 0, 0), (155, .ireturn, 1, 0, 0, 0, 0), (156, .aload_n 0, 1, 0, 0, 0, 0), (157, .getfield 10, 3, 0, 4, 0, 0), (160, .iload_n 1, 1, 0, 0, 0, 0), (161, .invokevirtual 102, 3, 0, 0, 0, 0), (164, .ireturn, 1, 0, 0, 0, 0), (165, .aload_n 0, 1, 0, 0, 0, 0), (166, .bipush (-2), 2, -2, 0, 0, 0), (168, .invokevirtual 50, 3, 0, 0, 0, 0), (171, .ireturn, 1, 0, 0, 0, 0)]
abbrev Y5_bottleOf : MethodName := ⟨"GingerArmy", "bottleOf", "(II)I"⟩
abbrev M5_bottleOf : MethT := (5, C5_bottleOf, prog_1_method_4_code, 3, (some .int), Y5_bottleOf)
abbrev C5_at : List CE := [(0, .iload_n 1, 1, 0, 0, 0, 0), (1, .ifCond .lt 9, 3, 0, 10, 0, 0), (4, .iload_n 1, 1, 0, 0, 0, 0), (5, .bipush 15, 2, 15, 0, 0, 0), (7, .if_icmp .lt 9, 3, 0, 16, 0, 0), (10, .aload_n 0, 1, 0, 0, 0, 0), (11, .iconst (-1), 1, -1, 0, 0, 0), (12, .invokevirtual 50, 3, 0, 0, 0, 0), (15, .ireturn, 1, 0, 0, 0, 0), (16, .aload_n 0, 1, 0, 0, 0, 0), (17, .getfield 10, 3, 0, 4, 0, 0), (20, .iload_n 1, 1, 0, 0, 0, 0), (21, .invokevirtual 105, 3, 0, 0, 0, 0), (24, .ireturn, 1, 0, 0, 0, 0)]
abbrev Y5_at : MethodName := ⟨"GingerArmy", "at", "(I)I"⟩
abbrev M5_at : MethT := (5, C5_at, prog_1_method_5_code, 2, (some .int), Y5_at)
abbrev C5_bottle : List CE := [(0, .iload_n 1, 1, 0, 0, 0, 0), (1, .ifCond .lt 9, 3, 0, 10, 0, 0), (4, .iload_n 1, 1, 0, 0, 0, 0), (5, .bipush 6, 2, 6, 0, 0, 0), (7, .if_icmp .lt 10, 3, 0, 17, 0, 0), (10, .aload_n 0, 1, 0, 0, 0, 0), (11, .bipush (-2), 2, -2, 0, 0, 0), (13, .invokevirtual 50, 3, 0, 0, 0, 0), (16, .ireturn, 1, 0, 0, 0, 0), (17, .iload_n 2, 1, 0, 0, 0, 0), (18, .ifCond .ge 10, 3, 0, 28, 0, 0), (21, .aload_n 0, 1, 0, 0, 0, 0), (22, .bipush (-4), 2, -4, 0, 0, 0), (24, .invokevirtual 50, 3, 0, 0, 0, 0), (27, .ireturn, 1, 0, 0, 0, 0), (28, .iload_n 2, 1, 0, 0, 0, 0), (29, .bipush 9, 2, 9, 0, 0, 0), (31, .if_icmp .gt 15, 3, 0, 46, 0, 0), (34, .aload_n 0, 1, 0, 0, 0, 0), (35, .getfield 10, 3, 0, 4, 0, 0), (38, .getfield 108, 3, 0, 2, 7, 1), (41, .bipush 8, 2, 8, 0, 0, 0), (43, .if_icmp .lt 10, 3, 0, 53, 0, 0), (46, .aload_n 0, 1, 0, 0, 0, 0), (47, .bipush (-6), 2, -6, 0, 0, 0), (49, .invokevirtual 50, 3, 0, 0, 0, 0), (52, .ireturn, 1, 0, 0, 0, 0), (53, .iload_n 3, 1, 0, 0, 0, 0), (54, .ifCond .lt 9, 3, 0, 63, 0, 0), (57, .iload_n 3, 1, 0, 0, 0, 0), (58, .bipush 15, 2, 15, 0, 0, 0), (60, .if_icmp .lt 9, 3, 0, 69, 0, 0), (63, .aload_n 0, 1, 0, 0, 0, 0), (64, .iconst (-1), 1, -1, 0, 0, 0), (65, .invokevirtual 50, 3, 0, 0, 0, 0), (68, .ireturn, 1, 0, 0, 0, 0), (69, .aload_n 0, 1, 0, 0, 0, 0), (70, .getfield 10, 3, 0, 4, 0, 0), (73, .iload_n 3, 1, 0, 0, 0, 0), (74, .invokevirtual 105, 3, 0, 0, 0, 0), (77, .bipush (-9), 2, -9, 0, 0, 0), (79, .if_icmp .eq 10, 3, 0, 89, 0, 0), (82, .aload_n 0, 1, 0, 0, 0, 0), (83, .bipush (-3), 2, -3, 0, 0, 0), (85, .invokevirtual 50, 3, 0, 0, 0, 0), (88, .ireturn, 1, 0, 0, 0, 0), (89, .aload_n 0, 1, 0, 0, 0, 0), (90, .getfield 25, 3, 0, 4, 3, 0), (93, .invokevirtual 73, 3, 0, 0, 0, 0), (96, .aload_n 0, 1, 0, 0, 0, 0), (97, .getfield 10, 3, 0, 4, 0, 0), (100, .iload_n 1, 1, 0, 0, 0, 0), (101, .iload_n 2, 1, 0, 0, 0, 0), (102, .iload_n 3, 1, 0, 0, 0, 0), (103, .invokevirtual 111, 3, 0, 0, 0, 0), (106, .aload_n 0, 1, 0, 0, 0, 0), (107, .getfield 10, 3, 0, 4, 0, 0), (110, .getfield 108, 3, 0, 2, 7, 1), (113, .iconst 1, 1, 1, 0, 0, 0), (114, .isub, 1, 0, 0, 0, 0), (115, .ireturn, 1, 0, 0, 0, 0)]
abbrev Y5_bottle : MethodName := ⟨"GingerArmy", "bottle", "(III)I"⟩
abbrev M5_bottle : MethT := (5, C5_bottle, prog_1_method_6_code, 4, (some .int), Y5_bottle)
abbrev C5_feeds : List CE := [(0, .iload_n 1, 1, 0, 0, 0, 0), (1, .invokestatic 114, 3, 0, 0, 0, 0), (4, .ifCond .eq 10, 3, 0, 14, 0, 0), (7, .aload_n 0, 1, 0, 0, 0, 0), (8, .bipush (-2), 2, -2, 0, 0, 0), (10, .invokevirtual 50, 3, 0, 0, 0, 0), (13, .ireturn, 1, 0, 0, 0, 0), (14, .iload_n 2, 1, 0, 0, 0, 0), (15, .ifCond .ge 10, 3, 0, 25, 0, 0), (18, .aload_n 0, 1, 0, 0, 0, 0), (19, .bipush (-4), 2, -4, 0, 0, 0), (21, .invokevirtual 50, 3, 0, 0, 0, 0), (24, .ireturn, 1, 0, 0, 0, 0), (25, .iload_n 2, 1, 0, 0, 0, 0), (26, .bipush 9, 2, 9, 0, 0, 0), (28, .if_icmp .le 10, 3, 0, 38, 0, 0), (31, .aload_n 0, 1, 0, 0, 0, 0), (32, .bipush (-6), 2, -6, 0, 0, 0), (34, .invokevirtual 50, 3, 0, 0, 0, 0), (37, .ireturn, 1, 0, 0, 0, 0), (38, .aload_n 0, 1, 0, 0, 0, 0), (39, .getfield 25, 3, 0, 4, 3, 0), (42, .aload_n 0, 1, 0, 0, 0, 0), (43, .getfield 10, 3, 0, 4, 0, 0), (46, .invokevirtual 117, 3, 0, 0, 0, 0), (49, .iload_n 1, 1, 0, 0, 0, 0), (50, .ifCond .ne 13, 3, 0, 63, 0, 0), (53, .aload_n 0, 1, 0, 0, 0, 0), (54, .getfield 10, 3, 0, 4, 0, 0), (57, .getfield 120, 3, 0, 2, 10, 1), (60, .goto 10, 3, 0, 70, 0, 0), (63, .aload_n 0, 1, 0, 0, 0, 0), (64, .getfield 10, 3, 0, 4, 0, 0), (67, .getfield 123, 3, 0, 2, 11, 1), (70, .istore_n 3, 1, 0, 0, 0, 0), (71, .iload_n 1, 1, 0, 0, 0, 0), (72, .ifCond .ne 21, 3, 0, 93, 0, 0), (75, .aload_n 0, 1, 0, 0, 0, 0), (76, .getfield 10, 3, 0, 4, 0, 0), (79, .iload_n 2, 1, 0, 0, 0, 0), (80, .aload_n 0, 1, 0, 0, 0, 0), (81, .getfield 10, 3, 0, 4, 0, 0), (84, .getfield 123, 3, 0, 2, 11, 1), (87, .invokevirtual 126, 3, 0, 0, 0, 0), (90, .goto 18, 3, 0, 108, 0, 0), (93, .aload_n 0, 1, 0, 0, 0, 0), (94, .getfield 10, 3, 0, 4, 0, 0), (97, .aload_n 0, 1, 0, 0, 0, 0), (98, .getfield 10, 3, 0, 4, 0, 0), (101, .getfield 120, 3, 0, 2, 10, 1), (104, .iload_n 2, 1, 0, 0, 0, 0), (105, .invokevirtual 126, 3, 0, 0, 0, 0), (108, .iload_n 3, 1, 0, 0, 0, 0), (109, .ireturn, 1, 0, 0, 0, 0)]
abbrev Y5_feeds : MethodName := ⟨"GingerArmy", "feeds", "(II)I"⟩
abbrev M5_feeds : MethT := (5, C5_feeds, prog_1_method_7_code, 4, (some .int), Y5_feeds)
abbrev C5_outs : List CE := [(0, .aload_n 0, 1, 0, 0, 0, 0), (1, .getfield 10, 3, 0, 4, 0, 0), (4, .iload_n 1, 1, 0, 0, 0, 0), (5, .invokevirtual 74, 3, 0, 0, 0, 0), (8, .ifCond .ne 9, 3, 0, 17, 0, 0), (11, .aload_n 0, 1, 0, 0, 0, 0), (12, .iconst (-1), 1, -1, 0, 0, 0), (13, .invokevirtual 50, 3, 0, 0, 0, 0), (16, .ireturn, 1, 0, 0, 0, 0), (17, .aload_n 0, 1, 0, 0, 0, 0), (18, .getfield 10, 3, 0, 4, 0, 0), (21, .iload_n 1, 1, 0, 0, 0, 0), (22, .invokevirtual 90, 3, 0, 0, 0, 0), (25, .ifCond .ne 10, 3, 0, 35, 0, 0), (28, .aload_n 0, 1, 0, 0, 0, 0), (29, .bipush (-3), 2, -3, 0, 0, 0), (31, .invokevirtual 50, 3, 0, 0, 0, 0), (34, .ireturn, 1, 0, 0, 0, 0), (35, .aload_n 0, 1, 0, 0, 0, 0), (36, .getfield 25, 3, 0, 4, 3, 0), (39, .aload_n 0, 1, 0, 0, 0, 0), (40, .getfield 10, 3, 0, 4, 0, 0), (43, .invokevirtual 117, 3, 0, 0, 0, 0), (46, .aload_n 0, 1, 0, 0, 0, 0), (47, .getfield 10, 3, 0, 4, 0, 0), (50, .iload_n 1, 1, 0, 0, 0, 0), (51, .invokevirtual 87, 3, 0, 0, 0, 0), (54, .istore_n 2, 1, 0, 0, 0, 0), (55, .aload_n 0, 1, 0, 0, 0, 0), (56, .getfield 10, 3, 0, 4, 0, 0), (59, .iload_n 1, 1, 0, 0, 0, 0), (60, .iconst 0, 1, 0, 0, 0, 0), (61, .invokevirtual 130, 3, 0, 0, 0, 0), (64, .iload_n 2, 1, 0, 0, 0, 0), (65, .ireturn, 1, 0, 0, 0, 0)]
abbrev Y5_outs : MethodName := ⟨"GingerArmy", "outs", "(I)I"⟩
abbrev M5_outs : MethT := (5, C5_outs, prog_1_method_8_code, 3, (some .int), Y5_outs)
abbrev C5_towels : List CE := [(0, .aload_n 0, 1, 0, 0, 0, 0), (1, .getfield 10, 3, 0, 4, 0, 0), (4, .iload_n 1, 1, 0, 0, 0, 0), (5, .invokevirtual 74, 3, 0, 0, 0, 0), (8, .ifCond .ne 9, 3, 0, 17, 0, 0), (11, .aload_n 0, 1, 0, 0, 0, 0), (12, .iconst (-1), 1, -1, 0, 0, 0), (13, .invokevirtual 50, 3, 0, 0, 0, 0), (16, .ireturn, 1, 0, 0, 0, 0), (17, .aload_n 0, 1, 0, 0, 0, 0), (18, .getfield 10, 3, 0, 4, 0, 0), (21, .iload_n 1, 1, 0, 0, 0, 0), (22, .invokevirtual 90, 3, 0, 0, 0, 0), (25, .ifCond .ne 10, 3, 0, 35, 0, 0), (28, .aload_n 0, 1, 0, 0, 0, 0), (29, .bipush (-3), 2, -3, 0, 0, 0), (31, .invokevirtual 50, 3, 0, 0, 0, 0), (34, .ireturn, 1, 0, 0, 0, 0), (35, .aload_n 0, 1, 0, 0, 0, 0), (36, .getfield 25, 3, 0, 4, 3, 0), (39, .aload_n 0, 1, 0, 0, 0, 0), (40, .getfield 10, 3, 0, 4, 0, 0), (43, .invokevirtual 117, 3, 0, 0, 0, 0), (46, .aload_n 0, 1, 0, 0, 0, 0), (47, .getfield 10, 3, 0, 4, 0, 0), (50, .iload_n 1, 1, 0, 0, 0, 0), (51, .invokevirtual 133, 3, 0, 0, 0, 0), (54, .aload_n 0, 1, 0, 0, 0, 0), (55, .getfield 10, 3, 0, 4, 0, 0), (58, .iload_n 1, 1, 0, 0, 0, 0), (59, .invokevirtual 93, 3, 0, 0, 0, 0), (62, .ifCond .eq 7, 3, 0, 69, 0, 0), (65, .iconst 1, 1, 1, 0, 0, 0), (66, .goto 4, 3, 0, 70, 0, 0), (69, .iconst 0, 1, 0, 0, 0, 0), (70, .ireturn, 1, 0, 0, 0, 0)]
abbrev Y5_towels : MethodName := ⟨"GingerArmy", "towels", "(I)I"⟩
abbrev M5_towels : MethT := (5, C5_towels, prog_1_method_9_code, 2, (some .int), Y5_towels)
abbrev C5_days : List CE := [(0, .iload_n 1, 1, 0, 0, 0, 0), (1, .iconst 1, 1, 1, 0, 0, 0), (2, .if_icmp .ge 10, 3, 0, 12, 0, 0), (5, .aload_n 0, 1, 0, 0, 0, 0), (6, .bipush (-4), 2, -4, 0, 0, 0), (8, .invokevirtual 50, 3, 0, 0, 0, 0), (11, .ireturn, 1, 0, 0, 0, 0), (12, .iload_n 1, 1, 0, 0, 0, 0), (13, .bipush 60, 2, 60, 0, 0, 0), (15, .if_icmp .gt 18, 3, 0, 33, 0, 0), (18, .aload_n 0, 1, 0, 0, 0, 0), (19, .getfield 10, 3, 0, 4, 0, 0), (22, .getfield 136, 3, 0, 2, 12, 1), (25, .iload_n 1, 1, 0, 0, 0, 0), (26, .iadd, 1, 0, 0, 0, 0), (27, .sipush 999, 3, 999, 0, 0, 0), (30, .if_icmp .le 10, 3, 0, 40, 0, 0), (33, .aload_n 0, 1, 0, 0, 0, 0), (34, .bipush (-6), 2, -6, 0, 0, 0), (36, .invokevirtual 50, 3, 0, 0, 0, 0), (39, .ireturn, 1, 0, 0, 0, 0), (40, .aload_n 0, 1, 0, 0, 0, 0), (41, .getfield 25, 3, 0, 4, 3, 0), (44, .aload_n 0, 1, 0, 0, 0, 0), (45, .getfield 10, 3, 0, 4, 0, 0), (48, .invokevirtual 117, 3, 0, 0, 0, 0), (51, .aload_n 0, 1, 0, 0, 0, 0), (52, .getfield 10, 3, 0, 4, 0, 0), (55, .iload_n 1, 1, 0, 0, 0, 0), (56, .invokevirtual 139, 3, 0, 0, 0, 0), (59, .aload_n 0, 1, 0, 0, 0, 0), (60, .getfield 10, 3, 0, 4, 0, 0), (63, .getfield 142, 3, 0, 2, 8, 1), (66, .invokestatic 145, 3, 0, 0, 0, 0), (69, .ireturn, 1, 0, 0, 0, 0)]
abbrev Y5_days : MethodName := ⟨"GingerArmy", "days", "(I)I"⟩
abbrev M5_days : MethT := (5, C5_days, prog_1_method_10_code, 2, (some .int), Y5_days)
abbrev C5_back : List CE := [(0, .aload_n 0, 1, 0, 0, 0, 0), (1, .getfield 25, 3, 0, 4, 3, 0), (4, .getfield 150, 3, 0, 1, 2, 1), (7, .ifCond .ne 10, 3, 0, 17, 0, 0), (10, .aload_n 0, 1, 0, 0, 0, 0), (11, .bipush (-3), 2, -3, 0, 0, 0), (13, .invokevirtual 50, 3, 0, 0, 0, 0), (16, .ireturn, 1, 0, 0, 0, 0), (17, .aload_n 0, 1, 0, 0, 0, 0), (18, .getfield 25, 3, 0, 4, 3, 0), (21, .aload_n 0, 1, 0, 0, 0, 0), (22, .getfield 10, 3, 0, 4, 0, 0), (25, .invokevirtual 153, 3, 0, 0, 0, 0), (28, .aload_n 0, 1, 0, 0, 0, 0), (29, .getfield 25, 3, 0, 4, 3, 0), (32, .getfield 150, 3, 0, 1, 2, 1), (35, .ireturn, 1, 0, 0, 0, 0)]
abbrev Y5_back : MethodName := ⟨"GingerArmy", "back", "()I"⟩
abbrev M5_back : MethT := (5, C5_back, prog_1_method_11_code, 1, (some .int), Y5_back)
abbrev C5_pressIn : List CE := [(0, .aload_n 0, 1, 0, 0, 0, 0), (1, .getfield 10, 3, 0, 4, 0, 0), (4, .iload_n 1, 1, 0, 0, 0, 0), (5, .invokevirtual 74, 3, 0, 0, 0, 0), (8, .ifCond .ne 9, 3, 0, 17, 0, 0), (11, .aload_n 0, 1, 0, 0, 0, 0), (12, .iconst (-1), 1, -1, 0, 0, 0), (13, .invokevirtual 50, 3, 0, 0, 0, 0), (16, .ireturn, 1, 0, 0, 0, 0), (17, .iload_n 2, 1, 0, 0, 0, 0), (18, .invokestatic 156, 3, 0, 0, 0, 0), (21, .istore_n 3, 1, 0, 0, 0, 0), (22, .iload_n 3, 1, 0, 0, 0, 0), (23, .ifCond .eq 9, 3, 0, 32, 0, 0), (26, .aload_n 0, 1, 0, 0, 0, 0), (27, .iload_n 3, 1, 0, 0, 0, 0), (28, .invokevirtual 50, 3, 0, 0, 0, 0), (31, .ireturn, 1, 0, 0, 0, 0), (32, .aload_n 0, 1, 0, 0, 0, 0), (33, .getfield 32, 3, 0, 4, 4, 0), (36, .aload_n 0, 1, 0, 0, 0, 0), (37, .getfield 10, 3, 0, 4, 0, 0), (40, .iload_n 2, 1, 0, 0, 0, 0), (41, .invokevirtual 159, 3, 0, 0, 0, 0), (44, .iload_n 1, 1, 0, 0, 0, 0), (45, .invokevirtual 87, 3, 0, 0, 0, 0), (48, .ireturn, 1, 0, 0, 0, 0)]
abbrev Y5_pressIn : MethodName := ⟨"GingerArmy", "pressIn", "(II)I"⟩
abbrev M5_pressIn : MethT := (5, C5_pressIn, prog_1_method_12_code, 4, (some .int), Y5_pressIn)
abbrev C5_then : List CE := [(0, .iload_n 1, 1, 0, 0, 0, 0), (1, .invokestatic 156, 3, 0, 0, 0, 0), (4, .istore_n 3, 1, 0, 0, 0, 0), (5, .iload_n 3, 1, 0, 0, 0, 0), (6, .ifCond .eq 9, 3, 0, 15, 0, 0), (9, .aload_n 0, 1, 0, 0, 0, 0), (10, .iload_n 3, 1, 0, 0, 0, 0), (11, .invokevirtual 50, 3, 0, 0, 0, 0), (14, .ireturn, 1, 0, 0, 0, 0), (15, .iload_n 2, 1, 0, 0, 0, 0), (16, .ifCond .lt 8, 3, 0, 24, 0, 0), (19, .iload_n 2, 1, 0, 0, 0, 0), (20, .iconst 2, 1, 2, 0, 0, 0), (21, .if_icmp .le 10, 3, 0, 31, 0, 0), (24, .aload_n 0, 1, 0, 0, 0, 0), (25, .bipush (-2), 2, -2, 0, 0, 0), (27, .invokevirtual 50, 3, 0, 0, 0, 0), (30, .ireturn, 1, 0, 0, 0, 0), (31, .aload_n 0, 1, 0, 0, 0, 0), (32, .getfield 32, 3, 0, 4, 4, 0), (35, .aload_n 0, 1, 0, 0, 0, 0), (36, .getfield 10, 3, 0, 4, 0, 0), (39, .iload_n 1, 1, 0, 0, 0, 0), (40, .invokevirtual 159, 3, 0, 0, 0, 0), (43, .astore 4, 2, 0, 0, 0, 0), (45, .iload_n 2, 1, 0, 0, 0, 0), (46, .ifCond .ne 9, 3, 0, 55, 0, 0), (49, .aload 4, 2, 0, 0, 0, 0), (51, .getfield 142, 3, 0, 2, 8, 1), (54, .ireturn, 1, 0, 0, 0, 0), (55, .iload_n 2, 1, 0, 0, 0, 0), (56, .iconst 1, 1, 1, 0, 0, 0), (57, .if_icmp .ne 11, 3, 0, 68, 0, 0), (60, .aload 4, 2, 0, 0, 0, 0), (62, .invokevirtual 163, 3, 0, 0, 0, 0), (65, .goto 11, 3, 0, 76, 0, 0), (68, .aload 4, 2, 0, 0, 0, 0), (70, .getfield 142, 3, 0, 2, 8, 1), (73, .invokestatic 145, 3, 0, 0, 0, 0), (76, .ireturn, 1, 0, 0, 0, 0)]
abbrev Y5_then : MethodName := ⟨"GingerArmy", "then", "(II)I"⟩
abbrev M5_then : MethT := (5, C5_then, prog_1_method_13_code, 5, (some .int), Y5_then)
abbrev C5_goes : List CE := [(0, .iload_n 1, 1, 0, 0, 0, 0), (1, .iconst (-1), 1, -1, 0, 0, 0), (2, .if_icmp .ne 15, 3, 0, 17, 0, 0), (5, .aload_n 0, 1, 0, 0, 0, 0), (6, .getfield 32, 3, 0, 4, 4, 0), (9, .aload_n 0, 1, 0, 0, 0, 0), (10, .getfield 10, 3, 0, 4, 0, 0), (13, .invokevirtual 167, 3, 0, 0, 0, 0), (16, .ireturn, 1, 0, 0, 0, 0), (17, .aload_n 0, 1, 0, 0, 0, 0), (18, .getfield 10, 3, 0, 4, 0, 0), (21, .iload_n 1, 1, 0, 0, 0, 0), (22, .invokevirtual 74, 3, 0, 0, 0, 0), (25, .ifCond .ne 9, 3, 0, 34, 0, 0), (28, .aload_n 0, 1, 0, 0, 0, 0), (29, .iconst (-1), 1, -1, 0, 0, 0), (30, .invokevirtual 50, 3, 0, 0, 0, 0), (33, .ireturn, 1, 0, 0, 0, 0), (34, .aload_n 0, 1, 0, 0, 0, 0), (35, .getfield 32, 3, 0, 4, 4, 0), (38, .aload_n 0, 1, 0, 0, 0, 0), (39, .getfield 10, 3, 0, 4, 0, 0), (42, .iload_n 1, 1, 0, 0, 0, 0), (43, .invokevirtual 170, 3, 0, 0, 0, 0), (46, .ireturn, 1, 0, 0, 0, 0)]
abbrev Y5_goes : MethodName := ⟨"GingerArmy", "goes", "(I)I"⟩
abbrev M5_goes : MethT := (5, C5_goes, prog_1_method_14_code, 2, (some .int), Y5_goes)
abbrev C5_quiet : List CE := [(0, .aload_n 0, 1, 0, 0, 0, 0), (1, .getfield 32, 3, 0, 4, 4, 0), (4, .aload_n 0, 1, 0, 0, 0, 0), (5, .getfield 10, 3, 0, 4, 0, 0), (8, .invokevirtual 174, 3, 0, 0, 0, 0), (11, .ireturn, 1, 0, 0, 0, 0)]
abbrev Y5_quiet : MethodName := ⟨"GingerArmy", "quiet", "()I"⟩
abbrev M5_quiet : MethT := (5, C5_quiet, prog_1_method_15_code, 1, (some .int), Y5_quiet)
abbrev C5_takes : List CE := [(0, .aload_n 0, 1, 0, 0, 0, 0), (1, .getfield 10, 3, 0, 4, 0, 0), (4, .iload_n 1, 1, 0, 0, 0, 0), (5, .invokevirtual 74, 3, 0, 0, 0, 0), (8, .ifCond .ne 9, 3, 0, 17, 0, 0), (11, .aload_n 0, 1, 0, 0, 0, 0), (12, .iconst (-1), 1, -1, 0, 0, 0), (13, .invokevirtual 50, 3, 0, 0, 0, 0), (16, .ireturn, 1, 0, 0, 0, 0), (17, .aload_n 0, 1, 0, 0, 0, 0), (18, .getfield 10, 3, 0, 4, 0, 0), (21, .iload_n 1, 1, 0, 0, 0, 0), (22, .invokevirtual 90, 3, 0, 0, 0, 0), (25, .ifCond .ne 10, 3, 0, 35, 0, 0), (28, .aload_n 0, 1, 0, 0, 0, 0), (29, .bipush (-3), 2, -3, 0, 0, 0), (31, .invokevirtual 50, 3, 0, 0, 0, 0), (34, .ireturn, 1, 0, 0, 0, 0), (35, .aload_n 0, 1, 0, 0, 0, 0), (36, .getfield 32, 3, 0, 4, 4, 0), (39, .aload_n 0, 1, 0, 0, 0, 0), (40, .getfield 10, 3, 0, 4, 0, 0), (43, .iload_n 1, 1, 0, 0, 0, 0), (44, .invokevirtual 177, 3, 0, 0, 0, 0), (47, .ireturn, 1, 0, 0, 0, 0)]
abbrev Y5_takes : MethodName := ⟨"GingerArmy", "takes", "(I)I"⟩
abbrev M5_takes : MethT := (5, C5_takes, prog_1_method_16_code, 2, (some .int), Y5_takes)
abbrev C5_worst : List CE := [(0, .iload_n 1, 1, 0, 0, 0, 0), (1, .invokestatic 114, 3, 0, 0, 0, 0), (4, .ifCond .eq 10, 3, 0, 14, 0, 0), (7, .aload_n 0, 1, 0, 0, 0, 0), (8, .bipush (-2), 2, -2, 0, 0, 0), (10, .invokevirtual 50, 3, 0, 0, 0, 0), (13, .ireturn, 1, 0, 0, 0, 0), (14, .aload_n 0, 1, 0, 0, 0, 0), (15, .getfield 32, 3, 0, 4, 4, 0), (18, .aload_n 0, 1, 0, 0, 0, 0), (19, .getfield 10, 3, 0, 4, 0, 0), (22, .invokevirtual 180, 3, 0, 0, 0, 0), (25, .istore_n 2, 1, 0, 0, 0, 0), (26, .iload_n 1, 1, 0, 0, 0, 0), (27, .ifCond .eq 9, 3, 0, 36, 0, 0), (30, .iload_n 2, 1, 0, 0, 0, 0), (31, .bipush (-9), 2, -9, 0, 0, 0), (33, .if_icmp .ne 5, 3, 0, 38, 0, 0), (36, .iload_n 2, 1, 0, 0, 0, 0), (37, .ireturn, 1, 0, 0, 0, 0), (38, .aload_n 0, 1, 0, 0, 0, 0), (39, .getfield 32, 3, 0, 4, 4, 0), (42, .aload_n 0, 1, 0, 0, 0, 0), (43, .getfield 10, 3, 0, 4, 0, 0), (46, .iload_n 2, 1, 0, 0, 0, 0), (47, .invokevirtual 177, 3, 0, 0, 0, 0), (50, .invokestatic 145, 3, 0, 0, 0, 0), (53, .ireturn, 1, 0, 0, 0, 0)]
abbrev Y5_worst : MethodName := ⟨"GingerArmy", "worst", "(I)I"⟩
abbrev M5_worst : MethT := (5, C5_worst, prog_1_method_17_code, 3, (some .int), Y5_worst)
abbrev C5_safe : List CE := [(0, .aload_n 0, 1, 0, 0, 0, 0), (1, .getfield 10, 3, 0, 4, 0, 0), (4, .iload_n 1, 1, 0, 0, 0, 0), (5, .invokevirtual 74, 3, 0, 0, 0, 0), (8, .ifCond .ne 9, 3, 0, 17, 0, 0), (11, .aload_n 0, 1, 0, 0, 0, 0), (12, .iconst (-1), 1, -1, 0, 0, 0), (13, .invokevirtual 50, 3, 0, 0, 0, 0), (16, .ireturn, 1, 0, 0, 0, 0), (17, .iload_n 2, 1, 0, 0, 0, 0), (18, .invokestatic 156, 3, 0, 0, 0, 0), (21, .istore_n 3, 1, 0, 0, 0, 0), (22, .iload_n 3, 1, 0, 0, 0, 0), (23, .ifCond .eq 9, 3, 0, 32, 0, 0), (26, .aload_n 0, 1, 0, 0, 0, 0), (27, .iload_n 3, 1, 0, 0, 0, 0), (28, .invokevirtual 50, 3, 0, 0, 0, 0), (31, .ireturn, 1, 0, 0, 0, 0), (32, .aload_n 0, 1, 0, 0, 0, 0), (33, .getfield 10, 3, 0, 4, 0, 0), (36, .iload_n 1, 1, 0, 0, 0, 0), (37, .invokevirtual 90, 3, 0, 0, 0, 0), (40, .ifCond .ne 10, 3, 0, 50, 0, 0), (43, .aload_n 0, 1, 0, 0, 0, 0), (44, .bipush (-3), 2, -3, 0, 0, 0), (46, .invokevirtual 50, 3, 0, 0, 0, 0), (49, .ireturn, 1, 0, 0, 0, 0), (50, .aload_n 0, 1, 0, 0, 0, 0), (51, .getfield 32, 3, 0, 4, 4, 0), (54, .aload_n 0, 1, 0, 0, 0, 0), (55, .getfield 10, 3, 0, 4, 0, 0), (58, .iload_n 1, 1, 0, 0, 0, 0), (59, .iload_n 2, 1, 0, 0, 0, 0), (60, .invokevirtual 183, 3, 0, 0, 0, 0), (63, .ireturn, 1, 0, 0, 0, 0)]
abbrev Y5_safe : MethodName := ⟨"GingerArmy", "safe", "(II)I"⟩
abbrev M5_safe : MethT := (5, C5_safe, prog_1_method_18_code, 4, (some .int), Y5_safe)
abbrev C5_towel : List CE := [(0, .iload_n 1, 1, 0, 0, 0, 0), (1, .invokestatic 156, 3, 0, 0, 0, 0), (4, .istore_n 2, 1, 0, 0, 0, 0), (5, .iload_n 2, 1, 0, 0, 0, 0), (6, .ifCond .eq 9, 3, 0, 15, 0, 0), (9, .aload_n 0, 1, 0, 0, 0, 0), (10, .iload_n 2, 1, 0, 0, 0, 0), (11, .invokevirtual 50, 3, 0, 0, 0, 0), (14, .ireturn, 1, 0, 0, 0, 0), (15, .aload_n 0, 1, 0, 0, 0, 0), (16, .getfield 32, 3, 0, 4, 4, 0), (19, .aload_n 0, 1, 0, 0, 0, 0), (20, .getfield 10, 3, 0, 4, 0, 0), (23, .iload_n 1, 1, 0, 0, 0, 0), (24, .invokevirtual 187, 3, 0, 0, 0, 0), (27, .ireturn, 1, 0, 0, 0, 0)]
abbrev Y5_towel : MethodName := ⟨"GingerArmy", "towel", "(I)I"⟩
abbrev M5_towel : MethT := (5, C5_towel, prog_1_method_19_code, 3, (some .int), Y5_towel)
abbrev C5_spoon : List CE := [(0, .iload_n 1, 1, 0, 0, 0, 0), (1, .invokestatic 156, 3, 0, 0, 0, 0), (4, .istore_n 3, 1, 0, 0, 0, 0), (5, .iload_n 3, 1, 0, 0, 0, 0), (6, .ifCond .eq 9, 3, 0, 15, 0, 0), (9, .aload_n 0, 1, 0, 0, 0, 0), (10, .iload_n 3, 1, 0, 0, 0, 0), (11, .invokevirtual 50, 3, 0, 0, 0, 0), (14, .ireturn, 1, 0, 0, 0, 0), (15, .iload_n 2, 1, 0, 0, 0, 0), (16, .invokestatic 114, 3, 0, 0, 0, 0), (19, .ifCond .eq 10, 3, 0, 29, 0, 0), (22, .aload_n 0, 1, 0, 0, 0, 0), (23, .bipush (-2), 2, -2, 0, 0, 0), (25, .invokevirtual 50, 3, 0, 0, 0, 0), (28, .ireturn, 1, 0, 0, 0, 0), (29, .aload_n 0, 1, 0, 0, 0, 0), (30, .getfield 32, 3, 0, 4, 4, 0), (33, .aload_n 0, 1, 0, 0, 0, 0), (34, .getfield 10, 3, 0, 4, 0, 0), (37, .iload_n 1, 1, 0, 0, 0, 0), (38, .invokevirtual 190, 3, 0, 0, 0, 0), (41, .istore 4, 2, 0, 0, 0, 0), (43, .iload_n 2, 1, 0, 0, 0, 0), (44, .ifCond .ne 8, 3, 0, 52, 0, 0), (47, .iload 4, 2, 0, 0, 0, 0), (49, .goto 17, 3, 0, 66, 0, 0), (52, .aload_n 0, 1, 0, 0, 0, 0), (53, .getfield 32, 3, 0, 4, 4, 0), (56, .aload_n 0, 1, 0, 0, 0, 0), (57, .getfield 10, 3, 0, 4, 0, 0), (60, .iload 4, 2, 0, 0, 0, 0), (62, .iload_n 1, 1, 0, 0, 0, 0), (63, .invokevirtual 193, 3, 0, 0, 0, 0), (66, .ireturn, 1, 0, 0, 0, 0)]
abbrev Y5_spoon : MethodName := ⟨"GingerArmy", "spoon", "(II)I"⟩
abbrev M5_spoon : MethT := (5, C5_spoon, prog_1_method_20_code, 5, (some .int), Y5_spoon)
abbrev C5_out : List CE := [(0, .iload_n 1, 1, 0, 0, 0, 0), (1, .invokestatic 156, 3, 0, 0, 0, 0), (4, .istore_n 2, 1, 0, 0, 0, 0), (5, .iload_n 2, 1, 0, 0, 0, 0), (6, .ifCond .eq 9, 3, 0, 15, 0, 0), (9, .aload_n 0, 1, 0, 0, 0, 0), (10, .iload_n 2, 1, 0, 0, 0, 0), (11, .invokevirtual 50, 3, 0, 0, 0, 0), (14, .ireturn, 1, 0, 0, 0, 0), (15, .aload_n 0, 1, 0, 0, 0, 0), (16, .getfield 32, 3, 0, 4, 4, 0), (19, .aload_n 0, 1, 0, 0, 0, 0), (20, .getfield 10, 3, 0, 4, 0, 0), (23, .iload_n 1, 1, 0, 0, 0, 0), (24, .invokevirtual 196, 3, 0, 0, 0, 0), (27, .ireturn, 1, 0, 0, 0, 0)]
abbrev Y5_out : MethodName := ⟨"GingerArmy", "out", "(I)I"⟩
abbrev M5_out : MethT := (5, C5_out, prog_1_method_21_code, 3, (some .int), Y5_out)
abbrev C5_ready : List CE := [(0, .aload_n 0, 1, 0, 0, 0, 0), (1, .getfield 10, 3, 0, 4, 0, 0), (4, .iload_n 1, 1, 0, 0, 0, 0), (5, .invokevirtual 74, 3, 0, 0, 0, 0), (8, .ifCond .ne 9, 3, 0, 17, 0, 0), (11, .aload_n 0, 1, 0, 0, 0, 0), (12, .iconst (-1), 1, -1, 0, 0, 0), (13, .invokevirtual 50, 3, 0, 0, 0, 0), (16, .ireturn, 1, 0, 0, 0, 0), (17, .iload_n 2, 1, 0, 0, 0, 0), (18, .ifCond .lt 7, 3, 0, 25, 0, 0), (21, .iload_n 3, 1, 0, 0, 0, 0), (22, .ifCond .ge 10, 3, 0, 32, 0, 0), (25, .aload_n 0, 1, 0, 0, 0, 0), (26, .bipush (-4), 2, -4, 0, 0, 0), (28, .invokevirtual 50, 3, 0, 0, 0, 0), (31, .ireturn, 1, 0, 0, 0, 0), (32, .iload_n 2, 1, 0, 0, 0, 0), (33, .bipush 99, 2, 99, 0, 0, 0), (35, .if_icmp .gt 9, 3, 0, 44, 0, 0), (38, .iload_n 3, 1, 0, 0, 0, 0), (39, .bipush 60, 2, 60, 0, 0, 0), (41, .if_icmp .le 10, 3, 0, 51, 0, 0), (44, .aload_n 0, 1, 0, 0, 0, 0), (45, .bipush (-6), 2, -6, 0, 0, 0), (47, .invokevirtual 50, 3, 0, 0, 0, 0), (50, .ireturn, 1, 0, 0, 0, 0), (51, .aload_n 0, 1, 0, 0, 0, 0), (52, .getfield 32, 3, 0, 4, 4, 0), (55, .aload_n 0, 1, 0, 0, 0, 0), (56, .getfield 10, 3, 0, 4, 0, 0), (59, .iload_n 1, 1, 0, 0, 0, 0), (60, .iload_n 2, 1, 0, 0, 0, 0), (61, .iload_n 3, 1, 0, 0, 0, 0), (62, .invokevirtual 199, 3, 0, 0, 0, 0), (65, .ireturn, 1, 0, 0, 0, 0)]
abbrev Y5_ready : MethodName := ⟨"GingerArmy", "ready", "(III)I"⟩
abbrev M5_ready : MethT := (5, C5_ready, prog_1_method_22_code, 4, (some .int), Y5_ready)
abbrev C5_feedFor : List CE := [(0, .aload_n 0, 1, 0, 0, 0, 0), (1, .getfield 10, 3, 0, 4, 0, 0), (4, .iload_n 1, 1, 0, 0, 0, 0), (5, .invokevirtual 74, 3, 0, 0, 0, 0), (8, .ifCond .ne 9, 3, 0, 17, 0, 0), (11, .aload_n 0, 1, 0, 0, 0, 0), (12, .iconst (-1), 1, -1, 0, 0, 0), (13, .invokevirtual 50, 3, 0, 0, 0, 0), (16, .ireturn, 1, 0, 0, 0, 0), (17, .iload_n 2, 1, 0, 0, 0, 0), (18, .ifCond .ge 10, 3, 0, 28, 0, 0), (21, .aload_n 0, 1, 0, 0, 0, 0), (22, .bipush (-4), 2, -4, 0, 0, 0), (24, .invokevirtual 50, 3, 0, 0, 0, 0), (27, .ireturn, 1, 0, 0, 0, 0), (28, .iload_n 2, 1, 0, 0, 0, 0), (29, .bipush 99, 2, 99, 0, 0, 0), (31, .if_icmp .le 10, 3, 0, 41, 0, 0), (34, .aload_n 0, 1, 0, 0, 0, 0), (35, .bipush (-6), 2, -6, 0, 0, 0), (37, .invokevirtual 50, 3, 0, 0, 0, 0), (40, .ireturn, 1, 0, 0, 0, 0), (41, .aload_n 0, 1, 0, 0, 0, 0), (42, .getfield 32, 3, 0, 4, 4, 0), (45, .aload_n 0, 1, 0, 0, 0, 0), (46, .getfield 10, 3, 0, 4, 0, 0), (49, .iload_n 1, 1, 0, 0, 0, 0), (50, .iload_n 2, 1, 0, 0, 0, 0), (51, .invokevirtual 203, 3, 0, 0, 0, 0), (54, .ireturn, 1, 0, 0, 0, 0)]
abbrev Y5_feedFor : MethodName := ⟨"GingerArmy", "feedFor", "(II)I"⟩
abbrev M5_feedFor : MethT := (5, C5_feedFor, prog_1_method_23_code, 3, (some .int), Y5_feedFor)
abbrev C5_move : List CE := [(0, .iload_n 1, 1, 0, 0, 0, 0), (1, .invokestatic 156, 3, 0, 0, 0, 0), (4, .istore_n 2, 1, 0, 0, 0, 0), (5, .iload_n 2, 1, 0, 0, 0, 0), (6, .ifCond .eq 9, 3, 0, 15, 0, 0), (9, .aload_n 0, 1, 0, 0, 0, 0), (10, .iload_n 2, 1, 0, 0, 0, 0), (11, .invokevirtual 50, 3, 0, 0, 0, 0), (14, .ireturn, 1, 0, 0, 0, 0), (15, .aload_n 0, 1, 0, 0, 0, 0), (16, .getfield 32, 3, 0, 4, 4, 0), (19, .aload_n 0, 1, 0, 0, 0, 0), (20, .getfield 10, 3, 0, 4, 0, 0), (23, .iload_n 1, 1, 0, 0, 0, 0), (24, .invokevirtual 206, 3, 0, 0, 0, 0), (27, .ireturn, 1, 0, 0, 0, 0)]
abbrev Y5_move : MethodName := ⟨"GingerArmy", "move", "(I)I"⟩
abbrev M5_move : MethT := (5, C5_move, prog_1_method_24_code, 3, (some .int), Y5_move)
abbrev C5_halved : List CE := [(0, .aload_n 0, 1, 0, 0, 0, 0), (1, .getfield 32, 3, 0, 4, 4, 0), (4, .aload_n 0, 1, 0, 0, 0, 0), (5, .getfield 10, 3, 0, 4, 0, 0), (8, .invokevirtual 209, 3, 0, 0, 0, 0), (11, .ireturn, 1, 0, 0, 0, 0)]
abbrev Y5_halved : MethodName := ⟨"GingerArmy", "halved", "()I"⟩
abbrev M5_halved : MethT := (5, C5_halved, prog_1_method_25_code, 1, (some .int), Y5_halved)
abbrev C5_whoWent : List CE := [(0, .aload_n 0, 1, 0, 0, 0, 0), (1, .getfield 32, 3, 0, 4, 4, 0), (4, .aload_n 0, 1, 0, 0, 0, 0), (5, .getfield 10, 3, 0, 4, 0, 0), (8, .aload_n 0, 1, 0, 0, 0, 0), (9, .getfield 43, 3, 0, 4, 6, 0), (12, .aload_n 0, 1, 0, 0, 0, 0), (13, .getfield 212, 3, 0, 4, 8, 0), (16, .invokevirtual 215, 3, 0, 0, 0, 0), (19, .ireturn, 1, 0, 0, 0, 0)]
abbrev Y5_whoWent : MethodName := ⟨"GingerArmy", "whoWent", "()I"⟩
abbrev M5_whoWent : MethT := (5, C5_whoWent, prog_1_method_26_code, 1, (some .int), Y5_whoWent)
abbrev C5_whatKind : List CE := [(0, .aload_n 0, 1, 0, 0, 0, 0), (1, .getfield 10, 3, 0, 4, 0, 0), (4, .iload_n 1, 1, 0, 0, 0, 0), (5, .invokevirtual 74, 3, 0, 0, 0, 0), (8, .ifCond .ne 9, 3, 0, 17, 0, 0), (11, .aload_n 0, 1, 0, 0, 0, 0), (12, .iconst (-1), 1, -1, 0, 0, 0), (13, .invokevirtual 50, 3, 0, 0, 0, 0), (16, .ireturn, 1, 0, 0, 0, 0), (17, .iload_n 2, 1, 0, 0, 0, 0), (18, .invokestatic 114, 3, 0, 0, 0, 0), (21, .ifCond .eq 10, 3, 0, 31, 0, 0), (24, .aload_n 0, 1, 0, 0, 0, 0), (25, .bipush (-2), 2, -2, 0, 0, 0), (27, .invokevirtual 50, 3, 0, 0, 0, 0), (30, .ireturn, 1, 0, 0, 0, 0), (31, .iload_n 2, 1, 0, 0, 0, 0), (32, .ifCond .ne 24, 3, 0, 56, 0, 0), (35, .aload_n 0, 1, 0, 0, 0, 0), (36, .getfield 32, 3, 0, 4, 4, 0), (39, .aload_n 0, 1, 0, 0, 0, 0), (40, .getfield 10, 3, 0, 4, 0, 0), (43, .iload_n 1, 1, 0, 0, 0, 0), (44, .aload_n 0, 1, 0, 0, 0, 0), (45, .getfield 43, 3, 0, 4, 6, 0), (48, .aload_n 0, 1, 0, 0, 0, 0), (49, .getfield 212, 3, 0, 4, 8, 0), (52, .invokevirtual 219, 3, 0, 0, 0, 0), (55, .ireturn, 1, 0, 0, 0, 0), (56, .aload_n 0, 1, 0, 0, 0, 0), (57, .getfield 32, 3, 0, 4, 4, 0), (60, .aload_n 0, 1, 0, 0, 0, 0), (61, .getfield 10, 3, 0, 4, 0, 0), (64, .iload_n 1, 1, 0, 0, 0, 0), (65, .aload_n 0, 1, 0, 0, 0, 0), (66, .getfield 43, 3, 0, 4, 6, 0), (69, .aload_n 0, 1, 0, 0, 0, 0), (70, .getfield 212, 3, 0, 4, 8, 0), (73, .invokevirtual 223, 3, 0, 0, 0, 0), (76, .ireturn, 1, 0, 0, 0, 0)]
abbrev Y5_whatKind : MethodName := ⟨"GingerArmy", "whatKind", "(II)I"⟩
abbrev M5_whatKind : MethT := (5, C5_whatKind, prog_1_method_27_code, 3, (some .int), Y5_whatKind)
abbrev C5_two : List CE := [(0, .aload_n 0, 1, 0, 0, 0, 0), (1, .iload_n 1, 1, 0, 0, 0, 0), (2, .iload_n 2, 1, 0, 0, 0, 0), (3, .invokevirtual 226, 3, 0, 0, 0, 0), (6, .ifCond .eq 9, 3, 0, 15, 0, 0), (9, .aload_n 0, 1, 0, 0, 0, 0), (10, .iconst (-1), 1, -1, 0, 0, 0), (11, .invokevirtual 50, 3, 0, 0, 0, 0), (14, .ireturn, 1, 0, 0, 0, 0), (15, .iload_n 3, 1, 0, 0, 0, 0), (16, .invokestatic 156, 3, 0, 0, 0, 0), (19, .istore 4, 2, 0, 0, 0, 0), (21, .iload 4, 2, 0, 0, 0, 0), (23, .ifCond .eq 10, 3, 0, 33, 0, 0), (26, .aload_n 0, 1, 0, 0, 0, 0), (27, .iload 4, 2, 0, 0, 0, 0), (29, .invokevirtual 50, 3, 0, 0, 0, 0), (32, .ireturn, 1, 0, 0, 0, 0), (33, .aload_n 0, 1, 0, 0, 0, 0), (34, .getfield 10, 3, 0, 4, 0, 0), (37, .iload_n 1, 1, 0, 0, 0, 0), (38, .invokevirtual 90, 3, 0, 0, 0, 0), (41, .ifCond .eq 14, 3, 0, 55, 0, 0), (44, .aload_n 0, 1, 0, 0, 0, 0), (45, .getfield 10, 3, 0, 4, 0, 0), (48, .iload_n 2, 1, 0, 0, 0, 0), (49, .invokevirtual 90, 3, 0, 0, 0, 0), (52, .ifCond .ne 10, 3, 0, 62, 0, 0), (55, .aload_n 0, 1, 0, 0, 0, 0), (56, .bipush (-3), 2, -3, 0, 0, 0), (58, .invokevirtual 50, 3, 0, 0, 0, 0), (61, .ireturn, 1, 0, 0, 0, 0), (62, .aload_n 0, 1, 0, 0, 0, 0), (63, .getfield 32, 3, 0, 4, 4, 0), (66, .aload_n 0, 1, 0, 0, 0, 0), (67, .getfield 10, 3, 0, 4, 0, 0), (70, .iload_n 1, 1, 0, 0, 0, 0), (71, .iload_n 2, 1, 0, 0, 0, 0), (72, .iload_n 3, 1, 0, 0, 0, 0), (73, .invokevirtual 230, 3, 0, 0, 0, 0), (76, .ireturn, 1, 0, 0, 0, 0)]
abbrev Y5_two : MethodName := ⟨"GingerArmy", "two", "(III)I"⟩
abbrev M5_two : MethT := (5, C5_two, prog_1_method_28_code, 5, (some .int), Y5_two)
abbrev C5_thunders : List CE := [(0, .aload_n 0, 1, 0, 0, 0, 0), (1, .getfield 10, 3, 0, 4, 0, 0), (4, .iload_n 1, 1, 0, 0, 0, 0), (5, .invokevirtual 74, 3, 0, 0, 0, 0), (8, .ifCond .ne 9, 3, 0, 17, 0, 0), (11, .aload_n 0, 1, 0, 0, 0, 0), (12, .iconst (-1), 1, -1, 0, 0, 0), (13, .invokevirtual 233, 3, 0, 0, 0, 0), (16, .lreturn, 1, 0, 0, 0, 0), (17, .iload_n 2, 1, 0, 0, 0, 0), (18, .ifCond .lt 8, 3, 0, 26, 0, 0), (21, .iload_n 3, 1, 0, 0, 0, 0), (22, .iconst 2, 1, 2, 0, 0, 0), (23, .if_icmp .ge 10, 3, 0, 33, 0, 0), (26, .aload_n 0, 1, 0, 0, 0, 0), (27, .bipush (-4), 2, -4, 0, 0, 0), (29, .invokevirtual 233, 3, 0, 0, 0, 0), (32, .lreturn, 1, 0, 0, 0, 0), (33, .iload_n 2, 1, 0, 0, 0, 0), (34, .bipush 7, 2, 7, 0, 0, 0), (36, .if_icmp .gt 9, 3, 0, 45, 0, 0), (39, .iload_n 3, 1, 0, 0, 0, 0), (40, .bipush 20, 2, 20, 0, 0, 0), (42, .if_icmp .le 10, 3, 0, 52, 0, 0), (45, .aload_n 0, 1, 0, 0, 0, 0), (46, .bipush (-6), 2, -6, 0, 0, 0), (48, .invokevirtual 233, 3, 0, 0, 0, 0), (51, .lreturn, 1, 0, 0, 0, 0), (52, .iload 4, 2, 0, 0, 0, 0), (54, .invokestatic 114, 3, 0, 0, 0, 0), (57, .ifCond .eq 10, 3, 0, 67, 0, 0), (60, .aload_n 0, 1, 0, 0, 0, 0), (61, .bipush (-2), 2, -2, 0, 0, 0), (63, .invokevirtual 233, 3, 0, 0, 0, 0), (66, .lreturn, 1, 0, 0, 0, 0), (67, .lconst 1, 1, 0, 1, 0, 0), (68, .lstore 5, 2, 0, 0, 0, 0), (70, .iconst 0, 1, 0, 0, 0, 0), (71, .istore 7, 2, 0, 0, 0, 0), (73, .iload 7, 2, 0, 0, 0, 0), (75, .iload_n 2, 1, 0, 0, 0, 0), (76, .if_icmp .ge 16, 3, 0, 92, 0, 0), (79, .lload 5, 2, 0, 0, 0, 0), (81, .iload_n 3, 1, 0, 0, 0, 0), (82, .i2l, 1, 0, 0, 0, 0), (83, .lmul, 1, 0, 0, 0, 0), (84, .lstore 5, 2, 0, 0, 0, 0), (86, .iinc 7 1, 3, 1, 0, 0, 0), (89, .goto (-16), 3, 0, 73, 0, 0), (92, .aload_n 0, 1, 0, 0, 0, 0), (93, .getfield 32, 3, 0, 4, 4, 0), (96, .aload_n 0, 1, 0, 0, 0, 0), (97, .getfield 10, 3, 0, 4, 0, 0), (100, .iload_n 1, 1, 0, 0, 0, 0), (101, .iload_n 2, 1, 0, 0, 0, 0), (102, .iload_n 3, 1, 0, 0, 0, 0), (103, .invokevirtual 237, 3, 0, 0, 0, 0), (106, .lload 5, 2, 0, 0, 0, 0), (108, .iload 4, 2, 0, 0, 0, 0), (110, .invokestatic 241, 3, 0, 0, 0, 0), (113, .lreturn, 1, 0, 0, 0, 0)]
abbrev Y5_thunders : MethodName := ⟨"GingerArmy", "thunders", "(IIII)J"⟩
abbrev M5_thunders : MethT := (5, C5_thunders, prog_1_method_29_code, 8, (some .long), Y5_thunders)
abbrev C5_shares : List CE := [(0, .iload_n 1, 1, 0, 0, 0, 0), (1, .iconst 1, 1, 1, 0, 0, 0), (2, .if_icmp .ge 10, 3, 0, 12, 0, 0), (5, .aload_n 0, 1, 0, 0, 0, 0), (6, .bipush (-4), 2, -4, 0, 0, 0), (8, .invokevirtual 50, 3, 0, 0, 0, 0), (11, .ireturn, 1, 0, 0, 0, 0), (12, .iload_n 1, 1, 0, 0, 0, 0), (13, .bipush 9, 2, 9, 0, 0, 0), (15, .if_icmp .le 10, 3, 0, 25, 0, 0), (18, .aload_n 0, 1, 0, 0, 0, 0), (19, .bipush (-6), 2, -6, 0, 0, 0), (21, .invokevirtual 50, 3, 0, 0, 0, 0), (24, .ireturn, 1, 0, 0, 0, 0), (25, .iload_n 2, 1, 0, 0, 0, 0), (26, .invokestatic 114, 3, 0, 0, 0, 0), (29, .ifCond .eq 10, 3, 0, 39, 0, 0), (32, .aload_n 0, 1, 0, 0, 0, 0), (33, .bipush (-2), 2, -2, 0, 0, 0), (35, .invokevirtual 50, 3, 0, 0, 0, 0), (38, .ireturn, 1, 0, 0, 0, 0), (39, .iload_n 2, 1, 0, 0, 0, 0), (40, .ifCond .ne 15, 3, 0, 55, 0, 0), (43, .aload_n 0, 1, 0, 0, 0, 0), (44, .getfield 10, 3, 0, 4, 0, 0), (47, .getfield 120, 3, 0, 2, 10, 1), (50, .iload_n 1, 1, 0, 0, 0, 0), (51, .idiv, 1, 0, 0, 0, 0), (52, .goto 12, 3, 0, 64, 0, 0), (55, .aload_n 0, 1, 0, 0, 0, 0), (56, .getfield 10, 3, 0, 4, 0, 0), (59, .getfield 120, 3, 0, 2, 10, 1), (62, .iload_n 1, 1, 0, 0, 0, 0), (63, .irem, 1, 0, 0, 0, 0), (64, .ireturn, 1, 0, 0, 0, 0)]
abbrev Y5_shares : MethodName := ⟨"GingerArmy", "shares", "(II)I"⟩
abbrev M5_shares : MethT := (5, C5_shares, prog_1_method_30_code, 3, (some .int), Y5_shares)
abbrev C5_tightest : List CE := [(0, .iload_n 1, 1, 0, 0, 0, 0), (1, .ifCond .ne 11, 3, 0, 12, 0, 0), (4, .aload_n 0, 1, 0, 0, 0, 0), (5, .getfield 10, 3, 0, 4, 0, 0), (8, .invokevirtual 245, 3, 0, 0, 0, 0), (11, .ireturn, 1, 0, 0, 0, 0), (12, .iload_n 1, 1, 0, 0, 0, 0), (13, .iconst 1, 1, 1, 0, 0, 0), (14, .if_icmp .ne 11, 3, 0, 25, 0, 0), (17, .aload_n 0, 1, 0, 0, 0, 0), (18, .getfield 10, 3, 0, 4, 0, 0), (21, .invokevirtual 248, 3, 0, 0, 0, 0), (24, .ireturn, 1, 0, 0, 0, 0), (25, .iload_n 1, 1, 0, 0, 0, 0), (26, .iconst 2, 1, 2, 0, 0, 0), (27, .if_icmp .ne 22, 3, 0, 49, 0, 0), (30, .aload_n 0, 1, 0, 0, 0, 0), (31, .getfield 10, 3, 0, 4, 0, 0), (34, .getfield 108, 3, 0, 2, 7, 1), (37, .aload_n 0, 1, 0, 0, 0, 0), (38, .getfield 10, 3, 0, 4, 0, 0), (41, .getfield 142, 3, 0, 2, 8, 1), (44, .invokestatic 145, 3, 0, 0, 0, 0), (47, .isub, 1, 0, 0, 0, 0), (48, .ireturn, 1, 0, 0, 0, 0), (49, .aload_n 0, 1, 0, 0, 0, 0), (50, .bipush (-2), 2, -2, 0, 0, 0), (52, .invokevirtual 50, 3, 0, 0, 0, 0), (55, .ireturn, 1, 0, 0, 0, 0)]
abbrev Y5_tightest : MethodName := ⟨"GingerArmy", "tightest", "(I)I"⟩
abbrev M5_tightest : MethT := (5, C5_tightest, prog_1_method_31_code, 2, (some .int), Y5_tightest)
abbrev C5_near : List CE := [(0, .aload_n 0, 1, 0, 0, 0, 0), (1, .getfield 10, 3, 0, 4, 0, 0), (4, .iload_n 1, 1, 0, 0, 0, 0), (5, .invokevirtual 74, 3, 0, 0, 0, 0), (8, .ifCond .ne 9, 3, 0, 17, 0, 0), (11, .aload_n 0, 1, 0, 0, 0, 0), (12, .iconst (-1), 1, -1, 0, 0, 0), (13, .invokevirtual 50, 3, 0, 0, 0, 0), (16, .ireturn, 1, 0, 0, 0, 0), (17, .aload_n 0, 1, 0, 0, 0, 0), (18, .getfield 10, 3, 0, 4, 0, 0), (21, .iload_n 1, 1, 0, 0, 0, 0), (22, .invokevirtual 251, 3, 0, 0, 0, 0), (25, .ireturn, 1, 0, 0, 0, 0)]
abbrev Y5_near : MethodName := ⟨"GingerArmy", "near", "(I)I"⟩
abbrev M5_near : MethT := (5, C5_near, prog_1_method_32_code, 2, (some .int), Y5_near)
abbrev C5_mean : List CE := [(0, .iload_n 1, 1, 0, 0, 0, 0), (1, .invokestatic 114, 3, 0, 0, 0, 0), (4, .ifCond .eq 10, 3, 0, 14, 0, 0), (7, .aload_n 0, 1, 0, 0, 0, 0), (8, .bipush (-2), 2, -2, 0, 0, 0), (10, .invokevirtual 233, 3, 0, 0, 0, 0), (13, .lreturn, 1, 0, 0, 0, 0), (14, .aload_n 0, 1, 0, 0, 0, 0), (15, .getfield 10, 3, 0, 4, 0, 0), (18, .invokevirtual 163, 3, 0, 0, 0, 0), (21, .i2l, 1, 0, 0, 0, 0), (22, .aload_n 0, 1, 0, 0, 0, 0), (23, .getfield 10, 3, 0, 4, 0, 0), (26, .getfield 142, 3, 0, 2, 8, 1), (29, .invokestatic 145, 3, 0, 0, 0, 0), (32, .i2l, 1, 0, 0, 0, 0), (33, .iload_n 1, 1, 0, 0, 0, 0), (34, .invokestatic 241, 3, 0, 0, 0, 0), (37, .lreturn, 1, 0, 0, 0, 0)]
abbrev Y5_mean : MethodName := ⟨"GingerArmy", "mean", "(I)J"⟩
abbrev M5_mean : MethT := (5, C5_mean, prog_1_method_33_code, 2, (some .long), Y5_mean)
abbrev C5_spare : List CE := [(0, .aload_n 0, 1, 0, 0, 0, 0), (1, .getfield 10, 3, 0, 4, 0, 0), (4, .iload_n 1, 1, 0, 0, 0, 0), (5, .invokevirtual 74, 3, 0, 0, 0, 0), (8, .ifCond .ne 9, 3, 0, 17, 0, 0), (11, .aload_n 0, 1, 0, 0, 0, 0), (12, .iconst (-1), 1, -1, 0, 0, 0), (13, .invokevirtual 50, 3, 0, 0, 0, 0), (16, .ireturn, 1, 0, 0, 0, 0), (17, .iconst 0, 1, 0, 0, 0, 0), (18, .aload_n 0, 1, 0, 0, 0, 0), (19, .getfield 10, 3, 0, 4, 0, 0), (22, .iload_n 1, 1, 0, 0, 0, 0), (23, .invokevirtual 99, 3, 0, 0, 0, 0), (26, .aload_n 0, 1, 0, 0, 0, 0), (27, .getfield 10, 3, 0, 4, 0, 0), (30, .iload_n 1, 1, 0, 0, 0, 0), (31, .invokevirtual 87, 3, 0, 0, 0, 0), (34, .isub, 1, 0, 0, 0, 0), (35, .invokestatic 254, 3, 0, 0, 0, 0), (38, .ireturn, 1, 0, 0, 0, 0)]
abbrev Y5_spare : MethodName := ⟨"GingerArmy", "spare", "(I)I"⟩
abbrev M5_spare : MethT := (5, C5_spare, prog_1_method_34_code, 2, (some .int), Y5_spare)
abbrev C5_pairs : List CE := [(0, .iload_n 1, 1, 0, 0, 0, 0), (1, .tableswitch 93 0 3 #[31, 39, 51, 81], 31, 0, 0, 0, 0), (32, .aload_n 0, 1, 0, 0, 0, 0), (33, .getfield 10, 3, 0, 4, 0, 0), (36, .invokevirtual 260, 3, 0, 0, 0, 0), (39, .ireturn, 1, 0, 0, 0, 0), (40, .aload_n 0, 1, 0, 0, 0, 0), (41, .getfield 32, 3, 0, 4, 4, 0), (44, .aload_n 0, 1, 0, 0, 0, 0), (45, .getfield 10, 3, 0, 4, 0, 0), (48, .invokevirtual 263, 3, 0, 0, 0, 0), (51, .ireturn, 1, 0, 0, 0, 0), (52, .aload_n 0, 1, 0, 0, 0, 0), (53, .getfield 10, 3, 0, 4, 0, 0), (56, .getfield 142, 3, 0, 2, 8, 1), (59, .invokestatic 145, 3, 0, 0, 0, 0), (62, .aload_n 0, 1, 0, 0, 0, 0), (63, .getfield 32, 3, 0, 4, 4, 0), (66, .aload_n 0, 1, 0, 0, 0, 0), (67, .getfield 10, 3, 0, 4, 0, 0), (70, .iconst 1, 1, 1, 0, 0, 0), (71, .invokevirtual 159, 3, 0, 0, 0, 0), (74, .getfield 142, 3, 0, 2, 8, 1), (77, .invokestatic 145, 3, 0, 0, 0, 0), (80, .isub, 1, 0, 0, 0, 0), (81, .ireturn, 1, 0, 0, 0, 0), (82, .aload_n 0, 1, 0, 0, 0, 0), (83, .getfield 32, 3, 0, 4, 4, 0), (86, .aload_n 0, 1, 0, 0, 0, 0), (87, .getfield 10, 3, 0, 4, 0, 0), (90, .invokevirtual 266, 3, 0, 0, 0, 0), (93, .ireturn, 1, 0, 0, 0, 0), (94, .aload_n 0, 1, 0, 0, 0, 0), (95, .bipush (-2), 2, -2, 0, 0, 0), (97, .invokevirtual 50, 3, 0, 0, 0, 0), (100, .ireturn, 1, 0, 0, 0, 0)]
abbrev Y5_pairs : MethodName := ⟨"GingerArmy", "pairs", "(I)I"⟩
abbrev M5_pairs : MethT := (5, C5_pairs, prog_1_method_35_code, 2, (some .int), Y5_pairs)
abbrev C5_eased : List CE := [(0, .aload_n 0, 1, 0, 0, 0, 0), (1, .iload_n 1, 1, 0, 0, 0, 0), (2, .iload_n 2, 1, 0, 0, 0, 0), (3, .invokevirtual 226, 3, 0, 0, 0, 0), (6, .ifCond .eq 7, 3, 0, 13, 0, 0), (9, .iconst (-1), 1, -1, 0, 0, 0), (10, .goto 7, 3, 0, 17, 0, 0), (13, .iload_n 3, 1, 0, 0, 0, 0), (14, .invokestatic 156, 3, 0, 0, 0, 0), (17, .istore 4, 2, 0, 0, 0, 0), (19, .iload 4, 2, 0, 0, 0, 0), (21, .ifCond .eq 14, 3, 0, 35, 0, 0), (24, .ldc_w 269, 3, 1000000000, 0, 0, 0), (27, .aload_n 0, 1, 0, 0, 0, 0), (28, .iload 4, 2, 0, 0, 0, 0), (30, .invokevirtual 50, 3, 0, 0, 0, 0), (33, .isub, 1, 0, 0, 0, 0), (34, .ireturn, 1, 0, 0, 0, 0), (35, .aload_n 0, 1, 0, 0, 0, 0), (36, .getfield 32, 3, 0, 4, 4, 0), (39, .aload_n 0, 1, 0, 0, 0, 0), (40, .getfield 10, 3, 0, 4, 0, 0), (43, .iload_n 1, 1, 0, 0, 0, 0), (44, .iload_n 2, 1, 0, 0, 0, 0), (45, .iload_n 3, 1, 0, 0, 0, 0), (46, .invokevirtual 270, 3, 0, 0, 0, 0), (49, .ireturn, 1, 0, 0, 0, 0)]
abbrev Y5_eased : MethodName := ⟨"GingerArmy", "eased", "(III)I"⟩
abbrev M5_eased : MethT := (5, C5_eased, prog_1_method_36_code, 5, (some .int), Y5_eased)
abbrev C5_officers : List CE := [(0, .iload_n 1, 1, 0, 0, 0, 0), (1, .ifCond .lt 9, 3, 0, 10, 0, 0), (4, .iload_n 1, 1, 0, 0, 0, 0), (5, .bipush 6, 2, 6, 0, 0, 0), (7, .if_icmp .lt 10, 3, 0, 17, 0, 0), (10, .aload_n 0, 1, 0, 0, 0, 0), (11, .bipush (-2), 2, -2, 0, 0, 0), (13, .invokevirtual 50, 3, 0, 0, 0, 0), (16, .ireturn, 1, 0, 0, 0, 0), (17, .aload_n 0, 1, 0, 0, 0, 0), (18, .getfield 10, 3, 0, 4, 0, 0), (21, .iload_n 1, 1, 0, 0, 0, 0), (22, .invokevirtual 273, 3, 0, 0, 0, 0), (25, .ireturn, 1, 0, 0, 0, 0)]
abbrev Y5_officers : MethodName := ⟨"GingerArmy", "officers", "(I)I"⟩
abbrev M5_officers : MethT := (5, C5_officers, prog_1_method_37_code, 2, (some .int), Y5_officers)
abbrev C5_row : List CE := [(0, .iload_n 1, 1, 0, 0, 0, 0), (1, .ifCond .ge 10, 3, 0, 11, 0, 0), (4, .aload_n 0, 1, 0, 0, 0, 0), (5, .bipush (-4), 2, -4, 0, 0, 0), (7, .invokevirtual 50, 3, 0, 0, 0, 0), (10, .ireturn, 1, 0, 0, 0, 0), (11, .iload_n 1, 1, 0, 0, 0, 0), (12, .bipush 99, 2, 99, 0, 0, 0), (14, .if_icmp .gt 15, 3, 0, 29, 0, 0), (17, .aload_n 0, 1, 0, 0, 0, 0), (18, .getfield 212, 3, 0, 4, 8, 0), (21, .aload_n 0, 1, 0, 0, 0, 0), (22, .getfield 43, 3, 0, 4, 6, 0), (25, .arraylength, 1, 0, 0, 0, 0), (26, .if_icmp .lt 10, 3, 0, 36, 0, 0), (29, .aload_n 0, 1, 0, 0, 0, 0), (30, .bipush (-6), 2, -6, 0, 0, 0), (32, .invokevirtual 50, 3, 0, 0, 0, 0), (35, .ireturn, 1, 0, 0, 0, 0), (36, .aload_n 0, 1, 0, 0, 0, 0), (37, .getfield 43, 3, 0, 4, 6, 0), (40, .aload_n 0, 1, 0, 0, 0, 0), (41, .getfield 212, 3, 0, 4, 8, 0), (44, .iload_n 1, 1, 0, 0, 0, 0), (45, .iastore, 1, 0, 0, 0, 0), (46, .aload_n 0, 1, 0, 0, 0, 0), (47, .dup, 1, 0, 0, 0, 0), (48, .getfield 212, 3, 0, 4, 8, 0), (51, .iconst 1, 1, 1, 0, 0, 0), (52, .iadd, 1, 0, 0, 0, 0), (53, .putfield 212, 3, 0, 4, 8, 0), (56, .aload_n 0, 1, 0, 0, 0, 0), (57, .getfield 212, 3, 0, 4, 8, 0), (60, .ireturn, 1, 0, 0, 0, 0)]
abbrev Y5_row : MethodName := ⟨"GingerArmy", "row", "(I)I"⟩
abbrev M5_row : MethT := (5, C5_row, prog_1_method_38_code, 2, (some .int), Y5_row)
abbrev C5_judge : List CE := [(0, .bipush (-9), 2, -9, 0, 0, 0), (2, .istore_n 1, 1, 0, 0, 0, 0), (3, .iconst 0, 1, 0, 0, 0, 0), (4, .istore_n 2, 1, 0, 0, 0, 0), (5, .iload_n 2, 1, 0, 0, 0, 0), (6, .aload_n 0, 1, 0, 0, 0, 0), (7, .getfield 212, 3, 0, 4, 8, 0), (10, .if_icmp .ge 54, 3, 0, 64, 0, 0), (13, .iload_n 2, 1, 0, 0, 0, 0), (14, .aload_n 0, 1, 0, 0, 0, 0), (15, .getfield 43, 3, 0, 4, 6, 0), (18, .arraylength, 1, 0, 0, 0, 0), (19, .if_icmp .ge 45, 3, 0, 64, 0, 0), (22, .iload_n 1, 1, 0, 0, 0, 0), (23, .bipush (-9), 2, -9, 0, 0, 0), (25, .if_icmp .ne 39, 3, 0, 64, 0, 0), (28, .aload_n 0, 1, 0, 0, 0, 0), (29, .getfield 10, 3, 0, 4, 0, 0), (32, .iload_n 2, 1, 0, 0, 0, 0), (33, .invokevirtual 74, 3, 0, 0, 0, 0), (36, .ifCond .eq 20, 3, 0, 56, 0, 0), (39, .aload_n 0, 1, 0, 0, 0, 0), (40, .getfield 10, 3, 0, 4, 0, 0), (43, .iload_n 2, 1, 0, 0, 0, 0), (44, .invokevirtual 87, 3, 0, 0, 0, 0), (47, .aload_n 0, 1, 0, 0, 0, 0), (48, .getfield 43, 3, 0, 4, 6, 0), (51, .iload_n 2, 1, 0, 0, 0, 0), (52, .iaload, 1, 0, 0, 0, 0), (53, .if_icmp .eq 5, 3, 0, 58, 0, 0), (56, .iload_n 2, 1, 0, 0, 0, 0), (57, .istore_n 1, 1, 0, 0, 0, 0), (58, .iinc 2 1, 3, 1, 0, 0, 0), (61, .goto (-56), 3, 0, 5, 0, 0), (64, .aload_n 0, 1, 0, 0, 0, 0), (65, .iconst 0, 1, 0, 0, 0, 0), (66, .putfield 212, 3, 0, 4, 8, 0), (69, .iload_n 1, 1, 0, 0, 0, 0), (70, .ireturn, 1, 0, 0, 0, 0)]
abbrev Y5_judge : MethodName := ⟨"GingerArmy", "judge", "()I"⟩
abbrev M5_judge : MethT := (5, C5_judge, prog_1_method_39_code, 3, (some .int), Y5_judge)
abbrev C5_clear : List CE := [(0, .aload_n 0, 1, 0, 0, 0, 0), (1, .getfield 212, 3, 0, 4, 8, 0), (4, .istore_n 1, 1, 0, 0, 0, 0), (5, .aload_n 0, 1, 0, 0, 0, 0), (6, .iconst 0, 1, 0, 0, 0, 0), (7, .putfield 212, 3, 0, 4, 8, 0), (10, .iload_n 1, 1, 0, 0, 0, 0), (11, .ireturn, 1, 0, 0, 0, 0)]
abbrev Y5_clear : MethodName := ⟨"GingerArmy", "clear", "()I"⟩
abbrev M5_clear : MethT := (5, C5_clear, prog_1_method_40_code, 2, (some .int), Y5_clear)
abbrev C5_lots : List CE := [(0, .iload_n 1, 1, 0, 0, 0, 0), (1, .iconst 1, 1, 1, 0, 0, 0), (2, .if_icmp .ge 10, 3, 0, 12, 0, 0), (5, .aload_n 0, 1, 0, 0, 0, 0), (6, .bipush (-4), 2, -4, 0, 0, 0), (8, .invokevirtual 50, 3, 0, 0, 0, 0), (11, .ireturn, 1, 0, 0, 0, 0), (12, .iload_n 1, 1, 0, 0, 0, 0), (13, .bipush 20, 2, 20, 0, 0, 0), (15, .if_icmp .le 10, 3, 0, 25, 0, 0), (18, .aload_n 0, 1, 0, 0, 0, 0), (19, .bipush (-6), 2, -6, 0, 0, 0), (21, .invokevirtual 50, 3, 0, 0, 0, 0), (24, .ireturn, 1, 0, 0, 0, 0), (25, .iload_n 3, 1, 0, 0, 0, 0), (26, .invokestatic 114, 3, 0, 0, 0, 0), (29, .ifCond .eq 10, 3, 0, 39, 0, 0), (32, .aload_n 0, 1, 0, 0, 0, 0), (33, .bipush (-2), 2, -2, 0, 0, 0), (35, .invokevirtual 50, 3, 0, 0, 0, 0), (38, .ireturn, 1, 0, 0, 0, 0), (39, .aload_n 0, 1, 0, 0, 0, 0), (40, .getfield 32, 3, 0, 4, 4, 0), (43, .aload_n 0, 1, 0, 0, 0, 0), (44, .getfield 10, 3, 0, 4, 0, 0), (47, .iload_n 1, 1, 0, 0, 0, 0), (48, .iload_n 2, 1, 0, 0, 0, 0), (49, .iload_n 3, 1, 0, 0, 0, 0), (50, .invokevirtual 276, 3, 0, 0, 0, 0), (53, .ireturn, 1, 0, 0, 0, 0)]
abbrev Y5_lots : MethodName := ⟨"GingerArmy", "lots", "(III)I"⟩
abbrev M5_lots : MethT := (5, C5_lots, prog_1_method_41_code, 4, (some .int), Y5_lots)
abbrev C5_image : List CE := [(0, .aload_n 0, 1, 0, 0, 0, 0), (1, .getfield 19, 3, 0, 4, 2, 0), (4, .aload_n 0, 1, 0, 0, 0, 0), (5, .getfield 10, 3, 0, 4, 0, 0), (8, .invokevirtual 62, 3, 0, 0, 0, 0), (11, .aload_n 0, 1, 0, 0, 0, 0), (12, .iconst 1, 1, 1, 0, 0, 0), (13, .putfield 279, 3, 0, 4, 9, 0), (16, .aload_n 0, 1, 0, 0, 0, 0), (17, .getfield 10, 3, 0, 4, 0, 0), (20, .getfield 136, 3, 0, 2, 12, 1), (23, .ireturn, 1, 0, 0, 0, 0)]
abbrev Y5_image : MethodName := ⟨"GingerArmy", "image", "()I"⟩
abbrev M5_image : MethT := (5, C5_image, prog_1_method_42_code, 1, (some .int), Y5_image)
abbrev C5_restore : List CE := [(0, .aload_n 0, 1, 0, 0, 0, 0), (1, .getfield 279, 3, 0, 4, 9, 0), (4, .ifCond .ne 10, 3, 0, 14, 0, 0), (7, .aload_n 0, 1, 0, 0, 0, 0), (8, .bipush (-3), 2, -3, 0, 0, 0), (10, .invokevirtual 50, 3, 0, 0, 0, 0), (13, .ireturn, 1, 0, 0, 0, 0), (14, .aload_n 0, 1, 0, 0, 0, 0), (15, .getfield 10, 3, 0, 4, 0, 0), (18, .aload_n 0, 1, 0, 0, 0, 0), (19, .getfield 19, 3, 0, 4, 2, 0), (22, .invokevirtual 62, 3, 0, 0, 0, 0), (25, .aload_n 0, 1, 0, 0, 0, 0), (26, .getfield 25, 3, 0, 4, 3, 0), (29, .invokevirtual 73, 3, 0, 0, 0, 0), (32, .aload_n 0, 1, 0, 0, 0, 0), (33, .getfield 10, 3, 0, 4, 0, 0), (36, .getfield 136, 3, 0, 2, 12, 1), (39, .ireturn, 1, 0, 0, 0, 0)]
abbrev Y5_restore : MethodName := ⟨"GingerArmy", "restore", "()I"⟩
abbrev M5_restore : MethT := (5, C5_restore, prog_1_method_43_code, 1, (some .int), Y5_restore)
abbrev C5_count : List CE := [(0, .iload_n 1, 1, 0, 0, 0, 0), (1, .tableswitch 120 0 8 #[51, 59, 67, 75, 83, 91, 99, 107, 112], 51, 0, 0, 0, 0), (52, .aload_n 0, 1, 0, 0, 0, 0), (53, .getfield 10, 3, 0, 4, 0, 0), (56, .getfield 108, 3, 0, 2, 7, 1), (59, .ireturn, 1, 0, 0, 0, 0), (60, .aload_n 0, 1, 0, 0, 0, 0), (61, .getfield 10, 3, 0, 4, 0, 0), (64, .getfield 136, 3, 0, 2, 12, 1), (67, .ireturn, 1, 0, 0, 0, 0), (68, .aload_n 0, 1, 0, 0, 0, 0), (69, .getfield 10, 3, 0, 4, 0, 0), (72, .getfield 120, 3, 0, 2, 10, 1), (75, .ireturn, 1, 0, 0, 0, 0), (76, .aload_n 0, 1, 0, 0, 0, 0), (77, .getfield 10, 3, 0, 4, 0, 0), (80, .getfield 123, 3, 0, 2, 11, 1), (83, .ireturn, 1, 0, 0, 0, 0), (84, .aload_n 0, 1, 0, 0, 0, 0), (85, .getfield 10, 3, 0, 4, 0, 0), (88, .getfield 142, 3, 0, 2, 8, 1), (91, .ireturn, 1, 0, 0, 0, 0), (92, .aload_n 0, 1, 0, 0, 0, 0), (93, .getfield 10, 3, 0, 4, 0, 0), (96, .invokevirtual 163, 3, 0, 0, 0, 0), (99, .ireturn, 1, 0, 0, 0, 0), (100, .aload_n 0, 1, 0, 0, 0, 0), (101, .getfield 39, 3, 0, 4, 5, 0), (104, .getfield 54, 3, 0, 3, 1, 1), (107, .ireturn, 1, 0, 0, 0, 0), (108, .aload_n 0, 1, 0, 0, 0, 0), (109, .getfield 212, 3, 0, 4, 8, 0), (112, .ireturn, 1, 0, 0, 0, 0), (113, .aload_n 0, 1, 0, 0, 0, 0), (114, .getfield 25, 3, 0, 4, 3, 0), (117, .getfield 150, 3, 0, 1, 2, 1), (120, .ireturn, 1, 0, 0, 0, 0), (121, .aload_n 0, 1, 0, 0, 0, 0), (122, .iload_n 1, 1, 0, 0, 0, 0), (123, .bipush 10, 2, 10, 0, 0, 0), (125, .isub, 1, 0, 0, 0, 0), (126, .invokevirtual 283, 3, 0, 0, 0, 0), (129, .ireturn, 1, 0, 0, 0, 0)]
abbrev Y5_count : MethodName := ⟨"GingerArmy", "count", "(I)I"⟩
abbrev M5_count : MethT := (5, C5_count, prog_1_method_44_code, 2, (some .int), Y5_count)
abbrev C5_refusalsTold : List CE := [(0, .iload_n 1, 1, 0, 0, 0, 0), (1, .iconst 1, 1, 1, 0, 0, 0), (2, .if_icmp .lt 21, 3, 0, 23, 0, 0), (5, .iload_n 1, 1, 0, 0, 0, 0), (6, .aload_n 0, 1, 0, 0, 0, 0), (7, .getfield 47, 3, 0, 4, 7, 0), (10, .arraylength, 1, 0, 0, 0, 0), (11, .if_icmp .ge 12, 3, 0, 23, 0, 0), (14, .aload_n 0, 1, 0, 0, 0, 0), (15, .getfield 47, 3, 0, 4, 7, 0), (18, .iload_n 1, 1, 0, 0, 0, 0), (19, .iaload, 1, 0, 0, 0, 0), (20, .goto 5, 3, 0, 25, 0, 0), (23, .bipush (-9), 2, -9, 0, 0, 0), (25, .ireturn, 1, 0, 0, 0, 0)]
abbrev Y5_refusalsTold : MethodName := ⟨"GingerArmy", "refusalsTold", "(I)I"⟩
abbrev M5_refusalsTold : MethT := (5, C5_refusalsTold, prog_1_method_45_code, 2, (some .int), Y5_refusalsTold)
abbrev C5_refuse : List CE := [(0, .iload_n 1, 1, 0, 0, 0, 0), (1, .ineg, 1, 0, 0, 0, 0), (2, .istore_n 2, 1, 0, 0, 0, 0), (3, .iload_n 2, 1, 0, 0, 0, 0), (4, .iconst 1, 1, 1, 0, 0, 0), (5, .if_icmp .lt 22, 3, 0, 27, 0, 0), (8, .iload_n 2, 1, 0, 0, 0, 0), (9, .aload_n 0, 1, 0, 0, 0, 0), (10, .getfield 47, 3, 0, 4, 7, 0), (13, .arraylength, 1, 0, 0, 0, 0), (14, .if_icmp .ge 13, 3, 0, 27, 0, 0), (17, .aload_n 0, 1, 0, 0, 0, 0), (18, .getfield 47, 3, 0, 4, 7, 0), (21, .iload_n 2, 1, 0, 0, 0, 0), (22, .dup2, 1, 0, 0, 0, 0), (23, .iaload, 1, 0, 0, 0, 0), (24, .iconst 1, 1, 1, 0, 0, 0), (25, .iadd, 1, 0, 0, 0, 0), (26, .iastore, 1, 0, 0, 0, 0), (27, .iload_n 1, 1, 0, 0, 0, 0), (28, .ireturn, 1, 0, 0, 0, 0)]
abbrev Y5_refuse : MethodName := ⟨"GingerArmy", "refuse", "(I)I"⟩
abbrev M5_refuse : MethT := (5, C5_refuse, prog_1_method_46_code, 3, (some .int), Y5_refuse)
abbrev C5_refuseLong : List CE := [(0, .ldc2_w 286, 3, 0, 4000000000000000000, 0, 0), (3, .aload_n 0, 1, 0, 0, 0, 0), (4, .iload_n 1, 1, 0, 0, 0, 0), (5, .invokevirtual 50, 3, 0, 0, 0, 0), (8, .i2l, 1, 0, 0, 0, 0), (9, .lsub, 1, 0, 0, 0, 0), (10, .lreturn, 1, 0, 0, 0, 0)]
abbrev Y5_refuseLong : MethodName := ⟨"GingerArmy", "refuseLong", "(I)J"⟩
abbrev M5_refuseLong : MethT := (5, C5_refuseLong, prog_1_method_47_code, 2, (some .long), Y5_refuseLong)
abbrev C5_areNoTwo : List CE := [(0, .aload_n 0, 1, 0, 0, 0, 0), (1, .getfield 10, 3, 0, 4, 0, 0), (4, .iload_n 1, 1, 0, 0, 0, 0), (5, .invokevirtual 74, 3, 0, 0, 0, 0), (8, .ifCond .eq 19, 3, 0, 27, 0, 0), (11, .aload_n 0, 1, 0, 0, 0, 0), (12, .getfield 10, 3, 0, 4, 0, 0), (15, .iload_n 2, 1, 0, 0, 0, 0), (16, .invokevirtual 74, 3, 0, 0, 0, 0), (19, .ifCond .eq 8, 3, 0, 27, 0, 0), (22, .iload_n 1, 1, 0, 0, 0, 0), (23, .iload_n 2, 1, 0, 0, 0, 0), (24, .if_icmp .ne 7, 3, 0, 31, 0, 0), (27, .iconst 1, 1, 1, 0, 0, 0), (28, .goto 4, 3, 0, 32, 0, 0), (31, .iconst 0, 1, 0, 0, 0, 0), (32, .ireturn, 1, 0, 0, 0, 0)]
abbrev Y5_areNoTwo : MethodName := ⟨"GingerArmy", "areNoTwo", "(II)Z"⟩
abbrev M5_areNoTwo : MethT := (5, C5_areNoTwo, prog_1_method_48_code, 3, (some .boolean), Y5_areNoTwo)
abbrev C5_isNoTwo : List CE := [(0, .iload_n 0, 1, 0, 0, 0, 0), (1, .ifCond .eq 12, 3, 0, 13, 0, 0), (4, .iload_n 0, 1, 0, 0, 0, 0), (5, .iconst 1, 1, 1, 0, 0, 0), (6, .if_icmp .eq 7, 3, 0, 13, 0, 0), (9, .iconst 1, 1, 1, 0, 0, 0), (10, .goto 4, 3, 0, 14, 0, 0), (13, .iconst 0, 1, 0, 0, 0, 0), (14, .ireturn, 1, 0, 0, 0, 0)]
abbrev Y5_isNoTwo : MethodName := ⟨"GingerArmy", "isNoTwo", "(I)Z"⟩
abbrev M5_isNoTwo : MethT := (5, C5_isNoTwo, prog_1_method_49_code, 1, (some .boolean), Y5_isNoTwo)
abbrev C5_aheadFault : List CE := [(0, .iload_n 0, 1, 0, 0, 0, 0), (1, .ifCond .ge 6, 3, 0, 7, 0, 0), (4, .bipush (-4), 2, -4, 0, 0, 0), (6, .ireturn, 1, 0, 0, 0, 0), (7, .iload_n 0, 1, 0, 0, 0, 0), (8, .bipush 60, 2, 60, 0, 0, 0), (10, .if_icmp .le 8, 3, 0, 18, 0, 0), (13, .bipush (-6), 2, -6, 0, 0, 0), (15, .goto 4, 3, 0, 19, 0, 0), (18, .iconst 0, 1, 0, 0, 0, 0), (19, .ireturn, 1, 0, 0, 0, 0)]
abbrev Y5_aheadFault : MethodName := ⟨"GingerArmy", "aheadFault", "(I)I"⟩
abbrev M5_aheadFault : MethT := (5, C5_aheadFault, prog_1_method_50_code, 1, (some .int), Y5_aheadFault)
abbrev C5_partOf : List CE := [(0, .lload_n 0, 1, 0, 0, 0, 0), (1, .lload_n 2, 1, 0, 0, 0, 0), (2, .invokestatic 288, 3, 0, 0, 0, 0), (5, .lstore 5, 2, 0, 0, 0, 0), (7, .lload_n 0, 1, 0, 0, 0, 0), (8, .lconst 0, 1, 0, 0, 0, 0), (9, .lcmp, 1, 0, 0, 0, 0), (10, .ifCond .eq 10, 3, 0, 20, 0, 0), (13, .lload 5, 2, 0, 0, 0, 0), (15, .lconst 0, 1, 0, 0, 0, 0), (16, .lcmp, 1, 0, 0, 0, 0), (17, .ifCond .ne 7, 3, 0, 24, 0, 0), (20, .iload 4, 2, 0, 0, 0, 0), (22, .i2l, 1, 0, 0, 0, 0), (23, .lreturn, 1, 0, 0, 0, 0), (24, .iload 4, 2, 0, 0, 0, 0), (26, .ifCond .ne 10, 3, 0, 36, 0, 0), (29, .lload_n 0, 1, 0, 0, 0, 0), (30, .lload 5, 2, 0, 0, 0, 0), (32, .ldiv, 1, 0, 0, 0, 0), (33, .goto 7, 3, 0, 40, 0, 0), (36, .lload_n 2, 1, 0, 0, 0, 0), (37, .lload 5, 2, 0, 0, 0, 0), (39, .ldiv, 1, 0, 0, 0, 0), (40, .lreturn, 1, 0, 0, 0, 0)]
abbrev Y5_partOf : MethodName := ⟨"GingerArmy", "partOf", "(JJI)J"⟩
abbrev M5_partOf : MethT := (5, C5_partOf, prog_1_method_51_code, 7, (some .long), Y5_partOf)
abbrev C5_commonMeasure : List CE := [(0, .lload_n 0, 1, 0, 0, 0, 0), (1, .lstore 4, 2, 0, 0, 0, 0), (3, .lload_n 2, 1, 0, 0, 0, 0), (4, .lstore 6, 2, 0, 0, 0, 0), (6, .iconst 0, 1, 0, 0, 0, 0), (7, .istore 8, 2, 0, 0, 0, 0), (9, .iload 8, 2, 0, 0, 0, 0), (11, .sipush 128, 3, 128, 0, 0, 0), (14, .if_icmp .ge 31, 3, 0, 45, 0, 0), (17, .lload 6, 2, 0, 0, 0, 0), (19, .lconst 0, 1, 0, 0, 0, 0), (20, .lcmp, 1, 0, 0, 0, 0), (21, .ifCond .eq 24, 3, 0, 45, 0, 0), (24, .lload 4, 2, 0, 0, 0, 0), (26, .lload 6, 2, 0, 0, 0, 0), (28, .lrem, 1, 0, 0, 0, 0), (29, .lstore 9, 2, 0, 0, 0, 0), (31, .lload 6, 2, 0, 0, 0, 0), (33, .lstore 4, 2, 0, 0, 0, 0), (35, .lload 9, 2, 0, 0, 0, 0), (37, .lstore 6, 2, 0, 0, 0, 0), (39, .iinc 8 1, 3, 1, 0, 0, 0), (42, .goto (-33), 3, 0, 9, 0, 0), (45, .lload 4, 2, 0, 0, 0, 0), (47, .lreturn, 1, 0, 0, 0, 0)]
abbrev Y5_commonMeasure : MethodName := ⟨"GingerArmy", "commonMeasure", "(JJ)J"⟩
abbrev M5_commonMeasure : MethT := (5, C5_commonMeasure, prog_1_method_52_code, 11, (some .long), Y5_commonMeasure)
abbrev C6_init : List CE := [(0, .aload_n 0, 1, 0, 0, 0, 0), (1, .invokespecial 1, 3, 0, 0, 0, 0), (4, .aload_n 0, 1, 0, 0, 0, 0), (5, .bipush 7, 2, 7, 0, 0, 0), (7, .newarray .int, 2, 0, 0, 0, 0), (9, .putfield 7, 3, 0, 5, 0, 0), (12, .aload_n 0, 1, 0, 0, 0, 0), (13, .bipush 8, 2, 8, 0, 0, 0), (15, .newarray .int, 2, 0, 0, 0, 0), (17, .putfield 13, 3, 0, 5, 1, 0), (20, .aload_n 0, 1, 0, 0, 0, 0), (21, .bipush 8, 2, 8, 0, 0, 0), (23, .newarray .int, 2, 0, 0, 0, 0), (25, .putfield 16, 3, 0, 5, 2, 0), (28, .aload_n 0, 1, 0, 0, 0, 0), (29, .bipush 8, 2, 8, 0, 0, 0), (31, .newarray .int, 2, 0, 0, 0, 0), (33, .putfield 19, 3, 0, 5, 3, 0), (36, .aload_n 0, 1, 0, 0, 0, 0), (37, .bipush 8, 2, 8, 0, 0, 0), (39, .newarray .int, 2, 0, 0, 0, 0), (41, .putfield 22, 3, 0, 5, 4, 0), (44, .aload_n 0, 1, 0, 0, 0, 0), (45, .bipush 8, 2, 8, 0, 0, 0), (47, .newarray .int, 2, 0, 0, 0, 0), (49, .putfield 25, 3, 0, 5, 5, 0), (52, .aload_n 0, 1, 0, 0, 0, 0), (53, .bipush 8, 2, 8, 0, 0, 0), (55, .newarray .int, 2, 0, 0, 0, 0), (57, .putfield 28, 3, 0, 5, 6, 0), (60, .aload_n 0, 1, 0, 0, 0, 0), (61, .bipush 96, 2, 96, 0, 0, 0), (63, .newarray .int, 2, 0, 0, 0, 0), (65, .putfield 31, 3, 0, 5, 11, 0), (68, .aload_n 0, 1, 0, 0, 0, 0), (69, .bipush 48, 2, 48, 0, 0, 0), (71, .newarray .int, 2, 0, 0, 0, 0), (73, .putfield 34, 3, 0, 5, 12, 0), (76, .aload_n 0, 1, 0, 0, 0, 0), (77, .bipush 48, 2, 48, 0, 0, 0), (79, .newarray .int, 2, 0, 0, 0, 0), (81, .putfield 37, 3, 0, 5, 13, 0), (84, .aload_n 0, 1, 0, 0, 0, 0), (85, .sipush 144, 3, 144, 0, 0, 0), (88, .newarray .int, 2, 0, 0, 0, 0), (90, .putfield 40, 3, 0, 5, 14, 0), (93, .aload_n 0, 1, 0, 0, 0, 0), (94, .sipush 572, 3, 572, 0, 0, 0), (97, .newarray .int, 2, 0, 0, 0, 0), (99, .putfield 43, 3, 0, 5, 18, 0), (102, .aload_n 0, 1, 0, 0, 0, 0), (103, .bipush 12, 2, 12, 0, 0, 0), (105, .newarray .int, 2, 0, 0, 0, 0), (107, .putfield 46, 3, 0, 5, 23, 0), (110, .aload_n 0, 1, 0, 0, 0, 0), (111, .bipush 8, 2, 8, 0, 0, 0), (113, .newarray .int, 2, 0, 0, 0, 0), (115, .putfield 49, 3, 0, 5, 25, 0), (118, .aload_n 0, 1, 0, 0, 0, 0), (119, .iconst 2, 1, 2, 0, 0, 0), (120, .putfield 52, 3, 0, 5, 8, 0), (123, .return_, 1, 0, 0, 0, 0)]
abbrev Y6_init : MethodName := ⟨"GingerArmyModel", "<init>", "()V"⟩
abbrev M6_init : MethT := (6, C6_init, prog_8_method_1_code, 1, none, Y6_init)
abbrev C6_no : List CE := [(0, .aload_n 0, 1, 0, 0, 0, 0), (1, .getfield 7, 3, 0, 5, 0, 0), (4, .iload_n 1, 1, 0, 0, 0, 0), (5, .ineg, 1, 0, 0, 0, 0), (6, .dup2, 1, 0, 0, 0, 0), (7, .iaload, 1, 0, 0, 0, 0), (8, .iconst 1, 1, 1, 0, 0, 0), (9, .iadd, 1, 0, 0, 0, 0), (10, .iastore, 1, 0, 0, 0, 0), (11, .iload_n 1, 1, 0, 0, 0, 0), (12, .ireturn, 1, 0, 0, 0, 0)]
abbrev Y6_no : MethodName := ⟨"GingerArmyModel", "no", "(I)I"⟩
abbrev M6_no : MethT := (6, C6_no, prog_8_method_2_code, 2, (some .int), Y6_no)
abbrev C6_lower : List CE := [(0, .aload_n 0, 1, 0, 0, 0, 0), (1, .getfield 7, 3, 0, 5, 0, 0), (4, .iload_n 1, 1, 0, 0, 0, 0), (5, .ineg, 1, 0, 0, 0, 0), (6, .dup2, 1, 0, 0, 0, 0), (7, .iaload, 1, 0, 0, 0, 0), (8, .iconst 1, 1, 1, 0, 0, 0), (9, .iadd, 1, 0, 0, 0, 0), (10, .iastore, 1, 0, 0, 0, 0), (11, .ldc 56, 2, 1000000000, 0, 0, 0), (13, .iload_n 1, 1, 0, 0, 0, 0), (14, .isub, 1, 0, 0, 0, 0), (15, .ireturn, 1, 0, 0, 0, 0)]
abbrev Y6_lower : MethodName := ⟨"GingerArmyModel", "lower", "(I)I"⟩
abbrev M6_lower : MethT := (6, C6_lower, prog_8_method_3_code, 2, (some .int), Y6_lower)
abbrev C6_lowestOf : List CE := [(0, .aload_n 0, 1, 0, 0, 0, 0), (1, .getfield 7, 3, 0, 5, 0, 0), (4, .iload_n 1, 1, 0, 0, 0, 0), (5, .ineg, 1, 0, 0, 0, 0), (6, .dup2, 1, 0, 0, 0, 0), (7, .iaload, 1, 0, 0, 0, 0), (8, .iconst 1, 1, 1, 0, 0, 0), (9, .iadd, 1, 0, 0, 0, 0), (10, .iastore, 1, 0, 0, 0, 0), (11, .ldc2_w 57, 3, 0, 4000000000000000000, 0, 0), (14, .iload_n 1, 1, 0, 0, 0, 0), (15, .i2l, 1, 0, 0, 0, 0), (16, .lsub, 1, 0, 0, 0, 0), (17, .lreturn, 1, 0, 0, 0, 0)]
abbrev Y6_lowestOf : MethodName := ⟨"GingerArmyModel", "lowestOf", "(I)J"⟩
abbrev M6_lowestOf : MethT := (6, C6_lowestOf, prog_8_method_4_code, 2, (some .long), Y6_lowestOf)
abbrev C6_isIn : List CE := [(0, .iload_n 0, 1, 0, 0, 0, 0), (1, .iload_n 1, 1, 0, 0, 0, 0), (2, .if_icmp .lt 12, 3, 0, 14, 0, 0), (5, .iload_n 0, 1, 0, 0, 0, 0), (6, .iload_n 2, 1, 0, 0, 0, 0), (7, .if_icmp .gt 7, 3, 0, 14, 0, 0), (10, .iconst 1, 1, 1, 0, 0, 0), (11, .goto 4, 3, 0, 15, 0, 0), (14, .iconst 0, 1, 0, 0, 0, 0), (15, .ireturn, 1, 0, 0, 0, 0)]
abbrev Y6_isIn : MethodName := ⟨"GingerArmyModel", "isIn", "(III)Z"⟩
abbrev M6_isIn : MethT := (6, C6_isIn, prog_8_method_5_code, 3, (some .boolean), Y6_isIn)
abbrev C6_bound : List CE := [(0, .iload_n 0, 1, 0, 0, 0, 0), (1, .iload_n 1, 1, 0, 0, 0, 0), (2, .if_icmp .ge 8, 3, 0, 10, 0, 0), (5, .bipush (-4), 2, -4, 0, 0, 0), (7, .goto 14, 3, 0, 21, 0, 0), (10, .iload_n 0, 1, 0, 0, 0, 0), (11, .iload_n 2, 1, 0, 0, 0, 0), (12, .if_icmp .le 8, 3, 0, 20, 0, 0), (15, .bipush (-6), 2, -6, 0, 0, 0), (17, .goto 4, 3, 0, 21, 0, 0), (20, .iconst 0, 1, 0, 0, 0, 0), (21, .ireturn, 1, 0, 0, 0, 0)]
abbrev Y6_bound : MethodName := ⟨"GingerArmyModel", "bound", "(III)I"⟩
abbrev M6_bound : MethT := (6, C6_bound, prog_8_method_6_code, 3, (some .int), Y6_bound)
abbrev C6_within : List CE := [(0, .iload_n 0, 1, 0, 0, 0, 0), (1, .ifCond .ge 7, 3, 0, 8, 0, 0), (4, .iconst 0, 1, 0, 0, 0, 0), (5, .goto 15, 3, 0, 20, 0, 0), (8, .iload_n 0, 1, 0, 0, 0, 0), (9, .bipush 99, 2, 99, 0, 0, 0), (11, .if_icmp .le 8, 3, 0, 19, 0, 0), (14, .bipush 99, 2, 99, 0, 0, 0), (16, .goto 4, 3, 0, 20, 0, 0), (19, .iload_n 0, 1, 0, 0, 0, 0), (20, .ireturn, 1, 0, 0, 0, 0)]
abbrev Y6_within : MethodName := ⟨"GingerArmyModel", "within", "(I)I"⟩
abbrev M6_within : MethT := (6, C6_within, prog_8_method_7_code, 1, (some .int), Y6_within)
abbrev C6_size : List CE := [(0, .iload_n 0, 1, 0, 0, 0, 0), (1, .ifCond .ge 8, 3, 0, 9, 0, 0), (4, .iload_n 0, 1, 0, 0, 0, 0), (5, .ineg, 1, 0, 0, 0, 0), (6, .goto 4, 3, 0, 10, 0, 0), (9, .iload_n 0, 1, 0, 0, 0, 0), (10, .ireturn, 1, 0, 0, 0, 0)]
abbrev Y6_size : MethodName := ⟨"GingerArmyModel", "size", "(I)I"⟩
abbrev M6_size : MethT := (6, C6_size, prog_8_method_8_code, 1, (some .int), Y6_size)
abbrev C6_has : List CE := [(0, .iload_n 0, 1, 0, 0, 0, 0), (1, .iload_n 1, 1, 0, 0, 0, 0), (2, .ishr, 1, 0, 0, 0, 0), (3, .iconst 1, 1, 1, 0, 0, 0), (4, .iand, 1, 0, 0, 0, 0), (5, .iconst 1, 1, 1, 0, 0, 0), (6, .if_icmp .ne 7, 3, 0, 13, 0, 0), (9, .iconst 1, 1, 1, 0, 0, 0), (10, .goto 4, 3, 0, 14, 0, 0), (13, .iconst 0, 1, 0, 0, 0, 0), (14, .ireturn, 1, 0, 0, 0, 0)]
abbrev Y6_has : MethodName := ⟨"GingerArmyModel", "has", "(II)Z"⟩
abbrev M6_has : MethT := (6, C6_has, prog_8_method_9_code, 2, (some .boolean), Y6_has)
abbrev C6_bits : List CE := [(0, .iconst 0, 1, 0, 0, 0, 0), (1, .istore_n 1, 1, 0, 0, 0, 0), (2, .iconst 0, 1, 0, 0, 0, 0), (3, .istore_n 2, 1, 0, 0, 0, 0), (4, .iload_n 2, 1, 0, 0, 0, 0), (5, .bipush 31, 2, 31, 0, 0, 0), (7, .if_icmp .ge 17, 3, 0, 24, 0, 0), (10, .iload_n 1, 1, 0, 0, 0, 0), (11, .iload_n 0, 1, 0, 0, 0, 0), (12, .iload_n 2, 1, 0, 0, 0, 0), (13, .ishr, 1, 0, 0, 0, 0), (14, .iconst 1, 1, 1, 0, 0, 0), (15, .iand, 1, 0, 0, 0, 0), (16, .iadd, 1, 0, 0, 0, 0), (17, .istore_n 1, 1, 0, 0, 0, 0), (18, .iinc 2 1, 3, 1, 0, 0, 0), (21, .goto (-17), 3, 0, 4, 0, 0), (24, .iload_n 1, 1, 0, 0, 0, 0), (25, .ireturn, 1, 0, 0, 0, 0)]
abbrev Y6_bits : MethodName := ⟨"GingerArmyModel", "bits", "(I)I"⟩
abbrev M6_bits : MethT := (6, C6_bits, prog_8_method_10_code, 3, (some .int), Y6_bits)
abbrev C6_isPlace : List CE := [(0, .iload_n 0, 1, 0, 0, 0, 0), (1, .ifCond .lt 13, 3, 0, 14, 0, 0), (4, .iload_n 0, 1, 0, 0, 0, 0), (5, .bipush 15, 2, 15, 0, 0, 0), (7, .if_icmp .ge 7, 3, 0, 14, 0, 0), (10, .iconst 1, 1, 1, 0, 0, 0), (11, .goto 4, 3, 0, 15, 0, 0), (14, .iconst 0, 1, 0, 0, 0, 0), (15, .ireturn, 1, 0, 0, 0, 0)]
abbrev Y6_isPlace : MethodName := ⟨"GingerArmyModel", "isPlace", "(I)Z"⟩
abbrev M6_isPlace : MethT := (6, C6_isPlace, prog_8_method_11_code, 1, (some .boolean), Y6_isPlace)
abbrev C6_isBottle : List CE := [(0, .iload_n 1, 1, 0, 0, 0, 0), (1, .ifCond .lt 15, 3, 0, 16, 0, 0), (4, .iload_n 1, 1, 0, 0, 0, 0), (5, .aload_n 0, 1, 0, 0, 0, 0), (6, .getfield 59, 3, 0, 5, 7, 0), (9, .if_icmp .ge 7, 3, 0, 16, 0, 0), (12, .iconst 1, 1, 1, 0, 0, 0), (13, .goto 4, 3, 0, 17, 0, 0), (16, .iconst 0, 1, 0, 0, 0, 0), (17, .ireturn, 1, 0, 0, 0, 0)]
abbrev Y6_isBottle : MethodName := ⟨"GingerArmyModel", "isBottle", "(I)Z"⟩
abbrev M6_isBottle : MethT := (6, C6_isBottle, prog_8_method_12_code, 2, (some .boolean), Y6_isBottle)
abbrev C6_isWhole : List CE := [(0, .aload_n 0, 1, 0, 0, 0, 0), (1, .getfield 25, 3, 0, 5, 5, 0), (4, .iload_n 1, 1, 0, 0, 0, 0), (5, .iaload, 1, 0, 0, 0, 0), (6, .ifCond .ne 7, 3, 0, 13, 0, 0), (9, .iconst 1, 1, 1, 0, 0, 0), (10, .goto 4, 3, 0, 14, 0, 0), (13, .iconst 0, 1, 0, 0, 0, 0), (14, .ireturn, 1, 0, 0, 0, 0)]
abbrev Y6_isWhole : MethodName := ⟨"GingerArmyModel", "isWhole", "(I)Z"⟩
abbrev M6_isWhole : MethT := (6, C6_isWhole, prog_8_method_13_code, 2, (some .boolean), Y6_isWhole)
abbrev C6_feed : List CE := [(0, .iload_n 1, 1, 0, 0, 0, 0), (1, .iconst 0, 1, 0, 0, 0, 0), (2, .sipush 255, 3, 255, 0, 0, 0), (5, .invokestatic 62, 3, 0, 0, 0, 0), (8, .istore_n 2, 1, 0, 0, 0, 0), (9, .iload_n 2, 1, 0, 0, 0, 0), (10, .ifCond .ne 15, 3, 0, 25, 0, 0), (13, .aload_n 0, 1, 0, 0, 0, 0), (14, .getfield 66, 3, 0, 5, 15, 0), (17, .bipush 96, 2, 96, 0, 0, 0), (19, .if_icmp .ne 6, 3, 0, 25, 0, 0), (22, .bipush (-6), 2, -6, 0, 0, 0), (24, .istore_n 2, 1, 0, 0, 0, 0), (25, .iload_n 2, 1, 0, 0, 0, 0), (26, .ifCond .eq 9, 3, 0, 35, 0, 0), (29, .aload_n 0, 1, 0, 0, 0, 0), (30, .iload_n 2, 1, 0, 0, 0, 0), (31, .invokevirtual 69, 3, 0, 0, 0, 0), (34, .ireturn, 1, 0, 0, 0, 0), (35, .aload_n 0, 1, 0, 0, 0, 0), (36, .getfield 31, 3, 0, 5, 11, 0), (39, .aload_n 0, 1, 0, 0, 0, 0), (40, .getfield 66, 3, 0, 5, 15, 0), (43, .iload_n 1, 1, 0, 0, 0, 0), (44, .iastore, 1, 0, 0, 0, 0), (45, .aload_n 0, 1, 0, 0, 0, 0), (46, .dup, 1, 0, 0, 0, 0), (47, .getfield 66, 3, 0, 5, 15, 0), (50, .iconst 1, 1, 1, 0, 0, 0), (51, .iadd, 1, 0, 0, 0, 0), (52, .putfield 66, 3, 0, 5, 15, 0), (55, .aload_n 0, 1, 0, 0, 0, 0), (56, .getfield 66, 3, 0, 5, 15, 0), (59, .ireturn, 1, 0, 0, 0, 0)]
abbrev Y6_feed : MethodName := ⟨"GingerArmyModel", "feed", "(I)I"⟩
abbrev M6_feed : MethT := (6, C6_feed, prog_8_method_14_code, 3, (some .int), Y6_feed)
abbrev C6_letterNow : List CE := [(0, .aload_n 0, 1, 0, 0, 0, 0), (1, .getfield 73, 3, 0, 5, 16, 0), (4, .aload_n 0, 1, 0, 0, 0, 0), (5, .getfield 66, 3, 0, 5, 15, 0), (8, .if_icmp .ge 15, 3, 0, 23, 0, 0), (11, .aload_n 0, 1, 0, 0, 0, 0), (12, .getfield 31, 3, 0, 5, 11, 0), (15, .aload_n 0, 1, 0, 0, 0, 0), (16, .getfield 73, 3, 0, 5, 16, 0), (19, .iaload, 1, 0, 0, 0, 0), (20, .goto 4, 3, 0, 24, 0, 0), (23, .iconst (-1), 1, -1, 0, 0, 0), (24, .ireturn, 1, 0, 0, 0, 0)]
abbrev Y6_letterNow : MethodName := ⟨"GingerArmyModel", "letterNow", "()I"⟩
abbrev M6_letterNow : MethT := (6, C6_letterNow, prog_8_method_15_code, 1, (some .int), Y6_letterNow)
abbrev C6_readsDigits : List CE := [(0, .iconst 0, 1, 0, 0, 0, 0), (1, .istore_n 3, 1, 0, 0, 0, 0), (2, .iconst 0, 1, 0, 0, 0, 0), (3, .istore 4, 2, 0, 0, 0, 0), (5, .iload 4, 2, 0, 0, 0, 0), (7, .iload_n 2, 1, 0, 0, 0, 0), (8, .if_icmp .ge 48, 3, 0, 56, 0, 0), (11, .aload_n 0, 1, 0, 0, 0, 0), (12, .invokevirtual 76, 3, 0, 0, 0, 0), (15, .bipush 48, 2, 48, 0, 0, 0), (17, .bipush 57, 2, 57, 0, 0, 0), (19, .invokestatic 80, 3, 0, 0, 0, 0), (22, .ifCond .ne 5, 3, 0, 27, 0, 0), (25, .iconst 0, 1, 0, 0, 0, 0), (26, .ireturn, 1, 0, 0, 0, 0), (27, .bipush 10, 2, 10, 0, 0, 0), (29, .iload_n 3, 1, 0, 0, 0, 0), (30, .imul, 1, 0, 0, 0, 0), (31, .aload_n 0, 1, 0, 0, 0, 0), (32, .invokevirtual 76, 3, 0, 0, 0, 0), (35, .iadd, 1, 0, 0, 0, 0), (36, .bipush 48, 2, 48, 0, 0, 0), (38, .isub, 1, 0, 0, 0, 0), (39, .istore_n 3, 1, 0, 0, 0, 0), (40, .aload_n 0, 1, 0, 0, 0, 0), (41, .dup, 1, 0, 0, 0, 0), (42, .getfield 73, 3, 0, 5, 16, 0), (45, .iconst 1, 1, 1, 0, 0, 0), (46, .iadd, 1, 0, 0, 0, 0), (47, .putfield 73, 3, 0, 5, 16, 0), (50, .iinc 4 1, 3, 1, 0, 0, 0), (53, .goto (-48), 3, 0, 5, 0, 0), (56, .aload_n 0, 1, 0, 0, 0, 0), (57, .getfield 40, 3, 0, 5, 14, 0), (60, .iload_n 1, 1, 0, 0, 0, 0), (61, .iload_n 3, 1, 0, 0, 0, 0), (62, .iastore, 1, 0, 0, 0, 0), (63, .iconst 1, 1, 1, 0, 0, 0), (64, .ireturn, 1, 0, 0, 0, 0)]
abbrev Y6_readsDigits : MethodName := ⟨"GingerArmyModel", "readsDigits", "(II)Z"⟩
abbrev M6_readsDigits : MethT := (6, C6_readsDigits, prog_8_method_16_code, 5, (some .boolean), Y6_readsDigits)
abbrev C6_readsAll : List CE := [(0, .iload_n 1, 1, 0, 0, 0, 0), (1, .lookupswitch 139 #[(98, 43), (100, 132), (112, 80), (117, 106)], 43, 0, 0, 0, 0), (44, .aload_n 0, 1, 0, 0, 0, 0), (45, .iload_n 2, 1, 0, 0, 0, 0), (46, .iconst 1, 1, 1, 0, 0, 0), (47, .invokevirtual 84, 3, 0, 0, 0, 0), (50, .ifCond .eq 29, 3, 0, 79, 0, 0), (53, .aload_n 0, 1, 0, 0, 0, 0), (54, .iload_n 2, 1, 0, 0, 0, 0), (55, .iconst 1, 1, 1, 0, 0, 0), (56, .iadd, 1, 0, 0, 0, 0), (57, .iconst 1, 1, 1, 0, 0, 0), (58, .invokevirtual 84, 3, 0, 0, 0, 0), (61, .ifCond .eq 18, 3, 0, 79, 0, 0), (64, .aload_n 0, 1, 0, 0, 0, 0), (65, .iload_n 2, 1, 0, 0, 0, 0), (66, .iconst 2, 1, 2, 0, 0, 0), (67, .iadd, 1, 0, 0, 0, 0), (68, .iconst 2, 1, 2, 0, 0, 0), (69, .invokevirtual 84, 3, 0, 0, 0, 0), (72, .ifCond .eq 7, 3, 0, 79, 0, 0), (75, .iconst 1, 1, 1, 0, 0, 0), (76, .goto 4, 3, 0, 80, 0, 0), (79, .iconst 0, 1, 0, 0, 0, 0), (80, .ireturn, 1, 0, 0, 0, 0), (81, .aload_n 0, 1, 0, 0, 0, 0), (82, .iload_n 2, 1, 0, 0, 0, 0), (83, .iconst 1, 1, 1, 0, 0, 0), (84, .invokevirtual 84, 3, 0, 0, 0, 0), (87, .ifCond .eq 18, 3, 0, 105, 0, 0), (90, .aload_n 0, 1, 0, 0, 0, 0), (91, .iload_n 2, 1, 0, 0, 0, 0), (92, .iconst 1, 1, 1, 0, 0, 0), (93, .iadd, 1, 0, 0, 0, 0), (94, .iconst 2, 1, 2, 0, 0, 0), (95, .invokevirtual 84, 3, 0, 0, 0, 0), (98, .ifCond .eq 7, 3, 0, 105, 0, 0), (101, .iconst 1, 1, 1, 0, 0, 0), (102, .goto 4, 3, 0, 106, 0, 0), (105, .iconst 0, 1, 0, 0, 0, 0), (106, .ireturn, 1, 0, 0, 0, 0), (107, .aload_n 0, 1, 0, 0, 0, 0), (108, .iload_n 2, 1, 0, 0, 0, 0), (109, .iconst 1, 1, 1, 0, 0, 0), (110, .invokevirtual 84, 3, 0, 0, 0, 0), (113, .ifCond .eq 18, 3, 0, 131, 0, 0), (116, .aload_n 0, 1, 0, 0, 0, 0), (117, .iload_n 2, 1, 0, 0, 0, 0), (118, .iconst 1, 1, 1, 0, 0, 0), (119, .iadd, 1, 0, 0, 0, 0), (120, .iconst 1, 1, 1, 0, 0, 0), (121, .invokevirtual 84, 3, 0, 0, 0, 0), (124, .ifCond .eq 7, 3, 0, 131, 0, 0), (127, .iconst 1, 1, 1, 0, 0, 0), (128, .goto 4, 3, 0, 132, 0, 0), (131, .iconst 0, 1, 0, 0, 0, 0), (132, .ireturn, 1, 0, 0, 0, 0), (133, .aload_n 0, 1, 0, 0, 0, 0), (134, .iload_n 2, 1, 0, 0, 0, 0), (135, .iconst 2, 1, 2, 0, 0, 0), (136, .invokevirtual 84, 3, 0, 0, 0, 0), (139, .ireturn, 1, 0, 0, 0, 0), (140, .aload_n 0, 1, 0, 0, 0, 0), (141, .iload_n 2, 1, 0, 0, 0, 0), (142, .iconst 1, 1, 1, 0, 0, 0), (143, .invokevirtual 84, 3, 0, 0, 0, 0), (146, .ireturn, 1, 0, 0, 0, 0)]
abbrev Y6_readsAll : MethodName := ⟨"GingerArmyModel", "readsAll", "(II)Z"⟩
abbrev M6_readsAll : MethT := (6, C6_readsAll, prog_8_method_17_code, 3, (some .boolean), Y6_readsAll)
abbrev C6_statement : List CE := [(0, .aload_n 0, 1, 0, 0, 0, 0), (1, .invokevirtual 76, 3, 0, 0, 0, 0), (4, .istore_n 1, 1, 0, 0, 0, 0), (5, .iload_n 1, 1, 0, 0, 0, 0), (6, .bipush 98, 2, 98, 0, 0, 0), (8, .if_icmp .eq 35, 3, 0, 43, 0, 0), (11, .iload_n 1, 1, 0, 0, 0, 0), (12, .bipush 112, 2, 112, 0, 0, 0), (14, .if_icmp .eq 29, 3, 0, 43, 0, 0), (17, .iload_n 1, 1, 0, 0, 0, 0), (18, .bipush 116, 2, 116, 0, 0, 0), (20, .if_icmp .eq 23, 3, 0, 43, 0, 0), (23, .iload_n 1, 1, 0, 0, 0, 0), (24, .bipush 117, 2, 117, 0, 0, 0), (26, .if_icmp .eq 17, 3, 0, 43, 0, 0), (29, .iload_n 1, 1, 0, 0, 0, 0), (30, .bipush 111, 2, 111, 0, 0, 0), (32, .if_icmp .eq 11, 3, 0, 43, 0, 0), (35, .iload_n 1, 1, 0, 0, 0, 0), (36, .bipush 100, 2, 100, 0, 0, 0), (38, .if_icmp .eq 5, 3, 0, 43, 0, 0), (41, .iconst 0, 1, 0, 0, 0, 0), (42, .ireturn, 1, 0, 0, 0, 0), (43, .aload_n 0, 1, 0, 0, 0, 0), (44, .getfield 34, 3, 0, 5, 12, 0), (47, .aload_n 0, 1, 0, 0, 0, 0), (48, .getfield 88, 3, 0, 5, 17, 0), (51, .iload_n 1, 1, 0, 0, 0, 0), (52, .iastore, 1, 0, 0, 0, 0), (53, .aload_n 0, 1, 0, 0, 0, 0), (54, .getfield 37, 3, 0, 5, 13, 0), (57, .aload_n 0, 1, 0, 0, 0, 0), (58, .getfield 88, 3, 0, 5, 17, 0), (61, .aload_n 0, 1, 0, 0, 0, 0), (62, .getfield 73, 3, 0, 5, 16, 0), (65, .iastore, 1, 0, 0, 0, 0), (66, .aload_n 0, 1, 0, 0, 0, 0), (67, .dup, 1, 0, 0, 0, 0), (68, .getfield 73, 3, 0, 5, 16, 0), (71, .iconst 1, 1, 1, 0, 0, 0), (72, .iadd, 1, 0, 0, 0, 0), (73, .putfield 73, 3, 0, 5, 16, 0), (76, .aload_n 0, 1, 0, 0, 0, 0), (77, .iload_n 1, 1, 0, 0, 0, 0), (78, .iconst 3, 1, 3, 0, 0, 0), (79, .aload_n 0, 1, 0, 0, 0, 0), (80, .getfield 88, 3, 0, 5, 17, 0), (83, .imul, 1, 0, 0, 0, 0), (84, .invokevirtual 91, 3, 0, 0, 0, 0), (87, .ifCond .eq 12, 3, 0, 99, 0, 0), (90, .aload_n 0, 1, 0, 0, 0, 0), (91, .invokevirtual 76, 3, 0, 0, 0, 0), (94, .bipush 59, 2, 59, 0, 0, 0), (96, .if_icmp .eq 5, 3, 0, 101, 0, 0), (99, .iconst 0, 1, 0, 0, 0, 0), (100, .ireturn, 1, 0, 0, 0, 0), (101, .aload_n 0, 1, 0, 0, 0, 0), (102, .dup, 1, 0, 0, 0, 0), (103, .getfield 73, 3, 0, 5, 16, 0), (106, .iconst 1, 1, 1, 0, 0, 0), (107, .iadd, 1, 0, 0, 0, 0), (108, .putfield 73, 3, 0, 5, 16, 0), (111, .iconst 1, 1, 1, 0, 0, 0), (112, .ireturn, 1, 0, 0, 0, 0)]
abbrev Y6_statement : MethodName := ⟨"GingerArmyModel", "statement", "()Z"⟩
abbrev M6_statement : MethT := (6, C6_statement, prog_8_method_18_code, 2, (some .boolean), Y6_statement)
abbrev C6_comesBottle : List CE := [(0, .aload_n 0, 1, 0, 0, 0, 0), (1, .getfield 40, 3, 0, 5, 14, 0), (4, .iload_n 1, 1, 0, 0, 0, 0), (5, .iaload, 1, 0, 0, 0, 0), (6, .iconst 5, 1, 5, 0, 0, 0), (7, .if_icmp .gt 41, 3, 0, 48, 0, 0), (10, .aload_n 0, 1, 0, 0, 0, 0), (11, .getfield 40, 3, 0, 5, 14, 0), (14, .iload_n 1, 1, 0, 0, 0, 0), (15, .iconst 2, 1, 2, 0, 0, 0), (16, .iadd, 1, 0, 0, 0, 0), (17, .iaload, 1, 0, 0, 0, 0), (18, .invokestatic 94, 3, 0, 0, 0, 0), (21, .ifCond .eq 27, 3, 0, 48, 0, 0), (24, .aload_n 0, 1, 0, 0, 0, 0), (25, .getfield 59, 3, 0, 5, 7, 0), (28, .bipush 8, 2, 8, 0, 0, 0), (30, .if_icmp .eq 18, 3, 0, 48, 0, 0), (33, .aload_n 0, 1, 0, 0, 0, 0), (34, .aload_n 0, 1, 0, 0, 0, 0), (35, .getfield 40, 3, 0, 5, 14, 0), (38, .iload_n 1, 1, 0, 0, 0, 0), (39, .iconst 2, 1, 2, 0, 0, 0), (40, .iadd, 1, 0, 0, 0, 0), (41, .iaload, 1, 0, 0, 0, 0), (42, .invokevirtual 98, 3, 0, 0, 0, 0), (45, .ifCond .lt 5, 3, 0, 50, 0, 0), (48, .iconst 0, 1, 0, 0, 0, 0), (49, .ireturn, 1, 0, 0, 0, 0), (50, .aload_n 0, 1, 0, 0, 0, 0), (51, .aload_n 0, 1, 0, 0, 0, 0), (52, .getfield 40, 3, 0, 5, 14, 0), (55, .iload_n 1, 1, 0, 0, 0, 0), (56, .iaload, 1, 0, 0, 0, 0), (57, .aload_n 0, 1, 0, 0, 0, 0), (58, .getfield 40, 3, 0, 5, 14, 0), (61, .iload_n 1, 1, 0, 0, 0, 0), (62, .iconst 1, 1, 1, 0, 0, 0), (63, .iadd, 1, 0, 0, 0, 0), (64, .iaload, 1, 0, 0, 0, 0), (65, .aload_n 0, 1, 0, 0, 0, 0), (66, .getfield 40, 3, 0, 5, 14, 0), (69, .iload_n 1, 1, 0, 0, 0, 0), (70, .iconst 2, 1, 2, 0, 0, 0), (71, .iadd, 1, 0, 0, 0, 0), (72, .iaload, 1, 0, 0, 0, 0), (73, .invokevirtual 101, 3, 0, 0, 0, 0), (76, .iconst 1, 1, 1, 0, 0, 0), (77, .ireturn, 1, 0, 0, 0, 0)]
abbrev Y6_comesBottle : MethodName := ⟨"GingerArmyModel", "comesBottle", "(I)Z"⟩
abbrev M6_comesBottle : MethT := (6, C6_comesBottle, prog_8_method_19_code, 2, (some .boolean), Y6_comesBottle)
abbrev C6_comesOf : List CE := [(0, .aload_n 0, 1, 0, 0, 0, 0), (1, .iload_n 2, 1, 0, 0, 0, 0), (2, .invokevirtual 105, 3, 0, 0, 0, 0), (5, .ifCond .eq 11, 3, 0, 16, 0, 0), (8, .aload_n 0, 1, 0, 0, 0, 0), (9, .iload_n 2, 1, 0, 0, 0, 0), (10, .invokevirtual 108, 3, 0, 0, 0, 0), (13, .ifCond .ne 5, 3, 0, 18, 0, 0), (16, .iconst 0, 1, 0, 0, 0, 0), (17, .ireturn, 1, 0, 0, 0, 0), (18, .iload_n 1, 1, 0, 0, 0, 0), (19, .bipush 112, 2, 112, 0, 0, 0), (21, .if_icmp .ne 13, 3, 0, 34, 0, 0), (24, .aload_n 0, 1, 0, 0, 0, 0), (25, .getfield 22, 3, 0, 5, 4, 0), (28, .iload_n 2, 1, 0, 0, 0, 0), (29, .iload_n 3, 1, 0, 0, 0, 0), (30, .iastore, 1, 0, 0, 0, 0), (31, .goto 33, 3, 0, 64, 0, 0), (34, .iload_n 1, 1, 0, 0, 0, 0), (35, .bipush 116, 2, 116, 0, 0, 0), (37, .if_icmp .ne 20, 3, 0, 57, 0, 0), (40, .aload_n 0, 1, 0, 0, 0, 0), (41, .getfield 28, 3, 0, 5, 6, 0), (44, .iload_n 2, 1, 0, 0, 0, 0), (45, .iconst 1, 1, 1, 0, 0, 0), (46, .aload_n 0, 1, 0, 0, 0, 0), (47, .getfield 28, 3, 0, 5, 6, 0), (50, .iload_n 2, 1, 0, 0, 0, 0), (51, .iaload, 1, 0, 0, 0, 0), (52, .isub, 1, 0, 0, 0, 0), (53, .iastore, 1, 0, 0, 0, 0), (54, .goto 10, 3, 0, 64, 0, 0), (57, .aload_n 0, 1, 0, 0, 0, 0), (58, .getfield 22, 3, 0, 5, 4, 0), (61, .iload_n 2, 1, 0, 0, 0, 0), (62, .iconst 0, 1, 0, 0, 0, 0), (63, .iastore, 1, 0, 0, 0, 0), (64, .iconst 1, 1, 1, 0, 0, 0), (65, .ireturn, 1, 0, 0, 0, 0)]
abbrev Y6_comesOf : MethodName := ⟨"GingerArmyModel", "comesOf", "(III)Z"⟩
abbrev M6_comesOf : MethT := (6, C6_comesOf, prog_8_method_20_code, 4, (some .boolean), Y6_comesOf)
abbrev C6_comesDays : List CE := [(0, .iload_n 1, 1, 0, 0, 0, 0), (1, .iconst 1, 1, 1, 0, 0, 0), (2, .bipush 60, 2, 60, 0, 0, 0), (4, .invokestatic 80, 3, 0, 0, 0, 0), (7, .ifCond .eq 15, 3, 0, 22, 0, 0), (10, .aload_n 0, 1, 0, 0, 0, 0), (11, .getfield 111, 3, 0, 5, 10, 0), (14, .iload_n 1, 1, 0, 0, 0, 0), (15, .iadd, 1, 0, 0, 0, 0), (16, .sipush 999, 3, 999, 0, 0, 0), (19, .if_icmp .le 5, 3, 0, 24, 0, 0), (22, .iconst 0, 1, 0, 0, 0, 0), (23, .ireturn, 1, 0, 0, 0, 0), (24, .aload_n 0, 1, 0, 0, 0, 0), (25, .iload_n 1, 1, 0, 0, 0, 0), (26, .invokevirtual 114, 3, 0, 0, 0, 0), (29, .iconst 1, 1, 1, 0, 0, 0), (30, .ireturn, 1, 0, 0, 0, 0)]
abbrev Y6_comesDays : MethodName := ⟨"GingerArmyModel", "comesDays", "(I)Z"⟩
abbrev M6_comesDays : MethT := (6, C6_comesDays, prog_8_method_21_code, 2, (some .boolean), Y6_comesDays)
abbrev C6_comesTold : List CE := [(0, .iconst 3, 1, 3, 0, 0, 0), (1, .iload_n 1, 1, 0, 0, 0, 0), (2, .imul, 1, 0, 0, 0, 0), (3, .istore_n 2, 1, 0, 0, 0, 0), (4, .aload_n 0, 1, 0, 0, 0, 0), (5, .getfield 34, 3, 0, 5, 12, 0), (8, .iload_n 1, 1, 0, 0, 0, 0), (9, .iaload, 1, 0, 0, 0, 0), (10, .lookupswitch 75 #[(98, 34), (100, 64), (117, 40)], 34, 0, 0, 0, 0), (44, .aload_n 0, 1, 0, 0, 0, 0), (45, .iload_n 2, 1, 0, 0, 0, 0), (46, .invokevirtual 118, 3, 0, 0, 0, 0), (49, .ireturn, 1, 0, 0, 0, 0), (50, .aload_n 0, 1, 0, 0, 0, 0), (51, .aload_n 0, 1, 0, 0, 0, 0), (52, .getfield 40, 3, 0, 5, 14, 0), (55, .iload_n 2, 1, 0, 0, 0, 0), (56, .iaload, 1, 0, 0, 0, 0), (57, .putfield 52, 3, 0, 5, 8, 0), (60, .aload_n 0, 1, 0, 0, 0, 0), (61, .aload_n 0, 1, 0, 0, 0, 0), (62, .getfield 40, 3, 0, 5, 14, 0), (65, .iload_n 2, 1, 0, 0, 0, 0), (66, .iconst 1, 1, 1, 0, 0, 0), (67, .iadd, 1, 0, 0, 0, 0), (68, .iaload, 1, 0, 0, 0, 0), (69, .putfield 121, 3, 0, 5, 9, 0), (72, .iconst 1, 1, 1, 0, 0, 0), (73, .ireturn, 1, 0, 0, 0, 0), (74, .aload_n 0, 1, 0, 0, 0, 0), (75, .aload_n 0, 1, 0, 0, 0, 0), (76, .getfield 40, 3, 0, 5, 14, 0), (79, .iload_n 2, 1, 0, 0, 0, 0), (80, .iaload, 1, 0, 0, 0, 0), (81, .invokevirtual 124, 3, 0, 0, 0, 0), (84, .ireturn, 1, 0, 0, 0, 0), (85, .aload_n 0, 1, 0, 0, 0, 0), (86, .aload_n 0, 1, 0, 0, 0, 0), (87, .getfield 34, 3, 0, 5, 12, 0), (90, .iload_n 1, 1, 0, 0, 0, 0), (91, .iaload, 1, 0, 0, 0, 0), (92, .aload_n 0, 1, 0, 0, 0, 0), (93, .getfield 40, 3, 0, 5, 14, 0), (96, .iload_n 2, 1, 0, 0, 0, 0), (97, .iaload, 1, 0, 0, 0, 0), (98, .aload_n 0, 1, 0, 0, 0, 0), (99, .getfield 40, 3, 0, 5, 14, 0), (102, .iload_n 2, 1, 0, 0, 0, 0), (103, .iconst 1, 1, 1, 0, 0, 0), (104, .iadd, 1, 0, 0, 0, 0), (105, .iaload, 1, 0, 0, 0, 0), (106, .invokevirtual 127, 3, 0, 0, 0, 0), (109, .ireturn, 1, 0, 0, 0, 0)]
abbrev Y6_comesTold : MethodName := ⟨"GingerArmyModel", "comesTold", "(I)Z"⟩
abbrev M6_comesTold : MethT := (6, C6_comesTold, prog_8_method_22_code, 3, (some .boolean), Y6_comesTold)
abbrev C6_cellar : List CE := [(0, .aload_n 0, 1, 0, 0, 0, 0), (1, .iconst 0, 1, 0, 0, 0, 0), (2, .putfield 73, 3, 0, 5, 16, 0), (5, .aload_n 0, 1, 0, 0, 0, 0), (6, .iconst 0, 1, 0, 0, 0, 0), (7, .putfield 88, 3, 0, 5, 17, 0), (10, .iconst 1, 1, 1, 0, 0, 0), (11, .istore_n 1, 1, 0, 0, 0, 0), (12, .iload_n 1, 1, 0, 0, 0, 0), (13, .ifCond .eq 47, 3, 0, 60, 0, 0), (16, .aload_n 0, 1, 0, 0, 0, 0), (17, .getfield 73, 3, 0, 5, 16, 0), (20, .aload_n 0, 1, 0, 0, 0, 0), (21, .getfield 66, 3, 0, 5, 15, 0), (24, .if_icmp .lt 10, 3, 0, 34, 0, 0), (27, .aload_n 0, 1, 0, 0, 0, 0), (28, .getfield 88, 3, 0, 5, 17, 0), (31, .ifCond .ne 29, 3, 0, 60, 0, 0), (34, .aload_n 0, 1, 0, 0, 0, 0), (35, .invokevirtual 130, 3, 0, 0, 0, 0), (38, .istore_n 1, 1, 0, 0, 0, 0), (39, .aload_n 0, 1, 0, 0, 0, 0), (40, .dup, 1, 0, 0, 0, 0), (41, .getfield 88, 3, 0, 5, 17, 0), (44, .iload_n 1, 1, 0, 0, 0, 0), (45, .ifCond .eq 7, 3, 0, 52, 0, 0), (48, .iconst 1, 1, 1, 0, 0, 0), (49, .goto 4, 3, 0, 53, 0, 0), (52, .iconst 0, 1, 0, 0, 0, 0), (53, .iadd, 1, 0, 0, 0, 0), (54, .putfield 88, 3, 0, 5, 17, 0), (57, .goto (-45), 3, 0, 12, 0, 0), (60, .aload_n 0, 1, 0, 0, 0, 0), (61, .iconst 0, 1, 0, 0, 0, 0), (62, .putfield 66, 3, 0, 5, 15, 0), (65, .iload_n 1, 1, 0, 0, 0, 0), (66, .ifCond .ne 12, 3, 0, 78, 0, 0), (69, .sipush (-1000), 3, -1000, 0, 0, 0), (72, .aload_n 0, 1, 0, 0, 0, 0), (73, .getfield 73, 3, 0, 5, 16, 0), (76, .isub, 1, 0, 0, 0, 0), (77, .ireturn, 1, 0, 0, 0, 0), (78, .aload_n 0, 1, 0, 0, 0, 0), (79, .iconst 1, 1, 1, 0, 0, 0), (80, .iconst 1, 1, 1, 0, 0, 0), (81, .invokevirtual 134, 3, 0, 0, 0, 0), (84, .iconst 0, 1, 0, 0, 0, 0), (85, .istore_n 2, 1, 0, 0, 0, 0), (86, .iload_n 2, 1, 0, 0, 0, 0), (87, .aload_n 0, 1, 0, 0, 0, 0), (88, .getfield 88, 3, 0, 5, 17, 0), (91, .if_icmp .ge 37, 3, 0, 128, 0, 0), (94, .aload_n 0, 1, 0, 0, 0, 0), (95, .iload_n 2, 1, 0, 0, 0, 0), (96, .invokevirtual 138, 3, 0, 0, 0, 0), (99, .ifCond .eq 6, 3, 0, 105, 0, 0), (102, .goto 20, 3, 0, 122, 0, 0), (105, .aload_n 0, 1, 0, 0, 0, 0), (106, .iconst 1, 1, 1, 0, 0, 0), (107, .iconst 0, 1, 0, 0, 0, 0), (108, .invokevirtual 134, 3, 0, 0, 0, 0), (111, .sipush (-2000), 3, -2000, 0, 0, 0), (114, .aload_n 0, 1, 0, 0, 0, 0), (115, .getfield 37, 3, 0, 5, 13, 0), (118, .iload_n 2, 1, 0, 0, 0, 0), (119, .iaload, 1, 0, 0, 0, 0), (120, .isub, 1, 0, 0, 0, 0), (121, .ireturn, 1, 0, 0, 0, 0), (122, .iinc 2 1, 3, 1, 0, 0, 0), (125, .goto (-39), 3, 0, 86, 0, 0), (128, .aload_n 0, 1, 0, 0, 0, 0), (129, .iconst 0, 1, 0, 0, 0, 0), (130, .putfield 141, 3, 0, 5, 22, 0), (133, .aload_n 0, 1, 0, 0, 0, 0), (134, .getfield 88, 3, 0, 5, 17, 0), (137, .ireturn, 1, 0, 0, 0, 0)]
abbrev Y6_cellar : MethodName := ⟨"GingerArmyModel", "cellar", "()I"⟩
abbrev M6_cellar : MethT := (6, C6_cellar, prog_8_method_23_code, 3, (some .int), Y6_cellar)
abbrev C6_passes : List CE := [(0, .iconst 0, 1, 0, 0, 0, 0), (1, .istore_n 2, 1, 0, 0, 0, 0), (2, .iload_n 2, 1, 0, 0, 0, 0), (3, .aload_n 1, 1, 0, 0, 0, 0), (4, .arraylength, 1, 0, 0, 0, 0), (5, .if_icmp .ge 53, 3, 0, 58, 0, 0), (8, .aload_n 0, 1, 0, 0, 0, 0), (9, .getfield 144, 3, 0, 5, 20, 0), (12, .ifCond .eq 18, 3, 0, 30, 0, 0), (15, .aload_n 0, 1, 0, 0, 0, 0), (16, .getfield 43, 3, 0, 5, 18, 0), (19, .aload_n 0, 1, 0, 0, 0, 0), (20, .getfield 148, 3, 0, 5, 21, 0), (23, .aload_n 1, 1, 0, 0, 0, 0), (24, .iload_n 2, 1, 0, 0, 0, 0), (25, .iaload, 1, 0, 0, 0, 0), (26, .iastore, 1, 0, 0, 0, 0), (27, .goto 15, 3, 0, 42, 0, 0), (30, .aload_n 1, 1, 0, 0, 0, 0), (31, .iload_n 2, 1, 0, 0, 0, 0), (32, .aload_n 0, 1, 0, 0, 0, 0), (33, .getfield 43, 3, 0, 5, 18, 0), (36, .aload_n 0, 1, 0, 0, 0, 0), (37, .getfield 148, 3, 0, 5, 21, 0), (40, .iaload, 1, 0, 0, 0, 0), (41, .iastore, 1, 0, 0, 0, 0), (42, .aload_n 0, 1, 0, 0, 0, 0), (43, .dup, 1, 0, 0, 0, 0), (44, .getfield 148, 3, 0, 5, 21, 0), (47, .iconst 1, 1, 1, 0, 0, 0), (48, .iadd, 1, 0, 0, 0, 0), (49, .putfield 148, 3, 0, 5, 21, 0), (52, .iinc 2 1, 3, 1, 0, 0, 0), (55, .goto (-53), 3, 0, 2, 0, 0), (58, .return_, 1, 0, 0, 0, 0)]
abbrev Y6_passes : MethodName := ⟨"GingerArmyModel", "passes", "([I)V"⟩
abbrev M6_passes : MethT := (6, C6_passes, prog_8_method_24_code, 3, none, Y6_passes)
abbrev C6_passOne : List CE := [(0, .aload_n 0, 1, 0, 0, 0, 0), (1, .getfield 144, 3, 0, 5, 20, 0), (4, .ifCond .eq 7, 3, 0, 11, 0, 0), (7, .iload_n 1, 1, 0, 0, 0, 0), (8, .goto 12, 3, 0, 20, 0, 0), (11, .aload_n 0, 1, 0, 0, 0, 0), (12, .getfield 43, 3, 0, 5, 18, 0), (15, .aload_n 0, 1, 0, 0, 0, 0), (16, .getfield 148, 3, 0, 5, 21, 0), (19, .iaload, 1, 0, 0, 0, 0), (20, .istore_n 2, 1, 0, 0, 0, 0), (21, .aload_n 0, 1, 0, 0, 0, 0), (22, .getfield 144, 3, 0, 5, 20, 0), (25, .ifCond .eq 13, 3, 0, 38, 0, 0), (28, .aload_n 0, 1, 0, 0, 0, 0), (29, .getfield 43, 3, 0, 5, 18, 0), (32, .aload_n 0, 1, 0, 0, 0, 0), (33, .getfield 148, 3, 0, 5, 21, 0), (36, .iload_n 1, 1, 0, 0, 0, 0), (37, .iastore, 1, 0, 0, 0, 0), (38, .aload_n 0, 1, 0, 0, 0, 0), (39, .dup, 1, 0, 0, 0, 0), (40, .getfield 148, 3, 0, 5, 21, 0), (43, .iconst 1, 1, 1, 0, 0, 0), (44, .iadd, 1, 0, 0, 0, 0), (45, .putfield 148, 3, 0, 5, 21, 0), (48, .iload_n 2, 1, 0, 0, 0, 0), (49, .ireturn, 1, 0, 0, 0, 0)]
abbrev Y6_passOne : MethodName := ⟨"GingerArmyModel", "passOne", "(I)I"⟩
abbrev M6_passOne : MethT := (6, C6_passOne, prog_8_method_25_code, 3, (some .int), Y6_passOne)
abbrev C6_passesAll : List CE := [(0, .aload_n 0, 1, 0, 0, 0, 0), (1, .bipush 52, 2, 52, 0, 0, 0), (3, .iload_n 1, 1, 0, 0, 0, 0), (4, .imul, 1, 0, 0, 0, 0), (5, .putfield 148, 3, 0, 5, 21, 0), (8, .aload_n 0, 1, 0, 0, 0, 0), (9, .iload_n 2, 1, 0, 0, 0, 0), (10, .putfield 144, 3, 0, 5, 20, 0), (13, .aload_n 0, 1, 0, 0, 0, 0), (14, .aload_n 0, 1, 0, 0, 0, 0), (15, .getfield 13, 3, 0, 5, 1, 0), (18, .invokevirtual 151, 3, 0, 0, 0, 0), (21, .aload_n 0, 1, 0, 0, 0, 0), (22, .aload_n 0, 1, 0, 0, 0, 0), (23, .getfield 16, 3, 0, 5, 2, 0), (26, .invokevirtual 151, 3, 0, 0, 0, 0), (29, .aload_n 0, 1, 0, 0, 0, 0), (30, .aload_n 0, 1, 0, 0, 0, 0), (31, .getfield 19, 3, 0, 5, 3, 0), (34, .invokevirtual 151, 3, 0, 0, 0, 0), (37, .aload_n 0, 1, 0, 0, 0, 0), (38, .aload_n 0, 1, 0, 0, 0, 0), (39, .getfield 22, 3, 0, 5, 4, 0), (42, .invokevirtual 151, 3, 0, 0, 0, 0), (45, .aload_n 0, 1, 0, 0, 0, 0), (46, .aload_n 0, 1, 0, 0, 0, 0), (47, .getfield 25, 3, 0, 5, 5, 0), (50, .invokevirtual 151, 3, 0, 0, 0, 0), (53, .aload_n 0, 1, 0, 0, 0, 0), (54, .aload_n 0, 1, 0, 0, 0, 0), (55, .getfield 28, 3, 0, 5, 6, 0), (58, .invokevirtual 151, 3, 0, 0, 0, 0), (61, .aload_n 0, 1, 0, 0, 0, 0), (62, .aload_n 0, 1, 0, 0, 0, 0), (63, .aload_n 0, 1, 0, 0, 0, 0), (64, .getfield 59, 3, 0, 5, 7, 0), (67, .invokevirtual 155, 3, 0, 0, 0, 0), (70, .putfield 59, 3, 0, 5, 7, 0), (73, .aload_n 0, 1, 0, 0, 0, 0), (74, .aload_n 0, 1, 0, 0, 0, 0), (75, .aload_n 0, 1, 0, 0, 0, 0), (76, .getfield 52, 3, 0, 5, 8, 0), (79, .invokevirtual 155, 3, 0, 0, 0, 0), (82, .putfield 52, 3, 0, 5, 8, 0), (85, .aload_n 0, 1, 0, 0, 0, 0), (86, .aload_n 0, 1, 0, 0, 0, 0), (87, .aload_n 0, 1, 0, 0, 0, 0), (88, .getfield 121, 3, 0, 5, 9, 0), (91, .invokevirtual 155, 3, 0, 0, 0, 0), (94, .putfield 121, 3, 0, 5, 9, 0), (97, .aload_n 0, 1, 0, 0, 0, 0), (98, .aload_n 0, 1, 0, 0, 0, 0), (99, .aload_n 0, 1, 0, 0, 0, 0), (100, .getfield 111, 3, 0, 5, 10, 0), (103, .invokevirtual 155, 3, 0, 0, 0, 0), (106, .putfield 111, 3, 0, 5, 10, 0), (109, .return_, 1, 0, 0, 0, 0)]
abbrev Y6_passesAll : MethodName := ⟨"GingerArmyModel", "passesAll", "(IZ)V"⟩
abbrev M6_passesAll : MethT := (6, C6_passesAll, prog_8_method_26_code, 3, none, Y6_passesAll)
abbrev C6_thinks : List CE := [(0, .aload_n 0, 1, 0, 0, 0, 0), (1, .iconst 2, 1, 2, 0, 0, 0), (2, .iconst 1, 1, 1, 0, 0, 0), (3, .invokevirtual 134, 3, 0, 0, 0, 0), (6, .return_, 1, 0, 0, 0, 0)]
abbrev Y6_thinks : MethodName := ⟨"GingerArmyModel", "thinks", "()V"⟩
abbrev M6_thinks : MethT := (6, C6_thinks, prog_8_method_27_code, 1, none, Y6_thinks)
abbrev C6_forgets : List CE := [(0, .aload_n 0, 1, 0, 0, 0, 0), (1, .iconst 2, 1, 2, 0, 0, 0), (2, .iconst 0, 1, 0, 0, 0, 0), (3, .invokevirtual 134, 3, 0, 0, 0, 0), (6, .return_, 1, 0, 0, 0, 0)]
abbrev Y6_forgets : MethodName := ⟨"GingerArmyModel", "forgets", "()V"⟩
abbrev M6_forgets : MethT := (6, C6_forgets, prog_8_method_28_code, 1, none, Y6_forgets)
abbrev C6_keepsBack : List CE := [(0, .aload_n 0, 1, 0, 0, 0, 0), (1, .getfield 141, 3, 0, 5, 22, 0), (4, .bipush 8, 2, 8, 0, 0, 0), (6, .if_icmp .ne 45, 3, 0, 51, 0, 0), (9, .sipush 156, 3, 156, 0, 0, 0), (12, .istore_n 1, 1, 0, 0, 0, 0), (13, .iload_n 1, 1, 0, 0, 0, 0), (14, .sipush 520, 3, 520, 0, 0, 0), (17, .if_icmp .ge 24, 3, 0, 41, 0, 0), (20, .aload_n 0, 1, 0, 0, 0, 0), (21, .getfield 43, 3, 0, 5, 18, 0), (24, .iload_n 1, 1, 0, 0, 0, 0), (25, .aload_n 0, 1, 0, 0, 0, 0), (26, .getfield 43, 3, 0, 5, 18, 0), (29, .iload_n 1, 1, 0, 0, 0, 0), (30, .bipush 52, 2, 52, 0, 0, 0), (32, .iadd, 1, 0, 0, 0, 0), (33, .iaload, 1, 0, 0, 0, 0), (34, .iastore, 1, 0, 0, 0, 0), (35, .iinc 1 1, 3, 1, 0, 0, 0), (38, .goto (-25), 3, 0, 13, 0, 0), (41, .aload_n 0, 1, 0, 0, 0, 0), (42, .dup, 1, 0, 0, 0, 0), (43, .getfield 141, 3, 0, 5, 22, 0), (46, .iconst 1, 1, 1, 0, 0, 0), (47, .isub, 1, 0, 0, 0, 0), (48, .putfield 141, 3, 0, 5, 22, 0), (51, .aload_n 0, 1, 0, 0, 0, 0), (52, .iconst 3, 1, 3, 0, 0, 0), (53, .aload_n 0, 1, 0, 0, 0, 0), (54, .getfield 141, 3, 0, 5, 22, 0), (57, .iadd, 1, 0, 0, 0, 0), (58, .iconst 1, 1, 1, 0, 0, 0), (59, .invokevirtual 134, 3, 0, 0, 0, 0), (62, .aload_n 0, 1, 0, 0, 0, 0), (63, .dup, 1, 0, 0, 0, 0), (64, .getfield 141, 3, 0, 5, 22, 0), (67, .iconst 1, 1, 1, 0, 0, 0), (68, .iadd, 1, 0, 0, 0, 0), (69, .putfield 141, 3, 0, 5, 22, 0), (72, .return_, 1, 0, 0, 0, 0)]
abbrev Y6_keepsBack : MethodName := ⟨"GingerArmyModel", "keepsBack", "()V"⟩
abbrev M6_keepsBack : MethT := (6, C6_keepsBack, prog_8_method_29_code, 2, none, Y6_keepsBack)
abbrev C6_back : List CE := [(0, .aload_n 0, 1, 0, 0, 0, 0), (1, .getfield 141, 3, 0, 5, 22, 0), (4, .ifCond .ne 10, 3, 0, 14, 0, 0), (7, .aload_n 0, 1, 0, 0, 0, 0), (8, .bipush (-3), 2, -3, 0, 0, 0), (10, .invokevirtual 69, 3, 0, 0, 0, 0), (13, .ireturn, 1, 0, 0, 0, 0), (14, .aload_n 0, 1, 0, 0, 0, 0), (15, .dup, 1, 0, 0, 0, 0), (16, .getfield 141, 3, 0, 5, 22, 0), (19, .iconst 1, 1, 1, 0, 0, 0), (20, .isub, 1, 0, 0, 0, 0), (21, .putfield 141, 3, 0, 5, 22, 0), (24, .aload_n 0, 1, 0, 0, 0, 0), (25, .iconst 3, 1, 3, 0, 0, 0), (26, .aload_n 0, 1, 0, 0, 0, 0), (27, .getfield 141, 3, 0, 5, 22, 0), (30, .iadd, 1, 0, 0, 0, 0), (31, .iconst 0, 1, 0, 0, 0, 0), (32, .invokevirtual 134, 3, 0, 0, 0, 0), (35, .aload_n 0, 1, 0, 0, 0, 0), (36, .getfield 141, 3, 0, 5, 22, 0), (39, .ireturn, 1, 0, 0, 0, 0)]
abbrev Y6_back : MethodName := ⟨"GingerArmyModel", "back", "()I"⟩
abbrev M6_back : MethT := (6, C6_back, prog_8_method_30_code, 1, (some .int), Y6_back)
abbrev C6_image : List CE := [(0, .aload_n 0, 1, 0, 0, 0, 0), (1, .iconst 1, 1, 1, 0, 0, 0), (2, .putfield 158, 3, 0, 5, 19, 0), (5, .aload_n 0, 1, 0, 0, 0, 0), (6, .iconst 0, 1, 0, 0, 0, 0), (7, .iconst 1, 1, 1, 0, 0, 0), (8, .invokevirtual 134, 3, 0, 0, 0, 0), (11, .aload_n 0, 1, 0, 0, 0, 0), (12, .getfield 111, 3, 0, 5, 10, 0), (15, .ireturn, 1, 0, 0, 0, 0)]
abbrev Y6_image : MethodName := ⟨"GingerArmyModel", "image", "()I"⟩
abbrev M6_image : MethT := (6, C6_image, prog_8_method_31_code, 1, (some .int), Y6_image)
abbrev C6_restore : List CE := [(0, .aload_n 0, 1, 0, 0, 0, 0), (1, .getfield 158, 3, 0, 5, 19, 0), (4, .ifCond .ne 10, 3, 0, 14, 0, 0), (7, .aload_n 0, 1, 0, 0, 0, 0), (8, .bipush (-3), 2, -3, 0, 0, 0), (10, .invokevirtual 69, 3, 0, 0, 0, 0), (13, .ireturn, 1, 0, 0, 0, 0), (14, .aload_n 0, 1, 0, 0, 0, 0), (15, .iconst 0, 1, 0, 0, 0, 0), (16, .iconst 0, 1, 0, 0, 0, 0), (17, .invokevirtual 134, 3, 0, 0, 0, 0), (20, .aload_n 0, 1, 0, 0, 0, 0), (21, .iconst 0, 1, 0, 0, 0, 0), (22, .putfield 141, 3, 0, 5, 22, 0), (25, .aload_n 0, 1, 0, 0, 0, 0), (26, .getfield 111, 3, 0, 5, 10, 0), (29, .ireturn, 1, 0, 0, 0, 0)]
abbrev Y6_restore : MethodName := ⟨"GingerArmyModel", "restore", "()I"⟩
abbrev M6_restore : MethT := (6, C6_restore, prog_8_method_32_code, 1, (some .int), Y6_restore)
abbrev C6_adds : List CE := [(0, .aload_n 0, 1, 0, 0, 0, 0), (1, .getfield 13, 3, 0, 5, 1, 0), (4, .aload_n 0, 1, 0, 0, 0, 0), (5, .getfield 59, 3, 0, 5, 7, 0), (8, .iload_n 1, 1, 0, 0, 0, 0), (9, .iastore, 1, 0, 0, 0, 0), (10, .aload_n 0, 1, 0, 0, 0, 0), (11, .getfield 16, 3, 0, 5, 2, 0), (14, .aload_n 0, 1, 0, 0, 0, 0), (15, .getfield 59, 3, 0, 5, 7, 0), (18, .iload_n 2, 1, 0, 0, 0, 0), (19, .iastore, 1, 0, 0, 0, 0), (20, .aload_n 0, 1, 0, 0, 0, 0), (21, .getfield 19, 3, 0, 5, 3, 0), (24, .aload_n 0, 1, 0, 0, 0, 0), (25, .getfield 59, 3, 0, 5, 7, 0), (28, .iload_n 3, 1, 0, 0, 0, 0), (29, .iastore, 1, 0, 0, 0, 0), (30, .aload_n 0, 1, 0, 0, 0, 0), (31, .getfield 22, 3, 0, 5, 4, 0), (34, .aload_n 0, 1, 0, 0, 0, 0), (35, .getfield 59, 3, 0, 5, 7, 0), (38, .iconst 0, 1, 0, 0, 0, 0), (39, .iastore, 1, 0, 0, 0, 0), (40, .aload_n 0, 1, 0, 0, 0, 0), (41, .getfield 25, 3, 0, 5, 5, 0), (44, .aload_n 0, 1, 0, 0, 0, 0), (45, .getfield 59, 3, 0, 5, 7, 0), (48, .iconst 0, 1, 0, 0, 0, 0), (49, .iastore, 1, 0, 0, 0, 0), (50, .aload_n 0, 1, 0, 0, 0, 0), (51, .getfield 28, 3, 0, 5, 6, 0), (54, .aload_n 0, 1, 0, 0, 0, 0), (55, .getfield 59, 3, 0, 5, 7, 0), (58, .iconst 0, 1, 0, 0, 0, 0), (59, .iastore, 1, 0, 0, 0, 0), (60, .aload_n 0, 1, 0, 0, 0, 0), (61, .dup, 1, 0, 0, 0, 0), (62, .getfield 59, 3, 0, 5, 7, 0), (65, .iconst 1, 1, 1, 0, 0, 0), (66, .iadd, 1, 0, 0, 0, 0), (67, .putfield 59, 3, 0, 5, 7, 0), (70, .return_, 1, 0, 0, 0, 0)]
abbrev Y6_adds : MethodName := ⟨"GingerArmyModel", "adds", "(III)V"⟩
abbrev M6_adds : MethT := (6, C6_adds, prog_8_method_33_code, 4, none, Y6_adds)
abbrev C6_wholeAt : List CE := [(0, .iconst 0, 1, 0, 0, 0, 0), (1, .istore_n 2, 1, 0, 0, 0, 0), (2, .iload_n 2, 1, 0, 0, 0, 0), (3, .aload_n 0, 1, 0, 0, 0, 0), (4, .getfield 59, 3, 0, 5, 7, 0), (7, .if_icmp .ge 29, 3, 0, 36, 0, 0), (10, .aload_n 0, 1, 0, 0, 0, 0), (11, .iload_n 2, 1, 0, 0, 0, 0), (12, .invokevirtual 108, 3, 0, 0, 0, 0), (15, .ifCond .eq 15, 3, 0, 30, 0, 0), (18, .aload_n 0, 1, 0, 0, 0, 0), (19, .getfield 19, 3, 0, 5, 3, 0), (22, .iload_n 2, 1, 0, 0, 0, 0), (23, .iaload, 1, 0, 0, 0, 0), (24, .iload_n 1, 1, 0, 0, 0, 0), (25, .if_icmp .ne 5, 3, 0, 30, 0, 0), (28, .iload_n 2, 1, 0, 0, 0, 0), (29, .ireturn, 1, 0, 0, 0, 0), (30, .iinc 2 1, 3, 1, 0, 0, 0), (33, .goto (-31), 3, 0, 2, 0, 0), (36, .bipush (-9), 2, -9, 0, 0, 0), (38, .ireturn, 1, 0, 0, 0, 0)]
abbrev Y6_wholeAt : MethodName := ⟨"GingerArmyModel", "wholeAt", "(I)I"⟩
abbrev M6_wholeAt : MethT := (6, C6_wholeAt, prog_8_method_34_code, 3, (some .int), Y6_wholeAt)
abbrev C6_rises : List CE := [(0, .aload_n 0, 1, 0, 0, 0, 0), (1, .getfield 52, 3, 0, 5, 8, 0), (4, .aload_n 0, 1, 0, 0, 0, 0), (5, .getfield 121, 3, 0, 5, 9, 0), (8, .iconst 2, 1, 2, 0, 0, 0), (9, .idiv, 1, 0, 0, 0, 0), (10, .iadd, 1, 0, 0, 0, 0), (11, .istore_n 2, 1, 0, 0, 0, 0), (12, .iload_n 2, 1, 0, 0, 0, 0), (13, .ifCond .le 9, 3, 0, 22, 0, 0), (16, .iload_n 2, 1, 0, 0, 0, 0), (17, .iconst 1, 1, 1, 0, 0, 0), (18, .isub, 1, 0, 0, 0, 0), (19, .goto 4, 3, 0, 23, 0, 0), (22, .iconst 0, 1, 0, 0, 0, 0), (23, .istore_n 3, 1, 0, 0, 0, 0), (24, .iload_n 3, 1, 0, 0, 0, 0), (25, .aload_n 0, 1, 0, 0, 0, 0), (26, .getfield 16, 3, 0, 5, 2, 0), (29, .iload_n 1, 1, 0, 0, 0, 0), (30, .iaload, 1, 0, 0, 0, 0), (31, .iconst 3, 1, 3, 0, 0, 0), (32, .idiv, 1, 0, 0, 0, 0), (33, .iadd, 1, 0, 0, 0, 0), (34, .istore 4, 2, 0, 0, 0, 0), (36, .aload_n 0, 1, 0, 0, 0, 0), (37, .getfield 13, 3, 0, 5, 1, 0), (40, .iload_n 1, 1, 0, 0, 0, 0), (41, .iaload, 1, 0, 0, 0, 0), (42, .tableswitch 59 1 5 #[34, 36, 38, 41, 54], 34, 0, 0, 0, 0), (76, .iload_n 3, 1, 0, 0, 0, 0), (77, .ireturn, 1, 0, 0, 0, 0), (78, .iconst 0, 1, 0, 0, 0, 0), (79, .ireturn, 1, 0, 0, 0, 0), (80, .iload 4, 2, 0, 0, 0, 0), (82, .ireturn, 1, 0, 0, 0, 0), (83, .aload_n 0, 1, 0, 0, 0, 0), (84, .getfield 52, 3, 0, 5, 8, 0), (87, .ifCond .le 7, 3, 0, 94, 0, 0), (90, .iconst 1, 1, 1, 0, 0, 0), (91, .goto 4, 3, 0, 95, 0, 0), (94, .iconst 0, 1, 0, 0, 0, 0), (95, .ireturn, 1, 0, 0, 0, 0), (96, .iconst 2, 1, 2, 0, 0, 0), (97, .iload 4, 2, 0, 0, 0, 0), (99, .imul, 1, 0, 0, 0, 0), (100, .ireturn, 1, 0, 0, 0, 0), (101, .iload_n 2, 1, 0, 0, 0, 0), (102, .ireturn, 1, 0, 0, 0, 0)]
abbrev Y6_rises : MethodName := ⟨"GingerArmyModel", "rises", "(I)I"⟩
abbrev M6_rises : MethT := (6, C6_rises, prog_8_method_35_code, 5, (some .int), Y6_rises)
abbrev C6_bears : List CE := [(0, .iconst 2, 1, 2, 0, 0, 0), (1, .bipush 10, 2, 10, 0, 0, 0), (3, .aload_n 0, 1, 0, 0, 0, 0), (4, .getfield 16, 3, 0, 5, 2, 0), (7, .iload_n 1, 1, 0, 0, 0, 0), (8, .iaload, 1, 0, 0, 0, 0), (9, .iadd, 1, 0, 0, 0, 0), (10, .imul, 1, 0, 0, 0, 0), (11, .istore_n 2, 1, 0, 0, 0, 0), (12, .aload_n 0, 1, 0, 0, 0, 0), (13, .getfield 13, 3, 0, 5, 1, 0), (16, .iload_n 1, 1, 0, 0, 0, 0), (17, .iaload, 1, 0, 0, 0, 0), (18, .tableswitch 54 1 5 #[34, 36, 39, 36, 43], 34, 0, 0, 0, 0), (52, .iload_n 2, 1, 0, 0, 0, 0), (53, .ireturn, 1, 0, 0, 0, 0), (54, .bipush 99, 2, 99, 0, 0, 0), (56, .ireturn, 1, 0, 0, 0, 0), (57, .iload_n 2, 1, 0, 0, 0, 0), (58, .iconst 5, 1, 5, 0, 0, 0), (59, .isub, 1, 0, 0, 0, 0), (60, .ireturn, 1, 0, 0, 0, 0), (61, .iload_n 2, 1, 0, 0, 0, 0), (62, .iconst 5, 1, 5, 0, 0, 0), (63, .isub, 1, 0, 0, 0, 0), (64, .aload_n 0, 1, 0, 0, 0, 0), (65, .getfield 16, 3, 0, 5, 2, 0), (68, .iload_n 1, 1, 0, 0, 0, 0), (69, .iaload, 1, 0, 0, 0, 0), (70, .iadd, 1, 0, 0, 0, 0), (71, .ireturn, 1, 0, 0, 0, 0), (72, .bipush 10, 2, 10, 0, 0, 0), (74, .aload_n 0, 1, 0, 0, 0, 0), (75, .getfield 16, 3, 0, 5, 2, 0), (78, .iload_n 1, 1, 0, 0, 0, 0), (79, .iaload, 1, 0, 0, 0, 0), (80, .iadd, 1, 0, 0, 0, 0), (81, .ireturn, 1, 0, 0, 0, 0)]
abbrev Y6_bears : MethodName := ⟨"GingerArmyModel", "bears", "(I)I"⟩
abbrev M6_bears : MethT := (6, C6_bears, prog_8_method_36_code, 3, (some .int), Y6_bears)
abbrev C6_shocks : List CE := [(0, .aload_n 0, 1, 0, 0, 0, 0), (1, .getfield 13, 3, 0, 5, 1, 0), (4, .iload_n 1, 1, 0, 0, 0, 0), (5, .iaload, 1, 0, 0, 0, 0), (6, .tableswitch 49 1 5 #[34, 37, 46, 39, 46], 34, 0, 0, 0, 0), (40, .bipush 10, 2, 10, 0, 0, 0), (42, .ireturn, 1, 0, 0, 0, 0), (43, .iconst 0, 1, 0, 0, 0, 0), (44, .ireturn, 1, 0, 0, 0, 0), (45, .aload_n 0, 1, 0, 0, 0, 0), (46, .getfield 16, 3, 0, 5, 2, 0), (49, .iload_n 1, 1, 0, 0, 0, 0), (50, .iaload, 1, 0, 0, 0, 0), (51, .ireturn, 1, 0, 0, 0, 0), (52, .bipush 20, 2, 20, 0, 0, 0), (54, .ireturn, 1, 0, 0, 0, 0), (55, .bipush 6, 2, 6, 0, 0, 0), (57, .ireturn, 1, 0, 0, 0, 0)]
abbrev Y6_shocks : MethodName := ⟨"GingerArmyModel", "shocks", "(I)I"⟩
abbrev M6_shocks : MethT := (6, C6_shocks, prog_8_method_37_code, 2, (some .int), Y6_shocks)
abbrev C6_areNear : List CE := [(0, .iload_n 1, 1, 0, 0, 0, 0), (1, .iload_n 2, 1, 0, 0, 0, 0), (2, .if_icmp .eq 27, 3, 0, 29, 0, 0), (5, .aload_n 0, 1, 0, 0, 0, 0), (6, .getfield 19, 3, 0, 5, 3, 0), (9, .iload_n 1, 1, 0, 0, 0, 0), (10, .iaload, 1, 0, 0, 0, 0), (11, .aload_n 0, 1, 0, 0, 0, 0), (12, .getfield 19, 3, 0, 5, 3, 0), (15, .iload_n 2, 1, 0, 0, 0, 0), (16, .iaload, 1, 0, 0, 0, 0), (17, .isub, 1, 0, 0, 0, 0), (18, .invokestatic 161, 3, 0, 0, 0, 0), (21, .iconst 2, 1, 2, 0, 0, 0), (22, .if_icmp .gt 7, 3, 0, 29, 0, 0), (25, .iconst 1, 1, 1, 0, 0, 0), (26, .goto 4, 3, 0, 30, 0, 0), (29, .iconst 0, 1, 0, 0, 0, 0), (30, .ireturn, 1, 0, 0, 0, 0)]
abbrev Y6_areNear : MethodName := ⟨"GingerArmyModel", "areNear", "(II)Z"⟩
abbrev M6_areNear : MethT := (6, C6_areNear, prog_8_method_38_code, 3, (some .boolean), Y6_areNear)
abbrev C6_bursts : List CE := [(0, .aload_n 0, 1, 0, 0, 0, 0), (1, .getfield 25, 3, 0, 5, 5, 0), (4, .iload_n 1, 1, 0, 0, 0, 0), (5, .iconst 1, 1, 1, 0, 0, 0), (6, .iastore, 1, 0, 0, 0, 0), (7, .iconst 0, 1, 0, 0, 0, 0), (8, .istore_n 2, 1, 0, 0, 0, 0), (9, .iload_n 2, 1, 0, 0, 0, 0), (10, .aload_n 0, 1, 0, 0, 0, 0), (11, .getfield 59, 3, 0, 5, 7, 0), (14, .if_icmp .ge 56, 3, 0, 70, 0, 0), (17, .aload_n 0, 1, 0, 0, 0, 0), (18, .iload_n 2, 1, 0, 0, 0, 0), (19, .invokevirtual 108, 3, 0, 0, 0, 0), (22, .ifCond .eq 42, 3, 0, 64, 0, 0), (25, .aload_n 0, 1, 0, 0, 0, 0), (26, .getfield 28, 3, 0, 5, 6, 0), (29, .iload_n 2, 1, 0, 0, 0, 0), (30, .iaload, 1, 0, 0, 0, 0), (31, .ifCond .ne 33, 3, 0, 64, 0, 0), (34, .aload_n 0, 1, 0, 0, 0, 0), (35, .iload_n 1, 1, 0, 0, 0, 0), (36, .iload_n 2, 1, 0, 0, 0, 0), (37, .invokevirtual 164, 3, 0, 0, 0, 0), (40, .ifCond .eq 24, 3, 0, 64, 0, 0), (43, .aload_n 0, 1, 0, 0, 0, 0), (44, .getfield 22, 3, 0, 5, 4, 0), (47, .iload_n 2, 1, 0, 0, 0, 0), (48, .aload_n 0, 1, 0, 0, 0, 0), (49, .getfield 22, 3, 0, 5, 4, 0), (52, .iload_n 2, 1, 0, 0, 0, 0), (53, .iaload, 1, 0, 0, 0, 0), (54, .aload_n 0, 1, 0, 0, 0, 0), (55, .iload_n 1, 1, 0, 0, 0, 0), (56, .invokevirtual 167, 3, 0, 0, 0, 0), (59, .iadd, 1, 0, 0, 0, 0), (60, .invokestatic 170, 3, 0, 0, 0, 0), (63, .iastore, 1, 0, 0, 0, 0), (64, .iinc 2 1, 3, 1, 0, 0, 0), (67, .goto (-58), 3, 0, 9, 0, 0), (70, .return_, 1, 0, 0, 0, 0)]
abbrev Y6_bursts : MethodName := ⟨"GingerArmyModel", "bursts", "(I)V"⟩
abbrev M6_bursts : MethT := (6, C6_bursts, prog_8_method_39_code, 3, none, Y6_bursts)
abbrev C6_nextToGo : List CE := [(0, .iconst 0, 1, 0, 0, 0, 0), (1, .istore_n 1, 1, 0, 0, 0, 0), (2, .iload_n 1, 1, 0, 0, 0, 0), (3, .aload_n 0, 1, 0, 0, 0, 0), (4, .getfield 59, 3, 0, 5, 7, 0), (7, .if_icmp .ge 33, 3, 0, 40, 0, 0), (10, .aload_n 0, 1, 0, 0, 0, 0), (11, .iload_n 1, 1, 0, 0, 0, 0), (12, .invokevirtual 108, 3, 0, 0, 0, 0), (15, .ifCond .eq 19, 3, 0, 34, 0, 0), (18, .aload_n 0, 1, 0, 0, 0, 0), (19, .getfield 22, 3, 0, 5, 4, 0), (22, .iload_n 1, 1, 0, 0, 0, 0), (23, .iaload, 1, 0, 0, 0, 0), (24, .aload_n 0, 1, 0, 0, 0, 0), (25, .iload_n 1, 1, 0, 0, 0, 0), (26, .invokevirtual 173, 3, 0, 0, 0, 0), (29, .if_icmp .le 5, 3, 0, 34, 0, 0), (32, .iload_n 1, 1, 0, 0, 0, 0), (33, .ireturn, 1, 0, 0, 0, 0), (34, .iinc 1 1, 3, 1, 0, 0, 0), (37, .goto (-35), 3, 0, 2, 0, 0), (40, .bipush (-9), 2, -9, 0, 0, 0), (42, .ireturn, 1, 0, 0, 0, 0)]
abbrev Y6_nextToGo : MethodName := ⟨"GingerArmyModel", "nextToGo", "()I"⟩
abbrev M6_nextToGo : MethT := (6, C6_nextToGo, prog_8_method_40_code, 2, (some .int), Y6_nextToGo)
abbrev C6_burstsAll : List CE := [(0, .aload_n 0, 1, 0, 0, 0, 0), (1, .invokevirtual 176, 3, 0, 0, 0, 0), (4, .istore_n 1, 1, 0, 0, 0, 0), (5, .iload_n 1, 1, 0, 0, 0, 0), (6, .ifCond .lt 16, 3, 0, 22, 0, 0), (9, .aload_n 0, 1, 0, 0, 0, 0), (10, .iload_n 1, 1, 0, 0, 0, 0), (11, .invokevirtual 179, 3, 0, 0, 0, 0), (14, .aload_n 0, 1, 0, 0, 0, 0), (15, .invokevirtual 176, 3, 0, 0, 0, 0), (18, .istore_n 1, 1, 0, 0, 0, 0), (19, .goto (-14), 3, 0, 5, 0, 0), (22, .return_, 1, 0, 0, 0, 0)]
abbrev Y6_burstsAll : MethodName := ⟨"GingerArmyModel", "burstsAll", "()V"⟩
abbrev M6_burstsAll : MethT := (6, C6_burstsAll, prog_8_method_41_code, 2, none, Y6_burstsAll)
abbrev C6_goesDay : List CE := [(0, .iconst 0, 1, 0, 0, 0, 0), (1, .istore_n 1, 1, 0, 0, 0, 0), (2, .iload_n 1, 1, 0, 0, 0, 0), (3, .aload_n 0, 1, 0, 0, 0, 0), (4, .getfield 59, 3, 0, 5, 7, 0), (7, .if_icmp .ge 47, 3, 0, 54, 0, 0), (10, .aload_n 0, 1, 0, 0, 0, 0), (11, .getfield 22, 3, 0, 5, 4, 0), (14, .iload_n 1, 1, 0, 0, 0, 0), (15, .aload_n 0, 1, 0, 0, 0, 0), (16, .iload_n 1, 1, 0, 0, 0, 0), (17, .invokevirtual 108, 3, 0, 0, 0, 0), (20, .ifCond .eq 21, 3, 0, 41, 0, 0), (23, .aload_n 0, 1, 0, 0, 0, 0), (24, .getfield 22, 3, 0, 5, 4, 0), (27, .iload_n 1, 1, 0, 0, 0, 0), (28, .iaload, 1, 0, 0, 0, 0), (29, .aload_n 0, 1, 0, 0, 0, 0), (30, .iload_n 1, 1, 0, 0, 0, 0), (31, .invokevirtual 182, 3, 0, 0, 0, 0), (34, .iadd, 1, 0, 0, 0, 0), (35, .invokestatic 170, 3, 0, 0, 0, 0), (38, .goto 9, 3, 0, 47, 0, 0), (41, .aload_n 0, 1, 0, 0, 0, 0), (42, .getfield 22, 3, 0, 5, 4, 0), (45, .iload_n 1, 1, 0, 0, 0, 0), (46, .iaload, 1, 0, 0, 0, 0), (47, .iastore, 1, 0, 0, 0, 0), (48, .iinc 1 1, 3, 1, 0, 0, 0), (51, .goto (-49), 3, 0, 2, 0, 0), (54, .aload_n 0, 1, 0, 0, 0, 0), (55, .invokevirtual 185, 3, 0, 0, 0, 0), (58, .aload_n 0, 1, 0, 0, 0, 0), (59, .dup, 1, 0, 0, 0, 0), (60, .getfield 111, 3, 0, 5, 10, 0), (63, .iconst 1, 1, 1, 0, 0, 0), (64, .iadd, 1, 0, 0, 0, 0), (65, .putfield 111, 3, 0, 5, 10, 0), (68, .return_, 1, 0, 0, 0, 0)]
abbrev Y6_goesDay : MethodName := ⟨"GingerArmyModel", "goesDay", "()V"⟩
abbrev M6_goesDay : MethT := (6, C6_goesDay, prog_8_method_42_code, 2, none, Y6_goesDay)
abbrev C6_goesAll : List CE := [(0, .iconst 0, 1, 0, 0, 0, 0), (1, .istore_n 2, 1, 0, 0, 0, 0), (2, .iload_n 2, 1, 0, 0, 0, 0), (3, .iload_n 1, 1, 0, 0, 0, 0), (4, .if_icmp .ge 13, 3, 0, 17, 0, 0), (7, .aload_n 0, 1, 0, 0, 0, 0), (8, .invokevirtual 188, 3, 0, 0, 0, 0), (11, .iinc 2 1, 3, 1, 0, 0, 0), (14, .goto (-12), 3, 0, 2, 0, 0), (17, .return_, 1, 0, 0, 0, 0)]
abbrev Y6_goesAll : MethodName := ⟨"GingerArmyModel", "goesAll", "(I)V"⟩
abbrev M6_goesAll : MethT := (6, C6_goesAll, prog_8_method_43_code, 3, none, Y6_goesAll)
abbrev C6_whole : List CE := [(0, .iconst 0, 1, 0, 0, 0, 0), (1, .istore_n 1, 1, 0, 0, 0, 0), (2, .iconst 0, 1, 0, 0, 0, 0), (3, .istore_n 2, 1, 0, 0, 0, 0), (4, .iload_n 2, 1, 0, 0, 0, 0), (5, .aload_n 0, 1, 0, 0, 0, 0), (6, .getfield 59, 3, 0, 5, 7, 0), (9, .if_icmp .ge 27, 3, 0, 36, 0, 0), (12, .iload_n 1, 1, 0, 0, 0, 0), (13, .aload_n 0, 1, 0, 0, 0, 0), (14, .iload_n 2, 1, 0, 0, 0, 0), (15, .invokevirtual 108, 3, 0, 0, 0, 0), (18, .ifCond .eq 9, 3, 0, 27, 0, 0), (21, .iconst 1, 1, 1, 0, 0, 0), (22, .iload_n 2, 1, 0, 0, 0, 0), (23, .ishl, 1, 0, 0, 0, 0), (24, .goto 4, 3, 0, 28, 0, 0), (27, .iconst 0, 1, 0, 0, 0, 0), (28, .ior, 1, 0, 0, 0, 0), (29, .istore_n 1, 1, 0, 0, 0, 0), (30, .iinc 2 1, 3, 1, 0, 0, 0), (33, .goto (-29), 3, 0, 4, 0, 0), (36, .iload_n 1, 1, 0, 0, 0, 0), (37, .ireturn, 1, 0, 0, 0, 0)]
abbrev Y6_whole : MethodName := ⟨"GingerArmyModel", "whole", "()I"⟩
abbrev M6_whole : MethT := (6, C6_whole, prog_8_method_44_code, 3, (some .int), Y6_whole)
abbrev C6_allPress : List CE := [(0, .iconst 0, 1, 0, 0, 0, 0), (1, .istore_n 1, 1, 0, 0, 0, 0), (2, .iconst 0, 1, 0, 0, 0, 0), (3, .istore_n 2, 1, 0, 0, 0, 0), (4, .iload_n 2, 1, 0, 0, 0, 0), (5, .aload_n 0, 1, 0, 0, 0, 0), (6, .getfield 59, 3, 0, 5, 7, 0), (9, .if_icmp .ge 30, 3, 0, 39, 0, 0), (12, .iload_n 1, 1, 0, 0, 0, 0), (13, .aload_n 0, 1, 0, 0, 0, 0), (14, .iload_n 2, 1, 0, 0, 0, 0), (15, .invokevirtual 108, 3, 0, 0, 0, 0), (18, .ifCond .eq 12, 3, 0, 30, 0, 0), (21, .aload_n 0, 1, 0, 0, 0, 0), (22, .getfield 22, 3, 0, 5, 4, 0), (25, .iload_n 2, 1, 0, 0, 0, 0), (26, .iaload, 1, 0, 0, 0, 0), (27, .goto 4, 3, 0, 31, 0, 0), (30, .iconst 0, 1, 0, 0, 0, 0), (31, .iadd, 1, 0, 0, 0, 0), (32, .istore_n 1, 1, 0, 0, 0, 0), (33, .iinc 2 1, 3, 1, 0, 0, 0), (36, .goto (-32), 3, 0, 4, 0, 0), (39, .iload_n 1, 1, 0, 0, 0, 0), (40, .ireturn, 1, 0, 0, 0, 0)]
abbrev Y6_allPress : MethodName := ⟨"GingerArmyModel", "allPress", "()I"⟩
abbrev M6_allPress : MethT := (6, C6_allPress, prog_8_method_45_code, 3, (some .int), Y6_allPress)
abbrev C6_bottleOf : List CE := [(0, .aload_n 0, 1, 0, 0, 0, 0), (1, .iload_n 1, 1, 0, 0, 0, 0), (2, .invokevirtual 105, 3, 0, 0, 0, 0), (5, .ifCond .ne 9, 3, 0, 14, 0, 0), (8, .aload_n 0, 1, 0, 0, 0, 0), (9, .iconst (-1), 1, -1, 0, 0, 0), (10, .invokevirtual 69, 3, 0, 0, 0, 0), (13, .ireturn, 1, 0, 0, 0, 0), (14, .iload_n 2, 1, 0, 0, 0, 0), (15, .tableswitch 111 0 8 #[49, 56, 63, 70, 77, 86, 93, 99, 105], 49, 0, 0, 0, 0), (64, .aload_n 0, 1, 0, 0, 0, 0), (65, .getfield 13, 3, 0, 5, 1, 0), (68, .iload_n 1, 1, 0, 0, 0, 0), (69, .iaload, 1, 0, 0, 0, 0), (70, .ireturn, 1, 0, 0, 0, 0), (71, .aload_n 0, 1, 0, 0, 0, 0), (72, .getfield 16, 3, 0, 5, 2, 0), (75, .iload_n 1, 1, 0, 0, 0, 0), (76, .iaload, 1, 0, 0, 0, 0), (77, .ireturn, 1, 0, 0, 0, 0), (78, .aload_n 0, 1, 0, 0, 0, 0), (79, .getfield 19, 3, 0, 5, 3, 0), (82, .iload_n 1, 1, 0, 0, 0, 0), (83, .iaload, 1, 0, 0, 0, 0), (84, .ireturn, 1, 0, 0, 0, 0), (85, .aload_n 0, 1, 0, 0, 0, 0), (86, .getfield 22, 3, 0, 5, 4, 0), (89, .iload_n 1, 1, 0, 0, 0, 0), (90, .iaload, 1, 0, 0, 0, 0), (91, .ireturn, 1, 0, 0, 0, 0), (92, .iconst 1, 1, 1, 0, 0, 0), (93, .aload_n 0, 1, 0, 0, 0, 0), (94, .getfield 25, 3, 0, 5, 5, 0), (97, .iload_n 1, 1, 0, 0, 0, 0), (98, .iaload, 1, 0, 0, 0, 0), (99, .isub, 1, 0, 0, 0, 0), (100, .ireturn, 1, 0, 0, 0, 0), (101, .aload_n 0, 1, 0, 0, 0, 0), (102, .getfield 28, 3, 0, 5, 6, 0), (105, .iload_n 1, 1, 0, 0, 0, 0), (106, .iaload, 1, 0, 0, 0, 0), (107, .ireturn, 1, 0, 0, 0, 0), (108, .aload_n 0, 1, 0, 0, 0, 0), (109, .iload_n 1, 1, 0, 0, 0, 0), (110, .invokevirtual 182, 3, 0, 0, 0, 0), (113, .ireturn, 1, 0, 0, 0, 0), (114, .aload_n 0, 1, 0, 0, 0, 0), (115, .iload_n 1, 1, 0, 0, 0, 0), (116, .invokevirtual 173, 3, 0, 0, 0, 0), (119, .ireturn, 1, 0, 0, 0, 0), (120, .aload_n 0, 1, 0, 0, 0, 0), (121, .iload_n 1, 1, 0, 0, 0, 0), (122, .invokevirtual 167, 3, 0, 0, 0, 0), (125, .ireturn, 1, 0, 0, 0, 0), (126, .aload_n 0, 1, 0, 0, 0, 0), (127, .bipush (-2), 2, -2, 0, 0, 0), (129, .invokevirtual 69, 3, 0, 0, 0, 0), (132, .ireturn, 1, 0, 0, 0, 0)]
abbrev Y6_bottleOf : MethodName := ⟨"GingerArmyModel", "bottleOf", "(II)I"⟩
abbrev M6_bottleOf : MethT := (6, C6_bottleOf, prog_8_method_46_code, 3, (some .int), Y6_bottleOf)
abbrev C6_at : List CE := [(0, .iload_n 1, 1, 0, 0, 0, 0), (1, .invokestatic 94, 3, 0, 0, 0, 0), (4, .ifCond .eq 11, 3, 0, 15, 0, 0), (7, .aload_n 0, 1, 0, 0, 0, 0), (8, .iload_n 1, 1, 0, 0, 0, 0), (9, .invokevirtual 98, 3, 0, 0, 0, 0), (12, .goto 8, 3, 0, 20, 0, 0), (15, .aload_n 0, 1, 0, 0, 0, 0), (16, .iconst (-1), 1, -1, 0, 0, 0), (17, .invokevirtual 69, 3, 0, 0, 0, 0), (20, .ireturn, 1, 0, 0, 0, 0)]
abbrev Y6_at : MethodName := ⟨"GingerArmyModel", "at", "(I)I"⟩
abbrev M6_at : MethT := (6, C6_at, prog_8_method_47_code, 2, (some .int), Y6_at)
abbrev C6_bottle : List CE := [(0, .iload_n 1, 1, 0, 0, 0, 0), (1, .iconst 0, 1, 0, 0, 0, 0), (2, .iconst 5, 1, 5, 0, 0, 0), (3, .invokestatic 80, 3, 0, 0, 0, 0), (6, .ifCond .ne 8, 3, 0, 14, 0, 0), (9, .bipush (-2), 2, -2, 0, 0, 0), (11, .goto 57, 3, 0, 68, 0, 0), (14, .iload_n 2, 1, 0, 0, 0, 0), (15, .ifCond .ge 8, 3, 0, 23, 0, 0), (18, .bipush (-4), 2, -4, 0, 0, 0), (20, .goto 48, 3, 0, 68, 0, 0), (23, .iload_n 2, 1, 0, 0, 0, 0), (24, .bipush 9, 2, 9, 0, 0, 0), (26, .if_icmp .gt 12, 3, 0, 38, 0, 0), (29, .aload_n 0, 1, 0, 0, 0, 0), (30, .getfield 59, 3, 0, 5, 7, 0), (33, .bipush 8, 2, 8, 0, 0, 0), (35, .if_icmp .ne 8, 3, 0, 43, 0, 0), (38, .bipush (-6), 2, -6, 0, 0, 0), (40, .goto 28, 3, 0, 68, 0, 0), (43, .iload_n 3, 1, 0, 0, 0, 0), (44, .invokestatic 94, 3, 0, 0, 0, 0), (47, .ifCond .ne 7, 3, 0, 54, 0, 0), (50, .iconst (-1), 1, -1, 0, 0, 0), (51, .goto 17, 3, 0, 68, 0, 0), (54, .aload_n 0, 1, 0, 0, 0, 0), (55, .iload_n 3, 1, 0, 0, 0, 0), (56, .invokevirtual 98, 3, 0, 0, 0, 0), (59, .ifCond .lt 8, 3, 0, 67, 0, 0), (62, .bipush (-3), 2, -3, 0, 0, 0), (64, .goto 4, 3, 0, 68, 0, 0), (67, .iconst 0, 1, 0, 0, 0, 0), (68, .istore 4, 2, 0, 0, 0, 0), (70, .iload 4, 2, 0, 0, 0, 0), (72, .ifCond .eq 10, 3, 0, 82, 0, 0), (75, .aload_n 0, 1, 0, 0, 0, 0), (76, .iload 4, 2, 0, 0, 0, 0), (78, .invokevirtual 69, 3, 0, 0, 0, 0), (81, .ireturn, 1, 0, 0, 0, 0), (82, .aload_n 0, 1, 0, 0, 0, 0), (83, .iconst 0, 1, 0, 0, 0, 0), (84, .putfield 141, 3, 0, 5, 22, 0), (87, .aload_n 0, 1, 0, 0, 0, 0), (88, .iload_n 1, 1, 0, 0, 0, 0), (89, .iload_n 2, 1, 0, 0, 0, 0), (90, .iload_n 3, 1, 0, 0, 0, 0), (91, .invokevirtual 101, 3, 0, 0, 0, 0), (94, .aload_n 0, 1, 0, 0, 0, 0), (95, .getfield 59, 3, 0, 5, 7, 0), (98, .iconst 1, 1, 1, 0, 0, 0), (99, .isub, 1, 0, 0, 0, 0), (100, .ireturn, 1, 0, 0, 0, 0)]
abbrev Y6_bottle : MethodName := ⟨"GingerArmyModel", "bottle", "(III)I"⟩
abbrev M6_bottle : MethT := (6, C6_bottle, prog_8_method_48_code, 5, (some .int), Y6_bottle)
abbrev C6_feeds : List CE := [(0, .iload_n 1, 1, 0, 0, 0, 0), (1, .iconst 0, 1, 0, 0, 0, 0), (2, .iconst 1, 1, 1, 0, 0, 0), (3, .invokestatic 80, 3, 0, 0, 0, 0), (6, .ifCond .ne 8, 3, 0, 14, 0, 0), (9, .bipush (-2), 2, -2, 0, 0, 0), (11, .goto 10, 3, 0, 21, 0, 0), (14, .iload_n 2, 1, 0, 0, 0, 0), (15, .iconst 0, 1, 0, 0, 0, 0), (16, .bipush 9, 2, 9, 0, 0, 0), (18, .invokestatic 62, 3, 0, 0, 0, 0), (21, .istore_n 3, 1, 0, 0, 0, 0), (22, .iload_n 3, 1, 0, 0, 0, 0), (23, .ifCond .eq 9, 3, 0, 32, 0, 0), (26, .aload_n 0, 1, 0, 0, 0, 0), (27, .iload_n 3, 1, 0, 0, 0, 0), (28, .invokevirtual 69, 3, 0, 0, 0, 0), (31, .ireturn, 1, 0, 0, 0, 0), (32, .aload_n 0, 1, 0, 0, 0, 0), (33, .invokevirtual 191, 3, 0, 0, 0, 0), (36, .iload_n 1, 1, 0, 0, 0, 0), (37, .ifCond .ne 10, 3, 0, 47, 0, 0), (40, .aload_n 0, 1, 0, 0, 0, 0), (41, .getfield 52, 3, 0, 5, 8, 0), (44, .goto 7, 3, 0, 51, 0, 0), (47, .aload_n 0, 1, 0, 0, 0, 0), (48, .getfield 121, 3, 0, 5, 9, 0), (51, .istore 4, 2, 0, 0, 0, 0), (53, .iload_n 1, 1, 0, 0, 0, 0), (54, .ifCond .ne 11, 3, 0, 65, 0, 0), (57, .aload_n 0, 1, 0, 0, 0, 0), (58, .iload_n 2, 1, 0, 0, 0, 0), (59, .putfield 52, 3, 0, 5, 8, 0), (62, .goto 8, 3, 0, 70, 0, 0), (65, .aload_n 0, 1, 0, 0, 0, 0), (66, .iload_n 2, 1, 0, 0, 0, 0), (67, .putfield 121, 3, 0, 5, 9, 0), (70, .iload 4, 2, 0, 0, 0, 0), (72, .ireturn, 1, 0, 0, 0, 0)]
abbrev Y6_feeds : MethodName := ⟨"GingerArmyModel", "feeds", "(II)I"⟩
abbrev M6_feeds : MethT := (6, C6_feeds, prog_8_method_49_code, 5, (some .int), Y6_feeds)
abbrev C6_notWhole : List CE := [(0, .aload_n 0, 1, 0, 0, 0, 0), (1, .iload_n 1, 1, 0, 0, 0, 0), (2, .invokevirtual 105, 3, 0, 0, 0, 0), (5, .ifCond .ne 7, 3, 0, 12, 0, 0), (8, .iconst (-1), 1, -1, 0, 0, 0), (9, .goto 17, 3, 0, 26, 0, 0), (12, .aload_n 0, 1, 0, 0, 0, 0), (13, .iload_n 1, 1, 0, 0, 0, 0), (14, .invokevirtual 108, 3, 0, 0, 0, 0), (17, .ifCond .ne 8, 3, 0, 25, 0, 0), (20, .bipush (-3), 2, -3, 0, 0, 0), (22, .goto 4, 3, 0, 26, 0, 0), (25, .iconst 0, 1, 0, 0, 0, 0), (26, .ireturn, 1, 0, 0, 0, 0)]
abbrev Y6_notWhole : MethodName := ⟨"GingerArmyModel", "notWhole", "(I)I"⟩
abbrev M6_notWhole : MethT := (6, C6_notWhole, prog_8_method_50_code, 2, (some .int), Y6_notWhole)
abbrev C6_outs : List CE := [(0, .aload_n 0, 1, 0, 0, 0, 0), (1, .iload_n 1, 1, 0, 0, 0, 0), (2, .invokevirtual 194, 3, 0, 0, 0, 0), (5, .istore_n 2, 1, 0, 0, 0, 0), (6, .iload_n 2, 1, 0, 0, 0, 0), (7, .ifCond .eq 9, 3, 0, 16, 0, 0), (10, .aload_n 0, 1, 0, 0, 0, 0), (11, .iload_n 2, 1, 0, 0, 0, 0), (12, .invokevirtual 69, 3, 0, 0, 0, 0), (15, .ireturn, 1, 0, 0, 0, 0), (16, .aload_n 0, 1, 0, 0, 0, 0), (17, .invokevirtual 191, 3, 0, 0, 0, 0), (20, .aload_n 0, 1, 0, 0, 0, 0), (21, .getfield 22, 3, 0, 5, 4, 0), (24, .iload_n 1, 1, 0, 0, 0, 0), (25, .iaload, 1, 0, 0, 0, 0), (26, .istore_n 3, 1, 0, 0, 0, 0), (27, .aload_n 0, 1, 0, 0, 0, 0), (28, .getfield 22, 3, 0, 5, 4, 0), (31, .iload_n 1, 1, 0, 0, 0, 0), (32, .iconst 0, 1, 0, 0, 0, 0), (33, .iastore, 1, 0, 0, 0, 0), (34, .iload_n 3, 1, 0, 0, 0, 0), (35, .ireturn, 1, 0, 0, 0, 0)]
abbrev Y6_outs : MethodName := ⟨"GingerArmyModel", "outs", "(I)I"⟩
abbrev M6_outs : MethT := (6, C6_outs, prog_8_method_51_code, 4, (some .int), Y6_outs)
abbrev C6_towels : List CE := [(0, .aload_n 0, 1, 0, 0, 0, 0), (1, .iload_n 1, 1, 0, 0, 0, 0), (2, .invokevirtual 194, 3, 0, 0, 0, 0), (5, .istore_n 2, 1, 0, 0, 0, 0), (6, .iload_n 2, 1, 0, 0, 0, 0), (7, .ifCond .eq 9, 3, 0, 16, 0, 0), (10, .aload_n 0, 1, 0, 0, 0, 0), (11, .iload_n 2, 1, 0, 0, 0, 0), (12, .invokevirtual 69, 3, 0, 0, 0, 0), (15, .ireturn, 1, 0, 0, 0, 0), (16, .aload_n 0, 1, 0, 0, 0, 0), (17, .invokevirtual 191, 3, 0, 0, 0, 0), (20, .aload_n 0, 1, 0, 0, 0, 0), (21, .getfield 28, 3, 0, 5, 6, 0), (24, .iload_n 1, 1, 0, 0, 0, 0), (25, .iconst 1, 1, 1, 0, 0, 0), (26, .aload_n 0, 1, 0, 0, 0, 0), (27, .getfield 28, 3, 0, 5, 6, 0), (30, .iload_n 1, 1, 0, 0, 0, 0), (31, .iaload, 1, 0, 0, 0, 0), (32, .isub, 1, 0, 0, 0, 0), (33, .iastore, 1, 0, 0, 0, 0), (34, .aload_n 0, 1, 0, 0, 0, 0), (35, .getfield 28, 3, 0, 5, 6, 0), (38, .iload_n 1, 1, 0, 0, 0, 0), (39, .iaload, 1, 0, 0, 0, 0), (40, .ireturn, 1, 0, 0, 0, 0)]
abbrev Y6_towels : MethodName := ⟨"GingerArmyModel", "towels", "(I)I"⟩
abbrev M6_towels : MethT := (6, C6_towels, prog_8_method_52_code, 3, (some .int), Y6_towels)
abbrev C6_days : List CE := [(0, .iload_n 1, 1, 0, 0, 0, 0), (1, .iconst 1, 1, 1, 0, 0, 0), (2, .bipush 60, 2, 60, 0, 0, 0), (4, .invokestatic 62, 3, 0, 0, 0, 0), (7, .istore_n 2, 1, 0, 0, 0, 0), (8, .iload_n 2, 1, 0, 0, 0, 0), (9, .ifCond .ne 18, 3, 0, 27, 0, 0), (12, .aload_n 0, 1, 0, 0, 0, 0), (13, .getfield 111, 3, 0, 5, 10, 0), (16, .iload_n 1, 1, 0, 0, 0, 0), (17, .iadd, 1, 0, 0, 0, 0), (18, .sipush 999, 3, 999, 0, 0, 0), (21, .if_icmp .le 6, 3, 0, 27, 0, 0), (24, .bipush (-6), 2, -6, 0, 0, 0), (26, .istore_n 2, 1, 0, 0, 0, 0), (27, .iload_n 2, 1, 0, 0, 0, 0), (28, .ifCond .eq 9, 3, 0, 37, 0, 0), (31, .aload_n 0, 1, 0, 0, 0, 0), (32, .iload_n 2, 1, 0, 0, 0, 0), (33, .invokevirtual 69, 3, 0, 0, 0, 0), (36, .ireturn, 1, 0, 0, 0, 0), (37, .aload_n 0, 1, 0, 0, 0, 0), (38, .invokevirtual 191, 3, 0, 0, 0, 0), (41, .aload_n 0, 1, 0, 0, 0, 0), (42, .iload_n 1, 1, 0, 0, 0, 0), (43, .invokevirtual 114, 3, 0, 0, 0, 0), (46, .aload_n 0, 1, 0, 0, 0, 0), (47, .invokevirtual 197, 3, 0, 0, 0, 0), (50, .invokestatic 200, 3, 0, 0, 0, 0), (53, .ireturn, 1, 0, 0, 0, 0)]
abbrev Y6_days : MethodName := ⟨"GingerArmyModel", "days", "(I)I"⟩
abbrev M6_days : MethT := (6, C6_days, prog_8_method_53_code, 3, (some .int), Y6_days)
abbrev C6_notDays : List CE := [(0, .iload_n 0, 1, 0, 0, 0, 0), (1, .iconst 0, 1, 0, 0, 0, 0), (2, .bipush 60, 2, 60, 0, 0, 0), (4, .invokestatic 62, 3, 0, 0, 0, 0), (7, .ireturn, 1, 0, 0, 0, 0)]
abbrev Y6_notDays : MethodName := ⟨"GingerArmyModel", "notDays", "(I)I"⟩
abbrev M6_notDays : MethT := (6, C6_notDays, prog_8_method_54_code, 1, (some .int), Y6_notDays)
abbrev C6_pressBehind : List CE := [(0, .aload_n 0, 1, 0, 0, 0, 0), (1, .invokevirtual 203, 3, 0, 0, 0, 0), (4, .aload_n 0, 1, 0, 0, 0, 0), (5, .iload_n 2, 1, 0, 0, 0, 0), (6, .invokevirtual 114, 3, 0, 0, 0, 0), (9, .aload_n 0, 1, 0, 0, 0, 0), (10, .getfield 22, 3, 0, 5, 4, 0), (13, .iload_n 1, 1, 0, 0, 0, 0), (14, .iaload, 1, 0, 0, 0, 0), (15, .istore_n 3, 1, 0, 0, 0, 0), (16, .aload_n 0, 1, 0, 0, 0, 0), (17, .invokevirtual 206, 3, 0, 0, 0, 0), (20, .iload_n 3, 1, 0, 0, 0, 0), (21, .ireturn, 1, 0, 0, 0, 0)]
abbrev Y6_pressBehind : MethodName := ⟨"GingerArmyModel", "pressBehind", "(II)I"⟩
abbrev M6_pressBehind : MethT := (6, C6_pressBehind, prog_8_method_55_code, 4, (some .int), Y6_pressBehind)
abbrev C6_leftIn : List CE := [(0, .aload_n 0, 1, 0, 0, 0, 0), (1, .invokevirtual 203, 3, 0, 0, 0, 0), (4, .aload_n 0, 1, 0, 0, 0, 0), (5, .iload_n 1, 1, 0, 0, 0, 0), (6, .invokevirtual 114, 3, 0, 0, 0, 0), (9, .aload_n 0, 1, 0, 0, 0, 0), (10, .invokevirtual 197, 3, 0, 0, 0, 0), (13, .invokestatic 200, 3, 0, 0, 0, 0), (16, .istore_n 2, 1, 0, 0, 0, 0), (17, .aload_n 0, 1, 0, 0, 0, 0), (18, .invokevirtual 206, 3, 0, 0, 0, 0), (21, .iload_n 2, 1, 0, 0, 0, 0), (22, .ireturn, 1, 0, 0, 0, 0)]
abbrev Y6_leftIn : MethodName := ⟨"GingerArmyModel", "leftIn", "(I)I"⟩
abbrev M6_leftIn : MethT := (6, C6_leftIn, prog_8_method_56_code, 3, (some .int), Y6_leftIn)
abbrev C6_pressIn : List CE := [(0, .aload_n 0, 1, 0, 0, 0, 0), (1, .iload_n 1, 1, 0, 0, 0, 0), (2, .invokevirtual 105, 3, 0, 0, 0, 0), (5, .ifCond .ne 7, 3, 0, 12, 0, 0), (8, .iconst (-1), 1, -1, 0, 0, 0), (9, .goto 7, 3, 0, 16, 0, 0), (12, .iload_n 2, 1, 0, 0, 0, 0), (13, .invokestatic 209, 3, 0, 0, 0, 0), (16, .istore_n 3, 1, 0, 0, 0, 0), (17, .iload_n 3, 1, 0, 0, 0, 0), (18, .ifCond .eq 11, 3, 0, 29, 0, 0), (21, .aload_n 0, 1, 0, 0, 0, 0), (22, .iload_n 3, 1, 0, 0, 0, 0), (23, .invokevirtual 69, 3, 0, 0, 0, 0), (26, .goto 9, 3, 0, 35, 0, 0), (29, .aload_n 0, 1, 0, 0, 0, 0), (30, .iload_n 1, 1, 0, 0, 0, 0), (31, .iload_n 2, 1, 0, 0, 0, 0), (32, .invokevirtual 212, 3, 0, 0, 0, 0), (35, .ireturn, 1, 0, 0, 0, 0)]
abbrev Y6_pressIn : MethodName := ⟨"GingerArmyModel", "pressIn", "(II)I"⟩
abbrev M6_pressIn : MethT := (6, C6_pressIn, prog_8_method_57_code, 4, (some .int), Y6_pressIn)
abbrev C6_then : List CE := [(0, .iload_n 1, 1, 0, 0, 0, 0), (1, .invokestatic 209, 3, 0, 0, 0, 0), (4, .istore_n 3, 1, 0, 0, 0, 0), (5, .iload_n 3, 1, 0, 0, 0, 0), (6, .ifCond .ne 15, 3, 0, 21, 0, 0), (9, .iload_n 2, 1, 0, 0, 0, 0), (10, .iconst 0, 1, 0, 0, 0, 0), (11, .iconst 2, 1, 2, 0, 0, 0), (12, .invokestatic 80, 3, 0, 0, 0, 0), (15, .ifCond .ne 6, 3, 0, 21, 0, 0), (18, .bipush (-2), 2, -2, 0, 0, 0), (20, .istore_n 3, 1, 0, 0, 0, 0), (21, .iload_n 3, 1, 0, 0, 0, 0), (22, .ifCond .eq 9, 3, 0, 31, 0, 0), (25, .aload_n 0, 1, 0, 0, 0, 0), (26, .iload_n 3, 1, 0, 0, 0, 0), (27, .invokevirtual 69, 3, 0, 0, 0, 0), (30, .ireturn, 1, 0, 0, 0, 0), (31, .aload_n 0, 1, 0, 0, 0, 0), (32, .invokevirtual 203, 3, 0, 0, 0, 0), (35, .aload_n 0, 1, 0, 0, 0, 0), (36, .iload_n 1, 1, 0, 0, 0, 0), (37, .invokevirtual 114, 3, 0, 0, 0, 0), (40, .iload_n 2, 1, 0, 0, 0, 0), (41, .ifCond .ne 10, 3, 0, 51, 0, 0), (44, .aload_n 0, 1, 0, 0, 0, 0), (45, .invokevirtual 197, 3, 0, 0, 0, 0), (48, .goto 22, 3, 0, 70, 0, 0), (51, .iload_n 2, 1, 0, 0, 0, 0), (52, .iconst 1, 1, 1, 0, 0, 0), (53, .if_icmp .ne 10, 3, 0, 63, 0, 0), (56, .aload_n 0, 1, 0, 0, 0, 0), (57, .invokevirtual 216, 3, 0, 0, 0, 0), (60, .goto 10, 3, 0, 70, 0, 0), (63, .aload_n 0, 1, 0, 0, 0, 0), (64, .invokevirtual 197, 3, 0, 0, 0, 0), (67, .invokestatic 200, 3, 0, 0, 0, 0), (70, .istore 4, 2, 0, 0, 0, 0), (72, .aload_n 0, 1, 0, 0, 0, 0), (73, .invokevirtual 206, 3, 0, 0, 0, 0), (76, .iload 4, 2, 0, 0, 0, 0), (78, .ireturn, 1, 0, 0, 0, 0)]
abbrev Y6_then : MethodName := ⟨"GingerArmyModel", "then", "(II)I"⟩
abbrev M6_then : MethT := (6, C6_then, prog_8_method_58_code, 5, (some .int), Y6_then)
abbrev C6_goesWhen : List CE := [(0, .aload_n 0, 1, 0, 0, 0, 0), (1, .invokevirtual 203, 3, 0, 0, 0, 0), (4, .bipush (-9), 2, -9, 0, 0, 0), (6, .istore_n 2, 1, 0, 0, 0, 0), (7, .iconst 0, 1, 0, 0, 0, 0), (8, .istore_n 3, 1, 0, 0, 0, 0), (9, .iload_n 3, 1, 0, 0, 0, 0), (10, .bipush 60, 2, 60, 0, 0, 0), (12, .if_icmp .gt 32, 3, 0, 44, 0, 0), (15, .iload_n 2, 1, 0, 0, 0, 0), (16, .ifCond .ge 28, 3, 0, 44, 0, 0), (19, .aload_n 0, 1, 0, 0, 0, 0), (20, .iload_n 1, 1, 0, 0, 0, 0), (21, .invokevirtual 108, 3, 0, 0, 0, 0), (24, .ifCond .eq 8, 3, 0, 32, 0, 0), (27, .bipush (-9), 2, -9, 0, 0, 0), (29, .goto 4, 3, 0, 33, 0, 0), (32, .iload_n 3, 1, 0, 0, 0, 0), (33, .istore_n 2, 1, 0, 0, 0, 0), (34, .aload_n 0, 1, 0, 0, 0, 0), (35, .invokevirtual 188, 3, 0, 0, 0, 0), (38, .iinc 3 1, 3, 1, 0, 0, 0), (41, .goto (-32), 3, 0, 9, 0, 0), (44, .aload_n 0, 1, 0, 0, 0, 0), (45, .invokevirtual 206, 3, 0, 0, 0, 0), (48, .iload_n 2, 1, 0, 0, 0, 0), (49, .ireturn, 1, 0, 0, 0, 0)]
abbrev Y6_goesWhen : MethodName := ⟨"GingerArmyModel", "goesWhen", "(I)I"⟩
abbrev M6_goesWhen : MethT := (6, C6_goesWhen, prog_8_method_59_code, 4, (some .int), Y6_goesWhen)
abbrev C6_firstToGo : List CE := [(0, .bipush (-9), 2, -9, 0, 0, 0), (2, .istore_n 1, 1, 0, 0, 0, 0), (3, .bipush 61, 2, 61, 0, 0, 0), (5, .istore_n 2, 1, 0, 0, 0, 0), (6, .iconst 0, 1, 0, 0, 0, 0), (7, .istore_n 3, 1, 0, 0, 0, 0), (8, .iload_n 3, 1, 0, 0, 0, 0), (9, .aload_n 0, 1, 0, 0, 0, 0), (10, .getfield 59, 3, 0, 5, 7, 0), (13, .if_icmp .ge 35, 3, 0, 48, 0, 0), (16, .aload_n 0, 1, 0, 0, 0, 0), (17, .iload_n 3, 1, 0, 0, 0, 0), (18, .invokevirtual 219, 3, 0, 0, 0, 0), (21, .istore 4, 2, 0, 0, 0, 0), (23, .iload 4, 2, 0, 0, 0, 0), (25, .ifCond .le 17, 3, 0, 42, 0, 0), (28, .iload 4, 2, 0, 0, 0, 0), (30, .iload_n 2, 1, 0, 0, 0, 0), (31, .if_icmp .lt 6, 3, 0, 37, 0, 0), (34, .goto 8, 3, 0, 42, 0, 0), (37, .iload_n 3, 1, 0, 0, 0, 0), (38, .istore_n 1, 1, 0, 0, 0, 0), (39, .iload 4, 2, 0, 0, 0, 0), (41, .istore_n 2, 1, 0, 0, 0, 0), (42, .iinc 3 1, 3, 1, 0, 0, 0), (45, .goto (-37), 3, 0, 8, 0, 0), (48, .iload_n 1, 1, 0, 0, 0, 0), (49, .ireturn, 1, 0, 0, 0, 0)]
abbrev Y6_firstToGo : MethodName := ⟨"GingerArmyModel", "firstToGo", "()I"⟩
abbrev M6_firstToGo : MethT := (6, C6_firstToGo, prog_8_method_60_code, 5, (some .int), Y6_firstToGo)
abbrev C6_goes : List CE := [(0, .iload_n 1, 1, 0, 0, 0, 0), (1, .iconst (-1), 1, -1, 0, 0, 0), (2, .if_icmp .eq 17, 3, 0, 19, 0, 0), (5, .aload_n 0, 1, 0, 0, 0, 0), (6, .iload_n 1, 1, 0, 0, 0, 0), (7, .invokevirtual 105, 3, 0, 0, 0, 0), (10, .ifCond .ne 9, 3, 0, 19, 0, 0), (13, .aload_n 0, 1, 0, 0, 0, 0), (14, .iconst (-1), 1, -1, 0, 0, 0), (15, .invokevirtual 69, 3, 0, 0, 0, 0), (18, .ireturn, 1, 0, 0, 0, 0), (19, .iload_n 1, 1, 0, 0, 0, 0), (20, .ifCond .ge 10, 3, 0, 30, 0, 0), (23, .aload_n 0, 1, 0, 0, 0, 0), (24, .invokevirtual 222, 3, 0, 0, 0, 0), (27, .goto 8, 3, 0, 35, 0, 0), (30, .aload_n 0, 1, 0, 0, 0, 0), (31, .iload_n 1, 1, 0, 0, 0, 0), (32, .invokevirtual 219, 3, 0, 0, 0, 0), (35, .ireturn, 1, 0, 0, 0, 0)]
abbrev Y6_goes : MethodName := ⟨"GingerArmyModel", "goes", "(I)I"⟩
abbrev M6_goes : MethT := (6, C6_goes, prog_8_method_61_code, 2, (some .int), Y6_goes)
abbrev C6_quiet : List CE := [(0, .aload_n 0, 1, 0, 0, 0, 0), (1, .invokevirtual 203, 3, 0, 0, 0, 0), (4, .iconst 0, 1, 0, 0, 0, 0), (5, .istore_n 1, 1, 0, 0, 0, 0), (6, .iconst 0, 1, 0, 0, 0, 0), (7, .istore_n 2, 1, 0, 0, 0, 0), (8, .iconst 0, 1, 0, 0, 0, 0), (9, .istore_n 3, 1, 0, 0, 0, 0), (10, .iload_n 3, 1, 0, 0, 0, 0), (11, .bipush 60, 2, 60, 0, 0, 0), (13, .if_icmp .ge 47, 3, 0, 60, 0, 0), (16, .aload_n 0, 1, 0, 0, 0, 0), (17, .invokevirtual 197, 3, 0, 0, 0, 0), (20, .istore 4, 2, 0, 0, 0, 0), (22, .aload_n 0, 1, 0, 0, 0, 0), (23, .invokevirtual 188, 3, 0, 0, 0, 0), (26, .aload_n 0, 1, 0, 0, 0, 0), (27, .invokevirtual 197, 3, 0, 0, 0, 0), (30, .iload 4, 2, 0, 0, 0, 0), (32, .if_icmp .ne 9, 3, 0, 41, 0, 0), (35, .iload_n 2, 1, 0, 0, 0, 0), (36, .iconst 1, 1, 1, 0, 0, 0), (37, .iadd, 1, 0, 0, 0, 0), (38, .goto 4, 3, 0, 42, 0, 0), (41, .iconst 0, 1, 0, 0, 0, 0), (42, .istore_n 2, 1, 0, 0, 0, 0), (43, .iload_n 2, 1, 0, 0, 0, 0), (44, .iload_n 1, 1, 0, 0, 0, 0), (45, .if_icmp .le 7, 3, 0, 52, 0, 0), (48, .iload_n 2, 1, 0, 0, 0, 0), (49, .goto 4, 3, 0, 53, 0, 0), (52, .iload_n 1, 1, 0, 0, 0, 0), (53, .istore_n 1, 1, 0, 0, 0, 0), (54, .iinc 3 1, 3, 1, 0, 0, 0), (57, .goto (-47), 3, 0, 10, 0, 0), (60, .aload_n 0, 1, 0, 0, 0, 0), (61, .invokevirtual 206, 3, 0, 0, 0, 0), (64, .iload_n 1, 1, 0, 0, 0, 0), (65, .ireturn, 1, 0, 0, 0, 0)]
abbrev Y6_quiet : MethodName := ⟨"GingerArmyModel", "quiet", "()I"⟩
abbrev M6_quiet : MethT := (6, C6_quiet, prog_8_method_62_code, 5, (some .int), Y6_quiet)
abbrev C6_takenBy : List CE := [(0, .aload_n 0, 1, 0, 0, 0, 0), (1, .invokevirtual 203, 3, 0, 0, 0, 0), (4, .aload_n 0, 1, 0, 0, 0, 0), (5, .invokevirtual 197, 3, 0, 0, 0, 0), (8, .istore_n 2, 1, 0, 0, 0, 0), (9, .aload_n 0, 1, 0, 0, 0, 0), (10, .iload_n 1, 1, 0, 0, 0, 0), (11, .invokevirtual 179, 3, 0, 0, 0, 0), (14, .aload_n 0, 1, 0, 0, 0, 0), (15, .invokevirtual 185, 3, 0, 0, 0, 0), (18, .iload_n 2, 1, 0, 0, 0, 0), (19, .aload_n 0, 1, 0, 0, 0, 0), (20, .invokevirtual 197, 3, 0, 0, 0, 0), (23, .iconst (-1), 1, -1, 0, 0, 0), (24, .ixor, 1, 0, 0, 0, 0), (25, .iand, 1, 0, 0, 0, 0), (26, .iconst 1, 1, 1, 0, 0, 0), (27, .iload_n 1, 1, 0, 0, 0, 0), (28, .ishl, 1, 0, 0, 0, 0), (29, .iconst (-1), 1, -1, 0, 0, 0), (30, .ixor, 1, 0, 0, 0, 0), (31, .iand, 1, 0, 0, 0, 0), (32, .istore_n 3, 1, 0, 0, 0, 0), (33, .aload_n 0, 1, 0, 0, 0, 0), (34, .invokevirtual 206, 3, 0, 0, 0, 0), (37, .iload_n 3, 1, 0, 0, 0, 0), (38, .ireturn, 1, 0, 0, 0, 0)]
abbrev Y6_takenBy : MethodName := ⟨"GingerArmyModel", "takenBy", "(I)I"⟩
abbrev M6_takenBy : MethT := (6, C6_takenBy, prog_8_method_63_code, 4, (some .int), Y6_takenBy)
abbrev C6_takes : List CE := [(0, .aload_n 0, 1, 0, 0, 0, 0), (1, .iload_n 1, 1, 0, 0, 0, 0), (2, .invokevirtual 194, 3, 0, 0, 0, 0), (5, .istore_n 2, 1, 0, 0, 0, 0), (6, .iload_n 2, 1, 0, 0, 0, 0), (7, .ifCond .eq 11, 3, 0, 18, 0, 0), (10, .aload_n 0, 1, 0, 0, 0, 0), (11, .iload_n 2, 1, 0, 0, 0, 0), (12, .invokevirtual 69, 3, 0, 0, 0, 0), (15, .goto 8, 3, 0, 23, 0, 0), (18, .aload_n 0, 1, 0, 0, 0, 0), (19, .iload_n 1, 1, 0, 0, 0, 0), (20, .invokevirtual 225, 3, 0, 0, 0, 0), (23, .ireturn, 1, 0, 0, 0, 0)]
abbrev Y6_takes : MethodName := ⟨"GingerArmyModel", "takes", "(I)I"⟩
abbrev M6_takes : MethT := (6, C6_takes, prog_8_method_64_code, 3, (some .int), Y6_takes)
abbrev C6_worst : List CE := [(0, .iload_n 1, 1, 0, 0, 0, 0), (1, .iconst 0, 1, 0, 0, 0, 0), (2, .iconst 1, 1, 1, 0, 0, 0), (3, .invokestatic 80, 3, 0, 0, 0, 0), (6, .ifCond .ne 10, 3, 0, 16, 0, 0), (9, .aload_n 0, 1, 0, 0, 0, 0), (10, .bipush (-2), 2, -2, 0, 0, 0), (12, .invokevirtual 69, 3, 0, 0, 0, 0), (15, .ireturn, 1, 0, 0, 0, 0), (16, .bipush (-9), 2, -9, 0, 0, 0), (18, .istore_n 2, 1, 0, 0, 0, 0), (19, .bipush (-9), 2, -9, 0, 0, 0), (21, .istore_n 3, 1, 0, 0, 0, 0), (22, .iconst 0, 1, 0, 0, 0, 0), (23, .istore 4, 2, 0, 0, 0, 0), (25, .iload 4, 2, 0, 0, 0, 0), (27, .aload_n 0, 1, 0, 0, 0, 0), (28, .getfield 59, 3, 0, 5, 7, 0), (31, .if_icmp .ge 49, 3, 0, 80, 0, 0), (34, .aload_n 0, 1, 0, 0, 0, 0), (35, .iload 4, 2, 0, 0, 0, 0), (37, .invokevirtual 108, 3, 0, 0, 0, 0), (40, .ifCond .eq 15, 3, 0, 55, 0, 0), (43, .aload_n 0, 1, 0, 0, 0, 0), (44, .iload 4, 2, 0, 0, 0, 0), (46, .invokevirtual 225, 3, 0, 0, 0, 0), (49, .invokestatic 200, 3, 0, 0, 0, 0), (52, .goto 5, 3, 0, 57, 0, 0), (55, .bipush (-9), 2, -9, 0, 0, 0), (57, .istore 5, 2, 0, 0, 0, 0), (59, .iload 5, 2, 0, 0, 0, 0), (61, .iload_n 3, 1, 0, 0, 0, 0), (62, .if_icmp .gt 6, 3, 0, 68, 0, 0), (65, .goto 9, 3, 0, 74, 0, 0), (68, .iload 4, 2, 0, 0, 0, 0), (70, .istore_n 2, 1, 0, 0, 0, 0), (71, .iload 5, 2, 0, 0, 0, 0), (73, .istore_n 3, 1, 0, 0, 0, 0), (74, .iinc 4 1, 3, 1, 0, 0, 0), (77, .goto (-52), 3, 0, 25, 0, 0), (80, .iload_n 1, 1, 0, 0, 0, 0), (81, .ifCond .ne 7, 3, 0, 88, 0, 0), (84, .iload_n 2, 1, 0, 0, 0, 0), (85, .goto 4, 3, 0, 89, 0, 0), (88, .iload_n 3, 1, 0, 0, 0, 0), (89, .ireturn, 1, 0, 0, 0, 0)]
abbrev Y6_worst : MethodName := ⟨"GingerArmyModel", "worst", "(I)I"⟩
abbrev M6_worst : MethT := (6, C6_worst, prog_8_method_65_code, 6, (some .int), Y6_worst)
abbrev C6_safe : List CE := [(0, .aload_n 0, 1, 0, 0, 0, 0), (1, .iload_n 1, 1, 0, 0, 0, 0), (2, .invokevirtual 105, 3, 0, 0, 0, 0), (5, .ifCond .ne 7, 3, 0, 12, 0, 0), (8, .iconst (-1), 1, -1, 0, 0, 0), (9, .goto 7, 3, 0, 16, 0, 0), (12, .iload_n 2, 1, 0, 0, 0, 0), (13, .invokestatic 209, 3, 0, 0, 0, 0), (16, .istore_n 3, 1, 0, 0, 0, 0), (17, .iload_n 3, 1, 0, 0, 0, 0), (18, .ifCond .ne 14, 3, 0, 32, 0, 0), (21, .aload_n 0, 1, 0, 0, 0, 0), (22, .iload_n 1, 1, 0, 0, 0, 0), (23, .invokevirtual 108, 3, 0, 0, 0, 0), (26, .ifCond .ne 6, 3, 0, 32, 0, 0), (29, .bipush (-3), 2, -3, 0, 0, 0), (31, .istore_n 3, 1, 0, 0, 0, 0), (32, .iload_n 3, 1, 0, 0, 0, 0), (33, .ifCond .eq 9, 3, 0, 42, 0, 0), (36, .aload_n 0, 1, 0, 0, 0, 0), (37, .iload_n 3, 1, 0, 0, 0, 0), (38, .invokevirtual 69, 3, 0, 0, 0, 0), (41, .ireturn, 1, 0, 0, 0, 0), (42, .aload_n 0, 1, 0, 0, 0, 0), (43, .getfield 19, 3, 0, 5, 3, 0), (46, .iload_n 1, 1, 0, 0, 0, 0), (47, .iaload, 1, 0, 0, 0, 0), (48, .istore 4, 2, 0, 0, 0, 0), (50, .bipush (-9), 2, -9, 0, 0, 0), (52, .istore 5, 2, 0, 0, 0, 0), (54, .bipush (-9), 2, -9, 0, 0, 0), (56, .istore 6, 2, 0, 0, 0, 0), (58, .iconst 0, 1, 0, 0, 0, 0), (59, .istore 7, 2, 0, 0, 0, 0), (61, .iload 7, 2, 0, 0, 0, 0), (63, .bipush 15, 2, 15, 0, 0, 0), (65, .if_icmp .ge 69, 3, 0, 134, 0, 0), (68, .aload_n 0, 1, 0, 0, 0, 0), (69, .getfield 19, 3, 0, 5, 3, 0), (72, .iload_n 1, 1, 0, 0, 0, 0), (73, .iload 4, 2, 0, 0, 0, 0), (75, .iastore, 1, 0, 0, 0, 0), (76, .aload_n 0, 1, 0, 0, 0, 0), (77, .iload 7, 2, 0, 0, 0, 0), (79, .invokevirtual 98, 3, 0, 0, 0, 0), (82, .ifCond .lt 13, 3, 0, 95, 0, 0), (85, .iload 7, 2, 0, 0, 0, 0), (87, .iload 4, 2, 0, 0, 0, 0), (89, .if_icmp .eq 6, 3, 0, 95, 0, 0), (92, .goto 36, 3, 0, 128, 0, 0), (95, .aload_n 0, 1, 0, 0, 0, 0), (96, .getfield 19, 3, 0, 5, 3, 0), (99, .iload_n 1, 1, 0, 0, 0, 0), (100, .iload 7, 2, 0, 0, 0, 0), (102, .iastore, 1, 0, 0, 0, 0), (103, .aload_n 0, 1, 0, 0, 0, 0), (104, .iload_n 2, 1, 0, 0, 0, 0), (105, .invokevirtual 228, 3, 0, 0, 0, 0), (108, .istore 8, 2, 0, 0, 0, 0), (110, .iload 8, 2, 0, 0, 0, 0), (112, .iload 6, 2, 0, 0, 0, 0), (114, .if_icmp .gt 6, 3, 0, 120, 0, 0), (117, .goto 11, 3, 0, 128, 0, 0), (120, .iload 7, 2, 0, 0, 0, 0), (122, .istore 5, 2, 0, 0, 0, 0), (124, .iload 8, 2, 0, 0, 0, 0), (126, .istore 6, 2, 0, 0, 0, 0), (128, .iinc 7 1, 3, 1, 0, 0, 0), (131, .goto (-70), 3, 0, 61, 0, 0), (134, .aload_n 0, 1, 0, 0, 0, 0), (135, .getfield 19, 3, 0, 5, 3, 0), (138, .iload_n 1, 1, 0, 0, 0, 0), (139, .iload 4, 2, 0, 0, 0, 0), (141, .iastore, 1, 0, 0, 0, 0), (142, .iload 5, 2, 0, 0, 0, 0), (144, .ireturn, 1, 0, 0, 0, 0)]
abbrev Y6_safe : MethodName := ⟨"GingerArmyModel", "safe", "(II)I"⟩
abbrev M6_safe : MethT := (6, C6_safe, prog_8_method_66_code, 9, (some .int), Y6_safe)
abbrev C6_towel : List CE := [(0, .iload_n 1, 1, 0, 0, 0, 0), (1, .invokestatic 209, 3, 0, 0, 0, 0), (4, .istore_n 2, 1, 0, 0, 0, 0), (5, .iload_n 2, 1, 0, 0, 0, 0), (6, .ifCond .eq 9, 3, 0, 15, 0, 0), (9, .aload_n 0, 1, 0, 0, 0, 0), (10, .iload_n 2, 1, 0, 0, 0, 0), (11, .invokevirtual 69, 3, 0, 0, 0, 0), (14, .ireturn, 1, 0, 0, 0, 0), (15, .bipush (-9), 2, -9, 0, 0, 0), (17, .istore_n 3, 1, 0, 0, 0, 0), (18, .aload_n 0, 1, 0, 0, 0, 0), (19, .iload_n 1, 1, 0, 0, 0, 0), (20, .invokevirtual 228, 3, 0, 0, 0, 0), (23, .istore 4, 2, 0, 0, 0, 0), (25, .iconst 0, 1, 0, 0, 0, 0), (26, .istore 5, 2, 0, 0, 0, 0), (28, .iload 5, 2, 0, 0, 0, 0), (30, .aload_n 0, 1, 0, 0, 0, 0), (31, .getfield 59, 3, 0, 5, 7, 0), (34, .if_icmp .ge 59, 3, 0, 93, 0, 0), (37, .aload_n 0, 1, 0, 0, 0, 0), (38, .getfield 28, 3, 0, 5, 6, 0), (41, .iload 5, 2, 0, 0, 0, 0), (43, .iaload, 1, 0, 0, 0, 0), (44, .istore 6, 2, 0, 0, 0, 0), (46, .aload_n 0, 1, 0, 0, 0, 0), (47, .getfield 28, 3, 0, 5, 6, 0), (50, .iload 5, 2, 0, 0, 0, 0), (52, .iconst 1, 1, 1, 0, 0, 0), (53, .iastore, 1, 0, 0, 0, 0), (54, .aload_n 0, 1, 0, 0, 0, 0), (55, .iload_n 1, 1, 0, 0, 0, 0), (56, .invokevirtual 228, 3, 0, 0, 0, 0), (59, .istore 7, 2, 0, 0, 0, 0), (61, .aload_n 0, 1, 0, 0, 0, 0), (62, .getfield 28, 3, 0, 5, 6, 0), (65, .iload 5, 2, 0, 0, 0, 0), (67, .iload 6, 2, 0, 0, 0, 0), (69, .iastore, 1, 0, 0, 0, 0), (70, .iload 7, 2, 0, 0, 0, 0), (72, .iload 4, 2, 0, 0, 0, 0), (74, .if_icmp .gt 6, 3, 0, 80, 0, 0), (77, .goto 10, 3, 0, 87, 0, 0), (80, .iload 5, 2, 0, 0, 0, 0), (82, .istore_n 3, 1, 0, 0, 0, 0), (83, .iload 7, 2, 0, 0, 0, 0), (85, .istore 4, 2, 0, 0, 0, 0), (87, .iinc 5 1, 3, 1, 0, 0, 0), (90, .goto (-62), 3, 0, 28, 0, 0), (93, .iload_n 3, 1, 0, 0, 0, 0), (94, .ireturn, 1, 0, 0, 0, 0)]
abbrev Y6_towel : MethodName := ⟨"GingerArmyModel", "towel", "(I)I"⟩
abbrev M6_towel : MethT := (6, C6_towel, prog_8_method_67_code, 8, (some .int), Y6_towel)
abbrev C6_leftFed : List CE := [(0, .aload_n 0, 1, 0, 0, 0, 0), (1, .getfield 52, 3, 0, 5, 8, 0), (4, .istore_n 3, 1, 0, 0, 0, 0), (5, .aload_n 0, 1, 0, 0, 0, 0), (6, .iload_n 1, 1, 0, 0, 0, 0), (7, .putfield 52, 3, 0, 5, 8, 0), (10, .aload_n 0, 1, 0, 0, 0, 0), (11, .iload_n 2, 1, 0, 0, 0, 0), (12, .invokevirtual 228, 3, 0, 0, 0, 0), (15, .istore 4, 2, 0, 0, 0, 0), (17, .aload_n 0, 1, 0, 0, 0, 0), (18, .iload_n 3, 1, 0, 0, 0, 0), (19, .putfield 52, 3, 0, 5, 8, 0), (22, .iload 4, 2, 0, 0, 0, 0), (24, .ireturn, 1, 0, 0, 0, 0)]
abbrev Y6_leftFed : MethodName := ⟨"GingerArmyModel", "leftFed", "(II)I"⟩
abbrev M6_leftFed : MethT := (6, C6_leftFed, prog_8_method_68_code, 5, (some .int), Y6_leftFed)
abbrev C6_spoon : List CE := [(0, .iload_n 1, 1, 0, 0, 0, 0), (1, .invokestatic 209, 3, 0, 0, 0, 0), (4, .istore_n 3, 1, 0, 0, 0, 0), (5, .iload_n 3, 1, 0, 0, 0, 0), (6, .ifCond .ne 15, 3, 0, 21, 0, 0), (9, .iload_n 2, 1, 0, 0, 0, 0), (10, .iconst 0, 1, 0, 0, 0, 0), (11, .iconst 1, 1, 1, 0, 0, 0), (12, .invokestatic 80, 3, 0, 0, 0, 0), (15, .ifCond .ne 6, 3, 0, 21, 0, 0), (18, .bipush (-2), 2, -2, 0, 0, 0), (20, .istore_n 3, 1, 0, 0, 0, 0), (21, .iload_n 3, 1, 0, 0, 0, 0), (22, .ifCond .eq 9, 3, 0, 31, 0, 0), (25, .aload_n 0, 1, 0, 0, 0, 0), (26, .iload_n 3, 1, 0, 0, 0, 0), (27, .invokevirtual 69, 3, 0, 0, 0, 0), (30, .ireturn, 1, 0, 0, 0, 0), (31, .iconst 0, 1, 0, 0, 0, 0), (32, .istore 4, 2, 0, 0, 0, 0), (34, .iconst 1, 1, 1, 0, 0, 0), (35, .istore 5, 2, 0, 0, 0, 0), (37, .iload 5, 2, 0, 0, 0, 0), (39, .bipush 10, 2, 10, 0, 0, 0), (41, .if_icmp .ge 35, 3, 0, 76, 0, 0), (44, .aload_n 0, 1, 0, 0, 0, 0), (45, .iload 5, 2, 0, 0, 0, 0), (47, .iload_n 1, 1, 0, 0, 0, 0), (48, .invokevirtual 231, 3, 0, 0, 0, 0), (51, .aload_n 0, 1, 0, 0, 0, 0), (52, .iload 4, 2, 0, 0, 0, 0), (54, .iload_n 1, 1, 0, 0, 0, 0), (55, .invokevirtual 231, 3, 0, 0, 0, 0), (58, .if_icmp .lt 8, 3, 0, 66, 0, 0), (61, .iload 5, 2, 0, 0, 0, 0), (63, .goto 5, 3, 0, 68, 0, 0), (66, .iload 4, 2, 0, 0, 0, 0), (68, .istore 4, 2, 0, 0, 0, 0), (70, .iinc 5 1, 3, 1, 0, 0, 0), (73, .goto (-36), 3, 0, 37, 0, 0), (76, .iload_n 2, 1, 0, 0, 0, 0), (77, .ifCond .ne 8, 3, 0, 85, 0, 0), (80, .iload 4, 2, 0, 0, 0, 0), (82, .goto 10, 3, 0, 92, 0, 0), (85, .aload_n 0, 1, 0, 0, 0, 0), (86, .iload 4, 2, 0, 0, 0, 0), (88, .iload_n 1, 1, 0, 0, 0, 0), (89, .invokevirtual 231, 3, 0, 0, 0, 0), (92, .ireturn, 1, 0, 0, 0, 0)]
abbrev Y6_spoon : MethodName := ⟨"GingerArmyModel", "spoon", "(II)I"⟩
abbrev M6_spoon : MethT := (6, C6_spoon, prog_8_method_69_code, 6, (some .int), Y6_spoon)
abbrev C6_out : List CE := [(0, .iload_n 1, 1, 0, 0, 0, 0), (1, .invokestatic 209, 3, 0, 0, 0, 0), (4, .istore_n 2, 1, 0, 0, 0, 0), (5, .iload_n 2, 1, 0, 0, 0, 0), (6, .ifCond .eq 9, 3, 0, 15, 0, 0), (9, .aload_n 0, 1, 0, 0, 0, 0), (10, .iload_n 2, 1, 0, 0, 0, 0), (11, .invokevirtual 69, 3, 0, 0, 0, 0), (14, .ireturn, 1, 0, 0, 0, 0), (15, .bipush (-9), 2, -9, 0, 0, 0), (17, .istore_n 3, 1, 0, 0, 0, 0), (18, .aload_n 0, 1, 0, 0, 0, 0), (19, .iload_n 1, 1, 0, 0, 0, 0), (20, .invokevirtual 228, 3, 0, 0, 0, 0), (23, .istore 4, 2, 0, 0, 0, 0), (25, .iconst 0, 1, 0, 0, 0, 0), (26, .istore 5, 2, 0, 0, 0, 0), (28, .iload 5, 2, 0, 0, 0, 0), (30, .aload_n 0, 1, 0, 0, 0, 0), (31, .getfield 59, 3, 0, 5, 7, 0), (34, .if_icmp .ge 71, 3, 0, 105, 0, 0), (37, .aload_n 0, 1, 0, 0, 0, 0), (38, .iload 5, 2, 0, 0, 0, 0), (40, .invokevirtual 108, 3, 0, 0, 0, 0), (43, .ifCond .ne 6, 3, 0, 49, 0, 0), (46, .goto 53, 3, 0, 99, 0, 0), (49, .aload_n 0, 1, 0, 0, 0, 0), (50, .getfield 22, 3, 0, 5, 4, 0), (53, .iload 5, 2, 0, 0, 0, 0), (55, .iaload, 1, 0, 0, 0, 0), (56, .istore 6, 2, 0, 0, 0, 0), (58, .aload_n 0, 1, 0, 0, 0, 0), (59, .getfield 22, 3, 0, 5, 4, 0), (62, .iload 5, 2, 0, 0, 0, 0), (64, .iconst 0, 1, 0, 0, 0, 0), (65, .iastore, 1, 0, 0, 0, 0), (66, .aload_n 0, 1, 0, 0, 0, 0), (67, .iload_n 1, 1, 0, 0, 0, 0), (68, .invokevirtual 228, 3, 0, 0, 0, 0), (71, .istore 7, 2, 0, 0, 0, 0), (73, .aload_n 0, 1, 0, 0, 0, 0), (74, .getfield 22, 3, 0, 5, 4, 0), (77, .iload 5, 2, 0, 0, 0, 0), (79, .iload 6, 2, 0, 0, 0, 0), (81, .iastore, 1, 0, 0, 0, 0), (82, .iload 7, 2, 0, 0, 0, 0), (84, .iload 4, 2, 0, 0, 0, 0), (86, .if_icmp .gt 6, 3, 0, 92, 0, 0), (89, .goto 10, 3, 0, 99, 0, 0), (92, .iload 5, 2, 0, 0, 0, 0), (94, .istore_n 3, 1, 0, 0, 0, 0), (95, .iload 7, 2, 0, 0, 0, 0), (97, .istore 4, 2, 0, 0, 0, 0), (99, .iinc 5 1, 3, 1, 0, 0, 0), (102, .goto (-74), 3, 0, 28, 0, 0), (105, .iload_n 3, 1, 0, 0, 0, 0), (106, .ireturn, 1, 0, 0, 0, 0)]
abbrev Y6_out : MethodName := ⟨"GingerArmyModel", "out", "(I)I"⟩
abbrev M6_out : MethT := (6, C6_out, prog_8_method_70_code, 8, (some .int), Y6_out)
abbrev C6_isReady : List CE := [(0, .aload_n 0, 1, 0, 0, 0, 0), (1, .iload_n 1, 1, 0, 0, 0, 0), (2, .invokevirtual 108, 3, 0, 0, 0, 0), (5, .ifCond .eq 17, 3, 0, 22, 0, 0), (8, .aload_n 0, 1, 0, 0, 0, 0), (9, .getfield 22, 3, 0, 5, 4, 0), (12, .iload_n 1, 1, 0, 0, 0, 0), (13, .iaload, 1, 0, 0, 0, 0), (14, .iload_n 2, 1, 0, 0, 0, 0), (15, .if_icmp .lt 7, 3, 0, 22, 0, 0), (18, .iconst 1, 1, 1, 0, 0, 0), (19, .goto 4, 3, 0, 23, 0, 0), (22, .iconst 0, 1, 0, 0, 0, 0), (23, .ireturn, 1, 0, 0, 0, 0)]
abbrev Y6_isReady : MethodName := ⟨"GingerArmyModel", "isReady", "(II)Z"⟩
abbrev M6_isReady : MethT := (6, C6_isReady, prog_8_method_71_code, 3, (some .boolean), Y6_isReady)
abbrev C6_ready : List CE := [(0, .aload_n 0, 1, 0, 0, 0, 0), (1, .iload_n 1, 1, 0, 0, 0, 0), (2, .invokevirtual 105, 3, 0, 0, 0, 0), (5, .ifCond .ne 7, 3, 0, 12, 0, 0), (8, .iconst (-1), 1, -1, 0, 0, 0), (9, .goto 34, 3, 0, 43, 0, 0), (12, .iload_n 2, 1, 0, 0, 0, 0), (13, .ifCond .lt 7, 3, 0, 20, 0, 0), (16, .iload_n 3, 1, 0, 0, 0, 0), (17, .ifCond .ge 8, 3, 0, 25, 0, 0), (20, .bipush (-4), 2, -4, 0, 0, 0), (22, .goto 21, 3, 0, 43, 0, 0), (25, .iload_n 2, 1, 0, 0, 0, 0), (26, .bipush 99, 2, 99, 0, 0, 0), (28, .if_icmp .gt 9, 3, 0, 37, 0, 0), (31, .iload_n 3, 1, 0, 0, 0, 0), (32, .bipush 60, 2, 60, 0, 0, 0), (34, .if_icmp .le 8, 3, 0, 42, 0, 0), (37, .bipush (-6), 2, -6, 0, 0, 0), (39, .goto 4, 3, 0, 43, 0, 0), (42, .iconst 0, 1, 0, 0, 0, 0), (43, .istore 4, 2, 0, 0, 0, 0), (45, .iload 4, 2, 0, 0, 0, 0), (47, .ifCond .eq 10, 3, 0, 57, 0, 0), (50, .aload_n 0, 1, 0, 0, 0, 0), (51, .iload 4, 2, 0, 0, 0, 0), (53, .invokevirtual 69, 3, 0, 0, 0, 0), (56, .ireturn, 1, 0, 0, 0, 0), (57, .iconst 0, 1, 0, 0, 0, 0), (58, .istore 5, 2, 0, 0, 0, 0), (60, .iload 5, 2, 0, 0, 0, 0), (62, .bipush 10, 2, 10, 0, 0, 0), (64, .if_icmp .ge 44, 3, 0, 108, 0, 0), (67, .aload_n 0, 1, 0, 0, 0, 0), (68, .invokevirtual 203, 3, 0, 0, 0, 0), (71, .aload_n 0, 1, 0, 0, 0, 0), (72, .iload 5, 2, 0, 0, 0, 0), (74, .putfield 52, 3, 0, 5, 8, 0), (77, .aload_n 0, 1, 0, 0, 0, 0), (78, .iload_n 3, 1, 0, 0, 0, 0), (79, .invokevirtual 114, 3, 0, 0, 0, 0), (82, .aload_n 0, 1, 0, 0, 0, 0), (83, .iload_n 1, 1, 0, 0, 0, 0), (84, .iload_n 2, 1, 0, 0, 0, 0), (85, .invokevirtual 234, 3, 0, 0, 0, 0), (88, .istore 6, 2, 0, 0, 0, 0), (90, .aload_n 0, 1, 0, 0, 0, 0), (91, .invokevirtual 206, 3, 0, 0, 0, 0), (94, .iload 6, 2, 0, 0, 0, 0), (96, .ifCond .eq 6, 3, 0, 102, 0, 0), (99, .iload 5, 2, 0, 0, 0, 0), (101, .ireturn, 1, 0, 0, 0, 0), (102, .iinc 5 1, 3, 1, 0, 0, 0), (105, .goto (-45), 3, 0, 60, 0, 0), (108, .bipush (-9), 2, -9, 0, 0, 0), (110, .ireturn, 1, 0, 0, 0, 0)]
abbrev Y6_ready : MethodName := ⟨"GingerArmyModel", "ready", "(III)I"⟩
abbrev M6_ready : MethT := (6, C6_ready, prog_8_method_72_code, 7, (some .int), Y6_ready)
abbrev C6_isReadyFed : List CE := [(0, .aload_n 0, 1, 0, 0, 0, 0), (1, .invokevirtual 203, 3, 0, 0, 0, 0), (4, .aload_n 0, 1, 0, 0, 0, 0), (5, .iload_n 1, 1, 0, 0, 0, 0), (6, .iload_n 2, 1, 0, 0, 0, 0), (7, .invokevirtual 234, 3, 0, 0, 0, 0), (10, .istore 4, 2, 0, 0, 0, 0), (12, .iconst 0, 1, 0, 0, 0, 0), (13, .istore 5, 2, 0, 0, 0, 0), (15, .iload 5, 2, 0, 0, 0, 0), (17, .bipush 30, 2, 30, 0, 0, 0), (19, .if_icmp .ge 42, 3, 0, 61, 0, 0), (22, .iload 4, 2, 0, 0, 0, 0), (24, .ifCond .ne 37, 3, 0, 61, 0, 0), (27, .aload_n 0, 1, 0, 0, 0, 0), (28, .iload 5, 2, 0, 0, 0, 0), (30, .iload_n 3, 1, 0, 0, 0, 0), (31, .if_icmp .ge 8, 3, 0, 39, 0, 0), (34, .bipush 9, 2, 9, 0, 0, 0), (36, .goto 4, 3, 0, 40, 0, 0), (39, .iconst 0, 1, 0, 0, 0, 0), (40, .putfield 52, 3, 0, 5, 8, 0), (43, .aload_n 0, 1, 0, 0, 0, 0), (44, .invokevirtual 188, 3, 0, 0, 0, 0), (47, .aload_n 0, 1, 0, 0, 0, 0), (48, .iload_n 1, 1, 0, 0, 0, 0), (49, .iload_n 2, 1, 0, 0, 0, 0), (50, .invokevirtual 234, 3, 0, 0, 0, 0), (53, .istore 4, 2, 0, 0, 0, 0), (55, .iinc 5 1, 3, 1, 0, 0, 0), (58, .goto (-43), 3, 0, 15, 0, 0), (61, .aload_n 0, 1, 0, 0, 0, 0), (62, .invokevirtual 206, 3, 0, 0, 0, 0), (65, .iload 4, 2, 0, 0, 0, 0), (67, .ireturn, 1, 0, 0, 0, 0)]
abbrev Y6_isReadyFed : MethodName := ⟨"GingerArmyModel", "isReadyFed", "(III)Z"⟩
abbrev M6_isReadyFed : MethT := (6, C6_isReadyFed, prog_8_method_73_code, 6, (some .boolean), Y6_isReadyFed)
abbrev C6_feedFor : List CE := [(0, .aload_n 0, 1, 0, 0, 0, 0), (1, .iload_n 1, 1, 0, 0, 0, 0), (2, .invokevirtual 105, 3, 0, 0, 0, 0), (5, .ifCond .ne 7, 3, 0, 12, 0, 0), (8, .iconst (-1), 1, -1, 0, 0, 0), (9, .goto 10, 3, 0, 19, 0, 0), (12, .iload_n 2, 1, 0, 0, 0, 0), (13, .iconst 0, 1, 0, 0, 0, 0), (14, .bipush 99, 2, 99, 0, 0, 0), (16, .invokestatic 62, 3, 0, 0, 0, 0), (19, .istore_n 3, 1, 0, 0, 0, 0), (20, .iload_n 3, 1, 0, 0, 0, 0), (21, .ifCond .eq 9, 3, 0, 30, 0, 0), (24, .aload_n 0, 1, 0, 0, 0, 0), (25, .iload_n 3, 1, 0, 0, 0, 0), (26, .invokevirtual 69, 3, 0, 0, 0, 0), (29, .ireturn, 1, 0, 0, 0, 0), (30, .iconst 0, 1, 0, 0, 0, 0), (31, .istore 4, 2, 0, 0, 0, 0), (33, .iload 4, 2, 0, 0, 0, 0), (35, .bipush 30, 2, 30, 0, 0, 0), (37, .if_icmp .gt 23, 3, 0, 60, 0, 0), (40, .aload_n 0, 1, 0, 0, 0, 0), (41, .iload_n 1, 1, 0, 0, 0, 0), (42, .iload_n 2, 1, 0, 0, 0, 0), (43, .iload 4, 2, 0, 0, 0, 0), (45, .invokevirtual 237, 3, 0, 0, 0, 0), (48, .ifCond .eq 6, 3, 0, 54, 0, 0), (51, .iload 4, 2, 0, 0, 0, 0), (53, .ireturn, 1, 0, 0, 0, 0), (54, .iinc 4 1, 3, 1, 0, 0, 0), (57, .goto (-24), 3, 0, 33, 0, 0), (60, .bipush (-9), 2, -9, 0, 0, 0), (62, .ireturn, 1, 0, 0, 0, 0)]
abbrev Y6_feedFor : MethodName := ⟨"GingerArmyModel", "feedFor", "(II)I"⟩
abbrev M6_feedFor : MethT := (6, C6_feedFor, prog_8_method_74_code, 5, (some .int), Y6_feedFor)
abbrev C6_movesTwo : List CE := [(0, .aload_n 0, 1, 0, 0, 0, 0), (1, .getfield 19, 3, 0, 5, 3, 0), (4, .iload_n 1, 1, 0, 0, 0, 0), (5, .iaload, 1, 0, 0, 0, 0), (6, .istore_n 3, 1, 0, 0, 0, 0), (7, .aload_n 0, 1, 0, 0, 0, 0), (8, .getfield 19, 3, 0, 5, 3, 0), (11, .iload_n 1, 1, 0, 0, 0, 0), (12, .aload_n 0, 1, 0, 0, 0, 0), (13, .getfield 19, 3, 0, 5, 3, 0), (16, .iload_n 2, 1, 0, 0, 0, 0), (17, .iaload, 1, 0, 0, 0, 0), (18, .iastore, 1, 0, 0, 0, 0), (19, .aload_n 0, 1, 0, 0, 0, 0), (20, .getfield 19, 3, 0, 5, 3, 0), (23, .iload_n 2, 1, 0, 0, 0, 0), (24, .iload_n 3, 1, 0, 0, 0, 0), (25, .iastore, 1, 0, 0, 0, 0), (26, .return_, 1, 0, 0, 0, 0)]
abbrev Y6_movesTwo : MethodName := ⟨"GingerArmyModel", "movesTwo", "(II)V"⟩
abbrev M6_movesTwo : MethT := (6, C6_movesTwo, prog_8_method_75_code, 4, none, Y6_movesTwo)
abbrev C6_move : List CE := [(0, .iload_n 1, 1, 0, 0, 0, 0), (1, .invokestatic 209, 3, 0, 0, 0, 0), (4, .istore_n 2, 1, 0, 0, 0, 0), (5, .iload_n 2, 1, 0, 0, 0, 0), (6, .ifCond .eq 9, 3, 0, 15, 0, 0), (9, .aload_n 0, 1, 0, 0, 0, 0), (10, .iload_n 2, 1, 0, 0, 0, 0), (11, .invokevirtual 69, 3, 0, 0, 0, 0), (14, .ireturn, 1, 0, 0, 0, 0), (15, .bipush (-9), 2, -9, 0, 0, 0), (17, .istore_n 3, 1, 0, 0, 0, 0), (18, .aload_n 0, 1, 0, 0, 0, 0), (19, .iload_n 1, 1, 0, 0, 0, 0), (20, .invokevirtual 228, 3, 0, 0, 0, 0), (23, .istore 4, 2, 0, 0, 0, 0), (25, .iconst 0, 1, 0, 0, 0, 0), (26, .istore 5, 2, 0, 0, 0, 0), (28, .iload 5, 2, 0, 0, 0, 0), (30, .aload_n 0, 1, 0, 0, 0, 0), (31, .getfield 59, 3, 0, 5, 7, 0), (34, .if_icmp .ge 97, 3, 0, 131, 0, 0), (37, .iload 5, 2, 0, 0, 0, 0), (39, .iconst 1, 1, 1, 0, 0, 0), (40, .iadd, 1, 0, 0, 0, 0), (41, .istore 6, 2, 0, 0, 0, 0), (43, .iload 6, 2, 0, 0, 0, 0), (45, .aload_n 0, 1, 0, 0, 0, 0), (46, .getfield 59, 3, 0, 5, 7, 0), (49, .if_icmp .ge 76, 3, 0, 125, 0, 0), (52, .aload_n 0, 1, 0, 0, 0, 0), (53, .iload 5, 2, 0, 0, 0, 0), (55, .invokevirtual 108, 3, 0, 0, 0, 0), (58, .ifCond .eq 61, 3, 0, 119, 0, 0), (61, .aload_n 0, 1, 0, 0, 0, 0), (62, .iload 6, 2, 0, 0, 0, 0), (64, .invokevirtual 108, 3, 0, 0, 0, 0), (67, .ifCond .ne 6, 3, 0, 73, 0, 0), (70, .goto 49, 3, 0, 119, 0, 0), (73, .aload_n 0, 1, 0, 0, 0, 0), (74, .iload 5, 2, 0, 0, 0, 0), (76, .iload 6, 2, 0, 0, 0, 0), (78, .invokevirtual 240, 3, 0, 0, 0, 0), (81, .aload_n 0, 1, 0, 0, 0, 0), (82, .iload_n 1, 1, 0, 0, 0, 0), (83, .invokevirtual 228, 3, 0, 0, 0, 0), (86, .istore 7, 2, 0, 0, 0, 0), (88, .aload_n 0, 1, 0, 0, 0, 0), (89, .iload 5, 2, 0, 0, 0, 0), (91, .iload 6, 2, 0, 0, 0, 0), (93, .invokevirtual 240, 3, 0, 0, 0, 0), (96, .iload 7, 2, 0, 0, 0, 0), (98, .iload 4, 2, 0, 0, 0, 0), (100, .if_icmp .gt 6, 3, 0, 106, 0, 0), (103, .goto 16, 3, 0, 119, 0, 0), (106, .bipush 10, 2, 10, 0, 0, 0), (108, .iload 5, 2, 0, 0, 0, 0), (110, .imul, 1, 0, 0, 0, 0), (111, .iload 6, 2, 0, 0, 0, 0), (113, .iadd, 1, 0, 0, 0, 0), (114, .istore_n 3, 1, 0, 0, 0, 0), (115, .iload 7, 2, 0, 0, 0, 0), (117, .istore 4, 2, 0, 0, 0, 0), (119, .iinc 6 1, 3, 1, 0, 0, 0), (122, .goto (-79), 3, 0, 43, 0, 0), (125, .iinc 5 1, 3, 1, 0, 0, 0), (128, .goto (-100), 3, 0, 28, 0, 0), (131, .iload_n 3, 1, 0, 0, 0, 0), (132, .ireturn, 1, 0, 0, 0, 0)]
abbrev Y6_move : MethodName := ⟨"GingerArmyModel", "move", "(I)I"⟩
abbrev M6_move : MethT := (6, C6_move, prog_8_method_76_code, 8, (some .int), Y6_move)
abbrev C6_halved : List CE := [(0, .aload_n 0, 1, 0, 0, 0, 0), (1, .invokevirtual 203, 3, 0, 0, 0, 0), (4, .aload_n 0, 1, 0, 0, 0, 0), (5, .invokevirtual 197, 3, 0, 0, 0, 0), (8, .istore_n 1, 1, 0, 0, 0, 0), (9, .bipush (-9), 2, -9, 0, 0, 0), (11, .istore_n 2, 1, 0, 0, 0, 0), (12, .iconst 1, 1, 1, 0, 0, 0), (13, .istore_n 3, 1, 0, 0, 0, 0), (14, .iload_n 3, 1, 0, 0, 0, 0), (15, .bipush 60, 2, 60, 0, 0, 0), (17, .if_icmp .gt 83, 3, 0, 100, 0, 0), (20, .iload_n 2, 1, 0, 0, 0, 0), (21, .ifCond .ge 79, 3, 0, 100, 0, 0), (24, .iconst 0, 1, 0, 0, 0, 0), (25, .istore 4, 2, 0, 0, 0, 0), (27, .iload 4, 2, 0, 0, 0, 0), (29, .aload_n 0, 1, 0, 0, 0, 0), (30, .getfield 59, 3, 0, 5, 7, 0), (33, .if_icmp .ge 42, 3, 0, 75, 0, 0), (36, .aload_n 0, 1, 0, 0, 0, 0), (37, .getfield 22, 3, 0, 5, 4, 0), (40, .iload 4, 2, 0, 0, 0, 0), (42, .iload_n 3, 1, 0, 0, 0, 0), (43, .bipush 7, 2, 7, 0, 0, 0), (45, .irem, 1, 0, 0, 0, 0), (46, .ifCond .ne 15, 3, 0, 61, 0, 0), (49, .aload_n 0, 1, 0, 0, 0, 0), (50, .getfield 22, 3, 0, 5, 4, 0), (53, .iload 4, 2, 0, 0, 0, 0), (55, .iaload, 1, 0, 0, 0, 0), (56, .iconst 2, 1, 2, 0, 0, 0), (57, .idiv, 1, 0, 0, 0, 0), (58, .goto 10, 3, 0, 68, 0, 0), (61, .aload_n 0, 1, 0, 0, 0, 0), (62, .getfield 22, 3, 0, 5, 4, 0), (65, .iload 4, 2, 0, 0, 0, 0), (67, .iaload, 1, 0, 0, 0, 0), (68, .iastore, 1, 0, 0, 0, 0), (69, .iinc 4 1, 3, 1, 0, 0, 0), (72, .goto (-45), 3, 0, 27, 0, 0), (75, .aload_n 0, 1, 0, 0, 0, 0), (76, .invokevirtual 188, 3, 0, 0, 0, 0), (79, .aload_n 0, 1, 0, 0, 0, 0), (80, .invokevirtual 197, 3, 0, 0, 0, 0), (83, .iload_n 1, 1, 0, 0, 0, 0), (84, .if_icmp .ne 8, 3, 0, 92, 0, 0), (87, .bipush (-9), 2, -9, 0, 0, 0), (89, .goto 4, 3, 0, 93, 0, 0), (92, .iload_n 3, 1, 0, 0, 0, 0), (93, .istore_n 2, 1, 0, 0, 0, 0), (94, .iinc 3 1, 3, 1, 0, 0, 0), (97, .goto (-83), 3, 0, 14, 0, 0), (100, .aload_n 0, 1, 0, 0, 0, 0), (101, .invokevirtual 206, 3, 0, 0, 0, 0), (104, .iload_n 2, 1, 0, 0, 0, 0), (105, .ireturn, 1, 0, 0, 0, 0)]
abbrev Y6_halved : MethodName := ⟨"GingerArmyModel", "halved", "()I"⟩
abbrev M6_halved : MethT := (6, C6_halved, prog_8_method_77_code, 5, (some .int), Y6_halved)
abbrev C6_isLeftSo : List CE := [(0, .aload_n 0, 1, 0, 0, 0, 0), (1, .invokevirtual 203, 3, 0, 0, 0, 0), (4, .aload_n 0, 1, 0, 0, 0, 0), (5, .iload_n 1, 1, 0, 0, 0, 0), (6, .invokevirtual 179, 3, 0, 0, 0, 0), (9, .aload_n 0, 1, 0, 0, 0, 0), (10, .invokevirtual 185, 3, 0, 0, 0, 0), (13, .iconst 1, 1, 1, 0, 0, 0), (14, .istore_n 2, 1, 0, 0, 0, 0), (15, .iconst 0, 1, 0, 0, 0, 0), (16, .istore_n 3, 1, 0, 0, 0, 0), (17, .iload_n 3, 1, 0, 0, 0, 0), (18, .aload_n 0, 1, 0, 0, 0, 0), (19, .getfield 244, 3, 0, 5, 24, 0), (22, .if_icmp .ge 39, 3, 0, 61, 0, 0), (25, .iload_n 2, 1, 0, 0, 0, 0), (26, .ifCond .eq 35, 3, 0, 61, 0, 0), (29, .aload_n 0, 1, 0, 0, 0, 0), (30, .invokevirtual 197, 3, 0, 0, 0, 0), (33, .invokestatic 200, 3, 0, 0, 0, 0), (36, .aload_n 0, 1, 0, 0, 0, 0), (37, .getfield 46, 3, 0, 5, 23, 0), (40, .iload_n 3, 1, 0, 0, 0, 0), (41, .iaload, 1, 0, 0, 0, 0), (42, .if_icmp .ne 7, 3, 0, 49, 0, 0), (45, .iconst 1, 1, 1, 0, 0, 0), (46, .goto 4, 3, 0, 50, 0, 0), (49, .iconst 0, 1, 0, 0, 0, 0), (50, .istore_n 2, 1, 0, 0, 0, 0), (51, .aload_n 0, 1, 0, 0, 0, 0), (52, .invokevirtual 188, 3, 0, 0, 0, 0), (55, .iinc 3 1, 3, 1, 0, 0, 0), (58, .goto (-41), 3, 0, 17, 0, 0), (61, .aload_n 0, 1, 0, 0, 0, 0), (62, .invokevirtual 206, 3, 0, 0, 0, 0), (65, .iload_n 2, 1, 0, 0, 0, 0), (66, .ireturn, 1, 0, 0, 0, 0)]
abbrev Y6_isLeftSo : MethodName := ⟨"GingerArmyModel", "isLeftSo", "(I)Z"⟩
abbrev M6_isLeftSo : MethT := (6, C6_isLeftSo, prog_8_method_78_code, 4, (some .boolean), Y6_isLeftSo)
abbrev C6_whoWent : List CE := [(0, .iconst 0, 1, 0, 0, 0, 0), (1, .istore_n 1, 1, 0, 0, 0, 0), (2, .iconst 0, 1, 0, 0, 0, 0), (3, .istore_n 2, 1, 0, 0, 0, 0), (4, .iload_n 2, 1, 0, 0, 0, 0), (5, .aload_n 0, 1, 0, 0, 0, 0), (6, .getfield 59, 3, 0, 5, 7, 0), (9, .if_icmp .ge 35, 3, 0, 44, 0, 0), (12, .iload_n 1, 1, 0, 0, 0, 0), (13, .aload_n 0, 1, 0, 0, 0, 0), (14, .iload_n 2, 1, 0, 0, 0, 0), (15, .invokevirtual 108, 3, 0, 0, 0, 0), (18, .ifCond .eq 17, 3, 0, 35, 0, 0), (21, .aload_n 0, 1, 0, 0, 0, 0), (22, .iload_n 2, 1, 0, 0, 0, 0), (23, .invokevirtual 247, 3, 0, 0, 0, 0), (26, .ifCond .eq 9, 3, 0, 35, 0, 0), (29, .iconst 1, 1, 1, 0, 0, 0), (30, .iload_n 2, 1, 0, 0, 0, 0), (31, .ishl, 1, 0, 0, 0, 0), (32, .goto 4, 3, 0, 36, 0, 0), (35, .iconst 0, 1, 0, 0, 0, 0), (36, .ior, 1, 0, 0, 0, 0), (37, .istore_n 1, 1, 0, 0, 0, 0), (38, .iinc 2 1, 3, 1, 0, 0, 0), (41, .goto (-37), 3, 0, 4, 0, 0), (44, .iload_n 1, 1, 0, 0, 0, 0), (45, .ireturn, 1, 0, 0, 0, 0)]
abbrev Y6_whoWent : MethodName := ⟨"GingerArmyModel", "whoWent", "()I"⟩
abbrev M6_whoWent : MethT := (6, C6_whoWent, prog_8_method_79_code, 3, (some .int), Y6_whoWent)
abbrev C6_isPressedSo : List CE := [(0, .aload_n 0, 1, 0, 0, 0, 0), (1, .invokevirtual 203, 3, 0, 0, 0, 0), (4, .iconst 1, 1, 1, 0, 0, 0), (5, .istore_n 2, 1, 0, 0, 0, 0), (6, .iconst 0, 1, 0, 0, 0, 0), (7, .istore_n 3, 1, 0, 0, 0, 0), (8, .iload_n 3, 1, 0, 0, 0, 0), (9, .aload_n 0, 1, 0, 0, 0, 0), (10, .getfield 244, 3, 0, 5, 24, 0), (13, .if_icmp .ge 38, 3, 0, 51, 0, 0), (16, .iload_n 2, 1, 0, 0, 0, 0), (17, .ifCond .eq 34, 3, 0, 51, 0, 0), (20, .aload_n 0, 1, 0, 0, 0, 0), (21, .getfield 22, 3, 0, 5, 4, 0), (24, .iload_n 1, 1, 0, 0, 0, 0), (25, .iaload, 1, 0, 0, 0, 0), (26, .aload_n 0, 1, 0, 0, 0, 0), (27, .getfield 46, 3, 0, 5, 23, 0), (30, .iload_n 3, 1, 0, 0, 0, 0), (31, .iaload, 1, 0, 0, 0, 0), (32, .if_icmp .ne 7, 3, 0, 39, 0, 0), (35, .iconst 1, 1, 1, 0, 0, 0), (36, .goto 4, 3, 0, 40, 0, 0), (39, .iconst 0, 1, 0, 0, 0, 0), (40, .istore_n 2, 1, 0, 0, 0, 0), (41, .aload_n 0, 1, 0, 0, 0, 0), (42, .invokevirtual 188, 3, 0, 0, 0, 0), (45, .iinc 3 1, 3, 1, 0, 0, 0), (48, .goto (-40), 3, 0, 8, 0, 0), (51, .aload_n 0, 1, 0, 0, 0, 0), (52, .invokevirtual 206, 3, 0, 0, 0, 0), (55, .iload_n 2, 1, 0, 0, 0, 0), (56, .ireturn, 1, 0, 0, 0, 0)]
abbrev Y6_isPressedSo : MethodName := ⟨"GingerArmyModel", "isPressedSo", "(I)Z"⟩
abbrev M6_isPressedSo : MethT := (6, C6_isPressedSo, prog_8_method_80_code, 4, (some .boolean), Y6_isPressedSo)
abbrev C6_bitsFor : List CE := [(0, .aload_n 1, 1, 0, 0, 0, 0), (1, .iload_n 2, 1, 0, 0, 0, 0), (2, .iaload, 1, 0, 0, 0, 0), (3, .istore 4, 2, 0, 0, 0, 0), (5, .iconst 0, 1, 0, 0, 0, 0), (6, .istore 5, 2, 0, 0, 0, 0), (8, .iconst 0, 1, 0, 0, 0, 0), (9, .istore 6, 2, 0, 0, 0, 0), (11, .iload 6, 2, 0, 0, 0, 0), (13, .iload_n 3, 1, 0, 0, 0, 0), (14, .if_icmp .ge 35, 3, 0, 49, 0, 0), (17, .aload_n 1, 1, 0, 0, 0, 0), (18, .iload_n 2, 1, 0, 0, 0, 0), (19, .iload 6, 2, 0, 0, 0, 0), (21, .iastore, 1, 0, 0, 0, 0), (22, .iload 5, 2, 0, 0, 0, 0), (24, .aload_n 0, 1, 0, 0, 0, 0), (25, .iload_n 2, 1, 0, 0, 0, 0), (26, .invokevirtual 250, 3, 0, 0, 0, 0), (29, .ifCond .eq 10, 3, 0, 39, 0, 0), (32, .iconst 1, 1, 1, 0, 0, 0), (33, .iload 6, 2, 0, 0, 0, 0), (35, .ishl, 1, 0, 0, 0, 0), (36, .goto 4, 3, 0, 40, 0, 0), (39, .iconst 0, 1, 0, 0, 0, 0), (40, .ior, 1, 0, 0, 0, 0), (41, .istore 5, 2, 0, 0, 0, 0), (43, .iinc 6 1, 3, 1, 0, 0, 0), (46, .goto (-35), 3, 0, 11, 0, 0), (49, .aload_n 1, 1, 0, 0, 0, 0), (50, .iload_n 2, 1, 0, 0, 0, 0), (51, .iload 4, 2, 0, 0, 0, 0), (53, .iastore, 1, 0, 0, 0, 0), (54, .iload 5, 2, 0, 0, 0, 0), (56, .ireturn, 1, 0, 0, 0, 0)]
abbrev Y6_bitsFor : MethodName := ⟨"GingerArmyModel", "bitsFor", "([III)I"⟩
abbrev M6_bitsFor : MethT := (6, C6_bitsFor, prog_8_method_81_code, 7, (some .int), Y6_bitsFor)
abbrev C6_whatKind : List CE := [(0, .aload_n 0, 1, 0, 0, 0, 0), (1, .iload_n 1, 1, 0, 0, 0, 0), (2, .invokevirtual 105, 3, 0, 0, 0, 0), (5, .ifCond .ne 7, 3, 0, 12, 0, 0), (8, .iconst (-1), 1, -1, 0, 0, 0), (9, .goto 18, 3, 0, 27, 0, 0), (12, .iload_n 2, 1, 0, 0, 0, 0), (13, .iconst 0, 1, 0, 0, 0, 0), (14, .iconst 1, 1, 1, 0, 0, 0), (15, .invokestatic 80, 3, 0, 0, 0, 0), (18, .ifCond .ne 8, 3, 0, 26, 0, 0), (21, .bipush (-2), 2, -2, 0, 0, 0), (23, .goto 4, 3, 0, 27, 0, 0), (26, .iconst 0, 1, 0, 0, 0, 0), (27, .istore_n 3, 1, 0, 0, 0, 0), (28, .iload_n 3, 1, 0, 0, 0, 0), (29, .ifCond .eq 9, 3, 0, 38, 0, 0), (32, .aload_n 0, 1, 0, 0, 0, 0), (33, .iload_n 3, 1, 0, 0, 0, 0), (34, .invokevirtual 69, 3, 0, 0, 0, 0), (37, .ireturn, 1, 0, 0, 0, 0), (38, .iload_n 2, 1, 0, 0, 0, 0), (39, .ifCond .ne 17, 3, 0, 56, 0, 0), (42, .aload_n 0, 1, 0, 0, 0, 0), (43, .aload_n 0, 1, 0, 0, 0, 0), (44, .getfield 13, 3, 0, 5, 1, 0), (47, .iload_n 1, 1, 0, 0, 0, 0), (48, .bipush 6, 2, 6, 0, 0, 0), (50, .invokevirtual 253, 3, 0, 0, 0, 0), (53, .goto 14, 3, 0, 67, 0, 0), (56, .aload_n 0, 1, 0, 0, 0, 0), (57, .aload_n 0, 1, 0, 0, 0, 0), (58, .getfield 16, 3, 0, 5, 2, 0), (61, .iload_n 1, 1, 0, 0, 0, 0), (62, .bipush 10, 2, 10, 0, 0, 0), (64, .invokevirtual 253, 3, 0, 0, 0, 0), (67, .ireturn, 1, 0, 0, 0, 0)]
abbrev Y6_whatKind : MethodName := ⟨"GingerArmyModel", "whatKind", "(II)I"⟩
abbrev M6_whatKind : MethT := (6, C6_whatKind, prog_8_method_82_code, 4, (some .int), Y6_whatKind)
abbrev C6_getsOf : List CE := [(0, .aload_n 0, 1, 0, 0, 0, 0), (1, .iload_n 1, 1, 0, 0, 0, 0), (2, .invokevirtual 108, 3, 0, 0, 0, 0), (5, .ifCond .eq 17, 3, 0, 22, 0, 0), (8, .iconst 5, 1, 5, 0, 0, 0), (9, .aload_n 0, 1, 0, 0, 0, 0), (10, .getfield 22, 3, 0, 5, 4, 0), (13, .iload_n 1, 1, 0, 0, 0, 0), (14, .iaload, 1, 0, 0, 0, 0), (15, .bipush 10, 2, 10, 0, 0, 0), (17, .idiv, 1, 0, 0, 0, 0), (18, .iadd, 1, 0, 0, 0, 0), (19, .goto 4, 3, 0, 23, 0, 0), (22, .iconst 0, 1, 0, 0, 0, 0), (23, .ireturn, 1, 0, 0, 0, 0)]
abbrev Y6_getsOf : MethodName := ⟨"GingerArmyModel", "getsOf", "(I)I"⟩
abbrev M6_getsOf : MethT := (6, C6_getsOf, prog_8_method_83_code, 2, (some .int), Y6_getsOf)
abbrev C6_findGets : List CE := [(0, .iconst 0, 1, 0, 0, 0, 0), (1, .istore 4, 2, 0, 0, 0, 0), (3, .iload 4, 2, 0, 0, 0, 0), (5, .iconst 4, 1, 4, 0, 0, 0), (6, .if_icmp .ge 100, 3, 0, 106, 0, 0), (9, .aload_n 0, 1, 0, 0, 0, 0), (10, .invokevirtual 203, 3, 0, 0, 0, 0), (13, .aload_n 0, 1, 0, 0, 0, 0), (14, .getfield 22, 3, 0, 5, 4, 0), (17, .iload_n 1, 1, 0, 0, 0, 0), (18, .iload 4, 2, 0, 0, 0, 0), (20, .iconst 2, 1, 2, 0, 0, 0), (21, .idiv, 1, 0, 0, 0, 0), (22, .iconst 1, 1, 1, 0, 0, 0), (23, .if_icmp .ne 7, 3, 0, 30, 0, 0), (26, .iconst 0, 1, 0, 0, 0, 0), (27, .goto 9, 3, 0, 36, 0, 0), (30, .aload_n 0, 1, 0, 0, 0, 0), (31, .getfield 22, 3, 0, 5, 4, 0), (34, .iload_n 1, 1, 0, 0, 0, 0), (35, .iaload, 1, 0, 0, 0, 0), (36, .iastore, 1, 0, 0, 0, 0), (37, .aload_n 0, 1, 0, 0, 0, 0), (38, .getfield 22, 3, 0, 5, 4, 0), (41, .iload_n 2, 1, 0, 0, 0, 0), (42, .iload 4, 2, 0, 0, 0, 0), (44, .iconst 2, 1, 2, 0, 0, 0), (45, .irem, 1, 0, 0, 0, 0), (46, .iconst 1, 1, 1, 0, 0, 0), (47, .if_icmp .ne 7, 3, 0, 54, 0, 0), (50, .iconst 0, 1, 0, 0, 0, 0), (51, .goto 9, 3, 0, 60, 0, 0), (54, .aload_n 0, 1, 0, 0, 0, 0), (55, .getfield 22, 3, 0, 5, 4, 0), (58, .iload_n 2, 1, 0, 0, 0, 0), (59, .iaload, 1, 0, 0, 0, 0), (60, .iastore, 1, 0, 0, 0, 0), (61, .aload_n 0, 1, 0, 0, 0, 0), (62, .iload_n 3, 1, 0, 0, 0, 0), (63, .invokevirtual 114, 3, 0, 0, 0, 0), (66, .aload_n 0, 1, 0, 0, 0, 0), (67, .getfield 49, 3, 0, 5, 25, 0), (70, .iconst 2, 1, 2, 0, 0, 0), (71, .iload 4, 2, 0, 0, 0, 0), (73, .imul, 1, 0, 0, 0, 0), (74, .aload_n 0, 1, 0, 0, 0, 0), (75, .iload_n 1, 1, 0, 0, 0, 0), (76, .invokevirtual 257, 3, 0, 0, 0, 0), (79, .iastore, 1, 0, 0, 0, 0), (80, .aload_n 0, 1, 0, 0, 0, 0), (81, .getfield 49, 3, 0, 5, 25, 0), (84, .iconst 2, 1, 2, 0, 0, 0), (85, .iload 4, 2, 0, 0, 0, 0), (87, .imul, 1, 0, 0, 0, 0), (88, .iconst 1, 1, 1, 0, 0, 0), (89, .iadd, 1, 0, 0, 0, 0), (90, .aload_n 0, 1, 0, 0, 0, 0), (91, .iload_n 2, 1, 0, 0, 0, 0), (92, .invokevirtual 257, 3, 0, 0, 0, 0), (95, .iastore, 1, 0, 0, 0, 0), (96, .aload_n 0, 1, 0, 0, 0, 0), (97, .invokevirtual 206, 3, 0, 0, 0, 0), (100, .iinc 4 1, 3, 1, 0, 0, 0), (103, .goto (-100), 3, 0, 3, 0, 0), (106, .return_, 1, 0, 0, 0, 0)]
abbrev Y6_findGets : MethodName := ⟨"GingerArmyModel", "findGets", "(III)V"⟩
abbrev M6_findGets : MethT := (6, C6_findGets, prog_8_method_84_code, 5, none, Y6_findGets)
abbrev C6_two : List CE := [(0, .aload_n 0, 1, 0, 0, 0, 0), (1, .iload_n 1, 1, 0, 0, 0, 0), (2, .invokevirtual 105, 3, 0, 0, 0, 0), (5, .ifCond .eq 16, 3, 0, 21, 0, 0), (8, .aload_n 0, 1, 0, 0, 0, 0), (9, .iload_n 2, 1, 0, 0, 0, 0), (10, .invokevirtual 105, 3, 0, 0, 0, 0), (13, .ifCond .eq 8, 3, 0, 21, 0, 0), (16, .iload_n 1, 1, 0, 0, 0, 0), (17, .iload_n 2, 1, 0, 0, 0, 0), (18, .if_icmp .ne 7, 3, 0, 25, 0, 0), (21, .iconst (-1), 1, -1, 0, 0, 0), (22, .goto 7, 3, 0, 29, 0, 0), (25, .iload_n 3, 1, 0, 0, 0, 0), (26, .invokestatic 209, 3, 0, 0, 0, 0), (29, .istore 4, 2, 0, 0, 0, 0), (31, .iload 4, 2, 0, 0, 0, 0), (33, .ifCond .ne 23, 3, 0, 56, 0, 0), (36, .aload_n 0, 1, 0, 0, 0, 0), (37, .iload_n 1, 1, 0, 0, 0, 0), (38, .invokevirtual 108, 3, 0, 0, 0, 0), (41, .ifCond .eq 11, 3, 0, 52, 0, 0), (44, .aload_n 0, 1, 0, 0, 0, 0), (45, .iload_n 2, 1, 0, 0, 0, 0), (46, .invokevirtual 108, 3, 0, 0, 0, 0), (49, .ifCond .ne 7, 3, 0, 56, 0, 0), (52, .bipush (-3), 2, -3, 0, 0, 0), (54, .istore 4, 2, 0, 0, 0, 0), (56, .iload 4, 2, 0, 0, 0, 0), (58, .ifCond .eq 10, 3, 0, 68, 0, 0), (61, .aload_n 0, 1, 0, 0, 0, 0), (62, .iload 4, 2, 0, 0, 0, 0), (64, .invokevirtual 69, 3, 0, 0, 0, 0), (67, .ireturn, 1, 0, 0, 0, 0), (68, .aload_n 0, 1, 0, 0, 0, 0), (69, .iload_n 1, 1, 0, 0, 0, 0), (70, .iload_n 2, 1, 0, 0, 0, 0), (71, .iload_n 3, 1, 0, 0, 0, 0), (72, .invokevirtual 260, 3, 0, 0, 0, 0), (75, .iconst 0, 1, 0, 0, 0, 0), (76, .istore 5, 2, 0, 0, 0, 0), (78, .iload 5, 2, 0, 0, 0, 0), (80, .iconst 4, 1, 4, 0, 0, 0), (81, .if_icmp .ge 72, 3, 0, 153, 0, 0), (84, .aload_n 0, 1, 0, 0, 0, 0), (85, .getfield 49, 3, 0, 5, 25, 0), (88, .iconst 2, 1, 2, 0, 0, 0), (89, .iload 5, 2, 0, 0, 0, 0), (91, .iconst 2, 1, 2, 0, 0, 0), (92, .ixor, 1, 0, 0, 0, 0), (93, .imul, 1, 0, 0, 0, 0), (94, .iaload, 1, 0, 0, 0, 0), (95, .aload_n 0, 1, 0, 0, 0, 0), (96, .getfield 49, 3, 0, 5, 25, 0), (99, .iconst 2, 1, 2, 0, 0, 0), (100, .iload 5, 2, 0, 0, 0, 0), (102, .imul, 1, 0, 0, 0, 0), (103, .iaload, 1, 0, 0, 0, 0), (104, .if_icmp .gt 43, 3, 0, 147, 0, 0), (107, .aload_n 0, 1, 0, 0, 0, 0), (108, .getfield 49, 3, 0, 5, 25, 0), (111, .iconst 2, 1, 2, 0, 0, 0), (112, .iload 5, 2, 0, 0, 0, 0), (114, .iconst 1, 1, 1, 0, 0, 0), (115, .ixor, 1, 0, 0, 0, 0), (116, .imul, 1, 0, 0, 0, 0), (117, .iconst 1, 1, 1, 0, 0, 0), (118, .iadd, 1, 0, 0, 0, 0), (119, .iaload, 1, 0, 0, 0, 0), (120, .aload_n 0, 1, 0, 0, 0, 0), (121, .getfield 49, 3, 0, 5, 25, 0), (124, .iconst 2, 1, 2, 0, 0, 0), (125, .iload 5, 2, 0, 0, 0, 0), (127, .imul, 1, 0, 0, 0, 0), (128, .iconst 1, 1, 1, 0, 0, 0), (129, .iadd, 1, 0, 0, 0, 0), (130, .iaload, 1, 0, 0, 0, 0), (131, .if_icmp .gt 16, 3, 0, 147, 0, 0), (134, .bipush 10, 2, 10, 0, 0, 0), (136, .iload 5, 2, 0, 0, 0, 0), (138, .iconst 2, 1, 2, 0, 0, 0), (139, .idiv, 1, 0, 0, 0, 0), (140, .imul, 1, 0, 0, 0, 0), (141, .iload 5, 2, 0, 0, 0, 0), (143, .iconst 2, 1, 2, 0, 0, 0), (144, .irem, 1, 0, 0, 0, 0), (145, .iadd, 1, 0, 0, 0, 0), (146, .ireturn, 1, 0, 0, 0, 0), (147, .iinc 5 1, 3, 1, 0, 0, 0), (150, .goto (-72), 3, 0, 78, 0, 0), (153, .bipush (-9), 2, -9, 0, 0, 0), (155, .ireturn, 1, 0, 0, 0, 0)]
abbrev Y6_two : MethodName := ⟨"GingerArmyModel", "two", "(III)I"⟩
abbrev M6_two : MethT := (6, C6_two, prog_8_method_85_code, 6, (some .int), Y6_two)
abbrev C6_divisor : List CE := [(0, .lload_n 0, 1, 0, 0, 0, 0), (1, .lstore 4, 2, 0, 0, 0, 0), (3, .lload_n 2, 1, 0, 0, 0, 0), (4, .lstore 6, 2, 0, 0, 0, 0), (6, .lload 6, 2, 0, 0, 0, 0), (8, .lconst 0, 1, 0, 0, 0, 0), (9, .lcmp, 1, 0, 0, 0, 0), (10, .ifCond .eq 21, 3, 0, 31, 0, 0), (13, .lload 4, 2, 0, 0, 0, 0), (15, .lload 6, 2, 0, 0, 0, 0), (17, .lrem, 1, 0, 0, 0, 0), (18, .lstore 8, 2, 0, 0, 0, 0), (20, .lload 6, 2, 0, 0, 0, 0), (22, .lstore 4, 2, 0, 0, 0, 0), (24, .lload 8, 2, 0, 0, 0, 0), (26, .lstore 6, 2, 0, 0, 0, 0), (28, .goto (-22), 3, 0, 6, 0, 0), (31, .lload 4, 2, 0, 0, 0, 0), (33, .lreturn, 1, 0, 0, 0, 0)]
abbrev Y6_divisor : MethodName := ⟨"GingerArmyModel", "divisor", "(JJ)J"⟩
abbrev M6_divisor : MethT := (6, C6_divisor, prog_8_method_86_code, 10, (some .long), Y6_divisor)
abbrev C6_partOf : List CE := [(0, .iload 4, 2, 0, 0, 0, 0), (2, .ifCond .ne 7, 3, 0, 9, 0, 0), (5, .lload_n 0, 1, 0, 0, 0, 0), (6, .goto 4, 3, 0, 10, 0, 0), (9, .lload_n 2, 1, 0, 0, 0, 0), (10, .lload_n 0, 1, 0, 0, 0, 0), (11, .lload_n 2, 1, 0, 0, 0, 0), (12, .invokestatic 263, 3, 0, 0, 0, 0), (15, .ldiv, 1, 0, 0, 0, 0), (16, .lreturn, 1, 0, 0, 0, 0)]
abbrev Y6_partOf : MethodName := ⟨"GingerArmyModel", "partOf", "(JJI)J"⟩
abbrev M6_partOf : MethT := (6, C6_partOf, prog_8_method_87_code, 5, (some .long), Y6_partOf)
abbrev C6_thunders : List CE := [(0, .aload_n 0, 1, 0, 0, 0, 0), (1, .iload_n 1, 1, 0, 0, 0, 0), (2, .invokevirtual 105, 3, 0, 0, 0, 0), (5, .ifCond .ne 7, 3, 0, 12, 0, 0), (8, .iconst (-1), 1, -1, 0, 0, 0), (9, .goto 50, 3, 0, 59, 0, 0), (12, .iload_n 2, 1, 0, 0, 0, 0), (13, .ifCond .lt 8, 3, 0, 21, 0, 0), (16, .iload_n 3, 1, 0, 0, 0, 0), (17, .iconst 2, 1, 2, 0, 0, 0), (18, .if_icmp .ge 8, 3, 0, 26, 0, 0), (21, .bipush (-4), 2, -4, 0, 0, 0), (23, .goto 36, 3, 0, 59, 0, 0), (26, .iload_n 2, 1, 0, 0, 0, 0), (27, .bipush 7, 2, 7, 0, 0, 0), (29, .if_icmp .gt 9, 3, 0, 38, 0, 0), (32, .iload_n 3, 1, 0, 0, 0, 0), (33, .bipush 20, 2, 20, 0, 0, 0), (35, .if_icmp .le 8, 3, 0, 43, 0, 0), (38, .bipush (-6), 2, -6, 0, 0, 0), (40, .goto 19, 3, 0, 59, 0, 0), (43, .iload 4, 2, 0, 0, 0, 0), (45, .iconst 0, 1, 0, 0, 0, 0), (46, .iconst 1, 1, 1, 0, 0, 0), (47, .invokestatic 80, 3, 0, 0, 0, 0), (50, .ifCond .ne 8, 3, 0, 58, 0, 0), (53, .bipush (-2), 2, -2, 0, 0, 0), (55, .goto 4, 3, 0, 59, 0, 0), (58, .iconst 0, 1, 0, 0, 0, 0), (59, .istore 5, 2, 0, 0, 0, 0), (61, .iload 5, 2, 0, 0, 0, 0), (63, .ifCond .eq 10, 3, 0, 73, 0, 0), (66, .aload_n 0, 1, 0, 0, 0, 0), (67, .iload 5, 2, 0, 0, 0, 0), (69, .invokevirtual 267, 3, 0, 0, 0, 0), (72, .lreturn, 1, 0, 0, 0, 0), (73, .aload_n 0, 1, 0, 0, 0, 0), (74, .getfield 121, 3, 0, 5, 9, 0), (77, .istore 6, 2, 0, 0, 0, 0), (79, .lconst 0, 1, 0, 0, 0, 0), (80, .lstore 7, 2, 0, 0, 0, 0), (82, .lconst 1, 1, 0, 1, 0, 0), (83, .lstore 9, 2, 0, 0, 0, 0), (85, .iconst 0, 1, 0, 0, 0, 0), (86, .istore 11, 2, 0, 0, 0, 0), (88, .iload 11, 2, 0, 0, 0, 0), (90, .iload_n 2, 1, 0, 0, 0, 0), (91, .if_icmp .ge 16, 3, 0, 107, 0, 0), (94, .lload 9, 2, 0, 0, 0, 0), (96, .iload_n 3, 1, 0, 0, 0, 0), (97, .i2l, 1, 0, 0, 0, 0), (98, .lmul, 1, 0, 0, 0, 0), (99, .lstore 9, 2, 0, 0, 0, 0), (101, .iinc 11 1, 3, 1, 0, 0, 0), (104, .goto (-16), 3, 0, 88, 0, 0), (107, .iconst 0, 1, 0, 0, 0, 0), (108, .istore 11, 2, 0, 0, 0, 0), (110, .iload 11, 2, 0, 0, 0, 0), (112, .iconst 1, 1, 1, 0, 0, 0), (113, .iload_n 2, 1, 0, 0, 0, 0), (114, .ishl, 1, 0, 0, 0, 0), (115, .if_icmp .ge 102, 3, 0, 217, 0, 0), (118, .aload_n 0, 1, 0, 0, 0, 0), (119, .invokevirtual 203, 3, 0, 0, 0, 0), (122, .lconst 1, 1, 0, 1, 0, 0), (123, .lstore 12, 2, 0, 0, 0, 0), (125, .iconst 0, 1, 0, 0, 0, 0), (126, .istore 14, 2, 0, 0, 0, 0), (128, .iload 14, 2, 0, 0, 0, 0), (130, .iload_n 2, 1, 0, 0, 0, 0), (131, .if_icmp .ge 57, 3, 0, 188, 0, 0), (134, .lload 12, 2, 0, 0, 0, 0), (136, .iload 11, 2, 0, 0, 0, 0), (138, .iload 14, 2, 0, 0, 0, 0), (140, .invokestatic 271, 3, 0, 0, 0, 0), (143, .ifCond .eq 7, 3, 0, 150, 0, 0), (146, .lconst 1, 1, 0, 1, 0, 0), (147, .goto 7, 3, 0, 154, 0, 0), (150, .iload_n 3, 1, 0, 0, 0, 0), (151, .iconst 1, 1, 1, 0, 0, 0), (152, .isub, 1, 0, 0, 0, 0), (153, .i2l, 1, 0, 0, 0, 0), (154, .lmul, 1, 0, 0, 0, 0), (155, .lstore 12, 2, 0, 0, 0, 0), (157, .aload_n 0, 1, 0, 0, 0, 0), (158, .iload 11, 2, 0, 0, 0, 0), (160, .iload 14, 2, 0, 0, 0, 0), (162, .invokestatic 271, 3, 0, 0, 0, 0), (165, .ifCond .eq 8, 3, 0, 173, 0, 0), (168, .bipush 9, 2, 9, 0, 0, 0), (170, .goto 5, 3, 0, 175, 0, 0), (173, .iload 6, 2, 0, 0, 0, 0), (175, .putfield 121, 3, 0, 5, 9, 0), (178, .aload_n 0, 1, 0, 0, 0, 0), (179, .invokevirtual 188, 3, 0, 0, 0, 0), (182, .iinc 14 1, 3, 1, 0, 0, 0), (185, .goto (-57), 3, 0, 128, 0, 0), (188, .lload 7, 2, 0, 0, 0, 0), (190, .aload_n 0, 1, 0, 0, 0, 0), (191, .iload_n 1, 1, 0, 0, 0, 0), (192, .invokevirtual 108, 3, 0, 0, 0, 0), (195, .ifCond .eq 8, 3, 0, 203, 0, 0), (198, .lload 12, 2, 0, 0, 0, 0), (200, .goto 4, 3, 0, 204, 0, 0), (203, .lconst 0, 1, 0, 0, 0, 0), (204, .ladd, 1, 0, 0, 0, 0), (205, .lstore 7, 2, 0, 0, 0, 0), (207, .aload_n 0, 1, 0, 0, 0, 0), (208, .invokevirtual 206, 3, 0, 0, 0, 0), (211, .iinc 11 1, 3, 1, 0, 0, 0), (214, .goto (-104), 3, 0, 110, 0, 0), (217, .lload 7, 2, 0, 0, 0, 0), (219, .lload 9, 2, 0, 0, 0, 0), (221, .iload 4, 2, 0, 0, 0, 0), (223, .invokestatic 274, 3, 0, 0, 0, 0), (226, .lreturn, 1, 0, 0, 0, 0)]
abbrev Y6_thunders : MethodName := ⟨"GingerArmyModel", "thunders", "(IIII)J"⟩
abbrev M6_thunders : MethT := (6, C6_thunders, prog_8_method_88_code, 15, (some .long), Y6_thunders)
abbrev C6_shares : List CE := [(0, .iload_n 1, 1, 0, 0, 0, 0), (1, .iconst 1, 1, 1, 0, 0, 0), (2, .bipush 9, 2, 9, 0, 0, 0), (4, .invokestatic 62, 3, 0, 0, 0, 0), (7, .istore_n 3, 1, 0, 0, 0, 0), (8, .iload_n 3, 1, 0, 0, 0, 0), (9, .ifCond .ne 15, 3, 0, 24, 0, 0), (12, .iload_n 2, 1, 0, 0, 0, 0), (13, .iconst 0, 1, 0, 0, 0, 0), (14, .iconst 1, 1, 1, 0, 0, 0), (15, .invokestatic 80, 3, 0, 0, 0, 0), (18, .ifCond .ne 6, 3, 0, 24, 0, 0), (21, .bipush (-2), 2, -2, 0, 0, 0), (23, .istore_n 3, 1, 0, 0, 0, 0), (24, .iload_n 3, 1, 0, 0, 0, 0), (25, .ifCond .eq 9, 3, 0, 34, 0, 0), (28, .aload_n 0, 1, 0, 0, 0, 0), (29, .iload_n 3, 1, 0, 0, 0, 0), (30, .invokevirtual 69, 3, 0, 0, 0, 0), (33, .ireturn, 1, 0, 0, 0, 0), (34, .iload_n 2, 1, 0, 0, 0, 0), (35, .ifCond .ne 12, 3, 0, 47, 0, 0), (38, .aload_n 0, 1, 0, 0, 0, 0), (39, .getfield 52, 3, 0, 5, 8, 0), (42, .iload_n 1, 1, 0, 0, 0, 0), (43, .idiv, 1, 0, 0, 0, 0), (44, .goto 9, 3, 0, 53, 0, 0), (47, .aload_n 0, 1, 0, 0, 0, 0), (48, .getfield 52, 3, 0, 5, 8, 0), (51, .iload_n 1, 1, 0, 0, 0, 0), (52, .irem, 1, 0, 0, 0, 0), (53, .ireturn, 1, 0, 0, 0, 0)]
abbrev Y6_shares : MethodName := ⟨"GingerArmyModel", "shares", "(II)I"⟩
abbrev M6_shares : MethT := (6, C6_shares, prog_8_method_89_code, 4, (some .int), Y6_shares)
abbrev C6_tightestOne : List CE := [(0, .bipush (-9), 2, -9, 0, 0, 0), (2, .istore_n 1, 1, 0, 0, 0, 0), (3, .iconst 0, 1, 0, 0, 0, 0), (4, .istore_n 2, 1, 0, 0, 0, 0), (5, .iload_n 2, 1, 0, 0, 0, 0), (6, .aload_n 0, 1, 0, 0, 0, 0), (7, .getfield 59, 3, 0, 5, 7, 0), (10, .if_icmp .ge 50, 3, 0, 60, 0, 0), (13, .aload_n 0, 1, 0, 0, 0, 0), (14, .iload_n 2, 1, 0, 0, 0, 0), (15, .invokevirtual 108, 3, 0, 0, 0, 0), (18, .ifCond .eq 36, 3, 0, 54, 0, 0), (21, .iload_n 1, 1, 0, 0, 0, 0), (22, .ifCond .lt 30, 3, 0, 52, 0, 0), (25, .aload_n 0, 1, 0, 0, 0, 0), (26, .iload_n 2, 1, 0, 0, 0, 0), (27, .invokevirtual 173, 3, 0, 0, 0, 0), (30, .aload_n 0, 1, 0, 0, 0, 0), (31, .getfield 22, 3, 0, 5, 4, 0), (34, .iload_n 2, 1, 0, 0, 0, 0), (35, .iaload, 1, 0, 0, 0, 0), (36, .isub, 1, 0, 0, 0, 0), (37, .aload_n 0, 1, 0, 0, 0, 0), (38, .iload_n 1, 1, 0, 0, 0, 0), (39, .invokevirtual 173, 3, 0, 0, 0, 0), (42, .aload_n 0, 1, 0, 0, 0, 0), (43, .getfield 22, 3, 0, 5, 4, 0), (46, .iload_n 1, 1, 0, 0, 0, 0), (47, .iaload, 1, 0, 0, 0, 0), (48, .isub, 1, 0, 0, 0, 0), (49, .if_icmp .ge 5, 3, 0, 54, 0, 0), (52, .iload_n 2, 1, 0, 0, 0, 0), (53, .istore_n 1, 1, 0, 0, 0, 0), (54, .iinc 2 1, 3, 1, 0, 0, 0), (57, .goto (-52), 3, 0, 5, 0, 0), (60, .iload_n 1, 1, 0, 0, 0, 0), (61, .ireturn, 1, 0, 0, 0, 0)]
abbrev Y6_tightestOne : MethodName := ⟨"GingerArmyModel", "tightestOne", "()I"⟩
abbrev M6_tightestOne : MethT := (6, C6_tightestOne, prog_8_method_90_code, 3, (some .int), Y6_tightestOne)
abbrev C6_longestGap : List CE := [(0, .iconst 0, 1, 0, 0, 0, 0), (1, .istore_n 1, 1, 0, 0, 0, 0), (2, .iconst 0, 1, 0, 0, 0, 0), (3, .istore_n 2, 1, 0, 0, 0, 0), (4, .iconst 0, 1, 0, 0, 0, 0), (5, .istore_n 3, 1, 0, 0, 0, 0), (6, .iload_n 3, 1, 0, 0, 0, 0), (7, .bipush 15, 2, 15, 0, 0, 0), (9, .if_icmp .ge 36, 3, 0, 45, 0, 0), (12, .aload_n 0, 1, 0, 0, 0, 0), (13, .iload_n 3, 1, 0, 0, 0, 0), (14, .invokevirtual 98, 3, 0, 0, 0, 0), (17, .ifCond .ge 9, 3, 0, 26, 0, 0), (20, .iload_n 2, 1, 0, 0, 0, 0), (21, .iconst 1, 1, 1, 0, 0, 0), (22, .iadd, 1, 0, 0, 0, 0), (23, .goto 4, 3, 0, 27, 0, 0), (26, .iconst 0, 1, 0, 0, 0, 0), (27, .istore_n 2, 1, 0, 0, 0, 0), (28, .iload_n 2, 1, 0, 0, 0, 0), (29, .iload_n 1, 1, 0, 0, 0, 0), (30, .if_icmp .le 7, 3, 0, 37, 0, 0), (33, .iload_n 2, 1, 0, 0, 0, 0), (34, .goto 4, 3, 0, 38, 0, 0), (37, .iload_n 1, 1, 0, 0, 0, 0), (38, .istore_n 1, 1, 0, 0, 0, 0), (39, .iinc 3 1, 3, 1, 0, 0, 0), (42, .goto (-36), 3, 0, 6, 0, 0), (45, .iload_n 1, 1, 0, 0, 0, 0), (46, .ireturn, 1, 0, 0, 0, 0)]
abbrev Y6_longestGap : MethodName := ⟨"GingerArmyModel", "longestGap", "()I"⟩
abbrev M6_longestGap : MethT := (6, C6_longestGap, prog_8_method_91_code, 4, (some .int), Y6_longestGap)
abbrev C6_tightest : List CE := [(0, .iload_n 1, 1, 0, 0, 0, 0), (1, .iconst 0, 1, 0, 0, 0, 0), (2, .iconst 2, 1, 2, 0, 0, 0), (3, .invokestatic 80, 3, 0, 0, 0, 0), (6, .ifCond .ne 10, 3, 0, 16, 0, 0), (9, .aload_n 0, 1, 0, 0, 0, 0), (10, .bipush (-2), 2, -2, 0, 0, 0), (12, .invokevirtual 69, 3, 0, 0, 0, 0), (15, .ireturn, 1, 0, 0, 0, 0), (16, .iload_n 1, 1, 0, 0, 0, 0), (17, .ifCond .ne 10, 3, 0, 27, 0, 0), (20, .aload_n 0, 1, 0, 0, 0, 0), (21, .invokevirtual 278, 3, 0, 0, 0, 0), (24, .goto 27, 3, 0, 51, 0, 0), (27, .iload_n 1, 1, 0, 0, 0, 0), (28, .iconst 1, 1, 1, 0, 0, 0), (29, .if_icmp .ne 10, 3, 0, 39, 0, 0), (32, .aload_n 0, 1, 0, 0, 0, 0), (33, .invokevirtual 281, 3, 0, 0, 0, 0), (36, .goto 15, 3, 0, 51, 0, 0), (39, .aload_n 0, 1, 0, 0, 0, 0), (40, .getfield 59, 3, 0, 5, 7, 0), (43, .aload_n 0, 1, 0, 0, 0, 0), (44, .invokevirtual 197, 3, 0, 0, 0, 0), (47, .invokestatic 200, 3, 0, 0, 0, 0), (50, .isub, 1, 0, 0, 0, 0), (51, .ireturn, 1, 0, 0, 0, 0)]
abbrev Y6_tightest : MethodName := ⟨"GingerArmyModel", "tightest", "(I)I"⟩
abbrev M6_tightest : MethT := (6, C6_tightest, prog_8_method_92_code, 2, (some .int), Y6_tightest)
abbrev C6_near : List CE := [(0, .aload_n 0, 1, 0, 0, 0, 0), (1, .iload_n 1, 1, 0, 0, 0, 0), (2, .invokevirtual 105, 3, 0, 0, 0, 0), (5, .ifCond .ne 9, 3, 0, 14, 0, 0), (8, .aload_n 0, 1, 0, 0, 0, 0), (9, .iconst (-1), 1, -1, 0, 0, 0), (10, .invokevirtual 69, 3, 0, 0, 0, 0), (13, .ireturn, 1, 0, 0, 0, 0), (14, .iconst 0, 1, 0, 0, 0, 0), (15, .istore_n 2, 1, 0, 0, 0, 0), (16, .iconst 0, 1, 0, 0, 0, 0), (17, .istore_n 3, 1, 0, 0, 0, 0), (18, .iload_n 3, 1, 0, 0, 0, 0), (19, .aload_n 0, 1, 0, 0, 0, 0), (20, .getfield 59, 3, 0, 5, 7, 0), (23, .if_icmp .ge 36, 3, 0, 59, 0, 0), (26, .iload_n 2, 1, 0, 0, 0, 0), (27, .aload_n 0, 1, 0, 0, 0, 0), (28, .iload_n 3, 1, 0, 0, 0, 0), (29, .invokevirtual 108, 3, 0, 0, 0, 0), (32, .ifCond .eq 18, 3, 0, 50, 0, 0), (35, .aload_n 0, 1, 0, 0, 0, 0), (36, .iload_n 1, 1, 0, 0, 0, 0), (37, .iload_n 3, 1, 0, 0, 0, 0), (38, .invokevirtual 164, 3, 0, 0, 0, 0), (41, .ifCond .eq 9, 3, 0, 50, 0, 0), (44, .iconst 1, 1, 1, 0, 0, 0), (45, .iload_n 3, 1, 0, 0, 0, 0), (46, .ishl, 1, 0, 0, 0, 0), (47, .goto 4, 3, 0, 51, 0, 0), (50, .iconst 0, 1, 0, 0, 0, 0), (51, .ior, 1, 0, 0, 0, 0), (52, .istore_n 2, 1, 0, 0, 0, 0), (53, .iinc 3 1, 3, 1, 0, 0, 0), (56, .goto (-38), 3, 0, 18, 0, 0), (59, .iload_n 2, 1, 0, 0, 0, 0), (60, .ireturn, 1, 0, 0, 0, 0)]
abbrev Y6_near : MethodName := ⟨"GingerArmyModel", "near", "(I)I"⟩
abbrev M6_near : MethT := (6, C6_near, prog_8_method_93_code, 4, (some .int), Y6_near)
abbrev C6_mean : List CE := [(0, .iload_n 1, 1, 0, 0, 0, 0), (1, .iconst 0, 1, 0, 0, 0, 0), (2, .iconst 1, 1, 1, 0, 0, 0), (3, .invokestatic 80, 3, 0, 0, 0, 0), (6, .ifCond .ne 10, 3, 0, 16, 0, 0), (9, .aload_n 0, 1, 0, 0, 0, 0), (10, .bipush (-2), 2, -2, 0, 0, 0), (12, .invokevirtual 267, 3, 0, 0, 0, 0), (15, .lreturn, 1, 0, 0, 0, 0), (16, .aload_n 0, 1, 0, 0, 0, 0), (17, .invokevirtual 197, 3, 0, 0, 0, 0), (20, .invokestatic 200, 3, 0, 0, 0, 0), (23, .istore_n 2, 1, 0, 0, 0, 0), (24, .iload_n 2, 1, 0, 0, 0, 0), (25, .ifCond .ne 8, 3, 0, 33, 0, 0), (28, .iload_n 1, 1, 0, 0, 0, 0), (29, .i2l, 1, 0, 0, 0, 0), (30, .goto 14, 3, 0, 44, 0, 0), (33, .aload_n 0, 1, 0, 0, 0, 0), (34, .invokevirtual 216, 3, 0, 0, 0, 0), (37, .i2l, 1, 0, 0, 0, 0), (38, .iload_n 2, 1, 0, 0, 0, 0), (39, .i2l, 1, 0, 0, 0, 0), (40, .iload_n 1, 1, 0, 0, 0, 0), (41, .invokestatic 274, 3, 0, 0, 0, 0), (44, .lreturn, 1, 0, 0, 0, 0)]
abbrev Y6_mean : MethodName := ⟨"GingerArmyModel", "mean", "(I)J"⟩
abbrev M6_mean : MethT := (6, C6_mean, prog_8_method_94_code, 3, (some .long), Y6_mean)
abbrev C6_spare : List CE := [(0, .aload_n 0, 1, 0, 0, 0, 0), (1, .iload_n 1, 1, 0, 0, 0, 0), (2, .invokevirtual 105, 3, 0, 0, 0, 0), (5, .ifCond .ne 9, 3, 0, 14, 0, 0), (8, .aload_n 0, 1, 0, 0, 0, 0), (9, .iconst (-1), 1, -1, 0, 0, 0), (10, .invokevirtual 69, 3, 0, 0, 0, 0), (13, .ireturn, 1, 0, 0, 0, 0), (14, .aload_n 0, 1, 0, 0, 0, 0), (15, .iload_n 1, 1, 0, 0, 0, 0), (16, .invokevirtual 173, 3, 0, 0, 0, 0), (19, .aload_n 0, 1, 0, 0, 0, 0), (20, .getfield 22, 3, 0, 5, 4, 0), (23, .iload_n 1, 1, 0, 0, 0, 0), (24, .iaload, 1, 0, 0, 0, 0), (25, .if_icmp .le 18, 3, 0, 43, 0, 0), (28, .aload_n 0, 1, 0, 0, 0, 0), (29, .iload_n 1, 1, 0, 0, 0, 0), (30, .invokevirtual 173, 3, 0, 0, 0, 0), (33, .aload_n 0, 1, 0, 0, 0, 0), (34, .getfield 22, 3, 0, 5, 4, 0), (37, .iload_n 1, 1, 0, 0, 0, 0), (38, .iaload, 1, 0, 0, 0, 0), (39, .isub, 1, 0, 0, 0, 0), (40, .goto 4, 3, 0, 44, 0, 0), (43, .iconst 0, 1, 0, 0, 0, 0), (44, .ireturn, 1, 0, 0, 0, 0)]
abbrev Y6_spare : MethodName := ⟨"GingerArmyModel", "spare", "(I)I"⟩
abbrev M6_spare : MethT := (6, C6_spare, prog_8_method_95_code, 2, (some .int), Y6_spare)
abbrev C6_nearTwos : List CE := [(0, .iconst 0, 1, 0, 0, 0, 0), (1, .istore_n 1, 1, 0, 0, 0, 0), (2, .iconst 0, 1, 0, 0, 0, 0), (3, .istore_n 2, 1, 0, 0, 0, 0), (4, .iload_n 2, 1, 0, 0, 0, 0), (5, .aload_n 0, 1, 0, 0, 0, 0), (6, .getfield 59, 3, 0, 5, 7, 0), (9, .if_icmp .ge 60, 3, 0, 69, 0, 0), (12, .iload_n 2, 1, 0, 0, 0, 0), (13, .iconst 1, 1, 1, 0, 0, 0), (14, .iadd, 1, 0, 0, 0, 0), (15, .istore_n 3, 1, 0, 0, 0, 0), (16, .iload_n 3, 1, 0, 0, 0, 0), (17, .aload_n 0, 1, 0, 0, 0, 0), (18, .getfield 59, 3, 0, 5, 7, 0), (21, .if_icmp .ge 42, 3, 0, 63, 0, 0), (24, .iload_n 1, 1, 0, 0, 0, 0), (25, .aload_n 0, 1, 0, 0, 0, 0), (26, .iload_n 2, 1, 0, 0, 0, 0), (27, .invokevirtual 108, 3, 0, 0, 0, 0), (30, .ifCond .eq 24, 3, 0, 54, 0, 0), (33, .aload_n 0, 1, 0, 0, 0, 0), (34, .iload_n 3, 1, 0, 0, 0, 0), (35, .invokevirtual 108, 3, 0, 0, 0, 0), (38, .ifCond .eq 16, 3, 0, 54, 0, 0), (41, .aload_n 0, 1, 0, 0, 0, 0), (42, .iload_n 2, 1, 0, 0, 0, 0), (43, .iload_n 3, 1, 0, 0, 0, 0), (44, .invokevirtual 164, 3, 0, 0, 0, 0), (47, .ifCond .eq 7, 3, 0, 54, 0, 0), (50, .iconst 1, 1, 1, 0, 0, 0), (51, .goto 4, 3, 0, 55, 0, 0), (54, .iconst 0, 1, 0, 0, 0, 0), (55, .iadd, 1, 0, 0, 0, 0), (56, .istore_n 1, 1, 0, 0, 0, 0), (57, .iinc 3 1, 3, 1, 0, 0, 0), (60, .goto (-44), 3, 0, 16, 0, 0), (63, .iinc 2 1, 3, 1, 0, 0, 0), (66, .goto (-62), 3, 0, 4, 0, 0), (69, .iload_n 1, 1, 0, 0, 0, 0), (70, .ireturn, 1, 0, 0, 0, 0)]
abbrev Y6_nearTwos : MethodName := ⟨"GingerArmyModel", "nearTwos", "()I"⟩
abbrev M6_nearTwos : MethT := (6, C6_nearTwos, prog_8_method_96_code, 4, (some .int), Y6_nearTwos)
abbrev C6_calmest : List CE := [(0, .aload_n 0, 1, 0, 0, 0, 0), (1, .getfield 121, 3, 0, 5, 9, 0), (4, .istore_n 1, 1, 0, 0, 0, 0), (5, .bipush (-9), 2, -9, 0, 0, 0), (7, .istore_n 2, 1, 0, 0, 0, 0), (8, .bipush 9, 2, 9, 0, 0, 0), (10, .istore_n 3, 1, 0, 0, 0, 0), (11, .iload_n 3, 1, 0, 0, 0, 0), (12, .ifCond .lt 40, 3, 0, 52, 0, 0), (15, .iload_n 2, 1, 0, 0, 0, 0), (16, .ifCond .ge 36, 3, 0, 52, 0, 0), (19, .aload_n 0, 1, 0, 0, 0, 0), (20, .iload_n 3, 1, 0, 0, 0, 0), (21, .putfield 121, 3, 0, 5, 9, 0), (24, .aload_n 0, 1, 0, 0, 0, 0), (25, .iconst 1, 1, 1, 0, 0, 0), (26, .invokevirtual 228, 3, 0, 0, 0, 0), (29, .aload_n 0, 1, 0, 0, 0, 0), (30, .invokevirtual 197, 3, 0, 0, 0, 0), (33, .invokestatic 200, 3, 0, 0, 0, 0), (36, .if_icmp .ne 7, 3, 0, 43, 0, 0), (39, .iload_n 3, 1, 0, 0, 0, 0), (40, .goto 5, 3, 0, 45, 0, 0), (43, .bipush (-9), 2, -9, 0, 0, 0), (45, .istore_n 2, 1, 0, 0, 0, 0), (46, .iinc 3 (-1), 3, -1, 0, 0, 0), (49, .goto (-38), 3, 0, 11, 0, 0), (52, .aload_n 0, 1, 0, 0, 0, 0), (53, .iload_n 1, 1, 0, 0, 0, 0), (54, .putfield 121, 3, 0, 5, 9, 0), (57, .iload_n 2, 1, 0, 0, 0, 0), (58, .ireturn, 1, 0, 0, 0, 0)]
abbrev Y6_calmest : MethodName := ⟨"GingerArmyModel", "calmest", "()I"⟩
abbrev M6_calmest : MethT := (6, C6_calmest, prog_8_method_97_code, 4, (some .int), Y6_calmest)
abbrev C6_endWhen : List CE := [(0, .aload_n 0, 1, 0, 0, 0, 0), (1, .invokevirtual 203, 3, 0, 0, 0, 0), (4, .bipush (-9), 2, -9, 0, 0, 0), (6, .istore_n 1, 1, 0, 0, 0, 0), (7, .iconst 0, 1, 0, 0, 0, 0), (8, .istore_n 2, 1, 0, 0, 0, 0), (9, .iload_n 2, 1, 0, 0, 0, 0), (10, .bipush 60, 2, 60, 0, 0, 0), (12, .if_icmp .gt 31, 3, 0, 43, 0, 0), (15, .iload_n 1, 1, 0, 0, 0, 0), (16, .ifCond .ge 27, 3, 0, 43, 0, 0), (19, .aload_n 0, 1, 0, 0, 0, 0), (20, .invokevirtual 197, 3, 0, 0, 0, 0), (23, .ifCond .ne 7, 3, 0, 30, 0, 0), (26, .iload_n 2, 1, 0, 0, 0, 0), (27, .goto 5, 3, 0, 32, 0, 0), (30, .bipush (-9), 2, -9, 0, 0, 0), (32, .istore_n 1, 1, 0, 0, 0, 0), (33, .aload_n 0, 1, 0, 0, 0, 0), (34, .invokevirtual 188, 3, 0, 0, 0, 0), (37, .iinc 2 1, 3, 1, 0, 0, 0), (40, .goto (-31), 3, 0, 9, 0, 0), (43, .aload_n 0, 1, 0, 0, 0, 0), (44, .invokevirtual 206, 3, 0, 0, 0, 0), (47, .iload_n 1, 1, 0, 0, 0, 0), (48, .ireturn, 1, 0, 0, 0, 0)]
abbrev Y6_endWhen : MethodName := ⟨"GingerArmyModel", "endWhen", "()I"⟩
abbrev M6_endWhen : MethT := (6, C6_endWhen, prog_8_method_98_code, 3, (some .int), Y6_endWhen)
abbrev C6_pairs : List CE := [(0, .iload_n 1, 1, 0, 0, 0, 0), (1, .tableswitch 60 0 3 #[31, 36, 41, 55], 31, 0, 0, 0, 0), (32, .aload_n 0, 1, 0, 0, 0, 0), (33, .invokevirtual 284, 3, 0, 0, 0, 0), (36, .ireturn, 1, 0, 0, 0, 0), (37, .aload_n 0, 1, 0, 0, 0, 0), (38, .invokevirtual 287, 3, 0, 0, 0, 0), (41, .ireturn, 1, 0, 0, 0, 0), (42, .aload_n 0, 1, 0, 0, 0, 0), (43, .invokevirtual 197, 3, 0, 0, 0, 0), (46, .invokestatic 200, 3, 0, 0, 0, 0), (49, .aload_n 0, 1, 0, 0, 0, 0), (50, .iconst 1, 1, 1, 0, 0, 0), (51, .invokevirtual 228, 3, 0, 0, 0, 0), (54, .isub, 1, 0, 0, 0, 0), (55, .ireturn, 1, 0, 0, 0, 0), (56, .aload_n 0, 1, 0, 0, 0, 0), (57, .invokevirtual 290, 3, 0, 0, 0, 0), (60, .ireturn, 1, 0, 0, 0, 0), (61, .aload_n 0, 1, 0, 0, 0, 0), (62, .bipush (-2), 2, -2, 0, 0, 0), (64, .invokevirtual 69, 3, 0, 0, 0, 0), (67, .ireturn, 1, 0, 0, 0, 0)]
abbrev Y6_pairs : MethodName := ⟨"GingerArmyModel", "pairs", "(I)I"⟩
abbrev M6_pairs : MethT := (6, C6_pairs, prog_8_method_99_code, 2, (some .int), Y6_pairs)
abbrev C6_eased : List CE := [(0, .aload_n 0, 1, 0, 0, 0, 0), (1, .iload_n 1, 1, 0, 0, 0, 0), (2, .invokevirtual 105, 3, 0, 0, 0, 0), (5, .ifCond .eq 16, 3, 0, 21, 0, 0), (8, .aload_n 0, 1, 0, 0, 0, 0), (9, .iload_n 2, 1, 0, 0, 0, 0), (10, .invokevirtual 105, 3, 0, 0, 0, 0), (13, .ifCond .eq 8, 3, 0, 21, 0, 0), (16, .iload_n 1, 1, 0, 0, 0, 0), (17, .iload_n 2, 1, 0, 0, 0, 0), (18, .if_icmp .ne 7, 3, 0, 25, 0, 0), (21, .iconst (-1), 1, -1, 0, 0, 0), (22, .goto 7, 3, 0, 29, 0, 0), (25, .iload_n 3, 1, 0, 0, 0, 0), (26, .invokestatic 209, 3, 0, 0, 0, 0), (29, .istore 4, 2, 0, 0, 0, 0), (31, .iload 4, 2, 0, 0, 0, 0), (33, .ifCond .eq 10, 3, 0, 43, 0, 0), (36, .aload_n 0, 1, 0, 0, 0, 0), (37, .iload 4, 2, 0, 0, 0, 0), (39, .invokevirtual 293, 3, 0, 0, 0, 0), (42, .ireturn, 1, 0, 0, 0, 0), (43, .aload_n 0, 1, 0, 0, 0, 0), (44, .iload_n 1, 1, 0, 0, 0, 0), (45, .iload_n 3, 1, 0, 0, 0, 0), (46, .invokevirtual 212, 3, 0, 0, 0, 0), (49, .istore 5, 2, 0, 0, 0, 0), (51, .aload_n 0, 1, 0, 0, 0, 0), (52, .getfield 25, 3, 0, 5, 5, 0), (55, .iload_n 2, 1, 0, 0, 0, 0), (56, .iaload, 1, 0, 0, 0, 0), (57, .istore 6, 2, 0, 0, 0, 0), (59, .aload_n 0, 1, 0, 0, 0, 0), (60, .getfield 25, 3, 0, 5, 5, 0), (63, .iload_n 2, 1, 0, 0, 0, 0), (64, .iconst 1, 1, 1, 0, 0, 0), (65, .iastore, 1, 0, 0, 0, 0), (66, .iload 5, 2, 0, 0, 0, 0), (68, .aload_n 0, 1, 0, 0, 0, 0), (69, .iload_n 1, 1, 0, 0, 0, 0), (70, .iload_n 3, 1, 0, 0, 0, 0), (71, .invokevirtual 212, 3, 0, 0, 0, 0), (74, .isub, 1, 0, 0, 0, 0), (75, .istore 5, 2, 0, 0, 0, 0), (77, .aload_n 0, 1, 0, 0, 0, 0), (78, .getfield 25, 3, 0, 5, 5, 0), (81, .iload_n 2, 1, 0, 0, 0, 0), (82, .iload 6, 2, 0, 0, 0, 0), (84, .iastore, 1, 0, 0, 0, 0), (85, .iload 5, 2, 0, 0, 0, 0), (87, .ireturn, 1, 0, 0, 0, 0)]
abbrev Y6_eased : MethodName := ⟨"GingerArmyModel", "eased", "(III)I"⟩
abbrev M6_eased : MethT := (6, C6_eased, prog_8_method_100_code, 7, (some .int), Y6_eased)
abbrev C6_officers : List CE := [(0, .iload_n 1, 1, 0, 0, 0, 0), (1, .iconst 0, 1, 0, 0, 0, 0), (2, .iconst 5, 1, 5, 0, 0, 0), (3, .invokestatic 80, 3, 0, 0, 0, 0), (6, .ifCond .ne 10, 3, 0, 16, 0, 0), (9, .aload_n 0, 1, 0, 0, 0, 0), (10, .bipush (-2), 2, -2, 0, 0, 0), (12, .invokevirtual 69, 3, 0, 0, 0, 0), (15, .ireturn, 1, 0, 0, 0, 0), (16, .iconst 0, 1, 0, 0, 0, 0), (17, .istore_n 2, 1, 0, 0, 0, 0), (18, .iconst 0, 1, 0, 0, 0, 0), (19, .istore_n 3, 1, 0, 0, 0, 0), (20, .iload_n 3, 1, 0, 0, 0, 0), (21, .aload_n 0, 1, 0, 0, 0, 0), (22, .getfield 59, 3, 0, 5, 7, 0), (25, .if_icmp .ge 35, 3, 0, 60, 0, 0), (28, .iload_n 2, 1, 0, 0, 0, 0), (29, .aload_n 0, 1, 0, 0, 0, 0), (30, .iload_n 3, 1, 0, 0, 0, 0), (31, .invokevirtual 108, 3, 0, 0, 0, 0), (34, .ifCond .eq 17, 3, 0, 51, 0, 0), (37, .aload_n 0, 1, 0, 0, 0, 0), (38, .getfield 13, 3, 0, 5, 1, 0), (41, .iload_n 3, 1, 0, 0, 0, 0), (42, .iaload, 1, 0, 0, 0, 0), (43, .iload_n 1, 1, 0, 0, 0, 0), (44, .if_icmp .ne 7, 3, 0, 51, 0, 0), (47, .iconst 1, 1, 1, 0, 0, 0), (48, .goto 4, 3, 0, 52, 0, 0), (51, .iconst 0, 1, 0, 0, 0, 0), (52, .iadd, 1, 0, 0, 0, 0), (53, .istore_n 2, 1, 0, 0, 0, 0), (54, .iinc 3 1, 3, 1, 0, 0, 0), (57, .goto (-37), 3, 0, 20, 0, 0), (60, .iload_n 2, 1, 0, 0, 0, 0), (61, .ireturn, 1, 0, 0, 0, 0)]
abbrev Y6_officers : MethodName := ⟨"GingerArmyModel", "officers", "(I)I"⟩
abbrev M6_officers : MethT := (6, C6_officers, prog_8_method_101_code, 4, (some .int), Y6_officers)
abbrev C6_row : List CE := [(0, .iload_n 1, 1, 0, 0, 0, 0), (1, .iconst 0, 1, 0, 0, 0, 0), (2, .bipush 99, 2, 99, 0, 0, 0), (4, .invokestatic 62, 3, 0, 0, 0, 0), (7, .istore_n 2, 1, 0, 0, 0, 0), (8, .iload_n 2, 1, 0, 0, 0, 0), (9, .ifCond .ne 15, 3, 0, 24, 0, 0), (12, .aload_n 0, 1, 0, 0, 0, 0), (13, .getfield 244, 3, 0, 5, 24, 0), (16, .bipush 12, 2, 12, 0, 0, 0), (18, .if_icmp .ne 6, 3, 0, 24, 0, 0), (21, .bipush (-6), 2, -6, 0, 0, 0), (23, .istore_n 2, 1, 0, 0, 0, 0), (24, .iload_n 2, 1, 0, 0, 0, 0), (25, .ifCond .eq 9, 3, 0, 34, 0, 0), (28, .aload_n 0, 1, 0, 0, 0, 0), (29, .iload_n 2, 1, 0, 0, 0, 0), (30, .invokevirtual 69, 3, 0, 0, 0, 0), (33, .ireturn, 1, 0, 0, 0, 0), (34, .aload_n 0, 1, 0, 0, 0, 0), (35, .getfield 46, 3, 0, 5, 23, 0), (38, .aload_n 0, 1, 0, 0, 0, 0), (39, .getfield 244, 3, 0, 5, 24, 0), (42, .iload_n 1, 1, 0, 0, 0, 0), (43, .iastore, 1, 0, 0, 0, 0), (44, .aload_n 0, 1, 0, 0, 0, 0), (45, .dup, 1, 0, 0, 0, 0), (46, .getfield 244, 3, 0, 5, 24, 0), (49, .iconst 1, 1, 1, 0, 0, 0), (50, .iadd, 1, 0, 0, 0, 0), (51, .putfield 244, 3, 0, 5, 24, 0), (54, .aload_n 0, 1, 0, 0, 0, 0), (55, .getfield 244, 3, 0, 5, 24, 0), (58, .ireturn, 1, 0, 0, 0, 0)]
abbrev Y6_row : MethodName := ⟨"GingerArmyModel", "row", "(I)I"⟩
abbrev M6_row : MethT := (6, C6_row, prog_8_method_102_code, 3, (some .int), Y6_row)
abbrev C6_judge : List CE := [(0, .aload_n 0, 1, 0, 0, 0, 0), (1, .getfield 244, 3, 0, 5, 24, 0), (4, .istore_n 1, 1, 0, 0, 0, 0), (5, .aload_n 0, 1, 0, 0, 0, 0), (6, .iconst 0, 1, 0, 0, 0, 0), (7, .putfield 244, 3, 0, 5, 24, 0), (10, .iconst 0, 1, 0, 0, 0, 0), (11, .istore_n 2, 1, 0, 0, 0, 0), (12, .iload_n 2, 1, 0, 0, 0, 0), (13, .iload_n 1, 1, 0, 0, 0, 0), (14, .if_icmp .ge 34, 3, 0, 48, 0, 0), (17, .iload_n 2, 1, 0, 0, 0, 0), (18, .aload_n 0, 1, 0, 0, 0, 0), (19, .getfield 59, 3, 0, 5, 7, 0), (22, .if_icmp .ge 18, 3, 0, 40, 0, 0), (25, .aload_n 0, 1, 0, 0, 0, 0), (26, .getfield 22, 3, 0, 5, 4, 0), (29, .iload_n 2, 1, 0, 0, 0, 0), (30, .iaload, 1, 0, 0, 0, 0), (31, .aload_n 0, 1, 0, 0, 0, 0), (32, .getfield 46, 3, 0, 5, 23, 0), (35, .iload_n 2, 1, 0, 0, 0, 0), (36, .iaload, 1, 0, 0, 0, 0), (37, .if_icmp .eq 5, 3, 0, 42, 0, 0), (40, .iload_n 2, 1, 0, 0, 0, 0), (41, .ireturn, 1, 0, 0, 0, 0), (42, .iinc 2 1, 3, 1, 0, 0, 0), (45, .goto (-33), 3, 0, 12, 0, 0), (48, .bipush (-9), 2, -9, 0, 0, 0), (50, .ireturn, 1, 0, 0, 0, 0)]
abbrev Y6_judge : MethodName := ⟨"GingerArmyModel", "judge", "()I"⟩
abbrev M6_judge : MethT := (6, C6_judge, prog_8_method_103_code, 3, (some .int), Y6_judge)
abbrev C6_clear : List CE := [(0, .aload_n 0, 1, 0, 0, 0, 0), (1, .getfield 244, 3, 0, 5, 24, 0), (4, .istore_n 1, 1, 0, 0, 0, 0), (5, .aload_n 0, 1, 0, 0, 0, 0), (6, .iconst 0, 1, 0, 0, 0, 0), (7, .putfield 244, 3, 0, 5, 24, 0), (10, .iload_n 1, 1, 0, 0, 0, 0), (11, .ireturn, 1, 0, 0, 0, 0)]
abbrev Y6_clear : MethodName := ⟨"GingerArmyModel", "clear", "()I"⟩
abbrev M6_clear : MethT := (6, C6_clear, prog_8_method_104_code, 2, (some .int), Y6_clear)
abbrev C6_draw : List CE := [(0, .aload_n 0, 1, 0, 0, 0, 0), (1, .aload_n 0, 1, 0, 0, 0, 0), (2, .getfield 296, 3, 0, 5, 26, 0), (5, .ldc_w 299, 3, 1103515245, 0, 0, 0), (8, .imul, 1, 0, 0, 0, 0), (9, .sipush 12345, 3, 12345, 0, 0, 0), (12, .iadd, 1, 0, 0, 0, 0), (13, .putfield 296, 3, 0, 5, 26, 0), (16, .aload_n 0, 1, 0, 0, 0, 0), (17, .getfield 296, 3, 0, 5, 26, 0), (20, .ldc_w 300, 3, 2147483647, 0, 0, 0), (23, .iand, 1, 0, 0, 0, 0), (24, .ldc_w 301, 3, 65536, 0, 0, 0), (27, .idiv, 1, 0, 0, 0, 0), (28, .iload_n 1, 1, 0, 0, 0, 0), (29, .irem, 1, 0, 0, 0, 0), (30, .ireturn, 1, 0, 0, 0, 0)]
abbrev Y6_draw : MethodName := ⟨"GingerArmyModel", "draw", "(I)I"⟩
abbrev M6_draw : MethT := (6, C6_draw, prog_8_method_105_code, 2, (some .int), Y6_draw)
abbrev C6_lots : List CE := [(0, .iload_n 1, 1, 0, 0, 0, 0), (1, .iconst 1, 1, 1, 0, 0, 0), (2, .bipush 20, 2, 20, 0, 0, 0), (4, .invokestatic 62, 3, 0, 0, 0, 0), (7, .istore 4, 2, 0, 0, 0, 0), (9, .iload 4, 2, 0, 0, 0, 0), (11, .ifCond .ne 16, 3, 0, 27, 0, 0), (14, .iload_n 3, 1, 0, 0, 0, 0), (15, .iconst 0, 1, 0, 0, 0, 0), (16, .iconst 1, 1, 1, 0, 0, 0), (17, .invokestatic 80, 3, 0, 0, 0, 0), (20, .ifCond .ne 7, 3, 0, 27, 0, 0), (23, .bipush (-2), 2, -2, 0, 0, 0), (25, .istore 4, 2, 0, 0, 0, 0), (27, .iload 4, 2, 0, 0, 0, 0), (29, .ifCond .eq 10, 3, 0, 39, 0, 0), (32, .aload_n 0, 1, 0, 0, 0, 0), (33, .iload 4, 2, 0, 0, 0, 0), (35, .invokevirtual 69, 3, 0, 0, 0, 0), (38, .ireturn, 1, 0, 0, 0, 0), (39, .aload_n 0, 1, 0, 0, 0, 0), (40, .iload_n 2, 1, 0, 0, 0, 0), (41, .putfield 296, 3, 0, 5, 26, 0), (44, .iconst 0, 1, 0, 0, 0, 0), (45, .istore 5, 2, 0, 0, 0, 0), (47, .iconst 0, 1, 0, 0, 0, 0), (48, .istore 6, 2, 0, 0, 0, 0), (50, .iload 6, 2, 0, 0, 0, 0), (52, .iload_n 1, 1, 0, 0, 0, 0), (53, .if_icmp .ge 70, 3, 0, 123, 0, 0), (56, .aload_n 0, 1, 0, 0, 0, 0), (57, .invokevirtual 203, 3, 0, 0, 0, 0), (60, .iconst 0, 1, 0, 0, 0, 0), (61, .istore 7, 2, 0, 0, 0, 0), (63, .iload 7, 2, 0, 0, 0, 0), (65, .bipush 10, 2, 10, 0, 0, 0), (67, .if_icmp .ge 23, 3, 0, 90, 0, 0), (70, .aload_n 0, 1, 0, 0, 0, 0), (71, .aload_n 0, 1, 0, 0, 0, 0), (72, .bipush 10, 2, 10, 0, 0, 0), (74, .invokevirtual 302, 3, 0, 0, 0, 0), (77, .putfield 121, 3, 0, 5, 9, 0), (80, .aload_n 0, 1, 0, 0, 0, 0), (81, .invokevirtual 188, 3, 0, 0, 0, 0), (84, .iinc 7 1, 3, 1, 0, 0, 0), (87, .goto (-24), 3, 0, 63, 0, 0), (90, .iload 5, 2, 0, 0, 0, 0), (92, .iload_n 3, 1, 0, 0, 0, 0), (93, .ifCond .ne 13, 3, 0, 106, 0, 0), (96, .aload_n 0, 1, 0, 0, 0, 0), (97, .invokevirtual 197, 3, 0, 0, 0, 0), (100, .invokestatic 200, 3, 0, 0, 0, 0), (103, .goto 7, 3, 0, 110, 0, 0), (106, .aload_n 0, 1, 0, 0, 0, 0), (107, .invokevirtual 216, 3, 0, 0, 0, 0), (110, .iadd, 1, 0, 0, 0, 0), (111, .istore 5, 2, 0, 0, 0, 0), (113, .aload_n 0, 1, 0, 0, 0, 0), (114, .invokevirtual 206, 3, 0, 0, 0, 0), (117, .iinc 6 1, 3, 1, 0, 0, 0), (120, .goto (-70), 3, 0, 50, 0, 0), (123, .iload 5, 2, 0, 0, 0, 0), (125, .ireturn, 1, 0, 0, 0, 0)]
abbrev Y6_lots : MethodName := ⟨"GingerArmyModel", "lots", "(III)I"⟩
abbrev M6_lots : MethT := (6, C6_lots, prog_8_method_106_code, 8, (some .int), Y6_lots)
abbrev C6_count : List CE := [(0, .iload_n 1, 1, 0, 0, 0, 0), (1, .bipush 11, 2, 11, 0, 0, 0), (3, .bipush 16, 2, 16, 0, 0, 0), (5, .invokestatic 80, 3, 0, 0, 0, 0), (8, .ifCond .eq 13, 3, 0, 21, 0, 0), (11, .aload_n 0, 1, 0, 0, 0, 0), (12, .getfield 7, 3, 0, 5, 0, 0), (15, .iload_n 1, 1, 0, 0, 0, 0), (16, .bipush 10, 2, 10, 0, 0, 0), (18, .isub, 1, 0, 0, 0, 0), (19, .iaload, 1, 0, 0, 0, 0), (20, .ireturn, 1, 0, 0, 0, 0), (21, .iload_n 1, 1, 0, 0, 0, 0), (22, .tableswitch 95 0 8 #[50, 55, 60, 65, 70, 75, 80, 85, 90], 50, 0, 0, 0, 0), (72, .aload_n 0, 1, 0, 0, 0, 0), (73, .getfield 59, 3, 0, 5, 7, 0), (76, .ireturn, 1, 0, 0, 0, 0), (77, .aload_n 0, 1, 0, 0, 0, 0), (78, .getfield 111, 3, 0, 5, 10, 0), (81, .ireturn, 1, 0, 0, 0, 0), (82, .aload_n 0, 1, 0, 0, 0, 0), (83, .getfield 52, 3, 0, 5, 8, 0), (86, .ireturn, 1, 0, 0, 0, 0), (87, .aload_n 0, 1, 0, 0, 0, 0), (88, .getfield 121, 3, 0, 5, 9, 0), (91, .ireturn, 1, 0, 0, 0, 0), (92, .aload_n 0, 1, 0, 0, 0, 0), (93, .invokevirtual 197, 3, 0, 0, 0, 0), (96, .ireturn, 1, 0, 0, 0, 0), (97, .aload_n 0, 1, 0, 0, 0, 0), (98, .invokevirtual 216, 3, 0, 0, 0, 0), (101, .ireturn, 1, 0, 0, 0, 0), (102, .aload_n 0, 1, 0, 0, 0, 0), (103, .getfield 66, 3, 0, 5, 15, 0), (106, .ireturn, 1, 0, 0, 0, 0), (107, .aload_n 0, 1, 0, 0, 0, 0), (108, .getfield 244, 3, 0, 5, 24, 0), (111, .ireturn, 1, 0, 0, 0, 0), (112, .aload_n 0, 1, 0, 0, 0, 0), (113, .getfield 141, 3, 0, 5, 22, 0), (116, .ireturn, 1, 0, 0, 0, 0), (117, .bipush (-9), 2, -9, 0, 0, 0), (119, .ireturn, 1, 0, 0, 0, 0)]
abbrev Y6_count : MethodName := ⟨"GingerArmyModel", "count", "(I)I"⟩
abbrev M6_count : MethT := (6, C6_count, prog_8_method_107_code, 2, (some .int), Y6_count)
abbrev CJ_bitCount : List CE := [(0, .iload_n 0, 1, 0, 0, 0, 0), (1, .iload_n 0, 1, 0, 0, 0, 0), (2, .iconst 1, 1, 1, 0, 0, 0), (3, .iushr, 1, 0, 0, 0, 0), (4, .ldc_w 265, 3, 1431655765, 0, 0, 0), (7, .iand, 1, 0, 0, 0, 0), (8, .isub, 1, 0, 0, 0, 0), (9, .istore_n 0, 1, 0, 0, 0, 0), (10, .iload_n 0, 1, 0, 0, 0, 0), (11, .ldc_w 266, 3, 858993459, 0, 0, 0), (14, .iand, 1, 0, 0, 0, 0), (15, .iload_n 0, 1, 0, 0, 0, 0), (16, .iconst 2, 1, 2, 0, 0, 0), (17, .iushr, 1, 0, 0, 0, 0), (18, .ldc_w 266, 3, 858993459, 0, 0, 0), (21, .iand, 1, 0, 0, 0, 0), (22, .iadd, 1, 0, 0, 0, 0), (23, .istore_n 0, 1, 0, 0, 0, 0), (24, .iload_n 0, 1, 0, 0, 0, 0), (25, .iload_n 0, 1, 0, 0, 0, 0), (26, .iconst 4, 1, 4, 0, 0, 0), (27, .iushr, 1, 0, 0, 0, 0), (28, .iadd, 1, 0, 0, 0, 0), (29, .ldc_w 267, 3, 252645135, 0, 0, 0), (32, .iand, 1, 0, 0, 0, 0), (33, .istore_n 0, 1, 0, 0, 0, 0), (34, .iload_n 0, 1, 0, 0, 0, 0), (35, .iload_n 0, 1, 0, 0, 0, 0), (36, .bipush 8, 2, 8, 0, 0, 0), (38, .iushr, 1, 0, 0, 0, 0), (39, .iadd, 1, 0, 0, 0, 0), (40, .istore_n 0, 1, 0, 0, 0, 0), (41, .iload_n 0, 1, 0, 0, 0, 0), (42, .iload_n 0, 1, 0, 0, 0, 0), (43, .bipush 16, 2, 16, 0, 0, 0), (45, .iushr, 1, 0, 0, 0, 0), (46, .iadd, 1, 0, 0, 0, 0), (47, .istore_n 0, 1, 0, 0, 0, 0), (48, .iload_n 0, 1, 0, 0, 0, 0), (49, .bipush 63, 2, 63, 0, 0, 0), (51, .iand, 1, 0, 0, 0, 0), (52, .ireturn, 1, 0, 0, 0, 0)]
abbrev YJ_bitCount : MethodName := ⟨"java/lang/Integer", "bitCount", "(I)I"⟩
abbrev MJ_bitCount : MethT := (7, CJ_bitCount, prog_9_method_49_code, 1, (some .int), YJ_bitCount)
abbrev CJ_abs : List CE := [(0, .iload_n 0, 1, 0, 0, 0, 0), (1, .ifCond .ge 8, 3, 0, 9, 0, 0), (4, .iload_n 0, 1, 0, 0, 0, 0), (5, .ineg, 1, 0, 0, 0, 0), (6, .goto 4, 3, 0, 10, 0, 0), (9, .iload_n 0, 1, 0, 0, 0, 0), (10, .ireturn, 1, 0, 0, 0, 0)]
abbrev YJ_abs : MethodName := ⟨"java/lang/Math", "abs", "(I)I"⟩
abbrev MJ_abs : MethT := (8, CJ_abs, prog_10_method_59_code, 1, (some .int), YJ_abs)
abbrev CJ_max : List CE := [(0, .iload_n 0, 1, 0, 0, 0, 0), (1, .iload_n 1, 1, 0, 0, 0, 0), (2, .if_icmp .lt 7, 3, 0, 9, 0, 0), (5, .iload_n 0, 1, 0, 0, 0, 0), (6, .goto 4, 3, 0, 10, 0, 0), (9, .iload_n 1, 1, 0, 0, 0, 0), (10, .ireturn, 1, 0, 0, 0, 0)]
abbrev YJ_max : MethodName := ⟨"java/lang/Math", "max", "(II)I"⟩
abbrev MJ_max : MethT := (8, CJ_max, prog_10_method_65_code, 2, (some .int), YJ_max)
abbrev CJ_min : List CE := [(0, .iload_n 0, 1, 0, 0, 0, 0), (1, .iload_n 1, 1, 0, 0, 0, 0), (2, .if_icmp .gt 7, 3, 0, 9, 0, 0), (5, .iload_n 0, 1, 0, 0, 0, 0), (6, .goto 4, 3, 0, 10, 0, 0), (9, .iload_n 1, 1, 0, 0, 0, 0), (10, .ireturn, 1, 0, 0, 0, 0)]
abbrev YJ_min : MethodName := ⟨"java/lang/Math", "min", "(II)I"⟩
abbrev MJ_min : MethT := (8, CJ_min, prog_10_method_69_code, 2, (some .int), YJ_min)
abbrev CL_law : List CE := [(0, .new 7, 3, 0, 0, 0, 0), (3, .dup, 1, 0, 0, 0, 0), (4, .invokespecial 9, 3, 0, 0, 0, 0), (7, .astore_n 1, 1, 0, 0, 0, 0), (8, .new 10, 3, 0, 0, 0, 0), (11, .dup, 1, 0, 0, 0, 0), (12, .invokespecial 12, 3, 0, 0, 0, 0), (15, .astore_n 2, 1, 0, 0, 0, 0), (16, .iconst 0, 1, 0, 0, 0, 0), (17, .istore_n 3, 1, 0, 0, 0, 0), (18, .iload_n 3, 1, 0, 0, 0, 0), (19, .aload_n 0, 1, 0, 0, 0, 0), (20, .arraylength, 1, 0, 0, 0, 0), (21, .iconst 5, 1, 5, 0, 0, 0), (22, .isub, 1, 0, 0, 0, 0), (23, .if_icmp .gt 1324, 3, 0, 1347, 0, 0), (26, .aload_n 0, 1, 0, 0, 0, 0), (27, .iload_n 3, 1, 0, 0, 0, 0), (28, .iaload, 1, 0, 0, 0, 0), (29, .bipush 63, 2, 63, 0, 0, 0), (31, .iand, 1, 0, 0, 0, 0), (32, .tableswitch 1309 0 42 #[188, 211, 224, 257, 280, 323, 356, 379, 402, 425, 438, 471, 504, 527, 540, 563, 586, 619, 642, 675, 698, 741, 774, 797, 810, 823, 856, 899, 953, 986, 1009, 1032, 1056, 1079, 1102, 1145, 1168, 1191, 1204, 1217, 1260, 1273, 1286], 188, 0, 0, 0, 0), (220, .aload_n 1, 1, 0, 0, 0, 0), (221, .aload_n 0, 1, 0, 0, 0, 0), (222, .iload_n 3, 1, 0, 0, 0, 0), (223, .iconst 1, 1, 1, 0, 0, 0), (224, .iadd, 1, 0, 0, 0, 0), (225, .iaload, 1, 0, 0, 0, 0), (226, .invokevirtual 13, 3, 0, 0, 0, 0), (229, .aload_n 2, 1, 0, 0, 0, 0), (230, .aload_n 0, 1, 0, 0, 0, 0), (231, .iload_n 3, 1, 0, 0, 0, 0), (232, .iconst 1, 1, 1, 0, 0, 0), (233, .iadd, 1, 0, 0, 0, 0), (234, .iaload, 1, 0, 0, 0, 0), (235, .invokevirtual 17, 3, 0, 0, 0, 0), (238, .if_icmp .eq 1103, 3, 0, 1341, 0, 0), (241, .iconst 0, 1, 0, 0, 0, 0), (242, .ireturn, 1, 0, 0, 0, 0), (243, .aload_n 1, 1, 0, 0, 0, 0), (244, .invokevirtual 18, 3, 0, 0, 0, 0), (247, .aload_n 2, 1, 0, 0, 0, 0), (248, .invokevirtual 22, 3, 0, 0, 0, 0), (251, .if_icmp .eq 1090, 3, 0, 1341, 0, 0), (254, .iconst 0, 1, 0, 0, 0, 0), (255, .ireturn, 1, 0, 0, 0, 0), (256, .aload_n 1, 1, 0, 0, 0, 0), (257, .aload_n 0, 1, 0, 0, 0, 0), (258, .iload_n 3, 1, 0, 0, 0, 0), (259, .iconst 1, 1, 1, 0, 0, 0), (260, .iadd, 1, 0, 0, 0, 0), (261, .iaload, 1, 0, 0, 0, 0), (262, .aload_n 0, 1, 0, 0, 0, 0), (263, .iload_n 3, 1, 0, 0, 0, 0), (264, .iconst 2, 1, 2, 0, 0, 0), (265, .iadd, 1, 0, 0, 0, 0), (266, .iaload, 1, 0, 0, 0, 0), (267, .invokevirtual 23, 3, 0, 0, 0, 0), (270, .aload_n 2, 1, 0, 0, 0, 0), (271, .aload_n 0, 1, 0, 0, 0, 0), (272, .iload_n 3, 1, 0, 0, 0, 0), (273, .iconst 1, 1, 1, 0, 0, 0), (274, .iadd, 1, 0, 0, 0, 0), (275, .iaload, 1, 0, 0, 0, 0), (276, .aload_n 0, 1, 0, 0, 0, 0), (277, .iload_n 3, 1, 0, 0, 0, 0), (278, .iconst 2, 1, 2, 0, 0, 0), (279, .iadd, 1, 0, 0, 0, 0), (280, .iaload, 1, 0, 0, 0, 0), (281, .invokevirtual 27, 3, 0, 0, 0, 0), (284, .if_icmp .eq 1057, 3, 0, 1341, 0, 0), (287, .iconst 0, 1, 0, 0, 0, 0), (288, .ireturn, 1, 0, 0, 0, 0), (289, .aload_n 1, 1, 0, 0, 0, 0), (290, .aload_n 0, 1, 0, 0, 0, 0), (291, .iload_n 3, 1, 0, 0, 0, 0), (292, .iconst 1, 1, 1, 0, 0, 0), (293, .iadd, 1, 0, 0, 0, 0), (294, .iaload, 1, 0, 0, 0, 0), (295, .invokevirtual 28, 3, 0, 0, 0, 0), (298, .aload_n 2, 1, 0, 0, 0, 0), (299, .aload_n 0, 1, 0, 0, 0, 0), (300, .iload_n 3, 1, 0, 0, 0, 0), (301, .iconst 1, 1, 1, 0, 0, 0), (302, .iadd, 1, 0, 0, 0, 0), (303, .iaload, 1, 0, 0, 0, 0), (304, .invokevirtual 31, 3, 0, 0, 0, 0), (307, .if_icmp .eq 1034, 3, 0, 1341, 0, 0), (310, .iconst 0, 1, 0, 0, 0, 0), (311, .ireturn, 1, 0, 0, 0, 0), (312, .aload_n 1, 1, 0, 0, 0, 0), (313, .aload_n 0, 1, 0, 0, 0, 0), (314, .iload_n 3, 1, 0, 0, 0, 0), (315, .iconst 1, 1, 1, 0, 0, 0), (316, .iadd, 1, 0, 0, 0, 0), (317, .iaload, 1, 0, 0, 0, 0), (318, .aload_n 0, 1, 0, 0, 0, 0), (319, .iload_n 3, 1, 0, 0, 0, 0), (320, .iconst 2, 1, 2, 0, 0, 0), (321, .iadd, 1, 0, 0, 0, 0), (322, .iaload, 1, 0, 0, 0, 0), (323, .aload_n 0, 1, 0, 0, 0, 0), (324, .iload_n 3, 1, 0, 0, 0, 0), (325, .iconst 3, 1, 3, 0, 0, 0), (326, .iadd, 1, 0, 0, 0, 0), (327, .iaload, 1, 0, 0, 0, 0), (328, .invokevirtual 32, 3, 0, 0, 0, 0), (331, .aload_n 2, 1, 0, 0, 0, 0), (332, .aload_n 0, 1, 0, 0, 0, 0), (333, .iload_n 3, 1, 0, 0, 0, 0), (334, .iconst 1, 1, 1, 0, 0, 0), (335, .iadd, 1, 0, 0, 0, 0), (336, .iaload, 1, 0, 0, 0, 0), (337, .aload_n 0, 1, 0, 0, 0, 0), (338, .iload_n 3, 1, 0, 0, 0, 0), (339, .iconst 2, 1, 2, 0, 0, 0), (340, .iadd, 1, 0, 0, 0, 0), (341, .iaload, 1, 0, 0, 0, 0), (342, .aload_n 0, 1, 0, 0, 0, 0), (343, .iload_n 3, 1, 0, 0, 0, 0), (344, .iconst 3, 1, 3, 0, 0, 0), (345, .iadd, 1, 0, 0, 0, 0), (346, .iaload, 1, 0, 0, 0, 0), (347, .invokevirtual 36, 3, 0, 0, 0, 0), (350, .if_icmp .eq 991, 3, 0, 1341, 0, 0), (353, .iconst 0, 1, 0, 0, 0, 0), (354, .ireturn, 1, 0, 0, 0, 0), (355, .aload_n 1, 1, 0, 0, 0, 0), (356, .aload_n 0, 1, 0, 0, 0, 0), (357, .iload_n 3, 1, 0, 0, 0, 0), (358, .iconst 1, 1, 1, 0, 0, 0), (359, .iadd, 1, 0, 0, 0, 0), (360, .iaload, 1, 0, 0, 0, 0), (361, .aload_n 0, 1, 0, 0, 0, 0), (362, .iload_n 3, 1, 0, 0, 0, 0), (363, .iconst 2, 1, 2, 0, 0, 0), (364, .iadd, 1, 0, 0, 0, 0), (365, .iaload, 1, 0, 0, 0, 0), (366, .invokevirtual 37, 3, 0, 0, 0, 0), (369, .aload_n 2, 1, 0, 0, 0, 0), (370, .aload_n 0, 1, 0, 0, 0, 0), (371, .iload_n 3, 1, 0, 0, 0, 0), (372, .iconst 1, 1, 1, 0, 0, 0), (373, .iadd, 1, 0, 0, 0, 0), (374, .iaload, 1, 0, 0, 0, 0), (375, .aload_n 0, 1, 0, 0, 0, 0), (376, .iload_n 3, 1, 0, 0, 0, 0), (377, .iconst 2, 1, 2, 0, 0, 0), (378, .iadd, 1, 0, 0, 0, 0), (379, .iaload, 1, 0, 0, 0, 0), (380, .invokevirtual 40, 3, 0, 0, 0, 0), (383, .if_icmp .eq 958, 3, 0, 1341, 0, 0), (386, .iconst 0, 1, 0, 0, 0, 0), (387, .ireturn, 1, 0, 0, 0, 0), (388, .aload_n 1, 1, 0, 0, 0, 0), (389, .aload_n 0, 1, 0, 0, 0, 0), (390, .iload_n 3, 1, 0, 0, 0, 0), (391, .iconst 1, 1, 1, 0, 0, 0), (392, .iadd, 1, 0, 0, 0, 0), (393, .iaload, 1, 0, 0, 0, 0), (394, .invokevirtual 41, 3, 0, 0, 0, 0), (397, .aload_n 2, 1, 0, 0, 0, 0), (398, .aload_n 0, 1, 0, 0, 0, 0), (399, .iload_n 3, 1, 0, 0, 0, 0), (400, .iconst 1, 1, 1, 0, 0, 0), (401, .iadd, 1, 0, 0, 0, 0), (402, .iaload, 1, 0, 0, 0, 0), (403, .invokevirtual 44, 3, 0, 0, 0, 0), (406, .if_icmp .eq 935, 3, 0, 1341, 0, 0), (409, .iconst 0, 1, 0, 0, 0, 0), (410, .ireturn, 1, 0, 0, 0, 0), (411, .aload_n 1, 1, 0, 0, 0, 0), (412, .aload_n 0, 1, 0, 0, 0, 0), (413, .iload_n 3, 1, 0, 0, 0, 0), (414, .iconst 1, 1, 1, 0, 0, 0), (415, .iadd, 1, 0, 0, 0, 0), (416, .iaload, 1, 0, 0, 0, 0), (417, .invokevirtual 45, 3, 0, 0, 0, 0), (420, .aload_n 2, 1, 0, 0, 0, 0), (421, .aload_n 0, 1, 0, 0, 0, 0), (422, .iload_n 3, 1, 0, 0, 0, 0), (423, .iconst 1, 1, 1, 0, 0, 0), (424, .iadd, 1, 0, 0, 0, 0), (425, .iaload, 1, 0, 0, 0, 0), (426, .invokevirtual 48, 3, 0, 0, 0, 0), (429, .if_icmp .eq 912, 3, 0, 1341, 0, 0), (432, .iconst 0, 1, 0, 0, 0, 0), (433, .ireturn, 1, 0, 0, 0, 0), (434, .aload_n 1, 1, 0, 0, 0, 0), (435, .aload_n 0, 1, 0, 0, 0, 0), (436, .iload_n 3, 1, 0, 0, 0, 0), (437, .iconst 1, 1, 1, 0, 0, 0), (438, .iadd, 1, 0, 0, 0, 0), (439, .iaload, 1, 0, 0, 0, 0), (440, .invokevirtual 49, 3, 0, 0, 0, 0), (443, .aload_n 2, 1, 0, 0, 0, 0), (444, .aload_n 0, 1, 0, 0, 0, 0), (445, .iload_n 3, 1, 0, 0, 0, 0), (446, .iconst 1, 1, 1, 0, 0, 0), (447, .iadd, 1, 0, 0, 0, 0), (448, .iaload, 1, 0, 0, 0, 0), (449, .invokevirtual 52, 3, 0, 0, 0, 0), (452, .if_icmp .eq 889, 3, 0, 1341, 0, 0), (455, .iconst 0, 1, 0, 0, 0, 0), (456, .ireturn, 1, 0, 0, 0, 0), (457, .aload_n 1, 1, 0, 0, 0, 0), (458, .invokevirtual 53, 3, 0, 0, 0, 0), (461, .aload_n 2, 1, 0, 0, 0, 0), (462, .invokevirtual 56, 3, 0, 0, 0, 0), (465, .if_icmp .eq 876, 3, 0, 1341, 0, 0), (468, .iconst 0, 1, 0, 0, 0, 0), (469, .ireturn, 1, 0, 0, 0, 0), (470, .aload_n 1, 1, 0, 0, 0, 0), (471, .aload_n 0, 1, 0, 0, 0, 0), (472, .iload_n 3, 1, 0, 0, 0, 0), (473, .iconst 1, 1, 1, 0, 0, 0), (474, .iadd, 1, 0, 0, 0, 0), (475, .iaload, 1, 0, 0, 0, 0), (476, .aload_n 0, 1, 0, 0, 0, 0), (477, .iload_n 3, 1, 0, 0, 0, 0), (478, .iconst 2, 1, 2, 0, 0, 0), (479, .iadd, 1, 0, 0, 0, 0), (480, .iaload, 1, 0, 0, 0, 0), (481, .invokevirtual 57, 3, 0, 0, 0, 0), (484, .aload_n 2, 1, 0, 0, 0, 0), (485, .aload_n 0, 1, 0, 0, 0, 0), (486, .iload_n 3, 1, 0, 0, 0, 0), (487, .iconst 1, 1, 1, 0, 0, 0), (488, .iadd, 1, 0, 0, 0, 0), (489, .iaload, 1, 0, 0, 0, 0), (490, .aload_n 0, 1, 0, 0, 0, 0), (491, .iload_n 3, 1, 0, 0, 0, 0), (492, .iconst 2, 1, 2, 0, 0, 0), (493, .iadd, 1, 0, 0, 0, 0), (494, .iaload, 1, 0, 0, 0, 0), (495, .invokevirtual 60, 3, 0, 0, 0, 0), (498, .if_icmp .eq 843, 3, 0, 1341, 0, 0), (501, .iconst 0, 1, 0, 0, 0, 0), (502, .ireturn, 1, 0, 0, 0, 0), (503, .aload_n 1, 1, 0, 0, 0, 0), (504, .aload_n 0, 1, 0, 0, 0, 0), (505, .iload_n 3, 1, 0, 0, 0, 0), (506, .iconst 1, 1, 1, 0, 0, 0), (507, .iadd, 1, 0, 0, 0, 0), (508, .iaload, 1, 0, 0, 0, 0), (509, .aload_n 0, 1, 0, 0, 0, 0), (510, .iload_n 3, 1, 0, 0, 0, 0), (511, .iconst 2, 1, 2, 0, 0, 0), (512, .iadd, 1, 0, 0, 0, 0), (513, .iaload, 1, 0, 0, 0, 0), (514, .invokevirtual 61, 3, 0, 0, 0, 0), (517, .aload_n 2, 1, 0, 0, 0, 0), (518, .aload_n 0, 1, 0, 0, 0, 0), (519, .iload_n 3, 1, 0, 0, 0, 0), (520, .iconst 1, 1, 1, 0, 0, 0), (521, .iadd, 1, 0, 0, 0, 0), (522, .iaload, 1, 0, 0, 0, 0), (523, .aload_n 0, 1, 0, 0, 0, 0), (524, .iload_n 3, 1, 0, 0, 0, 0), (525, .iconst 2, 1, 2, 0, 0, 0), (526, .iadd, 1, 0, 0, 0, 0), (527, .iaload, 1, 0, 0, 0, 0), (528, .invokevirtual 64, 3, 0, 0, 0, 0), (531, .if_icmp .eq 810, 3, 0, 1341, 0, 0), (534, .iconst 0, 1, 0, 0, 0, 0), (535, .ireturn, 1, 0, 0, 0, 0), (536, .aload_n 1, 1, 0, 0, 0, 0), (537, .aload_n 0, 1, 0, 0, 0, 0), (538, .iload_n 3, 1, 0, 0, 0, 0), (539, .iconst 1, 1, 1, 0, 0, 0), (540, .iadd, 1, 0, 0, 0, 0), (541, .iaload, 1, 0, 0, 0, 0), (542, .invokevirtual 65, 3, 0, 0, 0, 0), (545, .aload_n 2, 1, 0, 0, 0, 0), (546, .aload_n 0, 1, 0, 0, 0, 0), (547, .iload_n 3, 1, 0, 0, 0, 0), (548, .iconst 1, 1, 1, 0, 0, 0), (549, .iadd, 1, 0, 0, 0, 0), (550, .iaload, 1, 0, 0, 0, 0), (551, .invokevirtual 68, 3, 0, 0, 0, 0), (554, .if_icmp .eq 787, 3, 0, 1341, 0, 0), (557, .iconst 0, 1, 0, 0, 0, 0), (558, .ireturn, 1, 0, 0, 0, 0), (559, .aload_n 1, 1, 0, 0, 0, 0), (560, .invokevirtual 69, 3, 0, 0, 0, 0), (563, .aload_n 2, 1, 0, 0, 0, 0), (564, .invokevirtual 72, 3, 0, 0, 0, 0), (567, .if_icmp .eq 774, 3, 0, 1341, 0, 0), (570, .iconst 0, 1, 0, 0, 0, 0), (571, .ireturn, 1, 0, 0, 0, 0), (572, .aload_n 1, 1, 0, 0, 0, 0), (573, .aload_n 0, 1, 0, 0, 0, 0), (574, .iload_n 3, 1, 0, 0, 0, 0), (575, .iconst 1, 1, 1, 0, 0, 0), (576, .iadd, 1, 0, 0, 0, 0), (577, .iaload, 1, 0, 0, 0, 0), (578, .invokevirtual 73, 3, 0, 0, 0, 0), (581, .aload_n 2, 1, 0, 0, 0, 0), (582, .aload_n 0, 1, 0, 0, 0, 0), (583, .iload_n 3, 1, 0, 0, 0, 0), (584, .iconst 1, 1, 1, 0, 0, 0), (585, .iadd, 1, 0, 0, 0, 0), (586, .iaload, 1, 0, 0, 0, 0), (587, .invokevirtual 76, 3, 0, 0, 0, 0), (590, .if_icmp .eq 751, 3, 0, 1341, 0, 0), (593, .iconst 0, 1, 0, 0, 0, 0), (594, .ireturn, 1, 0, 0, 0, 0), (595, .aload_n 1, 1, 0, 0, 0, 0), (596, .aload_n 0, 1, 0, 0, 0, 0), (597, .iload_n 3, 1, 0, 0, 0, 0), (598, .iconst 1, 1, 1, 0, 0, 0), (599, .iadd, 1, 0, 0, 0, 0), (600, .iaload, 1, 0, 0, 0, 0), (601, .invokevirtual 77, 3, 0, 0, 0, 0), (604, .aload_n 2, 1, 0, 0, 0, 0), (605, .aload_n 0, 1, 0, 0, 0, 0), (606, .iload_n 3, 1, 0, 0, 0, 0), (607, .iconst 1, 1, 1, 0, 0, 0), (608, .iadd, 1, 0, 0, 0, 0), (609, .iaload, 1, 0, 0, 0, 0), (610, .invokevirtual 80, 3, 0, 0, 0, 0), (613, .if_icmp .eq 728, 3, 0, 1341, 0, 0), (616, .iconst 0, 1, 0, 0, 0, 0), (617, .ireturn, 1, 0, 0, 0, 0), (618, .aload_n 1, 1, 0, 0, 0, 0), (619, .aload_n 0, 1, 0, 0, 0, 0), (620, .iload_n 3, 1, 0, 0, 0, 0), (621, .iconst 1, 1, 1, 0, 0, 0), (622, .iadd, 1, 0, 0, 0, 0), (623, .iaload, 1, 0, 0, 0, 0), (624, .aload_n 0, 1, 0, 0, 0, 0), (625, .iload_n 3, 1, 0, 0, 0, 0), (626, .iconst 2, 1, 2, 0, 0, 0), (627, .iadd, 1, 0, 0, 0, 0), (628, .iaload, 1, 0, 0, 0, 0), (629, .invokevirtual 81, 3, 0, 0, 0, 0), (632, .aload_n 2, 1, 0, 0, 0, 0), (633, .aload_n 0, 1, 0, 0, 0, 0), (634, .iload_n 3, 1, 0, 0, 0, 0), (635, .iconst 1, 1, 1, 0, 0, 0), (636, .iadd, 1, 0, 0, 0, 0), (637, .iaload, 1, 0, 0, 0, 0), (638, .aload_n 0, 1, 0, 0, 0, 0), (639, .iload_n 3, 1, 0, 0, 0, 0), (640, .iconst 2, 1, 2, 0, 0, 0), (641, .iadd, 1, 0, 0, 0, 0), (642, .iaload, 1, 0, 0, 0, 0), (643, .invokevirtual 84, 3, 0, 0, 0, 0), (646, .if_icmp .eq 695, 3, 0, 1341, 0, 0), (649, .iconst 0, 1, 0, 0, 0, 0), (650, .ireturn, 1, 0, 0, 0, 0), (651, .aload_n 1, 1, 0, 0, 0, 0), (652, .aload_n 0, 1, 0, 0, 0, 0), (653, .iload_n 3, 1, 0, 0, 0, 0), (654, .iconst 1, 1, 1, 0, 0, 0), (655, .iadd, 1, 0, 0, 0, 0), (656, .iaload, 1, 0, 0, 0, 0), (657, .invokevirtual 85, 3, 0, 0, 0, 0), (660, .aload_n 2, 1, 0, 0, 0, 0), (661, .aload_n 0, 1, 0, 0, 0, 0), (662, .iload_n 3, 1, 0, 0, 0, 0), (663, .iconst 1, 1, 1, 0, 0, 0), (664, .iadd, 1, 0, 0, 0, 0), (665, .iaload, 1, 0, 0, 0, 0), (666, .invokevirtual 88, 3, 0, 0, 0, 0), (669, .if_icmp .eq 672, 3, 0, 1341, 0, 0), (672, .iconst 0, 1, 0, 0, 0, 0), (673, .ireturn, 1, 0, 0, 0, 0), (674, .aload_n 1, 1, 0, 0, 0, 0), (675, .aload_n 0, 1, 0, 0, 0, 0), (676, .iload_n 3, 1, 0, 0, 0, 0), (677, .iconst 1, 1, 1, 0, 0, 0), (678, .iadd, 1, 0, 0, 0, 0), (679, .iaload, 1, 0, 0, 0, 0), (680, .aload_n 0, 1, 0, 0, 0, 0), (681, .iload_n 3, 1, 0, 0, 0, 0), (682, .iconst 2, 1, 2, 0, 0, 0), (683, .iadd, 1, 0, 0, 0, 0), (684, .iaload, 1, 0, 0, 0, 0), (685, .invokevirtual 89, 3, 0, 0, 0, 0), (688, .aload_n 2, 1, 0, 0, 0, 0), (689, .aload_n 0, 1, 0, 0, 0, 0), (690, .iload_n 3, 1, 0, 0, 0, 0), (691, .iconst 1, 1, 1, 0, 0, 0), (692, .iadd, 1, 0, 0, 0, 0), (693, .iaload, 1, 0, 0, 0, 0), (694, .aload_n 0, 1, 0, 0, 0, 0), (695, .iload_n 3, 1, 0, 0, 0, 0), (696, .iconst 2, 1, 2, 0, 0, 0), (697, .iadd, 1, 0, 0, 0, 0), (698, .iaload, 1, 0, 0, 0, 0), (699, .invokevirtual 92, 3, 0, 0, 0, 0), (702, .if_icmp .eq 639, 3, 0, 1341, 0, 0), (705, .iconst 0, 1, 0, 0, 0, 0), (706, .ireturn, 1, 0, 0, 0, 0), (707, .aload_n 1, 1, 0, 0, 0, 0), (708, .aload_n 0, 1, 0, 0, 0, 0), (709, .iload_n 3, 1, 0, 0, 0, 0), (710, .iconst 1, 1, 1, 0, 0, 0), (711, .iadd, 1, 0, 0, 0, 0), (712, .iaload, 1, 0, 0, 0, 0), (713, .invokevirtual 93, 3, 0, 0, 0, 0), (716, .aload_n 2, 1, 0, 0, 0, 0), (717, .aload_n 0, 1, 0, 0, 0, 0), (718, .iload_n 3, 1, 0, 0, 0, 0), (719, .iconst 1, 1, 1, 0, 0, 0), (720, .iadd, 1, 0, 0, 0, 0), (721, .iaload, 1, 0, 0, 0, 0), (722, .invokevirtual 96, 3, 0, 0, 0, 0), (725, .if_icmp .eq 616, 3, 0, 1341, 0, 0), (728, .iconst 0, 1, 0, 0, 0, 0), (729, .ireturn, 1, 0, 0, 0, 0), (730, .aload_n 1, 1, 0, 0, 0, 0), (731, .aload_n 0, 1, 0, 0, 0, 0), (732, .iload_n 3, 1, 0, 0, 0, 0), (733, .iconst 1, 1, 1, 0, 0, 0), (734, .iadd, 1, 0, 0, 0, 0), (735, .iaload, 1, 0, 0, 0, 0), (736, .aload_n 0, 1, 0, 0, 0, 0), (737, .iload_n 3, 1, 0, 0, 0, 0), (738, .iconst 2, 1, 2, 0, 0, 0), (739, .iadd, 1, 0, 0, 0, 0), (740, .iaload, 1, 0, 0, 0, 0), (741, .aload_n 0, 1, 0, 0, 0, 0), (742, .iload_n 3, 1, 0, 0, 0, 0), (743, .iconst 3, 1, 3, 0, 0, 0), (744, .iadd, 1, 0, 0, 0, 0), (745, .iaload, 1, 0, 0, 0, 0), (746, .invokevirtual 97, 3, 0, 0, 0, 0), (749, .aload_n 2, 1, 0, 0, 0, 0), (750, .aload_n 0, 1, 0, 0, 0, 0), (751, .iload_n 3, 1, 0, 0, 0, 0), (752, .iconst 1, 1, 1, 0, 0, 0), (753, .iadd, 1, 0, 0, 0, 0), (754, .iaload, 1, 0, 0, 0, 0), (755, .aload_n 0, 1, 0, 0, 0, 0), (756, .iload_n 3, 1, 0, 0, 0, 0), (757, .iconst 2, 1, 2, 0, 0, 0), (758, .iadd, 1, 0, 0, 0, 0), (759, .iaload, 1, 0, 0, 0, 0), (760, .aload_n 0, 1, 0, 0, 0, 0), (761, .iload_n 3, 1, 0, 0, 0, 0), (762, .iconst 3, 1, 3, 0, 0, 0), (763, .iadd, 1, 0, 0, 0, 0), (764, .iaload, 1, 0, 0, 0, 0), (765, .invokevirtual 100, 3, 0, 0, 0, 0), (768, .if_icmp .eq 573, 3, 0, 1341, 0, 0), (771, .iconst 0, 1, 0, 0, 0, 0), (772, .ireturn, 1, 0, 0, 0, 0), (773, .aload_n 1, 1, 0, 0, 0, 0), (774, .aload_n 0, 1, 0, 0, 0, 0), (775, .iload_n 3, 1, 0, 0, 0, 0), (776, .iconst 1, 1, 1, 0, 0, 0), (777, .iadd, 1, 0, 0, 0, 0), (778, .iaload, 1, 0, 0, 0, 0), (779, .aload_n 0, 1, 0, 0, 0, 0), (780, .iload_n 3, 1, 0, 0, 0, 0), (781, .iconst 2, 1, 2, 0, 0, 0), (782, .iadd, 1, 0, 0, 0, 0), (783, .iaload, 1, 0, 0, 0, 0), (784, .invokevirtual 101, 3, 0, 0, 0, 0), (787, .aload_n 2, 1, 0, 0, 0, 0), (788, .aload_n 0, 1, 0, 0, 0, 0), (789, .iload_n 3, 1, 0, 0, 0, 0), (790, .iconst 1, 1, 1, 0, 0, 0), (791, .iadd, 1, 0, 0, 0, 0), (792, .iaload, 1, 0, 0, 0, 0), (793, .aload_n 0, 1, 0, 0, 0, 0), (794, .iload_n 3, 1, 0, 0, 0, 0), (795, .iconst 2, 1, 2, 0, 0, 0), (796, .iadd, 1, 0, 0, 0, 0), (797, .iaload, 1, 0, 0, 0, 0), (798, .invokevirtual 104, 3, 0, 0, 0, 0), (801, .if_icmp .eq 540, 3, 0, 1341, 0, 0), (804, .iconst 0, 1, 0, 0, 0, 0), (805, .ireturn, 1, 0, 0, 0, 0), (806, .aload_n 1, 1, 0, 0, 0, 0), (807, .aload_n 0, 1, 0, 0, 0, 0), (808, .iload_n 3, 1, 0, 0, 0, 0), (809, .iconst 1, 1, 1, 0, 0, 0), (810, .iadd, 1, 0, 0, 0, 0), (811, .iaload, 1, 0, 0, 0, 0), (812, .invokevirtual 105, 3, 0, 0, 0, 0), (815, .aload_n 2, 1, 0, 0, 0, 0), (816, .aload_n 0, 1, 0, 0, 0, 0), (817, .iload_n 3, 1, 0, 0, 0, 0), (818, .iconst 1, 1, 1, 0, 0, 0), (819, .iadd, 1, 0, 0, 0, 0), (820, .iaload, 1, 0, 0, 0, 0), (821, .invokevirtual 108, 3, 0, 0, 0, 0), (824, .if_icmp .eq 517, 3, 0, 1341, 0, 0), (827, .iconst 0, 1, 0, 0, 0, 0), (828, .ireturn, 1, 0, 0, 0, 0), (829, .aload_n 1, 1, 0, 0, 0, 0), (830, .invokevirtual 109, 3, 0, 0, 0, 0), (833, .aload_n 2, 1, 0, 0, 0, 0), (834, .invokevirtual 112, 3, 0, 0, 0, 0), (837, .if_icmp .eq 504, 3, 0, 1341, 0, 0), (840, .iconst 0, 1, 0, 0, 0, 0), (841, .ireturn, 1, 0, 0, 0, 0), (842, .aload_n 1, 1, 0, 0, 0, 0), (843, .invokevirtual 113, 3, 0, 0, 0, 0), (846, .aload_n 2, 1, 0, 0, 0, 0), (847, .invokevirtual 116, 3, 0, 0, 0, 0), (850, .if_icmp .eq 491, 3, 0, 1341, 0, 0), (853, .iconst 0, 1, 0, 0, 0, 0), (854, .ireturn, 1, 0, 0, 0, 0), (855, .aload_n 1, 1, 0, 0, 0, 0), (856, .aload_n 0, 1, 0, 0, 0, 0), (857, .iload_n 3, 1, 0, 0, 0, 0), (858, .iconst 1, 1, 1, 0, 0, 0), (859, .iadd, 1, 0, 0, 0, 0), (860, .iaload, 1, 0, 0, 0, 0), (861, .aload_n 0, 1, 0, 0, 0, 0), (862, .iload_n 3, 1, 0, 0, 0, 0), (863, .iconst 2, 1, 2, 0, 0, 0), (864, .iadd, 1, 0, 0, 0, 0), (865, .iaload, 1, 0, 0, 0, 0), (866, .invokevirtual 117, 3, 0, 0, 0, 0), (869, .aload_n 2, 1, 0, 0, 0, 0), (870, .aload_n 0, 1, 0, 0, 0, 0), (871, .iload_n 3, 1, 0, 0, 0, 0), (872, .iconst 1, 1, 1, 0, 0, 0), (873, .iadd, 1, 0, 0, 0, 0), (874, .iaload, 1, 0, 0, 0, 0), (875, .aload_n 0, 1, 0, 0, 0, 0), (876, .iload_n 3, 1, 0, 0, 0, 0), (877, .iconst 2, 1, 2, 0, 0, 0), (878, .iadd, 1, 0, 0, 0, 0), (879, .iaload, 1, 0, 0, 0, 0), (880, .invokevirtual 120, 3, 0, 0, 0, 0), (883, .if_icmp .eq 458, 3, 0, 1341, 0, 0), (886, .iconst 0, 1, 0, 0, 0, 0), (887, .ireturn, 1, 0, 0, 0, 0), (888, .aload_n 1, 1, 0, 0, 0, 0), (889, .aload_n 0, 1, 0, 0, 0, 0), (890, .iload_n 3, 1, 0, 0, 0, 0), (891, .iconst 1, 1, 1, 0, 0, 0), (892, .iadd, 1, 0, 0, 0, 0), (893, .iaload, 1, 0, 0, 0, 0), (894, .aload_n 0, 1, 0, 0, 0, 0), (895, .iload_n 3, 1, 0, 0, 0, 0), (896, .iconst 2, 1, 2, 0, 0, 0), (897, .iadd, 1, 0, 0, 0, 0), (898, .iaload, 1, 0, 0, 0, 0), (899, .aload_n 0, 1, 0, 0, 0, 0), (900, .iload_n 3, 1, 0, 0, 0, 0), (901, .iconst 3, 1, 3, 0, 0, 0), (902, .iadd, 1, 0, 0, 0, 0), (903, .iaload, 1, 0, 0, 0, 0), (904, .invokevirtual 121, 3, 0, 0, 0, 0), (907, .aload_n 2, 1, 0, 0, 0, 0), (908, .aload_n 0, 1, 0, 0, 0, 0), (909, .iload_n 3, 1, 0, 0, 0, 0), (910, .iconst 1, 1, 1, 0, 0, 0), (911, .iadd, 1, 0, 0, 0, 0), (912, .iaload, 1, 0, 0, 0, 0), (913, .aload_n 0, 1, 0, 0, 0, 0), (914, .iload_n 3, 1, 0, 0, 0, 0), (915, .iconst 2, 1, 2, 0, 0, 0), (916, .iadd, 1, 0, 0, 0, 0), (917, .iaload, 1, 0, 0, 0, 0), (918, .aload_n 0, 1, 0, 0, 0, 0), (919, .iload_n 3, 1, 0, 0, 0, 0), (920, .iconst 3, 1, 3, 0, 0, 0), (921, .iadd, 1, 0, 0, 0, 0), (922, .iaload, 1, 0, 0, 0, 0), (923, .invokevirtual 124, 3, 0, 0, 0, 0), (926, .if_icmp .eq 415, 3, 0, 1341, 0, 0), (929, .iconst 0, 1, 0, 0, 0, 0), (930, .ireturn, 1, 0, 0, 0, 0), (931, .aload_n 1, 1, 0, 0, 0, 0), (932, .aload_n 0, 1, 0, 0, 0, 0), (933, .iload_n 3, 1, 0, 0, 0, 0), (934, .iconst 1, 1, 1, 0, 0, 0), (935, .iadd, 1, 0, 0, 0, 0), (936, .iaload, 1, 0, 0, 0, 0), (937, .aload_n 0, 1, 0, 0, 0, 0), (938, .iload_n 3, 1, 0, 0, 0, 0), (939, .iconst 2, 1, 2, 0, 0, 0), (940, .iadd, 1, 0, 0, 0, 0), (941, .iaload, 1, 0, 0, 0, 0), (942, .aload_n 0, 1, 0, 0, 0, 0), (943, .iload_n 3, 1, 0, 0, 0, 0), (944, .iconst 3, 1, 3, 0, 0, 0), (945, .iadd, 1, 0, 0, 0, 0), (946, .iaload, 1, 0, 0, 0, 0), (947, .aload_n 0, 1, 0, 0, 0, 0), (948, .iload_n 3, 1, 0, 0, 0, 0), (949, .iconst 4, 1, 4, 0, 0, 0), (950, .iadd, 1, 0, 0, 0, 0), (951, .iaload, 1, 0, 0, 0, 0), (952, .invokevirtual 125, 3, 0, 0, 0, 0), (955, .aload_n 2, 1, 0, 0, 0, 0), (956, .aload_n 0, 1, 0, 0, 0, 0), (957, .iload_n 3, 1, 0, 0, 0, 0), (958, .iconst 1, 1, 1, 0, 0, 0), (959, .iadd, 1, 0, 0, 0, 0), (960, .iaload, 1, 0, 0, 0, 0), (961, .aload_n 0, 1, 0, 0, 0, 0), (962, .iload_n 3, 1, 0, 0, 0, 0), (963, .iconst 2, 1, 2, 0, 0, 0), (964, .iadd, 1, 0, 0, 0, 0), (965, .iaload, 1, 0, 0, 0, 0), (966, .aload_n 0, 1, 0, 0, 0, 0), (967, .iload_n 3, 1, 0, 0, 0, 0), (968, .iconst 3, 1, 3, 0, 0, 0), (969, .iadd, 1, 0, 0, 0, 0), (970, .iaload, 1, 0, 0, 0, 0), (971, .aload_n 0, 1, 0, 0, 0, 0), (972, .iload_n 3, 1, 0, 0, 0, 0), (973, .iconst 4, 1, 4, 0, 0, 0), (974, .iadd, 1, 0, 0, 0, 0), (975, .iaload, 1, 0, 0, 0, 0), (976, .invokevirtual 129, 3, 0, 0, 0, 0), (979, .lcmp, 1, 0, 0, 0, 0), (980, .ifCond .eq 361, 3, 0, 1341, 0, 0), (983, .iconst 0, 1, 0, 0, 0, 0), (984, .ireturn, 1, 0, 0, 0, 0), (985, .aload_n 1, 1, 0, 0, 0, 0), (986, .aload_n 0, 1, 0, 0, 0, 0), (987, .iload_n 3, 1, 0, 0, 0, 0), (988, .iconst 1, 1, 1, 0, 0, 0), (989, .iadd, 1, 0, 0, 0, 0), (990, .iaload, 1, 0, 0, 0, 0), (991, .aload_n 0, 1, 0, 0, 0, 0), (992, .iload_n 3, 1, 0, 0, 0, 0), (993, .iconst 2, 1, 2, 0, 0, 0), (994, .iadd, 1, 0, 0, 0, 0), (995, .iaload, 1, 0, 0, 0, 0), (996, .invokevirtual 130, 3, 0, 0, 0, 0), (999, .aload_n 2, 1, 0, 0, 0, 0), (1000, .aload_n 0, 1, 0, 0, 0, 0), (1001, .iload_n 3, 1, 0, 0, 0, 0), (1002, .iconst 1, 1, 1, 0, 0, 0), (1003, .iadd, 1, 0, 0, 0, 0), (1004, .iaload, 1, 0, 0, 0, 0), (1005, .aload_n 0, 1, 0, 0, 0, 0), (1006, .iload_n 3, 1, 0, 0, 0, 0), (1007, .iconst 2, 1, 2, 0, 0, 0), (1008, .iadd, 1, 0, 0, 0, 0), (1009, .iaload, 1, 0, 0, 0, 0), (1010, .invokevirtual 133, 3, 0, 0, 0, 0), (1013, .if_icmp .eq 328, 3, 0, 1341, 0, 0), (1016, .iconst 0, 1, 0, 0, 0, 0), (1017, .ireturn, 1, 0, 0, 0, 0), (1018, .aload_n 1, 1, 0, 0, 0, 0), (1019, .aload_n 0, 1, 0, 0, 0, 0), (1020, .iload_n 3, 1, 0, 0, 0, 0), (1021, .iconst 1, 1, 1, 0, 0, 0), (1022, .iadd, 1, 0, 0, 0, 0), (1023, .iaload, 1, 0, 0, 0, 0), (1024, .invokevirtual 134, 3, 0, 0, 0, 0), (1027, .aload_n 2, 1, 0, 0, 0, 0), (1028, .aload_n 0, 1, 0, 0, 0, 0), (1029, .iload_n 3, 1, 0, 0, 0, 0), (1030, .iconst 1, 1, 1, 0, 0, 0), (1031, .iadd, 1, 0, 0, 0, 0), (1032, .iaload, 1, 0, 0, 0, 0), (1033, .invokevirtual 137, 3, 0, 0, 0, 0), (1036, .if_icmp .eq 305, 3, 0, 1341, 0, 0), (1039, .iconst 0, 1, 0, 0, 0, 0), (1040, .ireturn, 1, 0, 0, 0, 0), (1041, .aload_n 1, 1, 0, 0, 0, 0), (1042, .aload_n 0, 1, 0, 0, 0, 0), (1043, .iload_n 3, 1, 0, 0, 0, 0), (1044, .iconst 1, 1, 1, 0, 0, 0), (1045, .iadd, 1, 0, 0, 0, 0), (1046, .iaload, 1, 0, 0, 0, 0), (1047, .invokevirtual 138, 3, 0, 0, 0, 0), (1050, .aload_n 2, 1, 0, 0, 0, 0), (1051, .aload_n 0, 1, 0, 0, 0, 0), (1052, .iload_n 3, 1, 0, 0, 0, 0), (1053, .iconst 1, 1, 1, 0, 0, 0), (1054, .iadd, 1, 0, 0, 0, 0), (1055, .iaload, 1, 0, 0, 0, 0), (1056, .invokevirtual 141, 3, 0, 0, 0, 0), (1059, .if_icmp .eq 282, 3, 0, 1341, 0, 0), (1062, .iconst 0, 1, 0, 0, 0, 0), (1063, .ireturn, 1, 0, 0, 0, 0), (1064, .aload_n 1, 1, 0, 0, 0, 0), (1065, .aload_n 0, 1, 0, 0, 0, 0), (1066, .iload_n 3, 1, 0, 0, 0, 0), (1067, .iconst 1, 1, 1, 0, 0, 0), (1068, .iadd, 1, 0, 0, 0, 0), (1069, .iaload, 1, 0, 0, 0, 0), (1070, .invokevirtual 142, 3, 0, 0, 0, 0), (1073, .aload_n 2, 1, 0, 0, 0, 0), (1074, .aload_n 0, 1, 0, 0, 0, 0), (1075, .iload_n 3, 1, 0, 0, 0, 0), (1076, .iconst 1, 1, 1, 0, 0, 0), (1077, .iadd, 1, 0, 0, 0, 0), (1078, .iaload, 1, 0, 0, 0, 0), (1079, .invokevirtual 146, 3, 0, 0, 0, 0), (1082, .lcmp, 1, 0, 0, 0, 0), (1083, .ifCond .eq 258, 3, 0, 1341, 0, 0), (1086, .iconst 0, 1, 0, 0, 0, 0), (1087, .ireturn, 1, 0, 0, 0, 0), (1088, .aload_n 1, 1, 0, 0, 0, 0), (1089, .aload_n 0, 1, 0, 0, 0, 0), (1090, .iload_n 3, 1, 0, 0, 0, 0), (1091, .iconst 1, 1, 1, 0, 0, 0), (1092, .iadd, 1, 0, 0, 0, 0), (1093, .iaload, 1, 0, 0, 0, 0), (1094, .invokevirtual 147, 3, 0, 0, 0, 0), (1097, .aload_n 2, 1, 0, 0, 0, 0), (1098, .aload_n 0, 1, 0, 0, 0, 0), (1099, .iload_n 3, 1, 0, 0, 0, 0), (1100, .iconst 1, 1, 1, 0, 0, 0), (1101, .iadd, 1, 0, 0, 0, 0), (1102, .iaload, 1, 0, 0, 0, 0), (1103, .invokevirtual 150, 3, 0, 0, 0, 0), (1106, .if_icmp .eq 235, 3, 0, 1341, 0, 0), (1109, .iconst 0, 1, 0, 0, 0, 0), (1110, .ireturn, 1, 0, 0, 0, 0), (1111, .aload_n 1, 1, 0, 0, 0, 0), (1112, .aload_n 0, 1, 0, 0, 0, 0), (1113, .iload_n 3, 1, 0, 0, 0, 0), (1114, .iconst 1, 1, 1, 0, 0, 0), (1115, .iadd, 1, 0, 0, 0, 0), (1116, .iaload, 1, 0, 0, 0, 0), (1117, .invokevirtual 151, 3, 0, 0, 0, 0), (1120, .aload_n 2, 1, 0, 0, 0, 0), (1121, .aload_n 0, 1, 0, 0, 0, 0), (1122, .iload_n 3, 1, 0, 0, 0, 0), (1123, .iconst 1, 1, 1, 0, 0, 0), (1124, .iadd, 1, 0, 0, 0, 0), (1125, .iaload, 1, 0, 0, 0, 0), (1126, .invokevirtual 154, 3, 0, 0, 0, 0), (1129, .if_icmp .eq 212, 3, 0, 1341, 0, 0), (1132, .iconst 0, 1, 0, 0, 0, 0), (1133, .ireturn, 1, 0, 0, 0, 0), (1134, .aload_n 1, 1, 0, 0, 0, 0), (1135, .aload_n 0, 1, 0, 0, 0, 0), (1136, .iload_n 3, 1, 0, 0, 0, 0), (1137, .iconst 1, 1, 1, 0, 0, 0), (1138, .iadd, 1, 0, 0, 0, 0), (1139, .iaload, 1, 0, 0, 0, 0), (1140, .aload_n 0, 1, 0, 0, 0, 0), (1141, .iload_n 3, 1, 0, 0, 0, 0), (1142, .iconst 2, 1, 2, 0, 0, 0), (1143, .iadd, 1, 0, 0, 0, 0), (1144, .iaload, 1, 0, 0, 0, 0), (1145, .aload_n 0, 1, 0, 0, 0, 0), (1146, .iload_n 3, 1, 0, 0, 0, 0), (1147, .iconst 3, 1, 3, 0, 0, 0), (1148, .iadd, 1, 0, 0, 0, 0), (1149, .iaload, 1, 0, 0, 0, 0), (1150, .invokevirtual 155, 3, 0, 0, 0, 0), (1153, .aload_n 2, 1, 0, 0, 0, 0), (1154, .aload_n 0, 1, 0, 0, 0, 0), (1155, .iload_n 3, 1, 0, 0, 0, 0), (1156, .iconst 1, 1, 1, 0, 0, 0), (1157, .iadd, 1, 0, 0, 0, 0), (1158, .iaload, 1, 0, 0, 0, 0), (1159, .aload_n 0, 1, 0, 0, 0, 0), (1160, .iload_n 3, 1, 0, 0, 0, 0), (1161, .iconst 2, 1, 2, 0, 0, 0), (1162, .iadd, 1, 0, 0, 0, 0), (1163, .iaload, 1, 0, 0, 0, 0), (1164, .aload_n 0, 1, 0, 0, 0, 0), (1165, .iload_n 3, 1, 0, 0, 0, 0), (1166, .iconst 3, 1, 3, 0, 0, 0), (1167, .iadd, 1, 0, 0, 0, 0), (1168, .iaload, 1, 0, 0, 0, 0), (1169, .invokevirtual 158, 3, 0, 0, 0, 0), (1172, .if_icmp .eq 169, 3, 0, 1341, 0, 0), (1175, .iconst 0, 1, 0, 0, 0, 0), (1176, .ireturn, 1, 0, 0, 0, 0), (1177, .aload_n 1, 1, 0, 0, 0, 0), (1178, .aload_n 0, 1, 0, 0, 0, 0), (1179, .iload_n 3, 1, 0, 0, 0, 0), (1180, .iconst 1, 1, 1, 0, 0, 0), (1181, .iadd, 1, 0, 0, 0, 0), (1182, .iaload, 1, 0, 0, 0, 0), (1183, .invokevirtual 159, 3, 0, 0, 0, 0), (1186, .aload_n 2, 1, 0, 0, 0, 0), (1187, .aload_n 0, 1, 0, 0, 0, 0), (1188, .iload_n 3, 1, 0, 0, 0, 0), (1189, .iconst 1, 1, 1, 0, 0, 0), (1190, .iadd, 1, 0, 0, 0, 0), (1191, .iaload, 1, 0, 0, 0, 0), (1192, .invokevirtual 162, 3, 0, 0, 0, 0), (1195, .if_icmp .eq 146, 3, 0, 1341, 0, 0), (1198, .iconst 0, 1, 0, 0, 0, 0), (1199, .ireturn, 1, 0, 0, 0, 0), (1200, .aload_n 1, 1, 0, 0, 0, 0), (1201, .aload_n 0, 1, 0, 0, 0, 0), (1202, .iload_n 3, 1, 0, 0, 0, 0), (1203, .iconst 1, 1, 1, 0, 0, 0), (1204, .iadd, 1, 0, 0, 0, 0), (1205, .iaload, 1, 0, 0, 0, 0), (1206, .invokevirtual 163, 3, 0, 0, 0, 0), (1209, .aload_n 2, 1, 0, 0, 0, 0), (1210, .aload_n 0, 1, 0, 0, 0, 0), (1211, .iload_n 3, 1, 0, 0, 0, 0), (1212, .iconst 1, 1, 1, 0, 0, 0), (1213, .iadd, 1, 0, 0, 0, 0), (1214, .iaload, 1, 0, 0, 0, 0), (1215, .invokevirtual 166, 3, 0, 0, 0, 0), (1218, .if_icmp .eq 123, 3, 0, 1341, 0, 0), (1221, .iconst 0, 1, 0, 0, 0, 0), (1222, .ireturn, 1, 0, 0, 0, 0), (1223, .aload_n 1, 1, 0, 0, 0, 0), (1224, .invokevirtual 167, 3, 0, 0, 0, 0), (1227, .aload_n 2, 1, 0, 0, 0, 0), (1228, .invokevirtual 170, 3, 0, 0, 0, 0), (1231, .if_icmp .eq 110, 3, 0, 1341, 0, 0), (1234, .iconst 0, 1, 0, 0, 0, 0), (1235, .ireturn, 1, 0, 0, 0, 0), (1236, .aload_n 1, 1, 0, 0, 0, 0), (1237, .invokevirtual 171, 3, 0, 0, 0, 0), (1240, .aload_n 2, 1, 0, 0, 0, 0), (1241, .invokevirtual 174, 3, 0, 0, 0, 0), (1244, .if_icmp .eq 97, 3, 0, 1341, 0, 0), (1247, .iconst 0, 1, 0, 0, 0, 0), (1248, .ireturn, 1, 0, 0, 0, 0), (1249, .aload_n 1, 1, 0, 0, 0, 0), (1250, .aload_n 0, 1, 0, 0, 0, 0), (1251, .iload_n 3, 1, 0, 0, 0, 0), (1252, .iconst 1, 1, 1, 0, 0, 0), (1253, .iadd, 1, 0, 0, 0, 0), (1254, .iaload, 1, 0, 0, 0, 0), (1255, .aload_n 0, 1, 0, 0, 0, 0), (1256, .iload_n 3, 1, 0, 0, 0, 0), (1257, .iconst 2, 1, 2, 0, 0, 0), (1258, .iadd, 1, 0, 0, 0, 0), (1259, .iaload, 1, 0, 0, 0, 0), (1260, .aload_n 0, 1, 0, 0, 0, 0), (1261, .iload_n 3, 1, 0, 0, 0, 0), (1262, .iconst 3, 1, 3, 0, 0, 0), (1263, .iadd, 1, 0, 0, 0, 0), (1264, .iaload, 1, 0, 0, 0, 0), (1265, .invokevirtual 175, 3, 0, 0, 0, 0), (1268, .aload_n 2, 1, 0, 0, 0, 0), (1269, .aload_n 0, 1, 0, 0, 0, 0), (1270, .iload_n 3, 1, 0, 0, 0, 0), (1271, .iconst 1, 1, 1, 0, 0, 0), (1272, .iadd, 1, 0, 0, 0, 0), (1273, .iaload, 1, 0, 0, 0, 0), (1274, .aload_n 0, 1, 0, 0, 0, 0), (1275, .iload_n 3, 1, 0, 0, 0, 0), (1276, .iconst 2, 1, 2, 0, 0, 0), (1277, .iadd, 1, 0, 0, 0, 0), (1278, .iaload, 1, 0, 0, 0, 0), (1279, .aload_n 0, 1, 0, 0, 0, 0), (1280, .iload_n 3, 1, 0, 0, 0, 0), (1281, .iconst 3, 1, 3, 0, 0, 0), (1282, .iadd, 1, 0, 0, 0, 0), (1283, .iaload, 1, 0, 0, 0, 0), (1284, .invokevirtual 178, 3, 0, 0, 0, 0), (1287, .if_icmp .eq 54, 3, 0, 1341, 0, 0), (1290, .iconst 0, 1, 0, 0, 0, 0), (1291, .ireturn, 1, 0, 0, 0, 0), (1292, .aload_n 1, 1, 0, 0, 0, 0), (1293, .invokevirtual 179, 3, 0, 0, 0, 0), (1296, .aload_n 2, 1, 0, 0, 0, 0), (1297, .invokevirtual 182, 3, 0, 0, 0, 0), (1300, .if_icmp .eq 41, 3, 0, 1341, 0, 0), (1303, .iconst 0, 1, 0, 0, 0, 0), (1304, .ireturn, 1, 0, 0, 0, 0), (1305, .aload_n 1, 1, 0, 0, 0, 0), (1306, .invokevirtual 183, 3, 0, 0, 0, 0), (1309, .aload_n 2, 1, 0, 0, 0, 0), (1310, .invokevirtual 186, 3, 0, 0, 0, 0), (1313, .if_icmp .eq 28, 3, 0, 1341, 0, 0), (1316, .iconst 0, 1, 0, 0, 0, 0), (1317, .ireturn, 1, 0, 0, 0, 0), (1318, .aload_n 1, 1, 0, 0, 0, 0), (1319, .aload_n 0, 1, 0, 0, 0, 0), (1320, .iload_n 3, 1, 0, 0, 0, 0), (1321, .iconst 1, 1, 1, 0, 0, 0), (1322, .iadd, 1, 0, 0, 0, 0), (1323, .iaload, 1, 0, 0, 0, 0), (1324, .invokevirtual 187, 3, 0, 0, 0, 0), (1327, .aload_n 2, 1, 0, 0, 0, 0), (1328, .aload_n 0, 1, 0, 0, 0, 0), (1329, .iload_n 3, 1, 0, 0, 0, 0), (1330, .iconst 1, 1, 1, 0, 0, 0), (1331, .iadd, 1, 0, 0, 0, 0), (1332, .iaload, 1, 0, 0, 0, 0), (1333, .invokevirtual 190, 3, 0, 0, 0, 0), (1336, .if_icmp .eq 5, 3, 0, 1341, 0, 0), (1339, .iconst 0, 1, 0, 0, 0, 0), (1340, .ireturn, 1, 0, 0, 0, 0), (1341, .iinc 3 5, 3, 5, 0, 0, 0), (1344, .goto (-1326), 3, 0, 18, 0, 0), (1347, .iconst 1, 1, 1, 0, 0, 0), (1348, .ireturn, 1, 0, 0, 0, 0)]
abbrev YL_law : MethodName := ⟨"GingerArmyLaw", "law", "([I)Z"⟩
abbrev ML_law : MethT := (9, CL_law, code, 4, (some .boolean), YL_law)
end
section
/-! THE ABSTRACT MACHINE: ints of fields and arrays by (class, instance, part, place); the objects' graph is fixed -/
abbrev AR : Type := Nat × Nat × Nat
abbrev AV : Type := Int32 ⊕ (Int64 ⊕ AR)
abbrev St : Type := Nat → Nat → Nat → Nat → Int32
abbrev Cfg : Type := Nat × List (Nat × AV) × List AV × St
/-- array class of ints, of shelves, the classes' numbers and slots, the addresses, what may be changed -/
abbrev WPar : Type := ClassId × ClassId × va_G × (AR → Nat) × (Nat → Prop)
def gT : List Cond := lw_tbl.filter goodWord
def gNest : Cond → Bool
  | .fieldLinkNest .. => true
  | _ => false
def gN : List Cond := lw_tbl.filter gNest
theorem gT_in {w : Cond} (i : Nat) (h : lw_tbl[i]? = some w) (hg : goodWord w = true) : w ∈ gT := List.mem_filter.mpr ⟨List.mem_of_getElem? h, hg⟩
theorem gN_in {w : Cond} (i : Nat) (h : lw_tbl[i]? = some w) (hg : gNest w = true) : w ∈ gN := List.mem_filter.mpr ⟨List.mem_of_getElem? h, hg⟩
theorem gT_good : GoodIn gT gT := fun w h => ⟨h, good_of_word (List.mem_filter.mp h).2⟩
theorem gN_warm {s U : State} (hW : s.WarmedH U.vm) : ∀ w ∈ gN, va_Nw w s → va_Nw w U := by
  intro w hw h
  have hg := (List.mem_filter.mp hw).2
  cases w <;> first | (simp [gNest] at hg; done) | exact va_Nw.warmF hW h
/-- field k of an object: the part that it names for good, if it is a reference -/
def refF (c i k : Nat) : Option AR := match c with
  | 0 => match k with
    | 0 => some (2, 3, 0) | 1 => some (0, 0, 2) | 2 => some (0, 0, 3) | _ => none
  | 1 => match k with
    | 0 => some (1, 0, 1) | _ => none
  | 2 => match k with
    | 0 => some (2, i, 1) | 1 => some (2, i, 2) | 2 => some (2, i, 3) | 3 => some (2, i, 4) | 4 => some (2, i, 5) | 5 => some (2, i, 6) | 6 => some (2, i, 7) | _ => none
  | 3 => match k with
    | 0 => some (3, 0, 1) | _ => none
  | 4 => match k with
    | 0 => some (2, 0, 0) | 1 => some (2, 1, 0) | 2 => some (2, 2, 0) | 3 => some (1, 0, 0) | 4 => some (0, 0, 0) | 5 => some (3, 0, 0) | 6 => some (4, 0, 7) | 7 => some (4, 0, 8) | _ => none
  | 5 => match k with
    | 0 => some (5, 0, 1) | 1 => some (5, 0, 2) | 2 => some (5, 0, 3) | 3 => some (5, 0, 4) | 4 => some (5, 0, 5) | 5 => some (5, 0, 6) | 6 => some (5, 0, 7)
    | 11 => some (5, 0, 12) | 12 => some (5, 0, 13) | 13 => some (5, 0, 14) | 14 => some (5, 0, 15) | 18 => some (5, 0, 19) | 23 => some (5, 0, 24) | 25 => some (5, 0, 26) | _ => none
  | _ => none
/-- 1: an int, 2: a boolean, 0: a reference -/
def fkind (c k : Nat) : Nat := match c with
  | 4 => if k = 9 then 2 else if k = 8 then 1 else 0
  | 5 => if k = 19 then 2 else if k = 20 then 2 else if (refF 5 0 k).isSome then 0 else 1
  | c => if (refF c 0 k).isSome then 0 else 1
def nF (c : Nat) : Nat := match c with
  | 0 => 3 | 1 => 3 | 2 => 13 | 3 => 2 | 4 => 10 | 5 => 27 | _ => 0
/-- the int arrays' lengths -/
def alen (c j : Nat) : Option Nat := match c with
  | 0 => match j with
    | 2 => some 4 | 3 => some 4 | _ => none
  | 2 => match j with
    | 1 => some 8 | 2 => some 8 | 3 => some 8 | 4 => some 8 | 5 => some 8 | 6 => some 8 | 7 => some 8 | _ => none
  | 3 => match j with
    | 1 => some 96 | _ => none
  | 4 => match j with
    | 7 => some 12 | 8 => some 7 | _ => none
  | 5 => match j with
    | 1 => some 7 | 2 => some 8 | 3 => some 8 | 4 => some 8 | 5 => some 8 | 6 => some 8 | 7 => some 8 | 12 => some 96 | 13 => some 48 | 14 => some 48 | 15 => some 144 | 19 => some 572 | 24 => some 12 | 26 => some 8 | _ => none
  | _ => none
/-- also the script's (6, 0, 1), whose length is the int (6, 0, 0, 0) -/
def alenS (σ : St) (c j : Nat) : Option Nat := match c with
  | 6 => match j with
    | 1 => some (σ 6 0 0 0).toNatClampNeg
    | _ => none
  | c => alen c j
def domS (i : Nat) : List AR := [(2, i, 0), (2, i, 1), (2, i, 2), (2, i, 3), (2, i, 4), (2, i, 5), (2, i, 6), (2, i, 7)]
def domL : List AR := [(0, 0, 0), (0, 0, 2), (0, 0, 3), (1, 0, 0), (1, 0, 1), (3, 0, 0), (3, 0, 1), (4, 0, 0), (4, 0, 7), (4, 0, 8), (5, 0, 0), (5, 0, 1), (5, 0, 2), (5, 0, 3), (5, 0, 4), (5, 0, 5), (5, 0, 6), (5, 0, 7), (5, 0, 12), (5, 0, 13), (5, 0, 14), (5, 0, 15), (5, 0, 19), (5, 0, 24), (5, 0, 26)] ++ (List.range 12).flatMap domS
def vOK : AV → Prop
  | .inl _ => True
  | .inr (.inl _) => True
  | .inr (.inr r) => r ∈ domL ∨ r = (6, 0, 1)
def cv (ρ : AR → Nat) : AV → Value
  | .inl x => .int x
  | .inr (.inl x) => .long x
  | .inr (.inr r) => .ref (ρ r)
def isL : AV → Bool
  | .inr (.inl _) => true
  | _ => false
def setM (σ : St) (c i j k : Nat) (v : Int32) : St := fun c' i' j' k' => if c' = c ∧ i' = i ∧ j' = j ∧ k' = k then v else σ c' i' j' k'
def cpyM (σ : St) (c i j c2 i2 j2 n : Nat) : St := fun c' i' j' k' => if c' = c2 ∧ i' = i2 ∧ j' = j2 ∧ k' < n then σ c i j k' else σ c' i' j' k'
def fv (ρ : AR → Nat) (σ : St) (c i k : Nat) : Value := match refF c i k with
  | some r => .ref (ρ r)
  | none => .int (σ c i 0 k)
def cellOf (G : WPar) (σ : St) (r : AR) : va_E := match r.2.2 with
  | 0 => .inr (r.1, (List.range (nF r.1)).map (fv G.2.2.2.1 σ r.1 r.2.1))
  | j + 1 => match alen r.1 (j + 1) with
    | some n => .inl (G.1, n, .inl (σ r.1 r.2.1 (j + 1)))
    | none => .inl (G.2.1, 8, .inr (.inr (.inr (.inr (fun n => some (G.2.2.2.1 (2, 4 + n, 0)))))))
def wsG (G : WPar) (σ : St) : va_W := domL.map (fun r => (G.2.2.2.1 r, cellOf G σ r))
def tysG (G : WPar) : List (ClassId × FieldType) := [(G.1, .int), (G.2.1, .object "GingerArmy$Shelf")]
/-- the script's cell -/
def scrG (G : WPar) (σ : St) (U : State) : Prop := ∃ L : Nat, L ≤ 2560 ∧ σ 6 0 0 0 = nI L ∧ va_X (G.2.2.2.1 (6, 0, 1)) L (σ 6 0 1) U U.heap ∧ G.2.2.2.1 (6, 0, 1) < U.heap.size ∧ ¬ G.2.2.2.2 (G.2.2.2.1 (6, 0, 1))
def RepG (G : WPar) (σ : St) (U : State) (H : Heap) : Prop := va_P G.2.2.1 gCl (wsG G σ) H ∧ va_D G.2.2.2.2 (wsG G σ) ∧ scrG G σ U
/-- methods as tables -/
abbrev mO (M : MethT) : Nat := M.1
abbrev mC (M : MethT) : List CE := M.2.1
abbrev mB (M : MethT) : ByteArray := M.2.2.1
abbrev mL (M : MethT) : Nat := M.2.2.2.1
abbrev mR (M : MethT) : Option FieldType := M.2.2.2.2.1
abbrev mY (M : MethT) : MethodName := M.2.2.2.2.2
def lkc : List CE → Nat → Option (Instr × Nat × Int32 × Nat × Nat × Nat)
  | [], _ => none
  | e :: t, pc => match Nat.beq e.1 pc with
    | true => some e.2
    | false => lkc t pc
def lkL : List (Nat × AV) → Nat → Option AV
  | [], _ => none
  | e :: t, i => match Nat.beq e.1 i with
    | true => some e.2
    | false => lkL t i
def stI : List (Nat × AV) → Nat → List (Nat × AV)
  | [], _ => []
  | e :: t, i => match Nat.beq e.1 i || (Nat.beq (e.1 + 1) i && isL e.2) with
    | true => stI t i
    | false => e :: stI t i
def icP (cd : ClassFile.Cond) (x y : Int32) : Prop := match cd with
  | .eq => x = y | .ne => ¬ x = y | .lt => x < y | .ge => y ≤ x | .gt => y < x | .le => x ≤ y
def step1 (cs : List CE) (b : Bool) (c : Cfg) : Option (Cfg × Option Prop × Bool) :=
  match lkc cs c.1 with
  | none => none
  | some (ins, len, v, n1, n2, _) => match ins with
    | .iconst _ => some ((c.1 + len, c.2.1, .inl v :: c.2.2.1, c.2.2.2), none, false)
    | .bipush _ => some ((c.1 + len, c.2.1, .inl v :: c.2.2.1, c.2.2.2), none, false)
    | .sipush _ => some ((c.1 + len, c.2.1, .inl v :: c.2.2.1, c.2.2.2), none, false)
    | .ldc _ => some ((c.1 + len, c.2.1, .inl v :: c.2.2.1, c.2.2.2), none, false)
    | .ldc_w _ => some ((c.1 + len, c.2.1, .inl v :: c.2.2.1, c.2.2.2), none, false)
    | .lconst _ => some ((c.1 + len, c.2.1, .inr (.inl (Int64.ofNat n1)) :: c.2.2.1, c.2.2.2), none, false)
    | .ldc2_w _ => some ((c.1 + len, c.2.1, .inr (.inl (Int64.ofNat n1)) :: c.2.2.1, c.2.2.2), none, false)
    | .iload_n k => match lkL c.2.1 k with
      | some (.inl x) => some ((c.1 + len, c.2.1, .inl x :: c.2.2.1, c.2.2.2), none, false)
      | _ => none
    | .iload k => match lkL c.2.1 k with
      | some (.inl x) => some ((c.1 + len, c.2.1, .inl x :: c.2.2.1, c.2.2.2), none, false)
      | _ => none
    | .lload_n k => match lkL c.2.1 k with
      | some (.inr (.inl x)) => some ((c.1 + len, c.2.1, .inr (.inl x) :: c.2.2.1, c.2.2.2), none, false)
      | _ => none
    | .lload k => match lkL c.2.1 k with
      | some (.inr (.inl x)) => some ((c.1 + len, c.2.1, .inr (.inl x) :: c.2.2.1, c.2.2.2), none, false)
      | _ => none
    | .aload_n k => match lkL c.2.1 k with
      | some (.inr (.inr r)) => some ((c.1 + len, c.2.1, .inr (.inr r) :: c.2.2.1, c.2.2.2), none, false)
      | _ => none
    | .aload k => match lkL c.2.1 k with
      | some (.inr (.inr r)) => some ((c.1 + len, c.2.1, .inr (.inr r) :: c.2.2.1, c.2.2.2), none, false)
      | _ => none
    | .istore_n k => match c.2.2.1 with
      | .inl x :: r => some ((c.1 + len, (k.val, .inl x) :: stI c.2.1 k.val, r, c.2.2.2), none, false)
      | _ => none
    | .istore k => match c.2.2.1 with
      | .inl x :: r => some ((c.1 + len, (k, .inl x) :: stI c.2.1 k, r, c.2.2.2), none, false)
      | _ => none
    | .astore_n k => match c.2.2.1 with
      | .inr (.inr x) :: r => some ((c.1 + len, (k.val, .inr (.inr x)) :: stI c.2.1 k.val, r, c.2.2.2), none, false)
      | _ => none
    | .astore k => match c.2.2.1 with
      | .inr (.inr x) :: r => some ((c.1 + len, (k, .inr (.inr x)) :: stI c.2.1 k, r, c.2.2.2), none, false)
      | _ => none
    | .lstore_n k => match c.2.2.1 with
      | .inr (.inl x) :: r => some ((c.1 + len, (k.val, .inr (.inl x)) :: stI (stI c.2.1 k.val) (k.val + 1), r, c.2.2.2), none, false)
      | _ => none
    | .lstore k => match c.2.2.1 with
      | .inr (.inl x) :: r => some ((c.1 + len, (k, .inr (.inl x)) :: stI (stI c.2.1 k) (k + 1), r, c.2.2.2), none, false)
      | _ => none
    | .iinc k _ => match lkL c.2.1 k with
      | some (.inl x) => some ((c.1 + len, (k, .inl (x + v)) :: stI c.2.1 k, c.2.2.1, c.2.2.2), none, false)
      | _ => none
    | .iadd => match c.2.2.1 with
      | .inl y :: .inl x :: r => some ((c.1 + len, c.2.1, .inl (x + y) :: r, c.2.2.2), none, false)
      | _ => none
    | .isub => match c.2.2.1 with
      | .inl y :: .inl x :: r => some ((c.1 + len, c.2.1, .inl (x - y) :: r, c.2.2.2), none, false)
      | _ => none
    | .imul => match c.2.2.1 with
      | .inl y :: .inl x :: r => some ((c.1 + len, c.2.1, .inl (x * y) :: r, c.2.2.2), none, false)
      | _ => none
    | .idiv => match c.2.2.1 with
      | .inl y :: .inl x :: r => some ((c.1 + len, c.2.1, .inl (x / y) :: r, c.2.2.2), some (¬ y = 0), false)
      | _ => none
    | .irem => match c.2.2.1 with
      | .inl y :: .inl x :: r => some ((c.1 + len, c.2.1, .inl (x - x / y * y) :: r, c.2.2.2), some (¬ y = 0), false)
      | _ => none
    | .iand => match c.2.2.1 with
      | .inl y :: .inl x :: r => some ((c.1 + len, c.2.1, .inl (x &&& y) :: r, c.2.2.2), none, false)
      | _ => none
    | .ior => match c.2.2.1 with
      | .inl y :: .inl x :: r => some ((c.1 + len, c.2.1, .inl (x ||| y) :: r, c.2.2.2), none, false)
      | _ => none
    | .ixor => match c.2.2.1 with
      | .inl y :: .inl x :: r => some ((c.1 + len, c.2.1, .inl (x ^^^ y) :: r, c.2.2.2), none, false)
      | _ => none
    | .ishl => match c.2.2.1 with
      | .inl y :: .inl x :: r => some ((c.1 + len, c.2.1, .inl (x <<< (y &&& 31)) :: r, c.2.2.2), none, false)
      | _ => none
    | .ishr => match c.2.2.1 with
      | .inl y :: .inl x :: r => some ((c.1 + len, c.2.1, .inl (x >>> (y &&& 31)) :: r, c.2.2.2), none, false)
      | _ => none
    | .iushr => match c.2.2.1 with
      | .inl y :: .inl x :: r => some ((c.1 + len, c.2.1, .inl ((x.toUInt32 >>> (y.toUInt32 &&& Int32.toUInt32 31)).toInt32) :: r, c.2.2.2), none, false)
      | _ => none
    | .ineg => match c.2.2.1 with
      | .inl x :: r => some ((c.1 + len, c.2.1, .inl (-x) :: r, c.2.2.2), none, false)
      | _ => none
    | .i2l => match c.2.2.1 with
      | .inl x :: r => some ((c.1 + len, c.2.1, .inr (.inl x.toInt64) :: r, c.2.2.2), none, false)
      | _ => none
    | .ladd => match c.2.2.1 with
      | .inr (.inl y) :: .inr (.inl x) :: r => some ((c.1 + len, c.2.1, .inr (.inl (x + y)) :: r, c.2.2.2), none, false)
      | _ => none
    | .lsub => match c.2.2.1 with
      | .inr (.inl y) :: .inr (.inl x) :: r => some ((c.1 + len, c.2.1, .inr (.inl (x - y)) :: r, c.2.2.2), none, false)
      | _ => none
    | .lmul => match c.2.2.1 with
      | .inr (.inl y) :: .inr (.inl x) :: r => some ((c.1 + len, c.2.1, .inr (.inl (x * y)) :: r, c.2.2.2), none, false)
      | _ => none
    | .ldiv => match c.2.2.1 with
      | .inr (.inl y) :: .inr (.inl x) :: r => some ((c.1 + len, c.2.1, .inr (.inl (x / y)) :: r, c.2.2.2), some (¬ y = 0), false)
      | _ => none
    | .lrem => match c.2.2.1 with
      | .inr (.inl y) :: .inr (.inl x) :: r => some ((c.1 + len, c.2.1, .inr (.inl (x - x / y * y)) :: r, c.2.2.2), some (¬ y = 0), false)
      | _ => none
    | .lcmp => match c.2.2.1 with
      | .inr (.inl y) :: .inr (.inl x) :: r => some ((c.1 + len, c.2.1, .inl (lg_cmp x y) :: r, c.2.2.2), none, false)
      | _ => none
    | .dup => match c.2.2.1 with
      | .inl x :: r => some ((c.1 + len, c.2.1, .inl x :: .inl x :: r, c.2.2.2), none, false)
      | .inr (.inr x) :: r => some ((c.1 + len, c.2.1, .inr (.inr x) :: .inr (.inr x) :: r, c.2.2.2), none, false)
      | _ => none
    | .dup2 => match c.2.2.1 with
      | .inl x :: .inr (.inr y) :: r => some ((c.1 + len, c.2.1, .inl x :: .inr (.inr y) :: .inl x :: .inr (.inr y) :: r, c.2.2.2), none, false)
      | _ => none
    | .goto _ => some ((n1, c.2.1, c.2.2.1, c.2.2.2), none, false)
    | .if_icmp cd _ => match c.2.2.1 with
      | .inl y :: .inl x :: r => match b with
        | true => some ((n1, c.2.1, r, c.2.2.2), some (icP cd x y), true)
        | false => some ((c.1 + 3, c.2.1, r, c.2.2.2), some (¬ icP cd x y), true)
      | _ => none
    | .ifCond cd _ => match c.2.2.1 with
      | .inl x :: r => match b with
        | true => some ((n1, c.2.1, r, c.2.2.2), some (icP cd x 0), true)
        | false => some ((c.1 + 3, c.2.1, r, c.2.2.2), some (¬ icP cd x 0), true)
      | _ => none
    | .ifnull _ => match c.2.2.1 with
      | .inr (.inr _) :: r => some ((c.1 + 3, c.2.1, r, c.2.2.2), none, false)
      | _ => none
    | .ifnonnull _ => match c.2.2.1 with
      | .inr (.inr _) :: r => some ((n1, c.2.1, r, c.2.2.2), none, false)
      | _ => none
    | .getfield _ => match c.2.2.1 with
      | .inr (.inr (cc, i, 0)) :: r => match Nat.beq cc n1 with
        | true => match refF n1 i n2 with
          | some q => some ((c.1 + len, c.2.1, .inr (.inr q) :: r, c.2.2.2), none, false)
          | none => some ((c.1 + len, c.2.1, .inl (c.2.2.2 n1 i 0 n2) :: r, c.2.2.2), none, false)
        | false => none
      | _ => none
    | .putfield _ => match c.2.2.1 with
      | .inl x :: .inr (.inr (cc, i, 0)) :: r => match Nat.beq cc n1 with
        | true => match fkind n1 n2 with
          | 1 => some ((c.1 + len, c.2.1, r, setM c.2.2.2 n1 i 0 n2 x), none, false)
          | 2 => some ((c.1 + len, c.2.1, r, setM c.2.2.2 n1 i 0 n2 x), some (x = 0 ∨ x = 1), false)
          | _ => none
        | false => none
      | _ => none
    | .iaload => match c.2.2.1 with
      | .inl x :: .inr (.inr (cc, i, j)) :: r => match alenS c.2.2.2 cc j with
        | some n => some ((c.1 + len, c.2.1, .inl (c.2.2.2 cc i j x.toNatClampNeg) :: r, c.2.2.2), some (vp_in x n), false)
        | none => none
      | _ => none
    | .iastore => match c.2.2.1 with
      | .inl v2 :: .inl x :: .inr (.inr (cc, i, j)) :: r => match alen cc j with
        | some n => some ((c.1 + len, c.2.1, r, setM c.2.2.2 cc i j x.toNatClampNeg v2), some (vp_in x n), false)
        | none => none
      | _ => none
    | .arraylength => match c.2.2.1 with
      | .inr (.inr (cc, _, j)) :: r => match alenS c.2.2.2 cc j with
        | some n => some ((c.1 + len, c.2.1, .inl (Int32.ofNat n) :: r, c.2.2.2), none, false)
        | none => none
      | _ => none
    | .aaload => match c.2.2.1 with
      | .inl x :: .inr (.inr (1, _, 1)) :: r => some ((c.1 + len, c.2.1, .inr (.inr (2, 4 + x.toNatClampNeg, 0)) :: r, c.2.2.2), some (vp_in x 8), false)
      | _ => none
    | _ => none
/-- a path: n instructions, the branches' turns given; what must hold on the way -/
def run (cs : List CE) : Nat → List Bool → Cfg → Option (Cfg × List Prop)
  | 0, _, c => some (c, [])
  | n + 1, bs, c => match step1 cs (bs.headD false) c with
    | none => none
    | some (c1, P1, u) => match run cs n (match u with | true => bs.tail | false => bs) c1 with
      | none => none
      | some (c2, P2) => some (c2, match P1 with | none => P2 | some q => q :: P2)
def allP : List Prop → Prop
  | [] => True
  | [q] => q
  | q :: t => q ∧ allP t
/-- what a row of a method's table must be -/
def fldOf (o i : Nat) : Option (Nat × Nat × Nat) := (fldL.find? fun e => e.1 == o && e.2.1 == i).map fun e => e.2.2
def ceOK (o : Nat) (bs : ByteArray) (e : CE) : Bool :=
  decide (decode bs e.1 = .ok (e.2.1, e.2.2.1)) && match e.2.1 with
    | .iconst n => decide (e.2.2.1 = 1 ∧ Int32.ofInt n = e.2.2.2.1)
    | .bipush n => decide (e.2.2.1 = 2 ∧ (Int8.ofInt n).toInt32 = e.2.2.2.1)
    | .sipush n => decide (e.2.2.1 = 3 ∧ (Int16.ofInt n).toInt32 = e.2.2.2.1)
    | .ldc i => decide (e.2.2.1 = 2 ∧ (o, i, e.2.2.2.1) ∈ cstL)
    | .ldc_w i => decide (e.2.2.1 = 3 ∧ (o, i, e.2.2.2.1) ∈ cstL)
    | .ldc2_w i => decide (e.2.2.1 = 3 ∧ (o, i, e.2.2.2.2.1) ∈ cs2L)
    | .lconst n => decide (e.2.2.1 = 1 ∧ n.val = e.2.2.2.2.1)
    | .iload _ => decide (e.2.2.1 = 2)
    | .lload _ => decide (e.2.2.1 = 2)
    | .aload _ => decide (e.2.2.1 = 2)
    | .istore _ => decide (e.2.2.1 = 2)
    | .lstore _ => decide (e.2.2.1 = 2)
    | .astore _ => decide (e.2.2.1 = 2)
    | .iinc _ n => decide (e.2.2.1 = 3 ∧ Int32.ofInt n = e.2.2.2.1)
    | .goto n => decide (e.2.2.1 = 3 ∧ (e.1 : Int) + n = (e.2.2.2.2.1 : Int))
    | .if_icmp _ n => decide (e.2.2.1 = 3 ∧ (e.1 : Int) + n = (e.2.2.2.2.1 : Int))
    | .ifCond _ n => decide (e.2.2.1 = 3 ∧ (e.1 : Int) + n = (e.2.2.2.2.1 : Int))
    | .ifnull n => decide (e.2.2.1 = 3 ∧ (e.1 : Int) + n = (e.2.2.2.2.1 : Int))
    | .ifnonnull n => decide (e.2.2.1 = 3 ∧ (e.1 : Int) + n = (e.2.2.2.2.1 : Int))
    | .getfield i => decide (e.2.2.1 = 3 ∧ (o, i, e.2.2.2.2.1, e.2.2.2.2.2.1, e.2.2.2.2.2.2) ∈ fldL)
    | .putfield i => decide (e.2.2.1 = 3 ∧ (o, i, e.2.2.2.2.1, e.2.2.2.2.2.1, e.2.2.2.2.2.2) ∈ fldL)
    | .invokevirtual _ => decide (e.2.2.1 = 3)
    | .invokestatic _ => decide (e.2.2.1 = 3)
    | .invokespecial _ => decide (e.2.2.1 = 3)
    | .tableswitch .. => true
    | .lookupswitch .. => true
    | .new _ => true
    | .newarray _ => true
    | .anewarray _ => true
    | _ => decide (e.2.2.1 = 1)
end
section
/-! FACTS OF THE TABLES -/
set_option maxRecDepth 100000 in
theorem domL_nodup : domL.Nodup := by decide +kernel
set_option maxRecDepth 100000 in
theorem domL_ref : ∀ r ∈ domL, r.2.2 = 0 → ∀ k < 27, ∀ q ∈ (refF r.1 r.2.1 k).toList, q ∈ domL := by decide +kernel
theorem domL_shelf {i : Nat} (h : i < 12) {j : Nat} (hj : j < 8) : (2, i, j) ∈ domL := by
  refine List.mem_append_right _ (List.mem_flatMap.mpr ⟨i, List.mem_range.mpr h, ?_⟩)
  have : j = 0 ∨ j = 1 ∨ j = 2 ∨ j = 3 ∨ j = 4 ∨ j = 5 ∨ j = 6 ∨ j = 7 := by omega
  rcases this with rfl | rfl | rfl | rfl | rfl | rfl | rfl | rfl <;> simp [domS]
set_option maxRecDepth 100000 in
theorem domL_zero : ∀ r ∈ domL, r.2.2 = 0 → r.1 < 6 := by decide +kernel
set_option maxRecDepth 100000 in
theorem domL_six : ∀ r ∈ domL, r.1 < 6 := by decide +kernel
set_option maxRecDepth 100000 in
theorem domL_arr : ∀ r ∈ domL, (r.1 = 1 ∧ r.2.2 = 1) → alen r.1 r.2.2 = none := by decide +kernel
def fldW (e : Nat × Nat × Nat × Nat × Nat) : Cond := match e.2.2.2.2 with
  | 0 => .fieldLink (ownName e.1) e.2.1 (((gCl.getD e.2.2.1 (RX1, TX1, 3)).2.1 e.2.2.2.1).1) (((gCl.getD e.2.2.1 (RX1, TX1, 3)).2.1 e.2.2.2.1).2.1) (((gCl.getD e.2.2.1 (RX1, TX1, 3)).2.1 e.2.2.2.1).2.2.1)
  | _ => .fieldLinkNest (ownName e.1) e.2.1 (((gCl.getD e.2.2.1 (RX1, TX1, 3)).2.1 e.2.2.2.1).1) (((gCl.getD e.2.2.1 (RX1, TX1, 3)).2.1 e.2.2.2.1).2.1) (((gCl.getD e.2.2.1 (RX1, TX1, 3)).2.1 e.2.2.2.1).2.2.1) "GingerArmy"
set_option maxRecDepth 100000 in
theorem fldL_ok : (fldL.zip fldP).all (fun q => decide (lw_tbl[q.2]? = some (fldW q.1) ∧ q.1.2.2.1 < 6 ∧ q.1.2.2.2.1 < nF q.1.2.2.1 ∧ (q.1.2.2.2.2 = 0 ∨ q.1.2.2.2.2 = 1)) && (goodWord (fldW q.1) || gNest (fldW q.1))) = true := by decide +kernel
theorem zip_mem {α β : Type} {a : α} : ∀ {l : List α} {l2 : List β}, a ∈ l → l.length ≤ l2.length → ∃ b, (a, b) ∈ l.zip l2
  | [], _, h, _ => absurd h List.not_mem_nil
  | x :: l, [], _, h => absurd h (by simp)
  | x :: l, y :: l2, h, hl => by
    rcases List.mem_cons.mp h with rfl | h
    · exact ⟨y, by simp⟩
    · obtain ⟨b, hb⟩ := zip_mem h (Nat.le_of_succ_le_succ hl)
      exact ⟨b, by simp [hb]⟩
theorem fldL_in {o i n1 n2 n3 : Nat} (h : (o, i, n1, n2, n3) ∈ fldL) : n1 < 6 ∧ n2 < nF n1 ∧ ((n3 = 0 ∧ Cond.fieldLink (ownName o) i (((gCl.getD n1 (RX1, TX1, 3)).2.1 n2).1) (((gCl.getD n1 (RX1, TX1, 3)).2.1 n2).2.1) (((gCl.getD n1 (RX1, TX1, 3)).2.1 n2).2.2.1) ∈ gT) ∨ (n3 = 1 ∧ Cond.fieldLinkNest (ownName o) i (((gCl.getD n1 (RX1, TX1, 3)).2.1 n2).1) (((gCl.getD n1 (RX1, TX1, 3)).2.1 n2).2.1) (((gCl.getD n1 (RX1, TX1, 3)).2.1 n2).2.2.1) "GingerArmy" ∈ gN)) := by
  obtain ⟨b, hb⟩ := zip_mem (l2 := fldP) h (by decide)
  have h1 := List.all_eq_true.mp fldL_ok _ hb
  simp only [Bool.and_eq_true, decide_eq_true_eq] at h1
  obtain ⟨⟨h1, h2, h3, h4⟩, h5⟩ := h1
  refine ⟨h2, h3, ?_⟩
  rcases h4 with h4 | h4
  · cases h4
    refine Or.inl ⟨rfl, List.mem_filter.mpr ⟨List.mem_of_getElem? h1, ?_⟩⟩
    rcases Bool.or_eq_true _ _ |>.mp h5 with h | h
    · exact h
    · cases h
  · cases h4
    exact Or.inr ⟨rfl, List.mem_filter.mpr ⟨List.mem_of_getElem? h1, rfl⟩⟩
set_option maxRecDepth 100000 in
theorem cstL_ok : (cstL.zip cstP).all (fun q => decide (lw_tbl[q.2]? = some (Cond.constant (ownName q.1.1) q.1.2.1 q.1.2.2))) = true := by decide +kernel
set_option maxRecDepth 100000 in
theorem cs2L_ok : (cs2L.zip cs2P).all (fun q => decide (lw_tbl[q.2]? = some (Cond.constantLong (ownName q.1.1) q.1.2.1 (Int64.ofNat q.1.2.2)))) = true := by decide +kernel
theorem cstL_in {o i : Nat} {v : Int32} (h : (o, i, v) ∈ cstL) : Cond.constant (ownName o) i v ∈ gT := by
  obtain ⟨b, hb⟩ := zip_mem (l2 := cstP) h (by decide)
  have h1 := List.all_eq_true.mp cstL_ok _ hb
  exact gT_in b (of_decide_eq_true h1) rfl
theorem cs2L_in {o i n : Nat} (h : (o, i, n) ∈ cs2L) : Cond.constantLong (ownName o) i (Int64.ofNat n) ∈ gT := by
  obtain ⟨b, hb⟩ := zip_mem (l2 := cs2P) h (by decide)
  have h1 := List.all_eq_true.mp cs2L_ok _ hb
  exact gT_in b (of_decide_eq_true h1) rfl
-- the classes own words
set_option maxRecDepth 100000 in
theorem gCl_ws : ∀ q ∈ gCl, ∀ w ∈ u_ws q.1 q.2.1 q.2.2, w ∈ gT := by
  have h : gCl.all (fun q => (u_ws q.1 q.2.1 q.2.2).all (fun w => decide (w ∈ lw_tbl) && goodWord w)) = true := by decide +kernel
  intro q hq w hw
  have h1 := List.all_eq_true.mp (List.all_eq_true.mp h q hq) w hw
  simp only [Bool.and_eq_true, decide_eq_true_eq] at h1
  exact List.mem_filter.mpr h1
theorem gCl_at {n : Nat} (h : n < 6) : gCl[n]? = some (gCl.getD n (RX1, TX1, 3)) := by
  have : n = 0 ∨ n = 1 ∨ n = 2 ∨ n = 3 ∨ n = 4 ∨ n = 5 := by omega
  rcases this with rfl | rfl | rfl | rfl | rfl | rfl <;> rfl
set_option maxRecDepth 100000 in
theorem gCl_nF : ∀ n < 6, (gCl.getD n (RX1, TX1, 3)).2.2 = nF n := by decide +kernel
set_option maxRecDepth 100000 in
theorem gCl_nm : ∀ n < 6, ∀ a, a < nF n → ∀ b, b < nF n → a ≠ b → ((gCl.getD n (RX1, TX1, 3)).2.1 a).2.1 ≠ ((gCl.getD n (RX1, TX1, 3)).2.1 b).2.1 := by decide +kernel
def gTy (n k : Nat) : FieldType := match n with
  | 0 => tyX1 k | 1 => tyX2 k | 2 => tyX3 k | 3 => tyX4 k | 4 => tyX5 k | _ => tyX6 k
set_option maxRecDepth 100000 in
theorem gCl_ty : ∀ n < 6, ∀ k, k < nF n → parseFieldDescriptor ((gCl.getD n (RX1, TX1, 3)).2.1 k).2.2.1 = some (gTy n k) := by decide +kernel
set_option maxRecDepth 100000 in
theorem gCl_kind : ∀ n < 6, ∀ k, k < nF n → (fkind n k = 1 → ((gCl.getD n (RX1, TX1, 3)).2.1 k).2.2.2 = false ∧ gTy n k = .int ∧ refF n 0 k = none) ∧ (fkind n k = 2 → ((gCl.getD n (RX1, TX1, 3)).2.1 k).2.2.2 = false ∧ gTy n k = .boolean ∧ refF n 0 k = none) := by decide +kernel
theorem refF_none {n i k : Nat} (h : refF n 0 k = none) : refF n i k = none := by
  unfold refF at h ⊢
  split <;> simp_all
  split <;> simp_all
end
section
/-! THE ABSTRACT STEP IS THE MACHINE'S -/
theorem wsG_at {G : WPar} {σ : St} {r : AR} (h : r ∈ domL) : ∃ q0 : Nat, domL[q0]? = some r ∧ (wsG G σ)[q0]? = some (G.2.2.2.1 r, cellOf G σ r) := by
  obtain ⟨q0, hq⟩ := List.getElem?_of_mem h
  exact ⟨q0, hq, by rw [wsG, List.getElem?_map, hq]; rfl⟩
theorem map_set_one {α β : Type} {f g : α → β} {r : α} : ∀ {l : List α} {q : Nat}, l.Nodup → l[q]? = some r → (∀ r' ∈ l, r' ≠ r → g r' = f r') → (l.map f).set q (g r) = l.map g
  | [], q, _, h, _ => by simp at h
  | x :: l, 0, hn, h, he => by
    simp only [List.getElem?_cons_zero, Option.some.injEq] at h
    subst h
    simp only [List.map_cons, List.set_cons_zero, List.cons.injEq, true_and]
    refine List.map_congr_left fun a ha => (he a (List.mem_cons_of_mem _ ha) (fun e => ?_)).symm
    subst e
    exact (List.nodup_cons.mp hn).1 ha
  | x :: l, q + 1, hn, h, he => by
    simp only [List.getElem?_cons_succ] at h
    simp only [List.map_cons, List.set_cons_succ, List.cons.injEq]
    have hx : x ≠ r := fun e => (List.nodup_cons.mp hn).1 (by rw [e]; exact List.mem_of_getElem? h)
    exact ⟨(he x List.mem_cons_self hx).symm, map_set_one (List.nodup_cons.mp hn).2 h (fun r' hr' hne => he r' (List.mem_cons_of_mem _ hr') hne)⟩
theorem wsG_set {G : WPar} {σ σ' : St} {r : AR} {q0 : Nat} (h : domL[q0]? = some r) (he : ∀ r' ∈ domL, r' ≠ r → cellOf G σ' r' = cellOf G σ r') : (wsG G σ).set q0 (G.2.2.2.1 r, cellOf G σ' r) = wsG G σ' :=
  map_set_one (f := fun r => (G.2.2.2.1 r, cellOf G σ r)) (g := fun r => (G.2.2.2.1 r, cellOf G σ' r)) domL_nodup h (fun r' hr' hne => by show (_, _) = (_, _); rw [he r' hr' hne])
theorem cellOf_obj {G : WPar} {σ : St} {c i : Nat} : cellOf G σ (c, i, 0) = .inr (c, (List.range (nF c)).map (fv G.2.2.2.1 σ c i)) := rfl
theorem cellOf_arr {G : WPar} {σ : St} {c i j n : Nat} (h : alen c j = some n) : cellOf G σ (c, i, j) = .inl (G.1, n, .inl (σ c i j)) := by
  cases j with
  | zero => exfalso; unfold alen at h; split at h <;> simp at h
  | succ j => simp only [cellOf, h]
theorem cellOf_congr {G : WPar} {σ σ' : St} {r : AR} (h : ∀ k, σ' r.1 r.2.1 r.2.2 k = σ r.1 r.2.1 r.2.2 k) : cellOf G σ' r = cellOf G σ r := by
  obtain ⟨c, i, j⟩ := r
  cases j with
  | zero =>
    rw [cellOf_obj, cellOf_obj]
    have e : fv G.2.2.2.1 σ' c i = fv G.2.2.2.1 σ c i := by
      funext k
      have := h k
      dsimp only at this
      simp only [fv, this]
    rw [e]
  | succ j =>
    have e : σ' c i (j + 1) = σ c i (j + 1) := funext h
    simp only [cellOf, e]
theorem setM_ne {σ : St} {c i j k : Nat} {v : Int32} {r : AR} (h : r ≠ (c, i, j)) (k' : Nat) : setM σ c i j k v r.1 r.2.1 r.2.2 k' = σ r.1 r.2.1 r.2.2 k' := by
  unfold setM
  rw [if_neg]
  rintro ⟨h1, h2, h3, -⟩
  exact h (by rw [← h1, ← h2, ← h3])
theorem setM_arr {σ : St} {c i j k : Nat} {v : Int32} : setM σ c i j k v c i j = upd (σ c i j) k v := by
  funext k'
  simp [setM, upd]
theorem alen_lt {c j n : Nat} (h : alen c j = some n) : c < 6 := by
  unfold alen at h
  split at h <;> first | omega | simp at h
theorem scrG_set {G : WPar} {σ σ' : St} {U : State} (h : scrG G σ U) (h0 : σ' 6 = σ 6) : scrG G σ' U := by
  obtain ⟨L, h1, h2, h3, h4, h5⟩ := h
  exact ⟨L, h1, by rw [h0]; exact h2, by rw [h0]; exact h3, h4, h5⟩
theorem scrG_move {G : WPar} {σ : St} {u U : State} (h : scrG G σ u) (hvm : u.vm.Alike U.vm) (hz : u.heap.size ≤ U.heap.size) (hb : U.heap[G.2.2.2.1 (6, 0, 1)]? = u.heap[G.2.2.2.1 (6, 0, 1)]?) : scrG G σ U := by
  obtain ⟨L, h1, h2, h3, h4, h5⟩ := h
  exact ⟨L, h1, h2, (h3.moved hvm).kept hb, Nat.lt_of_lt_of_le h4 hz, h5⟩
theorem setM_six {σ : St} {c i j k : Nat} {v : Int32} (h : c < 6) : setM σ c i j k v 6 = σ 6 := by
  funext i' j' k'
  simp only [setM]
  rw [if_neg]
  rintro ⟨h1, -⟩
  omega
theorem lv_mono {la : Array Slot} {nL : Nat} {l l' : List (Nat × Value)} (h : lv_has la nL l) (hl : ∀ q ∈ l', q ∈ l) : lv_has la nL l' := ⟨h.1, h.2.1, fun q hq => h.2.2 q (hl q hq)⟩
theorem lkL_mem {v : AV} : ∀ {ls : List (Nat × AV)} {i : Nat}, lkL ls i = some v → (i, v) ∈ ls
  | [], _, h => by simp [lkL] at h
  | e :: t, i, h => by
    unfold lkL at h
    split at h
    · rename_i hb
      have := Nat.eq_of_beq_eq_true hb
      cases h
      subst this
      exact List.mem_cons_self
    · exact List.mem_cons_of_mem _ (lkL_mem h)
theorem lkc_mem {e : Instr × Nat × Int32 × Nat × Nat × Nat} : ∀ {cs : List CE} {pc : Nat}, lkc cs pc = some e → (pc, e) ∈ cs
  | [], _, h => by simp [lkc] at h
  | x :: t, pc, h => by
    unfold lkc at h
    split at h
    · rename_i hb
      have := Nat.eq_of_beq_eq_true hb
      cases h
      subst this
      exact List.mem_cons_self
    · exact List.mem_cons_of_mem _ (lkc_mem h)
def cls (ρ : AR → Nat) (ls : List (Nat × AV)) : List (Nat × Value) := ls.map fun q => (q.1, cv ρ q.2)
theorem cv_cat {ρ : AR → Nat} (v : AV) : ((cv ρ v).category == 2) = isL v := by
  rcases v with x | x | x <;> rfl
theorem stI_cls {ρ : AR → Nat} {i : Nat} : ∀ {ls : List (Nat × AV)}, cls ρ (stI ls i) = (cls ρ ls).filter (fun q => !(q.1 == i) && !(q.1 + 1 == i && q.2.category == 2))
  | [] => rfl
  | e :: t => by
    have hb : ∀ a b : Nat, Nat.beq a b = (a == b) := fun a b => by
      rw [Bool.eq_iff_iff]
      constructor
      · intro h; simp [Nat.eq_of_beq_eq_true h]
      · intro h; have := eq_of_beq h; subst this; exact Nat.beq_refl a
    simp only [stI, cls, List.map_cons, List.filter_cons, cv_cat]
    have ih := stI_cls (ρ := ρ) (i := i) (ls := t)
    simp only [cls] at ih
    rw [hb, hb]
    cases h1 : (e.1 == i) <;> cases h2 : (e.1 + 1 == i && isL e.2) <;> simp [ih]
theorem stI_mem {i : Nat} {q : Nat × AV} : ∀ {ls : List (Nat × AV)}, q ∈ stI ls i → q ∈ ls
  | [], h => h
  | e :: t, h => by
    unfold stI at h
    split at h
    · exact List.mem_cons_of_mem _ (stI_mem h)
    · rcases List.mem_cons.mp h with rfl | h
      · exact List.mem_cons_self
      · exact List.mem_cons_of_mem _ (stI_mem h)
theorem lv_cls {ρ : AR → Nat} {la : Array Slot} {nL i : Nat} {ls : List (Nat × AV)} {v : AV} (h : lv_has la nL (cls ρ ls)) (hi : lkL ls i = some v) : la[i]? = some (.val (cv ρ v)) :=
  h.2.2 (i, cv ρ v) (List.mem_map.mpr ⟨(i, v), lkL_mem hi, rfl⟩)
theorem lv_idx {ρ : AR → Nat} {la : Array Slot} {nL i : Nat} {ls : List (Nat × AV)} {v : AV} (h : lv_has la nL (cls ρ ls)) (hi : lkL ls i = some v) : i < nL := by
  have h1 := lv_cls h hi
  have h2 : i < la.size := (Array.getElem?_eq_some_iff.mp h1).1
  rw [h.1] at h2
  exact h2
/-- a store's place lies within -/
def ixOK (L : Nat) (e : CE) : Bool := match e.2.1 with
  | .istore_n k => decide (k.val < L)
  | .istore k => decide (k < L)
  | .astore_n k => decide (k.val < L)
  | .astore k => decide (k < L)
  | .lstore_n k => decide (k.val + 1 < L)
  | .lstore k => decide (k + 1 < L)
  | _ => true
/-- what a run in a method stands on -/
def Cx (M : MethT) (d : Nat) (G : WPar) (p : Program) (R : Room) (s : State) (m : MethodId) (args : Array Value) (cd : Code) (cells slots : Nat) : Prop :=
  p.tables.exec = Jvm.exec ∧ cd.code = mB M ∧ cd.maxLocals = mL M ∧ s.vm.findClass (ownName (mO M)) = some m.cls ∧ (∀ w ∈ gT, w.before args s = true) ∧ (∀ w ∈ gN, va_Nw w s) ∧ va_K G.2.2.1 gCl (tysG G) s ∧ d ≤ R.frames ∧ 36 * d ≤ R.locals ∧ cells ≤ R.cells ∧ slots ≤ R.slots ∧ (mC M).all (fun e => ceOK (mO M) (mB M) e && ixOK (mL M) e) = true
/-- a return stands at pc -/
def retAt (M : MethT) (pc : Nat) (r : Option AV) : Prop := match r with
  | none => (∃ e, lkc (mC M) pc = some (.return_, e)) ∧ mR M = none
  | some (.inl x) => (∃ e, lkc (mC M) pc = some (.ireturn, e)) ∧ (mR M = some .int ∨ (mR M = some .boolean ∧ (x = 0 ∨ x = 1)))
  | some (.inr (.inl _)) => (∃ e, lkc (mC M) pc = some (.lreturn, e)) ∧ mR M = some .long
  | some (.inr (.inr _)) => (∃ e, lkc (mC M) pc = some (.areturn, e)) ∧ mR M = some (.object "GingerArmy$Shelf")
def AW (M : MethT) (d : Nat) (Q : Option AV → St → Prop) (c : Cfg) : Prop :=
  ∀ (G : WPar) (p : Program) (l : Launch) (e : Env) (R : Room) (s : State) (m : MethodId) (args : Array Value) (below : List Frame) (meth : Method) (cd : Code) (H : Heap) (locs : List Loc) (cells slots : Nat) (la : Array Slot) (QQ : State → Prop),
    Cx M d G p R s m args cd cells slots → RepG G c.2.2.2 s H → va_S G.2.2.2.2 s.heap H locs → lv_has la (mL M) (cls G.2.2.2.1 c.2.1) → (∀ q ∈ c.2.1, vOK q.2) → (∀ v ∈ c.2.2.1, vOK v) →
    (∀ (r : Option AV) (σ' : St) (H' : Heap) (locs' : List Loc) (pc' : Nat) (la' : Array Slot), Q r σ' → (∀ v ∈ r.toList, vOK v) → RepG G σ' s H' → va_S G.2.2.2.2 s.heap H' locs' → retAt M pc' r → la'.size = mL M → W p l e R s m args below meth cd H' locs' cells slots QQ (F0 m pc' la' (r.toList.map (cv G.2.2.2.1)))) →
    W p l e R s m args below meth cd H locs cells slots QQ (F0 m c.1 la (c.2.2.1.map (cv G.2.2.2.1)))
end
section
theorem nF_le (c : Nat) : nF c ≤ 27 := by
  unfold nF
  split <;> decide
/-! ONE STEP -/
set_option maxHeartbeats 4000000 in
set_option maxRecDepth 100000 in
theorem step_sound {M : MethT} {d : Nat} {Q : Option AV → St → Prop} {b u : Bool} {P : Option Prop} {c c' : Cfg} (h : step1 (mC M) b c = some (c', P, u)) (hP : ∀ q, P = some q → q) (k : AW M d Q c') : AW M d Q c := by
  intro G p l e R s m args below meth cd H locs cells slots la QQ hC hR hS hl ho hv hret
  obtain ⟨pc, ls, st, σ⟩ := c
  obtain ⟨hx, hb, hml, hown, hts, hnw, hK, hfr, hlo, hce, hsl, htab⟩ := id hC
  obtain ⟨hPw, hDw, hsc⟩ := id hR
  dsimp only at hPw hDw hsc hl ho hv hR ⊢
  unfold step1 at h
  dsimp only at h
  cases hlk : lkc (mC M) pc with
  | none => rw [hlk] at h; cases h
  | some ent =>
    obtain ⟨ins, len, v, n1, n2, n3⟩ := ent
    rw [hlk] at h
    have hm := lkc_mem hlk
    have hok := List.all_eq_true.mp htab _ hm
    rw [Bool.and_eq_true] at hok
    obtain ⟨hok, hix⟩ := hok
    unfold ceOK at hok
    rw [Bool.and_eq_true] at hok
    obtain ⟨hdg, hin⟩ := hok
    replace hdg : decode (mB M) pc = .ok (ins, len) := of_decide_eq_true hdg
    cases ins
    case iconst n =>
      dsimp only at h hin hix
      obtain ⟨rfl, hvv⟩ := of_decide_eq_true hin
      cases h
      refine lv_iconst hx hb hdg hvv ?_
      exact k G p l e R s m args below meth cd H locs cells slots la QQ hC hR hS hl ho (List.forall_mem_cons.mpr ⟨trivial, hv⟩) hret
    case bipush n =>
      dsimp only at h hin hix
      obtain ⟨rfl, hvv⟩ := of_decide_eq_true hin
      cases h
      refine lv_bipush hx hb hdg hvv ?_
      exact k G p l e R s m args below meth cd H locs cells slots la QQ hC hR hS hl ho (List.forall_mem_cons.mpr ⟨trivial, hv⟩) hret
    case sipush n =>
      dsimp only at h hin hix
      obtain ⟨rfl, hvv⟩ := of_decide_eq_true hin
      cases h
      refine lv_sipush hx hb hdg hvv ?_
      exact k G p l e R s m args below meth cd H locs cells slots la QQ hC hR hS hl ho (List.forall_mem_cons.mpr ⟨trivial, hv⟩) hret
    case ldc i =>
      dsimp only at h hin hix
      obtain ⟨rfl, hvv⟩ := of_decide_eq_true hin
      cases h
      refine lv_ldc hx hb hown (hts _ (cstL_in hvv)) hdg ?_
      exact k G p l e R s m args below meth cd H locs cells slots la QQ hC hR hS hl ho (List.forall_mem_cons.mpr ⟨trivial, hv⟩) hret
    case ldc_w i =>
      dsimp only at h hin hix
      obtain ⟨rfl, hvv⟩ := of_decide_eq_true hin
      cases h
      refine lv_ldcw hx hb hown (hts _ (cstL_in hvv)) hdg ?_
      exact k G p l e R s m args below meth cd H locs cells slots la QQ hC hR hS hl ho (List.forall_mem_cons.mpr ⟨trivial, hv⟩) hret
    case ldc2_w i =>
      dsimp only at h hin hix
      obtain ⟨rfl, hvv⟩ := of_decide_eq_true hin
      cases h
      refine lv_ldc2 hx hb hown (hts _ (cs2L_in hvv)) hdg ?_
      exact k G p l e R s m args below meth cd H locs cells slots la QQ hC hR hS hl ho (List.forall_mem_cons.mpr ⟨trivial, hv⟩) hret
    case lconst n =>
      dsimp only at h hin hix
      obtain ⟨rfl, hvv⟩ := of_decide_eq_true hin
      cases h
      refine lv_lconst hx hb hdg (by rw [hvv]) ?_
      exact k G p l e R s m args below meth cd H locs cells slots la QQ hC hR hS hl ho (List.forall_mem_cons.mpr ⟨trivial, hv⟩) hret
    case iload_n kk =>
      dsimp only at h hin hix
      replace hin := of_decide_eq_true hin
      subst hin
      split at h
      · rename_i x hlx
        cases h
        refine lv_iload_n hx hb hdg rfl (lv_cls hl hlx) ?_
        exact k G p l e R s m args below meth cd H locs cells slots la QQ hC hR hS hl ho (List.forall_mem_cons.mpr ⟨trivial, hv⟩) hret
      · cases h
    case iload kk =>
      dsimp only at h hin hix
      replace hin := of_decide_eq_true hin
      subst hin
      split at h
      · rename_i x hlx
        cases h
        refine lv_iload hx hb hdg (lv_cls hl hlx) ?_
        exact k G p l e R s m args below meth cd H locs cells slots la QQ hC hR hS hl ho (List.forall_mem_cons.mpr ⟨trivial, hv⟩) hret
      · cases h
    case lload_n kk =>
      dsimp only at h hin hix
      replace hin := of_decide_eq_true hin
      subst hin
      split at h
      · rename_i x hlx
        cases h
        refine lv_lload_n hx hb hdg rfl (lv_cls hl hlx) ?_
        exact k G p l e R s m args below meth cd H locs cells slots la QQ hC hR hS hl ho (List.forall_mem_cons.mpr ⟨trivial, hv⟩) hret
      · cases h
    case lload kk =>
      dsimp only at h hin hix
      replace hin := of_decide_eq_true hin
      subst hin
      split at h
      · rename_i x hlx
        cases h
        refine lv_lload hx hb hdg (lv_cls hl hlx) ?_
        exact k G p l e R s m args below meth cd H locs cells slots la QQ hC hR hS hl ho (List.forall_mem_cons.mpr ⟨trivial, hv⟩) hret
      · cases h
    case aload_n kk =>
      dsimp only at h hin hix
      replace hin := of_decide_eq_true hin
      subst hin
      split at h
      · rename_i x hlx
        cases h
        refine lv_aload_n hx hb hdg rfl (lv_cls hl hlx) ?_
        exact k G p l e R s m args below meth cd H locs cells slots la QQ hC hR hS hl ho (List.forall_mem_cons.mpr ⟨ho _ (lkL_mem hlx), hv⟩) hret
      · cases h
    case aload kk =>
      dsimp only at h hin hix
      replace hin := of_decide_eq_true hin
      subst hin
      split at h
      · rename_i x hlx
        cases h
        refine lv_aload hx hb hdg (lv_cls hl hlx) ?_
        exact k G p l e R s m args below meth cd H locs cells slots la QQ hC hR hS hl ho (List.forall_mem_cons.mpr ⟨ho _ (lkL_mem hlx), hv⟩) hret
      · cases h
    case istore_n kk =>
      dsimp only at h hin hix
      replace hin := of_decide_eq_true hin
      subst hin
      replace hix := of_decide_eq_true hix
      split at h
      · rename_i x r
        cases h
        obtain ⟨hv1, hv2⟩ := List.forall_mem_cons.mp hv
        refine lv_istore_n hx hb hdg rfl hl hix rfl (fun la2 hl2 => ?_)
        rw [← stI_cls] at hl2
        exact k G p l e R s m args below meth cd H locs cells slots la2 QQ hC hR hS hl2 (List.forall_mem_cons.mpr ⟨hv1, fun q hq => ho q (stI_mem hq)⟩) hv2 hret
      · cases h
    case istore kk =>
      dsimp only at h hin hix
      replace hin := of_decide_eq_true hin
      subst hin
      replace hix := of_decide_eq_true hix
      split at h
      · rename_i x r
        cases h
        obtain ⟨hv1, hv2⟩ := List.forall_mem_cons.mp hv
        refine lv_istore hx hb hdg hl hix rfl (fun la2 hl2 => ?_)
        rw [← stI_cls] at hl2
        exact k G p l e R s m args below meth cd H locs cells slots la2 QQ hC hR hS hl2 (List.forall_mem_cons.mpr ⟨hv1, fun q hq => ho q (stI_mem hq)⟩) hv2 hret
      · cases h
    case astore_n kk =>
      dsimp only at h hin hix
      replace hin := of_decide_eq_true hin
      subst hin
      replace hix := of_decide_eq_true hix
      split at h
      · rename_i x r
        cases h
        obtain ⟨hv1, hv2⟩ := List.forall_mem_cons.mp hv
        refine lv_astore_n hx hb hdg rfl hl hix rfl (fun la2 hl2 => ?_)
        rw [← stI_cls] at hl2
        exact k G p l e R s m args below meth cd H locs cells slots la2 QQ hC hR hS hl2 (List.forall_mem_cons.mpr ⟨hv1, fun q hq => ho q (stI_mem hq)⟩) hv2 hret
      · cases h
    case astore kk =>
      dsimp only at h hin hix
      replace hin := of_decide_eq_true hin
      subst hin
      replace hix := of_decide_eq_true hix
      split at h
      · rename_i x r
        cases h
        obtain ⟨hv1, hv2⟩ := List.forall_mem_cons.mp hv
        refine lv_astore hx hb hdg hl hix rfl (fun la2 hl2 => ?_)
        rw [← stI_cls] at hl2
        exact k G p l e R s m args below meth cd H locs cells slots la2 QQ hC hR hS hl2 (List.forall_mem_cons.mpr ⟨hv1, fun q hq => ho q (stI_mem hq)⟩) hv2 hret
      · cases h
    case lstore_n kk =>
      dsimp only at h hin hix
      replace hin := of_decide_eq_true hin
      subst hin
      replace hix := of_decide_eq_true hix
      split at h
      · rename_i x r
        cases h
        obtain ⟨hv1, hv2⟩ := List.forall_mem_cons.mp hv
        refine lv_lstore_n hx hb hdg rfl hl hix rfl (fun la2 hl2 => ?_)
        have hl3 : lv_has la2 (mL M) (cls G.2.2.2.1 ((kk.val, .inr (.inl x)) :: stI (stI ls kk.val) (kk.val + 1))) := by
          refine lv_mono hl2 (fun q hq => ?_)
          rcases List.mem_cons.mp hq with rfl | hq
          · exact List.mem_cons_self
          · refine List.mem_cons_of_mem _ ?_
            have h9 : q ∈ cls G.2.2.2.1 (stI (stI ls kk.val) (kk.val + 1)) := hq
            rw [stI_cls, stI_cls] at h9
            simp only [List.mem_filter, Bool.and_eq_true] at h9 ⊢
            exact ⟨h9.1.1, h9.1.2.1, h9.2.1, h9.1.2.2⟩
        exact k G p l e R s m args below meth cd H locs cells slots la2 QQ hC hR hS hl3 (List.forall_mem_cons.mpr ⟨hv1, fun q hq => ho q (stI_mem (stI_mem hq))⟩) hv2 hret
      · cases h
    case lstore kk =>
      dsimp only at h hin hix
      replace hin := of_decide_eq_true hin
      subst hin
      replace hix := of_decide_eq_true hix
      split at h
      · rename_i x r
        cases h
        obtain ⟨hv1, hv2⟩ := List.forall_mem_cons.mp hv
        refine lv_lstore hx hb hdg hl hix rfl (fun la2 hl2 => ?_)
        have hl3 : lv_has la2 (mL M) (cls G.2.2.2.1 ((kk, .inr (.inl x)) :: stI (stI ls kk) (kk + 1))) := by
          refine lv_mono hl2 (fun q hq => ?_)
          rcases List.mem_cons.mp hq with rfl | hq
          · exact List.mem_cons_self
          · refine List.mem_cons_of_mem _ ?_
            have h9 : q ∈ cls G.2.2.2.1 (stI (stI ls kk) (kk + 1)) := hq
            rw [stI_cls, stI_cls] at h9
            simp only [List.mem_filter, Bool.and_eq_true] at h9 ⊢
            exact ⟨h9.1.1, h9.1.2.1, h9.2.1, h9.1.2.2⟩
        exact k G p l e R s m args below meth cd H locs cells slots la2 QQ hC hR hS hl3 (List.forall_mem_cons.mpr ⟨hv1, fun q hq => ho q (stI_mem (stI_mem hq))⟩) hv2 hret
      · cases h
    case iinc kk nn =>
      dsimp only at h hin hix
      obtain ⟨rfl, hvv⟩ := of_decide_eq_true hin
      split at h
      · rename_i x hlx
        cases h
        have hlx2 := lv_cls hl hlx
        have hl0 : lv_has la (mL M) ((kk, .int x) :: cls G.2.2.2.1 ls) := ⟨hl.1, hl.2.1, List.forall_mem_cons.mpr ⟨hlx2, hl.2.2⟩⟩
        refine lv_iinc hx hb hdg hl0 (k := 0) rfl (by rw [hvv]) (lv_idx hl hlx) rfl (fun la2 hl2 => ?_)
        have hl3 : lv_has la2 (mL M) (cls G.2.2.2.1 ((kk, .inl (x + v)) :: stI ls kk)) := by
          refine lv_mono hl2 (fun q hq => ?_)
          rcases List.mem_cons.mp hq with rfl | hq
          · exact List.mem_cons_self
          · refine List.mem_cons_of_mem _ ?_
            have h9 : q ∈ cls G.2.2.2.1 (stI ls kk) := hq
            rw [stI_cls] at h9
            rw [List.mem_filter] at h9 ⊢
            exact ⟨List.mem_cons_of_mem _ h9.1, h9.2⟩
        exact k G p l e R s m args below meth cd H locs cells slots la2 QQ hC hR hS hl3 (List.forall_mem_cons.mpr ⟨trivial, fun q hq => ho q (stI_mem hq)⟩) hv hret
      · cases h
    case iadd =>
      dsimp only at h hin hix
      replace hin := of_decide_eq_true hin
      subst hin
      split at h
      · rename_i y x r
        cases h
        refine lv_iadd hx hb hdg ?_
        exact k G p l e R s m args below meth cd H locs cells slots la QQ hC hR hS hl ho (List.forall_mem_cons.mpr ⟨trivial, (List.forall_mem_cons.mp (List.forall_mem_cons.mp hv).2).2⟩) hret
      · cases h
    case isub =>
      dsimp only at h hin hix
      replace hin := of_decide_eq_true hin
      subst hin
      split at h
      · rename_i y x r
        cases h
        refine lv_isub hx hb hdg ?_
        exact k G p l e R s m args below meth cd H locs cells slots la QQ hC hR hS hl ho (List.forall_mem_cons.mpr ⟨trivial, (List.forall_mem_cons.mp (List.forall_mem_cons.mp hv).2).2⟩) hret
      · cases h
    case imul =>
      dsimp only at h hin hix
      replace hin := of_decide_eq_true hin
      subst hin
      split at h
      · rename_i y x r
        cases h
        refine lv_imul hx hb hdg ?_
        exact k G p l e R s m args below meth cd H locs cells slots la QQ hC hR hS hl ho (List.forall_mem_cons.mpr ⟨trivial, (List.forall_mem_cons.mp (List.forall_mem_cons.mp hv).2).2⟩) hret
      · cases h
    case iand =>
      dsimp only at h hin hix
      replace hin := of_decide_eq_true hin
      subst hin
      split at h
      · rename_i y x r
        cases h
        refine lv_iand hx hb hdg ?_
        exact k G p l e R s m args below meth cd H locs cells slots la QQ hC hR hS hl ho (List.forall_mem_cons.mpr ⟨trivial, (List.forall_mem_cons.mp (List.forall_mem_cons.mp hv).2).2⟩) hret
      · cases h
    case ior =>
      dsimp only at h hin hix
      replace hin := of_decide_eq_true hin
      subst hin
      split at h
      · rename_i y x r
        cases h
        refine lv_ior hx hb hdg ?_
        exact k G p l e R s m args below meth cd H locs cells slots la QQ hC hR hS hl ho (List.forall_mem_cons.mpr ⟨trivial, (List.forall_mem_cons.mp (List.forall_mem_cons.mp hv).2).2⟩) hret
      · cases h
    case ixor =>
      dsimp only at h hin hix
      replace hin := of_decide_eq_true hin
      subst hin
      split at h
      · rename_i y x r
        cases h
        refine lv_ixor hx hb hdg ?_
        exact k G p l e R s m args below meth cd H locs cells slots la QQ hC hR hS hl ho (List.forall_mem_cons.mpr ⟨trivial, (List.forall_mem_cons.mp (List.forall_mem_cons.mp hv).2).2⟩) hret
      · cases h
    case ishl =>
      dsimp only at h hin hix
      replace hin := of_decide_eq_true hin
      subst hin
      split at h
      · rename_i y x r
        cases h
        refine lv_ishl hx hb hdg ?_
        exact k G p l e R s m args below meth cd H locs cells slots la QQ hC hR hS hl ho (List.forall_mem_cons.mpr ⟨trivial, (List.forall_mem_cons.mp (List.forall_mem_cons.mp hv).2).2⟩) hret
      · cases h
    case ishr =>
      dsimp only at h hin hix
      replace hin := of_decide_eq_true hin
      subst hin
      split at h
      · rename_i y x r
        cases h
        refine lv_ishr hx hb hdg ?_
        exact k G p l e R s m args below meth cd H locs cells slots la QQ hC hR hS hl ho (List.forall_mem_cons.mpr ⟨trivial, (List.forall_mem_cons.mp (List.forall_mem_cons.mp hv).2).2⟩) hret
      · cases h
    case ladd =>
      dsimp only at h hin hix
      replace hin := of_decide_eq_true hin
      subst hin
      split at h
      · rename_i y x r
        cases h
        refine lv_ladd hx hb hdg ?_
        exact k G p l e R s m args below meth cd H locs cells slots la QQ hC hR hS hl ho (List.forall_mem_cons.mpr ⟨trivial, (List.forall_mem_cons.mp (List.forall_mem_cons.mp hv).2).2⟩) hret
      · cases h
    case lsub =>
      dsimp only at h hin hix
      replace hin := of_decide_eq_true hin
      subst hin
      split at h
      · rename_i y x r
        cases h
        refine lv_lsub hx hb hdg ?_
        exact k G p l e R s m args below meth cd H locs cells slots la QQ hC hR hS hl ho (List.forall_mem_cons.mpr ⟨trivial, (List.forall_mem_cons.mp (List.forall_mem_cons.mp hv).2).2⟩) hret
      · cases h
    case lmul =>
      dsimp only at h hin hix
      replace hin := of_decide_eq_true hin
      subst hin
      split at h
      · rename_i y x r
        cases h
        refine lv_lmul hx hb hdg ?_
        exact k G p l e R s m args below meth cd H locs cells slots la QQ hC hR hS hl ho (List.forall_mem_cons.mpr ⟨trivial, (List.forall_mem_cons.mp (List.forall_mem_cons.mp hv).2).2⟩) hret
      · cases h
    case idiv =>
      dsimp only at h hin hix
      replace hin := of_decide_eq_true hin
      subst hin
      split at h
      · rename_i y x r
        cases h
        refine lv_idiv hx hb hdg (hP _ rfl) ?_
        exact k G p l e R s m args below meth cd H locs cells slots la QQ hC hR hS hl ho (List.forall_mem_cons.mpr ⟨trivial, (List.forall_mem_cons.mp (List.forall_mem_cons.mp hv).2).2⟩) hret
      · cases h
    case irem =>
      dsimp only at h hin hix
      replace hin := of_decide_eq_true hin
      subst hin
      split at h
      · rename_i y x r
        cases h
        refine lv_irem hx hb hdg (hP _ rfl) ?_
        exact k G p l e R s m args below meth cd H locs cells slots la QQ hC hR hS hl ho (List.forall_mem_cons.mpr ⟨trivial, (List.forall_mem_cons.mp (List.forall_mem_cons.mp hv).2).2⟩) hret
      · cases h
    case ldiv =>
      dsimp only at h hin hix
      replace hin := of_decide_eq_true hin
      subst hin
      split at h
      · rename_i y x r
        cases h
        refine lv_ldiv hx hb hdg (hP _ rfl) ?_
        exact k G p l e R s m args below meth cd H locs cells slots la QQ hC hR hS hl ho (List.forall_mem_cons.mpr ⟨trivial, (List.forall_mem_cons.mp (List.forall_mem_cons.mp hv).2).2⟩) hret
      · cases h
    case lrem =>
      dsimp only at h hin hix
      replace hin := of_decide_eq_true hin
      subst hin
      split at h
      · rename_i y x r
        cases h
        refine lv_lrem hx hb hdg (hP _ rfl) ?_
        exact k G p l e R s m args below meth cd H locs cells slots la QQ hC hR hS hl ho (List.forall_mem_cons.mpr ⟨trivial, (List.forall_mem_cons.mp (List.forall_mem_cons.mp hv).2).2⟩) hret
      · cases h
    case iushr =>
      dsimp only at h hin hix
      replace hin := of_decide_eq_true hin
      subst hin
      split at h
      · rename_i y x r
        cases h
        refine lv_iushr hx hb hdg rfl ?_
        exact k G p l e R s m args below meth cd H locs cells slots la QQ hC hR hS hl ho (List.forall_mem_cons.mpr ⟨trivial, (List.forall_mem_cons.mp (List.forall_mem_cons.mp hv).2).2⟩) hret
      · cases h
    case lcmp =>
      dsimp only at h hin hix
      replace hin := of_decide_eq_true hin
      subst hin
      split at h
      · rename_i y x r
        cases h
        refine W.lcmp hx hb hdg ?_
        exact k G p l e R s m args below meth cd H locs cells slots la QQ hC hR hS hl ho (List.forall_mem_cons.mpr ⟨trivial, (List.forall_mem_cons.mp (List.forall_mem_cons.mp hv).2).2⟩) hret
      · cases h
    case ineg =>
      dsimp only at h hin hix
      replace hin := of_decide_eq_true hin
      subst hin
      split at h
      · rename_i x r
        cases h
        refine lv_ineg hx hb hdg ?_
        exact k G p l e R s m args below meth cd H locs cells slots la QQ hC hR hS hl ho (List.forall_mem_cons.mpr ⟨trivial, (List.forall_mem_cons.mp hv).2⟩) hret
      · cases h
    case i2l =>
      dsimp only at h hin hix
      replace hin := of_decide_eq_true hin
      subst hin
      split at h
      · rename_i x r
        cases h
        refine lv_i2l hx hb hdg rfl ?_
        exact k G p l e R s m args below meth cd H locs cells slots la QQ hC hR hS hl ho (List.forall_mem_cons.mpr ⟨trivial, (List.forall_mem_cons.mp hv).2⟩) hret
      · cases h
    case dup =>
      dsimp only at h hin hix
      replace hin := of_decide_eq_true hin
      subst hin
      split at h
      · rename_i x r
        cases h
        refine lv_dup hx hb hdg rfl ?_
        exact k G p l e R s m args below meth cd H locs cells slots la QQ hC hR hS hl ho (List.forall_mem_cons.mpr ⟨trivial, hv⟩) hret
      · rename_i x r
        cases h
        refine lv_dup hx hb hdg rfl ?_
        exact k G p l e R s m args below meth cd H locs cells slots la QQ hC hR hS hl ho (List.forall_mem_cons.mpr ⟨(List.forall_mem_cons.mp hv).1, hv⟩) hret
      · cases h
    case dup2 =>
      dsimp only at h hin hix
      replace hin := of_decide_eq_true hin
      subst hin
      split at h
      · rename_i x y r
        cases h
        refine lv_dup2_11 hx hb hdg rfl rfl ?_
        exact k G p l e R s m args below meth cd H locs cells slots la QQ hC hR hS hl ho (List.forall_mem_cons.mpr ⟨trivial, List.forall_mem_cons.mpr ⟨(List.forall_mem_cons.mp (List.forall_mem_cons.mp hv).2).1, hv⟩⟩) hret
      · cases h
    case goto n =>
      dsimp only at h hin hix
      obtain ⟨rfl, ht⟩ := of_decide_eq_true hin
      cases h
      refine lv_goto hx hb hdg ht ?_
      exact k G p l e R s m args below meth cd H locs cells slots la QQ hC hR hS hl ho hv hret
    case if_icmp cnd n =>
      dsimp only at h hin hix
      obtain ⟨rfl, ht⟩ := of_decide_eq_true hin
      split at h
      · rename_i y x r
        have hv2 := (List.forall_mem_cons.mp (List.forall_mem_cons.mp hv).2).2
        cases b
        · cases h
          have hq := hP _ rfl
          cases cnd
          case eq => exact lv_icmp_eq hx hb hdg ht (fun h9 => absurd h9 hq) (fun _ => k G p l e R s m args below meth cd H locs cells slots la QQ hC hR hS hl ho hv2 hret)
          case ne => exact lv_icmp_ne hx hb hdg ht (fun h9 => absurd h9 hq) (fun _ => k G p l e R s m args below meth cd H locs cells slots la QQ hC hR hS hl ho hv2 hret)
          case lt => exact lv_icmp_lt hx hb hdg ht (fun h9 => absurd h9 hq) (fun _ => k G p l e R s m args below meth cd H locs cells slots la QQ hC hR hS hl ho hv2 hret)
          case ge => exact lv_icmp_ge hx hb hdg ht (fun h9 => absurd h9 hq) (fun _ => k G p l e R s m args below meth cd H locs cells slots la QQ hC hR hS hl ho hv2 hret)
          case gt => exact lv_icmp_gt hx hb hdg ht (fun h9 => absurd h9 hq) (fun _ => k G p l e R s m args below meth cd H locs cells slots la QQ hC hR hS hl ho hv2 hret)
          case le => exact lv_icmp_le hx hb hdg ht (fun h9 => absurd h9 hq) (fun _ => k G p l e R s m args below meth cd H locs cells slots la QQ hC hR hS hl ho hv2 hret)
        · cases h
          have hq := hP _ rfl
          cases cnd
          case eq => exact lv_icmp_eq hx hb hdg ht (fun _ => k G p l e R s m args below meth cd H locs cells slots la QQ hC hR hS hl ho hv2 hret) (fun h9 => absurd hq h9)
          case ne => exact lv_icmp_ne hx hb hdg ht (fun _ => k G p l e R s m args below meth cd H locs cells slots la QQ hC hR hS hl ho hv2 hret) (fun h9 => absurd h9 hq)
          case lt => exact lv_icmp_lt hx hb hdg ht (fun _ => k G p l e R s m args below meth cd H locs cells slots la QQ hC hR hS hl ho hv2 hret) (fun h9 => absurd hq h9)
          case ge => exact lv_icmp_ge hx hb hdg ht (fun _ => k G p l e R s m args below meth cd H locs cells slots la QQ hC hR hS hl ho hv2 hret) (fun h9 => absurd hq h9)
          case gt => exact lv_icmp_gt hx hb hdg ht (fun _ => k G p l e R s m args below meth cd H locs cells slots la QQ hC hR hS hl ho hv2 hret) (fun h9 => absurd hq h9)
          case le => exact lv_icmp_le hx hb hdg ht (fun _ => k G p l e R s m args below meth cd H locs cells slots la QQ hC hR hS hl ho hv2 hret) (fun h9 => absurd hq h9)
      · cases h
    case ifCond cnd n =>
      dsimp only at h hin hix
      obtain ⟨rfl, ht⟩ := of_decide_eq_true hin
      split at h
      · rename_i x r
        have hv2 := (List.forall_mem_cons.mp hv).2
        cases b
        · cases h
          have hq := hP _ rfl
          cases cnd
          case eq => exact lv_if_eq hx hb hdg ht (fun h9 => absurd h9 hq) (fun _ => k G p l e R s m args below meth cd H locs cells slots la QQ hC hR hS hl ho hv2 hret)
          case ne => exact lv_if_ne hx hb hdg ht (fun h9 => absurd h9 hq) (fun _ => k G p l e R s m args below meth cd H locs cells slots la QQ hC hR hS hl ho hv2 hret)
          case lt => exact lv_if_lt hx hb hdg ht (fun h9 => absurd h9 hq) (fun _ => k G p l e R s m args below meth cd H locs cells slots la QQ hC hR hS hl ho hv2 hret)
          case ge => exact lv_if_ge hx hb hdg ht (fun h9 => absurd h9 hq) (fun _ => k G p l e R s m args below meth cd H locs cells slots la QQ hC hR hS hl ho hv2 hret)
          case gt => exact lv_if_gt hx hb hdg ht (fun h9 => absurd h9 hq) (fun _ => k G p l e R s m args below meth cd H locs cells slots la QQ hC hR hS hl ho hv2 hret)
          case le => exact lv_if_le hx hb hdg ht (fun h9 => absurd h9 hq) (fun _ => k G p l e R s m args below meth cd H locs cells slots la QQ hC hR hS hl ho hv2 hret)
        · cases h
          have hq := hP _ rfl
          cases cnd
          case eq => exact lv_if_eq hx hb hdg ht (fun _ => k G p l e R s m args below meth cd H locs cells slots la QQ hC hR hS hl ho hv2 hret) (fun h9 => absurd hq h9)
          case ne => exact lv_if_ne hx hb hdg ht (fun _ => k G p l e R s m args below meth cd H locs cells slots la QQ hC hR hS hl ho hv2 hret) (fun h9 => absurd h9 hq)
          case lt => exact lv_if_lt hx hb hdg ht (fun _ => k G p l e R s m args below meth cd H locs cells slots la QQ hC hR hS hl ho hv2 hret) (fun h9 => absurd hq h9)
          case ge => exact lv_if_ge hx hb hdg ht (fun _ => k G p l e R s m args below meth cd H locs cells slots la QQ hC hR hS hl ho hv2 hret) (fun h9 => absurd hq h9)
          case gt => exact lv_if_gt hx hb hdg ht (fun _ => k G p l e R s m args below meth cd H locs cells slots la QQ hC hR hS hl ho hv2 hret) (fun h9 => absurd hq h9)
          case le => exact lv_if_le hx hb hdg ht (fun _ => k G p l e R s m args below meth cd H locs cells slots la QQ hC hR hS hl ho hv2 hret) (fun h9 => absurd hq h9)
      · cases h
    case ifnull n =>
      dsimp only at h hin hix
      obtain ⟨rfl, ht⟩ := of_decide_eq_true hin
      split at h
      · rename_i x r
        cases h
        refine lv_ifnull hx hb hdg ?_
        exact k G p l e R s m args below meth cd H locs cells slots la QQ hC hR hS hl ho (List.forall_mem_cons.mp hv).2 hret
      · cases h
    case ifnonnull n =>
      dsimp only at h hin hix
      obtain ⟨rfl, ht⟩ := of_decide_eq_true hin
      split at h
      · rename_i x r
        cases h
        refine lv_ifnonnull hx hb hdg ht ?_
        exact k G p l e R s m args below meth cd H locs cells slots la QQ hC hR hS hl ho (List.forall_mem_cons.mp hv).2 hret
      · cases h
    case getfield idx =>
      dsimp only at h hin hix
      obtain ⟨rfl, hfl⟩ := of_decide_eq_true hin
      obtain ⟨h6, hkN, hlink⟩ := fldL_in hfl
      split at h
      · rename_i cc i r
        split at h
        · rename_i hcc
          have := Nat.eq_of_beq_eq_true hcc
          subst this
          obtain ⟨hv1, hv2⟩ := List.forall_mem_cons.mp hv
          have hd : (cc, i, 0) ∈ domL := by
            rcases hv1 with h9 | h9
            · exact h9
            · cases h9
          obtain ⟨q0, -, hq0⟩ := wsG_at (G := G) (σ := σ) hd
          rw [cellOf_obj] at hq0
          have hfs : ((List.range (nF cc)).map (fv G.2.2.2.1 σ cc i))[n2]? = some (fv G.2.2.2.1 σ cc i n2) := by
            rw [List.getElem?_map, List.getElem?_range hkN]; rfl
          have hNF := gCl_nF cc h6
          have hgo : W p l e R s m args below meth cd H locs cells slots QQ (F0 m (pc + 3) la (fv G.2.2.2.1 σ cc i n2 :: r.map (cv G.2.2.2.1))) := by
            split at h
            · rename_i q hq
              cases h
              have hnx := k G p l e R s m args below meth cd H locs cells slots la QQ hC hR hS hl ho (List.forall_mem_cons.mpr ⟨Or.inl (domL_ref _ hd rfl n2 (Nat.lt_of_lt_of_le hkN (nF_le cc)) q (by rw [hq]; exact List.mem_cons_self)), hv2⟩) hret
              have e9 : fv G.2.2.2.1 σ cc i n2 = .ref (G.2.2.2.1 q) := by simp only [fv, hq]
              rw [e9]
              exact hnx
            · rename_i hq
              cases h
              have hnx := k G p l e R s m args below meth cd H locs cells slots la QQ hC hR hS hl ho (List.forall_mem_cons.mpr ⟨trivial, hv2⟩) hret
              have e9 : fv G.2.2.2.1 σ cc i n2 = .int (σ cc i 0 n2) := by simp only [fv, hq]
              rw [e9]
              exact hnx
          rcases hlink with ⟨rfl, hlink⟩ | ⟨rfl, hlink⟩
          · exact va_get (D := G.2.2.1) (cl := gCl) (tys := tysG G) hx hb hts (gCl_ws _ (List.mem_of_getElem? (gCl_at h6))) hown hK hPw q0 hq0 (gCl_at h6) n2 (by rw [hNF]; exact hkN) (hts _ hlink) (fun _ h9 => h9) hfs hdg hgo
          · exact va_getN (D := G.2.2.1) (cl := gCl) (tys := tysG G) (host := "GingerArmy") hx hb hts (gCl_ws _ (List.mem_of_getElem? (gCl_at h6))) hown hK hPw q0 hq0 (gCl_at h6) n2 (by rw [hNF]; exact hkN) (va_Nw.use rfl (hnw _ hlink)) (fun _ h9 => h9) hfs hdg hgo
        · cases h
      · cases h
    case putfield idx =>
      dsimp only at h hin hix
      obtain ⟨rfl, hfl⟩ := of_decide_eq_true hin
      obtain ⟨h6, hkN, hlink⟩ := fldL_in hfl
      split at h
      · rename_i x cc i r
        split at h
        · rename_i hcc
          have := Nat.eq_of_beq_eq_true hcc
          subst this
          obtain ⟨-, hv9⟩ := List.forall_mem_cons.mp hv
          obtain ⟨hv1, hv2⟩ := List.forall_mem_cons.mp hv9
          have hd : (cc, i, 0) ∈ domL := by
            rcases hv1 with h9 | h9
            · exact h9
            · cases h9
          obtain ⟨q0, hqd, hq0⟩ := wsG_at (G := G) (σ := σ) hd
          rw [cellOf_obj] at hq0
          have hNF := gCl_nF cc h6
          have hty : ∀ k, k < (gCl.getD cc (RX1, TX1, 3)).2.2 → parseFieldDescriptor ((gCl.getD cc (RX1, TX1, 3)).2.1 k).2.2.1 = some (gTy cc k) := fun k hk => gCl_ty cc h6 k (by rw [← hNF]; exact hk)
          have hnm : ∀ a, a < (gCl.getD cc (RX1, TX1, 3)).2.2 → ∀ b, b < (gCl.getD cc (RX1, TX1, 3)).2.2 → a ≠ b → ((gCl.getD cc (RX1, TX1, 3)).2.1 a).2.1 ≠ ((gCl.getD cc (RX1, TX1, 3)).2.1 b).2.1 := fun a ha b hb hne => gCl_nm cc h6 a (by rw [← hNF]; exact ha) b (by rw [← hNF]; exact hb) hne
          have hset : refF cc i n2 = none → (wsG G σ).set q0 (G.2.2.2.1 (cc, i, 0), .inr (cc, ((List.range (nF cc)).map (fv G.2.2.2.1 σ cc i)).set n2 (.int x))) = wsG G (setM σ cc i 0 n2 x) := by
            intro hrf
            rw [← wsG_set (G := G) (σ := σ) (σ' := setM σ cc i 0 n2 x) hqd (fun r' _ hne => cellOf_congr (fun k' => setM_ne hne k')), cellOf_obj]
            have e9 : fv G.2.2.2.1 (setM σ cc i 0 n2 x) cc i n2 = .int x := by simp [fv, hrf, setM]
            have e8 := map_set_one (f := fv G.2.2.2.1 σ cc i) (g := fv G.2.2.2.1 (setM σ cc i 0 n2 x) cc i) (l := List.range (nF cc)) (q := n2) (r := n2) List.nodup_range (List.getElem?_range hkN) (fun r' _ hne => by
              simp only [fv]
              split
              · rfl
              · simp [setM, hne])
            rw [e9] at e8
            rw [e8]
          have hgo : refF cc i n2 = none → ∀ ty, gTy cc n2 = ty → ((gCl.getD cc (RX1, TX1, 3)).2.1 n2).2.2.2 = false → narrow ty (.int x) = .int x → fits ty (.int x) = true → c' = (pc + 3, ls, r, setM σ cc i 0 n2 x) → W p l e R s m args below meth cd H locs cells slots QQ (F0 m pc la (.int x :: .ref (G.2.2.2.1 (cc, i, 0)) :: r.map (cv G.2.2.2.1))) := by
            intro hrf ty hty1 hfin hnar hfit hc'
            subst hc'
            have hnx : ∀ (H1 : Heap) (locs1 : List Loc), va_P G.2.2.1 gCl ((wsG G σ).set q0 (G.2.2.2.1 (cc, i, 0), .inr (cc, ((List.range (nF cc)).map (fv G.2.2.2.1 σ cc i)).set n2 (.int x)))) H1 → va_D G.2.2.2.2 ((wsG G σ).set q0 (G.2.2.2.1 (cc, i, 0), .inr (cc, ((List.range (nF cc)).map (fv G.2.2.2.1 σ cc i)).set n2 (.int x)))) → va_S G.2.2.2.2 s.heap H1 locs1 → W p l e R s m args below meth cd H1 locs1 cells slots QQ (F0 m (pc + 3) la (r.map (cv G.2.2.2.1))) := by
              intro H1 locs1 hP1 hD1 hS1
              rw [hset hrf] at hP1 hD1
              exact k G p l e R s m args below meth cd H1 locs1 cells slots la QQ hC ⟨hP1, hD1, scrG_set hsc (setM_six h6)⟩ hS1 hl ho hv2 hret
            rcases hlink with ⟨rfl, hlink⟩ | ⟨rfl, hlink⟩
            · exact va_put (D := G.2.2.1) (cl := gCl) (tys := tysG G) hx hb hts (gCl_ws _ (List.mem_of_getElem? (gCl_at h6))) (gTy cc) hty hnm hown hK hPw hDw hS q0 hq0 (gCl_at h6) n2 (by rw [hNF]; exact hkN) (hts _ hlink) (fun _ h9 => h9) hfin (by rw [gCl_ty cc h6 n2 hkN, hty1]) hnar hfit (by simp; exact hkN) hdg hnx
            · exact va_putN (D := G.2.2.1) (cl := gCl) (tys := tysG G) (host := "GingerArmy") hx hb hts (gCl_ws _ (List.mem_of_getElem? (gCl_at h6))) (gTy cc) hty hnm hown hK hPw hDw hS q0 hq0 (gCl_at h6) n2 (by rw [hNF]; exact hkN) (va_Nw.use rfl (hnw _ hlink)) (fun _ h9 => h9) hfin (by rw [gCl_ty cc h6 n2 hkN, hty1]) hnar hfit (by simp; exact hkN) hdg hnx
          split at h
          · rename_i hfk
            cases h
            obtain ⟨g1, g2, g3⟩ := (gCl_kind cc h6 n2 hkN).1 hfk
            exact hgo (refF_none g3) .int g2 g1 rfl rfl rfl
          · rename_i hfk
            cases h
            obtain ⟨g1, g2, g3⟩ := (gCl_kind cc h6 n2 hkN).2 hfk
            rcases hP _ rfl with h9 | h9
            · subst h9
              exact hgo (refF_none g3) .boolean g2 g1 rfl rfl rfl
            · subst h9
              exact hgo (refF_none g3) .boolean g2 g1 rfl rfl rfl
          · cases h
        · cases h
      · cases h
    case iaload =>
      dsimp only at h hin hix
      replace hin := of_decide_eq_true hin
      subst hin
      split at h
      · rename_i x cc i j r
        obtain ⟨-, hv9⟩ := List.forall_mem_cons.mp hv
        obtain ⟨hv1, hv2⟩ := List.forall_mem_cons.mp hv9
        split at h
        · rename_i n hn
          cases h
          have hq := hP _ rfl
          rcases hv1 with hd | hd
          · have h6 := domL_six _ hd
            have hn2 : alen cc j = some n := by
              rw [← hn]
              unfold alenS
              split
              · exact absurd h6 (Nat.lt_irrefl 6)
              · rfl
            obtain ⟨q0, -, hq0⟩ := wsG_at (G := G) (σ := σ) hd
            rw [cellOf_arr hn2] at hq0
            refine va_iald (D := G.2.2.1) (cl := gCl) (tys := tysG G) hx hb hK hPw q0 0 hq0 rfl hq hdg ?_
            exact k G p l e R s m args below meth cd H locs cells slots la QQ hC hR hS hl ho (List.forall_mem_cons.mpr ⟨trivial, hv2⟩) hret
          · cases hd
            obtain ⟨L, g1, g2, g3, g4, g5⟩ := hsc
            have hn3 : n = L := by
              have : some (σ 6 0 0 0).toNatClampNeg = some n := hn
              rw [g2, nI_clamp (by omega)] at this
              exact (Option.some.inj this).symm
            subst hn3
            refine va_sld hx hb g3 g4 g5 hS hq hdg ?_
            exact k G p l e R s m args below meth cd H locs cells slots la QQ hC hR hS hl ho (List.forall_mem_cons.mpr ⟨trivial, hv2⟩) hret
        · cases h
      · cases h
    case iastore =>
      dsimp only at h hin hix
      replace hin := of_decide_eq_true hin
      subst hin
      split at h
      · rename_i v2 x cc i j r
        obtain ⟨-, hv8⟩ := List.forall_mem_cons.mp hv
        obtain ⟨-, hv9⟩ := List.forall_mem_cons.mp hv8
        obtain ⟨hv1, hv2⟩ := List.forall_mem_cons.mp hv9
        split at h
        · rename_i n hn
          cases h
          have hq := hP _ rfl
          rcases hv1 with hd | hd
          · have h6 := domL_six _ hd
            obtain ⟨q0, hqd, hq0⟩ := wsG_at (G := G) (σ := σ) hd
            rw [cellOf_arr hn] at hq0
            have hset : (wsG G σ).set q0 (G.2.2.2.1 (cc, i, j), .inl (G.1, n, .inl (upd (σ cc i j) x.toNatClampNeg v2))) = wsG G (setM σ cc i j x.toNatClampNeg v2) := by
              rw [← wsG_set (G := G) (σ := σ) (σ' := setM σ cc i j x.toNatClampNeg v2) hqd (fun r' _ hne => cellOf_congr (fun k' => setM_ne hne k')), cellOf_arr hn, setM_arr]
            refine va_iast (D := G.2.2.1) (cl := gCl) (tys := tysG G) hx hb hK hPw hDw hS q0 0 hq0 rfl hq hdg (fun H1 locs1 hP1 hD1 hS1 => ?_)
            rw [hset] at hP1 hD1
            exact k G p l e R s m args below meth cd H1 locs1 cells slots la QQ hC ⟨hP1, hD1, scrG_set hsc (setM_six h6)⟩ hS1 hl ho hv2 hret
          · cases hd
            cases hn
        · cases h
      · cases h
    case arraylength =>
      dsimp only at h hin hix
      replace hin := of_decide_eq_true hin
      subst hin
      split at h
      · rename_i cc i j r
        obtain ⟨hv1, hv2⟩ := List.forall_mem_cons.mp hv
        split at h
        · rename_i n hn
          cases h
          rcases hv1 with hd | hd
          · have h6 := domL_six _ hd
            have hn2 : alen cc j = some n := by
              rw [← hn]
              unfold alenS
              split
              · exact absurd h6 (Nat.lt_irrefl 6)
              · rfl
            obtain ⟨q0, -, hq0⟩ := wsG_at (G := G) (σ := σ) hd
            rw [cellOf_arr hn2] at hq0
            refine va_alen (D := G.2.2.1) (cl := gCl) (tys := tysG G) hx hb hK hPw q0 0 hq0 (ty := .int) rfl rfl hdg ?_
            exact k G p l e R s m args below meth cd H locs cells slots la QQ hC hR hS hl ho (List.forall_mem_cons.mpr ⟨trivial, hv2⟩) hret
          · cases hd
            obtain ⟨L, g1, g2, g3, g4, g5⟩ := hsc
            have hn3 : n = L := by
              have : some (σ 6 0 0 0).toNatClampNeg = some n := hn
              rw [g2, nI_clamp (by omega)] at this
              exact (Option.some.inj this).symm
            subst hn3
            refine va_slen hx hb g3 g4 g5 hS hdg ?_
            exact k G p l e R s m args below meth cd H locs cells slots la QQ hC hR hS hl ho (List.forall_mem_cons.mpr ⟨trivial, hv2⟩) hret
        · cases h
      · cases h
    case aaload =>
      dsimp only at h hin hix
      replace hin := of_decide_eq_true hin
      subst hin
      split at h
      · rename_i x i r
        obtain ⟨-, hv9⟩ := List.forall_mem_cons.mp hv
        obtain ⟨hv1, hv2⟩ := List.forall_mem_cons.mp hv9
        cases h
        have hq := hP _ rfl
        have hd : (1, i, 1) ∈ domL := by
          rcases hv1 with h9 | h9
          · exact h9
          · cases h9
        obtain ⟨q0, -, hq0⟩ := wsG_at (G := G) (σ := σ) hd
        have hlt : x.toNatClampNeg < 8 := Nat.not_le.mp fun q => hq (Or.inr q)
        refine va_aldq (D := G.2.2.1) (cl := gCl) (tys := tysG G) (C := "GingerArmy$Shelf") (n := 8) (f := fun n => some (G.2.2.2.1 (2, 4 + n, 0))) hx hb hK hPw q0 1 hq0 rfl hq hdg ?_
        exact k G p l e R s m args below meth cd H locs cells slots la QQ hC hR hS hl ho (List.forall_mem_cons.mpr ⟨Or.inl (domL_shelf (by omega) (by omega)), hv2⟩) hret
      · cases h
    all_goals (cases h)

theorem allP_cons {q : Prop} {t : List Prop} (h : allP (q :: t)) : q ∧ allP t := by
  cases t with
  | nil => exact ⟨h, trivial⟩
  | cons a b => exact h
theorem run_sound {M : MethT} {d : Nat} {Q : Option AV → St → Prop} : ∀ (n : Nat) (bs : List Bool) {c c' : Cfg} {P : List Prop}, run (mC M) n bs c = some (c', P) → allP P → AW M d Q c' → AW M d Q c
  | 0, _, c, c', P, h, _, k => by
    cases h
    exact k
  | n + 1, bs, c, c', P, h, hP, k => by
    unfold run at h
    split at h
    · cases h
    · rename_i c1 P1 u h1
      split at h
      · cases h
      · rename_i c2 P2 h2
        cases P1 with
        | none =>
          cases h
          exact step_sound h1 (fun q hq => by cases hq) (run_sound n _ h2 hP k)
        | some q =>
          cases h
          obtain ⟨hq, hP2⟩ := allP_cons hP
          exact step_sound h1 (fun q' hq' => by cases hq'; exact hq) (run_sound n _ h2 hP2 k)
/-- a path: what must hold on it, and what stands at its end -/
theorem AW.run {M : MethT} {d : Nat} {Q : Option AV → St → Prop} (n : Nat) (bs : List Bool) {c : Cfg} (c' : Cfg) (P : List Prop) (h : run (mC M) n bs c = some (c', P)) (hP : allP P) (k : AW M d Q c') : AW M d Q c := run_sound n bs h hP k
/-- a return -/
theorem AW.ret {M : MethT} {d : Nat} {Q : Option AV → St → Prop} {pc : Nat} {ls : List (Nat × AV)} {r : Option AV} {σ : St} (hr : retAt M pc r) (hQ : Q r σ) : AW M d Q (pc, ls, r.toList, σ) := by
  intro G p l e R s m args below meth cd H locs cells slots la QQ hC hR hS hl ho hv hret
  exact hret r σ H locs pc la hQ hv hR hS hr hl.1
/-- fewer locals, in another order -/
theorem AW.pick {M : MethT} {d : Nat} {Q : Option AV → St → Prop} {pc : Nat} {ls ls' : List (Nat × AV)} {st : List AV} {σ : St} (ks : List Nat) (h : ks.filterMap (fun k => ls[k]?) = ls') (k : AW M d Q (pc, ls', st, σ)) : AW M d Q (pc, ls, st, σ) := by
  intro G p l e R s m args below meth cd H locs cells slots la QQ hC hR hS hl ho hv hret
  have hsub : ∀ q ∈ ls', q ∈ ls := by
    intro q hq
    rw [← h] at hq
    obtain ⟨i, -, hi⟩ := List.mem_filterMap.mp hq
    exact List.mem_of_getElem? hi
  refine k G p l e R s m args below meth cd H locs cells slots la QQ hC hR hS (lv_mono hl (fun q hq => ?_)) (fun q hq => ho q (hsub q hq)) hv hret
  obtain ⟨q2, h2, rfl⟩ := List.mem_map.mp hq
  exact List.mem_map.mpr ⟨q2, hsub q2 h2, rfl⟩
theorem AW.mono {M : MethT} {d : Nat} {Q Q' : Option AV → St → Prop} {c : Cfg} (k : AW M d Q c) (h : ∀ r σ, Q r σ → Q' r σ) : AW M d Q' c := by
  intro G p l e R s m args below meth cd H locs cells slots la QQ hC hR hS hl ho hv hret
  exact k G p l e R s m args below meth cd H locs cells slots la QQ hC hR hS hl ho hv (fun r σ' H' locs' pc' la' hq => hret r σ' H' locs' pc' la' (h _ _ hq))
end
section
/-! CONTRACTS AND CALLS -/
def wsM (M : MethT) : List Cond := .code (mY M) (mB M) (mL M) (mR M) :: gT
def rmD (d : Nat) : Room := { frames := d, cells := 0, slots := 0, locals := 36 * d }
def CtP (G : WPar) (av : List AV) (σ : St) : Array Value → State → Prop := fun v U => v = (av.map (cv G.2.2.2.1)).toArray ∧ RepG G σ U U.heap ∧ va_K G.2.2.1 gCl (tysG G) U ∧ ∀ w ∈ gN, va_Nw w U
def CtQ (G : WPar) (Q : Option AV → St → Prop) : Array Value → State → Outcome → State → Prop := fun _ st o t => (∃ (r : Option AV) (σ' : St), Q r σ' ∧ (∀ v ∈ r.toList, vOK v) ∧ o = .returned (r.map (cv G.2.2.2.1)) ∧ RepG G σ' t t.heap) ∧ va_F G.2.2.2.2 st t
/-- the method, called with these values on these ints, comes back with Q -/
def Ct (M : MethT) (d : Nat) (av : List AV) (σ : St) (Q : Option AV → St → Prop) : Prop := (∀ v ∈ av, vOK v) → ∀ (G : WPar) (l : Launch), Met l (mY M) (wsM M) (rmD d) (CtP G av σ) (CtQ G Q) 0 0 G.2.2.2.2
/-- a method's table is true, its words are there -/
def MF (M : MethT) (n : Nat) : Prop := plainName (mY M).cls = true ∧ (mY M).cls = ownName (mO M) ∧ (mC M).all (fun e => ceOK (mO M) (mB M) e && ixOK (mL M) e) = true ∧ Cond.code (mY M) (mB M) (mL M) (mR M) ∈ gT ∧ Cond.initialized (mY M).cls ∈ gT ∧ ((mY M).cls ≠ "java/lang/invoke/MethodHandle" ∧ (mY M).cls ≠ "java/lang/invoke/VarHandle" ∧ (parseMethodDescriptor (mY M).desc).map (fun d => d.parameters.length) = some n) ∧ mL M ≤ 17
def MV (M : MethT) : Prop := Cond.instanceMethod (mY M) ∈ gT ∧ Cond.selects (mY M).cls (mY M) (mY M) ∈ gT
def MS (M : MethT) : Prop := Cond.static (mY M) ∈ gT
def avArgs : Nat → List AV → List (Nat × AV)
  | _, [] => []
  | i, v :: vs => (i, v) :: avArgs (match isL v with | true => i + 2 | false => i + 1) vs
def avLen : List AV → Nat
  | [] => 0
  | v :: vs => (match isL v with | true => 2 | false => 1) + avLen vs
theorem avArgs_eq {ρ : AR → Nat} : ∀ (av : List AV) (i : Nat), lv_args i (av.map (cv ρ)) = cls ρ (avArgs i av)
  | [], _ => rfl
  | v :: vs, i => by
    simp only [List.map_cons, lv_args, avArgs, cls]
    rw [avArgs_eq vs]
    have h := cv_cat (ρ := ρ) v
    cases hb : isL v
    · rw [hb] at h
      have : ¬ (cv ρ v).category = 2 := by simpa using h
      rw [if_neg this]
      rfl
    · rw [hb] at h
      have : (cv ρ v).category = 2 := by simpa using h
      rw [if_pos this]
      rfl
theorem avLen_eq {ρ : AR → Nat} : ∀ (av : List AV), (lg_sl (av.map (cv ρ))).length = avLen av
  | [] => rfl
  | v :: vs => by
    have ih := avLen_eq (ρ := ρ) vs
    have e : lg_sl ((v :: vs).map (cv ρ)) = (if (cv ρ v).category = 2 then [.val (cv ρ v), .second] else [.val (cv ρ v)]) ++ lg_sl (vs.map (cv ρ)) := rfl
    rw [e, List.length_append, ih]
    have h := cv_cat (ρ := ρ) v
    simp only [avLen]
    cases hb : isL v
    · rw [hb] at h
      have : ¬ (cv ρ v).category = 2 := by simpa using h
      rw [if_neg this]
      rfl
    · rw [hb] at h
      have : (cv ρ v).category = 2 := by simpa using h
      rw [if_pos this]
      rfl
theorem avArgs_ok : ∀ (av : List AV) (i : Nat), (∀ v ∈ av, vOK v) → ∀ q ∈ avArgs i av, vOK q.2
  | [], _, _ => fun q hq => by cases hq
  | v :: vs, i, h => fun q hq => by
    rcases List.mem_cons.mp hq with rfl | hq
    · exact h v List.mem_cons_self
    · exact avArgs_ok vs _ (fun w hw => h w (List.mem_cons_of_mem _ hw)) q hq
theorem RepG_move {G : WPar} {σ : St} {s t : State} {H : Heap} {locs : List Loc} (h : RepG G σ s H) (hS : va_S G.2.2.2.2 s.heap H locs) (hW : s.WarmedH t.vm) (ht : t.heap = H) : RepG G σ t t.heap := by
  obtain ⟨h1, h2, h3⟩ := h
  refine ⟨by rw [ht]; exact h1, h2, ?_⟩
  obtain ⟨L, g1, g2, g3, g4, g5⟩ := id h3
  exact scrG_move h3 hW.alike (by rw [ht]; exact hS.1) (by rw [ht]; exact hS.2.1 _ g4 g5)
theorem Ct.of {M : MethT} {n d : Nat} {av : List AV} {σ : St} {Q : Option AV → St → Prop} (hM : MF M n) (hlen : avLen av ≤ mL M) (k : AW M d Q (0, avArgs 0 av, [], σ)) : Ct M d av σ Q := by
  intro hav G l
  obtain ⟨f1, f2, f3, f4, f5, f6, f7⟩ := hM
  refine Met.ofW (cc := mB M) (maxL := mL M) (ret := mR M) f1 rfl ?_
  intro p e s m args below meth c s₁ B hml hv
  obtain ⟨rfl, hR, hK, hN⟩ := hv
  have hx := B.exec
  have hb := B.bytes
  have hr := B.returns
  have hts := atoms_spec (ws := wsM M) B.pre
  have hown : s.vm.findClass (mY M).cls = some m.cls := findClass_of_methodNamed B.named
  rw [f2] at hown
  have hlocks := B.notSynchronized
  have hl := lv_entry (av.map (cv G.2.2.2.1)) (n := mL M) (by rw [avLen_eq]; exact hlen)
  rw [avArgs_eq] at hl
  rw [lg_entry_eq]
  refine k G p l e (rmD d) s m _ below meth c s.heap [] 0 0 _ _ ⟨hx, hb, hml, hown, fun w hw => hts w (List.mem_cons_of_mem _ hw), hN, hK, Nat.le_refl _, Nat.le_refl _, Nat.le_refl _, Nat.le_refl _, f3⟩ hR va_S.rf hl (avArgs_ok av 0 hav) (fun v hv => by cases hv) ?_
  intro r σ' H' locs' pc' la' hQ hvr hRep hS hra hla
  have hq : ∀ t : State, t.heap = H' → s.WarmedH t.vm → CtQ G Q ((av.map (cv G.2.2.2.1)).toArray) s (.returned (r.map (cv G.2.2.2.1))) t := fun t ht hW => ⟨⟨r, σ', hQ, hvr, rfl, RepG_move hRep hS hW ht⟩, hS.F ht⟩
  have hdec : ∀ ins e, lkc (mC M) pc' = some (ins, e) → decode (mB M) pc' = .ok (ins, e.1) ∧ ceOK (mO M) (mB M) (pc', ins, e) = true := by
    intro ins e he
    have hok := List.all_eq_true.mp f3 _ (lkc_mem he)
    rw [Bool.and_eq_true] at hok
    refine ⟨?_, hok.1⟩
    have h1 := hok.1
    unfold ceOK at h1
    rw [Bool.and_eq_true] at h1
    exact of_decide_eq_true h1.1
  have one : ∀ ins e, lkc (mC M) pc' = some (ins, e) → (ins = .ireturn ∨ ins = .lreturn ∨ ins = .return_ ∨ ins = .areturn) → decode (mB M) pc' = .ok (ins, 1) := by
    intro ins e he hi
    obtain ⟨h1, h2⟩ := hdec ins e he
    unfold ceOK at h2
    rw [Bool.and_eq_true] at h2
    have h3 := h2.2
    have : e.1 = 1 := by rcases hi with rfl | rfl | rfl | rfl <;> exact of_decide_eq_true h3
    rw [this] at h1
    exact h1
  rcases r with _ | x | x | x
  · obtain ⟨⟨e9, he⟩, hmr⟩ := hra
    exact W.vret hx hb (by rw [hr, hmr]) hq hS.2.2 (one _ _ he (by simp))
  · obtain ⟨⟨e9, he⟩, hmr⟩ := hra
    rcases hmr with hmr | ⟨hmr, rfl | rfl⟩
    · exact W.iret (v := x) hx hb (by rw [hr, hmr]) hq hS.2.2 (one _ _ he (by simp))
    · exact W.zret (v := 0) (ty := .boolean) hx hb (by rw [hr, hmr]) rfl hq hS.2.2 (one _ _ he (by simp))
    · exact W.zret (v := 1) (ty := .boolean) hx hb (by rw [hr, hmr]) rfl hq hS.2.2 (one _ _ he (by simp))
  · obtain ⟨⟨e9, he⟩, hmr⟩ := hra
    exact W.lret (v := x) hx hb (by rw [hr, hmr]) hq hS.2.2 (one _ _ he (by simp))
  · obtain ⟨⟨e9, he⟩, hmr⟩ := hra
    exact W.aret (v := .ref (G.2.2.2.1 x)) (rt := .object "GingerArmy$Shelf") hx hb (by rw [hr, hmr]) (Or.inl ⟨_, rfl⟩) (Or.inr ⟨_, rfl⟩) hq hS.2.2 (one _ _ he (by simp))
theorem CtP_blind {G : WPar} {av : List AV} {σ : St} : FrameBlind (CtP G av σ) := by
  intro a U g mk h
  obtain ⟨h1, ⟨h2, h3, h4⟩, h5, h6⟩ := h
  refine ⟨h1, ⟨h2, h3, scrG_move h4 (Vm.Alike.refl U.vm) (Nat.le_refl _) rfl⟩, va_K.moved (u := U) (U := U.calling g mk a) (Vm.Alike.refl U.vm) h5, fun w hw => ?_⟩
  have hg := (List.mem_filter.mp hw).2
  cases w <;> first | (simp [gNest] at hg; done) | exact va_Nw.same rfl rfl (h6 _ hw)
theorem CtP_at {G : WPar} {av : List AV} {σ : St} {s U : State} {H : Heap} {locs : List Loc} {v : Array Value} (hv : v = (av.map (cv G.2.2.2.1)).toArray) (hR : RepG G σ s H) (hS : va_S G.2.2.2.2 s.heap H locs) (hK : va_K G.2.2.1 gCl (tysG G) s) (hN : ∀ w ∈ gN, va_Nw w s) (hU : U.heap = H) (hW : s.WarmedH U.vm) : CtP G av σ v U :=
  ⟨hv, RepG_move hR hS hW hU, va_K.moved hW.alike hK, fun w hw => gN_warm hW w hw (hN w hw)⟩
theorem cat_sum {ρ : AR → Nat} : ∀ (st : List AV), ((st.map (cv ρ)).map fun v => v.category).sum = avLen st
  | [] => rfl
  | v :: vs => by
    have ih := cat_sum (ρ := ρ) vs
    simp only [List.map_cons, List.sum_cons, avLen]
    rw [ih]
    congr 1
    rcases v with x | x | x <;> rfl
theorem lk_dec {M : MethT} {pc : Nat} {ins : Instr} {e : Nat × Int32 × Nat × Nat × Nat} (h : (mC M).all (fun e => ceOK (mO M) (mB M) e && ixOK (mL M) e) = true) (hl : lkc (mC M) pc = some (ins, e)) : decode (mB M) pc = .ok (ins, e.1) ∧ ceOK (mO M) (mB M) (pc, ins, e) = true := by
  have hok := List.all_eq_true.mp h _ (lkc_mem hl)
  rw [Bool.and_eq_true] at hok
  refine ⟨?_, hok.1⟩
  have h1 := hok.1
  unfold ceOK at h1
  rw [Bool.and_eq_true] at h1
  exact of_decide_eq_true h1.1
/-- behind a call -/
theorem call_back {M : MethT} {d : Nat} {Q Q1 : Option AV → St → Prop} {pc : Nat} {ls : List (Nat × AV)} {rest : List AV} {G : WPar} {p : Program} {l : Launch} {e : Env} {R : Room} {s : State} {m : MethodId} {args : Array Value} {below : List Frame} {meth : Method} {cd : Code} {H : Heap} {locs : List Loc} {cells slots : Nat} {la : Array Slot} {QQ : State → Prop} {st0 : List Value} {a : Array Value}
    (hr : va_Run p l e R s m args below meth cd H locs cells slots 0 0 (F0 m pc la st0) (rest.map (cv G.2.2.2.1)) (CtQ G Q1 a) G.2.2.2.2)
    (k : ∀ r σ1, Q1 r σ1 → AW M d Q (pc + 3, ls, r.toList ++ rest, σ1)) (hC : Cx M d G p R s m args cd cells slots) (hS : va_S G.2.2.2.2 s.heap H locs) (hl : lv_has la (mL M) (cls G.2.2.2.1 ls)) (ho : ∀ q ∈ ls, vOK q.2) (hv : ∀ v ∈ rest, vOK v) (hbs : G.2.2.2.1 (6, 0, 1) < s.heap.size)
    (hret : ∀ (r : Option AV) (σ' : St) (H' : Heap) (locs' : List Loc) (pc' : Nat) (la' : Array Slot), Q r σ' → (∀ v ∈ r.toList, vOK v) → RepG G σ' s H' → va_S G.2.2.2.2 s.heap H' locs' → retAt M pc' r → la'.size = mL M → W p l e R s m args below meth cd H' locs' cells slots QQ (F0 m pc' la' (r.toList.map (cv G.2.2.2.1)))) :
    W p l e R s m args below meth cd H locs cells slots QQ (F0 m pc la st0) := by
  intro T hT X
  obtain ⟨v, st₀, t, T', L, h0, X', hL, e1, e2, ⟨⟨r, σ1, hQ1, hvr, hv1, hRep⟩, hF⟩, st⟩ := hr T hT X
  cases hv1
  have hz : H.size ≤ T'.heap.size := by rw [e1]; have := hF.1; rw [h0] at this; exact this
  have hkp : ∀ q : Nat, q < H.size → ¬ G.2.2.2.2 q → T'.heap[q]? = H[q]? := fun q h1 h2 => by rw [e1]; have := hF.2 q (by rw [h0]; exact h1) h2; rw [h0] at this; exact this
  have hS1 : va_S G.2.2.2.2 s.heap T'.heap (locs ++ L) := ⟨Nat.le_trans hS.1 hz, fun q h1 h2 => by rw [hkp q (Nat.lt_of_lt_of_le h1 hS.1) h2]; exact hS.2.1 q h1 h2, fun q hq => by
    rcases List.mem_append.mp hq with h | h
    · exact hS.2.2 q h
    · exact hL q h⟩
  have hal : t.vm.Alike s.vm := by rw [← e2]; exact X'.warmed.alike.symm
  obtain ⟨g1, g2, g3⟩ := hRep
  have hRep2 : RepG G σ1 s T'.heap := by
    refine ⟨by rw [e1]; exact g1, g2, ?_⟩
    obtain ⟨L9, i1, i2, i3, i4, i5⟩ := id g3
    refine ⟨L9, i1, i2, ?_, ?_, i5⟩
    · refine (i3.moved hal).kept ?_
      rw [← hS1.2.1 _ hbs i5, e1]
    · exact hbs
  have hw := k r σ1 hQ1 G p l e R s m args below meth cd T'.heap (locs ++ L) cells slots la QQ hC hRep2 hS1 hl ho (fun v hv2 => by
    rcases List.mem_append.mp hv2 with h | h
    · exact hvr v h
    · exact hv v h) hret
  obtain ⟨t2, a1, b1⟩ := hw T' rfl X'
  refine ⟨t2, st t2 ?_, b1⟩
  have es : (r.toList ++ rest).map (cv G.2.2.2.1) = (r.map (cv G.2.2.2.1)).toList ++ rest.map (cv G.2.2.2.1) := by cases r <;> simp
  rw [es] at a1
  exact a1

theorem callB_w {M M' : MethT} {n d d' : Nat} {R : Room} {s : State} {args : Array Value} {idx : Nat} (hts : ∀ w ∈ gT, w.before args s = true) (hM : MF M' n) (hlink : Cond.methodLink (ownName (mO M)) idx (mY M') ∈ gT) (hd : d' + 1 ≤ d) (hfr : d ≤ R.frames) (hlo : 36 * d ≤ R.locals) : CallB R s args (ownName (mO M)) idx (mY M') (mB M') (mL M') (mR M') (wsM M') (rmD d') 0 0 n := by
  obtain ⟨f1, f2, f3, f4, f5, f6, f7⟩ := hM
  have hG : GoodIn gT (wsM M') := fun w hw => by
    rcases List.mem_cons.mp hw with rfl | hw
    · exact gT_good _ f4
    · exact gT_good _ hw
  refine callB_of n hts hG rfl rfl rfl (hts _ f5) (hts _ hlink) f6 ⟨Nat.le_trans hd hfr, ?_⟩
  show 8 + (mL M' + 11) + 36 * d' ≤ R.locals
  omega
theorem AW.callV {M M' : MethT} {n d d' : Nat} {Q Q1 : Option AV → St → Prop} {pc idx c i : Nat} {ls : List (Nat × AV)} {st As rest : List AV} {σ : St} (hlk : ∃ e, lkc (mC M) pc = some (.invokevirtual idx, e)) (hM : MF M' n) (hV : MV M') (hlink : Cond.methodLink (ownName (mO M)) idx (mY M') ∈ gT) (hcl : (mY M').cls = (gCl.getD c (RX1, TX1, 3)).1 ∧ c < 6) (hn : As.length = n) (hd : d' + 1 ≤ d) (hst : st = As.reverse ++ .inr (.inr (c, i, 0)) :: rest) (hrest : avLen rest ≤ 8) (hCt : Ct M' d' (.inr (.inr (c, i, 0)) :: As) σ Q1) (k : ∀ r σ1, Q1 r σ1 → AW M d Q (pc + 3, ls, r.toList ++ rest, σ1)) : AW M d Q (pc, ls, st, σ) := by
  subst hst
  intro G p l e R s m args below meth cd H locs cells slots la QQ hC hR hS hl ho hv hret
  obtain ⟨hx, hb, hml, hown, hts, hnw, hK, hfr, hlo, hce, hsl, htab⟩ := id hC
  obtain ⟨hPw, hDw, L9, g1, g2, g3, g4, g5⟩ := id hR
  obtain ⟨e9, he⟩ := hlk
  obtain ⟨hdg, hok⟩ := lk_dec htab he
  have h3 : e9.1 = 3 := by
    unfold ceOK at hok
    rw [Bool.and_eq_true] at hok
    exact of_decide_eq_true hok.2
  rw [h3] at hdg
  have hvA : ∀ v ∈ As.reverse, vOK v := fun v h => hv v (List.mem_append_left _ h)
  have hvB : ∀ v ∈ .inr (.inr (c, i, 0)) :: rest, vOK v := fun v h => hv v (List.mem_append_right _ h)
  obtain ⟨hv0, hvr⟩ := List.forall_mem_cons.mp hvB
  have hdm : (c, i, 0) ∈ domL := by
    rcases hv0 with h9 | h9
    · exact h9
    · cases h9
  have hAs : ∀ v ∈ .inr (.inr (c, i, 0)) :: As, vOK v := List.forall_mem_cons.mpr ⟨hv0, fun v h => hvA v (List.mem_reverse.mpr h)⟩
  obtain ⟨q0, -, hq0⟩ := wsG_at (G := G) (σ := σ) hdm
  rw [cellOf_obj] at hq0
  have hrecv := va_recv hK hPw (gCl_at hcl.2) hq0
  rw [← hcl.1] at hrecv
  have hcb := callB_w (args := args) (s := s) hts hM hlink hd hfr hlo
  have hstk : (As.reverse ++ .inr (.inr (c, i, 0)) :: rest).map (cv G.2.2.2.1) = (As.map (cv G.2.2.2.1)).reverse ++ .ref (G.2.2.2.1 (c, i, 0)) :: rest.map (cv G.2.2.2.1) := by
    simp only [List.map_append, List.map_cons, List.map_reverse]; rfl
  have hrun := va_runV (p := p) (l := l) (e := e) (R := R) (s := s) (m := m) (args := args) (below := below) (meth := meth) (c := cd) (H := H) (locs := locs) (cells := cells) (slots := slots) (g := F0 m pc la ((As.reverse ++ .inr (.inr (c, i, 0)) :: rest).map (cv G.2.2.2.1))) (As := As.map (cv G.2.2.2.1)) (rest := rest.map (cv G.2.2.2.1)) (b := G.2.2.2.1 (c, i, 0)) (nL := mL M) (index := idx) (n := n) (C := (mY M').cls) ⟨hx, hb, hml, hown, hts⟩ (hCt hAs G l) ⟨hcb, hts _ hV.1, hts _ hV.2⟩ ⟨CtP_blind, hrecv, fun U hU hW => CtP_at (by simp only [List.map_cons]; rfl) hR hS hK hnw hU hW⟩ rfl (by rw [List.length_map]; exact hn) hl.1 hstk (lv_room (by rw [cat_sum]; exact hrest)) hdg ⟨hce, hsl⟩
  exact call_back hrun k hC hS hl ho hvr g4 hret
theorem AW.callS {M M' : MethT} {n d d' : Nat} {Q Q1 : Option AV → St → Prop} {pc idx : Nat} {ls : List (Nat × AV)} {st As rest : List AV} {σ : St} (hlk : ∃ e, lkc (mC M) pc = some (.invokestatic idx, e)) (hM : MF M' n) (hV : MS M') (hlink : Cond.methodLink (ownName (mO M)) idx (mY M') ∈ gT) (hn : As.length = n) (hd : d' + 1 ≤ d) (hst : st = As.reverse ++ rest) (hrest : avLen rest ≤ 8) (hCt : Ct M' d' As σ Q1) (k : ∀ r σ1, Q1 r σ1 → AW M d Q (pc + 3, ls, r.toList ++ rest, σ1)) : AW M d Q (pc, ls, st, σ) := by
  subst hst
  intro G p l e R s m args below meth cd H locs cells slots la QQ hC hR hS hl ho hv hret
  obtain ⟨hx, hb, hml, hown, hts, hnw, hK, hfr, hlo, hce, hsl, htab⟩ := id hC
  obtain ⟨hPw, hDw, L9, g1, g2, g3, g4, g5⟩ := id hR
  obtain ⟨e9, he⟩ := hlk
  obtain ⟨hdg, hok⟩ := lk_dec htab he
  have h3 : e9.1 = 3 := by
    unfold ceOK at hok
    rw [Bool.and_eq_true] at hok
    exact of_decide_eq_true hok.2
  rw [h3] at hdg
  have hAs : ∀ v ∈ As, vOK v := fun v h => hv v (List.mem_append_left _ (List.mem_reverse.mpr h))
  have hvr : ∀ v ∈ rest, vOK v := fun v h => hv v (List.mem_append_right _ h)
  have hcb := callB_w (args := args) (s := s) hts hM hlink hd hfr hlo
  have hstk : (As.reverse ++ rest).map (cv G.2.2.2.1) = (As.map (cv G.2.2.2.1)).reverse ++ rest.map (cv G.2.2.2.1) := by
    simp only [List.map_append, List.map_reverse]
  have hrun := va_runS (p := p) (l := l) (e := e) (R := R) (s := s) (m := m) (args := args) (below := below) (meth := meth) (c := cd) (H := H) (locs := locs) (cells := cells) (slots := slots) (g := F0 m pc la ((As.reverse ++ rest).map (cv G.2.2.2.1))) (As := As.map (cv G.2.2.2.1)) (rest := rest.map (cv G.2.2.2.1)) (nL := mL M) (index := idx) (n := n) ⟨hx, hb, hml, hown, hts⟩ (hCt hAs G l) ⟨hcb, hts _ hV⟩ ⟨CtP_blind, fun U hU hW => CtP_at rfl hR hS hK hnw hU hW⟩ rfl (by rw [List.length_map]; exact hn) hl.1 hstk (lv_room (by rw [cat_sum]; exact hrest)) hdg ⟨hce, hsl⟩
  exact call_back hrun k hC hS hl ho hvr g4 hret
end
section
/-! MATH, COPIES, SWITCHES -/
theorem mth_max : Cond.static Lib.Math.max.name ∈ gT ∧ Cond.initialized "java/lang/Math" ∈ gT ∧ Cond.code Lib.Math.max.name Lib.Math.max.code 2 (some .int) ∈ gT := ⟨gT_in 306 (by decide +kernel) rfl, gT_in 76 (by decide +kernel) rfl, gT_in 307 (by decide +kernel) rfl⟩
theorem mth_min : Cond.static Lib.Math.min.name ∈ gT ∧ Cond.initialized "java/lang/Math" ∈ gT ∧ Cond.code Lib.Math.min.name Lib.Math.min.code 2 (some .int) ∈ gT := ⟨gT_in 421 (by decide +kernel) rfl, gT_in 76 (by decide +kernel) rfl, gT_in 422 (by decide +kernel) rfl⟩
theorem mth_abs : Cond.static Lib.Math.abs.name ∈ gT ∧ Cond.initialized "java/lang/Math" ∈ gT ∧ Cond.code Lib.Math.abs.name Lib.Math.abs.code 1 (some .int) ∈ gT := ⟨gT_in 704 (by decide +kernel) rfl, gT_in 76 (by decide +kernel) rfl, gT_in 705 (by decide +kernel) rfl⟩
theorem cpy_w : Cond.native arraycopyName ∈ lw_tbl ∧ Cond.static arraycopyName ∈ gT ∧ Cond.initialized "java/lang/System" ∈ gT := ⟨List.mem_of_getElem? (i := 248) (by decide +kernel), gT_in 247 (by decide +kernel) rfl, gT_in 74 (by decide +kernel) rfl⟩
theorem cpy_g : goodWord (Cond.native arraycopyName) = true := by decide +kernel
theorem cpy_n : Cond.native arraycopyName ∈ gT := List.mem_filter.mpr ⟨cpy_w.1, cpy_g⟩
theorem AW.max {M : MethT} {d : Nat} {Q : Option AV → St → Prop} {pc idx : Nat} {ls : List (Nat × AV)} {rest : List AV} {x y : Int32} {σ : St} (hlk : ∃ e, lkc (mC M) pc = some (.invokestatic idx, e)) (hlink : Cond.methodLink (ownName (mO M)) idx Lib.Math.max.name ∈ gT) (hd : 1 ≤ d) (hrest : avLen rest ≤ 8) (k : AW M d Q (pc + 3, ls, .inl (if x < y then y else x) :: rest, σ)) : AW M d Q (pc, ls, .inl y :: .inl x :: rest, σ) := by
  intro G p l e R s m args below meth cd H locs cells slots la QQ hC hR hS hl ho hv hret
  obtain ⟨hx, hb, hml, hown, hts, hnw, hK, hfr, hlo, hce, hsl, htab⟩ := id hC
  obtain ⟨hPw, hDw, L9, g1, g2, g3, g4, g5⟩ := id hR
  obtain ⟨e9, he⟩ := hlk
  obtain ⟨hdg, hok⟩ := lk_dec htab he
  have h3 : e9.1 = 3 := by
    unfold ceOK at hok
    rw [Bool.and_eq_true] at hok
    exact of_decide_eq_true hok.2
  rw [h3] at hdg
  have hv2 := (List.forall_mem_cons.mp (List.forall_mem_cons.mp hv).2).2
  exact va_mmax hx hb (by rw [hml]; exact hl.1.symm) hown (hts _ hlink) (hts _ mth_max.1) (hts _ mth_max.2.1) (hts _ mth_max.2.2) (Nat.le_trans hd hfr) (by rw [cat_sum]; omega) hce hsl hdg (k G p l e R s m args below meth cd H locs cells slots la QQ hC hR hS hl ho (List.forall_mem_cons.mpr ⟨trivial, hv2⟩) hret)
theorem AW.min {M : MethT} {d : Nat} {Q : Option AV → St → Prop} {pc idx : Nat} {ls : List (Nat × AV)} {rest : List AV} {x y : Int32} {σ : St} (hlk : ∃ e, lkc (mC M) pc = some (.invokestatic idx, e)) (hlink : Cond.methodLink (ownName (mO M)) idx Lib.Math.min.name ∈ gT) (hd : 1 ≤ d) (hrest : avLen rest ≤ 8) (k : AW M d Q (pc + 3, ls, .inl (if y < x then y else x) :: rest, σ)) : AW M d Q (pc, ls, .inl y :: .inl x :: rest, σ) := by
  intro G p l e R s m args below meth cd H locs cells slots la QQ hC hR hS hl ho hv hret
  obtain ⟨hx, hb, hml, hown, hts, hnw, hK, hfr, hlo, hce, hsl, htab⟩ := id hC
  obtain ⟨hPw, hDw, L9, g1, g2, g3, g4, g5⟩ := id hR
  obtain ⟨e9, he⟩ := hlk
  obtain ⟨hdg, hok⟩ := lk_dec htab he
  have h3 : e9.1 = 3 := by
    unfold ceOK at hok
    rw [Bool.and_eq_true] at hok
    exact of_decide_eq_true hok.2
  rw [h3] at hdg
  have hv2 := (List.forall_mem_cons.mp (List.forall_mem_cons.mp hv).2).2
  exact va_mmin hx hb (by rw [hml]; exact hl.1.symm) hown (hts _ hlink) (hts _ mth_min.1) (hts _ mth_min.2.1) (hts _ mth_min.2.2) (Nat.le_trans hd hfr) (by rw [cat_sum]; omega) hce hsl hdg (k G p l e R s m args below meth cd H locs cells slots la QQ hC hR hS hl ho (List.forall_mem_cons.mpr ⟨trivial, hv2⟩) hret)
theorem AW.abs {M : MethT} {d : Nat} {Q : Option AV → St → Prop} {pc idx : Nat} {ls : List (Nat × AV)} {rest : List AV} {x : Int32} {σ : St} (hlk : ∃ e, lkc (mC M) pc = some (.invokestatic idx, e)) (hlink : Cond.methodLink (ownName (mO M)) idx Lib.Math.abs.name ∈ gT) (hd : 1 ≤ d) (hrest : avLen rest ≤ 8) (k : AW M d Q (pc + 3, ls, .inl (if 0 ≤ x then x else 0 - x) :: rest, σ)) : AW M d Q (pc, ls, .inl x :: rest, σ) := by
  intro G p l e R s m args below meth cd H locs cells slots la QQ hC hR hS hl ho hv hret
  obtain ⟨hx, hb, hml, hown, hts, hnw, hK, hfr, hlo, hce, hsl, htab⟩ := id hC
  obtain ⟨hPw, hDw, L9, g1, g2, g3, g4, g5⟩ := id hR
  obtain ⟨e9, he⟩ := hlk
  obtain ⟨hdg, hok⟩ := lk_dec htab he
  have h3 : e9.1 = 3 := by
    unfold ceOK at hok
    rw [Bool.and_eq_true] at hok
    exact of_decide_eq_true hok.2
  rw [h3] at hdg
  have hv2 := (List.forall_mem_cons.mp hv).2
  exact va_mabs hx hb (by rw [hml]; exact hl.1.symm) hown (hts _ hlink) (hts _ mth_abs.1) (hts _ mth_abs.2.1) (hts _ mth_abs.2.2) (Nat.le_trans hd hfr) (by rw [cat_sum]; omega) hce hsl hdg (k G p l e R s m args below meth cd H locs cells slots la QQ hC hR hS hl ho (List.forall_mem_cons.mpr ⟨trivial, hv2⟩) hret)
theorem cpyM_ne {σ : St} {c i j c2 i2 j2 n : Nat} {r : AR} (h : r ≠ (c2, i2, j2)) (k' : Nat) : cpyM σ c i j c2 i2 j2 n r.1 r.2.1 r.2.2 k' = σ r.1 r.2.1 r.2.2 k' := by
  unfold cpyM
  rw [if_neg]
  rintro ⟨h1, h2, h3, -⟩
  exact h (by rw [← h1, ← h2, ← h3])
theorem cpyM_arr {σ : St} {c i j c2 i2 j2 n : Nat} : cpyM σ c i j c2 i2 j2 n c2 i2 j2 = va_cpy (σ c i j) (σ c2 i2 j2) 0 0 n := by
  funext k'
  simp [cpyM, va_cpy]
theorem cpyM_six {σ : St} {c i j c2 i2 j2 n : Nat} (h : c2 < 6) : cpyM σ c i j c2 i2 j2 n 6 = σ 6 := by
  funext i' j' k'
  simp only [cpyM]
  rw [if_neg]
  rintro ⟨h1, -⟩
  omega
/-- System.arraycopy of a whole row -/
theorem AW.copy {M : MethT} {d : Nat} {Q : Option AV → St → Prop} {pc idx c i j c2 i2 j2 n : Nat} {ls : List (Nat × AV)} {rest : List AV} {σ : St} (hlk : ∃ e, lkc (mC M) pc = some (.invokestatic idx, e)) (hlink : Cond.methodLink (ownName (mO M)) idx arraycopyName ∈ gT) (hd : 1 ≤ d) (hrest : avLen rest ≤ 8) (h1 : alen c j = some n) (h2 : alen c2 j2 = some n) (hn : n < 2 ^ 31) (k : AW M d Q (pc + 3, ls, rest, cpyM σ c i j c2 i2 j2 n)) : AW M d Q (pc, ls, .inl (nI n) :: .inl 0 :: .inr (.inr (c2, i2, j2)) :: .inl 0 :: .inr (.inr (c, i, j)) :: rest, σ) := by
  intro G p l e R s m args below meth cd H locs cells slots la QQ hC hR hS hl ho hv hret
  obtain ⟨hx, hb, hml, hown, hts, hnw, hK, hfr, hlo, hce, hsl, htab⟩ := id hC
  obtain ⟨hPw, hDw, L9, g1, g2, g3, g4, g5⟩ := id hR
  obtain ⟨e9, he⟩ := hlk
  obtain ⟨hdg, hok⟩ := lk_dec htab he
  have h3 : e9.1 = 3 := by
    unfold ceOK at hok
    rw [Bool.and_eq_true] at hok
    exact of_decide_eq_true hok.2
  rw [h3] at hdg
  obtain ⟨-, hv⟩ := List.forall_mem_cons.mp hv
  obtain ⟨-, hv⟩ := List.forall_mem_cons.mp hv
  obtain ⟨hd2, hv⟩ := List.forall_mem_cons.mp hv
  obtain ⟨-, hv⟩ := List.forall_mem_cons.mp hv
  obtain ⟨hd1, hv⟩ := List.forall_mem_cons.mp hv
  have hm1 : (c, i, j) ∈ domL := by
    rcases hd1 with h9 | h9
    · exact h9
    · cases h9; cases h1
  have hm2 : (c2, i2, j2) ∈ domL := by
    rcases hd2 with h9 | h9
    · exact h9
    · cases h9; cases h2
  obtain ⟨q0, -, hq0⟩ := wsG_at (G := G) (σ := σ) hm1
  obtain ⟨q1, hqd, hq1⟩ := wsG_at (G := G) (σ := σ) hm2
  rw [cellOf_arr h1] at hq0
  rw [cellOf_arr h2] at hq1
  have e0 : (0 : Int32).toNatClampNeg = 0 := by decide
  have en : (nI n).toNatClampNeg = n := nI_clamp hn
  refine va_copyi (D := G.2.2.1) (cl := gCl) (tys := tysG G) (ty := .int) hx hb (by rw [hml]; exact hl.1.symm) hown (hts _ hlink) (hts _ cpy_n) (hts _ cpy_w.2.1) (hts _ cpy_w.2.2) hK hPw hDw hS q0 q1 0 0 hq0 hq1 rfl rfl rfl (by decide) (by decide) (nI_pos hn) (by rw [e0, en]; omega) (by rw [e0, en]; omega) (fun _ _ => rfl) (Nat.le_trans hd hfr) (by rw [cat_sum]; show avLen rest + (7 + 11) ≤ _; omega) hdg (fun H1 locs1 hP1 hD1 hS1 => ?_)
  have hset : (wsG G σ).set q1 (G.2.2.2.1 (c2, i2, j2), .inl (G.1, n, .inl (va_cpy (σ c i j) (σ c2 i2 j2) (0 : Int32).toNatClampNeg (0 : Int32).toNatClampNeg (nI n).toNatClampNeg))) = wsG G (cpyM σ c i j c2 i2 j2 n) := by
    rw [← wsG_set (G := G) (σ := σ) (σ' := cpyM σ c i j c2 i2 j2 n) hqd (fun r' _ hne => cellOf_congr (fun k' => cpyM_ne hne k')), cellOf_arr h2, cpyM_arr, e0, en]
  rw [hset] at hP1 hD1
  exact k G p l e R s m args below meth cd H1 locs1 cells slots la QQ hC ⟨hP1, hD1, scrG_set (σ := σ) ⟨L9, g1, g2, g3, g4, g5⟩ (cpyM_six (alen_lt h2))⟩ hS1 hl ho hv hret
theorem AW.tswIn {M : MethT} {d : Nat} {Q : Option AV → St → Prop} {pc tgt k : Nat} {dflt lo hi off : Int} {offs : Array Int} {ls : List (Nat × AV)} {rest : List AV} {x : Int32} {σ : St} (hlk : ∃ e, lkc (mC M) pc = some (.tableswitch dflt lo hi offs, e)) (hk : x.toInt = lo + (k : Int)) (hh : lo + (k : Int) ≤ hi) (ho : offs[k]? = some off) (ht : (pc : Int) + off = (tgt : Int)) (kk : AW M d Q (tgt, ls, rest, σ)) : AW M d Q (pc, ls, .inl x :: rest, σ) := by
  have ho9 := ho
  intro G p l e R s m args below meth cd H locs cells slots la QQ hC hR hS hl ho hv hret
  obtain ⟨hx, hb, hml, hown, hts, hnw, hK, hfr, hlo, hce, hsl, htab⟩ := id hC
  obtain ⟨e9, he⟩ := hlk
  obtain ⟨hdg, hok⟩ := lk_dec htab he
  exact lv_tableIn hx hb hdg (by omega) (by omega) (by rw [show (x.toInt - lo).toNat = k by omega]; exact ho9) ht (kk G p l e R s m args below meth cd H locs cells slots la QQ hC hR hS hl ho (List.forall_mem_cons.mp hv).2 hret)
theorem AW.tswOut {M : MethT} {d : Nat} {Q : Option AV → St → Prop} {pc tgt : Nat} {dflt lo hi : Int} {offs : Array Int} {ls : List (Nat × AV)} {rest : List AV} {x : Int32} {σ : St} (hlk : ∃ e, lkc (mC M) pc = some (.tableswitch dflt lo hi offs, e)) (h : x.toInt < lo ∨ hi < x.toInt) (ht : (pc : Int) + dflt = (tgt : Int)) (kk : AW M d Q (tgt, ls, rest, σ)) : AW M d Q (pc, ls, .inl x :: rest, σ) := by
  intro G p l e R s m args below meth cd H locs cells slots la QQ hC hR hS hl ho hv hret
  obtain ⟨hx, hb, hml, hown, hts, hnw, hK, hfr, hlo, hce, hsl, htab⟩ := id hC
  obtain ⟨e9, he⟩ := hlk
  obtain ⟨hdg, hok⟩ := lk_dec htab he
  exact lv_tableOut hx hb hdg h ht (kk G p l e R s m args below meth cd H locs cells slots la QQ hC hR hS hl ho (List.forall_mem_cons.mp hv).2 hret)
theorem AW.lsw {M : MethT} {d : Nat} {Q : Option AV → St → Prop} {pc tgt : Nat} {dflt off : Int} {ps : Array (Int × Int)} {ls : List (Nat × AV)} {rest : List AV} {x : Int32} {σ : St} (hlk : ∃ e, lkc (mC M) pc = some (.lookupswitch dflt ps, e)) (hp : (ps.toList.zip (ps.toList.drop 1)).all (fun (a, next) => a.1 < next.1) = true) (hof : Op.lookupswitch.offset ps.toList dflt x.toInt = off) (ht : (pc : Int) + off = (tgt : Int)) (kk : AW M d Q (tgt, ls, rest, σ)) : AW M d Q (pc, ls, .inl x :: rest, σ) := by
  intro G p l e R s m args below meth cd H locs cells slots la QQ hC hR hS hl ho hv hret
  obtain ⟨hx, hb, hml, hown, hts, hnw, hK, hfr, hlo, hce, hsl, htab⟩ := id hC
  obtain ⟨e9, he⟩ := hlk
  obtain ⟨hdg, hok⟩ := lk_dec htab he
  exact lv_lookup hx hb hdg hp hof ht (kk G p l e R s m args below meth cd H locs cells slots la QQ hC hR hS hl ho (List.forall_mem_cons.mp hv).2 hret)
end
section
theorem f_0_rises : MF M0_rises 4 := ⟨by decide +kernel, by decide +kernel, by decide +kernel, gT_in 304 (by decide +kernel) rfl, gT_in 75 (by decide +kernel) rfl, by decide +kernel, Nat.le_of_ble_eq_true rfl⟩
theorem s_0_rises : MS M0_rises := gT_in 303 (by decide +kernel) rfl
theorem f_0_bears : MF M0_bears 2 := ⟨by decide +kernel, by decide +kernel, by decide +kernel, gT_in 310 (by decide +kernel) rfl, gT_in 75 (by decide +kernel) rfl, by decide +kernel, Nat.le_of_ble_eq_true rfl⟩
theorem s_0_bears : MS M0_bears := gT_in 309 (by decide +kernel) rfl
theorem f_0_shocks : MF M0_shocks 2 := ⟨by decide +kernel, by decide +kernel, by decide +kernel, gT_in 313 (by decide +kernel) rfl, gT_in 75 (by decide +kernel) rfl, by decide +kernel, Nat.le_of_ble_eq_true rfl⟩
theorem s_0_shocks : MS M0_shocks := gT_in 312 (by decide +kernel) rfl
theorem f_1_ahead : MF M1_ahead 2 := ⟨by decide +kernel, by decide +kernel, by decide +kernel, gT_in 463 (by decide +kernel) rfl, gT_in 71 (by decide +kernel) rfl, by decide +kernel, Nat.le_of_ble_eq_true rfl⟩
theorem v_1_ahead : MV M1_ahead := ⟨gT_in 461 (by decide +kernel) rfl, gT_in 462 (by decide +kernel) rfl⟩
theorem f_1_leftBehind : MF M1_leftBehind 1 := ⟨by decide +kernel, by decide +kernel, by decide +kernel, gT_in 533 (by decide +kernel) rfl, gT_in 71 (by decide +kernel) rfl, by decide +kernel, Nat.le_of_ble_eq_true rfl⟩
theorem v_1_leftBehind : MV M1_leftBehind := ⟨gT_in 532 (by decide +kernel) rfl, gT_in 6 (by decide +kernel) rfl⟩
theorem f_1_daysTillGone : MF M1_daysTillGone 2 := ⟨by decide +kernel, by decide +kernel, by decide +kernel, gT_in 486 (by decide +kernel) rfl, gT_in 71 (by decide +kernel) rfl, by decide +kernel, Nat.le_of_ble_eq_true rfl⟩
theorem v_1_daysTillGone : MV M1_daysTillGone := ⟨gT_in 484 (by decide +kernel) rfl, gT_in 485 (by decide +kernel) rfl⟩
theorem f_1_firstToGo : MF M1_firstToGo 1 := ⟨by decide +kernel, by decide +kernel, by decide +kernel, gT_in 481 (by decide +kernel) rfl, gT_in 71 (by decide +kernel) rfl, by decide +kernel, Nat.le_of_ble_eq_true rfl⟩
theorem v_1_firstToGo : MV M1_firstToGo := ⟨gT_in 479 (by decide +kernel) rfl, gT_in 480 (by decide +kernel) rfl⟩
theorem f_1_longestQuiet : MF M1_longestQuiet 1 := ⟨by decide +kernel, by decide +kernel, by decide +kernel, gT_in 495 (by decide +kernel) rfl, gT_in 71 (by decide +kernel) rfl, by decide +kernel, Nat.le_of_ble_eq_true rfl⟩
theorem v_1_longestQuiet : MV M1_longestQuiet := ⟨gT_in 493 (by decide +kernel) rfl, gT_in 494 (by decide +kernel) rfl⟩
theorem f_1_takenBy : MF M1_takenBy 2 := ⟨by decide +kernel, by decide +kernel, by decide +kernel, gT_in 504 (by decide +kernel) rfl, gT_in 71 (by decide +kernel) rfl, by decide +kernel, Nat.le_of_ble_eq_true rfl⟩
theorem v_1_takenBy : MV M1_takenBy := ⟨gT_in 502 (by decide +kernel) rfl, gT_in 503 (by decide +kernel) rfl⟩
theorem f_1_worstOne : MF M1_worstOne 1 := ⟨by decide +kernel, by decide +kernel, by decide +kernel, gT_in 514 (by decide +kernel) rfl, gT_in 71 (by decide +kernel) rfl, by decide +kernel, Nat.le_of_ble_eq_true rfl⟩
theorem v_1_worstOne : MV M1_worstOne := ⟨gT_in 512 (by decide +kernel) rfl, gT_in 513 (by decide +kernel) rfl⟩
theorem f_1_safestPlace : MF M1_safestPlace 3 := ⟨by decide +kernel, by decide +kernel, by decide +kernel, gT_in 524 (by decide +kernel) rfl, gT_in 71 (by decide +kernel) rfl, by decide +kernel, Nat.le_of_ble_eq_true rfl⟩
theorem v_1_safestPlace : MV M1_safestPlace := ⟨gT_in 522 (by decide +kernel) rfl, gT_in 523 (by decide +kernel) rfl⟩
theorem f_1_oneToCover : MF M1_oneToCover 2 := ⟨by decide +kernel, by decide +kernel, by decide +kernel, gT_in 541 (by decide +kernel) rfl, gT_in 71 (by decide +kernel) rfl, by decide +kernel, Nat.le_of_ble_eq_true rfl⟩
theorem v_1_oneToCover : MV M1_oneToCover := ⟨gT_in 539 (by decide +kernel) rfl, gT_in 540 (by decide +kernel) rfl⟩
theorem f_1_oneToLetOut : MF M1_oneToLetOut 2 := ⟨by decide +kernel, by decide +kernel, by decide +kernel, gT_in 566 (by decide +kernel) rfl, gT_in 71 (by decide +kernel) rfl, by decide +kernel, Nat.le_of_ble_eq_true rfl⟩
theorem v_1_oneToLetOut : MV M1_oneToLetOut := ⟨gT_in 564 (by decide +kernel) rfl, gT_in 565 (by decide +kernel) rfl⟩
theorem f_1_bestChange : MF M1_bestChange 2 := ⟨by decide +kernel, by decide +kernel, by decide +kernel, gT_in 596 (by decide +kernel) rfl, gT_in 71 (by decide +kernel) rfl, by decide +kernel, Nat.le_of_ble_eq_true rfl⟩
theorem v_1_bestChange : MV M1_bestChange := ⟨gT_in 594 (by decide +kernel) rfl, gT_in 595 (by decide +kernel) rfl⟩
theorem f_1_leftWithSugar : MF M1_leftWithSugar 3 := ⟨by decide +kernel, by decide +kernel, by decide +kernel, gT_in 556 (by decide +kernel) rfl, gT_in 71 (by decide +kernel) rfl, by decide +kernel, Nat.le_of_ble_eq_true rfl⟩
theorem v_1_leftWithSugar : MV M1_leftWithSugar := ⟨gT_in 554 (by decide +kernel) rfl, gT_in 555 (by decide +kernel) rfl⟩
theorem f_1_bestSugar : MF M1_bestSugar 2 := ⟨by decide +kernel, by decide +kernel, by decide +kernel, gT_in 552 (by decide +kernel) rfl, gT_in 71 (by decide +kernel) rfl, by decide +kernel, Nat.le_of_ble_eq_true rfl⟩
theorem v_1_bestSugar : MV M1_bestSugar := ⟨gT_in 550 (by decide +kernel) rfl, gT_in 551 (by decide +kernel) rfl⟩
theorem f_1_leastSugarFor : MF M1_leastSugarFor 4 := ⟨by decide +kernel, by decide +kernel, by decide +kernel, gT_in 575 (by decide +kernel) rfl, gT_in 71 (by decide +kernel) rfl, by decide +kernel, Nat.le_of_ble_eq_true rfl⟩
theorem v_1_leastSugarFor : MV M1_leastSugarFor := ⟨gT_in 573 (by decide +kernel) rfl, gT_in 574 (by decide +kernel) rfl⟩
theorem f_1_isReady : MF M1_isReady 2 := ⟨by decide +kernel, by decide +kernel, by decide +kernel, gT_in 579 (by decide +kernel) rfl, gT_in 71 (by decide +kernel) rfl, by decide +kernel, Nat.le_of_ble_eq_true rfl⟩
theorem v_1_isReady : MV M1_isReady := ⟨gT_in 578 (by decide +kernel) rfl, gT_in 7 (by decide +kernel) rfl⟩
theorem f_1_fewestSweetDays : MF M1_fewestSweetDays 3 := ⟨by decide +kernel, by decide +kernel, by decide +kernel, gT_in 588 (by decide +kernel) rfl, gT_in 71 (by decide +kernel) rfl, by decide +kernel, Nat.le_of_ble_eq_true rfl⟩
theorem v_1_fewestSweetDays : MV M1_fewestSweetDays := ⟨gT_in 586 (by decide +kernel) rfl, gT_in 587 (by decide +kernel) rfl⟩
theorem f_1_daysTillOneGoesHalved : MF M1_daysTillOneGoesHalved 1 := ⟨by decide +kernel, by decide +kernel, by decide +kernel, gT_in 605 (by decide +kernel) rfl, gT_in 71 (by decide +kernel) rfl, by decide +kernel, Nat.le_of_ble_eq_true rfl⟩
theorem v_1_daysTillOneGoesHalved : MV M1_daysTillOneGoesHalved := ⟨gT_in 603 (by decide +kernel) rfl, gT_in 604 (by decide +kernel) rfl⟩
theorem f_1_whoLeaves : MF M1_whoLeaves 3 := ⟨by decide +kernel, by decide +kernel, by decide +kernel, gT_in 617 (by decide +kernel) rfl, gT_in 71 (by decide +kernel) rfl, by decide +kernel, Nat.le_of_ble_eq_true rfl⟩
theorem v_1_whoLeaves : MV M1_whoLeaves := ⟨gT_in 615 (by decide +kernel) rfl, gT_in 616 (by decide +kernel) rfl⟩
theorem f_1_leavesAsTold : MF M1_leavesAsTold 2 := ⟨by decide +kernel, by decide +kernel, by decide +kernel, gT_in 621 (by decide +kernel) rfl, gT_in 71 (by decide +kernel) rfl, by decide +kernel, Nat.le_of_ble_eq_true rfl⟩
theorem v_1_leavesAsTold : MV M1_leavesAsTold := ⟨gT_in 620 (by decide +kernel) rfl, gT_in 8 (by decide +kernel) rfl⟩
theorem f_1_kindsThatPress : MF M1_kindsThatPress 4 := ⟨by decide +kernel, by decide +kernel, by decide +kernel, gT_in 629 (by decide +kernel) rfl, gT_in 71 (by decide +kernel) rfl, by decide +kernel, Nat.le_of_ble_eq_true rfl⟩
theorem v_1_kindsThatPress : MV M1_kindsThatPress := ⟨gT_in 627 (by decide +kernel) rfl, gT_in 628 (by decide +kernel) rfl⟩
theorem f_1_figuresThatPress : MF M1_figuresThatPress 4 := ⟨by decide +kernel, by decide +kernel, by decide +kernel, gT_in 639 (by decide +kernel) rfl, gT_in 71 (by decide +kernel) rfl, by decide +kernel, Nat.le_of_ble_eq_true rfl⟩
theorem v_1_figuresThatPress : MV M1_figuresThatPress := ⟨gT_in 637 (by decide +kernel) rfl, gT_in 638 (by decide +kernel) rfl⟩
theorem f_1_pressesAsTold : MF M1_pressesAsTold 3 := ⟨by decide +kernel, by decide +kernel, by decide +kernel, gT_in 635 (by decide +kernel) rfl, gT_in 71 (by decide +kernel) rfl, by decide +kernel, Nat.le_of_ble_eq_true rfl⟩
theorem v_1_pressesAsTold : MV M1_pressesAsTold := ⟨gT_in 634 (by decide +kernel) rfl, gT_in 9 (by decide +kernel) rfl⟩
theorem f_1_restingPair : MF M1_restingPair 4 := ⟨by decide +kernel, by decide +kernel, by decide +kernel, gT_in 652 (by decide +kernel) rfl, gT_in 71 (by decide +kernel) rfl, by decide +kernel, Nat.le_of_ble_eq_true rfl⟩
theorem v_1_restingPair : MV M1_restingPair := ⟨gT_in 650 (by decide +kernel) rfl, gT_in 651 (by decide +kernel) rfl⟩
theorem f_1_wantMet : MF M1_wantMet 1 := ⟨by decide +kernel, by decide +kernel, by decide +kernel, gT_in 656 (by decide +kernel) rfl, gT_in 71 (by decide +kernel) rfl, by decide +kernel, Nat.le_of_ble_eq_true rfl⟩
theorem v_1_wantMet : MV M1_wantMet := ⟨gT_in 655 (by decide +kernel) rfl, gT_in 11 (by decide +kernel) rfl⟩
theorem f_1_waysToStay : MF M1_waysToStay 4 := ⟨by decide +kernel, by decide +kernel, by decide +kernel, gT_in 669 (by decide +kernel) rfl, gT_in 71 (by decide +kernel) rfl, by decide +kernel, Nat.le_of_ble_eq_true rfl⟩
theorem v_1_waysToStay : MV M1_waysToStay := ⟨gT_in 667 (by decide +kernel) rfl, gT_in 668 (by decide +kernel) rfl⟩
theorem f_1_greatestCalmHeat : MF M1_greatestCalmHeat 1 := ⟨by decide +kernel, by decide +kernel, by decide +kernel, gT_in 728 (by decide +kernel) rfl, gT_in 71 (by decide +kernel) rfl, by decide +kernel, Nat.le_of_ble_eq_true rfl⟩
theorem v_1_greatestCalmHeat : MV M1_greatestCalmHeat := ⟨gT_in 726 (by decide +kernel) rfl, gT_in 727 (by decide +kernel) rfl⟩
theorem f_1_daysTillAllGone : MF M1_daysTillAllGone 1 := ⟨by decide +kernel, by decide +kernel, by decide +kernel, gT_in 732 (by decide +kernel) rfl, gT_in 71 (by decide +kernel) rfl, by decide +kernel, Nat.le_of_ble_eq_true rfl⟩
theorem v_1_daysTillAllGone : MV M1_daysTillAllGone := ⟨gT_in 730 (by decide +kernel) rfl, gT_in 731 (by decide +kernel) rfl⟩
theorem f_1_easedBy : MF M1_easedBy 4 := ⟨by decide +kernel, by decide +kernel, by decide +kernel, gT_in 741 (by decide +kernel) rfl, gT_in 71 (by decide +kernel) rfl, by decide +kernel, Nat.le_of_ble_eq_true rfl⟩
theorem v_1_easedBy : MV M1_easedBy := ⟨gT_in 739 (by decide +kernel) rfl, gT_in 740 (by decide +kernel) rfl⟩
theorem f_1_summersByLot : MF M1_summersByLot 4 := ⟨by decide +kernel, by decide +kernel, by decide +kernel, gT_in 773 (by decide +kernel) rfl, gT_in 71 (by decide +kernel) rfl, by decide +kernel, Nat.le_of_ble_eq_true rfl⟩
theorem v_1_summersByLot : MV M1_summersByLot := ⟨gT_in 771 (by decide +kernel) rfl, gT_in 772 (by decide +kernel) rfl⟩
theorem f_2_keep : MF M2_keep 1 := ⟨by decide +kernel, by decide +kernel, by decide +kernel, gT_in 418 (by decide +kernel) rfl, gT_in 70 (by decide +kernel) rfl, by decide +kernel, Nat.le_of_ble_eq_true rfl⟩
theorem v_2_keep : MV M2_keep := ⟨gT_in 416 (by decide +kernel) rfl, gT_in 417 (by decide +kernel) rfl⟩
theorem f_2_takeBack : MF M2_takeBack 1 := ⟨by decide +kernel, by decide +kernel, by decide +kernel, gT_in 452 (by decide +kernel) rfl, gT_in 70 (by decide +kernel) rfl, by decide +kernel, Nat.le_of_ble_eq_true rfl⟩
theorem v_2_takeBack : MV M2_takeBack := ⟨gT_in 450 (by decide +kernel) rfl, gT_in 451 (by decide +kernel) rfl⟩
theorem f_2_forget : MF M2_forget 0 := ⟨by decide +kernel, by decide +kernel, by decide +kernel, gT_in 359 (by decide +kernel) rfl, gT_in 70 (by decide +kernel) rfl, by decide +kernel, Nat.le_of_ble_eq_true rfl⟩
theorem v_2_forget : MV M2_forget := ⟨gT_in 357 (by decide +kernel) rfl, gT_in 358 (by decide +kernel) rfl⟩
theorem f_3_copyFrom : MF M3_copyFrom 1 := ⟨by decide +kernel, by decide +kernel, by decide +kernel, gT_in 245 (by decide +kernel) rfl, gT_in 69 (by decide +kernel) rfl, by decide +kernel, Nat.le_of_ble_eq_true rfl⟩
theorem v_3_copyFrom : MV M3_copyFrom := ⟨gT_in 243 (by decide +kernel) rfl, gT_in 244 (by decide +kernel) rfl⟩
theorem f_3_has : MF M3_has 1 := ⟨by decide +kernel, by decide +kernel, by decide +kernel, gT_in 301 (by decide +kernel) rfl, gT_in 69 (by decide +kernel) rfl, by decide +kernel, Nat.le_of_ble_eq_true rfl⟩
theorem v_3_has : MV M3_has := ⟨gT_in 299 (by decide +kernel) rfl, gT_in 300 (by decide +kernel) rfl⟩
theorem f_3_isWhole : MF M3_isWhole 1 := ⟨by decide +kernel, by decide +kernel, by decide +kernel, gT_in 289 (by decide +kernel) rfl, gT_in 69 (by decide +kernel) rfl, by decide +kernel, Nat.le_of_ble_eq_true rfl⟩
theorem v_3_isWhole : MV M3_isWhole := ⟨gT_in 287 (by decide +kernel) rfl, gT_in 288 (by decide +kernel) rfl⟩
theorem f_3_isCovered : MF M3_isCovered 1 := ⟨by decide +kernel, by decide +kernel, by decide +kernel, gT_in 385 (by decide +kernel) rfl, gT_in 69 (by decide +kernel) rfl, by decide +kernel, Nat.le_of_ble_eq_true rfl⟩
theorem v_3_isCovered : MV M3_isCovered := ⟨gT_in 383 (by decide +kernel) rfl, gT_in 384 (by decide +kernel) rfl⟩
theorem f_3_kindOf : MF M3_kindOf 1 := ⟨by decide +kernel, by decide +kernel, by decide +kernel, gT_in 368 (by decide +kernel) rfl, gT_in 69 (by decide +kernel) rfl, by decide +kernel, Nat.le_of_ble_eq_true rfl⟩
theorem v_3_kindOf : MV M3_kindOf := ⟨gT_in 366 (by decide +kernel) rfl, gT_in 367 (by decide +kernel) rfl⟩
theorem f_3_figureOf : MF M3_figureOf 1 := ⟨by decide +kernel, by decide +kernel, by decide +kernel, gT_in 372 (by decide +kernel) rfl, gT_in 69 (by decide +kernel) rfl, by decide +kernel, Nat.le_of_ble_eq_true rfl⟩
theorem v_3_figureOf : MV M3_figureOf := ⟨gT_in 370 (by decide +kernel) rfl, gT_in 371 (by decide +kernel) rfl⟩
theorem f_3_placeOf : MF M3_placeOf 1 := ⟨by decide +kernel, by decide +kernel, by decide +kernel, gT_in 376 (by decide +kernel) rfl, gT_in 69 (by decide +kernel) rfl, by decide +kernel, Nat.le_of_ble_eq_true rfl⟩
theorem v_3_placeOf : MV M3_placeOf := ⟨gT_in 374 (by decide +kernel) rfl, gT_in 375 (by decide +kernel) rfl⟩
theorem f_3_pressOf : MF M3_pressOf 1 := ⟨by decide +kernel, by decide +kernel, by decide +kernel, gT_in 380 (by decide +kernel) rfl, gT_in 69 (by decide +kernel) rfl, by decide +kernel, Nat.le_of_ble_eq_true rfl⟩
theorem v_3_pressOf : MV M3_pressOf := ⟨gT_in 378 (by decide +kernel) rfl, gT_in 379 (by decide +kernel) rfl⟩
theorem f_3_riseOf : MF M3_riseOf 1 := ⟨by decide +kernel, by decide +kernel, by decide +kernel, gT_in 389 (by decide +kernel) rfl, gT_in 69 (by decide +kernel) rfl, by decide +kernel, Nat.le_of_ble_eq_true rfl⟩
theorem v_3_riseOf : MV M3_riseOf := ⟨gT_in 387 (by decide +kernel) rfl, gT_in 388 (by decide +kernel) rfl⟩
theorem f_3_bearOf : MF M3_bearOf 1 := ⟨by decide +kernel, by decide +kernel, by decide +kernel, gT_in 393 (by decide +kernel) rfl, gT_in 69 (by decide +kernel) rfl, by decide +kernel, Nat.le_of_ble_eq_true rfl⟩
theorem v_3_bearOf : MV M3_bearOf := ⟨gT_in 391 (by decide +kernel) rfl, gT_in 392 (by decide +kernel) rfl⟩
theorem f_3_shockOf : MF M3_shockOf 1 := ⟨by decide +kernel, by decide +kernel, by decide +kernel, gT_in 397 (by decide +kernel) rfl, gT_in 69 (by decide +kernel) rfl, by decide +kernel, Nat.le_of_ble_eq_true rfl⟩
theorem v_3_shockOf : MV M3_shockOf := ⟨gT_in 395 (by decide +kernel) rfl, gT_in 396 (by decide +kernel) rfl⟩
theorem f_3_add : MF M3_add 3 := ⟨by decide +kernel, by decide +kernel, by decide +kernel, gT_in 293 (by decide +kernel) rfl, gT_in 69 (by decide +kernel) rfl, by decide +kernel, Nat.le_of_ble_eq_true rfl⟩
theorem v_3_add : MV M3_add := ⟨gT_in 291 (by decide +kernel) rfl, gT_in 292 (by decide +kernel) rfl⟩
theorem f_3_become : MF M3_become 3 := ⟨by decide +kernel, by decide +kernel, by decide +kernel, gT_in 297 (by decide +kernel) rfl, gT_in 69 (by decide +kernel) rfl, by decide +kernel, Nat.le_of_ble_eq_true rfl⟩
theorem v_3_become : MV M3_become := ⟨gT_in 295 (by decide +kernel) rfl, gT_in 296 (by decide +kernel) rfl⟩
theorem f_3_nourish : MF M3_nourish 2 := ⟨by decide +kernel, by decide +kernel, by decide +kernel, gT_in 332 (by decide +kernel) rfl, gT_in 69 (by decide +kernel) rfl, by decide +kernel, Nat.le_of_ble_eq_true rfl⟩
theorem v_3_nourish : MV M3_nourish := ⟨gT_in 330 (by decide +kernel) rfl, gT_in 331 (by decide +kernel) rfl⟩
theorem f_3_setPress : MF M3_setPress 2 := ⟨by decide +kernel, by decide +kernel, by decide +kernel, gT_in 321 (by decide +kernel) rfl, gT_in 69 (by decide +kernel) rfl, by decide +kernel, Nat.le_of_ble_eq_true rfl⟩
theorem v_3_setPress : MV M3_setPress := ⟨gT_in 319 (by decide +kernel) rfl, gT_in 320 (by decide +kernel) rfl⟩
theorem f_3_setPlace : MF M3_setPlace 2 := ⟨by decide +kernel, by decide +kernel, by decide +kernel, gT_in 529 (by decide +kernel) rfl, gT_in 69 (by decide +kernel) rfl, by decide +kernel, Nat.le_of_ble_eq_true rfl⟩
theorem v_3_setPlace : MV M3_setPlace := ⟨gT_in 527 (by decide +kernel) rfl, gT_in 528 (by decide +kernel) rfl⟩
theorem f_3_turnTowel : MF M3_turnTowel 1 := ⟨by decide +kernel, by decide +kernel, by decide +kernel, gT_in 328 (by decide +kernel) rfl, gT_in 69 (by decide +kernel) rfl, by decide +kernel, Nat.le_of_ble_eq_true rfl⟩
theorem v_3_turnTowel : MV M3_turnTowel := ⟨gT_in 326 (by decide +kernel) rfl, gT_in 327 (by decide +kernel) rfl⟩
theorem f_3_takeAway : MF M3_takeAway 1 := ⟨by decide +kernel, by decide +kernel, by decide +kernel, gT_in 745 (by decide +kernel) rfl, gT_in 69 (by decide +kernel) rfl, by decide +kernel, Nat.le_of_ble_eq_true rfl⟩
theorem v_3_takeAway : MV M3_takeAway := ⟨gT_in 743 (by decide +kernel) rfl, gT_in 744 (by decide +kernel) rfl⟩
theorem f_3_halvePress : MF M3_halvePress 0 := ⟨by decide +kernel, by decide +kernel, by decide +kernel, gT_in 609 (by decide +kernel) rfl, gT_in 69 (by decide +kernel) rfl, by decide +kernel, Nat.le_of_ble_eq_true rfl⟩
theorem v_3_halvePress : MV M3_halvePress := ⟨gT_in 607 (by decide +kernel) rfl, gT_in 608 (by decide +kernel) rfl⟩
theorem f_3_pass : MF M3_pass 1 := ⟨by decide +kernel, by decide +kernel, by decide +kernel, gT_in 339 (by decide +kernel) rfl, gT_in 69 (by decide +kernel) rfl, by decide +kernel, Nat.le_of_ble_eq_true rfl⟩
theorem v_3_pass : MV M3_pass := ⟨gT_in 337 (by decide +kernel) rfl, gT_in 338 (by decide +kernel) rfl⟩
theorem f_3_dayGoesBy : MF M3_dayGoesBy 0 := ⟨by decide +kernel, by decide +kernel, by decide +kernel, gT_in 343 (by decide +kernel) rfl, gT_in 69 (by decide +kernel) rfl, by decide +kernel, Nat.le_of_ble_eq_true rfl⟩
theorem v_3_dayGoesBy : MV M3_dayGoesBy := ⟨gT_in 341 (by decide +kernel) rfl, gT_in 342 (by decide +kernel) rfl⟩
theorem f_3_settle : MF M3_settle 0 := ⟨by decide +kernel, by decide +kernel, by decide +kernel, gT_in 347 (by decide +kernel) rfl, gT_in 69 (by decide +kernel) rfl, by decide +kernel, Nat.le_of_ble_eq_true rfl⟩
theorem v_3_settle : MV M3_settle := ⟨gT_in 345 (by decide +kernel) rfl, gT_in 346 (by decide +kernel) rfl⟩
theorem f_3_burst : MF M3_burst 1 := ⟨by decide +kernel, by decide +kernel, by decide +kernel, gT_in 351 (by decide +kernel) rfl, gT_in 69 (by decide +kernel) rfl, by decide +kernel, Nat.le_of_ble_eq_true rfl⟩
theorem v_3_burst : MV M3_burst := ⟨gT_in 349 (by decide +kernel) rfl, gT_in 350 (by decide +kernel) rfl⟩
theorem f_3_wholeAt : MF M3_wholeAt 1 := ⟨by decide +kernel, by decide +kernel, by decide +kernel, gT_in 285 (by decide +kernel) rfl, gT_in 69 (by decide +kernel) rfl, by decide +kernel, Nat.le_of_ble_eq_true rfl⟩
theorem v_3_wholeAt : MV M3_wholeAt := ⟨gT_in 283 (by decide +kernel) rfl, gT_in 284 (by decide +kernel) rfl⟩
theorem f_3_pressOfWhole : MF M3_pressOfWhole 0 := ⟨by decide +kernel, by decide +kernel, by decide +kernel, gT_in 473 (by decide +kernel) rfl, gT_in 69 (by decide +kernel) rfl, by decide +kernel, Nat.le_of_ble_eq_true rfl⟩
theorem v_3_pressOfWhole : MV M3_pressOfWhole := ⟨gT_in 471 (by decide +kernel) rfl, gT_in 472 (by decide +kernel) rfl⟩
theorem f_3_wholeOfKind : MF M3_wholeOfKind 1 := ⟨by decide +kernel, by decide +kernel, by decide +kernel, gT_in 753 (by decide +kernel) rfl, gT_in 69 (by decide +kernel) rfl, by decide +kernel, Nat.le_of_ble_eq_true rfl⟩
theorem v_3_wholeOfKind : MV M3_wholeOfKind := ⟨gT_in 751 (by decide +kernel) rfl, gT_in 752 (by decide +kernel) rfl⟩
theorem f_3_nearTo : MF M3_nearTo 1 := ⟨by decide +kernel, by decide +kernel, by decide +kernel, gT_in 702 (by decide +kernel) rfl, gT_in 69 (by decide +kernel) rfl, by decide +kernel, Nat.le_of_ble_eq_true rfl⟩
theorem v_3_nearTo : MV M3_nearTo := ⟨gT_in 700 (by decide +kernel) rfl, gT_in 701 (by decide +kernel) rfl⟩
theorem f_3_pairsNear : MF M3_pairsNear 0 := ⟨by decide +kernel, by decide +kernel, by decide +kernel, gT_in 722 (by decide +kernel) rfl, gT_in 69 (by decide +kernel) rfl, by decide +kernel, Nat.le_of_ble_eq_true rfl⟩
theorem v_3_pairsNear : MV M3_pairsNear := ⟨gT_in 720 (by decide +kernel) rfl, gT_in 721 (by decide +kernel) rfl⟩
theorem f_3_tightestOne : MF M3_tightestOne 0 := ⟨by decide +kernel, by decide +kernel, by decide +kernel, gT_in 688 (by decide +kernel) rfl, gT_in 69 (by decide +kernel) rfl, by decide +kernel, Nat.le_of_ble_eq_true rfl⟩
theorem v_3_tightestOne : MV M3_tightestOne := ⟨gT_in 686 (by decide +kernel) rfl, gT_in 687 (by decide +kernel) rfl⟩
theorem f_3_longestGap : MF M3_longestGap 0 := ⟨by decide +kernel, by decide +kernel, by decide +kernel, gT_in 692 (by decide +kernel) rfl, gT_in 69 (by decide +kernel) rfl, by decide +kernel, Nat.le_of_ble_eq_true rfl⟩
theorem v_3_longestGap : MV M3_longestGap := ⟨gT_in 690 (by decide +kernel) rfl, gT_in 691 (by decide +kernel) rfl⟩
theorem f_4_add : MF M4_add 1 := ⟨by decide +kernel, by decide +kernel, by decide +kernel, gT_in 237 (by decide +kernel) rfl, gT_in 72 (by decide +kernel) rfl, by decide +kernel, Nat.le_of_ble_eq_true rfl⟩
theorem v_4_add : MV M4_add := ⟨gT_in 235 (by decide +kernel) rfl, gT_in 236 (by decide +kernel) rfl⟩
theorem f_4_forget : MF M4_forget 0 := ⟨by decide +kernel, by decide +kernel, by decide +kernel, gT_in 355 (by decide +kernel) rfl, gT_in 72 (by decide +kernel) rfl, by decide +kernel, Nat.le_of_ble_eq_true rfl⟩
theorem v_4_forget : MV M4_forget := ⟨gT_in 353 (by decide +kernel) rfl, gT_in 354 (by decide +kernel) rfl⟩
theorem f_4_tellTo : MF M4_tellTo 1 := ⟨by decide +kernel, by decide +kernel, by decide +kernel, gT_in 252 (by decide +kernel) rfl, gT_in 72 (by decide +kernel) rfl, by decide +kernel, Nat.le_of_ble_eq_true rfl⟩
theorem v_4_tellTo : MV M4_tellTo := ⟨gT_in 250 (by decide +kernel) rfl, gT_in 251 (by decide +kernel) rfl⟩
theorem f_4_firstBroken : MF M4_firstBroken 0 := ⟨by decide +kernel, by decide +kernel, by decide +kernel, gT_in 256 (by decide +kernel) rfl, gT_in 72 (by decide +kernel) rfl, by decide +kernel, Nat.le_of_ble_eq_true rfl⟩
theorem v_4_firstBroken : MV M4_firstBroken := ⟨gT_in 255 (by decide +kernel) rfl, gT_in 1 (by decide +kernel) rfl⟩
theorem f_4_letterAt : MF M4_letterAt 1 := ⟨by decide +kernel, by decide +kernel, by decide +kernel, gT_in 260 (by decide +kernel) rfl, gT_in 72 (by decide +kernel) rfl, by decide +kernel, Nat.le_of_ble_eq_true rfl⟩
theorem v_4_letterAt : MV M4_letterAt := ⟨gT_in 259 (by decide +kernel) rfl, gT_in 2 (by decide +kernel) rfl⟩
theorem f_4_digitAt : MF M4_digitAt 1 := ⟨by decide +kernel, by decide +kernel, by decide +kernel, gT_in 274 (by decide +kernel) rfl, gT_in 72 (by decide +kernel) rfl, by decide +kernel, Nat.le_of_ble_eq_true rfl⟩
theorem v_4_digitAt : MV M4_digitAt := ⟨gT_in 273 (by decide +kernel) rfl, gT_in 4 (by decide +kernel) rfl⟩
theorem f_4_numberAt : MF M4_numberAt 1 := ⟨by decide +kernel, by decide +kernel, by decide +kernel, gT_in 278 (by decide +kernel) rfl, gT_in 72 (by decide +kernel) rfl, by decide +kernel, Nat.le_of_ble_eq_true rfl⟩
theorem v_4_numberAt : MV M4_numberAt := ⟨gT_in 277 (by decide +kernel) rfl, gT_in 5 (by decide +kernel) rfl⟩
theorem f_4_isDigit : MF M4_isDigit 1 := ⟨by decide +kernel, by decide +kernel, by decide +kernel, gT_in 266 (by decide +kernel) rfl, gT_in 72 (by decide +kernel) rfl, by decide +kernel, Nat.le_of_ble_eq_true rfl⟩
theorem s_4_isDigit : MS M4_isDigit := gT_in 265 (by decide +kernel) rfl
theorem f_4_digitsBehind : MF M4_digitsBehind 1 := ⟨by decide +kernel, by decide +kernel, by decide +kernel, gT_in 263 (by decide +kernel) rfl, gT_in 72 (by decide +kernel) rfl, by decide +kernel, Nat.le_of_ble_eq_true rfl⟩
theorem s_4_digitsBehind : MS M4_digitsBehind := gT_in 262 (by decide +kernel) rfl
theorem f_4_carryOut : MF M4_carryOut 2 := ⟨by decide +kernel, by decide +kernel, by decide +kernel, gT_in 270 (by decide +kernel) rfl, gT_in 72 (by decide +kernel) rfl, by decide +kernel, Nat.le_of_ble_eq_true rfl⟩
theorem v_4_carryOut : MV M4_carryOut := ⟨gT_in 269 (by decide +kernel) rfl, gT_in 3 (by decide +kernel) rfl⟩
theorem f_4_addBottle : MF M4_addBottle 4 := ⟨by decide +kernel, by decide +kernel, by decide +kernel, gT_in 281 (by decide +kernel) rfl, gT_in 72 (by decide +kernel) rfl, by decide +kernel, Nat.le_of_ble_eq_true rfl⟩
theorem s_4_addBottle : MS M4_addBottle := gT_in 280 (by decide +kernel) rfl
theorem f_4_pressOne : MF M4_pressOne 3 := ⟨by decide +kernel, by decide +kernel, by decide +kernel, gT_in 316 (by decide +kernel) rfl, gT_in 72 (by decide +kernel) rfl, by decide +kernel, Nat.le_of_ble_eq_true rfl⟩
theorem s_4_pressOne : MS M4_pressOne := gT_in 315 (by decide +kernel) rfl
theorem f_4_coverOne : MF M4_coverOne 2 := ⟨by decide +kernel, by decide +kernel, by decide +kernel, gT_in 324 (by decide +kernel) rfl, gT_in 72 (by decide +kernel) rfl, by decide +kernel, Nat.le_of_ble_eq_true rfl⟩
theorem s_4_coverOne : MS M4_coverOne := gT_in 323 (by decide +kernel) rfl
theorem f_4_canPass : MF M4_canPass 2 := ⟨by decide +kernel, by decide +kernel, by decide +kernel, gT_in 335 (by decide +kernel) rfl, gT_in 72 (by decide +kernel) rfl, by decide +kernel, Nat.le_of_ble_eq_true rfl⟩
theorem s_4_canPass : MS M4_canPass := gT_in 334 (by decide +kernel) rfl
theorem f_5_feed : MF M5_feed 1 := ⟨by decide +kernel, by decide +kernel, by decide +kernel, gT_in 229 (by decide +kernel) rfl, gT_in 68 (by decide +kernel) rfl, by decide +kernel, Nat.le_of_ble_eq_true rfl⟩
theorem v_5_feed : MV M5_feed := ⟨gT_in 227 (by decide +kernel) rfl, gT_in 228 (by decide +kernel) rfl⟩
theorem f_5_cellar : MF M5_cellar 0 := ⟨by decide +kernel, by decide +kernel, by decide +kernel, gT_in 241 (by decide +kernel) rfl, gT_in 68 (by decide +kernel) rfl, by decide +kernel, Nat.le_of_ble_eq_true rfl⟩
theorem v_5_cellar : MV M5_cellar := ⟨gT_in 239 (by decide +kernel) rfl, gT_in 240 (by decide +kernel) rfl⟩
theorem f_5_bottleOf : MF M5_bottleOf 2 := ⟨by decide +kernel, by decide +kernel, by decide +kernel, gT_in 363 (by decide +kernel) rfl, gT_in 68 (by decide +kernel) rfl, by decide +kernel, Nat.le_of_ble_eq_true rfl⟩
theorem v_5_bottleOf : MV M5_bottleOf := ⟨gT_in 361 (by decide +kernel) rfl, gT_in 362 (by decide +kernel) rfl⟩
theorem f_5_at : MF M5_at 1 := ⟨by decide +kernel, by decide +kernel, by decide +kernel, gT_in 401 (by decide +kernel) rfl, gT_in 68 (by decide +kernel) rfl, by decide +kernel, Nat.le_of_ble_eq_true rfl⟩
theorem v_5_at : MV M5_at := ⟨gT_in 399 (by decide +kernel) rfl, gT_in 400 (by decide +kernel) rfl⟩
theorem f_5_bottle : MF M5_bottle 3 := ⟨by decide +kernel, by decide +kernel, by decide +kernel, gT_in 406 (by decide +kernel) rfl, gT_in 68 (by decide +kernel) rfl, by decide +kernel, Nat.le_of_ble_eq_true rfl⟩
theorem v_5_bottle : MV M5_bottle := ⟨gT_in 404 (by decide +kernel) rfl, gT_in 405 (by decide +kernel) rfl⟩
theorem f_5_feeds : MF M5_feeds 2 := ⟨by decide +kernel, by decide +kernel, by decide +kernel, gT_in 411 (by decide +kernel) rfl, gT_in 68 (by decide +kernel) rfl, by decide +kernel, Nat.le_of_ble_eq_true rfl⟩
theorem v_5_feeds : MV M5_feeds := ⟨gT_in 409 (by decide +kernel) rfl, gT_in 410 (by decide +kernel) rfl⟩
theorem f_5_outs : MF M5_outs 1 := ⟨by decide +kernel, by decide +kernel, by decide +kernel, gT_in 427 (by decide +kernel) rfl, gT_in 68 (by decide +kernel) rfl, by decide +kernel, Nat.le_of_ble_eq_true rfl⟩
theorem v_5_outs : MV M5_outs := ⟨gT_in 425 (by decide +kernel) rfl, gT_in 426 (by decide +kernel) rfl⟩
theorem f_5_towels : MF M5_towels 1 := ⟨by decide +kernel, by decide +kernel, by decide +kernel, gT_in 432 (by decide +kernel) rfl, gT_in 68 (by decide +kernel) rfl, by decide +kernel, Nat.le_of_ble_eq_true rfl⟩
theorem v_5_towels : MV M5_towels := ⟨gT_in 430 (by decide +kernel) rfl, gT_in 431 (by decide +kernel) rfl⟩
theorem f_5_days : MF M5_days 1 := ⟨by decide +kernel, by decide +kernel, by decide +kernel, gT_in 437 (by decide +kernel) rfl, gT_in 68 (by decide +kernel) rfl, by decide +kernel, Nat.le_of_ble_eq_true rfl⟩
theorem v_5_days : MV M5_days := ⟨gT_in 435 (by decide +kernel) rfl, gT_in 436 (by decide +kernel) rfl⟩
theorem f_5_back : MF M5_back 0 := ⟨by decide +kernel, by decide +kernel, by decide +kernel, gT_in 448 (by decide +kernel) rfl, gT_in 68 (by decide +kernel) rfl, by decide +kernel, Nat.le_of_ble_eq_true rfl⟩
theorem v_5_back : MV M5_back := ⟨gT_in 446 (by decide +kernel) rfl, gT_in 447 (by decide +kernel) rfl⟩
theorem f_5_pressIn : MF M5_pressIn 2 := ⟨by decide +kernel, by decide +kernel, by decide +kernel, gT_in 456 (by decide +kernel) rfl, gT_in 68 (by decide +kernel) rfl, by decide +kernel, Nat.le_of_ble_eq_true rfl⟩
theorem v_5_pressIn : MV M5_pressIn := ⟨gT_in 454 (by decide +kernel) rfl, gT_in 455 (by decide +kernel) rfl⟩
theorem f_5_then : MF M5_then 2 := ⟨by decide +kernel, by decide +kernel, by decide +kernel, gT_in 469 (by decide +kernel) rfl, gT_in 68 (by decide +kernel) rfl, by decide +kernel, Nat.le_of_ble_eq_true rfl⟩
theorem v_5_then : MV M5_then := ⟨gT_in 467 (by decide +kernel) rfl, gT_in 468 (by decide +kernel) rfl⟩
theorem f_5_goes : MF M5_goes 1 := ⟨by decide +kernel, by decide +kernel, by decide +kernel, gT_in 477 (by decide +kernel) rfl, gT_in 68 (by decide +kernel) rfl, by decide +kernel, Nat.le_of_ble_eq_true rfl⟩
theorem v_5_goes : MV M5_goes := ⟨gT_in 475 (by decide +kernel) rfl, gT_in 476 (by decide +kernel) rfl⟩
theorem f_5_quiet : MF M5_quiet 0 := ⟨by decide +kernel, by decide +kernel, by decide +kernel, gT_in 491 (by decide +kernel) rfl, gT_in 68 (by decide +kernel) rfl, by decide +kernel, Nat.le_of_ble_eq_true rfl⟩
theorem v_5_quiet : MV M5_quiet := ⟨gT_in 489 (by decide +kernel) rfl, gT_in 490 (by decide +kernel) rfl⟩
theorem f_5_takes : MF M5_takes 1 := ⟨by decide +kernel, by decide +kernel, by decide +kernel, gT_in 500 (by decide +kernel) rfl, gT_in 68 (by decide +kernel) rfl, by decide +kernel, Nat.le_of_ble_eq_true rfl⟩
theorem v_5_takes : MV M5_takes := ⟨gT_in 498 (by decide +kernel) rfl, gT_in 499 (by decide +kernel) rfl⟩
theorem f_5_worst : MF M5_worst 1 := ⟨by decide +kernel, by decide +kernel, by decide +kernel, gT_in 510 (by decide +kernel) rfl, gT_in 68 (by decide +kernel) rfl, by decide +kernel, Nat.le_of_ble_eq_true rfl⟩
theorem v_5_worst : MV M5_worst := ⟨gT_in 508 (by decide +kernel) rfl, gT_in 509 (by decide +kernel) rfl⟩
theorem f_5_safe : MF M5_safe 2 := ⟨by decide +kernel, by decide +kernel, by decide +kernel, gT_in 520 (by decide +kernel) rfl, gT_in 68 (by decide +kernel) rfl, by decide +kernel, Nat.le_of_ble_eq_true rfl⟩
theorem v_5_safe : MV M5_safe := ⟨gT_in 518 (by decide +kernel) rfl, gT_in 519 (by decide +kernel) rfl⟩
theorem f_5_towel : MF M5_towel 1 := ⟨by decide +kernel, by decide +kernel, by decide +kernel, gT_in 537 (by decide +kernel) rfl, gT_in 68 (by decide +kernel) rfl, by decide +kernel, Nat.le_of_ble_eq_true rfl⟩
theorem v_5_towel : MV M5_towel := ⟨gT_in 535 (by decide +kernel) rfl, gT_in 536 (by decide +kernel) rfl⟩
theorem f_5_spoon : MF M5_spoon 2 := ⟨by decide +kernel, by decide +kernel, by decide +kernel, gT_in 548 (by decide +kernel) rfl, gT_in 68 (by decide +kernel) rfl, by decide +kernel, Nat.le_of_ble_eq_true rfl⟩
theorem v_5_spoon : MV M5_spoon := ⟨gT_in 546 (by decide +kernel) rfl, gT_in 547 (by decide +kernel) rfl⟩
theorem f_5_out : MF M5_out 1 := ⟨by decide +kernel, by decide +kernel, by decide +kernel, gT_in 562 (by decide +kernel) rfl, gT_in 68 (by decide +kernel) rfl, by decide +kernel, Nat.le_of_ble_eq_true rfl⟩
theorem v_5_out : MV M5_out := ⟨gT_in 560 (by decide +kernel) rfl, gT_in 561 (by decide +kernel) rfl⟩
theorem f_5_ready : MF M5_ready 3 := ⟨by decide +kernel, by decide +kernel, by decide +kernel, gT_in 571 (by decide +kernel) rfl, gT_in 68 (by decide +kernel) rfl, by decide +kernel, Nat.le_of_ble_eq_true rfl⟩
theorem v_5_ready : MV M5_ready := ⟨gT_in 569 (by decide +kernel) rfl, gT_in 570 (by decide +kernel) rfl⟩
theorem f_5_feedFor : MF M5_feedFor 2 := ⟨by decide +kernel, by decide +kernel, by decide +kernel, gT_in 584 (by decide +kernel) rfl, gT_in 68 (by decide +kernel) rfl, by decide +kernel, Nat.le_of_ble_eq_true rfl⟩
theorem v_5_feedFor : MV M5_feedFor := ⟨gT_in 582 (by decide +kernel) rfl, gT_in 583 (by decide +kernel) rfl⟩
theorem f_5_move : MF M5_move 1 := ⟨by decide +kernel, by decide +kernel, by decide +kernel, gT_in 592 (by decide +kernel) rfl, gT_in 68 (by decide +kernel) rfl, by decide +kernel, Nat.le_of_ble_eq_true rfl⟩
theorem v_5_move : MV M5_move := ⟨gT_in 590 (by decide +kernel) rfl, gT_in 591 (by decide +kernel) rfl⟩
theorem f_5_halved : MF M5_halved 0 := ⟨by decide +kernel, by decide +kernel, by decide +kernel, gT_in 601 (by decide +kernel) rfl, gT_in 68 (by decide +kernel) rfl, by decide +kernel, Nat.le_of_ble_eq_true rfl⟩
theorem v_5_halved : MV M5_halved := ⟨gT_in 599 (by decide +kernel) rfl, gT_in 600 (by decide +kernel) rfl⟩
theorem f_5_whoWent : MF M5_whoWent 0 := ⟨by decide +kernel, by decide +kernel, by decide +kernel, gT_in 613 (by decide +kernel) rfl, gT_in 68 (by decide +kernel) rfl, by decide +kernel, Nat.le_of_ble_eq_true rfl⟩
theorem v_5_whoWent : MV M5_whoWent := ⟨gT_in 611 (by decide +kernel) rfl, gT_in 612 (by decide +kernel) rfl⟩
theorem f_5_whatKind : MF M5_whatKind 2 := ⟨by decide +kernel, by decide +kernel, by decide +kernel, gT_in 625 (by decide +kernel) rfl, gT_in 68 (by decide +kernel) rfl, by decide +kernel, Nat.le_of_ble_eq_true rfl⟩
theorem v_5_whatKind : MV M5_whatKind := ⟨gT_in 623 (by decide +kernel) rfl, gT_in 624 (by decide +kernel) rfl⟩
theorem f_5_two : MF M5_two 3 := ⟨by decide +kernel, by decide +kernel, by decide +kernel, gT_in 644 (by decide +kernel) rfl, gT_in 68 (by decide +kernel) rfl, by decide +kernel, Nat.le_of_ble_eq_true rfl⟩
theorem v_5_two : MV M5_two := ⟨gT_in 642 (by decide +kernel) rfl, gT_in 643 (by decide +kernel) rfl⟩
theorem f_5_thunders : MF M5_thunders 4 := ⟨by decide +kernel, by decide +kernel, by decide +kernel, gT_in 660 (by decide +kernel) rfl, gT_in 68 (by decide +kernel) rfl, by decide +kernel, Nat.le_of_ble_eq_true rfl⟩
theorem v_5_thunders : MV M5_thunders := ⟨gT_in 658 (by decide +kernel) rfl, gT_in 659 (by decide +kernel) rfl⟩
theorem f_5_shares : MF M5_shares 2 := ⟨by decide +kernel, by decide +kernel, by decide +kernel, gT_in 680 (by decide +kernel) rfl, gT_in 68 (by decide +kernel) rfl, by decide +kernel, Nat.le_of_ble_eq_true rfl⟩
theorem v_5_shares : MV M5_shares := ⟨gT_in 678 (by decide +kernel) rfl, gT_in 679 (by decide +kernel) rfl⟩
theorem f_5_tightest : MF M5_tightest 1 := ⟨by decide +kernel, by decide +kernel, by decide +kernel, gT_in 684 (by decide +kernel) rfl, gT_in 68 (by decide +kernel) rfl, by decide +kernel, Nat.le_of_ble_eq_true rfl⟩
theorem v_5_tightest : MV M5_tightest := ⟨gT_in 682 (by decide +kernel) rfl, gT_in 683 (by decide +kernel) rfl⟩
theorem f_5_near : MF M5_near 1 := ⟨by decide +kernel, by decide +kernel, by decide +kernel, gT_in 698 (by decide +kernel) rfl, gT_in 68 (by decide +kernel) rfl, by decide +kernel, Nat.le_of_ble_eq_true rfl⟩
theorem v_5_near : MV M5_near := ⟨gT_in 696 (by decide +kernel) rfl, gT_in 697 (by decide +kernel) rfl⟩
theorem f_5_mean : MF M5_mean 1 := ⟨by decide +kernel, by decide +kernel, by decide +kernel, gT_in 709 (by decide +kernel) rfl, gT_in 68 (by decide +kernel) rfl, by decide +kernel, Nat.le_of_ble_eq_true rfl⟩
theorem v_5_mean : MV M5_mean := ⟨gT_in 707 (by decide +kernel) rfl, gT_in 708 (by decide +kernel) rfl⟩
theorem f_5_spare : MF M5_spare 1 := ⟨by decide +kernel, by decide +kernel, by decide +kernel, gT_in 713 (by decide +kernel) rfl, gT_in 68 (by decide +kernel) rfl, by decide +kernel, Nat.le_of_ble_eq_true rfl⟩
theorem v_5_spare : MV M5_spare := ⟨gT_in 711 (by decide +kernel) rfl, gT_in 712 (by decide +kernel) rfl⟩
theorem f_5_pairs : MF M5_pairs 1 := ⟨by decide +kernel, by decide +kernel, by decide +kernel, gT_in 718 (by decide +kernel) rfl, gT_in 68 (by decide +kernel) rfl, by decide +kernel, Nat.le_of_ble_eq_true rfl⟩
theorem v_5_pairs : MV M5_pairs := ⟨gT_in 716 (by decide +kernel) rfl, gT_in 717 (by decide +kernel) rfl⟩
theorem f_5_eased : MF M5_eased 3 := ⟨by decide +kernel, by decide +kernel, by decide +kernel, gT_in 736 (by decide +kernel) rfl, gT_in 68 (by decide +kernel) rfl, by decide +kernel, Nat.le_of_ble_eq_true rfl⟩
theorem v_5_eased : MV M5_eased := ⟨gT_in 734 (by decide +kernel) rfl, gT_in 735 (by decide +kernel) rfl⟩
theorem f_5_officers : MF M5_officers 1 := ⟨by decide +kernel, by decide +kernel, by decide +kernel, gT_in 749 (by decide +kernel) rfl, gT_in 68 (by decide +kernel) rfl, by decide +kernel, Nat.le_of_ble_eq_true rfl⟩
theorem v_5_officers : MV M5_officers := ⟨gT_in 747 (by decide +kernel) rfl, gT_in 748 (by decide +kernel) rfl⟩
theorem f_5_row : MF M5_row 1 := ⟨by decide +kernel, by decide +kernel, by decide +kernel, gT_in 757 (by decide +kernel) rfl, gT_in 68 (by decide +kernel) rfl, by decide +kernel, Nat.le_of_ble_eq_true rfl⟩
theorem v_5_row : MV M5_row := ⟨gT_in 755 (by decide +kernel) rfl, gT_in 756 (by decide +kernel) rfl⟩
theorem f_5_judge : MF M5_judge 0 := ⟨by decide +kernel, by decide +kernel, by decide +kernel, gT_in 761 (by decide +kernel) rfl, gT_in 68 (by decide +kernel) rfl, by decide +kernel, Nat.le_of_ble_eq_true rfl⟩
theorem v_5_judge : MV M5_judge := ⟨gT_in 759 (by decide +kernel) rfl, gT_in 760 (by decide +kernel) rfl⟩
theorem f_5_clear : MF M5_clear 0 := ⟨by decide +kernel, by decide +kernel, by decide +kernel, gT_in 765 (by decide +kernel) rfl, gT_in 68 (by decide +kernel) rfl, by decide +kernel, Nat.le_of_ble_eq_true rfl⟩
theorem v_5_clear : MV M5_clear := ⟨gT_in 763 (by decide +kernel) rfl, gT_in 764 (by decide +kernel) rfl⟩
theorem f_5_lots : MF M5_lots 3 := ⟨by decide +kernel, by decide +kernel, by decide +kernel, gT_in 769 (by decide +kernel) rfl, gT_in 68 (by decide +kernel) rfl, by decide +kernel, Nat.le_of_ble_eq_true rfl⟩
theorem v_5_lots : MV M5_lots := ⟨gT_in 767 (by decide +kernel) rfl, gT_in 768 (by decide +kernel) rfl⟩
theorem f_5_image : MF M5_image 0 := ⟨by decide +kernel, by decide +kernel, by decide +kernel, gT_in 781 (by decide +kernel) rfl, gT_in 68 (by decide +kernel) rfl, by decide +kernel, Nat.le_of_ble_eq_true rfl⟩
theorem v_5_image : MV M5_image := ⟨gT_in 779 (by decide +kernel) rfl, gT_in 780 (by decide +kernel) rfl⟩
theorem f_5_restore : MF M5_restore 0 := ⟨by decide +kernel, by decide +kernel, by decide +kernel, gT_in 785 (by decide +kernel) rfl, gT_in 68 (by decide +kernel) rfl, by decide +kernel, Nat.le_of_ble_eq_true rfl⟩
theorem v_5_restore : MV M5_restore := ⟨gT_in 783 (by decide +kernel) rfl, gT_in 784 (by decide +kernel) rfl⟩
theorem f_5_count : MF M5_count 1 := ⟨by decide +kernel, by decide +kernel, by decide +kernel, gT_in 789 (by decide +kernel) rfl, gT_in 68 (by decide +kernel) rfl, by decide +kernel, Nat.le_of_ble_eq_true rfl⟩
theorem v_5_count : MV M5_count := ⟨gT_in 787 (by decide +kernel) rfl, gT_in 788 (by decide +kernel) rfl⟩
theorem f_5_refusalsTold : MF M5_refusalsTold 1 := ⟨by decide +kernel, by decide +kernel, by decide +kernel, gT_in 793 (by decide +kernel) rfl, gT_in 68 (by decide +kernel) rfl, by decide +kernel, Nat.le_of_ble_eq_true rfl⟩
theorem v_5_refusalsTold : MV M5_refusalsTold := ⟨gT_in 792 (by decide +kernel) rfl, gT_in 13 (by decide +kernel) rfl⟩
theorem f_5_refuse : MF M5_refuse 1 := ⟨by decide +kernel, by decide +kernel, by decide +kernel, gT_in 233 (by decide +kernel) rfl, gT_in 68 (by decide +kernel) rfl, by decide +kernel, Nat.le_of_ble_eq_true rfl⟩
theorem v_5_refuse : MV M5_refuse := ⟨gT_in 232 (by decide +kernel) rfl, gT_in 0 (by decide +kernel) rfl⟩
theorem f_5_refuseLong : MF M5_refuseLong 1 := ⟨by decide +kernel, by decide +kernel, by decide +kernel, gT_in 664 (by decide +kernel) rfl, gT_in 68 (by decide +kernel) rfl, by decide +kernel, Nat.le_of_ble_eq_true rfl⟩
theorem v_5_refuseLong : MV M5_refuseLong := ⟨gT_in 663 (by decide +kernel) rfl, gT_in 12 (by decide +kernel) rfl⟩
theorem f_5_areNoTwo : MF M5_areNoTwo 2 := ⟨by decide +kernel, by decide +kernel, by decide +kernel, gT_in 648 (by decide +kernel) rfl, gT_in 68 (by decide +kernel) rfl, by decide +kernel, Nat.le_of_ble_eq_true rfl⟩
theorem v_5_areNoTwo : MV M5_areNoTwo := ⟨gT_in 647 (by decide +kernel) rfl, gT_in 10 (by decide +kernel) rfl⟩
theorem f_5_isNoTwo : MF M5_isNoTwo 1 := ⟨by decide +kernel, by decide +kernel, by decide +kernel, gT_in 414 (by decide +kernel) rfl, gT_in 68 (by decide +kernel) rfl, by decide +kernel, Nat.le_of_ble_eq_true rfl⟩
theorem s_5_isNoTwo : MS M5_isNoTwo := gT_in 413 (by decide +kernel) rfl
theorem f_5_aheadFault : MF M5_aheadFault 1 := ⟨by decide +kernel, by decide +kernel, by decide +kernel, gT_in 459 (by decide +kernel) rfl, gT_in 68 (by decide +kernel) rfl, by decide +kernel, Nat.le_of_ble_eq_true rfl⟩
theorem s_5_aheadFault : MS M5_aheadFault := gT_in 458 (by decide +kernel) rfl
theorem f_5_partOf : MF M5_partOf 3 := ⟨by decide +kernel, by decide +kernel, by decide +kernel, gT_in 673 (by decide +kernel) rfl, gT_in 68 (by decide +kernel) rfl, by decide +kernel, Nat.le_of_ble_eq_true rfl⟩
theorem s_5_partOf : MS M5_partOf := gT_in 672 (by decide +kernel) rfl
theorem f_5_commonMeasure : MF M5_commonMeasure 2 := ⟨by decide +kernel, by decide +kernel, by decide +kernel, gT_in 676 (by decide +kernel) rfl, gT_in 68 (by decide +kernel) rfl, by decide +kernel, Nat.le_of_ble_eq_true rfl⟩
theorem s_5_commonMeasure : MS M5_commonMeasure := gT_in 675 (by decide +kernel) rfl
theorem f_6_no : MF M6_no 1 := ⟨by decide +kernel, by decide +kernel, by decide +kernel, gT_in 892 (by decide +kernel) rfl, gT_in 73 (by decide +kernel) rfl, by decide +kernel, Nat.le_of_ble_eq_true rfl⟩
theorem v_6_no : MV M6_no := ⟨gT_in 891 (by decide +kernel) rfl, gT_in 14 (by decide +kernel) rfl⟩
theorem f_6_lower : MF M6_lower 1 := ⟨by decide +kernel, by decide +kernel, by decide +kernel, gT_in 1268 (by decide +kernel) rfl, gT_in 73 (by decide +kernel) rfl, by decide +kernel, Nat.le_of_ble_eq_true rfl⟩
theorem v_6_lower : MV M6_lower := ⟨gT_in 1267 (by decide +kernel) rfl, gT_in 65 (by decide +kernel) rfl⟩
theorem f_6_lowestOf : MF M6_lowestOf 1 := ⟨by decide +kernel, by decide +kernel, by decide +kernel, gT_in 1206 (by decide +kernel) rfl, gT_in 73 (by decide +kernel) rfl, by decide +kernel, Nat.le_of_ble_eq_true rfl⟩
theorem v_6_lowestOf : MV M6_lowestOf := ⟨gT_in 1205 (by decide +kernel) rfl, gT_in 59 (by decide +kernel) rfl⟩
theorem f_6_isIn : MF M6_isIn 3 := ⟨by decide +kernel, by decide +kernel, by decide +kernel, gT_in 915 (by decide +kernel) rfl, gT_in 73 (by decide +kernel) rfl, by decide +kernel, Nat.le_of_ble_eq_true rfl⟩
theorem s_6_isIn : MS M6_isIn := gT_in 914 (by decide +kernel) rfl
theorem f_6_bound : MF M6_bound 3 := ⟨by decide +kernel, by decide +kernel, by decide +kernel, gT_in 888 (by decide +kernel) rfl, gT_in 73 (by decide +kernel) rfl, by decide +kernel, Nat.le_of_ble_eq_true rfl⟩
theorem s_6_bound : MS M6_bound := gT_in 887 (by decide +kernel) rfl
theorem f_6_within : MF M6_within 1 := ⟨by decide +kernel, by decide +kernel, by decide +kernel, gT_in 969 (by decide +kernel) rfl, gT_in 73 (by decide +kernel) rfl, by decide +kernel, Nat.le_of_ble_eq_true rfl⟩
theorem s_6_within : MS M6_within := gT_in 968 (by decide +kernel) rfl
theorem f_6_size : MF M6_size 1 := ⟨by decide +kernel, by decide +kernel, by decide +kernel, gT_in 992 (by decide +kernel) rfl, gT_in 73 (by decide +kernel) rfl, by decide +kernel, Nat.le_of_ble_eq_true rfl⟩
theorem s_6_size : MS M6_size := gT_in 991 (by decide +kernel) rfl
theorem f_6_has : MF M6_has 2 := ⟨by decide +kernel, by decide +kernel, by decide +kernel, gT_in 1210 (by decide +kernel) rfl, gT_in 73 (by decide +kernel) rfl, by decide +kernel, Nat.le_of_ble_eq_true rfl⟩
theorem s_6_has : MS M6_has := gT_in 1209 (by decide +kernel) rfl
theorem f_6_bits : MF M6_bits 1 := ⟨by decide +kernel, by decide +kernel, by decide +kernel, gT_in 1059 (by decide +kernel) rfl, gT_in 73 (by decide +kernel) rfl, by decide +kernel, Nat.le_of_ble_eq_true rfl⟩
theorem s_6_bits : MS M6_bits := gT_in 1058 (by decide +kernel) rfl
theorem f_6_isPlace : MF M6_isPlace 1 := ⟨by decide +kernel, by decide +kernel, by decide +kernel, gT_in 938 (by decide +kernel) rfl, gT_in 73 (by decide +kernel) rfl, by decide +kernel, Nat.le_of_ble_eq_true rfl⟩
theorem s_6_isPlace : MS M6_isPlace := gT_in 937 (by decide +kernel) rfl
theorem f_6_isBottle : MF M6_isBottle 1 := ⟨by decide +kernel, by decide +kernel, by decide +kernel, gT_in 1004 (by decide +kernel) rfl, gT_in 73 (by decide +kernel) rfl, by decide +kernel, Nat.le_of_ble_eq_true rfl⟩
theorem v_6_isBottle : MV M6_isBottle := ⟨gT_in 1003 (by decide +kernel) rfl, gT_in 38 (by decide +kernel) rfl⟩
theorem f_6_isWhole : MF M6_isWhole 1 := ⟨by decide +kernel, by decide +kernel, by decide +kernel, gT_in 946 (by decide +kernel) rfl, gT_in 73 (by decide +kernel) rfl, by decide +kernel, Nat.le_of_ble_eq_true rfl⟩
theorem v_6_isWhole : MV M6_isWhole := ⟨gT_in 945 (by decide +kernel) rfl, gT_in 25 (by decide +kernel) rfl⟩
theorem f_6_feed : MF M6_feed 1 := ⟨by decide +kernel, by decide +kernel, by decide +kernel, gT_in 885 (by decide +kernel) rfl, gT_in 73 (by decide +kernel) rfl, by decide +kernel, Nat.le_of_ble_eq_true rfl⟩
theorem v_6_feed : MV M6_feed := ⟨gT_in 883 (by decide +kernel) rfl, gT_in 884 (by decide +kernel) rfl⟩
theorem f_6_letterNow : MF M6_letterNow 0 := ⟨by decide +kernel, by decide +kernel, by decide +kernel, gT_in 904 (by decide +kernel) rfl, gT_in 73 (by decide +kernel) rfl, by decide +kernel, Nat.le_of_ble_eq_true rfl⟩
theorem v_6_letterNow : MV M6_letterNow := ⟨gT_in 903 (by decide +kernel) rfl, gT_in 16 (by decide +kernel) rfl⟩
theorem f_6_readsDigits : MF M6_readsDigits 2 := ⟨by decide +kernel, by decide +kernel, by decide +kernel, gT_in 912 (by decide +kernel) rfl, gT_in 73 (by decide +kernel) rfl, by decide +kernel, Nat.le_of_ble_eq_true rfl⟩
theorem v_6_readsDigits : MV M6_readsDigits := ⟨gT_in 911 (by decide +kernel) rfl, gT_in 18 (by decide +kernel) rfl⟩
theorem f_6_readsAll : MF M6_readsAll 2 := ⟨by decide +kernel, by decide +kernel, by decide +kernel, gT_in 908 (by decide +kernel) rfl, gT_in 73 (by decide +kernel) rfl, by decide +kernel, Nat.le_of_ble_eq_true rfl⟩
theorem v_6_readsAll : MV M6_readsAll := ⟨gT_in 907 (by decide +kernel) rfl, gT_in 17 (by decide +kernel) rfl⟩
theorem f_6_statement : MF M6_statement 0 := ⟨by decide +kernel, by decide +kernel, by decide +kernel, gT_in 900 (by decide +kernel) rfl, gT_in 73 (by decide +kernel) rfl, by decide +kernel, Nat.le_of_ble_eq_true rfl⟩
theorem v_6_statement : MV M6_statement := ⟨gT_in 899 (by decide +kernel) rfl, gT_in 15 (by decide +kernel) rfl⟩
theorem f_6_comesBottle : MF M6_comesBottle 1 := ⟨by decide +kernel, by decide +kernel, by decide +kernel, gT_in 935 (by decide +kernel) rfl, gT_in 73 (by decide +kernel) rfl, by decide +kernel, Nat.le_of_ble_eq_true rfl⟩
theorem v_6_comesBottle : MV M6_comesBottle := ⟨gT_in 934 (by decide +kernel) rfl, gT_in 23 (by decide +kernel) rfl⟩
theorem f_6_comesOf : MF M6_comesOf 3 := ⟨by decide +kernel, by decide +kernel, by decide +kernel, gT_in 1000 (by decide +kernel) rfl, gT_in 73 (by decide +kernel) rfl, by decide +kernel, Nat.le_of_ble_eq_true rfl⟩
theorem v_6_comesOf : MV M6_comesOf := ⟨gT_in 999 (by decide +kernel) rfl, gT_in 37 (by decide +kernel) rfl⟩
theorem f_6_comesDays : MF M6_comesDays 1 := ⟨by decide +kernel, by decide +kernel, by decide +kernel, gT_in 954 (by decide +kernel) rfl, gT_in 73 (by decide +kernel) rfl, by decide +kernel, Nat.le_of_ble_eq_true rfl⟩
theorem v_6_comesDays : MV M6_comesDays := ⟨gT_in 953 (by decide +kernel) rfl, gT_in 27 (by decide +kernel) rfl⟩
theorem f_6_comesTold : MF M6_comesTold 1 := ⟨by decide +kernel, by decide +kernel, by decide +kernel, gT_in 931 (by decide +kernel) rfl, gT_in 73 (by decide +kernel) rfl, by decide +kernel, Nat.le_of_ble_eq_true rfl⟩
theorem v_6_comesTold : MV M6_comesTold := ⟨gT_in 930 (by decide +kernel) rfl, gT_in 22 (by decide +kernel) rfl⟩
theorem f_6_cellar : MF M6_cellar 0 := ⟨by decide +kernel, by decide +kernel, by decide +kernel, gT_in 896 (by decide +kernel) rfl, gT_in 73 (by decide +kernel) rfl, by decide +kernel, Nat.le_of_ble_eq_true rfl⟩
theorem v_6_cellar : MV M6_cellar := ⟨gT_in 894 (by decide +kernel) rfl, gT_in 895 (by decide +kernel) rfl⟩
theorem f_6_passes : MF M6_passes 1 := ⟨by decide +kernel, by decide +kernel, by decide +kernel, gT_in 923 (by decide +kernel) rfl, gT_in 73 (by decide +kernel) rfl, by decide +kernel, Nat.le_of_ble_eq_true rfl⟩
theorem v_6_passes : MV M6_passes := ⟨gT_in 922 (by decide +kernel) rfl, gT_in 20 (by decide +kernel) rfl⟩
theorem f_6_passOne : MF M6_passOne 1 := ⟨by decide +kernel, by decide +kernel, by decide +kernel, gT_in 927 (by decide +kernel) rfl, gT_in 73 (by decide +kernel) rfl, by decide +kernel, Nat.le_of_ble_eq_true rfl⟩
theorem v_6_passOne : MV M6_passOne := ⟨gT_in 926 (by decide +kernel) rfl, gT_in 21 (by decide +kernel) rfl⟩
theorem f_6_passesAll : MF M6_passesAll 2 := ⟨by decide +kernel, by decide +kernel, by decide +kernel, gT_in 919 (by decide +kernel) rfl, gT_in 73 (by decide +kernel) rfl, by decide +kernel, Nat.le_of_ble_eq_true rfl⟩
theorem v_6_passesAll : MV M6_passesAll := ⟨gT_in 918 (by decide +kernel) rfl, gT_in 19 (by decide +kernel) rfl⟩
theorem f_6_thinks : MF M6_thinks 0 := ⟨by decide +kernel, by decide +kernel, by decide +kernel, gT_in 1074 (by decide +kernel) rfl, gT_in 73 (by decide +kernel) rfl, by decide +kernel, Nat.le_of_ble_eq_true rfl⟩
theorem v_6_thinks : MV M6_thinks := ⟨gT_in 1073 (by decide +kernel) rfl, gT_in 43 (by decide +kernel) rfl⟩
theorem f_6_forgets : MF M6_forgets 0 := ⟨by decide +kernel, by decide +kernel, by decide +kernel, gT_in 1078 (by decide +kernel) rfl, gT_in 73 (by decide +kernel) rfl, by decide +kernel, Nat.le_of_ble_eq_true rfl⟩
theorem v_6_forgets : MV M6_forgets := ⟨gT_in 1077 (by decide +kernel) rfl, gT_in 44 (by decide +kernel) rfl⟩
theorem f_6_keepsBack : MF M6_keepsBack 0 := ⟨by decide +kernel, by decide +kernel, by decide +kernel, gT_in 1036 (by decide +kernel) rfl, gT_in 73 (by decide +kernel) rfl, by decide +kernel, Nat.le_of_ble_eq_true rfl⟩
theorem v_6_keepsBack : MV M6_keepsBack := ⟨gT_in 1035 (by decide +kernel) rfl, gT_in 39 (by decide +kernel) rfl⟩
theorem f_6_back : MF M6_back 0 := ⟨by decide +kernel, by decide +kernel, by decide +kernel, gT_in 1008 (by decide +kernel) rfl, gT_in 73 (by decide +kernel) rfl, by decide +kernel, Nat.le_of_ble_eq_true rfl⟩
theorem v_6_back : MV M6_back := ⟨gT_in 1006 (by decide +kernel) rfl, gT_in 1007 (by decide +kernel) rfl⟩
theorem f_6_image : MF M6_image 0 := ⟨by decide +kernel, by decide +kernel, by decide +kernel, gT_in 1012 (by decide +kernel) rfl, gT_in 73 (by decide +kernel) rfl, by decide +kernel, Nat.le_of_ble_eq_true rfl⟩
theorem v_6_image : MV M6_image := ⟨gT_in 1010 (by decide +kernel) rfl, gT_in 1011 (by decide +kernel) rfl⟩
theorem f_6_restore : MF M6_restore 0 := ⟨by decide +kernel, by decide +kernel, by decide +kernel, gT_in 1016 (by decide +kernel) rfl, gT_in 73 (by decide +kernel) rfl, by decide +kernel, Nat.le_of_ble_eq_true rfl⟩
theorem v_6_restore : MV M6_restore := ⟨gT_in 1014 (by decide +kernel) rfl, gT_in 1015 (by decide +kernel) rfl⟩
theorem f_6_adds : MF M6_adds 3 := ⟨by decide +kernel, by decide +kernel, by decide +kernel, gT_in 950 (by decide +kernel) rfl, gT_in 73 (by decide +kernel) rfl, by decide +kernel, Nat.le_of_ble_eq_true rfl⟩
theorem v_6_adds : MV M6_adds := ⟨gT_in 949 (by decide +kernel) rfl, gT_in 26 (by decide +kernel) rfl⟩
theorem f_6_wholeAt : MF M6_wholeAt 1 := ⟨by decide +kernel, by decide +kernel, by decide +kernel, gT_in 942 (by decide +kernel) rfl, gT_in 73 (by decide +kernel) rfl, by decide +kernel, Nat.le_of_ble_eq_true rfl⟩
theorem v_6_wholeAt : MV M6_wholeAt := ⟨gT_in 941 (by decide +kernel) rfl, gT_in 24 (by decide +kernel) rfl⟩
theorem f_6_rises : MF M6_rises 1 := ⟨by decide +kernel, by decide +kernel, by decide +kernel, gT_in 966 (by decide +kernel) rfl, gT_in 73 (by decide +kernel) rfl, by decide +kernel, Nat.le_of_ble_eq_true rfl⟩
theorem v_6_rises : MV M6_rises := ⟨gT_in 965 (by decide +kernel) rfl, gT_in 30 (by decide +kernel) rfl⟩
theorem f_6_bears : MF M6_bears 1 := ⟨by decide +kernel, by decide +kernel, by decide +kernel, gT_in 981 (by decide +kernel) rfl, gT_in 73 (by decide +kernel) rfl, by decide +kernel, Nat.le_of_ble_eq_true rfl⟩
theorem v_6_bears : MV M6_bears := ⟨gT_in 980 (by decide +kernel) rfl, gT_in 33 (by decide +kernel) rfl⟩
theorem f_6_shocks : MF M6_shocks 1 := ⟨by decide +kernel, by decide +kernel, by decide +kernel, gT_in 996 (by decide +kernel) rfl, gT_in 73 (by decide +kernel) rfl, by decide +kernel, Nat.le_of_ble_eq_true rfl⟩
theorem v_6_shocks : MV M6_shocks := ⟨gT_in 995 (by decide +kernel) rfl, gT_in 36 (by decide +kernel) rfl⟩
theorem f_6_areNear : MF M6_areNear 2 := ⟨by decide +kernel, by decide +kernel, by decide +kernel, gT_in 989 (by decide +kernel) rfl, gT_in 73 (by decide +kernel) rfl, by decide +kernel, Nat.le_of_ble_eq_true rfl⟩
theorem v_6_areNear : MV M6_areNear := ⟨gT_in 988 (by decide +kernel) rfl, gT_in 35 (by decide +kernel) rfl⟩
theorem f_6_bursts : MF M6_bursts 1 := ⟨by decide +kernel, by decide +kernel, by decide +kernel, gT_in 985 (by decide +kernel) rfl, gT_in 73 (by decide +kernel) rfl, by decide +kernel, Nat.le_of_ble_eq_true rfl⟩
theorem v_6_bursts : MV M6_bursts := ⟨gT_in 984 (by decide +kernel) rfl, gT_in 34 (by decide +kernel) rfl⟩
theorem f_6_nextToGo : MF M6_nextToGo 0 := ⟨by decide +kernel, by decide +kernel, by decide +kernel, gT_in 977 (by decide +kernel) rfl, gT_in 73 (by decide +kernel) rfl, by decide +kernel, Nat.le_of_ble_eq_true rfl⟩
theorem v_6_nextToGo : MV M6_nextToGo := ⟨gT_in 976 (by decide +kernel) rfl, gT_in 32 (by decide +kernel) rfl⟩
theorem f_6_burstsAll : MF M6_burstsAll 0 := ⟨by decide +kernel, by decide +kernel, by decide +kernel, gT_in 973 (by decide +kernel) rfl, gT_in 73 (by decide +kernel) rfl, by decide +kernel, Nat.le_of_ble_eq_true rfl⟩
theorem v_6_burstsAll : MV M6_burstsAll := ⟨gT_in 972 (by decide +kernel) rfl, gT_in 31 (by decide +kernel) rfl⟩
theorem f_6_goesDay : MF M6_goesDay 0 := ⟨by decide +kernel, by decide +kernel, by decide +kernel, gT_in 962 (by decide +kernel) rfl, gT_in 73 (by decide +kernel) rfl, by decide +kernel, Nat.le_of_ble_eq_true rfl⟩
theorem v_6_goesDay : MV M6_goesDay := ⟨gT_in 961 (by decide +kernel) rfl, gT_in 29 (by decide +kernel) rfl⟩
theorem f_6_goesAll : MF M6_goesAll 1 := ⟨by decide +kernel, by decide +kernel, by decide +kernel, gT_in 958 (by decide +kernel) rfl, gT_in 73 (by decide +kernel) rfl, by decide +kernel, Nat.le_of_ble_eq_true rfl⟩
theorem v_6_goesAll : MV M6_goesAll := ⟨gT_in 957 (by decide +kernel) rfl, gT_in 28 (by decide +kernel) rfl⟩
theorem f_6_whole : MF M6_whole 0 := ⟨by decide +kernel, by decide +kernel, by decide +kernel, gT_in 1056 (by decide +kernel) rfl, gT_in 73 (by decide +kernel) rfl, by decide +kernel, Nat.le_of_ble_eq_true rfl⟩
theorem v_6_whole : MV M6_whole := ⟨gT_in 1055 (by decide +kernel) rfl, gT_in 41 (by decide +kernel) rfl⟩
theorem f_6_allPress : MF M6_allPress 0 := ⟨by decide +kernel, by decide +kernel, by decide +kernel, gT_in 1086 (by decide +kernel) rfl, gT_in 73 (by decide +kernel) rfl, by decide +kernel, Nat.le_of_ble_eq_true rfl⟩
theorem v_6_allPress : MV M6_allPress := ⟨gT_in 1085 (by decide +kernel) rfl, gT_in 45 (by decide +kernel) rfl⟩
theorem f_6_bottleOf : MF M6_bottleOf 2 := ⟨by decide +kernel, by decide +kernel, by decide +kernel, gT_in 1020 (by decide +kernel) rfl, gT_in 73 (by decide +kernel) rfl, by decide +kernel, Nat.le_of_ble_eq_true rfl⟩
theorem v_6_bottleOf : MV M6_bottleOf := ⟨gT_in 1018 (by decide +kernel) rfl, gT_in 1019 (by decide +kernel) rfl⟩
theorem f_6_at : MF M6_at 1 := ⟨by decide +kernel, by decide +kernel, by decide +kernel, gT_in 1024 (by decide +kernel) rfl, gT_in 73 (by decide +kernel) rfl, by decide +kernel, Nat.le_of_ble_eq_true rfl⟩
theorem v_6_at : MV M6_at := ⟨gT_in 1022 (by decide +kernel) rfl, gT_in 1023 (by decide +kernel) rfl⟩
theorem f_6_bottle : MF M6_bottle 3 := ⟨by decide +kernel, by decide +kernel, by decide +kernel, gT_in 1028 (by decide +kernel) rfl, gT_in 73 (by decide +kernel) rfl, by decide +kernel, Nat.le_of_ble_eq_true rfl⟩
theorem v_6_bottle : MV M6_bottle := ⟨gT_in 1026 (by decide +kernel) rfl, gT_in 1027 (by decide +kernel) rfl⟩
theorem f_6_feeds : MF M6_feeds 2 := ⟨by decide +kernel, by decide +kernel, by decide +kernel, gT_in 1032 (by decide +kernel) rfl, gT_in 73 (by decide +kernel) rfl, by decide +kernel, Nat.le_of_ble_eq_true rfl⟩
theorem v_6_feeds : MV M6_feeds := ⟨gT_in 1030 (by decide +kernel) rfl, gT_in 1031 (by decide +kernel) rfl⟩
theorem f_6_notWhole : MF M6_notWhole 1 := ⟨by decide +kernel, by decide +kernel, by decide +kernel, gT_in 1044 (by decide +kernel) rfl, gT_in 73 (by decide +kernel) rfl, by decide +kernel, Nat.le_of_ble_eq_true rfl⟩
theorem v_6_notWhole : MV M6_notWhole := ⟨gT_in 1043 (by decide +kernel) rfl, gT_in 40 (by decide +kernel) rfl⟩
theorem f_6_outs : MF M6_outs 1 := ⟨by decide +kernel, by decide +kernel, by decide +kernel, gT_in 1040 (by decide +kernel) rfl, gT_in 73 (by decide +kernel) rfl, by decide +kernel, Nat.le_of_ble_eq_true rfl⟩
theorem v_6_outs : MV M6_outs := ⟨gT_in 1038 (by decide +kernel) rfl, gT_in 1039 (by decide +kernel) rfl⟩
theorem f_6_towels : MF M6_towels 1 := ⟨by decide +kernel, by decide +kernel, by decide +kernel, gT_in 1048 (by decide +kernel) rfl, gT_in 73 (by decide +kernel) rfl, by decide +kernel, Nat.le_of_ble_eq_true rfl⟩
theorem v_6_towels : MV M6_towels := ⟨gT_in 1046 (by decide +kernel) rfl, gT_in 1047 (by decide +kernel) rfl⟩
theorem f_6_days : MF M6_days 1 := ⟨by decide +kernel, by decide +kernel, by decide +kernel, gT_in 1052 (by decide +kernel) rfl, gT_in 73 (by decide +kernel) rfl, by decide +kernel, Nat.le_of_ble_eq_true rfl⟩
theorem v_6_days : MV M6_days := ⟨gT_in 1050 (by decide +kernel) rfl, gT_in 1051 (by decide +kernel) rfl⟩
theorem f_6_notDays : MF M6_notDays 1 := ⟨by decide +kernel, by decide +kernel, by decide +kernel, gT_in 1066 (by decide +kernel) rfl, gT_in 73 (by decide +kernel) rfl, by decide +kernel, Nat.le_of_ble_eq_true rfl⟩
theorem s_6_notDays : MS M6_notDays := gT_in 1065 (by decide +kernel) rfl
theorem f_6_pressBehind : MF M6_pressBehind 2 := ⟨by decide +kernel, by decide +kernel, by decide +kernel, gT_in 1070 (by decide +kernel) rfl, gT_in 73 (by decide +kernel) rfl, by decide +kernel, Nat.le_of_ble_eq_true rfl⟩
theorem v_6_pressBehind : MV M6_pressBehind := ⟨gT_in 1069 (by decide +kernel) rfl, gT_in 42 (by decide +kernel) rfl⟩
theorem f_6_leftIn : MF M6_leftIn 1 := ⟨by decide +kernel, by decide +kernel, by decide +kernel, gT_in 1122 (by decide +kernel) rfl, gT_in 73 (by decide +kernel) rfl, by decide +kernel, Nat.le_of_ble_eq_true rfl⟩
theorem v_6_leftIn : MV M6_leftIn := ⟨gT_in 1121 (by decide +kernel) rfl, gT_in 49 (by decide +kernel) rfl⟩
theorem f_6_pressIn : MF M6_pressIn 2 := ⟨by decide +kernel, by decide +kernel, by decide +kernel, gT_in 1063 (by decide +kernel) rfl, gT_in 73 (by decide +kernel) rfl, by decide +kernel, Nat.le_of_ble_eq_true rfl⟩
theorem v_6_pressIn : MV M6_pressIn := ⟨gT_in 1061 (by decide +kernel) rfl, gT_in 1062 (by decide +kernel) rfl⟩
theorem f_6_then : MF M6_then 2 := ⟨by decide +kernel, by decide +kernel, by decide +kernel, gT_in 1082 (by decide +kernel) rfl, gT_in 73 (by decide +kernel) rfl, by decide +kernel, Nat.le_of_ble_eq_true rfl⟩
theorem v_6_then : MV M6_then := ⟨gT_in 1080 (by decide +kernel) rfl, gT_in 1081 (by decide +kernel) rfl⟩
theorem f_6_goesWhen : MF M6_goesWhen 1 := ⟨by decide +kernel, by decide +kernel, by decide +kernel, gT_in 1098 (by decide +kernel) rfl, gT_in 73 (by decide +kernel) rfl, by decide +kernel, Nat.le_of_ble_eq_true rfl⟩
theorem v_6_goesWhen : MV M6_goesWhen := ⟨gT_in 1097 (by decide +kernel) rfl, gT_in 47 (by decide +kernel) rfl⟩
theorem f_6_firstToGo : MF M6_firstToGo 0 := ⟨by decide +kernel, by decide +kernel, by decide +kernel, gT_in 1094 (by decide +kernel) rfl, gT_in 73 (by decide +kernel) rfl, by decide +kernel, Nat.le_of_ble_eq_true rfl⟩
theorem v_6_firstToGo : MV M6_firstToGo := ⟨gT_in 1093 (by decide +kernel) rfl, gT_in 46 (by decide +kernel) rfl⟩
theorem f_6_goes : MF M6_goes 1 := ⟨by decide +kernel, by decide +kernel, by decide +kernel, gT_in 1090 (by decide +kernel) rfl, gT_in 73 (by decide +kernel) rfl, by decide +kernel, Nat.le_of_ble_eq_true rfl⟩
theorem v_6_goes : MV M6_goes := ⟨gT_in 1088 (by decide +kernel) rfl, gT_in 1089 (by decide +kernel) rfl⟩
theorem f_6_quiet : MF M6_quiet 0 := ⟨by decide +kernel, by decide +kernel, by decide +kernel, gT_in 1102 (by decide +kernel) rfl, gT_in 73 (by decide +kernel) rfl, by decide +kernel, Nat.le_of_ble_eq_true rfl⟩
theorem v_6_quiet : MV M6_quiet := ⟨gT_in 1100 (by decide +kernel) rfl, gT_in 1101 (by decide +kernel) rfl⟩
theorem f_6_takenBy : MF M6_takenBy 1 := ⟨by decide +kernel, by decide +kernel, by decide +kernel, gT_in 1110 (by decide +kernel) rfl, gT_in 73 (by decide +kernel) rfl, by decide +kernel, Nat.le_of_ble_eq_true rfl⟩
theorem v_6_takenBy : MV M6_takenBy := ⟨gT_in 1109 (by decide +kernel) rfl, gT_in 48 (by decide +kernel) rfl⟩
theorem f_6_takes : MF M6_takes 1 := ⟨by decide +kernel, by decide +kernel, by decide +kernel, gT_in 1106 (by decide +kernel) rfl, gT_in 73 (by decide +kernel) rfl, by decide +kernel, Nat.le_of_ble_eq_true rfl⟩
theorem v_6_takes : MV M6_takes := ⟨gT_in 1104 (by decide +kernel) rfl, gT_in 1105 (by decide +kernel) rfl⟩
theorem f_6_worst : MF M6_worst 1 := ⟨by decide +kernel, by decide +kernel, by decide +kernel, gT_in 1114 (by decide +kernel) rfl, gT_in 73 (by decide +kernel) rfl, by decide +kernel, Nat.le_of_ble_eq_true rfl⟩
theorem v_6_worst : MV M6_worst := ⟨gT_in 1112 (by decide +kernel) rfl, gT_in 1113 (by decide +kernel) rfl⟩
theorem f_6_safe : MF M6_safe 2 := ⟨by decide +kernel, by decide +kernel, by decide +kernel, gT_in 1118 (by decide +kernel) rfl, gT_in 73 (by decide +kernel) rfl, by decide +kernel, Nat.le_of_ble_eq_true rfl⟩
theorem v_6_safe : MV M6_safe := ⟨gT_in 1116 (by decide +kernel) rfl, gT_in 1117 (by decide +kernel) rfl⟩
theorem f_6_towel : MF M6_towel 1 := ⟨by decide +kernel, by decide +kernel, by decide +kernel, gT_in 1126 (by decide +kernel) rfl, gT_in 73 (by decide +kernel) rfl, by decide +kernel, Nat.le_of_ble_eq_true rfl⟩
theorem v_6_towel : MV M6_towel := ⟨gT_in 1124 (by decide +kernel) rfl, gT_in 1125 (by decide +kernel) rfl⟩
theorem f_6_leftFed : MF M6_leftFed 2 := ⟨by decide +kernel, by decide +kernel, by decide +kernel, gT_in 1134 (by decide +kernel) rfl, gT_in 73 (by decide +kernel) rfl, by decide +kernel, Nat.le_of_ble_eq_true rfl⟩
theorem v_6_leftFed : MV M6_leftFed := ⟨gT_in 1133 (by decide +kernel) rfl, gT_in 50 (by decide +kernel) rfl⟩
theorem f_6_spoon : MF M6_spoon 2 := ⟨by decide +kernel, by decide +kernel, by decide +kernel, gT_in 1130 (by decide +kernel) rfl, gT_in 73 (by decide +kernel) rfl, by decide +kernel, Nat.le_of_ble_eq_true rfl⟩
theorem v_6_spoon : MV M6_spoon := ⟨gT_in 1128 (by decide +kernel) rfl, gT_in 1129 (by decide +kernel) rfl⟩
theorem f_6_out : MF M6_out 1 := ⟨by decide +kernel, by decide +kernel, by decide +kernel, gT_in 1138 (by decide +kernel) rfl, gT_in 73 (by decide +kernel) rfl, by decide +kernel, Nat.le_of_ble_eq_true rfl⟩
theorem v_6_out : MV M6_out := ⟨gT_in 1136 (by decide +kernel) rfl, gT_in 1137 (by decide +kernel) rfl⟩
theorem f_6_isReady : MF M6_isReady 2 := ⟨by decide +kernel, by decide +kernel, by decide +kernel, gT_in 1146 (by decide +kernel) rfl, gT_in 73 (by decide +kernel) rfl, by decide +kernel, Nat.le_of_ble_eq_true rfl⟩
theorem v_6_isReady : MV M6_isReady := ⟨gT_in 1145 (by decide +kernel) rfl, gT_in 51 (by decide +kernel) rfl⟩
theorem f_6_ready : MF M6_ready 3 := ⟨by decide +kernel, by decide +kernel, by decide +kernel, gT_in 1142 (by decide +kernel) rfl, gT_in 73 (by decide +kernel) rfl, by decide +kernel, Nat.le_of_ble_eq_true rfl⟩
theorem v_6_ready : MV M6_ready := ⟨gT_in 1140 (by decide +kernel) rfl, gT_in 1141 (by decide +kernel) rfl⟩
theorem f_6_isReadyFed : MF M6_isReadyFed 3 := ⟨by decide +kernel, by decide +kernel, by decide +kernel, gT_in 1154 (by decide +kernel) rfl, gT_in 73 (by decide +kernel) rfl, by decide +kernel, Nat.le_of_ble_eq_true rfl⟩
theorem v_6_isReadyFed : MV M6_isReadyFed := ⟨gT_in 1153 (by decide +kernel) rfl, gT_in 52 (by decide +kernel) rfl⟩
theorem f_6_feedFor : MF M6_feedFor 2 := ⟨by decide +kernel, by decide +kernel, by decide +kernel, gT_in 1150 (by decide +kernel) rfl, gT_in 73 (by decide +kernel) rfl, by decide +kernel, Nat.le_of_ble_eq_true rfl⟩
theorem v_6_feedFor : MV M6_feedFor := ⟨gT_in 1148 (by decide +kernel) rfl, gT_in 1149 (by decide +kernel) rfl⟩
theorem f_6_movesTwo : MF M6_movesTwo 2 := ⟨by decide +kernel, by decide +kernel, by decide +kernel, gT_in 1162 (by decide +kernel) rfl, gT_in 73 (by decide +kernel) rfl, by decide +kernel, Nat.le_of_ble_eq_true rfl⟩
theorem v_6_movesTwo : MV M6_movesTwo := ⟨gT_in 1161 (by decide +kernel) rfl, gT_in 53 (by decide +kernel) rfl⟩
theorem f_6_move : MF M6_move 1 := ⟨by decide +kernel, by decide +kernel, by decide +kernel, gT_in 1158 (by decide +kernel) rfl, gT_in 73 (by decide +kernel) rfl, by decide +kernel, Nat.le_of_ble_eq_true rfl⟩
theorem v_6_move : MV M6_move := ⟨gT_in 1156 (by decide +kernel) rfl, gT_in 1157 (by decide +kernel) rfl⟩
theorem f_6_halved : MF M6_halved 0 := ⟨by decide +kernel, by decide +kernel, by decide +kernel, gT_in 1166 (by decide +kernel) rfl, gT_in 73 (by decide +kernel) rfl, by decide +kernel, Nat.le_of_ble_eq_true rfl⟩
theorem v_6_halved : MV M6_halved := ⟨gT_in 1164 (by decide +kernel) rfl, gT_in 1165 (by decide +kernel) rfl⟩
theorem f_6_isLeftSo : MF M6_isLeftSo 1 := ⟨by decide +kernel, by decide +kernel, by decide +kernel, gT_in 1174 (by decide +kernel) rfl, gT_in 73 (by decide +kernel) rfl, by decide +kernel, Nat.le_of_ble_eq_true rfl⟩
theorem v_6_isLeftSo : MV M6_isLeftSo := ⟨gT_in 1173 (by decide +kernel) rfl, gT_in 54 (by decide +kernel) rfl⟩
theorem f_6_whoWent : MF M6_whoWent 0 := ⟨by decide +kernel, by decide +kernel, by decide +kernel, gT_in 1170 (by decide +kernel) rfl, gT_in 73 (by decide +kernel) rfl, by decide +kernel, Nat.le_of_ble_eq_true rfl⟩
theorem v_6_whoWent : MV M6_whoWent := ⟨gT_in 1168 (by decide +kernel) rfl, gT_in 1169 (by decide +kernel) rfl⟩
theorem f_6_isPressedSo : MF M6_isPressedSo 1 := ⟨by decide +kernel, by decide +kernel, by decide +kernel, gT_in 1186 (by decide +kernel) rfl, gT_in 73 (by decide +kernel) rfl, by decide +kernel, Nat.le_of_ble_eq_true rfl⟩
theorem v_6_isPressedSo : MV M6_isPressedSo := ⟨gT_in 1185 (by decide +kernel) rfl, gT_in 56 (by decide +kernel) rfl⟩
theorem f_6_bitsFor : MF M6_bitsFor 3 := ⟨by decide +kernel, by decide +kernel, by decide +kernel, gT_in 1182 (by decide +kernel) rfl, gT_in 73 (by decide +kernel) rfl, by decide +kernel, Nat.le_of_ble_eq_true rfl⟩
theorem v_6_bitsFor : MV M6_bitsFor := ⟨gT_in 1181 (by decide +kernel) rfl, gT_in 55 (by decide +kernel) rfl⟩
theorem f_6_whatKind : MF M6_whatKind 2 := ⟨by decide +kernel, by decide +kernel, by decide +kernel, gT_in 1178 (by decide +kernel) rfl, gT_in 73 (by decide +kernel) rfl, by decide +kernel, Nat.le_of_ble_eq_true rfl⟩
theorem v_6_whatKind : MV M6_whatKind := ⟨gT_in 1176 (by decide +kernel) rfl, gT_in 1177 (by decide +kernel) rfl⟩
theorem f_6_getsOf : MF M6_getsOf 1 := ⟨by decide +kernel, by decide +kernel, by decide +kernel, gT_in 1198 (by decide +kernel) rfl, gT_in 73 (by decide +kernel) rfl, by decide +kernel, Nat.le_of_ble_eq_true rfl⟩
theorem v_6_getsOf : MV M6_getsOf := ⟨gT_in 1197 (by decide +kernel) rfl, gT_in 58 (by decide +kernel) rfl⟩
theorem f_6_findGets : MF M6_findGets 3 := ⟨by decide +kernel, by decide +kernel, by decide +kernel, gT_in 1194 (by decide +kernel) rfl, gT_in 73 (by decide +kernel) rfl, by decide +kernel, Nat.le_of_ble_eq_true rfl⟩
theorem v_6_findGets : MV M6_findGets := ⟨gT_in 1193 (by decide +kernel) rfl, gT_in 57 (by decide +kernel) rfl⟩
theorem f_6_two : MF M6_two 3 := ⟨by decide +kernel, by decide +kernel, by decide +kernel, gT_in 1190 (by decide +kernel) rfl, gT_in 73 (by decide +kernel) rfl, by decide +kernel, Nat.le_of_ble_eq_true rfl⟩
theorem v_6_two : MV M6_two := ⟨gT_in 1188 (by decide +kernel) rfl, gT_in 1189 (by decide +kernel) rfl⟩
theorem f_6_divisor : MF M6_divisor 2 := ⟨by decide +kernel, by decide +kernel, by decide +kernel, gT_in 1216 (by decide +kernel) rfl, gT_in 73 (by decide +kernel) rfl, by decide +kernel, Nat.le_of_ble_eq_true rfl⟩
theorem s_6_divisor : MS M6_divisor := gT_in 1215 (by decide +kernel) rfl
theorem f_6_partOf : MF M6_partOf 3 := ⟨by decide +kernel, by decide +kernel, by decide +kernel, gT_in 1213 (by decide +kernel) rfl, gT_in 73 (by decide +kernel) rfl, by decide +kernel, Nat.le_of_ble_eq_true rfl⟩
theorem s_6_partOf : MS M6_partOf := gT_in 1212 (by decide +kernel) rfl
theorem f_6_thunders : MF M6_thunders 4 := ⟨by decide +kernel, by decide +kernel, by decide +kernel, gT_in 1202 (by decide +kernel) rfl, gT_in 73 (by decide +kernel) rfl, by decide +kernel, Nat.le_of_ble_eq_true rfl⟩
theorem v_6_thunders : MV M6_thunders := ⟨gT_in 1200 (by decide +kernel) rfl, gT_in 1201 (by decide +kernel) rfl⟩
theorem f_6_shares : MF M6_shares 2 := ⟨by decide +kernel, by decide +kernel, by decide +kernel, gT_in 1220 (by decide +kernel) rfl, gT_in 73 (by decide +kernel) rfl, by decide +kernel, Nat.le_of_ble_eq_true rfl⟩
theorem v_6_shares : MV M6_shares := ⟨gT_in 1218 (by decide +kernel) rfl, gT_in 1219 (by decide +kernel) rfl⟩
theorem f_6_tightestOne : MF M6_tightestOne 0 := ⟨by decide +kernel, by decide +kernel, by decide +kernel, gT_in 1228 (by decide +kernel) rfl, gT_in 73 (by decide +kernel) rfl, by decide +kernel, Nat.le_of_ble_eq_true rfl⟩
theorem v_6_tightestOne : MV M6_tightestOne := ⟨gT_in 1227 (by decide +kernel) rfl, gT_in 60 (by decide +kernel) rfl⟩
theorem f_6_longestGap : MF M6_longestGap 0 := ⟨by decide +kernel, by decide +kernel, by decide +kernel, gT_in 1232 (by decide +kernel) rfl, gT_in 73 (by decide +kernel) rfl, by decide +kernel, Nat.le_of_ble_eq_true rfl⟩
theorem v_6_longestGap : MV M6_longestGap := ⟨gT_in 1231 (by decide +kernel) rfl, gT_in 61 (by decide +kernel) rfl⟩
theorem f_6_tightest : MF M6_tightest 1 := ⟨by decide +kernel, by decide +kernel, by decide +kernel, gT_in 1224 (by decide +kernel) rfl, gT_in 73 (by decide +kernel) rfl, by decide +kernel, Nat.le_of_ble_eq_true rfl⟩
theorem v_6_tightest : MV M6_tightest := ⟨gT_in 1222 (by decide +kernel) rfl, gT_in 1223 (by decide +kernel) rfl⟩
theorem f_6_near : MF M6_near 1 := ⟨by decide +kernel, by decide +kernel, by decide +kernel, gT_in 1236 (by decide +kernel) rfl, gT_in 73 (by decide +kernel) rfl, by decide +kernel, Nat.le_of_ble_eq_true rfl⟩
theorem v_6_near : MV M6_near := ⟨gT_in 1234 (by decide +kernel) rfl, gT_in 1235 (by decide +kernel) rfl⟩
theorem f_6_mean : MF M6_mean 1 := ⟨by decide +kernel, by decide +kernel, by decide +kernel, gT_in 1240 (by decide +kernel) rfl, gT_in 73 (by decide +kernel) rfl, by decide +kernel, Nat.le_of_ble_eq_true rfl⟩
theorem v_6_mean : MV M6_mean := ⟨gT_in 1238 (by decide +kernel) rfl, gT_in 1239 (by decide +kernel) rfl⟩
theorem f_6_spare : MF M6_spare 1 := ⟨by decide +kernel, by decide +kernel, by decide +kernel, gT_in 1244 (by decide +kernel) rfl, gT_in 73 (by decide +kernel) rfl, by decide +kernel, Nat.le_of_ble_eq_true rfl⟩
theorem v_6_spare : MV M6_spare := ⟨gT_in 1242 (by decide +kernel) rfl, gT_in 1243 (by decide +kernel) rfl⟩
theorem f_6_nearTwos : MF M6_nearTwos 0 := ⟨by decide +kernel, by decide +kernel, by decide +kernel, gT_in 1252 (by decide +kernel) rfl, gT_in 73 (by decide +kernel) rfl, by decide +kernel, Nat.le_of_ble_eq_true rfl⟩
theorem v_6_nearTwos : MV M6_nearTwos := ⟨gT_in 1251 (by decide +kernel) rfl, gT_in 62 (by decide +kernel) rfl⟩
theorem f_6_calmest : MF M6_calmest 0 := ⟨by decide +kernel, by decide +kernel, by decide +kernel, gT_in 1256 (by decide +kernel) rfl, gT_in 73 (by decide +kernel) rfl, by decide +kernel, Nat.le_of_ble_eq_true rfl⟩
theorem v_6_calmest : MV M6_calmest := ⟨gT_in 1255 (by decide +kernel) rfl, gT_in 63 (by decide +kernel) rfl⟩
theorem f_6_endWhen : MF M6_endWhen 0 := ⟨by decide +kernel, by decide +kernel, by decide +kernel, gT_in 1260 (by decide +kernel) rfl, gT_in 73 (by decide +kernel) rfl, by decide +kernel, Nat.le_of_ble_eq_true rfl⟩
theorem v_6_endWhen : MV M6_endWhen := ⟨gT_in 1259 (by decide +kernel) rfl, gT_in 64 (by decide +kernel) rfl⟩
theorem f_6_pairs : MF M6_pairs 1 := ⟨by decide +kernel, by decide +kernel, by decide +kernel, gT_in 1248 (by decide +kernel) rfl, gT_in 73 (by decide +kernel) rfl, by decide +kernel, Nat.le_of_ble_eq_true rfl⟩
theorem v_6_pairs : MV M6_pairs := ⟨gT_in 1246 (by decide +kernel) rfl, gT_in 1247 (by decide +kernel) rfl⟩
theorem f_6_eased : MF M6_eased 3 := ⟨by decide +kernel, by decide +kernel, by decide +kernel, gT_in 1264 (by decide +kernel) rfl, gT_in 73 (by decide +kernel) rfl, by decide +kernel, Nat.le_of_ble_eq_true rfl⟩
theorem v_6_eased : MV M6_eased := ⟨gT_in 1262 (by decide +kernel) rfl, gT_in 1263 (by decide +kernel) rfl⟩
theorem f_6_officers : MF M6_officers 1 := ⟨by decide +kernel, by decide +kernel, by decide +kernel, gT_in 1273 (by decide +kernel) rfl, gT_in 73 (by decide +kernel) rfl, by decide +kernel, Nat.le_of_ble_eq_true rfl⟩
theorem v_6_officers : MV M6_officers := ⟨gT_in 1271 (by decide +kernel) rfl, gT_in 1272 (by decide +kernel) rfl⟩
theorem f_6_row : MF M6_row 1 := ⟨by decide +kernel, by decide +kernel, by decide +kernel, gT_in 1277 (by decide +kernel) rfl, gT_in 73 (by decide +kernel) rfl, by decide +kernel, Nat.le_of_ble_eq_true rfl⟩
theorem v_6_row : MV M6_row := ⟨gT_in 1275 (by decide +kernel) rfl, gT_in 1276 (by decide +kernel) rfl⟩
theorem f_6_judge : MF M6_judge 0 := ⟨by decide +kernel, by decide +kernel, by decide +kernel, gT_in 1281 (by decide +kernel) rfl, gT_in 73 (by decide +kernel) rfl, by decide +kernel, Nat.le_of_ble_eq_true rfl⟩
theorem v_6_judge : MV M6_judge := ⟨gT_in 1279 (by decide +kernel) rfl, gT_in 1280 (by decide +kernel) rfl⟩
theorem f_6_clear : MF M6_clear 0 := ⟨by decide +kernel, by decide +kernel, by decide +kernel, gT_in 1285 (by decide +kernel) rfl, gT_in 73 (by decide +kernel) rfl, by decide +kernel, Nat.le_of_ble_eq_true rfl⟩
theorem v_6_clear : MV M6_clear := ⟨gT_in 1283 (by decide +kernel) rfl, gT_in 1284 (by decide +kernel) rfl⟩
theorem f_6_draw : MF M6_draw 1 := ⟨by decide +kernel, by decide +kernel, by decide +kernel, gT_in 1293 (by decide +kernel) rfl, gT_in 73 (by decide +kernel) rfl, by decide +kernel, Nat.le_of_ble_eq_true rfl⟩
theorem v_6_draw : MV M6_draw := ⟨gT_in 1292 (by decide +kernel) rfl, gT_in 66 (by decide +kernel) rfl⟩
theorem f_6_lots : MF M6_lots 3 := ⟨by decide +kernel, by decide +kernel, by decide +kernel, gT_in 1289 (by decide +kernel) rfl, gT_in 73 (by decide +kernel) rfl, by decide +kernel, Nat.le_of_ble_eq_true rfl⟩
theorem v_6_lots : MV M6_lots := ⟨gT_in 1287 (by decide +kernel) rfl, gT_in 1288 (by decide +kernel) rfl⟩
theorem f_6_count : MF M6_count 1 := ⟨by decide +kernel, by decide +kernel, by decide +kernel, gT_in 1300 (by decide +kernel) rfl, gT_in 73 (by decide +kernel) rfl, by decide +kernel, Nat.le_of_ble_eq_true rfl⟩
theorem v_6_count : MV M6_count := ⟨gT_in 1298 (by decide +kernel) rfl, gT_in 1299 (by decide +kernel) rfl⟩
theorem f_J_bitCount : MF MJ_bitCount 1 := ⟨by decide +kernel, by decide +kernel, by decide +kernel, gT_in 441 (by decide +kernel) rfl, gT_in 77 (by decide +kernel) rfl, by decide +kernel, Nat.le_of_ble_eq_true rfl⟩
theorem s_J_bitCount : MS MJ_bitCount := gT_in 440 (by decide +kernel) rfl
theorem l_9_13 : Cond.methodLink (ownName 9) 13 Y5_feed ∈ gT := gT_in 226 (by decide +kernel) rfl
theorem l_5_50 : Cond.methodLink (ownName 5) 50 Y5_refuse ∈ gT := gT_in 230 (by decide +kernel) rfl
theorem l_5_58 : Cond.methodLink (ownName 5) 58 Y4_add ∈ gT := gT_in 234 (by decide +kernel) rfl
theorem l_9_18 : Cond.methodLink (ownName 9) 18 Y5_cellar ∈ gT := gT_in 238 (by decide +kernel) rfl
theorem l_5_62 : Cond.methodLink (ownName 5) 62 Y3_copyFrom ∈ gT := gT_in 242 (by decide +kernel) rfl
theorem l_3_37 : Cond.methodLink (ownName 3) 37 arraycopyName ∈ gT := gT_in 246 (by decide +kernel) rfl
theorem l_5_66 : Cond.methodLink (ownName 5) 66 Y4_tellTo ∈ gT := gT_in 249 (by decide +kernel) rfl
theorem l_4_19 : Cond.methodLink (ownName 4) 19 Y4_firstBroken ∈ gT := gT_in 253 (by decide +kernel) rfl
theorem l_4_27 : Cond.methodLink (ownName 4) 27 Y4_letterAt ∈ gT := gT_in 257 (by decide +kernel) rfl
theorem l_4_31 : Cond.methodLink (ownName 4) 31 Y4_digitsBehind ∈ gT := gT_in 261 (by decide +kernel) rfl
theorem l_4_34 : Cond.methodLink (ownName 4) 34 Y4_isDigit ∈ gT := gT_in 264 (by decide +kernel) rfl
theorem l_4_23 : Cond.methodLink (ownName 4) 23 Y4_carryOut ∈ gT := gT_in 267 (by decide +kernel) rfl
theorem l_4_38 : Cond.methodLink (ownName 4) 38 Y4_digitAt ∈ gT := gT_in 271 (by decide +kernel) rfl
theorem l_4_41 : Cond.methodLink (ownName 4) 41 Y4_numberAt ∈ gT := gT_in 275 (by decide +kernel) rfl
theorem l_4_44 : Cond.methodLink (ownName 4) 44 Y4_addBottle ∈ gT := gT_in 279 (by decide +kernel) rfl
theorem l_4_71 : Cond.methodLink (ownName 4) 71 Y3_wholeAt ∈ gT := gT_in 282 (by decide +kernel) rfl
theorem l_3_79 : Cond.methodLink (ownName 3) 79 Y3_isWhole ∈ gT := gT_in 286 (by decide +kernel) rfl
theorem l_4_74 : Cond.methodLink (ownName 4) 74 Y3_add ∈ gT := gT_in 290 (by decide +kernel) rfl
theorem l_3_62 : Cond.methodLink (ownName 3) 62 Y3_become ∈ gT := gT_in 294 (by decide +kernel) rfl
theorem l_3_58 : Cond.methodLink (ownName 3) 58 Y3_has ∈ gT := gT_in 298 (by decide +kernel) rfl
theorem l_3_66 : Cond.methodLink (ownName 3) 66 Y0_rises ∈ gT := gT_in 302 (by decide +kernel) rfl
theorem l_0_7 : Cond.methodLink (ownName 0) 7 Lib.Math.max.name ∈ gT := gT_in 305 (by decide +kernel) rfl
theorem l_3_72 : Cond.methodLink (ownName 3) 72 Y0_bears ∈ gT := gT_in 308 (by decide +kernel) rfl
theorem l_3_76 : Cond.methodLink (ownName 3) 76 Y0_shocks ∈ gT := gT_in 311 (by decide +kernel) rfl
theorem l_4_48 : Cond.methodLink (ownName 4) 48 Y4_pressOne ∈ gT := gT_in 314 (by decide +kernel) rfl
theorem l_4_78 : Cond.methodLink (ownName 4) 78 Y3_isWhole ∈ gT := gT_in 317 (by decide +kernel) rfl
theorem l_4_81 : Cond.methodLink (ownName 4) 81 Y3_setPress ∈ gT := gT_in 318 (by decide +kernel) rfl
theorem l_4_52 : Cond.methodLink (ownName 4) 52 Y4_coverOne ∈ gT := gT_in 322 (by decide +kernel) rfl
theorem l_4_84 : Cond.methodLink (ownName 4) 84 Y3_turnTowel ∈ gT := gT_in 325 (by decide +kernel) rfl
theorem l_4_55 : Cond.methodLink (ownName 4) 55 Y3_nourish ∈ gT := gT_in 329 (by decide +kernel) rfl
theorem l_4_61 : Cond.methodLink (ownName 4) 61 Y4_canPass ∈ gT := gT_in 333 (by decide +kernel) rfl
theorem l_4_64 : Cond.methodLink (ownName 4) 64 Y3_pass ∈ gT := gT_in 336 (by decide +kernel) rfl
theorem l_3_82 : Cond.methodLink (ownName 3) 82 Y3_dayGoesBy ∈ gT := gT_in 340 (by decide +kernel) rfl
theorem l_3_85 : Cond.methodLink (ownName 3) 85 Y3_settle ∈ gT := gT_in 344 (by decide +kernel) rfl
theorem l_3_88 : Cond.methodLink (ownName 3) 88 Y3_burst ∈ gT := gT_in 348 (by decide +kernel) rfl
theorem l_5_70 : Cond.methodLink (ownName 5) 70 Y4_forget ∈ gT := gT_in 352 (by decide +kernel) rfl
theorem l_5_73 : Cond.methodLink (ownName 5) 73 Y2_forget ∈ gT := gT_in 356 (by decide +kernel) rfl
theorem l_9_23 : Cond.methodLink (ownName 9) 23 Y5_bottleOf ∈ gT := gT_in 360 (by decide +kernel) rfl
theorem l_5_74 : Cond.methodLink (ownName 5) 74 Y3_has ∈ gT := gT_in 364 (by decide +kernel) rfl
theorem l_5_78 : Cond.methodLink (ownName 5) 78 Y3_kindOf ∈ gT := gT_in 365 (by decide +kernel) rfl
theorem l_5_81 : Cond.methodLink (ownName 5) 81 Y3_figureOf ∈ gT := gT_in 369 (by decide +kernel) rfl
theorem l_5_84 : Cond.methodLink (ownName 5) 84 Y3_placeOf ∈ gT := gT_in 373 (by decide +kernel) rfl
theorem l_5_87 : Cond.methodLink (ownName 5) 87 Y3_pressOf ∈ gT := gT_in 377 (by decide +kernel) rfl
theorem l_5_90 : Cond.methodLink (ownName 5) 90 Y3_isWhole ∈ gT := gT_in 381 (by decide +kernel) rfl
theorem l_5_93 : Cond.methodLink (ownName 5) 93 Y3_isCovered ∈ gT := gT_in 382 (by decide +kernel) rfl
theorem l_5_96 : Cond.methodLink (ownName 5) 96 Y3_riseOf ∈ gT := gT_in 386 (by decide +kernel) rfl
theorem l_5_99 : Cond.methodLink (ownName 5) 99 Y3_bearOf ∈ gT := gT_in 390 (by decide +kernel) rfl
theorem l_5_102 : Cond.methodLink (ownName 5) 102 Y3_shockOf ∈ gT := gT_in 394 (by decide +kernel) rfl
theorem l_9_28 : Cond.methodLink (ownName 9) 28 Y5_at ∈ gT := gT_in 398 (by decide +kernel) rfl
theorem l_5_105 : Cond.methodLink (ownName 5) 105 Y3_wholeAt ∈ gT := gT_in 402 (by decide +kernel) rfl
theorem l_9_32 : Cond.methodLink (ownName 9) 32 Y5_bottle ∈ gT := gT_in 403 (by decide +kernel) rfl
theorem l_5_111 : Cond.methodLink (ownName 5) 111 Y3_add ∈ gT := gT_in 407 (by decide +kernel) rfl
theorem l_9_37 : Cond.methodLink (ownName 9) 37 Y5_feeds ∈ gT := gT_in 408 (by decide +kernel) rfl
theorem l_5_114 : Cond.methodLink (ownName 5) 114 Y5_isNoTwo ∈ gT := gT_in 412 (by decide +kernel) rfl
theorem l_5_117 : Cond.methodLink (ownName 5) 117 Y2_keep ∈ gT := gT_in 415 (by decide +kernel) rfl
theorem l_2_20 : Cond.methodLink (ownName 2) 20 Y3_copyFrom ∈ gT := gT_in 419 (by decide +kernel) rfl
theorem l_2_27 : Cond.methodLink (ownName 2) 27 Lib.Math.min.name ∈ gT := gT_in 420 (by decide +kernel) rfl
theorem l_5_126 : Cond.methodLink (ownName 5) 126 Y3_nourish ∈ gT := gT_in 423 (by decide +kernel) rfl
theorem l_9_41 : Cond.methodLink (ownName 9) 41 Y5_outs ∈ gT := gT_in 424 (by decide +kernel) rfl
theorem l_5_130 : Cond.methodLink (ownName 5) 130 Y3_setPress ∈ gT := gT_in 428 (by decide +kernel) rfl
theorem l_9_45 : Cond.methodLink (ownName 9) 45 Y5_towels ∈ gT := gT_in 429 (by decide +kernel) rfl
theorem l_5_133 : Cond.methodLink (ownName 5) 133 Y3_turnTowel ∈ gT := gT_in 433 (by decide +kernel) rfl
theorem l_9_49 : Cond.methodLink (ownName 9) 49 Y5_days ∈ gT := gT_in 434 (by decide +kernel) rfl
theorem l_5_139 : Cond.methodLink (ownName 5) 139 Y3_pass ∈ gT := gT_in 438 (by decide +kernel) rfl
theorem l_5_145 : Cond.methodLink (ownName 5) 145 YJ_bitCount ∈ gT := gT_in 439 (by decide +kernel) rfl
theorem l_9_53 : Cond.methodLink (ownName 9) 53 Y5_back ∈ gT := gT_in 445 (by decide +kernel) rfl
theorem l_5_153 : Cond.methodLink (ownName 5) 153 Y2_takeBack ∈ gT := gT_in 449 (by decide +kernel) rfl
theorem l_9_57 : Cond.methodLink (ownName 9) 57 Y5_pressIn ∈ gT := gT_in 453 (by decide +kernel) rfl
theorem l_5_156 : Cond.methodLink (ownName 5) 156 Y5_aheadFault ∈ gT := gT_in 457 (by decide +kernel) rfl
theorem l_5_159 : Cond.methodLink (ownName 5) 159 Y1_ahead ∈ gT := gT_in 460 (by decide +kernel) rfl
theorem l_1_25 : Cond.methodLink (ownName 1) 25 Y3_copyFrom ∈ gT := gT_in 464 (by decide +kernel) rfl
theorem l_1_29 : Cond.methodLink (ownName 1) 29 Y3_pass ∈ gT := gT_in 465 (by decide +kernel) rfl
theorem l_9_61 : Cond.methodLink (ownName 9) 61 Y5_then ∈ gT := gT_in 466 (by decide +kernel) rfl
theorem l_5_163 : Cond.methodLink (ownName 5) 163 Y3_pressOfWhole ∈ gT := gT_in 470 (by decide +kernel) rfl
theorem l_9_65 : Cond.methodLink (ownName 9) 65 Y5_goes ∈ gT := gT_in 474 (by decide +kernel) rfl
theorem l_5_167 : Cond.methodLink (ownName 5) 167 Y1_firstToGo ∈ gT := gT_in 478 (by decide +kernel) rfl
theorem l_1_47 : Cond.methodLink (ownName 1) 47 Y3_dayGoesBy ∈ gT := gT_in 482 (by decide +kernel) rfl
theorem l_5_170 : Cond.methodLink (ownName 5) 170 Y1_daysTillGone ∈ gT := gT_in 483 (by decide +kernel) rfl
theorem l_1_43 : Cond.methodLink (ownName 1) 43 Y3_isWhole ∈ gT := gT_in 487 (by decide +kernel) rfl
theorem l_9_69 : Cond.methodLink (ownName 9) 69 Y5_quiet ∈ gT := gT_in 488 (by decide +kernel) rfl
theorem l_5_174 : Cond.methodLink (ownName 5) 174 Y1_longestQuiet ∈ gT := gT_in 492 (by decide +kernel) rfl
theorem l_1_50 : Cond.methodLink (ownName 1) 50 Lib.Math.max.name ∈ gT := gT_in 496 (by decide +kernel) rfl
theorem l_9_73 : Cond.methodLink (ownName 9) 73 Y5_takes ∈ gT := gT_in 497 (by decide +kernel) rfl
theorem l_5_177 : Cond.methodLink (ownName 5) 177 Y1_takenBy ∈ gT := gT_in 501 (by decide +kernel) rfl
theorem l_1_56 : Cond.methodLink (ownName 1) 56 Y3_burst ∈ gT := gT_in 505 (by decide +kernel) rfl
theorem l_1_59 : Cond.methodLink (ownName 1) 59 Y3_settle ∈ gT := gT_in 506 (by decide +kernel) rfl
theorem l_9_77 : Cond.methodLink (ownName 9) 77 Y5_worst ∈ gT := gT_in 507 (by decide +kernel) rfl
theorem l_5_180 : Cond.methodLink (ownName 5) 180 Y1_worstOne ∈ gT := gT_in 511 (by decide +kernel) rfl
theorem l_1_62 : Cond.methodLink (ownName 1) 62 Y1_takenBy ∈ gT := gT_in 515 (by decide +kernel) rfl
theorem l_1_37 : Cond.methodLink (ownName 1) 37 YJ_bitCount ∈ gT := gT_in 516 (by decide +kernel) rfl
theorem l_9_81 : Cond.methodLink (ownName 9) 81 Y5_safe ∈ gT := gT_in 517 (by decide +kernel) rfl
theorem l_5_183 : Cond.methodLink (ownName 5) 183 Y1_safestPlace ∈ gT := gT_in 521 (by decide +kernel) rfl
theorem l_1_66 : Cond.methodLink (ownName 1) 66 Y3_wholeAt ∈ gT := gT_in 525 (by decide +kernel) rfl
theorem l_1_69 : Cond.methodLink (ownName 1) 69 Y3_setPlace ∈ gT := gT_in 526 (by decide +kernel) rfl
theorem l_1_73 : Cond.methodLink (ownName 1) 73 Y1_leftBehind ∈ gT := gT_in 530 (by decide +kernel) rfl
theorem l_9_85 : Cond.methodLink (ownName 9) 85 Y5_towel ∈ gT := gT_in 534 (by decide +kernel) rfl
theorem l_5_187 : Cond.methodLink (ownName 5) 187 Y1_oneToCover ∈ gT := gT_in 538 (by decide +kernel) rfl
theorem l_1_76 : Cond.methodLink (ownName 1) 76 Y1_ahead ∈ gT := gT_in 542 (by decide +kernel) rfl
theorem l_1_80 : Cond.methodLink (ownName 1) 80 Y3_isCovered ∈ gT := gT_in 543 (by decide +kernel) rfl
theorem l_1_83 : Cond.methodLink (ownName 1) 83 Y3_turnTowel ∈ gT := gT_in 544 (by decide +kernel) rfl
theorem l_9_89 : Cond.methodLink (ownName 9) 89 Y5_spoon ∈ gT := gT_in 545 (by decide +kernel) rfl
theorem l_5_190 : Cond.methodLink (ownName 5) 190 Y1_bestSugar ∈ gT := gT_in 549 (by decide +kernel) rfl
theorem l_1_98 : Cond.methodLink (ownName 1) 98 Y1_leftWithSugar ∈ gT := gT_in 553 (by decide +kernel) rfl
theorem l_1_95 : Cond.methodLink (ownName 1) 95 Y3_nourish ∈ gT := gT_in 557 (by decide +kernel) rfl
theorem l_5_193 : Cond.methodLink (ownName 5) 193 Y1_leftWithSugar ∈ gT := gT_in 558 (by decide +kernel) rfl
theorem l_9_93 : Cond.methodLink (ownName 9) 93 Y5_out ∈ gT := gT_in 559 (by decide +kernel) rfl
theorem l_5_196 : Cond.methodLink (ownName 5) 196 Y1_oneToLetOut ∈ gT := gT_in 563 (by decide +kernel) rfl
theorem l_1_86 : Cond.methodLink (ownName 1) 86 Y3_setPress ∈ gT := gT_in 567 (by decide +kernel) rfl
theorem l_9_97 : Cond.methodLink (ownName 9) 97 Y5_ready ∈ gT := gT_in 568 (by decide +kernel) rfl
theorem l_5_199 : Cond.methodLink (ownName 5) 199 Y1_leastSugarFor ∈ gT := gT_in 572 (by decide +kernel) rfl
theorem l_1_102 : Cond.methodLink (ownName 1) 102 Y1_isReady ∈ gT := gT_in 576 (by decide +kernel) rfl
theorem l_1_106 : Cond.methodLink (ownName 1) 106 Y3_pressOf ∈ gT := gT_in 580 (by decide +kernel) rfl
theorem l_9_101 : Cond.methodLink (ownName 9) 101 Y5_feedFor ∈ gT := gT_in 581 (by decide +kernel) rfl
theorem l_5_203 : Cond.methodLink (ownName 5) 203 Y1_fewestSweetDays ∈ gT := gT_in 585 (by decide +kernel) rfl
theorem l_9_105 : Cond.methodLink (ownName 9) 105 Y5_move ∈ gT := gT_in 589 (by decide +kernel) rfl
theorem l_5_206 : Cond.methodLink (ownName 5) 206 Y1_bestChange ∈ gT := gT_in 593 (by decide +kernel) rfl
theorem l_1_89 : Cond.methodLink (ownName 1) 89 Y3_placeOf ∈ gT := gT_in 597 (by decide +kernel) rfl
theorem l_9_109 : Cond.methodLink (ownName 9) 109 Y5_halved ∈ gT := gT_in 598 (by decide +kernel) rfl
theorem l_5_209 : Cond.methodLink (ownName 5) 209 Y1_daysTillOneGoesHalved ∈ gT := gT_in 602 (by decide +kernel) rfl
theorem l_1_109 : Cond.methodLink (ownName 1) 109 Y3_halvePress ∈ gT := gT_in 606 (by decide +kernel) rfl
theorem l_9_113 : Cond.methodLink (ownName 9) 113 Y5_whoWent ∈ gT := gT_in 610 (by decide +kernel) rfl
theorem l_5_215 : Cond.methodLink (ownName 5) 215 Y1_whoLeaves ∈ gT := gT_in 614 (by decide +kernel) rfl
theorem l_1_112 : Cond.methodLink (ownName 1) 112 Y1_leavesAsTold ∈ gT := gT_in 618 (by decide +kernel) rfl
theorem l_9_117 : Cond.methodLink (ownName 9) 117 Y5_whatKind ∈ gT := gT_in 622 (by decide +kernel) rfl
theorem l_5_219 : Cond.methodLink (ownName 5) 219 Y1_kindsThatPress ∈ gT := gT_in 626 (by decide +kernel) rfl
theorem l_1_116 : Cond.methodLink (ownName 1) 116 Y3_figureOf ∈ gT := gT_in 630 (by decide +kernel) rfl
theorem l_1_119 : Cond.methodLink (ownName 1) 119 Y3_become ∈ gT := gT_in 631 (by decide +kernel) rfl
theorem l_1_123 : Cond.methodLink (ownName 1) 123 Y1_pressesAsTold ∈ gT := gT_in 632 (by decide +kernel) rfl
theorem l_5_223 : Cond.methodLink (ownName 5) 223 Y1_figuresThatPress ∈ gT := gT_in 636 (by decide +kernel) rfl
theorem l_1_127 : Cond.methodLink (ownName 1) 127 Y3_kindOf ∈ gT := gT_in 640 (by decide +kernel) rfl
theorem l_9_121 : Cond.methodLink (ownName 9) 121 Y5_two ∈ gT := gT_in 641 (by decide +kernel) rfl
theorem l_5_226 : Cond.methodLink (ownName 5) 226 Y5_areNoTwo ∈ gT := gT_in 645 (by decide +kernel) rfl
theorem l_5_230 : Cond.methodLink (ownName 5) 230 Y1_restingPair ∈ gT := gT_in 649 (by decide +kernel) rfl
theorem l_1_130 : Cond.methodLink (ownName 1) 130 Y1_wantMet ∈ gT := gT_in 653 (by decide +kernel) rfl
theorem l_9_125 : Cond.methodLink (ownName 9) 125 Y5_thunders ∈ gT := gT_in 657 (by decide +kernel) rfl
theorem l_5_233 : Cond.methodLink (ownName 5) 233 Y5_refuseLong ∈ gT := gT_in 661 (by decide +kernel) rfl
theorem l_5_237 : Cond.methodLink (ownName 5) 237 Y1_waysToStay ∈ gT := gT_in 666 (by decide +kernel) rfl
theorem l_1_133 : Cond.methodLink (ownName 1) 133 Lib.Math.min.name ∈ gT := gT_in 670 (by decide +kernel) rfl
theorem l_5_241 : Cond.methodLink (ownName 5) 241 Y5_partOf ∈ gT := gT_in 671 (by decide +kernel) rfl
theorem l_5_288 : Cond.methodLink (ownName 5) 288 Y5_commonMeasure ∈ gT := gT_in 674 (by decide +kernel) rfl
theorem l_9_130 : Cond.methodLink (ownName 9) 130 Y5_shares ∈ gT := gT_in 677 (by decide +kernel) rfl
theorem l_9_134 : Cond.methodLink (ownName 9) 134 Y5_tightest ∈ gT := gT_in 681 (by decide +kernel) rfl
theorem l_5_245 : Cond.methodLink (ownName 5) 245 Y3_tightestOne ∈ gT := gT_in 685 (by decide +kernel) rfl
theorem l_5_248 : Cond.methodLink (ownName 5) 248 Y3_longestGap ∈ gT := gT_in 689 (by decide +kernel) rfl
theorem l_3_106 : Cond.methodLink (ownName 3) 106 Y3_wholeAt ∈ gT := gT_in 693 (by decide +kernel) rfl
theorem l_3_109 : Cond.methodLink (ownName 3) 109 Lib.Math.max.name ∈ gT := gT_in 694 (by decide +kernel) rfl
theorem l_9_138 : Cond.methodLink (ownName 9) 138 Y5_near ∈ gT := gT_in 695 (by decide +kernel) rfl
theorem l_5_251 : Cond.methodLink (ownName 5) 251 Y3_nearTo ∈ gT := gT_in 699 (by decide +kernel) rfl
theorem l_3_92 : Cond.methodLink (ownName 3) 92 Lib.Math.abs.name ∈ gT := gT_in 703 (by decide +kernel) rfl
theorem l_9_142 : Cond.methodLink (ownName 9) 142 Y5_mean ∈ gT := gT_in 706 (by decide +kernel) rfl
theorem l_9_147 : Cond.methodLink (ownName 9) 147 Y5_spare ∈ gT := gT_in 710 (by decide +kernel) rfl
theorem l_5_254 : Cond.methodLink (ownName 5) 254 Lib.Math.max.name ∈ gT := gT_in 714 (by decide +kernel) rfl
theorem l_9_151 : Cond.methodLink (ownName 9) 151 Y5_pairs ∈ gT := gT_in 715 (by decide +kernel) rfl
theorem l_5_260 : Cond.methodLink (ownName 5) 260 Y3_pairsNear ∈ gT := gT_in 719 (by decide +kernel) rfl
theorem l_3_98 : Cond.methodLink (ownName 3) 98 Y3_nearTo ∈ gT := gT_in 723 (by decide +kernel) rfl
theorem l_3_101 : Cond.methodLink (ownName 3) 101 YJ_bitCount ∈ gT := gT_in 724 (by decide +kernel) rfl
theorem l_5_263 : Cond.methodLink (ownName 5) 263 Y1_greatestCalmHeat ∈ gT := gT_in 725 (by decide +kernel) rfl
theorem l_5_266 : Cond.methodLink (ownName 5) 266 Y1_daysTillAllGone ∈ gT := gT_in 729 (by decide +kernel) rfl
theorem l_9_155 : Cond.methodLink (ownName 9) 155 Y5_eased ∈ gT := gT_in 733 (by decide +kernel) rfl
theorem l_5_270 : Cond.methodLink (ownName 5) 270 Y1_easedBy ∈ gT := gT_in 738 (by decide +kernel) rfl
theorem l_1_139 : Cond.methodLink (ownName 1) 139 Y3_takeAway ∈ gT := gT_in 742 (by decide +kernel) rfl
theorem l_9_159 : Cond.methodLink (ownName 9) 159 Y5_officers ∈ gT := gT_in 746 (by decide +kernel) rfl
theorem l_5_273 : Cond.methodLink (ownName 5) 273 Y3_wholeOfKind ∈ gT := gT_in 750 (by decide +kernel) rfl
theorem l_9_163 : Cond.methodLink (ownName 9) 163 Y5_row ∈ gT := gT_in 754 (by decide +kernel) rfl
theorem l_9_167 : Cond.methodLink (ownName 9) 167 Y5_judge ∈ gT := gT_in 758 (by decide +kernel) rfl
theorem l_9_171 : Cond.methodLink (ownName 9) 171 Y5_clear ∈ gT := gT_in 762 (by decide +kernel) rfl
theorem l_9_175 : Cond.methodLink (ownName 9) 175 Y5_lots ∈ gT := gT_in 766 (by decide +kernel) rfl
theorem l_5_276 : Cond.methodLink (ownName 5) 276 Y1_summersByLot ∈ gT := gT_in 770 (by decide +kernel) rfl
theorem l_1_145 : Cond.methodLink (ownName 1) 145 Y3_pressOfWhole ∈ gT := gT_in 777 (by decide +kernel) rfl
theorem l_9_179 : Cond.methodLink (ownName 9) 179 Y5_image ∈ gT := gT_in 778 (by decide +kernel) rfl
theorem l_9_183 : Cond.methodLink (ownName 9) 183 Y5_restore ∈ gT := gT_in 782 (by decide +kernel) rfl
theorem l_9_187 : Cond.methodLink (ownName 9) 187 Y5_count ∈ gT := gT_in 786 (by decide +kernel) rfl
theorem l_5_283 : Cond.methodLink (ownName 5) 283 Y5_refusalsTold ∈ gT := gT_in 790 (by decide +kernel) rfl
theorem l_9_17 : Cond.methodLink (ownName 9) 17 Y6_feed ∈ gT := gT_in 882 (by decide +kernel) rfl
theorem l_6_62 : Cond.methodLink (ownName 6) 62 Y6_bound ∈ gT := gT_in 886 (by decide +kernel) rfl
theorem l_6_69 : Cond.methodLink (ownName 6) 69 Y6_no ∈ gT := gT_in 889 (by decide +kernel) rfl
theorem l_9_22 : Cond.methodLink (ownName 9) 22 Y6_cellar ∈ gT := gT_in 893 (by decide +kernel) rfl
theorem l_6_130 : Cond.methodLink (ownName 6) 130 Y6_statement ∈ gT := gT_in 897 (by decide +kernel) rfl
theorem l_6_76 : Cond.methodLink (ownName 6) 76 Y6_letterNow ∈ gT := gT_in 901 (by decide +kernel) rfl
theorem l_6_91 : Cond.methodLink (ownName 6) 91 Y6_readsAll ∈ gT := gT_in 905 (by decide +kernel) rfl
theorem l_6_84 : Cond.methodLink (ownName 6) 84 Y6_readsDigits ∈ gT := gT_in 909 (by decide +kernel) rfl
theorem l_6_80 : Cond.methodLink (ownName 6) 80 Y6_isIn ∈ gT := gT_in 913 (by decide +kernel) rfl
theorem l_6_134 : Cond.methodLink (ownName 6) 134 Y6_passesAll ∈ gT := gT_in 916 (by decide +kernel) rfl
theorem l_6_151 : Cond.methodLink (ownName 6) 151 Y6_passes ∈ gT := gT_in 920 (by decide +kernel) rfl
theorem l_6_155 : Cond.methodLink (ownName 6) 155 Y6_passOne ∈ gT := gT_in 924 (by decide +kernel) rfl
theorem l_6_138 : Cond.methodLink (ownName 6) 138 Y6_comesTold ∈ gT := gT_in 928 (by decide +kernel) rfl
theorem l_6_118 : Cond.methodLink (ownName 6) 118 Y6_comesBottle ∈ gT := gT_in 932 (by decide +kernel) rfl
theorem l_6_94 : Cond.methodLink (ownName 6) 94 Y6_isPlace ∈ gT := gT_in 936 (by decide +kernel) rfl
theorem l_6_98 : Cond.methodLink (ownName 6) 98 Y6_wholeAt ∈ gT := gT_in 939 (by decide +kernel) rfl
theorem l_6_108 : Cond.methodLink (ownName 6) 108 Y6_isWhole ∈ gT := gT_in 943 (by decide +kernel) rfl
theorem l_6_101 : Cond.methodLink (ownName 6) 101 Y6_adds ∈ gT := gT_in 947 (by decide +kernel) rfl
theorem l_6_124 : Cond.methodLink (ownName 6) 124 Y6_comesDays ∈ gT := gT_in 951 (by decide +kernel) rfl
theorem l_6_114 : Cond.methodLink (ownName 6) 114 Y6_goesAll ∈ gT := gT_in 955 (by decide +kernel) rfl
theorem l_6_188 : Cond.methodLink (ownName 6) 188 Y6_goesDay ∈ gT := gT_in 959 (by decide +kernel) rfl
theorem l_6_182 : Cond.methodLink (ownName 6) 182 Y6_rises ∈ gT := gT_in 963 (by decide +kernel) rfl
theorem l_6_170 : Cond.methodLink (ownName 6) 170 Y6_within ∈ gT := gT_in 967 (by decide +kernel) rfl
theorem l_6_185 : Cond.methodLink (ownName 6) 185 Y6_burstsAll ∈ gT := gT_in 970 (by decide +kernel) rfl
theorem l_6_176 : Cond.methodLink (ownName 6) 176 Y6_nextToGo ∈ gT := gT_in 974 (by decide +kernel) rfl
theorem l_6_173 : Cond.methodLink (ownName 6) 173 Y6_bears ∈ gT := gT_in 978 (by decide +kernel) rfl
theorem l_6_179 : Cond.methodLink (ownName 6) 179 Y6_bursts ∈ gT := gT_in 982 (by decide +kernel) rfl
theorem l_6_164 : Cond.methodLink (ownName 6) 164 Y6_areNear ∈ gT := gT_in 986 (by decide +kernel) rfl
theorem l_6_161 : Cond.methodLink (ownName 6) 161 Y6_size ∈ gT := gT_in 990 (by decide +kernel) rfl
theorem l_6_167 : Cond.methodLink (ownName 6) 167 Y6_shocks ∈ gT := gT_in 993 (by decide +kernel) rfl
theorem l_6_127 : Cond.methodLink (ownName 6) 127 Y6_comesOf ∈ gT := gT_in 997 (by decide +kernel) rfl
theorem l_6_105 : Cond.methodLink (ownName 6) 105 Y6_isBottle ∈ gT := gT_in 1001 (by decide +kernel) rfl
theorem l_9_56 : Cond.methodLink (ownName 9) 56 Y6_back ∈ gT := gT_in 1005 (by decide +kernel) rfl
theorem l_9_182 : Cond.methodLink (ownName 9) 182 Y6_image ∈ gT := gT_in 1009 (by decide +kernel) rfl
theorem l_9_186 : Cond.methodLink (ownName 9) 186 Y6_restore ∈ gT := gT_in 1013 (by decide +kernel) rfl
theorem l_9_27 : Cond.methodLink (ownName 9) 27 Y6_bottleOf ∈ gT := gT_in 1017 (by decide +kernel) rfl
theorem l_9_31 : Cond.methodLink (ownName 9) 31 Y6_at ∈ gT := gT_in 1021 (by decide +kernel) rfl
theorem l_9_36 : Cond.methodLink (ownName 9) 36 Y6_bottle ∈ gT := gT_in 1025 (by decide +kernel) rfl
theorem l_9_40 : Cond.methodLink (ownName 9) 40 Y6_feeds ∈ gT := gT_in 1029 (by decide +kernel) rfl
theorem l_6_191 : Cond.methodLink (ownName 6) 191 Y6_keepsBack ∈ gT := gT_in 1033 (by decide +kernel) rfl
theorem l_9_44 : Cond.methodLink (ownName 9) 44 Y6_outs ∈ gT := gT_in 1037 (by decide +kernel) rfl
theorem l_6_194 : Cond.methodLink (ownName 6) 194 Y6_notWhole ∈ gT := gT_in 1041 (by decide +kernel) rfl
theorem l_9_48 : Cond.methodLink (ownName 9) 48 Y6_towels ∈ gT := gT_in 1045 (by decide +kernel) rfl
theorem l_9_52 : Cond.methodLink (ownName 9) 52 Y6_days ∈ gT := gT_in 1049 (by decide +kernel) rfl
theorem l_6_197 : Cond.methodLink (ownName 6) 197 Y6_whole ∈ gT := gT_in 1053 (by decide +kernel) rfl
theorem l_6_200 : Cond.methodLink (ownName 6) 200 Y6_bits ∈ gT := gT_in 1057 (by decide +kernel) rfl
theorem l_9_60 : Cond.methodLink (ownName 9) 60 Y6_pressIn ∈ gT := gT_in 1060 (by decide +kernel) rfl
theorem l_6_209 : Cond.methodLink (ownName 6) 209 Y6_notDays ∈ gT := gT_in 1064 (by decide +kernel) rfl
theorem l_6_212 : Cond.methodLink (ownName 6) 212 Y6_pressBehind ∈ gT := gT_in 1067 (by decide +kernel) rfl
theorem l_6_203 : Cond.methodLink (ownName 6) 203 Y6_thinks ∈ gT := gT_in 1071 (by decide +kernel) rfl
theorem l_6_206 : Cond.methodLink (ownName 6) 206 Y6_forgets ∈ gT := gT_in 1075 (by decide +kernel) rfl
theorem l_9_64 : Cond.methodLink (ownName 9) 64 Y6_then ∈ gT := gT_in 1079 (by decide +kernel) rfl
theorem l_6_216 : Cond.methodLink (ownName 6) 216 Y6_allPress ∈ gT := gT_in 1083 (by decide +kernel) rfl
theorem l_9_68 : Cond.methodLink (ownName 9) 68 Y6_goes ∈ gT := gT_in 1087 (by decide +kernel) rfl
theorem l_6_222 : Cond.methodLink (ownName 6) 222 Y6_firstToGo ∈ gT := gT_in 1091 (by decide +kernel) rfl
theorem l_6_219 : Cond.methodLink (ownName 6) 219 Y6_goesWhen ∈ gT := gT_in 1095 (by decide +kernel) rfl
theorem l_9_72 : Cond.methodLink (ownName 9) 72 Y6_quiet ∈ gT := gT_in 1099 (by decide +kernel) rfl
theorem l_9_76 : Cond.methodLink (ownName 9) 76 Y6_takes ∈ gT := gT_in 1103 (by decide +kernel) rfl
theorem l_6_225 : Cond.methodLink (ownName 6) 225 Y6_takenBy ∈ gT := gT_in 1107 (by decide +kernel) rfl
theorem l_9_80 : Cond.methodLink (ownName 9) 80 Y6_worst ∈ gT := gT_in 1111 (by decide +kernel) rfl
theorem l_9_84 : Cond.methodLink (ownName 9) 84 Y6_safe ∈ gT := gT_in 1115 (by decide +kernel) rfl
theorem l_6_228 : Cond.methodLink (ownName 6) 228 Y6_leftIn ∈ gT := gT_in 1119 (by decide +kernel) rfl
theorem l_9_88 : Cond.methodLink (ownName 9) 88 Y6_towel ∈ gT := gT_in 1123 (by decide +kernel) rfl
theorem l_9_92 : Cond.methodLink (ownName 9) 92 Y6_spoon ∈ gT := gT_in 1127 (by decide +kernel) rfl
theorem l_6_231 : Cond.methodLink (ownName 6) 231 Y6_leftFed ∈ gT := gT_in 1131 (by decide +kernel) rfl
theorem l_9_96 : Cond.methodLink (ownName 9) 96 Y6_out ∈ gT := gT_in 1135 (by decide +kernel) rfl
theorem l_9_100 : Cond.methodLink (ownName 9) 100 Y6_ready ∈ gT := gT_in 1139 (by decide +kernel) rfl
theorem l_6_234 : Cond.methodLink (ownName 6) 234 Y6_isReady ∈ gT := gT_in 1143 (by decide +kernel) rfl
theorem l_9_104 : Cond.methodLink (ownName 9) 104 Y6_feedFor ∈ gT := gT_in 1147 (by decide +kernel) rfl
theorem l_6_237 : Cond.methodLink (ownName 6) 237 Y6_isReadyFed ∈ gT := gT_in 1151 (by decide +kernel) rfl
theorem l_9_108 : Cond.methodLink (ownName 9) 108 Y6_move ∈ gT := gT_in 1155 (by decide +kernel) rfl
theorem l_6_240 : Cond.methodLink (ownName 6) 240 Y6_movesTwo ∈ gT := gT_in 1159 (by decide +kernel) rfl
theorem l_9_112 : Cond.methodLink (ownName 9) 112 Y6_halved ∈ gT := gT_in 1163 (by decide +kernel) rfl
theorem l_9_116 : Cond.methodLink (ownName 9) 116 Y6_whoWent ∈ gT := gT_in 1167 (by decide +kernel) rfl
theorem l_6_247 : Cond.methodLink (ownName 6) 247 Y6_isLeftSo ∈ gT := gT_in 1171 (by decide +kernel) rfl
theorem l_9_120 : Cond.methodLink (ownName 9) 120 Y6_whatKind ∈ gT := gT_in 1175 (by decide +kernel) rfl
theorem l_6_253 : Cond.methodLink (ownName 6) 253 Y6_bitsFor ∈ gT := gT_in 1179 (by decide +kernel) rfl
theorem l_6_250 : Cond.methodLink (ownName 6) 250 Y6_isPressedSo ∈ gT := gT_in 1183 (by decide +kernel) rfl
theorem l_9_124 : Cond.methodLink (ownName 9) 124 Y6_two ∈ gT := gT_in 1187 (by decide +kernel) rfl
theorem l_6_260 : Cond.methodLink (ownName 6) 260 Y6_findGets ∈ gT := gT_in 1191 (by decide +kernel) rfl
theorem l_6_257 : Cond.methodLink (ownName 6) 257 Y6_getsOf ∈ gT := gT_in 1195 (by decide +kernel) rfl
theorem l_9_129 : Cond.methodLink (ownName 9) 129 Y6_thunders ∈ gT := gT_in 1199 (by decide +kernel) rfl
theorem l_6_267 : Cond.methodLink (ownName 6) 267 Y6_lowestOf ∈ gT := gT_in 1203 (by decide +kernel) rfl
theorem l_6_271 : Cond.methodLink (ownName 6) 271 Y6_has ∈ gT := gT_in 1208 (by decide +kernel) rfl
theorem l_6_274 : Cond.methodLink (ownName 6) 274 Y6_partOf ∈ gT := gT_in 1211 (by decide +kernel) rfl
theorem l_6_263 : Cond.methodLink (ownName 6) 263 Y6_divisor ∈ gT := gT_in 1214 (by decide +kernel) rfl
theorem l_9_133 : Cond.methodLink (ownName 9) 133 Y6_shares ∈ gT := gT_in 1217 (by decide +kernel) rfl
theorem l_9_137 : Cond.methodLink (ownName 9) 137 Y6_tightest ∈ gT := gT_in 1221 (by decide +kernel) rfl
theorem l_6_278 : Cond.methodLink (ownName 6) 278 Y6_tightestOne ∈ gT := gT_in 1225 (by decide +kernel) rfl
theorem l_6_281 : Cond.methodLink (ownName 6) 281 Y6_longestGap ∈ gT := gT_in 1229 (by decide +kernel) rfl
theorem l_9_141 : Cond.methodLink (ownName 9) 141 Y6_near ∈ gT := gT_in 1233 (by decide +kernel) rfl
theorem l_9_146 : Cond.methodLink (ownName 9) 146 Y6_mean ∈ gT := gT_in 1237 (by decide +kernel) rfl
theorem l_9_150 : Cond.methodLink (ownName 9) 150 Y6_spare ∈ gT := gT_in 1241 (by decide +kernel) rfl
theorem l_9_154 : Cond.methodLink (ownName 9) 154 Y6_pairs ∈ gT := gT_in 1245 (by decide +kernel) rfl
theorem l_6_284 : Cond.methodLink (ownName 6) 284 Y6_nearTwos ∈ gT := gT_in 1249 (by decide +kernel) rfl
theorem l_6_287 : Cond.methodLink (ownName 6) 287 Y6_calmest ∈ gT := gT_in 1253 (by decide +kernel) rfl
theorem l_6_290 : Cond.methodLink (ownName 6) 290 Y6_endWhen ∈ gT := gT_in 1257 (by decide +kernel) rfl
theorem l_9_158 : Cond.methodLink (ownName 9) 158 Y6_eased ∈ gT := gT_in 1261 (by decide +kernel) rfl
theorem l_6_293 : Cond.methodLink (ownName 6) 293 Y6_lower ∈ gT := gT_in 1265 (by decide +kernel) rfl
theorem l_9_162 : Cond.methodLink (ownName 9) 162 Y6_officers ∈ gT := gT_in 1270 (by decide +kernel) rfl
theorem l_9_166 : Cond.methodLink (ownName 9) 166 Y6_row ∈ gT := gT_in 1274 (by decide +kernel) rfl
theorem l_9_170 : Cond.methodLink (ownName 9) 170 Y6_judge ∈ gT := gT_in 1278 (by decide +kernel) rfl
theorem l_9_174 : Cond.methodLink (ownName 9) 174 Y6_clear ∈ gT := gT_in 1282 (by decide +kernel) rfl
theorem l_9_178 : Cond.methodLink (ownName 9) 178 Y6_lots ∈ gT := gT_in 1286 (by decide +kernel) rfl
theorem l_6_302 : Cond.methodLink (ownName 6) 302 Y6_draw ∈ gT := gT_in 1290 (by decide +kernel) rfl
theorem l_9_190 : Cond.methodLink (ownName 9) 190 Y6_count ∈ gT := gT_in 1297 (by decide +kernel) rfl
end
section
/-! THE SHELF AS NUMBERS: n, kind, figure, place, press, whole, towel, sugar, heat, day -/
abbrev Sv : Type := Nat × (Nat → Nat) × (Nat → Nat) × (Nat → Nat) × (Nat → Nat) × (Nat → Bool) × (Nat → Bool) × Nat × Nat × Nat
abbrev Sn (S : Sv) : Nat := S.1
abbrev Sk (S : Sv) : Nat → Nat := S.2.1
abbrev Sf (S : Sv) : Nat → Nat := S.2.2.1
abbrev Sp (S : Sv) : Nat → Nat := S.2.2.2.1
abbrev Sq (S : Sv) : Nat → Nat := S.2.2.2.2.1
abbrev Sw (S : Sv) : Nat → Bool := S.2.2.2.2.2.1
abbrev Stw (S : Sv) : Nat → Bool := S.2.2.2.2.2.2.1
abbrev Su (S : Sv) : Nat := S.2.2.2.2.2.2.2.1
abbrev She (S : Sv) : Nat := S.2.2.2.2.2.2.2.2.1
abbrev Sd (S : Sv) : Nat := S.2.2.2.2.2.2.2.2.2
def fu {α : Type} (f : Nat → α) (k : Nat) (x : α) : Nat → α := fun j => if j = k then x else f j
theorem fu_eq {α : Type} (f : Nat → α) (k : Nat) (x : α) : fu f k x k = x := by simp [fu]
theorem fu_ne {α : Type} (f : Nat → α) {j k : Nat} (x : α) (h : j ≠ k) : fu f k x j = f j := by simp [fu, h]
def riseN (k fg su he : Nat) : Nat := match k with
  | 0 => su + he / 2
  | 1 => su + he / 2 - 1
  | 3 => su + he / 2 - 1 + fg / 3
  | 4 => if 0 < su then 1 else 0
  | 5 => 2 * (su + he / 2 - 1 + fg / 3)
  | _ => 0
def bearN (k fg : Nat) : Nat := match k with
  | 0 => 10 + fg
  | 1 => 2 * (10 + fg)
  | 3 => 2 * (10 + fg) - 5
  | 5 => 2 * (10 + fg) - 5 + fg
  | _ => 99
def shockN (k fg : Nat) : Nat := match k with
  | 0 => 6 | 1 => 10 | 3 => 20 | 4 => fg | 5 => 20 | _ => 0
def riseS (S : Sv) (i : Nat) : Nat := riseN (Sk S i) (Sf S i) (Su S) (She S)
def bearS (S : Sv) (i : Nat) : Nat := bearN (Sk S i) (Sf S i)
def shockS (S : Sv) (i : Nat) : Nat := shockN (Sk S i) (Sf S i)
def nearN (a b : Nat) : Bool := decide (a ≤ b + 2 ∧ b ≤ a + 2)
def withQ (S : Sv) (q : Nat → Nat) : Sv := (Sn S, Sk S, Sf S, Sp S, q, Sw S, Stw S, Su S, She S, Sd S)
def withW (S : Sv) (w : Nat → Bool) : Sv := (Sn S, Sk S, Sf S, Sp S, Sq S, w, Stw S, Su S, She S, Sd S)
def withT (S : Sv) (t : Nat → Bool) : Sv := (Sn S, Sk S, Sf S, Sp S, Sq S, Sw S, t, Su S, She S, Sd S)
def withP (S : Sv) (p : Nat → Nat) : Sv := (Sn S, Sk S, Sf S, p, Sq S, Sw S, Stw S, Su S, She S, Sd S)
def withK (S : Sv) (k f : Nat → Nat) : Sv := (Sn S, k, f, Sp S, Sq S, Sw S, Stw S, Su S, She S, Sd S)
def withU (S : Sv) (u h : Nat) : Sv := (Sn S, Sk S, Sf S, Sp S, Sq S, Sw S, Stw S, u, h, Sd S)
def withD (S : Sv) (d : Nat) : Sv := (Sn S, Sk S, Sf S, Sp S, Sq S, Sw S, Stw S, Su S, She S, d)
/-- the press behind one's going, of those ahead of i -/
def burstQ (S : Sv) (b i : Nat) : Nat → Nat := fun j => if j < i ∧ j ≠ b ∧ Sw S j = true ∧ Stw S j = false ∧ nearN (Sp S b) (Sp S j) = true then min 99 (Sq S j + shockS S b) else Sq S j
def burstS (S : Sv) (b : Nat) : Sv := withQ (withW S (fu (Sw S) b false)) (burstQ S b 8)
/-- the first that goes, from i on -/
def nextS (S : Sv) : Nat → Nat → Option Nat
  | 0, _ => none
  | k + 1, i => if Sw S i = true ∧ bearS S i < Sq S i then some i else nextS S k (i + 1)
def settleS : Nat → Sv → Sv
  | 0, S => S
  | k + 1, S => match nextS S 8 0 with
    | none => S
    | some i => settleS k (burstS S i)
def addQ (S : Sv) (i : Nat) : Nat → Nat := fun j => if j < i ∧ Sw S j = true then min 99 (Sq S j + riseS S j) else Sq S j
def dayS (S : Sv) : Sv := withD (settleS 8 (withQ S (addQ S 8))) (Sd S + 1)
def passS : Nat → Sv → Sv
  | 0, S => S
  | k + 1, S => passS k (dayS S)
/-- a shelf as it may be -/
def SOK (S : Sv) : Prop := Sn S ≤ 8 ∧ (∀ i, Sk S i ≤ 5 ∧ Sf S i ≤ 9 ∧ Sp S i ≤ 14 ∧ Sq S i ≤ 99) ∧ (∀ i, Sn S ≤ i → Sw S i = false ∧ Stw S i = false ∧ Sq S i = 0 ∧ Sk S i = 0 ∧ Sf S i = 0 ∧ Sp S i = 0) ∧ Su S ≤ 9 ∧ She S ≤ 9
/-! sets as bits -/
def b8 (f0 f1 f2 f3 f4 f5 f6 f7 : Bool) : Nat := (if f0 then 1 else 0) + (if f1 then 2 else 0) + (if f2 then 4 else 0) + (if f3 then 8 else 0) + (if f4 then 16 else 0) + (if f5 then 32 else 0) + (if f6 then 64 else 0) + (if f7 then 128 else 0)
def bN (f : Nat → Bool) : Nat := b8 (f 0) (f 1) (f 2) (f 3) (f 4) (f 5) (f 6) (f 7)
def bI (f : Nat → Bool) : Int32 := nI (bN f)
def c8 (f0 f1 f2 f3 f4 f5 f6 f7 : Bool) : Nat := (if f0 then 1 else 0) + (if f1 then 1 else 0) + (if f2 then 1 else 0) + (if f3 then 1 else 0) + (if f4 then 1 else 0) + (if f5 then 1 else 0) + (if f6 then 1 else 0) + (if f7 then 1 else 0)
def cN (f : Nat → Bool) : Nat := c8 (f 0) (f 1) (f 2) (f 3) (f 4) (f 5) (f 6) (f 7)
theorem bN_lt (f : Nat → Bool) : bN f < 256 := by
  unfold bN b8
  repeat' split
  all_goals omega
theorem cN_le (f : Nat → Bool) : cN f ≤ 8 := by
  unfold cN c8
  repeat' split
  all_goals omega
theorem lt8 {i : Nat} (h : i < 8) : i = 0 ∨ i = 1 ∨ i = 2 ∨ i = 3 ∨ i = 4 ∨ i = 5 ∨ i = 6 ∨ i = 7 := by omega
set_option maxRecDepth 100000 in
theorem b8_bit : ∀ f0 f1 f2 f3 f4 f5 f6 f7 : Bool, ((nI (b8 f0 f1 f2 f3 f4 f5 f6 f7) >>> (nI 0 &&& 31)) &&& 1 = if f0 then 1 else 0) ∧ ((nI (b8 f0 f1 f2 f3 f4 f5 f6 f7) >>> (nI 1 &&& 31)) &&& 1 = if f1 then 1 else 0) ∧ ((nI (b8 f0 f1 f2 f3 f4 f5 f6 f7) >>> (nI 2 &&& 31)) &&& 1 = if f2 then 1 else 0) ∧ ((nI (b8 f0 f1 f2 f3 f4 f5 f6 f7) >>> (nI 3 &&& 31)) &&& 1 = if f3 then 1 else 0) ∧ ((nI (b8 f0 f1 f2 f3 f4 f5 f6 f7) >>> (nI 4 &&& 31)) &&& 1 = if f4 then 1 else 0) ∧ ((nI (b8 f0 f1 f2 f3 f4 f5 f6 f7) >>> (nI 5 &&& 31)) &&& 1 = if f5 then 1 else 0) ∧ ((nI (b8 f0 f1 f2 f3 f4 f5 f6 f7) >>> (nI 6 &&& 31)) &&& 1 = if f6 then 1 else 0) ∧ ((nI (b8 f0 f1 f2 f3 f4 f5 f6 f7) >>> (nI 7 &&& 31)) &&& 1 = if f7 then 1 else 0) := by decide +kernel
theorem bI_bit (f : Nat → Bool) {i : Nat} (h : i < 8) : (bI f >>> (nI i &&& 31)) &&& 1 = if f i then 1 else 0 := by
  obtain ⟨h0, h1, h2, h3, h4, h5, h6, h7⟩ := b8_bit (f 0) (f 1) (f 2) (f 3) (f 4) (f 5) (f 6) (f 7)
  rcases lt8 h with rfl | rfl | rfl | rfl | rfl | rfl | rfl | rfl <;> assumption
set_option maxRecDepth 100000 in
theorem b8_clr : ∀ f0 f1 f2 f3 f4 f5 f6 f7 : Bool, (nI (b8 f0 f1 f2 f3 f4 f5 f6 f7) &&& ((1 <<< (nI 0 &&& 31)) ^^^ (-1)) = nI (b8 false f1 f2 f3 f4 f5 f6 f7)) ∧ (nI (b8 f0 f1 f2 f3 f4 f5 f6 f7) &&& ((1 <<< (nI 1 &&& 31)) ^^^ (-1)) = nI (b8 f0 false f2 f3 f4 f5 f6 f7)) ∧ (nI (b8 f0 f1 f2 f3 f4 f5 f6 f7) &&& ((1 <<< (nI 2 &&& 31)) ^^^ (-1)) = nI (b8 f0 f1 false f3 f4 f5 f6 f7)) ∧ (nI (b8 f0 f1 f2 f3 f4 f5 f6 f7) &&& ((1 <<< (nI 3 &&& 31)) ^^^ (-1)) = nI (b8 f0 f1 f2 false f4 f5 f6 f7)) ∧ (nI (b8 f0 f1 f2 f3 f4 f5 f6 f7) &&& ((1 <<< (nI 4 &&& 31)) ^^^ (-1)) = nI (b8 f0 f1 f2 f3 false f5 f6 f7)) ∧ (nI (b8 f0 f1 f2 f3 f4 f5 f6 f7) &&& ((1 <<< (nI 5 &&& 31)) ^^^ (-1)) = nI (b8 f0 f1 f2 f3 f4 false f6 f7)) ∧ (nI (b8 f0 f1 f2 f3 f4 f5 f6 f7) &&& ((1 <<< (nI 6 &&& 31)) ^^^ (-1)) = nI (b8 f0 f1 f2 f3 f4 f5 false f7)) ∧ (nI (b8 f0 f1 f2 f3 f4 f5 f6 f7) &&& ((1 <<< (nI 7 &&& 31)) ^^^ (-1)) = nI (b8 f0 f1 f2 f3 f4 f5 f6 false)) := by decide +kernel
theorem bI_clr (f : Nat → Bool) {i : Nat} (h : i < 8) : bI f &&& ((1 <<< (nI i &&& 31)) ^^^ (-1)) = bI (fu f i false) := by
  obtain ⟨h0, h1, h2, h3, h4, h5, h6, h7⟩ := b8_clr (f 0) (f 1) (f 2) (f 3) (f 4) (f 5) (f 6) (f 7)
  rcases lt8 h with rfl | rfl | rfl | rfl | rfl | rfl | rfl | rfl <;> simpa [bI, bN, fu]
set_option maxRecDepth 100000 in
theorem b8_set : ∀ f0 f1 f2 f3 f4 f5 f6 f7 : Bool, (nI (b8 f0 f1 f2 f3 f4 f5 f6 f7) ||| (1 <<< (nI 0 &&& 31)) = nI (b8 true f1 f2 f3 f4 f5 f6 f7)) ∧ (nI (b8 f0 f1 f2 f3 f4 f5 f6 f7) ||| (1 <<< (nI 1 &&& 31)) = nI (b8 f0 true f2 f3 f4 f5 f6 f7)) ∧ (nI (b8 f0 f1 f2 f3 f4 f5 f6 f7) ||| (1 <<< (nI 2 &&& 31)) = nI (b8 f0 f1 true f3 f4 f5 f6 f7)) ∧ (nI (b8 f0 f1 f2 f3 f4 f5 f6 f7) ||| (1 <<< (nI 3 &&& 31)) = nI (b8 f0 f1 f2 true f4 f5 f6 f7)) ∧ (nI (b8 f0 f1 f2 f3 f4 f5 f6 f7) ||| (1 <<< (nI 4 &&& 31)) = nI (b8 f0 f1 f2 f3 true f5 f6 f7)) ∧ (nI (b8 f0 f1 f2 f3 f4 f5 f6 f7) ||| (1 <<< (nI 5 &&& 31)) = nI (b8 f0 f1 f2 f3 f4 true f6 f7)) ∧ (nI (b8 f0 f1 f2 f3 f4 f5 f6 f7) ||| (1 <<< (nI 6 &&& 31)) = nI (b8 f0 f1 f2 f3 f4 f5 true f7)) ∧ (nI (b8 f0 f1 f2 f3 f4 f5 f6 f7) ||| (1 <<< (nI 7 &&& 31)) = nI (b8 f0 f1 f2 f3 f4 f5 f6 true)) := by decide +kernel
theorem bI_set (f : Nat → Bool) {i : Nat} (h : i < 8) : bI f ||| (1 <<< (nI i &&& 31)) = bI (fu f i true) := by
  obtain ⟨h0, h1, h2, h3, h4, h5, h6, h7⟩ := b8_set (f 0) (f 1) (f 2) (f 3) (f 4) (f 5) (f 6) (f 7)
  rcases lt8 h with rfl | rfl | rfl | rfl | rfl | rfl | rfl | rfl <;> simpa [bI, bN, fu]
set_option maxRecDepth 100000 in
theorem b8_xor : ∀ f0 f1 f2 f3 f4 f5 f6 f7 : Bool, (nI (b8 f0 f1 f2 f3 f4 f5 f6 f7) ^^^ (1 <<< (nI 0 &&& 31)) = nI (b8 (!f0) f1 f2 f3 f4 f5 f6 f7)) ∧ (nI (b8 f0 f1 f2 f3 f4 f5 f6 f7) ^^^ (1 <<< (nI 1 &&& 31)) = nI (b8 f0 (!f1) f2 f3 f4 f5 f6 f7)) ∧ (nI (b8 f0 f1 f2 f3 f4 f5 f6 f7) ^^^ (1 <<< (nI 2 &&& 31)) = nI (b8 f0 f1 (!f2) f3 f4 f5 f6 f7)) ∧ (nI (b8 f0 f1 f2 f3 f4 f5 f6 f7) ^^^ (1 <<< (nI 3 &&& 31)) = nI (b8 f0 f1 f2 (!f3) f4 f5 f6 f7)) ∧ (nI (b8 f0 f1 f2 f3 f4 f5 f6 f7) ^^^ (1 <<< (nI 4 &&& 31)) = nI (b8 f0 f1 f2 f3 (!f4) f5 f6 f7)) ∧ (nI (b8 f0 f1 f2 f3 f4 f5 f6 f7) ^^^ (1 <<< (nI 5 &&& 31)) = nI (b8 f0 f1 f2 f3 f4 (!f5) f6 f7)) ∧ (nI (b8 f0 f1 f2 f3 f4 f5 f6 f7) ^^^ (1 <<< (nI 6 &&& 31)) = nI (b8 f0 f1 f2 f3 f4 f5 (!f6) f7)) ∧ (nI (b8 f0 f1 f2 f3 f4 f5 f6 f7) ^^^ (1 <<< (nI 7 &&& 31)) = nI (b8 f0 f1 f2 f3 f4 f5 f6 (!f7))) := by decide +kernel
theorem bI_xor (f : Nat → Bool) {i : Nat} (h : i < 8) : bI f ^^^ (1 <<< (nI i &&& 31)) = bI (fu f i (!(f i))) := by
  obtain ⟨h0, h1, h2, h3, h4, h5, h6, h7⟩ := b8_xor (f 0) (f 1) (f 2) (f 3) (f 4) (f 5) (f 6) (f 7)
  rcases lt8 h with rfl | rfl | rfl | rfl | rfl | rfl | rfl | rfl <;> simpa [bI, bN, fu]
theorem bI_inj {f g : Nat → Bool} (h : bI f = bI g) {i : Nat} (hi : i < 8) : f i = g i := by
  have h1 := bI_bit f hi
  have h2 := bI_bit g hi
  rw [h, h2] at h1
  cases hf : f i <;> cases hg : g i <;> simp [hf, hg] at h1 <;> rfl
theorem bI_congr {f g : Nat → Bool} (h : ∀ i, i < 8 → f i = g i) : bI f = bI g := by
  simp [bI, bN, h 0, h 1, h 2, h 3, h 4, h 5, h 6, h 7]
theorem cN_congr {f g : Nat → Bool} (h : ∀ i, i < 8 → f i = g i) : cN f = cN g := by
  simp [cN, h 0, h 1, h 2, h 3, h 4, h 5, h 6, h 7]
/-- Integer.bitCount's own numbers -/
def bcV (x : Int32) : Int32 :=
  let us (x y : Int32) : Int32 := (x.toUInt32 >>> (y.toUInt32 &&& Int32.toUInt32 31)).toInt32
  let a := x - (us x 1 &&& 1431655765)
  let b := (a &&& 858993459) + (us a 2 &&& 858993459)
  let c := (b + us b 4) &&& 252645135
  let d := c + us c 8
  let e := d + us d 16
  e &&& 63
set_option maxRecDepth 100000 in
theorem b8_cnt : ∀ f0 f1 f2 f3 f4 f5 f6 f7 : Bool, bcV (nI (b8 f0 f1 f2 f3 f4 f5 f6 f7)) = nI (c8 f0 f1 f2 f3 f4 f5 f6 f7) := by decide +kernel
theorem bcV_bI (f : Nat → Bool) : bcV (bI f) = nI (cN f) := b8_cnt _ _ _ _ _ _ _ _
end
section
/-! POSTS BY THE KIND OF ANSWER; CALLS AND RETURNS BY THEM; LOOPS -/
def PI (R : Int32 → St → Prop) : Option AV → St → Prop := fun r σ => ∃ v, r = some (.inl v) ∧ R v σ
def PL (R : Int64 → St → Prop) : Option AV → St → Prop := fun r σ => ∃ v, r = some (.inr (.inl v)) ∧ R v σ
def PR (R : AR → St → Prop) : Option AV → St → Prop := fun r σ => ∃ v, r = some (.inr (.inr v)) ∧ R v σ
def PV (R : St → Prop) : Option AV → St → Prop := fun r σ => r = none ∧ R σ
theorem AW.callVI {M M' : MethT} {n d d' : Nat} {Q : Option AV → St → Prop} {pc idx c i : Nat} {ls : List (Nat × AV)} {st : List AV} (As rest : List AV) {σ : St} {R : Int32 → St → Prop} (hlk : ∃ e, lkc (mC M) pc = some (.invokevirtual idx, e)) (hM : MF M' n) (hV : MV M') (hlink : Cond.methodLink (ownName (mO M)) idx (mY M') ∈ gT) (hcl : (mY M').cls = (gCl.getD c (RX1, TX1, 3)).1 ∧ c < 6) (hn : As.length = n) (hd : d' + 1 ≤ d) (hst : st = As.reverse ++ .inr (.inr (c, i, 0)) :: rest) (hrest : avLen rest ≤ 8) (hCt : Ct M' d' (.inr (.inr (c, i, 0)) :: As) σ (PI R)) (k : ∀ v σ1, R v σ1 → AW M d Q (pc + 3, ls, .inl v :: rest, σ1)) : AW M d Q (pc, ls, st, σ) :=
  AW.callV hlk hM hV hlink hcl hn hd hst hrest hCt (fun r σ1 h => by obtain ⟨v, rfl, h2⟩ := h; exact k v σ1 h2)
theorem AW.callSI {M M' : MethT} {n d d' : Nat} {Q : Option AV → St → Prop} {pc idx : Nat} {ls : List (Nat × AV)} {st : List AV} (As rest : List AV) {σ : St} {R : Int32 → St → Prop} (hlk : ∃ e, lkc (mC M) pc = some (.invokestatic idx, e)) (hM : MF M' n) (hV : MS M') (hlink : Cond.methodLink (ownName (mO M)) idx (mY M') ∈ gT) (hn : As.length = n) (hd : d' + 1 ≤ d) (hst : st = As.reverse ++ rest) (hrest : avLen rest ≤ 8) (hCt : Ct M' d' As σ (PI R)) (k : ∀ v σ1, R v σ1 → AW M d Q (pc + 3, ls, .inl v :: rest, σ1)) : AW M d Q (pc, ls, st, σ) :=
  AW.callS hlk hM hV hlink hn hd hst hrest hCt (fun r σ1 h => by obtain ⟨v, rfl, h2⟩ := h; exact k v σ1 h2)
theorem AW.callVL {M M' : MethT} {n d d' : Nat} {Q : Option AV → St → Prop} {pc idx c i : Nat} {ls : List (Nat × AV)} {st : List AV} (As rest : List AV) {σ : St} {R : Int64 → St → Prop} (hlk : ∃ e, lkc (mC M) pc = some (.invokevirtual idx, e)) (hM : MF M' n) (hV : MV M') (hlink : Cond.methodLink (ownName (mO M)) idx (mY M') ∈ gT) (hcl : (mY M').cls = (gCl.getD c (RX1, TX1, 3)).1 ∧ c < 6) (hn : As.length = n) (hd : d' + 1 ≤ d) (hst : st = As.reverse ++ .inr (.inr (c, i, 0)) :: rest) (hrest : avLen rest ≤ 8) (hCt : Ct M' d' (.inr (.inr (c, i, 0)) :: As) σ (PL R)) (k : ∀ v σ1, R v σ1 → AW M d Q (pc + 3, ls, .inr (.inl v) :: rest, σ1)) : AW M d Q (pc, ls, st, σ) :=
  AW.callV hlk hM hV hlink hcl hn hd hst hrest hCt (fun r σ1 h => by obtain ⟨v, rfl, h2⟩ := h; exact k v σ1 h2)
theorem AW.callSL {M M' : MethT} {n d d' : Nat} {Q : Option AV → St → Prop} {pc idx : Nat} {ls : List (Nat × AV)} {st : List AV} (As rest : List AV) {σ : St} {R : Int64 → St → Prop} (hlk : ∃ e, lkc (mC M) pc = some (.invokestatic idx, e)) (hM : MF M' n) (hV : MS M') (hlink : Cond.methodLink (ownName (mO M)) idx (mY M') ∈ gT) (hn : As.length = n) (hd : d' + 1 ≤ d) (hst : st = As.reverse ++ rest) (hrest : avLen rest ≤ 8) (hCt : Ct M' d' As σ (PL R)) (k : ∀ v σ1, R v σ1 → AW M d Q (pc + 3, ls, .inr (.inl v) :: rest, σ1)) : AW M d Q (pc, ls, st, σ) :=
  AW.callS hlk hM hV hlink hn hd hst hrest hCt (fun r σ1 h => by obtain ⟨v, rfl, h2⟩ := h; exact k v σ1 h2)
theorem AW.callVR {M M' : MethT} {n d d' : Nat} {Q : Option AV → St → Prop} {pc idx c i : Nat} {ls : List (Nat × AV)} {st : List AV} (As rest : List AV) {σ : St} {R : AR → St → Prop} (hlk : ∃ e, lkc (mC M) pc = some (.invokevirtual idx, e)) (hM : MF M' n) (hV : MV M') (hlink : Cond.methodLink (ownName (mO M)) idx (mY M') ∈ gT) (hcl : (mY M').cls = (gCl.getD c (RX1, TX1, 3)).1 ∧ c < 6) (hn : As.length = n) (hd : d' + 1 ≤ d) (hst : st = As.reverse ++ .inr (.inr (c, i, 0)) :: rest) (hrest : avLen rest ≤ 8) (hCt : Ct M' d' (.inr (.inr (c, i, 0)) :: As) σ (PR R)) (k : ∀ v σ1, R v σ1 → AW M d Q (pc + 3, ls, .inr (.inr v) :: rest, σ1)) : AW M d Q (pc, ls, st, σ) :=
  AW.callV hlk hM hV hlink hcl hn hd hst hrest hCt (fun r σ1 h => by obtain ⟨v, rfl, h2⟩ := h; exact k v σ1 h2)
theorem AW.callSR {M M' : MethT} {n d d' : Nat} {Q : Option AV → St → Prop} {pc idx : Nat} {ls : List (Nat × AV)} {st : List AV} (As rest : List AV) {σ : St} {R : AR → St → Prop} (hlk : ∃ e, lkc (mC M) pc = some (.invokestatic idx, e)) (hM : MF M' n) (hV : MS M') (hlink : Cond.methodLink (ownName (mO M)) idx (mY M') ∈ gT) (hn : As.length = n) (hd : d' + 1 ≤ d) (hst : st = As.reverse ++ rest) (hrest : avLen rest ≤ 8) (hCt : Ct M' d' As σ (PR R)) (k : ∀ v σ1, R v σ1 → AW M d Q (pc + 3, ls, .inr (.inr v) :: rest, σ1)) : AW M d Q (pc, ls, st, σ) :=
  AW.callS hlk hM hV hlink hn hd hst hrest hCt (fun r σ1 h => by obtain ⟨v, rfl, h2⟩ := h; exact k v σ1 h2)
theorem AW.callVV {M M' : MethT} {n d d' : Nat} {Q : Option AV → St → Prop} {pc idx c i : Nat} {ls : List (Nat × AV)} {st : List AV} (As rest : List AV) {σ : St} {R : St → Prop} (hlk : ∃ e, lkc (mC M) pc = some (.invokevirtual idx, e)) (hM : MF M' n) (hV : MV M') (hlink : Cond.methodLink (ownName (mO M)) idx (mY M') ∈ gT) (hcl : (mY M').cls = (gCl.getD c (RX1, TX1, 3)).1 ∧ c < 6) (hn : As.length = n) (hd : d' + 1 ≤ d) (hst : st = As.reverse ++ .inr (.inr (c, i, 0)) :: rest) (hrest : avLen rest ≤ 8) (hCt : Ct M' d' (.inr (.inr (c, i, 0)) :: As) σ (PV R)) (k : ∀ σ1, R σ1 → AW M d Q (pc + 3, ls, rest, σ1)) : AW M d Q (pc, ls, st, σ) :=
  AW.callV hlk hM hV hlink hcl hn hd hst hrest hCt (fun r σ1 h => by obtain ⟨rfl, h2⟩ := h; exact k σ1 h2)
theorem AW.callSV {M M' : MethT} {n d d' : Nat} {Q : Option AV → St → Prop} {pc idx : Nat} {ls : List (Nat × AV)} {st : List AV} (As rest : List AV) {σ : St} {R : St → Prop} (hlk : ∃ e, lkc (mC M) pc = some (.invokestatic idx, e)) (hM : MF M' n) (hV : MS M') (hlink : Cond.methodLink (ownName (mO M)) idx (mY M') ∈ gT) (hn : As.length = n) (hd : d' + 1 ≤ d) (hst : st = As.reverse ++ rest) (hrest : avLen rest ≤ 8) (hCt : Ct M' d' As σ (PV R)) (k : ∀ σ1, R σ1 → AW M d Q (pc + 3, ls, rest, σ1)) : AW M d Q (pc, ls, st, σ) :=
  AW.callS hlk hM hV hlink hn hd hst hrest hCt (fun r σ1 h => by obtain ⟨rfl, h2⟩ := h; exact k σ1 h2)
theorem AW.reti {M : MethT} {d pc : Nat} {R : Int32 → St → Prop} {ls : List (Nat × AV)} {x : Int32} {σ : St} (hlk : ∃ e, lkc (mC M) pc = some (.ireturn, e)) (hr : mR M = some .int) (hQ : R x σ) : AW M d (PI R) (pc, ls, [.inl x], σ) := AW.ret (r := some (.inl x)) ⟨hlk, Or.inl hr⟩ ⟨x, rfl, hQ⟩
theorem AW.retz {M : MethT} {d pc : Nat} {R : Int32 → St → Prop} {ls : List (Nat × AV)} {x : Int32} {σ : St} (hlk : ∃ e, lkc (mC M) pc = some (.ireturn, e)) (hr : mR M = some .boolean) (hx : x = 0 ∨ x = 1) (hQ : R x σ) : AW M d (PI R) (pc, ls, [.inl x], σ) := AW.ret (r := some (.inl x)) ⟨hlk, Or.inr ⟨hr, hx⟩⟩ ⟨x, rfl, hQ⟩
theorem AW.retl {M : MethT} {d pc : Nat} {R : Int64 → St → Prop} {ls : List (Nat × AV)} {x : Int64} {σ : St} (hlk : ∃ e, lkc (mC M) pc = some (.lreturn, e)) (hr : mR M = some .long) (hQ : R x σ) : AW M d (PL R) (pc, ls, [.inr (.inl x)], σ) := AW.ret (r := some (.inr (.inl x))) ⟨hlk, hr⟩ ⟨x, rfl, hQ⟩
theorem AW.reta {M : MethT} {d pc : Nat} {R : AR → St → Prop} {ls : List (Nat × AV)} {x : AR} {σ : St} (hlk : ∃ e, lkc (mC M) pc = some (.areturn, e)) (hr : mR M = some (.object "GingerArmy$Shelf")) (hQ : R x σ) : AW M d (PR R) (pc, ls, [.inr (.inr x)], σ) := AW.ret (r := some (.inr (.inr x))) ⟨hlk, hr⟩ ⟨x, rfl, hQ⟩
theorem AW.retv {M : MethT} {d pc : Nat} {R : St → Prop} {ls : List (Nat × AV)} {σ : St} (hlk : ∃ e, lkc (mC M) pc = some (.return_, e)) (hr : mR M = none) (hQ : R σ) : AW M d (PV R) (pc, ls, [], σ) := AW.ret (r := none) ⟨hlk, hr⟩ ⟨rfl, hQ⟩
/-- a counted loop: an invariant at its head -/
theorem AW.loop {M : MethT} {d : Nat} {Q : Option AV → St → Prop} {α : Type} (head b : Nat) (LS : Nat → α → List (Nat × AV)) (I : Nat → α → St → Prop)
    (hstep : ∀ i a σ, i < b → I i a σ → (∀ a' σ', I (i + 1) a' σ' → AW M d Q (head, LS (i + 1) a', [], σ')) → AW M d Q (head, LS i a, [], σ))
    (hexit : ∀ a σ, I b a σ → AW M d Q (head, LS b a, [], σ)) : ∀ (k i : Nat) (a : α) (σ : St), i + k = b → I i a σ → AW M d Q (head, LS i a, [], σ)
  | 0, i, a, σ, h, hI => by
    have : i = b := by omega
    subst this
    exact hexit a σ hI
  | k + 1, i, a, σ, h, hI => hstep i a σ (by omega) hI (fun a' σ' h' => AW.loop head b LS I hstep hexit k (i + 1) a' σ' (by omega) h')
theorem allP1 {q : Prop} (h : q) : allP [q] := h
theorem AW.eq {M : MethT} {d : Nat} {Q : Option AV → St → Prop} {c c' : Cfg} (h : c = c') (k : AW M d Q c') : AW M d Q c := h ▸ k
end
section
/-! THE CLASS'S SHELF BY ITS NUMBERS -/
theorem nI_lit {k n : Nat} (h : nI k = nI n) (hk : k < 2 ^ 31) (hn : n < 2 ^ 31) : k = n := (nI_eq hk hn).mp h
def RepS (sh : Nat → Nat → Int32) (S : Sv) : Prop :=
  (sh 0 7 = nI (Sn S) ∧ sh 0 8 = bI (Sw S) ∧ sh 0 9 = bI (Stw S) ∧ sh 0 10 = nI (Su S) ∧ sh 0 11 = nI (She S) ∧ sh 0 12 = nI (Sd S)) ∧ (∀ i, i < 8 → sh 1 i = nI (Sk S i) ∧ sh 2 i = nI (Sf S i) ∧ sh 3 i = nI (Sp S i) ∧ sh 4 i = nI (Sq S i)) ∧ (∀ i, i < Sn S → sh 5 i = nI (riseS S i) ∧ sh 6 i = nI (bearS S i) ∧ sh 7 i = nI (shockS S i))
/-- nothing but the object (c, a) has changed -/
def Only (c a : Nat) (σ σ' : St) : Prop := ∀ c' i', ¬ (c' = c ∧ i' = a) → σ' c' i' = σ c' i'
theorem only_rfl {c a : Nat} {σ : St} : Only c a σ σ := fun _ _ _ => rfl
theorem only_trans {c a : Nat} {σ σ1 σ2 : St} (h : Only c a σ σ1) (h2 : Only c a σ1 σ2) : Only c a σ σ2 := fun c' i' hn => (h2 c' i' hn).trans (h c' i' hn)
theorem only_set {c a j k : Nat} {v : Int32} {σ : St} : Only c a σ (setM σ c a j k v) := by
  intro c' i' hn
  funext j' k'
  simp only [setM]
  rw [if_neg]
  rintro ⟨h1, h2, -⟩
  exact hn ⟨h1, h2⟩
theorem setM_at (σ : St) (c i j k : Nat) (v : Int32) (j' k' : Nat) : setM σ c i j k v c i j' k' = if j' = j ∧ k' = k then v else σ c i j' k' := by
  simp [setM]
theorem cl31 {k : Nat} (h : k < 2 ^ 31) : (nI k).toNatClampNeg = k := nI_clamp h
theorem cl8 {k : Nat} (h : k < 8) : (nI k).toNatClampNeg = k := nI_clamp (by omega)
theorem in8 {k : Nat} (h : k < 8) : vp_in (nI k) 8 := vp_in_nI h (by decide)
theorem nlt0 {k : Nat} (h : k < 2 ^ 31) : ¬ nI k < 0 := nI_pos h
theorem le_lit {a b : Nat} (h : a ≤ b) (hb : b < 2 ^ 31) : nI a ≤ nI b := nI_le h hb
theorem nle_lit {a b : Nat} (h : b < a) (hb : a < 2 ^ 31) : ¬ nI a ≤ nI b := nI_ge h hb
theorem bit_ne {b : Bool} : ((if b then 1 else 0 : Int32) = 0) ↔ b = false := by cases b <;> decide
/-- which bottle an int names -/
theorem bot_or (n : Nat) (x : Int32) : (∃ k, k < n ∧ x = nI k) ∨ ∀ k, k < n → x ≠ nI k := by
  by_cases h : ∃ k, k < n ∧ x = nI k
  · exact Or.inl h
  · exact Or.inr fun k hk he => h ⟨k, hk, he⟩
theorem bot_out {n : Nat} {x : Int32} (hn : n < 2 ^ 31) (h : ∀ k, k < n → x ≠ nI k) (h0 : ¬ x < 0) : nI n ≤ x := by
  obtain ⟨j, hj, rfl⟩ := nI_of h0
  by_cases hlt : j < n
  · exact absurd rfl (h j hlt)
  · exact nI_le (by omega) hj

set_option maxHeartbeats 4000000 in
set_option maxRecDepth 100000 in
theorem cJ_bitCount (x : Int32) (σ : St) : Ct MJ_bitCount 0 [.inl x] σ (PI fun v σ' => bcV x = v ∧ σ = σ') := by
  refine Ct.of f_J_bitCount (Nat.le_of_ble_eq_true rfl) ?_
  show AW MJ_bitCount 0 _ (0, [(0, .inl x)], [], σ)
  refine AW.run 41 [] (52, [(0, .inl (((((((x - (((Int32.toUInt32 x >>> (Int32.toUInt32 1 &&& Int32.toUInt32 31)).toInt32) &&& 1431655765)) &&& 858993459) + (((Int32.toUInt32 (x - (((Int32.toUInt32 x >>> (Int32.toUInt32 1 &&& Int32.toUInt32 31)).toInt32) &&& 1431655765)) >>> (Int32.toUInt32 2 &&& Int32.toUInt32 31)).toInt32) &&& 858993459)) + ((Int32.toUInt32 (((x - (((Int32.toUInt32 x >>> (Int32.toUInt32 1 &&& Int32.toUInt32 31)).toInt32) &&& 1431655765)) &&& 858993459) + (((Int32.toUInt32 (x - (((Int32.toUInt32 x >>> (Int32.toUInt32 1 &&& Int32.toUInt32 31)).toInt32) &&& 1431655765)) >>> (Int32.toUInt32 2 &&& Int32.toUInt32 31)).toInt32) &&& 858993459)) >>> (Int32.toUInt32 4 &&& Int32.toUInt32 31)).toInt32)) &&& 252645135) + ((Int32.toUInt32 (((((x - (((Int32.toUInt32 x >>> (Int32.toUInt32 1 &&& Int32.toUInt32 31)).toInt32) &&& 1431655765)) &&& 858993459) + (((Int32.toUInt32 (x - (((Int32.toUInt32 x >>> (Int32.toUInt32 1 &&& Int32.toUInt32 31)).toInt32) &&& 1431655765)) >>> (Int32.toUInt32 2 &&& Int32.toUInt32 31)).toInt32) &&& 858993459)) + ((Int32.toUInt32 (((x - (((Int32.toUInt32 x >>> (Int32.toUInt32 1 &&& Int32.toUInt32 31)).toInt32) &&& 1431655765)) &&& 858993459) + (((Int32.toUInt32 (x - (((Int32.toUInt32 x >>> (Int32.toUInt32 1 &&& Int32.toUInt32 31)).toInt32) &&& 1431655765)) >>> (Int32.toUInt32 2 &&& Int32.toUInt32 31)).toInt32) &&& 858993459)) >>> (Int32.toUInt32 4 &&& Int32.toUInt32 31)).toInt32)) &&& 252645135) >>> (Int32.toUInt32 8 &&& Int32.toUInt32 31)).toInt32)) + ((Int32.toUInt32 ((((((x - (((Int32.toUInt32 x >>> (Int32.toUInt32 1 &&& Int32.toUInt32 31)).toInt32) &&& 1431655765)) &&& 858993459) + (((Int32.toUInt32 (x - (((Int32.toUInt32 x >>> (Int32.toUInt32 1 &&& Int32.toUInt32 31)).toInt32) &&& 1431655765)) >>> (Int32.toUInt32 2 &&& Int32.toUInt32 31)).toInt32) &&& 858993459)) + ((Int32.toUInt32 (((x - (((Int32.toUInt32 x >>> (Int32.toUInt32 1 &&& Int32.toUInt32 31)).toInt32) &&& 1431655765)) &&& 858993459) + (((Int32.toUInt32 (x - (((Int32.toUInt32 x >>> (Int32.toUInt32 1 &&& Int32.toUInt32 31)).toInt32) &&& 1431655765)) >>> (Int32.toUInt32 2 &&& Int32.toUInt32 31)).toInt32) &&& 858993459)) >>> (Int32.toUInt32 4 &&& Int32.toUInt32 31)).toInt32)) &&& 252645135) + ((Int32.toUInt32 (((((x - (((Int32.toUInt32 x >>> (Int32.toUInt32 1 &&& Int32.toUInt32 31)).toInt32) &&& 1431655765)) &&& 858993459) + (((Int32.toUInt32 (x - (((Int32.toUInt32 x >>> (Int32.toUInt32 1 &&& Int32.toUInt32 31)).toInt32) &&& 1431655765)) >>> (Int32.toUInt32 2 &&& Int32.toUInt32 31)).toInt32) &&& 858993459)) + ((Int32.toUInt32 (((x - (((Int32.toUInt32 x >>> (Int32.toUInt32 1 &&& Int32.toUInt32 31)).toInt32) &&& 1431655765)) &&& 858993459) + (((Int32.toUInt32 (x - (((Int32.toUInt32 x >>> (Int32.toUInt32 1 &&& Int32.toUInt32 31)).toInt32) &&& 1431655765)) >>> (Int32.toUInt32 2 &&& Int32.toUInt32 31)).toInt32) &&& 858993459)) >>> (Int32.toUInt32 4 &&& Int32.toUInt32 31)).toInt32)) &&& 252645135) >>> (Int32.toUInt32 8 &&& Int32.toUInt32 31)).toInt32)) >>> (Int32.toUInt32 16 &&& Int32.toUInt32 31)).toInt32)))], [.inl ((((((((x - (((Int32.toUInt32 x >>> (Int32.toUInt32 1 &&& Int32.toUInt32 31)).toInt32) &&& 1431655765)) &&& 858993459) + (((Int32.toUInt32 (x - (((Int32.toUInt32 x >>> (Int32.toUInt32 1 &&& Int32.toUInt32 31)).toInt32) &&& 1431655765)) >>> (Int32.toUInt32 2 &&& Int32.toUInt32 31)).toInt32) &&& 858993459)) + ((Int32.toUInt32 (((x - (((Int32.toUInt32 x >>> (Int32.toUInt32 1 &&& Int32.toUInt32 31)).toInt32) &&& 1431655765)) &&& 858993459) + (((Int32.toUInt32 (x - (((Int32.toUInt32 x >>> (Int32.toUInt32 1 &&& Int32.toUInt32 31)).toInt32) &&& 1431655765)) >>> (Int32.toUInt32 2 &&& Int32.toUInt32 31)).toInt32) &&& 858993459)) >>> (Int32.toUInt32 4 &&& Int32.toUInt32 31)).toInt32)) &&& 252645135) + ((Int32.toUInt32 (((((x - (((Int32.toUInt32 x >>> (Int32.toUInt32 1 &&& Int32.toUInt32 31)).toInt32) &&& 1431655765)) &&& 858993459) + (((Int32.toUInt32 (x - (((Int32.toUInt32 x >>> (Int32.toUInt32 1 &&& Int32.toUInt32 31)).toInt32) &&& 1431655765)) >>> (Int32.toUInt32 2 &&& Int32.toUInt32 31)).toInt32) &&& 858993459)) + ((Int32.toUInt32 (((x - (((Int32.toUInt32 x >>> (Int32.toUInt32 1 &&& Int32.toUInt32 31)).toInt32) &&& 1431655765)) &&& 858993459) + (((Int32.toUInt32 (x - (((Int32.toUInt32 x >>> (Int32.toUInt32 1 &&& Int32.toUInt32 31)).toInt32) &&& 1431655765)) >>> (Int32.toUInt32 2 &&& Int32.toUInt32 31)).toInt32) &&& 858993459)) >>> (Int32.toUInt32 4 &&& Int32.toUInt32 31)).toInt32)) &&& 252645135) >>> (Int32.toUInt32 8 &&& Int32.toUInt32 31)).toInt32)) + ((Int32.toUInt32 ((((((x - (((Int32.toUInt32 x >>> (Int32.toUInt32 1 &&& Int32.toUInt32 31)).toInt32) &&& 1431655765)) &&& 858993459) + (((Int32.toUInt32 (x - (((Int32.toUInt32 x >>> (Int32.toUInt32 1 &&& Int32.toUInt32 31)).toInt32) &&& 1431655765)) >>> (Int32.toUInt32 2 &&& Int32.toUInt32 31)).toInt32) &&& 858993459)) + ((Int32.toUInt32 (((x - (((Int32.toUInt32 x >>> (Int32.toUInt32 1 &&& Int32.toUInt32 31)).toInt32) &&& 1431655765)) &&& 858993459) + (((Int32.toUInt32 (x - (((Int32.toUInt32 x >>> (Int32.toUInt32 1 &&& Int32.toUInt32 31)).toInt32) &&& 1431655765)) >>> (Int32.toUInt32 2 &&& Int32.toUInt32 31)).toInt32) &&& 858993459)) >>> (Int32.toUInt32 4 &&& Int32.toUInt32 31)).toInt32)) &&& 252645135) + ((Int32.toUInt32 (((((x - (((Int32.toUInt32 x >>> (Int32.toUInt32 1 &&& Int32.toUInt32 31)).toInt32) &&& 1431655765)) &&& 858993459) + (((Int32.toUInt32 (x - (((Int32.toUInt32 x >>> (Int32.toUInt32 1 &&& Int32.toUInt32 31)).toInt32) &&& 1431655765)) >>> (Int32.toUInt32 2 &&& Int32.toUInt32 31)).toInt32) &&& 858993459)) + ((Int32.toUInt32 (((x - (((Int32.toUInt32 x >>> (Int32.toUInt32 1 &&& Int32.toUInt32 31)).toInt32) &&& 1431655765)) &&& 858993459) + (((Int32.toUInt32 (x - (((Int32.toUInt32 x >>> (Int32.toUInt32 1 &&& Int32.toUInt32 31)).toInt32) &&& 1431655765)) >>> (Int32.toUInt32 2 &&& Int32.toUInt32 31)).toInt32) &&& 858993459)) >>> (Int32.toUInt32 4 &&& Int32.toUInt32 31)).toInt32)) &&& 252645135) >>> (Int32.toUInt32 8 &&& Int32.toUInt32 31)).toInt32)) >>> (Int32.toUInt32 16 &&& Int32.toUInt32 31)).toInt32)) &&& 63)], σ) [] rfl ?_ ?_
  · exact trivial
  refine AW.reti ⟨_, rfl⟩ rfl ?_
  exact ⟨rfl, rfl⟩
def PB (σ : St) (p q : Prop) : Option AV → St → Prop := PI fun v σ' => σ = σ' ∧ ((v = 1 ∧ p) ∨ (v = 0 ∧ q))
set_option maxHeartbeats 4000000 in
set_option maxRecDepth 100000 in
theorem c3_hasN (a n : Nat) (σ : St) (e7 : σ 2 a 0 7 = nI n) (hn : n ≤ 8) (x : Int32) : Ct M3_has 0 [.inr (.inr (2, a, 0)), .inl x] σ (PB σ (∃ k, k < n ∧ x = nI k) (∀ k, k < n → x ≠ nI k)) := by
  refine Ct.of f_3_has (Nat.le_of_ble_eq_true rfl) ?_
  show AW M3_has 0 _ (0, [(0, .inr (.inr (2, a, 0))), (1, .inl x)], [], σ)
  rcases bot_or n x with ⟨k, hk, rfl⟩ | hno
  · skip
    refine AW.run 11 [false, false, false] (23, [(0, .inr (.inr (2, a, 0))), (1, .inl (nI k))], [.inl 1], σ) [¬ icP .lt (nI k) 0, ¬ icP .ge (nI k) (σ 2 a 0 7), ¬ icP .ge (nI k) 8] rfl ?_ ?_
    · exact ⟨(nlt0 (by omega)), (by rw [e7]; exact nle_lit hk (by omega)), allP1 (nle_lit (a := 8) (by omega) (by decide))⟩
    refine AW.retz ⟨_, rfl⟩ rfl (by decide) ?_
    exact ⟨rfl, Or.inl ⟨rfl, k, hk, rfl⟩⟩
  · skip
    by_cases h1_1 : (x : Int32) < 0
    · skip
      refine AW.run 3 [true] (23, [(0, .inr (.inr (2, a, 0))), (1, .inl x)], [.inl 0], σ) [icP .lt x 0] rfl ?_ ?_
      · exact allP1 (h1_1)
      refine AW.retz ⟨_, rfl⟩ rfl (by decide) ?_
      exact ⟨rfl, Or.inr ⟨rfl, hno⟩⟩
    · skip
      refine AW.run 7 [false, true] (23, [(0, .inr (.inr (2, a, 0))), (1, .inl x)], [.inl 0], σ) [¬ icP .lt x 0, icP .ge x (σ 2 a 0 7)] rfl ?_ ?_
      · exact ⟨(h1_1), allP1 (by rw [e7]; exact bot_out (by omega) hno h1_1)⟩
      refine AW.retz ⟨_, rfl⟩ rfl (by decide) ?_
      exact ⟨rfl, Or.inr ⟨rfl, hno⟩⟩
theorem c3_has (a : Nat) (S : Sv) (σ : St) (hR : RepS (σ 2 a) S) (hO : SOK S) (x : Int32) : Ct M3_has 0 [.inr (.inr (2, a, 0)), .inl x] σ (PB σ (∃ k, k < Sn S ∧ x = nI k) (∀ k, k < Sn S → x ≠ nI k)) := c3_hasN a (Sn S) σ hR.1.1 hO.1 x
set_option maxHeartbeats 4000000 in
set_option maxRecDepth 100000 in
theorem c3_isWhole (a : Nat) (S : Sv) (σ : St) (hR : RepS (σ 2 a) S) (hO : SOK S) (k : Nat) (hk : k < 2 ^ 31) : Ct M3_isWhole 0 [.inr (.inr (2, a, 0)), .inl (nI k)] σ (PB σ (Sw S k = true) (Sw S k = false)) := by
  refine Ct.of f_3_isWhole (Nat.le_of_ble_eq_true rfl) ?_
  show AW M3_isWhole 0 _ (0, [(0, .inr (.inr (2, a, 0))), (1, .inl (nI k))], [], σ)
  have e8 : σ 2 a 0 8 = bI (Sw S) := hR.1.2.1
  have h8 : 8 ≤ k → Sw S k = false := fun h => (hO.2.2.1 k (Nat.le_trans hO.1 h)).1
  by_cases hk8 : k < 8
  · have hbit := bI_bit (Sw S) hk8
    rw [← e8] at hbit
    cases hw : Sw S k
    · rw [hw] at hbit
      refine AW.run 13 [false, false, true] (26, [(0, .inr (.inr (2, a, 0))), (1, .inl (nI k))], [.inl 0], σ) [¬ icP .lt (nI k) 0, ¬ icP .ge (nI k) 8, icP .eq (((σ 2 a 0 8) >>> ((nI k) &&& 31)) &&& 1) 0] rfl ?_ ?_
      · exact ⟨(nlt0 hk), (nle_lit (a := 8) (by omega) (by decide)), allP1 (hbit)⟩
      refine AW.retz ⟨_, rfl⟩ rfl (by decide) ?_
      exact ⟨rfl, Or.inr ⟨rfl, rfl⟩⟩
    · rw [hw] at hbit
      refine AW.run 14 [false, false, false] (26, [(0, .inr (.inr (2, a, 0))), (1, .inl (nI k))], [.inl 1], σ) [¬ icP .lt (nI k) 0, ¬ icP .ge (nI k) 8, ¬ icP .eq (((σ 2 a 0 8) >>> ((nI k) &&& 31)) &&& 1) 0] rfl ?_ ?_
      · exact ⟨(nlt0 hk), (nle_lit (a := 8) (by omega) (by decide)), allP1 (by rw [hbit]; exact (by decide : ¬ (1 : Int32) = 0))⟩
      refine AW.retz ⟨_, rfl⟩ rfl (by decide) ?_
      exact ⟨rfl, Or.inl ⟨rfl, rfl⟩⟩
  · skip
    refine AW.run 6 [false, true] (26, [(0, .inr (.inr (2, a, 0))), (1, .inl (nI k))], [.inl 0], σ) [¬ icP .lt (nI k) 0, icP .ge (nI k) 8] rfl ?_ ?_
    · exact ⟨(nlt0 hk), allP1 (le_lit (a := 8) (by omega) hk)⟩
    refine AW.retz ⟨_, rfl⟩ rfl (by decide) ?_
    exact ⟨rfl, Or.inr ⟨rfl, h8 (by omega)⟩⟩
set_option maxHeartbeats 4000000 in
set_option maxRecDepth 100000 in
theorem c3_isCovered (a : Nat) (S : Sv) (σ : St) (hR : RepS (σ 2 a) S) (hO : SOK S) (k : Nat) (hk : k < 2 ^ 31) : Ct M3_isCovered 0 [.inr (.inr (2, a, 0)), .inl (nI k)] σ (PB σ (Stw S k = true) (Stw S k = false)) := by
  refine Ct.of f_3_isCovered (Nat.le_of_ble_eq_true rfl) ?_
  show AW M3_isCovered 0 _ (0, [(0, .inr (.inr (2, a, 0))), (1, .inl (nI k))], [], σ)
  have e8 : σ 2 a 0 9 = bI (Stw S) := hR.1.2.2.1
  have h8 : 8 ≤ k → Stw S k = false := fun h => (hO.2.2.1 k (Nat.le_trans hO.1 h)).2.1
  by_cases hk8 : k < 8
  · have hbit := bI_bit (Stw S) hk8
    rw [← e8] at hbit
    cases hw : Stw S k
    · rw [hw] at hbit
      refine AW.run 13 [false, false, true] (26, [(0, .inr (.inr (2, a, 0))), (1, .inl (nI k))], [.inl 0], σ) [¬ icP .lt (nI k) 0, ¬ icP .ge (nI k) 8, icP .eq (((σ 2 a 0 9) >>> ((nI k) &&& 31)) &&& 1) 0] rfl ?_ ?_
      · exact ⟨(nlt0 hk), (nle_lit (a := 8) (by omega) (by decide)), allP1 (hbit)⟩
      refine AW.retz ⟨_, rfl⟩ rfl (by decide) ?_
      exact ⟨rfl, Or.inr ⟨rfl, rfl⟩⟩
    · rw [hw] at hbit
      refine AW.run 14 [false, false, false] (26, [(0, .inr (.inr (2, a, 0))), (1, .inl (nI k))], [.inl 1], σ) [¬ icP .lt (nI k) 0, ¬ icP .ge (nI k) 8, ¬ icP .eq (((σ 2 a 0 9) >>> ((nI k) &&& 31)) &&& 1) 0] rfl ?_ ?_
      · exact ⟨(nlt0 hk), (nle_lit (a := 8) (by omega) (by decide)), allP1 (by rw [hbit]; exact (by decide : ¬ (1 : Int32) = 0))⟩
      refine AW.retz ⟨_, rfl⟩ rfl (by decide) ?_
      exact ⟨rfl, Or.inl ⟨rfl, rfl⟩⟩
  · skip
    refine AW.run 6 [false, true] (26, [(0, .inr (.inr (2, a, 0))), (1, .inl (nI k))], [.inl 0], σ) [¬ icP .lt (nI k) 0, icP .ge (nI k) 8] rfl ?_ ?_
    · exact ⟨(nlt0 hk), allP1 (le_lit (a := 8) (by omega) hk)⟩
    refine AW.retz ⟨_, rfl⟩ rfl (by decide) ?_
    exact ⟨rfl, Or.inr ⟨rfl, h8 (by omega)⟩⟩
set_option maxHeartbeats 4000000 in
set_option maxRecDepth 100000 in
theorem c3_kindOf (a : Nat) (S : Sv) (σ : St) (hR : RepS (σ 2 a) S) (hO : SOK S) (k : Nat) (hk : k < Sn S) : Ct M3_kindOf 1 [.inr (.inr (2, a, 0)), .inl (nI k)] σ (PI fun v σ' => nI (Sk S k) = v ∧ σ = σ') := by
  refine Ct.of f_3_kindOf (Nat.le_of_ble_eq_true rfl) ?_
  show AW M3_kindOf 1 _ (0, [(0, .inr (.inr (2, a, 0))), (1, .inl (nI k))], [], σ)
  have hn := hO.1
  have hk8 : k < 8 := by omega
  have eq : σ 2 a 1 (nI k).toNatClampNeg = nI (Sk S k) := by rw [cl8 hk8]; exact (hR.2.1 k hk8).1
  refine AW.run 2 [] (2, [(0, .inr (.inr (2, a, 0))), (1, .inl (nI k))], [.inl (nI k), .inr (.inr (2, a, 0))], σ) [] rfl ?_ ?_
  · exact trivial
  refine AW.callVI (d' := 0) [.inl (nI k)] [] ⟨_, rfl⟩ f_3_has v_3_has l_3_58 ⟨rfl, by decide⟩ rfl (Nat.le_of_ble_eq_true rfl) rfl (Nat.le_of_ble_eq_true rfl) (c3_has a S σ hR hO (nI k)) ?_
  rintro v _ ⟨rfl, hv⟩
  rcases hv with ⟨rfl, hp2⟩ | ⟨rfl, hp2⟩
  · skip
    refine AW.run 6 [false] (18, [(0, .inr (.inr (2, a, 0))), (1, .inl (nI k))], [.inl (σ 2 a 1 (nI k).toNatClampNeg)], σ) [¬ icP .eq (1 : Int32) 0, vp_in (nI k) 8] rfl ?_ ?_
    · exact ⟨(by decide : ¬ ((1 : Int32) = 0)), allP1 (by exact in8 hk8)⟩
    refine AW.reti ⟨_, rfl⟩ rfl ?_
    exact ⟨eq.symm, rfl⟩
  · skip
    refine AW.run 2 [true] (18, [(0, .inr (.inr (2, a, 0))), (1, .inl (nI k))], [.inl 0], σ) [icP .eq (0 : Int32) 0] rfl ?_ ?_
    · exact allP1 (by decide : ((0 : Int32) = 0))
    refine AW.reti ⟨_, rfl⟩ rfl ?_
    exact absurd rfl (hp2 k hk)
set_option maxHeartbeats 4000000 in
set_option maxRecDepth 100000 in
theorem c3_figureOf (a : Nat) (S : Sv) (σ : St) (hR : RepS (σ 2 a) S) (hO : SOK S) (k : Nat) (hk : k < Sn S) : Ct M3_figureOf 1 [.inr (.inr (2, a, 0)), .inl (nI k)] σ (PI fun v σ' => nI (Sf S k) = v ∧ σ = σ') := by
  refine Ct.of f_3_figureOf (Nat.le_of_ble_eq_true rfl) ?_
  show AW M3_figureOf 1 _ (0, [(0, .inr (.inr (2, a, 0))), (1, .inl (nI k))], [], σ)
  have hn := hO.1
  have hk8 : k < 8 := by omega
  have eq : σ 2 a 2 (nI k).toNatClampNeg = nI (Sf S k) := by rw [cl8 hk8]; exact (hR.2.1 k hk8).2.1
  refine AW.run 2 [] (2, [(0, .inr (.inr (2, a, 0))), (1, .inl (nI k))], [.inl (nI k), .inr (.inr (2, a, 0))], σ) [] rfl ?_ ?_
  · exact trivial
  refine AW.callVI (d' := 0) [.inl (nI k)] [] ⟨_, rfl⟩ f_3_has v_3_has l_3_58 ⟨rfl, by decide⟩ rfl (Nat.le_of_ble_eq_true rfl) rfl (Nat.le_of_ble_eq_true rfl) (c3_has a S σ hR hO (nI k)) ?_
  rintro v _ ⟨rfl, hv⟩
  rcases hv with ⟨rfl, hp2⟩ | ⟨rfl, hp2⟩
  · skip
    refine AW.run 6 [false] (18, [(0, .inr (.inr (2, a, 0))), (1, .inl (nI k))], [.inl (σ 2 a 2 (nI k).toNatClampNeg)], σ) [¬ icP .eq (1 : Int32) 0, vp_in (nI k) 8] rfl ?_ ?_
    · exact ⟨(by decide : ¬ ((1 : Int32) = 0)), allP1 (by exact in8 hk8)⟩
    refine AW.reti ⟨_, rfl⟩ rfl ?_
    exact ⟨eq.symm, rfl⟩
  · skip
    refine AW.run 2 [true] (18, [(0, .inr (.inr (2, a, 0))), (1, .inl (nI k))], [.inl 0], σ) [icP .eq (0 : Int32) 0] rfl ?_ ?_
    · exact allP1 (by decide : ((0 : Int32) = 0))
    refine AW.reti ⟨_, rfl⟩ rfl ?_
    exact absurd rfl (hp2 k hk)
set_option maxHeartbeats 4000000 in
set_option maxRecDepth 100000 in
theorem c3_placeOf (a : Nat) (S : Sv) (σ : St) (hR : RepS (σ 2 a) S) (hO : SOK S) (k : Nat) (hk : k < Sn S) : Ct M3_placeOf 1 [.inr (.inr (2, a, 0)), .inl (nI k)] σ (PI fun v σ' => nI (Sp S k) = v ∧ σ = σ') := by
  refine Ct.of f_3_placeOf (Nat.le_of_ble_eq_true rfl) ?_
  show AW M3_placeOf 1 _ (0, [(0, .inr (.inr (2, a, 0))), (1, .inl (nI k))], [], σ)
  have hn := hO.1
  have hk8 : k < 8 := by omega
  have eq : σ 2 a 3 (nI k).toNatClampNeg = nI (Sp S k) := by rw [cl8 hk8]; exact (hR.2.1 k hk8).2.2.1
  refine AW.run 2 [] (2, [(0, .inr (.inr (2, a, 0))), (1, .inl (nI k))], [.inl (nI k), .inr (.inr (2, a, 0))], σ) [] rfl ?_ ?_
  · exact trivial
  refine AW.callVI (d' := 0) [.inl (nI k)] [] ⟨_, rfl⟩ f_3_has v_3_has l_3_58 ⟨rfl, by decide⟩ rfl (Nat.le_of_ble_eq_true rfl) rfl (Nat.le_of_ble_eq_true rfl) (c3_has a S σ hR hO (nI k)) ?_
  rintro v _ ⟨rfl, hv⟩
  rcases hv with ⟨rfl, hp2⟩ | ⟨rfl, hp2⟩
  · skip
    refine AW.run 6 [false] (18, [(0, .inr (.inr (2, a, 0))), (1, .inl (nI k))], [.inl (σ 2 a 3 (nI k).toNatClampNeg)], σ) [¬ icP .eq (1 : Int32) 0, vp_in (nI k) 8] rfl ?_ ?_
    · exact ⟨(by decide : ¬ ((1 : Int32) = 0)), allP1 (by exact in8 hk8)⟩
    refine AW.reti ⟨_, rfl⟩ rfl ?_
    exact ⟨eq.symm, rfl⟩
  · skip
    refine AW.run 2 [true] (18, [(0, .inr (.inr (2, a, 0))), (1, .inl (nI k))], [.inl 0], σ) [icP .eq (0 : Int32) 0] rfl ?_ ?_
    · exact allP1 (by decide : ((0 : Int32) = 0))
    refine AW.reti ⟨_, rfl⟩ rfl ?_
    exact absurd rfl (hp2 k hk)
set_option maxHeartbeats 4000000 in
set_option maxRecDepth 100000 in
theorem c3_pressOf (a : Nat) (S : Sv) (σ : St) (hR : RepS (σ 2 a) S) (hO : SOK S) (k : Nat) (hk : k < Sn S) : Ct M3_pressOf 1 [.inr (.inr (2, a, 0)), .inl (nI k)] σ (PI fun v σ' => nI (Sq S k) = v ∧ σ = σ') := by
  refine Ct.of f_3_pressOf (Nat.le_of_ble_eq_true rfl) ?_
  show AW M3_pressOf 1 _ (0, [(0, .inr (.inr (2, a, 0))), (1, .inl (nI k))], [], σ)
  have hn := hO.1
  have hk8 : k < 8 := by omega
  have eq : σ 2 a 4 (nI k).toNatClampNeg = nI (Sq S k) := by rw [cl8 hk8]; exact (hR.2.1 k hk8).2.2.2
  refine AW.run 2 [] (2, [(0, .inr (.inr (2, a, 0))), (1, .inl (nI k))], [.inl (nI k), .inr (.inr (2, a, 0))], σ) [] rfl ?_ ?_
  · exact trivial
  refine AW.callVI (d' := 0) [.inl (nI k)] [] ⟨_, rfl⟩ f_3_has v_3_has l_3_58 ⟨rfl, by decide⟩ rfl (Nat.le_of_ble_eq_true rfl) rfl (Nat.le_of_ble_eq_true rfl) (c3_has a S σ hR hO (nI k)) ?_
  rintro v _ ⟨rfl, hv⟩
  rcases hv with ⟨rfl, hp2⟩ | ⟨rfl, hp2⟩
  · skip
    refine AW.run 6 [false] (18, [(0, .inr (.inr (2, a, 0))), (1, .inl (nI k))], [.inl (σ 2 a 4 (nI k).toNatClampNeg)], σ) [¬ icP .eq (1 : Int32) 0, vp_in (nI k) 8] rfl ?_ ?_
    · exact ⟨(by decide : ¬ ((1 : Int32) = 0)), allP1 (by exact in8 hk8)⟩
    refine AW.reti ⟨_, rfl⟩ rfl ?_
    exact ⟨eq.symm, rfl⟩
  · skip
    refine AW.run 2 [true] (18, [(0, .inr (.inr (2, a, 0))), (1, .inl (nI k))], [.inl 0], σ) [icP .eq (0 : Int32) 0] rfl ?_ ?_
    · exact allP1 (by decide : ((0 : Int32) = 0))
    refine AW.reti ⟨_, rfl⟩ rfl ?_
    exact absurd rfl (hp2 k hk)
set_option maxHeartbeats 4000000 in
set_option maxRecDepth 100000 in
theorem c3_riseOf (a : Nat) (S : Sv) (σ : St) (hR : RepS (σ 2 a) S) (hO : SOK S) (k : Nat) (hk : k < Sn S) : Ct M3_riseOf 1 [.inr (.inr (2, a, 0)), .inl (nI k)] σ (PI fun v σ' => nI (riseS S k) = v ∧ σ = σ') := by
  refine Ct.of f_3_riseOf (Nat.le_of_ble_eq_true rfl) ?_
  show AW M3_riseOf 1 _ (0, [(0, .inr (.inr (2, a, 0))), (1, .inl (nI k))], [], σ)
  have hn := hO.1
  have hk8 : k < 8 := by omega
  have eq : σ 2 a 5 (nI k).toNatClampNeg = nI (riseS S k) := by rw [cl8 hk8]; exact (hR.2.2 k hk).1
  refine AW.run 2 [] (2, [(0, .inr (.inr (2, a, 0))), (1, .inl (nI k))], [.inl (nI k), .inr (.inr (2, a, 0))], σ) [] rfl ?_ ?_
  · exact trivial
  refine AW.callVI (d' := 0) [.inl (nI k)] [] ⟨_, rfl⟩ f_3_has v_3_has l_3_58 ⟨rfl, by decide⟩ rfl (Nat.le_of_ble_eq_true rfl) rfl (Nat.le_of_ble_eq_true rfl) (c3_has a S σ hR hO (nI k)) ?_
  rintro v _ ⟨rfl, hv⟩
  rcases hv with ⟨rfl, hp2⟩ | ⟨rfl, hp2⟩
  · skip
    refine AW.run 6 [false] (18, [(0, .inr (.inr (2, a, 0))), (1, .inl (nI k))], [.inl (σ 2 a 5 (nI k).toNatClampNeg)], σ) [¬ icP .eq (1 : Int32) 0, vp_in (nI k) 8] rfl ?_ ?_
    · exact ⟨(by decide : ¬ ((1 : Int32) = 0)), allP1 (by exact in8 hk8)⟩
    refine AW.reti ⟨_, rfl⟩ rfl ?_
    exact ⟨eq.symm, rfl⟩
  · skip
    refine AW.run 2 [true] (18, [(0, .inr (.inr (2, a, 0))), (1, .inl (nI k))], [.inl 0], σ) [icP .eq (0 : Int32) 0] rfl ?_ ?_
    · exact allP1 (by decide : ((0 : Int32) = 0))
    refine AW.reti ⟨_, rfl⟩ rfl ?_
    exact absurd rfl (hp2 k hk)
set_option maxHeartbeats 4000000 in
set_option maxRecDepth 100000 in
theorem c3_bearOf (a : Nat) (S : Sv) (σ : St) (hR : RepS (σ 2 a) S) (hO : SOK S) (k : Nat) (hk : k < Sn S) : Ct M3_bearOf 1 [.inr (.inr (2, a, 0)), .inl (nI k)] σ (PI fun v σ' => nI (bearS S k) = v ∧ σ = σ') := by
  refine Ct.of f_3_bearOf (Nat.le_of_ble_eq_true rfl) ?_
  show AW M3_bearOf 1 _ (0, [(0, .inr (.inr (2, a, 0))), (1, .inl (nI k))], [], σ)
  have hn := hO.1
  have hk8 : k < 8 := by omega
  have eq : σ 2 a 6 (nI k).toNatClampNeg = nI (bearS S k) := by rw [cl8 hk8]; exact (hR.2.2 k hk).2.1
  refine AW.run 2 [] (2, [(0, .inr (.inr (2, a, 0))), (1, .inl (nI k))], [.inl (nI k), .inr (.inr (2, a, 0))], σ) [] rfl ?_ ?_
  · exact trivial
  refine AW.callVI (d' := 0) [.inl (nI k)] [] ⟨_, rfl⟩ f_3_has v_3_has l_3_58 ⟨rfl, by decide⟩ rfl (Nat.le_of_ble_eq_true rfl) rfl (Nat.le_of_ble_eq_true rfl) (c3_has a S σ hR hO (nI k)) ?_
  rintro v _ ⟨rfl, hv⟩
  rcases hv with ⟨rfl, hp2⟩ | ⟨rfl, hp2⟩
  · skip
    refine AW.run 6 [false] (18, [(0, .inr (.inr (2, a, 0))), (1, .inl (nI k))], [.inl (σ 2 a 6 (nI k).toNatClampNeg)], σ) [¬ icP .eq (1 : Int32) 0, vp_in (nI k) 8] rfl ?_ ?_
    · exact ⟨(by decide : ¬ ((1 : Int32) = 0)), allP1 (by exact in8 hk8)⟩
    refine AW.reti ⟨_, rfl⟩ rfl ?_
    exact ⟨eq.symm, rfl⟩
  · skip
    refine AW.run 2 [true] (18, [(0, .inr (.inr (2, a, 0))), (1, .inl (nI k))], [.inl 0], σ) [icP .eq (0 : Int32) 0] rfl ?_ ?_
    · exact allP1 (by decide : ((0 : Int32) = 0))
    refine AW.reti ⟨_, rfl⟩ rfl ?_
    exact absurd rfl (hp2 k hk)
set_option maxHeartbeats 4000000 in
set_option maxRecDepth 100000 in
theorem c3_shockOf (a : Nat) (S : Sv) (σ : St) (hR : RepS (σ 2 a) S) (hO : SOK S) (k : Nat) (hk : k < Sn S) : Ct M3_shockOf 1 [.inr (.inr (2, a, 0)), .inl (nI k)] σ (PI fun v σ' => nI (shockS S k) = v ∧ σ = σ') := by
  refine Ct.of f_3_shockOf (Nat.le_of_ble_eq_true rfl) ?_
  show AW M3_shockOf 1 _ (0, [(0, .inr (.inr (2, a, 0))), (1, .inl (nI k))], [], σ)
  have hn := hO.1
  have hk8 : k < 8 := by omega
  have eq : σ 2 a 7 (nI k).toNatClampNeg = nI (shockS S k) := by rw [cl8 hk8]; exact (hR.2.2 k hk).2.2
  refine AW.run 2 [] (2, [(0, .inr (.inr (2, a, 0))), (1, .inl (nI k))], [.inl (nI k), .inr (.inr (2, a, 0))], σ) [] rfl ?_ ?_
  · exact trivial
  refine AW.callVI (d' := 0) [.inl (nI k)] [] ⟨_, rfl⟩ f_3_has v_3_has l_3_58 ⟨rfl, by decide⟩ rfl (Nat.le_of_ble_eq_true rfl) rfl (Nat.le_of_ble_eq_true rfl) (c3_has a S σ hR hO (nI k)) ?_
  rintro v _ ⟨rfl, hv⟩
  rcases hv with ⟨rfl, hp2⟩ | ⟨rfl, hp2⟩
  · skip
    refine AW.run 6 [false] (18, [(0, .inr (.inr (2, a, 0))), (1, .inl (nI k))], [.inl (σ 2 a 7 (nI k).toNatClampNeg)], σ) [¬ icP .eq (1 : Int32) 0, vp_in (nI k) 8] rfl ?_ ?_
    · exact ⟨(by decide : ¬ ((1 : Int32) = 0)), allP1 (by exact in8 hk8)⟩
    refine AW.reti ⟨_, rfl⟩ rfl ?_
    exact ⟨eq.symm, rfl⟩
  · skip
    refine AW.run 2 [true] (18, [(0, .inr (.inr (2, a, 0))), (1, .inl (nI k))], [.inl 0], σ) [icP .eq (0 : Int32) 0] rfl ?_ ?_
    · exact allP1 (by decide : ((0 : Int32) = 0))
    refine AW.reti ⟨_, rfl⟩ rfl ?_
    exact absurd rfl (hp2 k hk)
theorem rise_b {fg su he : Nat} (hs : su ≤ 9) (hh : he ≤ 9) : nI su + nI he / 2 = nI (su + he / 2) := by
  have h : ∀ su < 10, ∀ he < 10, nI su + nI he / 2 = nI (su + he / 2) := by decide +kernel
  exact h su (by omega) he (by omega)
theorem rise_s {b : Nat} (hb : b ≤ 13) : (if (0 : Int32) < nI b - 1 then nI b - 1 else 0) = nI (b - 1) := by
  have h : ∀ b < 14, (if (0 : Int32) < nI b - 1 then nI b - 1 else 0) = nI (b - 1) := by decide +kernel
  exact h b (by omega)
theorem rise_r {b fg : Nat} (hb : b ≤ 13) (hf : fg ≤ 9) : nI b + nI fg / 3 = nI (b + fg / 3) := by
  have h : ∀ b < 14, ∀ fg < 10, nI b + nI fg / 3 = nI (b + fg / 3) := by decide +kernel
  exact h b (by omega) fg (by omega)
theorem rise_2 {b : Nat} (hb : b ≤ 20) : (2 : Int32) * nI b = nI (2 * b) := by
  have h : ∀ b < 21, (2 : Int32) * nI b = nI (2 * b) := by decide +kernel
  exact h b (by omega)
set_option maxHeartbeats 4000000 in
set_option maxRecDepth 100000 in
theorem c0_rises (k fg su he : Nat) (hk : k ≤ 5) (hf : fg ≤ 9) (hs : su ≤ 9) (hh : he ≤ 9) (σ : St) : Ct M0_rises 1 [.inl (nI k), .inl (nI fg), .inl (nI su), .inl (nI he)] σ (PI fun v σ' => nI (riseN k fg su he) = v ∧ σ = σ') := by
  refine Ct.of f_0_rises (Nat.le_of_ble_eq_true rfl) ?_
  show AW M0_rises 1 _ (0, [(0, .inl (nI k)), (1, .inl (nI fg)), (2, .inl (nI su)), (3, .inl (nI he))], [], σ)
  have e1 := rise_b (fg := fg) hs hh
  have hb : su + he / 2 ≤ 13 := by omega
  have e2 := rise_s hb
  rw [← e1] at e2
  have e3 := rise_r (b := su + he / 2 - 1) (by omega) hf
  have e4 := rise_2 (b := su + he / 2 - 1 + fg / 3) (by omega)
  refine AW.run 10 [] (12, [(4, .inl ((nI su) + ((nI he) / 2))), (0, .inl (nI k)), (1, .inl (nI fg)), (2, .inl (nI su)), (3, .inl (nI he))], [.inl (((nI su) + ((nI he) / 2)) - 1), .inl 0], σ) [¬ (2 : Int32) = 0] rfl ?_ ?_
  · exact allP1 (by decide)
  refine AW.max ⟨_, rfl⟩ l_0_7 (Nat.le_of_ble_eq_true rfl) (Nat.le_of_ble_eq_true rfl) ?_
  refine AW.run 8 [] (26, [(6, .inl ((if 0 < (((nI su) + ((nI he) / 2)) - 1) then (((nI su) + ((nI he) / 2)) - 1) else 0) + ((nI fg) / 3))), (5, .inl (if 0 < (((nI su) + ((nI he) / 2)) - 1) then (((nI su) + ((nI he) / 2)) - 1) else 0)), (4, .inl ((nI su) + ((nI he) / 2))), (0, .inl (nI k)), (1, .inl (nI fg)), (2, .inl (nI su)), (3, .inl (nI he))], [.inl (nI k)], σ) [¬ (3 : Int32) = 0] rfl ?_ ?_
  · exact allP1 (by decide)
  by_cases h26_1 : (nI k : Int32) = 0
  · skip
    refine AW.tswIn (k := 0) (tgt := 64) ⟨_, rfl⟩ (by rw [h26_1]; decide) (by decide) rfl (by decide) ?_
    refine AW.run 1 [] (66, [(6, .inl ((if 0 < (((nI su) + ((nI he) / 2)) - 1) then (((nI su) + ((nI he) / 2)) - 1) else 0) + ((nI fg) / 3))), (5, .inl (if 0 < (((nI su) + ((nI he) / 2)) - 1) then (((nI su) + ((nI he) / 2)) - 1) else 0)), (4, .inl ((nI su) + ((nI he) / 2))), (0, .inl (nI k)), (1, .inl (nI fg)), (2, .inl (nI su)), (3, .inl (nI he))], [.inl ((nI su) + ((nI he) / 2))], σ) [] rfl ?_ ?_
    · exact trivial
    refine AW.reti ⟨_, rfl⟩ rfl ?_
    obtain rfl : k = 0 := nI_lit h26_1 (by omega) (by omega)
    exact ⟨e1.symm, rfl⟩
  by_cases h26_2 : (nI k : Int32) = 1
  · skip
    refine AW.tswIn (k := 1) (tgt := 67) ⟨_, rfl⟩ (by rw [h26_2]; decide) (by decide) rfl (by decide) ?_
    refine AW.run 1 [] (69, [(6, .inl ((if 0 < (((nI su) + ((nI he) / 2)) - 1) then (((nI su) + ((nI he) / 2)) - 1) else 0) + ((nI fg) / 3))), (5, .inl (if 0 < (((nI su) + ((nI he) / 2)) - 1) then (((nI su) + ((nI he) / 2)) - 1) else 0)), (4, .inl ((nI su) + ((nI he) / 2))), (0, .inl (nI k)), (1, .inl (nI fg)), (2, .inl (nI su)), (3, .inl (nI he))], [.inl (if 0 < (((nI su) + ((nI he) / 2)) - 1) then (((nI su) + ((nI he) / 2)) - 1) else 0)], σ) [] rfl ?_ ?_
    · exact trivial
    refine AW.reti ⟨_, rfl⟩ rfl ?_
    obtain rfl : k = 1 := nI_lit h26_2 (by omega) (by omega)
    exact ⟨e2.symm, rfl⟩
  by_cases h26_3 : (nI k : Int32) = 2
  · skip
    refine AW.tswIn (k := 2) (tgt := 88) ⟨_, rfl⟩ (by rw [h26_3]; decide) (by decide) rfl (by decide) ?_
    refine AW.run 1 [] (89, [(6, .inl ((if 0 < (((nI su) + ((nI he) / 2)) - 1) then (((nI su) + ((nI he) / 2)) - 1) else 0) + ((nI fg) / 3))), (5, .inl (if 0 < (((nI su) + ((nI he) / 2)) - 1) then (((nI su) + ((nI he) / 2)) - 1) else 0)), (4, .inl ((nI su) + ((nI he) / 2))), (0, .inl (nI k)), (1, .inl (nI fg)), (2, .inl (nI su)), (3, .inl (nI he))], [.inl 0], σ) [] rfl ?_ ?_
    · exact trivial
    refine AW.reti ⟨_, rfl⟩ rfl ?_
    refine ⟨?_, rfl⟩
    rcases (show k = 0 ∨ k = 1 ∨ k = 2 ∨ k = 3 ∨ k = 4 ∨ k = 5 by omega) with rfl | rfl | rfl | rfl | rfl | rfl <;> first | (exact absurd rfl (by assumption)) | (exact absurd (show nI _ = _ by assumption) (by decide)) | rfl
  by_cases h26_4 : (nI k : Int32) = 3
  · skip
    refine AW.tswIn (k := 3) (tgt := 70) ⟨_, rfl⟩ (by rw [h26_4]; decide) (by decide) rfl (by decide) ?_
    refine AW.run 1 [] (72, [(6, .inl ((if 0 < (((nI su) + ((nI he) / 2)) - 1) then (((nI su) + ((nI he) / 2)) - 1) else 0) + ((nI fg) / 3))), (5, .inl (if 0 < (((nI su) + ((nI he) / 2)) - 1) then (((nI su) + ((nI he) / 2)) - 1) else 0)), (4, .inl ((nI su) + ((nI he) / 2))), (0, .inl (nI k)), (1, .inl (nI fg)), (2, .inl (nI su)), (3, .inl (nI he))], [.inl ((if 0 < (((nI su) + ((nI he) / 2)) - 1) then (((nI su) + ((nI he) / 2)) - 1) else 0) + ((nI fg) / 3))], σ) [] rfl ?_ ?_
    · exact trivial
    refine AW.reti ⟨_, rfl⟩ rfl ?_
    obtain rfl : k = 3 := nI_lit h26_4 (by omega) (by omega)
    exact ⟨by rw [e2, e3]; rfl, rfl⟩
  by_cases h26_5 : (nI k : Int32) = 4
  · skip
    refine AW.tswIn (k := 4) (tgt := 73) ⟨_, rfl⟩ (by rw [h26_5]; decide) (by decide) rfl (by decide) ?_
    by_cases h74_6 : (nI su : Int32) ≤ 0
    · skip
      refine AW.run 3 [true] (82, [(6, .inl ((if 0 < (((nI su) + ((nI he) / 2)) - 1) then (((nI su) + ((nI he) / 2)) - 1) else 0) + ((nI fg) / 3))), (5, .inl (if 0 < (((nI su) + ((nI he) / 2)) - 1) then (((nI su) + ((nI he) / 2)) - 1) else 0)), (4, .inl ((nI su) + ((nI he) / 2))), (0, .inl (nI k)), (1, .inl (nI fg)), (2, .inl (nI su)), (3, .inl (nI he))], [.inl 0], σ) [icP .le (nI su) 0] rfl ?_ ?_
      · exact allP1 (h74_6)
      refine AW.reti ⟨_, rfl⟩ rfl ?_
      obtain rfl : k = 4 := nI_lit h26_5 (by omega) (by omega)
      refine ⟨?_, rfl⟩
      simp only [riseN]
      by_cases h0 : 0 < su
      · rw [if_pos h0]
        first | rfl | exact absurd (show nI su ≤ 0 by assumption) (nI_nle h0 (by omega))
      · rw [if_neg h0]
        have h1 : su = 0 := by omega
        subst h1
        first | rfl | exact absurd (by decide : nI 0 ≤ (0 : Int32)) (by assumption)
    · skip
      refine AW.run 4 [false] (82, [(6, .inl ((if 0 < (((nI su) + ((nI he) / 2)) - 1) then (((nI su) + ((nI he) / 2)) - 1) else 0) + ((nI fg) / 3))), (5, .inl (if 0 < (((nI su) + ((nI he) / 2)) - 1) then (((nI su) + ((nI he) / 2)) - 1) else 0)), (4, .inl ((nI su) + ((nI he) / 2))), (0, .inl (nI k)), (1, .inl (nI fg)), (2, .inl (nI su)), (3, .inl (nI he))], [.inl 1], σ) [¬ icP .le (nI su) 0] rfl ?_ ?_
      · exact allP1 (h74_6)
      refine AW.reti ⟨_, rfl⟩ rfl ?_
      obtain rfl : k = 4 := nI_lit h26_5 (by omega) (by omega)
      refine ⟨?_, rfl⟩
      simp only [riseN]
      by_cases h0 : 0 < su
      · rw [if_pos h0]
        first | rfl | exact absurd (show nI su ≤ 0 by assumption) (nI_nle h0 (by omega))
      · rw [if_neg h0]
        have h1 : su = 0 := by omega
        subst h1
        first | rfl | exact absurd (by decide : nI 0 ≤ (0 : Int32)) (by assumption)
  by_cases h26_7 : (nI k : Int32) = 5
  · skip
    refine AW.tswIn (k := 5) (tgt := 83) ⟨_, rfl⟩ (by rw [h26_7]; decide) (by decide) rfl (by decide) ?_
    refine AW.run 3 [] (87, [(6, .inl ((if 0 < (((nI su) + ((nI he) / 2)) - 1) then (((nI su) + ((nI he) / 2)) - 1) else 0) + ((nI fg) / 3))), (5, .inl (if 0 < (((nI su) + ((nI he) / 2)) - 1) then (((nI su) + ((nI he) / 2)) - 1) else 0)), (4, .inl ((nI su) + ((nI he) / 2))), (0, .inl (nI k)), (1, .inl (nI fg)), (2, .inl (nI su)), (3, .inl (nI he))], [.inl (2 * ((if 0 < (((nI su) + ((nI he) / 2)) - 1) then (((nI su) + ((nI he) / 2)) - 1) else 0) + ((nI fg) / 3)))], σ) [] rfl ?_ ?_
    · exact trivial
    refine AW.reti ⟨_, rfl⟩ rfl ?_
    obtain rfl : k = 5 := nI_lit h26_7 (by omega) (by omega)
    exact ⟨by rw [e2, e3, e4]; rfl, rfl⟩
  have eh26_1 := lv_neT (a := 0) h26_1 rfl
  have eh26_2 := lv_neT (a := 1) h26_2 rfl
  have eh26_3 := lv_neT (a := 2) h26_3 rfl
  have eh26_4 := lv_neT (a := 3) h26_4 rfl
  have eh26_5 := lv_neT (a := 4) h26_5 rfl
  have eh26_7 := lv_neT (a := 5) h26_7 rfl
  refine AW.tswOut (tgt := 88) ⟨_, rfl⟩ (by omega) (by decide) ?_
  refine AW.run 1 [] (89, [(6, .inl ((if 0 < (((nI su) + ((nI he) / 2)) - 1) then (((nI su) + ((nI he) / 2)) - 1) else 0) + ((nI fg) / 3))), (5, .inl (if 0 < (((nI su) + ((nI he) / 2)) - 1) then (((nI su) + ((nI he) / 2)) - 1) else 0)), (4, .inl ((nI su) + ((nI he) / 2))), (0, .inl (nI k)), (1, .inl (nI fg)), (2, .inl (nI su)), (3, .inl (nI he))], [.inl 0], σ) [] rfl ?_ ?_
  · exact trivial
  refine AW.reti ⟨_, rfl⟩ rfl ?_
  refine ⟨?_, rfl⟩
  rcases (show k = 0 ∨ k = 1 ∨ k = 2 ∨ k = 3 ∨ k = 4 ∨ k = 5 by omega) with rfl | rfl | rfl | rfl | rfl | rfl <;> first | (exact absurd rfl (by assumption)) | (exact absurd (show nI _ = _ by assumption) (by decide)) | rfl
theorem bears_all : ∀ k < 6, ∀ fg < 10, True := fun _ _ _ _ => trivial
set_option maxHeartbeats 4000000 in
set_option maxRecDepth 100000 in
theorem c0_bears (k fg : Nat) (hk : k ≤ 5) (hf : fg ≤ 9) (σ : St) : Ct M0_bears 0 [.inl (nI k), .inl (nI fg)] σ (PI fun v σ' => nI (bearN k fg) = v ∧ σ = σ') := by
  refine Ct.of f_0_bears (Nat.le_of_ble_eq_true rfl) ?_
  show AW M0_bears 0 _ (0, [(0, .inl (nI k)), (1, .inl (nI fg))], [], σ)
  refine AW.run 13 [] (15, [(4, .inl ((2 * (10 + (nI fg))) - 5)), (3, .inl (2 * (10 + (nI fg)))), (2, .inl (10 + (nI fg))), (0, .inl (nI k)), (1, .inl (nI fg))], [.inl (nI k)], σ) [] rfl ?_ ?_
  · exact trivial
  by_cases h15_1 : (nI k : Int32) = 0
  · skip
    refine AW.tswIn (k := 0) (tgt := 52) ⟨_, rfl⟩ (by rw [h15_1]; decide) (by decide) rfl (by decide) ?_
    refine AW.run 1 [] (53, [(4, .inl ((2 * (10 + (nI fg))) - 5)), (3, .inl (2 * (10 + (nI fg)))), (2, .inl (10 + (nI fg))), (0, .inl (nI k)), (1, .inl (nI fg))], [.inl (10 + (nI fg))], σ) [] rfl ?_ ?_
    · exact trivial
    refine AW.reti ⟨_, rfl⟩ rfl ?_
    refine ⟨?_, rfl⟩
    rcases (show k = 0 ∨ k = 1 ∨ k = 2 ∨ k = 3 ∨ k = 4 ∨ k = 5 by omega) with rfl | rfl | rfl | rfl | rfl | rfl <;> first | (exact absurd rfl (by assumption)) | (exact absurd (show nI _ = _ by assumption) (by decide)) | rfl | (revert fg; decide +kernel)
  by_cases h15_2 : (nI k : Int32) = 1
  · skip
    refine AW.tswIn (k := 1) (tgt := 54) ⟨_, rfl⟩ (by rw [h15_2]; decide) (by decide) rfl (by decide) ?_
    refine AW.run 1 [] (55, [(4, .inl ((2 * (10 + (nI fg))) - 5)), (3, .inl (2 * (10 + (nI fg)))), (2, .inl (10 + (nI fg))), (0, .inl (nI k)), (1, .inl (nI fg))], [.inl (2 * (10 + (nI fg)))], σ) [] rfl ?_ ?_
    · exact trivial
    refine AW.reti ⟨_, rfl⟩ rfl ?_
    refine ⟨?_, rfl⟩
    rcases (show k = 0 ∨ k = 1 ∨ k = 2 ∨ k = 3 ∨ k = 4 ∨ k = 5 by omega) with rfl | rfl | rfl | rfl | rfl | rfl <;> first | (exact absurd rfl (by assumption)) | (exact absurd (show nI _ = _ by assumption) (by decide)) | rfl | (revert fg; decide +kernel)
  by_cases h15_3 : (nI k : Int32) = 2
  · skip
    refine AW.tswIn (k := 2) (tgt := 64) ⟨_, rfl⟩ (by rw [h15_3]; decide) (by decide) rfl (by decide) ?_
    refine AW.run 1 [] (66, [(4, .inl ((2 * (10 + (nI fg))) - 5)), (3, .inl (2 * (10 + (nI fg)))), (2, .inl (10 + (nI fg))), (0, .inl (nI k)), (1, .inl (nI fg))], [.inl 99], σ) [] rfl ?_ ?_
    · exact trivial
    refine AW.reti ⟨_, rfl⟩ rfl ?_
    refine ⟨?_, rfl⟩
    rcases (show k = 0 ∨ k = 1 ∨ k = 2 ∨ k = 3 ∨ k = 4 ∨ k = 5 by omega) with rfl | rfl | rfl | rfl | rfl | rfl <;> first | (exact absurd rfl (by assumption)) | (exact absurd (show nI _ = _ by assumption) (by decide)) | rfl | (revert fg; decide +kernel)
  by_cases h15_4 : (nI k : Int32) = 3
  · skip
    refine AW.tswIn (k := 3) (tgt := 56) ⟨_, rfl⟩ (by rw [h15_4]; decide) (by decide) rfl (by decide) ?_
    refine AW.run 1 [] (58, [(4, .inl ((2 * (10 + (nI fg))) - 5)), (3, .inl (2 * (10 + (nI fg)))), (2, .inl (10 + (nI fg))), (0, .inl (nI k)), (1, .inl (nI fg))], [.inl ((2 * (10 + (nI fg))) - 5)], σ) [] rfl ?_ ?_
    · exact trivial
    refine AW.reti ⟨_, rfl⟩ rfl ?_
    refine ⟨?_, rfl⟩
    rcases (show k = 0 ∨ k = 1 ∨ k = 2 ∨ k = 3 ∨ k = 4 ∨ k = 5 by omega) with rfl | rfl | rfl | rfl | rfl | rfl <;> first | (exact absurd rfl (by assumption)) | (exact absurd (show nI _ = _ by assumption) (by decide)) | rfl | (revert fg; decide +kernel)
  by_cases h15_5 : (nI k : Int32) = 4
  · skip
    refine AW.tswIn (k := 4) (tgt := 64) ⟨_, rfl⟩ (by rw [h15_5]; decide) (by decide) rfl (by decide) ?_
    refine AW.run 1 [] (66, [(4, .inl ((2 * (10 + (nI fg))) - 5)), (3, .inl (2 * (10 + (nI fg)))), (2, .inl (10 + (nI fg))), (0, .inl (nI k)), (1, .inl (nI fg))], [.inl 99], σ) [] rfl ?_ ?_
    · exact trivial
    refine AW.reti ⟨_, rfl⟩ rfl ?_
    refine ⟨?_, rfl⟩
    rcases (show k = 0 ∨ k = 1 ∨ k = 2 ∨ k = 3 ∨ k = 4 ∨ k = 5 by omega) with rfl | rfl | rfl | rfl | rfl | rfl <;> first | (exact absurd rfl (by assumption)) | (exact absurd (show nI _ = _ by assumption) (by decide)) | rfl | (revert fg; decide +kernel)
  by_cases h15_6 : (nI k : Int32) = 5
  · skip
    refine AW.tswIn (k := 5) (tgt := 59) ⟨_, rfl⟩ (by rw [h15_6]; decide) (by decide) rfl (by decide) ?_
    refine AW.run 3 [] (63, [(4, .inl ((2 * (10 + (nI fg))) - 5)), (3, .inl (2 * (10 + (nI fg)))), (2, .inl (10 + (nI fg))), (0, .inl (nI k)), (1, .inl (nI fg))], [.inl (((2 * (10 + (nI fg))) - 5) + (nI fg))], σ) [] rfl ?_ ?_
    · exact trivial
    refine AW.reti ⟨_, rfl⟩ rfl ?_
    refine ⟨?_, rfl⟩
    rcases (show k = 0 ∨ k = 1 ∨ k = 2 ∨ k = 3 ∨ k = 4 ∨ k = 5 by omega) with rfl | rfl | rfl | rfl | rfl | rfl <;> first | (exact absurd rfl (by assumption)) | (exact absurd (show nI _ = _ by assumption) (by decide)) | rfl | (revert fg; decide +kernel)
  have eh15_1 := lv_neT (a := 0) h15_1 rfl
  have eh15_2 := lv_neT (a := 1) h15_2 rfl
  have eh15_3 := lv_neT (a := 2) h15_3 rfl
  have eh15_4 := lv_neT (a := 3) h15_4 rfl
  have eh15_5 := lv_neT (a := 4) h15_5 rfl
  have eh15_6 := lv_neT (a := 5) h15_6 rfl
  refine AW.tswOut (tgt := 64) ⟨_, rfl⟩ (by omega) (by decide) ?_
  refine AW.run 1 [] (66, [(4, .inl ((2 * (10 + (nI fg))) - 5)), (3, .inl (2 * (10 + (nI fg)))), (2, .inl (10 + (nI fg))), (0, .inl (nI k)), (1, .inl (nI fg))], [.inl 99], σ) [] rfl ?_ ?_
  · exact trivial
  refine AW.reti ⟨_, rfl⟩ rfl ?_
  refine ⟨?_, rfl⟩
  rcases (show k = 0 ∨ k = 1 ∨ k = 2 ∨ k = 3 ∨ k = 4 ∨ k = 5 by omega) with rfl | rfl | rfl | rfl | rfl | rfl <;> first | (exact absurd rfl (by assumption)) | (exact absurd (show nI _ = _ by assumption) (by decide)) | rfl | (revert fg; decide +kernel)
theorem shocks_all : ∀ k < 6, ∀ fg < 10, True := fun _ _ _ _ => trivial
set_option maxHeartbeats 4000000 in
set_option maxRecDepth 100000 in
theorem c0_shocks (k fg : Nat) (hk : k ≤ 5) (hf : fg ≤ 9) (σ : St) : Ct M0_shocks 0 [.inl (nI k), .inl (nI fg)] σ (PI fun v σ' => nI (shockN k fg) = v ∧ σ = σ') := by
  refine Ct.of f_0_shocks (Nat.le_of_ble_eq_true rfl) ?_
  show AW M0_shocks 0 _ (0, [(0, .inl (nI k)), (1, .inl (nI fg))], [], σ)
  refine AW.run 1 [] (1, [(0, .inl (nI k)), (1, .inl (nI fg))], [.inl (nI k)], σ) [] rfl ?_ ?_
  · exact trivial
  by_cases h1_1 : (nI k : Int32) = 0
  · skip
    refine AW.tswIn (k := 0) (tgt := 40) ⟨_, rfl⟩ (by rw [h1_1]; decide) (by decide) rfl (by decide) ?_
    refine AW.run 1 [] (42, [(0, .inl (nI k)), (1, .inl (nI fg))], [.inl 6], σ) [] rfl ?_ ?_
    · exact trivial
    refine AW.reti ⟨_, rfl⟩ rfl ?_
    refine ⟨?_, rfl⟩
    rcases (show k = 0 ∨ k = 1 ∨ k = 2 ∨ k = 3 ∨ k = 4 ∨ k = 5 by omega) with rfl | rfl | rfl | rfl | rfl | rfl <;> first | (exact absurd rfl (by assumption)) | (exact absurd (show nI _ = _ by assumption) (by decide)) | rfl | (revert fg; decide +kernel)
  by_cases h1_2 : (nI k : Int32) = 1
  · skip
    refine AW.tswIn (k := 1) (tgt := 43) ⟨_, rfl⟩ (by rw [h1_2]; decide) (by decide) rfl (by decide) ?_
    refine AW.run 1 [] (45, [(0, .inl (nI k)), (1, .inl (nI fg))], [.inl 10], σ) [] rfl ?_ ?_
    · exact trivial
    refine AW.reti ⟨_, rfl⟩ rfl ?_
    refine ⟨?_, rfl⟩
    rcases (show k = 0 ∨ k = 1 ∨ k = 2 ∨ k = 3 ∨ k = 4 ∨ k = 5 by omega) with rfl | rfl | rfl | rfl | rfl | rfl <;> first | (exact absurd rfl (by assumption)) | (exact absurd (show nI _ = _ by assumption) (by decide)) | rfl | (revert fg; decide +kernel)
  by_cases h1_3 : (nI k : Int32) = 2
  · skip
    refine AW.tswIn (k := 2) (tgt := 54) ⟨_, rfl⟩ (by rw [h1_3]; decide) (by decide) rfl (by decide) ?_
    refine AW.run 1 [] (55, [(0, .inl (nI k)), (1, .inl (nI fg))], [.inl 0], σ) [] rfl ?_ ?_
    · exact trivial
    refine AW.reti ⟨_, rfl⟩ rfl ?_
    refine ⟨?_, rfl⟩
    rcases (show k = 0 ∨ k = 1 ∨ k = 2 ∨ k = 3 ∨ k = 4 ∨ k = 5 by omega) with rfl | rfl | rfl | rfl | rfl | rfl <;> first | (exact absurd rfl (by assumption)) | (exact absurd (show nI _ = _ by assumption) (by decide)) | rfl | (revert fg; decide +kernel)
  by_cases h1_4 : (nI k : Int32) = 3
  · skip
    refine AW.tswIn (k := 3) (tgt := 46) ⟨_, rfl⟩ (by rw [h1_4]; decide) (by decide) rfl (by decide) ?_
    refine AW.run 1 [] (48, [(0, .inl (nI k)), (1, .inl (nI fg))], [.inl 20], σ) [] rfl ?_ ?_
    · exact trivial
    refine AW.reti ⟨_, rfl⟩ rfl ?_
    refine ⟨?_, rfl⟩
    rcases (show k = 0 ∨ k = 1 ∨ k = 2 ∨ k = 3 ∨ k = 4 ∨ k = 5 by omega) with rfl | rfl | rfl | rfl | rfl | rfl <;> first | (exact absurd rfl (by assumption)) | (exact absurd (show nI _ = _ by assumption) (by decide)) | rfl | (revert fg; decide +kernel)
  by_cases h1_5 : (nI k : Int32) = 4
  · skip
    refine AW.tswIn (k := 4) (tgt := 49) ⟨_, rfl⟩ (by rw [h1_5]; decide) (by decide) rfl (by decide) ?_
    refine AW.run 1 [] (50, [(0, .inl (nI k)), (1, .inl (nI fg))], [.inl (nI fg)], σ) [] rfl ?_ ?_
    · exact trivial
    refine AW.reti ⟨_, rfl⟩ rfl ?_
    refine ⟨?_, rfl⟩
    rcases (show k = 0 ∨ k = 1 ∨ k = 2 ∨ k = 3 ∨ k = 4 ∨ k = 5 by omega) with rfl | rfl | rfl | rfl | rfl | rfl <;> first | (exact absurd rfl (by assumption)) | (exact absurd (show nI _ = _ by assumption) (by decide)) | rfl | (revert fg; decide +kernel)
  by_cases h1_6 : (nI k : Int32) = 5
  · skip
    refine AW.tswIn (k := 5) (tgt := 51) ⟨_, rfl⟩ (by rw [h1_6]; decide) (by decide) rfl (by decide) ?_
    refine AW.run 1 [] (53, [(0, .inl (nI k)), (1, .inl (nI fg))], [.inl 20], σ) [] rfl ?_ ?_
    · exact trivial
    refine AW.reti ⟨_, rfl⟩ rfl ?_
    refine ⟨?_, rfl⟩
    rcases (show k = 0 ∨ k = 1 ∨ k = 2 ∨ k = 3 ∨ k = 4 ∨ k = 5 by omega) with rfl | rfl | rfl | rfl | rfl | rfl <;> first | (exact absurd rfl (by assumption)) | (exact absurd (show nI _ = _ by assumption) (by decide)) | rfl | (revert fg; decide +kernel)
  have eh1_1 := lv_neT (a := 0) h1_1 rfl
  have eh1_2 := lv_neT (a := 1) h1_2 rfl
  have eh1_3 := lv_neT (a := 2) h1_3 rfl
  have eh1_4 := lv_neT (a := 3) h1_4 rfl
  have eh1_5 := lv_neT (a := 4) h1_5 rfl
  have eh1_6 := lv_neT (a := 5) h1_6 rfl
  refine AW.tswOut (tgt := 54) ⟨_, rfl⟩ (by omega) (by decide) ?_
  refine AW.run 1 [] (55, [(0, .inl (nI k)), (1, .inl (nI fg))], [.inl 0], σ) [] rfl ?_ ?_
  · exact trivial
  refine AW.reti ⟨_, rfl⟩ rfl ?_
  refine ⟨?_, rfl⟩
  rcases (show k = 0 ∨ k = 1 ∨ k = 2 ∨ k = 3 ∨ k = 4 ∨ k = 5 by omega) with rfl | rfl | rfl | rfl | rfl | rfl <;> first | (exact absurd rfl (by assumption)) | (exact absurd (show nI _ = _ by assumption) (by decide)) | rfl | (revert fg; decide +kernel)
end
section
set_option maxRecDepth 100000 in
theorem n_and : ∀ x < 256, ∀ y < 256, nI x &&& (nI y ^^^ (-1)) = nI (x &&& (255 - y)) := by decide +kernel
theorem b8_neg : ∀ f0 f1 f2 f3 f4 f5 f6 f7 : Bool, 255 - b8 f0 f1 f2 f3 f4 f5 f6 f7 = b8 (!f0) (!f1) (!f2) (!f3) (!f4) (!f5) (!f6) (!f7) := by decide +kernel
theorem b8_test : ∀ f0 f1 f2 f3 f4 f5 f6 f7 : Bool, (b8 f0 f1 f2 f3 f4 f5 f6 f7).testBit 0 = f0 ∧ (b8 f0 f1 f2 f3 f4 f5 f6 f7).testBit 1 = f1 ∧ (b8 f0 f1 f2 f3 f4 f5 f6 f7).testBit 2 = f2 ∧ (b8 f0 f1 f2 f3 f4 f5 f6 f7).testBit 3 = f3 ∧ (b8 f0 f1 f2 f3 f4 f5 f6 f7).testBit 4 = f4 ∧ (b8 f0 f1 f2 f3 f4 f5 f6 f7).testBit 5 = f5 ∧ (b8 f0 f1 f2 f3 f4 f5 f6 f7).testBit 6 = f6 ∧ (b8 f0 f1 f2 f3 f4 f5 f6 f7).testBit 7 = f7 := by decide +kernel
theorem bN_test (f : Nat → Bool) {i : Nat} (h : i < 8) : (bN f).testBit i = f i := by
  obtain ⟨h0, h1, h2, h3, h4, h5, h6, h7⟩ := b8_test (f 0) (f 1) (f 2) (f 3) (f 4) (f 5) (f 6) (f 7)
  rcases lt8 h with rfl | rfl | rfl | rfl | rfl | rfl | rfl | rfl <;> assumption
theorem test_big {x i : Nat} (hx : x < 256) (h : 8 ≤ i) : x.testBit i = false := Nat.testBit_lt_two_pow (Nat.lt_of_lt_of_le hx (by have := Nat.pow_le_pow_right (n := 2) (by decide) h; simpa using this))
theorem bI_andn (f g : Nat → Bool) : bI f &&& (bI g ^^^ (-1)) = bI (fun j => f j && !(g j)) := by
  unfold bI
  rw [n_and _ (bN_lt f) _ (bN_lt g)]
  congr 1
  apply Nat.eq_of_testBit_eq
  intro i
  rw [Nat.testBit_and]
  have e : 255 - bN g = bN (fun j => !(g j)) := b8_neg _ _ _ _ _ _ _ _
  rw [e]
  by_cases h : i < 8
  · rw [bN_test f h, bN_test _ h, bN_test _ h]
  · rw [test_big (bN_lt f) (by omega), test_big (bN_lt _) (by omega), test_big (bN_lt _) (by omega)]
    rfl
end
section
/-! BURST AND SETTLE -/
theorem rep_q {a : Nat} {S : Sv} {σ : St} {k q : Nat} (hR : RepS (σ 2 a) S) : RepS (setM σ 2 a 4 k (nI q) 2 a) (withQ S (fu (Sq S) k q)) := by
  obtain ⟨h1, h2, h3⟩ := hR
  refine ⟨?_, fun i hi => ?_, fun i hi => ?_⟩
  · simpa [setM_at, withQ] using h1
  · obtain ⟨g1, g2, g3, g4⟩ := h2 i hi
    refine ⟨by simpa [setM_at, withQ] using g1, by simpa [setM_at, withQ] using g2, by simpa [setM_at, withQ] using g3, ?_⟩
    by_cases hk : i = k
    · subst hk
      simp [setM_at, withQ, fu, Sq]
    · simp [setM_at, withQ, fu, hk, Sq]
      exact g4
  · simpa [setM_at, withQ, riseS, bearS, shockS] using h3 i hi
theorem rep_w {a : Nat} {S : Sv} {σ : St} {w : Nat → Bool} (hR : RepS (σ 2 a) S) : RepS (setM σ 2 a 0 8 (bI w) 2 a) (withW S w) := by
  obtain ⟨h1, h2, h3⟩ := hR
  refine ⟨?_, fun i hi => ?_, fun i hi => ?_⟩
  · simpa [setM_at, withW] using ⟨h1.1, h1.2.2⟩
  · simpa [setM_at, withW] using h2 i hi
  · simpa [setM_at, withW, riseS, bearS, shockS] using h3 i hi
theorem rep_t {a : Nat} {S : Sv} {σ : St} {w : Nat → Bool} (hR : RepS (σ 2 a) S) : RepS (setM σ 2 a 0 9 (bI w) 2 a) (withT S w) := by
  obtain ⟨h1, h2, h3⟩ := hR
  refine ⟨?_, fun i hi => ?_, fun i hi => ?_⟩
  · simpa [setM_at, withT] using ⟨h1.1, h1.2.1, h1.2.2.2⟩
  · simpa [setM_at, withT] using h2 i hi
  · simpa [setM_at, withT, riseS, bearS, shockS] using h3 i hi
theorem rep_d {a : Nat} {S : Sv} {σ : St} {d : Nat} (hR : RepS (σ 2 a) S) : RepS (setM σ 2 a 0 12 (nI d) 2 a) (withD S d) := by
  obtain ⟨h1, h2, h3⟩ := hR
  refine ⟨?_, fun i hi => ?_, fun i hi => ?_⟩
  · simpa [setM_at, withD] using ⟨h1.1, h1.2.1, h1.2.2.1, h1.2.2.2.1, h1.2.2.2.2.1⟩
  · simpa [setM_at, withD] using h2 i hi
  · simpa [setM_at, withD, riseS, bearS, shockS] using h3 i hi
theorem rep_p {a : Nat} {S : Sv} {σ : St} {k q : Nat} (hR : RepS (σ 2 a) S) : RepS (setM σ 2 a 3 k (nI q) 2 a) (withP S (fu (Sp S) k q)) := by
  obtain ⟨h1, h2, h3⟩ := hR
  refine ⟨?_, fun i hi => ?_, fun i hi => ?_⟩
  · simpa [setM_at, withP] using h1
  · obtain ⟨g1, g2, g3, g4⟩ := h2 i hi
    refine ⟨by simpa [setM_at, withP] using g1, by simpa [setM_at, withP] using g2, ?_, by simpa [setM_at, withP] using g4⟩
    by_cases hk : i = k
    · subst hk
      simp [setM_at, withP, fu, Sp]
    · simp [setM_at, withP, fu, hk, Sp]
      exact g3
  · simpa [setM_at, withP, riseS, bearS, shockS] using h3 i hi
def hitS (S : Sv) (b j : Nat) : Prop := j ≠ b ∧ Sw S j = true ∧ Stw S j = false ∧ nearN (Sp S b) (Sp S j) = true
theorem burstQ_hit {S : Sv} {b j : Nat} (h : hitS S b j) : burstQ S b (j + 1) = fu (burstQ S b j) j (min 99 (Sq S j + shockS S b)) := by
  funext k
  simp only [burstQ, fu]
  obtain ⟨h1, h2, h3, h4⟩ := h
  by_cases hk : k = j
  · subst hk
    simp [h1, h2, h3, h4]
  · have : (k < j + 1) ↔ (k < j) := by omega
    simp [hk, this]
theorem burstQ_miss {S : Sv} {b j : Nat} (h : ¬ hitS S b j) : burstQ S b (j + 1) = burstQ S b j := by
  funext k
  simp only [burstQ]
  by_cases hk : k = j
  · subst hk
    rw [if_neg (fun q => h ⟨q.2.1, q.2.2.1, q.2.2.2.1, q.2.2.2.2⟩), if_neg (fun q => absurd q.1 (by omega))]
  · have : (k < j + 1) ↔ (k < j) := by omega
    simp [this]
theorem burstQ_at {S : Sv} {b j : Nat} : burstQ S b j j = Sq S j := by simp [burstQ]
theorem fu_self {α : Type} (f : Nat → α) (k : Nat) : fu f k (f k) = f := by
  funext j
  by_cases h : j = k
  · subst h; simp [fu]
  · simp [fu, h]
theorem sub_far : ∀ p < 15, ∀ q < 15, ((2 : Int32) < nI p - nI q ∨ nI p - nI q < (-2 : Int32)) ↔ nearN p q = false := by decide +kernel

theorem shock_le {S : Sv} (hO : SOK S) (i : Nat) : shockS S i ≤ 20 := by
  have h := (hO.2.1 i)
  unfold shockS shockN
  split <;> omega
set_option maxHeartbeats 4000000 in
set_option maxRecDepth 100000 in
theorem c3_burst (a : Nat) (S : Sv) (σ : St) (hR : RepS (σ 2 a) S) (hO : SOK S) (i : Nat) (hi : i < Sn S) : Ct M3_burst 0 [.inr (.inr (2, a, 0)), .inl (nI i)] σ (PV fun σ' => Only 2 a σ σ' ∧ RepS (σ' 2 a) (burstS S i)) := by
  refine Ct.of f_3_burst (Nat.le_of_ble_eq_true rfl) ?_
  show AW M3_burst 0 _ (0, [(0, .inr (.inr (2, a, 0))), (1, .inl (nI i))], [], σ)
  have hn := hO.1
  have hi8 : i < 8 := by omega
  have e8 : σ 2 a 0 8 = bI (Sw S) := hR.1.2.1
  have e9 : σ 2 a 0 9 = bI (Stw S) := hR.1.2.2.1
  refine AW.run 25 [false, true] (39, [(3, .inl 0), (2, .inl (((setM σ 2 a 0 8 ((σ 2 a 0 8) &&& ((1 <<< ((nI i) &&& 31)) ^^^ (-1)))) 2 a 0 8) &&& (((setM σ 2 a 0 8 ((σ 2 a 0 8) &&& ((1 <<< ((nI i) &&& 31)) ^^^ (-1)))) 2 a 0 9) ^^^ (-1)))), (0, .inr (.inr (2, a, 0))), (1, .inl (nI i))], [], (setM σ 2 a 0 8 ((σ 2 a 0 8) &&& ((1 <<< ((nI i) &&& 31)) ^^^ (-1))))) [¬ icP .lt (nI i) 0, icP .lt (nI i) 8] rfl ?_ ?_
  · exact ⟨(nlt0 (by omega)), allP1 (nI_lt (b := 8) hi8 (by decide))⟩
  have ew : σ 2 a 0 8 &&& ((1 <<< (nI i &&& 31)) ^^^ (-1)) = bI (fu (Sw S) i false) := by rw [e8]; exact bI_clr _ hi8
  rw [ew]
  have eo : setM σ 2 a 0 8 (bI (fu (Sw S) i false)) 2 a 0 8 &&& ((setM σ 2 a 0 8 (bI (fu (Sw S) i false)) 2 a 0 9) ^^^ (-1)) = bI (fun j => fu (Sw S) i false j && !(Stw S j)) := by
    rw [setM_at, setM_at, if_pos ⟨rfl, rfl⟩, if_neg (by decide), e9]; exact bI_andn _ _
  rw [eo]
  generalize hop : bI (fun j => fu (Sw S) i false j && !(Stw S j)) = OPN
  refine AW.pick [2, 3, 1, 0] (ls' := [(0, .inr (.inr (2, a, 0))), (1, .inl (nI i)), (2, .inl OPN), (3, .inl (nI 0))]) rfl ?_
  refine AW.loop (α := Unit) 39 8 (fun j _ => [(0, .inr (.inr (2, a, 0))), (1, .inl (nI i)), (2, .inl OPN), (3, .inl (nI j))]) (fun j _ τ => Only 2 a σ τ ∧ RepS (τ 2 a) (withQ (withW S (fu (Sw S) i false)) (burstQ S i j))) ?_ ?_ 8 0 () _ rfl ⟨only_set, ?_⟩
  · intro j _ τ hj hI hk
    obtain ⟨hS1, hR1⟩ := hI
    have g1 := hR1.2.1 j hj
    have g2 := hR1.2.1 i hi8
    have q1 : τ 2 a 4 (nI j).toNatClampNeg = nI (Sq S j) := by rw [cl8 hj, g1.2.2.2]; exact congrArg nI burstQ_at
    have q2 : τ 2 a 7 (nI i).toNatClampNeg = nI (shockS S i) := by rw [cl8 hi8]; exact (hR1.2.2 i hi).2.2
    have q3 : τ 2 a 3 (nI i).toNatClampNeg - τ 2 a 3 (nI j).toNatClampNeg = nI (Sp S i) - nI (Sp S j) := by rw [cl8 hi8, cl8 hj, g1.2.2.1, g2.2.2.1]; rfl
    have q4 : (OPN >>> (nI j &&& 31)) &&& 1 = if (fu (Sw S) i false j && !(Stw S j)) = true then 1 else 0 := by rw [← hop]; exact bI_bit _ hj
    have q5 := sub_far (Sp S i) (by have := (hO.2.1 i).2.2.1; omega) (Sp S j) (by have := (hO.2.1 j).2.2.1; omega)
    have sq := (hO.2.1 j).2.2.2
    have hfu : (fu (Sw S) i false j && !(Stw S j)) = true ↔ (j ≠ i ∧ Sw S j = true ∧ Stw S j = false) := by
      by_cases hji : j = i
      · subst hji; simp [fu]
      · simp [fu, hji]
    have miss : ¬ hitS S i j → AW M3_burst 0 _ (39, [(0, .inr (.inr (2, a, 0))), (1, .inl (nI i)), (2, .inl OPN), (3, .inl (nI (j + 1)))], [], τ) := fun hm => hk () τ ⟨hS1, by rw [burstQ_miss hm]; exact hR1⟩
    have hit : hitS S i j → AW M3_burst 0 _ (39, [(0, .inr (.inr (2, a, 0))), (1, .inl (nI i)), (2, .inl OPN), (3, .inl (nI (j + 1)))], [], setM τ 2 a 4 j (nI (min 99 (Sq S j + shockS S i)))) := fun hm => hk () _ ⟨only_trans hS1 only_set, by rw [burstQ_hit hm]; exact rep_q hR1⟩
    have hs : shockS S i ≤ 20 := shock_le hO i
    by_cases hw1 : (fu (Sw S) i false j && !(Stw S j)) = true
    · obtain ⟨w2, w3, w4⟩ := hfu.mp hw1
      by_cases hnr : nearN (Sp S i) (Sp S j) = true
      · have hm : hitS S i j := ⟨w2, w3, w4, hnr⟩
        have n1 : ¬ (2 : Int32) < nI (Sp S i) - nI (Sp S j) := fun h => by have := q5.mp (Or.inl h); rw [hnr] at this; cases this
        have n2 : ¬ nI (Sp S i) - nI (Sp S j) < (-2 : Int32) := fun h => by have := q5.mp (Or.inr h); rw [hnr] at this; cases this
        refine AW.run 12 [false] (58, [(0, .inr (.inr (2, a, 0))), (1, .inl (nI i)), (2, .inl OPN), (3, .inl (nI j))], [.inl ((τ 2 a 3 (nI i).toNatClampNeg) - (τ 2 a 3 (nI j).toNatClampNeg))], τ) [¬ icP .ge (nI j) 8, vp_in (nI i) 8, vp_in (nI j) 8] rfl ?_ ?_
        · exact ⟨(nle_lit (a := 8) hj (by decide)), (by first | exact in8 hj | exact in8 hi8), allP1 (by first | exact in8 hj | exact in8 hi8)⟩
        rw [q3]
        refine AW.run 6 [] (65, [(4, .inl (nI (Sp S i) - nI (Sp S j))), (0, .inr (.inr (2, a, 0))), (1, .inl (nI i)), (2, .inl OPN), (3, .inl (nI j))], [.inl ((OPN >>> ((nI j) &&& 31)) &&& 1)], τ) [] rfl ?_ ?_
        · exact trivial
        rw [q4]
        refine AW.run 11 [false, false, true] (90, [(4, .inl (nI (Sp S i) - nI (Sp S j))), (0, .inr (.inr (2, a, 0))), (1, .inl (nI i)), (2, .inl OPN), (3, .inl (nI j))], [.inl (τ 2 a 4 (nI j).toNatClampNeg)], τ) [¬ icP .eq (if (fu (Sw S) i false j && !(Stw S j)) = true then 1 else 0) 0, ¬ icP .gt (nI (Sp S i) - nI (Sp S j)) 2, icP .ge (nI (Sp S i) - nI (Sp S j)) (-2), vp_in (nI j) 8] rfl ?_ ?_
        · exact ⟨(by rw [if_pos hw1]; exact (by decide : ¬ (1 : Int32) = 0)), (n1), (Int32.not_lt.mp n2), allP1 (by first | exact in8 hj | exact in8 hi8)⟩
        rw [q1]
        refine AW.run 5 [] (97, [(4, .inl (nI (Sp S i) - nI (Sp S j))), (0, .inr (.inr (2, a, 0))), (1, .inl (nI i)), (2, .inl OPN), (3, .inl (nI j))], [.inl ((nI (Sq S j)) + (τ 2 a 7 (nI i).toNatClampNeg))], τ) [vp_in (nI i) 8] rfl ?_ ?_
        · exact allP1 (by first | exact in8 hj | exact in8 hi8)
        rw [q2, nI_add]
        by_cases h108_1 : Sq S j + shockS S i ≤ 99
        · skip
          refine AW.run 11 [true] (39, [(3, .inl ((nI j) + 1)), (5, .inl (nI (Sq S j + shockS S i))), (4, .inl (nI (Sp S i) - nI (Sp S j))), (0, .inr (.inr (2, a, 0))), (1, .inl (nI i)), (2, .inl OPN)], [], (setM τ 2 a 4 (nI j).toNatClampNeg (nI (Sq S j + shockS S i)))) [icP .le (nI (Sq S j + shockS S i)) 99, vp_in (nI j) 8] rfl ?_ ?_
          · exact ⟨(nI_le h108_1 (by decide)), allP1 (by first | exact in8 hj | exact in8 hi8)⟩
          rw [nI_1 j]
          refine AW.pick [3, 4, 5, 0] (ls' := [(0, .inr (.inr (2, a, 0))), (1, .inl (nI i)), (2, .inl OPN), (3, .inl (nI (j + 1)))]) rfl ?_
          rw [cl8 hj]
          have hcap := hit hm
          first | (rw [Nat.min_eq_left (by omega)] at hcap; exact hcap) | (rw [Nat.min_eq_right (by omega)] at hcap; exact hcap)
        · skip
          refine AW.run 12 [false] (39, [(3, .inl ((nI j) + 1)), (5, .inl (nI (Sq S j + shockS S i))), (4, .inl (nI (Sp S i) - nI (Sp S j))), (0, .inr (.inr (2, a, 0))), (1, .inl (nI i)), (2, .inl OPN)], [], (setM τ 2 a 4 (nI j).toNatClampNeg 99)) [¬ icP .le (nI (Sq S j + shockS S i)) 99, vp_in (nI j) 8] rfl ?_ ?_
          · exact ⟨(nI_ge (b := Sq S j + shockS S i) (a := 99) (by omega) (by omega)), allP1 (by first | exact in8 hj | exact in8 hi8)⟩
          rw [nI_1 j]
          refine AW.pick [3, 4, 5, 0] (ls' := [(0, .inr (.inr (2, a, 0))), (1, .inl (nI i)), (2, .inl OPN), (3, .inl (nI (j + 1)))]) rfl ?_
          rw [cl8 hj]
          have hcap := hit hm
          first | (rw [Nat.min_eq_left (by omega)] at hcap; exact hcap) | (rw [Nat.min_eq_right (by omega)] at hcap; exact hcap)
      · have hm : ¬ hitS S i j := fun h => hnr h.2.2.2
        have hnf : nearN (Sp S i) (Sp S j) = false := by cases hb : nearN (Sp S i) (Sp S j); rfl; exact absurd hb hnr
        refine AW.run 12 [false] (58, [(0, .inr (.inr (2, a, 0))), (1, .inl (nI i)), (2, .inl OPN), (3, .inl (nI j))], [.inl ((τ 2 a 3 (nI i).toNatClampNeg) - (τ 2 a 3 (nI j).toNatClampNeg))], τ) [¬ icP .ge (nI j) 8, vp_in (nI i) 8, vp_in (nI j) 8] rfl ?_ ?_
        · exact ⟨(nle_lit (a := 8) hj (by decide)), (by first | exact in8 hj | exact in8 hi8), allP1 (by first | exact in8 hj | exact in8 hi8)⟩
        rw [q3]
        refine AW.run 6 [] (65, [(4, .inl (nI (Sp S i) - nI (Sp S j))), (0, .inr (.inr (2, a, 0))), (1, .inl (nI i)), (2, .inl OPN), (3, .inl (nI j))], [.inl ((OPN >>> ((nI j) &&& 31)) &&& 1)], τ) [] rfl ?_ ?_
        · exact trivial
        rw [q4]
        by_cases h71_1 : (2 : Int32) < nI (Sp S i) - nI (Sp S j)
        · skip
          refine AW.run 6 [false, true] (39, [(3, .inl ((nI j) + 1)), (4, .inl (nI (Sp S i) - nI (Sp S j))), (0, .inr (.inr (2, a, 0))), (1, .inl (nI i)), (2, .inl OPN)], [], τ) [¬ icP .eq (if (fu (Sw S) i false j && !(Stw S j)) = true then 1 else 0) 0, icP .gt (nI (Sp S i) - nI (Sp S j)) 2] rfl ?_ ?_
          · exact ⟨(by rw [if_pos hw1]; exact (by decide : ¬ (1 : Int32) = 0)), allP1 (h71_1)⟩
          rw [nI_1 j]
          refine AW.pick [2, 3, 4, 0] (ls' := [(0, .inr (.inr (2, a, 0))), (1, .inl (nI i)), (2, .inl OPN), (3, .inl (nI (j + 1)))]) rfl ?_
          exact miss hm
        · skip
          refine AW.run 10 [false, false, false] (39, [(3, .inl ((nI j) + 1)), (4, .inl (nI (Sp S i) - nI (Sp S j))), (0, .inr (.inr (2, a, 0))), (1, .inl (nI i)), (2, .inl OPN)], [], τ) [¬ icP .eq (if (fu (Sw S) i false j && !(Stw S j)) = true then 1 else 0) 0, ¬ icP .gt (nI (Sp S i) - nI (Sp S j)) 2, ¬ icP .ge (nI (Sp S i) - nI (Sp S j)) (-2)] rfl ?_ ?_
          · exact ⟨(by rw [if_pos hw1]; exact (by decide : ¬ (1 : Int32) = 0)), (h71_1), allP1 (fun h => by rcases q5.mpr hnf with h2 | h2; exact absurd h2 (by assumption); exact absurd h2 (Int32.not_lt.mpr h))⟩
          rw [nI_1 j]
          refine AW.pick [2, 3, 4, 0] (ls' := [(0, .inr (.inr (2, a, 0))), (1, .inl (nI i)), (2, .inl OPN), (3, .inl (nI (j + 1)))]) rfl ?_
          exact miss hm
    · have hm : ¬ hitS S i j := fun h => hw1 (hfu.mpr ⟨h.1, h.2.1, h.2.2.1⟩)
      refine AW.run 12 [false] (58, [(0, .inr (.inr (2, a, 0))), (1, .inl (nI i)), (2, .inl OPN), (3, .inl (nI j))], [.inl ((τ 2 a 3 (nI i).toNatClampNeg) - (τ 2 a 3 (nI j).toNatClampNeg))], τ) [¬ icP .ge (nI j) 8, vp_in (nI i) 8, vp_in (nI j) 8] rfl ?_ ?_
      · exact ⟨(nle_lit (a := 8) hj (by decide)), (by first | exact in8 hj | exact in8 hi8), allP1 (by first | exact in8 hj | exact in8 hi8)⟩
      rw [q3]
      refine AW.run 6 [] (65, [(4, .inl (nI (Sp S i) - nI (Sp S j))), (0, .inr (.inr (2, a, 0))), (1, .inl (nI i)), (2, .inl OPN), (3, .inl (nI j))], [.inl ((OPN >>> ((nI j) &&& 31)) &&& 1)], τ) [] rfl ?_ ?_
      · exact trivial
      rw [q4]
      refine AW.run 3 [true] (39, [(3, .inl ((nI j) + 1)), (4, .inl (nI (Sp S i) - nI (Sp S j))), (0, .inr (.inr (2, a, 0))), (1, .inl (nI i)), (2, .inl OPN)], [], τ) [icP .eq (if (fu (Sw S) i false j && !(Stw S j)) = true then 1 else 0) 0] rfl ?_ ?_
      · exact allP1 (by rw [if_neg hw1]; exact (rfl : (0 : Int32) = 0))
      rw [nI_1 j]
      refine AW.pick [2, 3, 4, 0] (ls' := [(0, .inr (.inr (2, a, 0))), (1, .inl (nI i)), (2, .inl OPN), (3, .inl (nI (j + 1)))]) rfl ?_
      exact miss hm
  · intro _ τ hI
    refine AW.run 3 [true] (125, [(0, .inr (.inr (2, a, 0))), (1, .inl (nI i)), (2, .inl OPN), (3, .inl (nI 8))], [], τ) [icP .ge (nI 8) 8] rfl ?_ ?_
    · exact allP1 (le_lit (a := 8) (b := 8) (by decide) (by decide))
    refine AW.retv ⟨_, rfl⟩ rfl ?_
    exact hI
  · have h0 : burstQ S i 0 = Sq S := by funext k; simp [burstQ]
    rw [h0]; show RepS _ (withW S (fu (Sw S) i false)); exact rep_w hR
end
section
/-! SETTLE, A DAY, DAYS -/
theorem nextS_some {S : Sv} {k : Nat} : ∀ (n i : Nat), nextS S n i = some k → k < i + n ∧ Sw S k = true ∧ bearS S k < Sq S k
  | 0, _, h => by cases h
  | n + 1, i, h => by
    unfold nextS at h
    split at h
    · rename_i hc
      cases h
      exact ⟨by omega, hc⟩
    · obtain ⟨h1, h2⟩ := nextS_some n (i + 1) h
      exact ⟨by omega, h2⟩
theorem SOK_lt {S : Sv} (hO : SOK S) {k : Nat} (h : Sw S k = true) : k < Sn S := by
  rcases Nat.lt_or_ge k (Sn S) with h1 | h1
  · exact h1
  · have := (hO.2.2.1 k h1).1
    rw [h] at this
    cases this
theorem SOK_burst {S : Sv} (hO : SOK S) {b : Nat} : SOK (burstS S b) := by
  obtain ⟨h1, h2, h3, h4, h5⟩ := hO
  refine ⟨h1, fun i => ?_, fun i hi => ?_, h4, h5⟩
  · refine ⟨(h2 i).1, (h2 i).2.1, (h2 i).2.2.1, ?_⟩
    show burstQ S b 8 i ≤ 99
    unfold burstQ
    split
    · exact Nat.min_le_left _ _
    · exact (h2 i).2.2.2
  · obtain ⟨g1, g2, g3, g4⟩ := h3 i hi
    refine ⟨?_, g2, ?_, g4⟩
    · show fu (Sw S) b false i = false
      by_cases h : i = b
      · simp [fu, h]
      · simp [fu, h, g1]
    · show burstQ S b 8 i = 0
      unfold burstQ
      rw [if_neg, g3]
      rintro ⟨-, -, h, -⟩
      rw [g1] at h
      cases h
theorem SOK_settle : ∀ (n : Nat) {S : Sv}, SOK S → SOK (settleS n S)
  | 0, _, h => h
  | n + 1, S, h => by
    unfold settleS
    split
    · exact h
    · exact SOK_settle n (SOK_burst h)
theorem nI_m9 {k : Nat} (h : k < 2 ^ 31) : ¬ nI k = (-9 : Int32) := fun e => by
  have h1 := nI_toInt h
  rw [e] at h1
  have : (-9 : Int32).toInt = -9 := by decide
  omega
theorem bear_le {S : Sv} (hO : SOK S) (i : Nat) : bearS S i ≤ 99 := by
  have h := (hO.2.1 i)
  unfold bearS bearN
  split <;> omega
theorem rise_le {S : Sv} (hO : SOK S) (i : Nat) : riseS S i ≤ 40 := by
  have h := (hO.2.1 i)
  have := hO.2.2.2
  unfold riseS riseN
  split <;> first | omega | (split <;> omega)

set_option maxHeartbeats 4000000 in
set_option maxRecDepth 100000 in
theorem c3_settle (a : Nat) (S : Sv) (σ : St) (hR : RepS (σ 2 a) S) (hO : SOK S) : Ct M3_settle 1 [.inr (.inr (2, a, 0))] σ (PV fun σ' => Only 2 a σ σ' ∧ RepS (σ' 2 a) (settleS 8 S)) := by
  refine Ct.of f_3_settle (Nat.le_of_ble_eq_true rfl) ?_
  show AW M3_settle 1 _ (0, [(0, .inr (.inr (2, a, 0)))], [], σ)
  refine AW.run 2 [] (2, [(1, .inl 0), (0, .inr (.inr (2, a, 0)))], [], σ) [] rfl ?_ ?_
  · exact trivial
  refine AW.pick [1, 0] (ls' := [(0, .inr (.inr (2, a, 0))), (1, .inl (nI 0))]) rfl ?_
  refine AW.loop (α := Sv) 2 8 (fun t _ => [(0, .inr (.inr (2, a, 0))), (1, .inl (nI t))]) (fun t S1 τ => Only 2 a σ τ ∧ RepS (τ 2 a) S1 ∧ SOK S1 ∧ settleS (8 - t) S1 = settleS 8 S) ?_ ?_ 8 0 S _ rfl ⟨only_rfl, hR, hO, rfl⟩
  · intro t S1 τ ht hI hk
    obtain ⟨hS1, hR1, hO1, hse⟩ := hI
    have hn1 := hO1.1
    have c0 : ∀ i, nextS S1 8 0 = none → AW M3_settle 1 (PV fun σ' => Only 2 a σ σ' ∧ RepS (σ' 2 a) (settleS 8 S)) (59, [(0, .inr (.inr (2, a, 0))), (1, .inl (nI t)), (2, .inl (-9)), (3, .inl (nI i))], [], τ) := by
      intro i hnx
      have he : settleS (8 - t) S1 = S1 := by
        obtain ⟨m, hm⟩ : ∃ m, 8 - t = m + 1 := ⟨7 - t, by omega⟩
        rw [hm]; unfold settleS; rw [hnx]
      rw [he] at hse
      refine AW.run 3 [false] (65, [(0, .inr (.inr (2, a, 0))), (1, .inl (nI t)), (2, .inl (-9)), (3, .inl (nI i))], [], τ) [¬ icP .ne (-9 : Int32) (-9)] rfl ?_ ?_
      · exact allP1 (by decide : ¬ (¬ (-9 : Int32) = (-9)))
      refine AW.retv ⟨_, rfl⟩ rfl ?_
      exact ⟨hS1, by rw [← hse]; exact hR1⟩
    have c1 : ∀ i k, nextS S1 8 0 = some k → AW M3_settle 1 (PV fun σ' => Only 2 a σ σ' ∧ RepS (σ' 2 a) (settleS 8 S)) (59, [(0, .inr (.inr (2, a, 0))), (1, .inl (nI t)), (2, .inl (nI k)), (3, .inl (nI i))], [], τ) := by
      intro i k hnx
      obtain ⟨hk8, hkw, hkb⟩ := nextS_some 8 0 hnx
      have hkn := SOK_lt hO1 hkw
      refine AW.run 5 [true] (68, [(0, .inr (.inr (2, a, 0))), (1, .inl (nI t)), (2, .inl (nI k)), (3, .inl (nI i))], [.inl (nI k), .inr (.inr (2, a, 0))], τ) [icP .ne (nI k) (-9)] rfl ?_ ?_
      · exact allP1 (nI_m9 (by omega))
      refine AW.callVV (d' := 0) [.inl (nI k)] [] ⟨_, rfl⟩ f_3_burst v_3_burst l_3_88 ⟨rfl, by decide⟩ rfl (Nat.le_of_ble_eq_true rfl) rfl (Nat.le_of_ble_eq_true rfl) (c3_burst a S1 τ hR1 hO1 k hkn) ?_
      rintro τ1 ⟨hB1, hB2⟩
      refine AW.run 2 [] (2, [(1, .inl ((nI t) + 1)), (0, .inr (.inr (2, a, 0))), (2, .inl (nI k)), (3, .inl (nI i))], [], τ1) [] rfl ?_ ?_
      · exact trivial
      rw [nI_1 t]
      refine AW.pick [1, 0] (ls' := [(0, .inr (.inr (2, a, 0))), (1, .inl (nI (t + 1)))]) rfl ?_
      refine hk (burstS S1 k) _ ⟨only_trans hS1 hB1, hB2, SOK_burst hO1, ?_⟩
      rw [← hse]
      obtain ⟨m, hm⟩ : ∃ m, 8 - t = m + 1 := ⟨7 - t, by omega⟩
      rw [hm, show 8 - (t + 1) = m by omega]
      conv => rhs; unfold settleS; rw [hnx]
    refine AW.run 7 [false] (13, [(3, .inl 0), (2, .inl (-9)), (0, .inr (.inr (2, a, 0))), (1, .inl (nI t))], [], τ) [¬ icP .ge (nI t) 8] rfl ?_ ?_
    · exact allP1 (nle_lit (a := 8) ht (by decide))
    refine AW.pick [2, 3, 1, 0] (ls' := [(0, .inr (.inr (2, a, 0))), (1, .inl (nI t)), (2, .inl (-9)), (3, .inl (nI 0))]) rfl ?_
    refine AW.loop (α := Option Nat) 13 8 (fun i o => [(0, .inr (.inr (2, a, 0))), (1, .inl (nI t)), (2, .inl (match o with | none => -9 | some k => nI k)), (3, .inl (nI i))]) (fun i o τ' => τ = τ' ∧ match o with | none => nextS S1 (8 - i) i = nextS S1 8 0 | some k => nextS S1 8 0 = some k) ?_ ?_ 8 0 none _ rfl ⟨rfl, rfl⟩
    · intro i o τ' hi hI2 hk2
      obtain ⟨rfl, hI2⟩ := hI2
      cases o with
      | some k =>
        show AW M3_settle 1 _ (13, [(0, .inr (.inr (2, a, 0))), (1, .inl (nI t)), (2, .inl (nI k)), (3, .inl (nI i))], [], τ)
        refine AW.run 6 [false, true] (59, [(0, .inr (.inr (2, a, 0))), (1, .inl (nI t)), (2, .inl (nI k)), (3, .inl (nI i))], [], τ) [¬ icP .ge (nI i) 8, icP .ne (nI k) (-9)] rfl ?_ ?_
        · exact ⟨(nle_lit (a := 8) hi (by decide)), allP1 (nI_m9 (by have := (nextS_some 8 0 hI2).1; omega))⟩
        refine AW.pick [0, 1, 2, 3] (ls' := [(0, .inr (.inr (2, a, 0))), (1, .inl (nI t)), (2, .inl (nI k)), (3, .inl (nI i))]) rfl ?_
        exact c1 i k hI2
      | none =>
        show AW M3_settle 1 _ (13, [(0, .inr (.inr (2, a, 0))), (1, .inl (nI t)), (2, .inl (-9)), (3, .inl (nI i))], [], τ)
        have g1 := hR1.2.1 i hi
        have q1 : τ 2 a 4 (nI i).toNatClampNeg = nI (Sq S1 i) := by rw [cl8 hi, g1.2.2.2]
        have q4 : (τ 2 a 0 8 >>> (nI i &&& 31)) &&& 1 = if Sw S1 i = true then 1 else 0 := by rw [hR1.1.2.1]; exact bI_bit _ hi
        have hu : nextS S1 (8 - i) i = if Sw S1 i = true ∧ bearS S1 i < Sq S1 i then some i else nextS S1 (8 - (i + 1)) (i + 1) := by
          obtain ⟨m, hm⟩ : ∃ m, 8 - i = m + 1 := ⟨7 - i, by omega⟩
          rw [hm, show 8 - (i + 1) = m by omega]; rfl
        rw [hI2] at hu
        by_cases hw : Sw S1 i = true
        · have hin := SOK_lt hO1 hw
          have q2 : τ 2 a 6 (nI i).toNatClampNeg = nI (bearS S1 i) := by rw [cl8 hi]; exact (hR1.2.2 i hin).2.1
          have hbl := bear_le hO1 i
          have hql := (hO1.2.1 i).2.2.2
          by_cases hb : bearS S1 i < Sq S1 i
          · skip
            refine AW.run 12 [false, false] (33, [(0, .inr (.inr (2, a, 0))), (1, .inl (nI t)), (2, .inl (-9)), (3, .inl (nI i))], [.inl (((τ 2 a 0 8) >>> ((nI i) &&& 31)) &&& 1)], τ) [¬ icP .ge (nI i) 8, ¬ icP .ne (-9 : Int32) (-9)] rfl ?_ ?_
            · exact ⟨(nle_lit (a := 8) hi (by decide)), allP1 (by decide : ¬ (¬ (-9 : Int32) = (-9)))⟩
            rw [q4]
            refine AW.run 5 [false] (42, [(0, .inr (.inr (2, a, 0))), (1, .inl (nI t)), (2, .inl (-9)), (3, .inl (nI i))], [.inl (τ 2 a 4 (nI i).toNatClampNeg)], τ) [¬ icP .eq (if Sw S1 i = true then 1 else 0) 0, vp_in (nI i) 8] rfl ?_ ?_
            · exact ⟨(by rw [if_pos hw]; exact (by decide : ¬ (1 : Int32) = 0)), allP1 (by exact in8 hi)⟩
            rw [q1]
            refine AW.run 4 [] (48, [(0, .inr (.inr (2, a, 0))), (1, .inl (nI t)), (2, .inl (-9)), (3, .inl (nI i))], [.inl (τ 2 a 6 (nI i).toNatClampNeg), .inl (nI (Sq S1 i))], τ) [vp_in (nI i) 8] rfl ?_ ?_
            · exact allP1 (by exact in8 hi)
            rw [q2]
            refine AW.run 5 [false] (13, [(3, .inl ((nI i) + 1)), (2, .inl (nI i)), (0, .inr (.inr (2, a, 0))), (1, .inl (nI t))], [], τ) [¬ icP .le (nI (Sq S1 i)) (nI (bearS S1 i))] rfl ?_ ?_
            · exact allP1 (nI_ge hb (by omega))
            rw [nI_1 i]
            refine AW.pick [2, 3, 1, 0] (ls' := [(0, .inr (.inr (2, a, 0))), (1, .inl (nI t)), (2, .inl (nI i)), (3, .inl (nI (i + 1)))]) rfl ?_
            exact hk2 (some i) τ ⟨rfl, by rw [hu, if_pos ⟨hw, hb⟩]⟩
          · have hno : ¬ (Sw S1 i = true ∧ bearS S1 i < Sq S1 i) := fun h => hb h.2
            refine AW.run 12 [false, false] (33, [(0, .inr (.inr (2, a, 0))), (1, .inl (nI t)), (2, .inl (-9)), (3, .inl (nI i))], [.inl (((τ 2 a 0 8) >>> ((nI i) &&& 31)) &&& 1)], τ) [¬ icP .ge (nI i) 8, ¬ icP .ne (-9 : Int32) (-9)] rfl ?_ ?_
            · exact ⟨(nle_lit (a := 8) hi (by decide)), allP1 (by decide : ¬ (¬ (-9 : Int32) = (-9)))⟩
            rw [q4]
            refine AW.run 5 [false] (42, [(0, .inr (.inr (2, a, 0))), (1, .inl (nI t)), (2, .inl (-9)), (3, .inl (nI i))], [.inl (τ 2 a 4 (nI i).toNatClampNeg)], τ) [¬ icP .eq (if Sw S1 i = true then 1 else 0) 0, vp_in (nI i) 8] rfl ?_ ?_
            · exact ⟨(by rw [if_pos hw]; exact (by decide : ¬ (1 : Int32) = 0)), allP1 (by exact in8 hi)⟩
            rw [q1]
            refine AW.run 4 [] (48, [(0, .inr (.inr (2, a, 0))), (1, .inl (nI t)), (2, .inl (-9)), (3, .inl (nI i))], [.inl (τ 2 a 6 (nI i).toNatClampNeg), .inl (nI (Sq S1 i))], τ) [vp_in (nI i) 8] rfl ?_ ?_
            · exact allP1 (by exact in8 hi)
            rw [q2]
            refine AW.run 3 [true] (13, [(3, .inl ((nI i) + 1)), (0, .inr (.inr (2, a, 0))), (1, .inl (nI t)), (2, .inl (-9))], [], τ) [icP .le (nI (Sq S1 i)) (nI (bearS S1 i))] rfl ?_ ?_
            · exact allP1 (nI_le (by omega) (by omega))
            rw [nI_1 i]
            refine AW.pick [1, 2, 3, 0] (ls' := [(0, .inr (.inr (2, a, 0))), (1, .inl (nI t)), (2, .inl (-9)), (3, .inl (nI (i + 1)))]) rfl ?_
            exact hk2 none τ ⟨rfl, by rw [hu, if_neg hno]⟩
        · have hno : ¬ (Sw S1 i = true ∧ bearS S1 i < Sq S1 i) := fun h => hw h.1
          refine AW.run 12 [false, false] (33, [(0, .inr (.inr (2, a, 0))), (1, .inl (nI t)), (2, .inl (-9)), (3, .inl (nI i))], [.inl (((τ 2 a 0 8) >>> ((nI i) &&& 31)) &&& 1)], τ) [¬ icP .ge (nI i) 8, ¬ icP .ne (-9 : Int32) (-9)] rfl ?_ ?_
          · exact ⟨(nle_lit (a := 8) hi (by decide)), allP1 (by decide : ¬ (¬ (-9 : Int32) = (-9)))⟩
          rw [q4]
          refine AW.run 3 [true] (13, [(3, .inl ((nI i) + 1)), (0, .inr (.inr (2, a, 0))), (1, .inl (nI t)), (2, .inl (-9))], [], τ) [icP .eq (if Sw S1 i = true then 1 else 0) 0] rfl ?_ ?_
          · exact allP1 (by rw [if_neg hw]; exact (rfl : (0 : Int32) = 0))
          rw [nI_1 i]
          refine AW.pick [1, 2, 3, 0] (ls' := [(0, .inr (.inr (2, a, 0))), (1, .inl (nI t)), (2, .inl (-9)), (3, .inl (nI (i + 1)))]) rfl ?_
          exact hk2 none τ ⟨rfl, by rw [hu, if_neg hno]⟩
    · intro o τ' hI2
      obtain ⟨rfl, hI2⟩ := hI2
      cases o with
      | some k =>
        show AW M3_settle 1 _ (13, [(0, .inr (.inr (2, a, 0))), (1, .inl (nI t)), (2, .inl (nI k)), (3, .inl (nI 8))], [], τ)
        refine AW.run 3 [true] (59, [(0, .inr (.inr (2, a, 0))), (1, .inl (nI t)), (2, .inl (nI k)), (3, .inl (nI 8))], [], τ) [icP .ge (nI 8) 8] rfl ?_ ?_
        · exact allP1 (le_lit (a := 8) (b := 8) (by decide) (by decide))
        refine AW.pick [0, 1, 2, 3] (ls' := [(0, .inr (.inr (2, a, 0))), (1, .inl (nI t)), (2, .inl (nI k)), (3, .inl (nI 8))]) rfl ?_
        exact c1 8 k hI2
      | none =>
        show AW M3_settle 1 _ (13, [(0, .inr (.inr (2, a, 0))), (1, .inl (nI t)), (2, .inl (-9)), (3, .inl (nI 8))], [], τ)
        refine AW.run 3 [true] (59, [(0, .inr (.inr (2, a, 0))), (1, .inl (nI t)), (2, .inl (-9)), (3, .inl (nI 8))], [], τ) [icP .ge (nI 8) 8] rfl ?_ ?_
        · exact allP1 (le_lit (a := 8) (b := 8) (by decide) (by decide))
        refine AW.pick [0, 1, 2, 3] (ls' := [(0, .inr (.inr (2, a, 0))), (1, .inl (nI t)), (2, .inl (-9)), (3, .inl (nI 8))]) rfl ?_
        exact c0 8 hI2.symm
  · intro S1 τ hI
    obtain ⟨hS1, hR1, hO1, hse⟩ := hI
    have he : S1 = settleS 8 S := hse
    refine AW.run 3 [true] (77, [(0, .inr (.inr (2, a, 0))), (1, .inl (nI 8))], [], τ) [icP .ge (nI 8) 8] rfl ?_ ?_
    · exact allP1 (le_lit (a := 8) (b := 8) (by decide) (by decide))
    refine AW.retv ⟨_, rfl⟩ rfl ?_
    exact ⟨hS1, by rw [← he]; exact hR1⟩
end
section
/-! A DAY, DAYS, THE OTHER CHANGES -/
theorem addQ_hit {S : Sv} {i : Nat} (h : Sw S i = true) : addQ S (i + 1) = fu (addQ S i) i (min 99 (Sq S i + riseS S i)) := by
  funext k
  simp only [addQ, fu]
  by_cases hk : k = i
  · subst hk
    simp [h]
  · have : (k < i + 1) ↔ (k < i) := by omega
    simp [hk, this]
theorem addQ_miss {S : Sv} {i : Nat} (h : ¬ Sw S i = true) : addQ S (i + 1) = addQ S i := by
  funext k
  simp only [addQ]
  by_cases hk : k = i
  · subst hk
    simp [h]
  · have : (k < i + 1) ↔ (k < i) := by omega
    simp [this]
theorem addQ_at {S : Sv} {i : Nat} : addQ S i i = Sq S i := by simp [addQ]
theorem SOK_add {S : Sv} (hO : SOK S) (i : Nat) : SOK (withQ S (addQ S i)) := by
  obtain ⟨h1, h2, h3, h4, h5⟩ := hO
  refine ⟨h1, fun k => ⟨(h2 k).1, (h2 k).2.1, (h2 k).2.2.1, ?_⟩, fun k hk => ?_, h4, h5⟩
  · show addQ S i k ≤ 99
    unfold addQ
    split
    · exact Nat.min_le_left _ _
    · exact (h2 k).2.2.2
  · obtain ⟨g1, g2, g3, g4⟩ := h3 k hk
    refine ⟨g1, g2, ?_, g4⟩
    show addQ S i k = 0
    unfold addQ
    rw [if_neg, g3]
    rintro ⟨-, h⟩
    rw [g1] at h
    cases h
theorem settle_d : ∀ (n : Nat) (S : Sv), Sd (settleS n S) = Sd S
  | 0, _ => rfl
  | n + 1, S => by
    unfold settleS
    split
    · rfl
    · exact settle_d n _
theorem SOK_day {S : Sv} (hO : SOK S) : SOK (dayS S) := SOK_settle 8 (SOK_add hO 8)
theorem SOK_pass : ∀ (n : Nat) {S : Sv}, SOK S → SOK (passS n S)
  | 0, _, h => h
  | n + 1, _, h => SOK_pass n (SOK_day h)
theorem pass_succ : ∀ (n : Nat) (S : Sv), passS (n + 1) S = dayS (passS n S)
  | 0, _ => rfl
  | n + 1, S => pass_succ n (dayS S)
set_option maxHeartbeats 4000000 in
set_option maxRecDepth 100000 in
theorem c3_dayGoesBy (a : Nat) (S : Sv) (σ : St) (hR : RepS (σ 2 a) S) (hO : SOK S) : Ct M3_dayGoesBy 2 [.inr (.inr (2, a, 0))] σ (PV fun σ' => Only 2 a σ σ' ∧ RepS (σ' 2 a) (dayS S)) := by
  refine Ct.of f_3_dayGoesBy (Nat.le_of_ble_eq_true rfl) ?_
  show AW M3_dayGoesBy 2 _ (0, [(0, .inr (.inr (2, a, 0)))], [], σ)
  refine AW.run 2 [] (2, [(1, .inl 0), (0, .inr (.inr (2, a, 0)))], [], σ) [] rfl ?_ ?_
  · exact trivial
  refine AW.pick [1, 0] (ls' := [(0, .inr (.inr (2, a, 0))), (1, .inl (nI 0))]) rfl ?_
  refine AW.loop (α := Unit) 2 8 (fun i _ => [(0, .inr (.inr (2, a, 0))), (1, .inl (nI i))]) (fun i _ τ => Only 2 a σ τ ∧ RepS (τ 2 a) (withQ S (addQ S i))) ?_ ?_ 8 0 () _ (by omega) ⟨only_rfl, hR⟩
  · intro i _ τ hi hI hk
    obtain ⟨hS1, hR1⟩ := hI
    have g1 := hR1.2.1 i hi
    have q1 : τ 2 a 4 (nI i).toNatClampNeg = nI (Sq S i) := by rw [cl8 hi, g1.2.2.2]; exact congrArg nI addQ_at
    have q4 : (τ 2 a 0 8 >>> (nI i &&& 31)) &&& 1 = if Sw S i = true then 1 else 0 := by rw [hR1.1.2.1]; exact bI_bit _ hi
    by_cases hw : Sw S i = true
    · skip
      have hin := SOK_lt hO hw
      have q2 : τ 2 a 5 (nI i).toNatClampNeg = nI (riseS S i) := by rw [cl8 hi]; exact (hR1.2.2 i hin).1
      have hrl := rise_le hO i
      have hql := (hO.2.1 i).2.2.2
      have hcap : AW M3_dayGoesBy 2 _ (2, [(0, .inr (.inr (2, a, 0))), (1, .inl (nI (i + 1)))], [], setM τ 2 a 4 i (nI (min 99 (Sq S i + riseS S i)))) := hk () _ ⟨only_trans hS1 only_set, by rw [addQ_hit hw]; exact rep_q hR1⟩
      refine AW.run 9 [false] (16, [(0, .inr (.inr (2, a, 0))), (1, .inl (nI i))], [.inl (((τ 2 a 0 8) >>> ((nI i) &&& 31)) &&& 1)], τ) [¬ icP .ge (nI i) 8] rfl ?_ ?_
      · exact allP1 (nle_lit (a := 8) hi (by decide))
      rw [q4]
      refine AW.run 5 [true] (28, [(0, .inr (.inr (2, a, 0))), (1, .inl (nI i))], [.inl (τ 2 a 4 (nI i).toNatClampNeg)], τ) [icP .ne (if Sw S i = true then 1 else 0) 0, vp_in (nI i) 8] rfl ?_ ?_
      · exact ⟨(by rw [if_pos hw]; exact (by decide : ¬ (1 : Int32) = 0)), allP1 (by exact in8 hi)⟩
      rw [q1]
      refine AW.run 5 [] (35, [(0, .inr (.inr (2, a, 0))), (1, .inl (nI i))], [.inl ((nI (Sq S i)) + (τ 2 a 5 (nI i).toNatClampNeg))], τ) [vp_in (nI i) 8] rfl ?_ ?_
      · exact allP1 (by exact in8 hi)
      rw [q2, nI_add]
      by_cases h44_1 : Sq S i + riseS S i ≤ 99
      · skip
        refine AW.run 11 [true] (2, [(1, .inl ((nI i) + 1)), (2, .inl (nI (Sq S i + riseS S i))), (0, .inr (.inr (2, a, 0)))], [], (setM τ 2 a 4 (nI i).toNatClampNeg (nI (Sq S i + riseS S i)))) [icP .le (nI (Sq S i + riseS S i)) 99, vp_in (nI i) 8] rfl ?_ ?_
        · exact ⟨(nI_le h44_1 (by decide)), allP1 (by exact in8 hi)⟩
        rw [nI_1 i]
        refine AW.pick [2, 0] (ls' := [(0, .inr (.inr (2, a, 0))), (1, .inl (nI (i + 1)))]) rfl ?_
        rw [cl8 hi]
        first | (rw [Nat.min_eq_left (by omega)] at hcap; exact hcap) | (rw [Nat.min_eq_right (by omega)] at hcap; exact hcap)
      · skip
        refine AW.run 12 [false] (2, [(1, .inl ((nI i) + 1)), (2, .inl (nI (Sq S i + riseS S i))), (0, .inr (.inr (2, a, 0)))], [], (setM τ 2 a 4 (nI i).toNatClampNeg 99)) [¬ icP .le (nI (Sq S i + riseS S i)) 99, vp_in (nI i) 8] rfl ?_ ?_
        · exact ⟨(nI_ge (b := Sq S i + riseS S i) (a := 99) (by omega) (by omega)), allP1 (by exact in8 hi)⟩
        rw [nI_1 i]
        refine AW.pick [2, 0] (ls' := [(0, .inr (.inr (2, a, 0))), (1, .inl (nI (i + 1)))]) rfl ?_
        rw [cl8 hi]
        first | (rw [Nat.min_eq_left (by omega)] at hcap; exact hcap) | (rw [Nat.min_eq_right (by omega)] at hcap; exact hcap)
    · skip
      refine AW.run 9 [false] (16, [(0, .inr (.inr (2, a, 0))), (1, .inl (nI i))], [.inl (((τ 2 a 0 8) >>> ((nI i) &&& 31)) &&& 1)], τ) [¬ icP .ge (nI i) 8] rfl ?_ ?_
      · exact allP1 (nle_lit (a := 8) hi (by decide))
      rw [q4]
      refine AW.run 4 [false] (2, [(1, .inl ((nI i) + 1)), (0, .inr (.inr (2, a, 0)))], [], τ) [¬ icP .ne (if Sw S i = true then 1 else 0) 0] rfl ?_ ?_
      · exact allP1 (by rw [if_neg hw]; exact (fun q => q (rfl : (0 : Int32) = 0)))
      rw [nI_1 i]
      refine AW.pick [1, 0] (ls' := [(0, .inr (.inr (2, a, 0))), (1, .inl (nI (i + 1)))]) rfl ?_
      exact hk () _ ⟨hS1, by rw [addQ_miss hw]; exact hR1⟩
  · intro _ τ hI
    obtain ⟨hS1, hR1⟩ := hI
    have hO1 := SOK_add hO 8
    refine AW.run 4 [true] (61, [(0, .inr (.inr (2, a, 0))), (1, .inl (nI 8))], [.inr (.inr (2, a, 0))], τ) [icP .ge (nI 8) 8] rfl ?_ ?_
    · exact allP1 (le_lit (a := 8) (b := 8) (by decide) (by decide))
    refine AW.callVV (d' := 1) [] [] ⟨_, rfl⟩ f_3_settle v_3_settle l_3_85 ⟨rfl, by decide⟩ rfl (Nat.le_of_ble_eq_true rfl) rfl (Nat.le_of_ble_eq_true rfl) (c3_settle a (withQ S (addQ S 8)) τ hR1 hO1 ) ?_
    rintro τ1 ⟨hB1, hB2⟩
    refine AW.run 6 [] (74, [(0, .inr (.inr (2, a, 0))), (1, .inl (nI 8))], [], (setM τ1 2 a 0 12 ((τ1 2 a 0 12) + 1))) [] rfl ?_ ?_
    · exact trivial
    refine AW.retv ⟨_, rfl⟩ rfl ?_
    refine ⟨only_trans hS1 (only_trans hB1 only_set), ?_⟩
    have q9 : τ1 2 a 0 12 + 1 = nI (Sd S + 1) := by rw [hB2.1.2.2.2.2.2, nI_1, settle_d]; rfl
    rw [q9]
    exact rep_d hB2
set_option maxHeartbeats 4000000 in
set_option maxRecDepth 100000 in
theorem c3_pass (a : Nat) (S : Sv) (σ : St) (hR : RepS (σ 2 a) S) (hO : SOK S) (n : Nat) (hn : n < 2 ^ 31) : Ct M3_pass 3 [.inr (.inr (2, a, 0)), .inl (nI n)] σ (PV fun σ' => Only 2 a σ σ' ∧ RepS (σ' 2 a) (passS n S)) := by
  refine Ct.of f_3_pass (Nat.le_of_ble_eq_true rfl) ?_
  show AW M3_pass 3 _ (0, [(0, .inr (.inr (2, a, 0))), (1, .inl (nI n))], [], σ)
  refine AW.run 2 [] (2, [(2, .inl 0), (0, .inr (.inr (2, a, 0))), (1, .inl (nI n))], [], σ) [] rfl ?_ ?_
  · exact trivial
  refine AW.pick [1, 2, 0] (ls' := [(0, .inr (.inr (2, a, 0))), (1, .inl (nI n)), (2, .inl (nI 0))]) rfl ?_
  refine AW.loop (α := Unit) 2 (n) (fun i _ => [(0, .inr (.inr (2, a, 0))), (1, .inl (nI n)), (2, .inl (nI i))]) (fun i _ τ => Only 2 a σ τ ∧ RepS (τ 2 a) (passS i S)) ?_ ?_ (n) 0 () _ (by omega) ⟨only_rfl, hR⟩
  · intro i _ τ hi hI hk
    obtain ⟨hS1, hR1⟩ := hI
    skip
    refine AW.run 4 [false] (8, [(0, .inr (.inr (2, a, 0))), (1, .inl (nI n)), (2, .inl (nI i))], [.inr (.inr (2, a, 0))], τ) [¬ icP .ge (nI i) (nI n)] rfl ?_ ?_
    · exact allP1 (nI_ge hi (by omega))
    refine AW.callVV (d' := 2) [] [] ⟨_, rfl⟩ f_3_dayGoesBy v_3_dayGoesBy l_3_82 ⟨rfl, by decide⟩ rfl (Nat.le_of_ble_eq_true rfl) rfl (Nat.le_of_ble_eq_true rfl) (c3_dayGoesBy a (passS i S) τ hR1 (SOK_pass i hO) ) ?_
    rintro τ1 ⟨hB1, hB2⟩
    refine AW.run 2 [] (2, [(2, .inl ((nI i) + 1)), (0, .inr (.inr (2, a, 0))), (1, .inl (nI n))], [], τ1) [] rfl ?_ ?_
    · exact trivial
    rw [nI_1 i]
    refine AW.pick [1, 2, 0] (ls' := [(0, .inr (.inr (2, a, 0))), (1, .inl (nI n)), (2, .inl (nI (i + 1)))]) rfl ?_
    exact hk () _ ⟨only_trans hS1 hB1, by rw [pass_succ]; exact hB2⟩
  · intro _ τ hI
    obtain ⟨hS1, hR1⟩ := hI
    refine AW.run 3 [true] (17, [(0, .inr (.inr (2, a, 0))), (1, .inl (nI n)), (2, .inl (nI (n)))], [], τ) [icP .ge (nI (n)) (nI n)] rfl ?_ ?_
    · exact allP1 (nI_le (Nat.le_refl _) (by omega))
    refine AW.retv ⟨_, rfl⟩ rfl ?_
    exact ⟨hS1, hR1⟩
set_option maxHeartbeats 4000000 in
set_option maxRecDepth 100000 in
theorem c3_setPress (a : Nat) (S : Sv) (σ : St) (hR : RepS (σ 2 a) S) (hO : SOK S) (k q : Nat) (hk : k < Sn S) : Ct M3_setPress 1 [.inr (.inr (2, a, 0)), .inl (nI k), .inl (nI q)] σ (PV fun σ' => Only 2 a σ σ' ∧ RepS (σ' 2 a) (withQ S (fu (Sq S) k q))) := by
  refine Ct.of f_3_setPress (Nat.le_of_ble_eq_true rfl) ?_
  show AW M3_setPress 1 _ (0, [(0, .inr (.inr (2, a, 0))), (1, .inl (nI k)), (2, .inl (nI q))], [], σ)
  have hn := hO.1
  have hk8 : k < 8 := by omega
  refine AW.run 2 [] (2, [(0, .inr (.inr (2, a, 0))), (1, .inl (nI k)), (2, .inl (nI q))], [.inl (nI k), .inr (.inr (2, a, 0))], σ) [] rfl ?_ ?_
  · exact trivial
  refine AW.callVI (d' := 0) [.inl (nI k)] [] ⟨_, rfl⟩ f_3_has v_3_has l_3_58 ⟨rfl, by decide⟩ rfl (Nat.le_of_ble_eq_true rfl) rfl (Nat.le_of_ble_eq_true rfl) (c3_has a S σ hR hO (nI k)) ?_
  rintro v _ ⟨rfl, hv⟩
  rcases hv with ⟨rfl, hp2⟩ | ⟨rfl, hp2⟩
  · skip
    refine AW.run 6 [false] (15, [(0, .inr (.inr (2, a, 0))), (1, .inl (nI k)), (2, .inl (nI q))], [], (setM σ 2 a 4 (nI k).toNatClampNeg (nI q))) [¬ icP .eq (1 : Int32) 0, vp_in (nI k) 8] rfl ?_ ?_
    · exact ⟨(by decide : ¬ ((1 : Int32) = 0)), allP1 (by exact in8 hk8)⟩
    refine AW.retv ⟨_, rfl⟩ rfl ?_
    exact ⟨only_set, by rw [cl8 hk8]; exact rep_q hR⟩
  · skip
    refine AW.run 1 [true] (15, [(0, .inr (.inr (2, a, 0))), (1, .inl (nI k)), (2, .inl (nI q))], [], σ) [icP .eq (0 : Int32) 0] rfl ?_ ?_
    · exact allP1 (by decide : ((0 : Int32) = 0))
    refine AW.retv ⟨_, rfl⟩ rfl ?_
    exact absurd rfl (hp2 k hk)
set_option maxHeartbeats 4000000 in
set_option maxRecDepth 100000 in
theorem c3_setPlace (a : Nat) (S : Sv) (σ : St) (hR : RepS (σ 2 a) S) (hO : SOK S) (k q : Nat) (hk : k < Sn S) : Ct M3_setPlace 1 [.inr (.inr (2, a, 0)), .inl (nI k), .inl (nI q)] σ (PV fun σ' => Only 2 a σ σ' ∧ RepS (σ' 2 a) (withP S (fu (Sp S) k q))) := by
  refine Ct.of f_3_setPlace (Nat.le_of_ble_eq_true rfl) ?_
  show AW M3_setPlace 1 _ (0, [(0, .inr (.inr (2, a, 0))), (1, .inl (nI k)), (2, .inl (nI q))], [], σ)
  have hn := hO.1
  have hk8 : k < 8 := by omega
  refine AW.run 2 [] (2, [(0, .inr (.inr (2, a, 0))), (1, .inl (nI k)), (2, .inl (nI q))], [.inl (nI k), .inr (.inr (2, a, 0))], σ) [] rfl ?_ ?_
  · exact trivial
  refine AW.callVI (d' := 0) [.inl (nI k)] [] ⟨_, rfl⟩ f_3_has v_3_has l_3_58 ⟨rfl, by decide⟩ rfl (Nat.le_of_ble_eq_true rfl) rfl (Nat.le_of_ble_eq_true rfl) (c3_has a S σ hR hO (nI k)) ?_
  rintro v _ ⟨rfl, hv⟩
  rcases hv with ⟨rfl, hp2⟩ | ⟨rfl, hp2⟩
  · skip
    refine AW.run 6 [false] (15, [(0, .inr (.inr (2, a, 0))), (1, .inl (nI k)), (2, .inl (nI q))], [], (setM σ 2 a 3 (nI k).toNatClampNeg (nI q))) [¬ icP .eq (1 : Int32) 0, vp_in (nI k) 8] rfl ?_ ?_
    · exact ⟨(by decide : ¬ ((1 : Int32) = 0)), allP1 (by exact in8 hk8)⟩
    refine AW.retv ⟨_, rfl⟩ rfl ?_
    exact ⟨only_set, by rw [cl8 hk8]; exact rep_p hR⟩
  · skip
    refine AW.run 1 [true] (15, [(0, .inr (.inr (2, a, 0))), (1, .inl (nI k)), (2, .inl (nI q))], [], σ) [icP .eq (0 : Int32) 0] rfl ?_ ?_
    · exact allP1 (by decide : ((0 : Int32) = 0))
    refine AW.retv ⟨_, rfl⟩ rfl ?_
    exact absurd rfl (hp2 k hk)
set_option maxHeartbeats 4000000 in
set_option maxRecDepth 100000 in
theorem c3_turnTowel (a : Nat) (S : Sv) (σ : St) (hR : RepS (σ 2 a) S) (hO : SOK S) (k : Nat) (hk : k < Sn S) : Ct M3_turnTowel 1 [.inr (.inr (2, a, 0)), .inl (nI k)] σ (PV fun σ' => Only 2 a σ σ' ∧ RepS (σ' 2 a) (withT S (fu (Stw S) k (!(Stw S k))))) := by
  refine Ct.of f_3_turnTowel (Nat.le_of_ble_eq_true rfl) ?_
  show AW M3_turnTowel 1 _ (0, [(0, .inr (.inr (2, a, 0))), (1, .inl (nI k))], [], σ)
  have hn := hO.1
  have hk8 : k < 8 := by omega
  refine AW.run 2 [] (2, [(0, .inr (.inr (2, a, 0))), (1, .inl (nI k))], [.inl (nI k), .inr (.inr (2, a, 0))], σ) [] rfl ?_ ?_
  · exact trivial
  refine AW.callVI (d' := 0) [.inl (nI k)] [] ⟨_, rfl⟩ f_3_has v_3_has l_3_58 ⟨rfl, by decide⟩ rfl (Nat.le_of_ble_eq_true rfl) rfl (Nat.le_of_ble_eq_true rfl) (c3_has a S σ hR hO (nI k)) ?_
  rintro v _ ⟨rfl, hv⟩
  rcases hv with ⟨rfl, hp2⟩ | ⟨rfl, hp2⟩
  · skip
    refine AW.run 9 [false] (20, [(0, .inr (.inr (2, a, 0))), (1, .inl (nI k))], [], (setM σ 2 a 0 9 ((σ 2 a 0 9) ^^^ (1 <<< ((nI k) &&& 31))))) [¬ icP .eq (1 : Int32) 0] rfl ?_ ?_
    · exact allP1 (by decide : ¬ ((1 : Int32) = 0))
    refine AW.retv ⟨_, rfl⟩ rfl ?_
    refine ⟨only_set, ?_⟩
    rw [hR.1.2.2.1, bI_xor _ hk8]
    exact rep_t hR
  · skip
    refine AW.run 1 [true] (20, [(0, .inr (.inr (2, a, 0))), (1, .inl (nI k))], [], σ) [icP .eq (0 : Int32) 0] rfl ?_ ?_
    · exact allP1 (by decide : ((0 : Int32) = 0))
    refine AW.retv ⟨_, rfl⟩ rfl ?_
    exact absurd rfl (hp2 k hk)
set_option maxHeartbeats 4000000 in
set_option maxRecDepth 100000 in
theorem c3_takeAway (a : Nat) (S : Sv) (σ : St) (hR : RepS (σ 2 a) S) (hO : SOK S) (k : Nat) (hk : k < Sn S) : Ct M3_takeAway 1 [.inr (.inr (2, a, 0)), .inl (nI k)] σ (PV fun σ' => Only 2 a σ σ' ∧ RepS (σ' 2 a) (withW S (fu (Sw S) k false))) := by
  refine Ct.of f_3_takeAway (Nat.le_of_ble_eq_true rfl) ?_
  show AW M3_takeAway 1 _ (0, [(0, .inr (.inr (2, a, 0))), (1, .inl (nI k))], [], σ)
  have hn := hO.1
  have hk8 : k < 8 := by omega
  refine AW.run 2 [] (2, [(0, .inr (.inr (2, a, 0))), (1, .inl (nI k))], [.inl (nI k), .inr (.inr (2, a, 0))], σ) [] rfl ?_ ?_
  · exact trivial
  refine AW.callVI (d' := 0) [.inl (nI k)] [] ⟨_, rfl⟩ f_3_has v_3_has l_3_58 ⟨rfl, by decide⟩ rfl (Nat.le_of_ble_eq_true rfl) rfl (Nat.le_of_ble_eq_true rfl) (c3_has a S σ hR hO (nI k)) ?_
  rintro v _ ⟨rfl, hv⟩
  rcases hv with ⟨rfl, hp2⟩ | ⟨rfl, hp2⟩
  · skip
    refine AW.run 11 [false] (22, [(0, .inr (.inr (2, a, 0))), (1, .inl (nI k))], [], (setM σ 2 a 0 8 ((σ 2 a 0 8) &&& ((1 <<< ((nI k) &&& 31)) ^^^ (-1))))) [¬ icP .eq (1 : Int32) 0] rfl ?_ ?_
    · exact allP1 (by decide : ¬ ((1 : Int32) = 0))
    refine AW.retv ⟨_, rfl⟩ rfl ?_
    refine ⟨only_set, ?_⟩
    rw [hR.1.2.1, bI_clr _ hk8]
    exact rep_w hR
  · skip
    refine AW.run 1 [true] (22, [(0, .inr (.inr (2, a, 0))), (1, .inl (nI k))], [], σ) [icP .eq (0 : Int32) 0] rfl ?_ ?_
    · exact allP1 (by decide : ((0 : Int32) = 0))
    refine AW.retv ⟨_, rfl⟩ rfl ?_
    exact absurd rfl (hp2 k hk)
end
section
/-! NOURISH, BECOME, ADD, COPY, HALVE -/
def RepU (sh : Nat → Nat → Int32) (S : Sv) (u h m : Nat) : Prop :=
  (sh 0 7 = nI (Sn S) ∧ sh 0 8 = bI (Sw S) ∧ sh 0 9 = bI (Stw S) ∧ sh 0 10 = nI u ∧ sh 0 11 = nI h ∧ sh 0 12 = nI (Sd S)) ∧ (∀ i, i < 8 → sh 1 i = nI (Sk S i) ∧ sh 2 i = nI (Sf S i) ∧ sh 3 i = nI (Sp S i) ∧ sh 4 i = nI (Sq S i)) ∧ (∀ i, i < m → sh 5 i = nI (riseN (Sk S i) (Sf S i) u h)) ∧ (∀ i, i < Sn S → sh 6 i = nI (bearS S i) ∧ sh 7 i = nI (shockS S i))
theorem RepU_step {a m u h : Nat} {S : Sv} {σ : St} (hR : RepU (σ 2 a) S u h m) : RepU (setM σ 2 a 5 m (nI (riseN (Sk S m) (Sf S m) u h)) 2 a) S u h (m + 1) := by
  obtain ⟨h1, h2, h3, h4⟩ := hR
  refine ⟨?_, fun i hi => ?_, fun i hi => ?_, fun i hi => ?_⟩
  · simpa [setM_at] using h1
  · simpa [setM_at] using h2 i hi
  · by_cases hk : i = m
    · subst hk; simp [setM_at]
    · simp only [setM_at, hk, and_false, if_false]
      exact h3 i (by omega)
  · simpa [setM_at] using h4 i hi
theorem RepU_end {sh : Nat → Nat → Int32} {S : Sv} {u h : Nat} (hn : Sn S ≤ 8) (hR : RepU sh S u h 8) : RepS sh (withU S u h) :=
  ⟨hR.1, hR.2.1, fun i hi => ⟨hR.2.2.1 i (Nat.lt_of_lt_of_le hi hn), hR.2.2.2 i hi⟩⟩
theorem SOK_U {S : Sv} {u h : Nat} (hO : SOK S) (hu : u ≤ 9) (hh : h ≤ 9) : SOK (withU S u h) := ⟨hO.1, hO.2.1, hO.2.2.1, hu, hh⟩
/-- all but what is kept of one's kind -/
def RepE (sh : Nat → Nat → Int32) (S : Sv) (m : Nat) : Prop :=
  (sh 0 7 = nI (Sn S) ∧ sh 0 8 = bI (Sw S) ∧ sh 0 9 = bI (Stw S) ∧ sh 0 10 = nI (Su S) ∧ sh 0 11 = nI (She S) ∧ sh 0 12 = nI (Sd S)) ∧ (∀ i, i < 8 → (i ≠ m → sh 1 i = nI (Sk S i) ∧ sh 2 i = nI (Sf S i)) ∧ sh 3 i = nI (Sp S i) ∧ sh 4 i = nI (Sq S i)) ∧ (∀ i, i < Sn S → i ≠ m → sh 5 i = nI (riseS S i) ∧ sh 6 i = nI (bearS S i) ∧ sh 7 i = nI (shockS S i))
theorem RepS_E {sh : Nat → Nat → Int32} {S : Sv} {m : Nat} (h : RepS sh S) : RepE sh S m := ⟨h.1, fun i hi => ⟨fun _ => ⟨(h.2.1 i hi).1, (h.2.1 i hi).2.1⟩, (h.2.1 i hi).2.2⟩, fun i hi _ => h.2.2 i hi⟩
theorem rep_become {a m k f : Nat} {S : Sv} {σ : St} (hR : RepE (σ 2 a) S m) : RepS (setM (setM (setM (setM (setM σ 2 a 1 m (nI k)) 2 a 2 m (nI f)) 2 a 5 m (nI (riseN k f (Su S) (She S)))) 2 a 6 m (nI (bearN k f))) 2 a 7 m (nI (shockN k f)) 2 a) (withK S (fu (Sk S) m k) (fu (Sf S) m f)) := by
  obtain ⟨h1, h2, h3⟩ := hR
  refine ⟨?_, fun i hi => ?_, fun i hi => ?_⟩
  · simpa [setM_at, withK] using h1
  · obtain ⟨g1, g2, g3⟩ := h2 i hi
    by_cases hk : i = m
    · subst hk
      simp [setM_at, withK, fu, Sk, Sf]
      exact ⟨g2, g3⟩
    · simp [setM_at, withK, fu, Sk, Sf, hk]
      exact ⟨(g1 hk).1, (g1 hk).2, g2, g3⟩
  · by_cases hk : i = m
    · subst hk
      simp [setM_at, withK, fu, Sk, Sf, riseS, bearS, shockS]
    · have g := h3 i hi hk
      simp [setM_at, withK, fu, Sk, Sf, riseS, bearS, shockS, hk]
      exact g
/-- one more -/
def addS (S : Sv) (k f p : Nat) : Sv := (Sn S + 1, fu (Sk S) (Sn S) k, fu (Sf S) (Sn S) f, fu (Sp S) (Sn S) p, Sq S, fu (Sw S) (Sn S) true, Stw S, Su S, She S, Sd S)
def addE (S : Sv) (p : Nat) : Sv := (Sn S + 1, Sk S, Sf S, fu (Sp S) (Sn S) p, Sq S, fu (Sw S) (Sn S) true, Stw S, Su S, She S, Sd S)
theorem addS_K {S : Sv} {k f p : Nat} : withK (addE S p) (fu (Sk (addE S p)) (Sn S) k) (fu (Sf (addE S p)) (Sn S) f) = addS S k f p := rfl
theorem rep_addE {a p : Nat} {S : Sv} {σ : St} (hR : RepS (σ 2 a) S) : RepE (setM (setM (setM σ 2 a 0 7 (nI (Sn S + 1))) 2 a 0 8 (bI (fu (Sw S) (Sn S) true))) 2 a 3 (Sn S) (nI p) 2 a) (addE S p) (Sn S) := by
  obtain ⟨h1, h2, h3⟩ := hR
  refine ⟨?_, fun i hi => ?_, fun i hi hne => ?_⟩
  · simpa [setM_at, addE] using h1.2.2
  · obtain ⟨g1, g2, g3, g4⟩ := h2 i hi
    by_cases hk : i = Sn S
    · subst hk
      simp [setM_at, addE, fu, Sp]
      exact g4
    · simp [setM_at, addE, fu, Sp, hk]
      exact ⟨⟨g1, g2⟩, g3, g4⟩
  · have hlt : i < Sn S := by
      have : i < Sn S + 1 := hi
      omega
    simpa [setM_at, addE, riseS, bearS, shockS] using h3 i hlt
theorem SOK_addS {S : Sv} {k f p : Nat} (hO : SOK S) (hn : Sn S < 8) (hk : k ≤ 5) (hf : f ≤ 9) (hp : p ≤ 14) : SOK (addS S k f p) := by
  obtain ⟨h1, h2, h3, h4, h5⟩ := hO
  refine ⟨hn, fun i => ?_, fun i hi => ?_, h4, h5⟩
  · obtain ⟨g1, g2, g3, g4⟩ := h2 i
    refine ⟨?_, ?_, ?_, g4⟩
    · show fu (Sk S) (Sn S) k i ≤ 5
      unfold fu; split <;> assumption
    · show fu (Sf S) (Sn S) f i ≤ 9
      unfold fu; split <;> assumption
    · show fu (Sp S) (Sn S) p i ≤ 14
      unfold fu; split <;> assumption
  · have hi' : Sn S + 1 ≤ i := hi
    have hne : i ≠ Sn S := by omega
    obtain ⟨g1, g2, g3, g4, g5, g6⟩ := h3 i (by omega)
    refine ⟨?_, g2, g3, ?_, ?_, ?_⟩
    · show fu (Sw S) (Sn S) true i = false
      rw [fu_ne _ _ hne]; exact g1
    · show fu (Sk S) (Sn S) k i = 0
      rw [fu_ne _ _ hne]; exact g4
    · show fu (Sf S) (Sn S) f i = 0
      rw [fu_ne _ _ hne]; exact g5
    · show fu (Sp S) (Sn S) p i = 0
      rw [fu_ne _ _ hne]; exact g6

set_option maxHeartbeats 4000000 in
set_option maxRecDepth 100000 in
theorem c3_nourish (a : Nat) (S : Sv) (σ : St) (hR : RepS (σ 2 a) S) (hO : SOK S) (u h : Nat) (hu : u ≤ 9) (hh : h ≤ 9) : Ct M3_nourish 2 [.inr (.inr (2, a, 0)), .inl (nI u), .inl (nI h)] σ (PV fun σ' => Only 2 a σ σ' ∧ RepS (σ' 2 a) (withU S u h)) := by
  refine Ct.of f_3_nourish (Nat.le_of_ble_eq_true rfl) ?_
  show AW M3_nourish 2 _ (0, [(0, .inr (.inr (2, a, 0))), (1, .inl (nI u)), (2, .inl (nI h))], [], σ)
  refine AW.run 8 [] (12, [(3, .inl 0), (0, .inr (.inr (2, a, 0))), (1, .inl (nI u)), (2, .inl (nI h))], [], (setM (setM σ 2 a 0 10 (nI u)) 2 a 0 11 (nI h))) [] rfl ?_ ?_
  · exact trivial
  refine AW.pick [1, 2, 3, 0] (ls' := [(0, .inr (.inr (2, a, 0))), (1, .inl (nI u)), (2, .inl (nI h)), (3, .inl (nI 0))]) rfl ?_
  refine AW.loop (α := Unit) 12 8 (fun i _ => [(0, .inr (.inr (2, a, 0))), (1, .inl (nI u)), (2, .inl (nI h)), (3, .inl (nI i))]) (fun i _ τ => Only 2 a σ τ ∧ RepU (τ 2 a) S u h i) ?_ ?_ 8 0 () _ (by omega) ⟨only_trans only_set only_set, ?_⟩
  · intro i _ τ hi hI hk
    obtain ⟨hS1, hR1⟩ := hI
    have q1 : τ 2 a 1 (nI i).toNatClampNeg = nI (Sk S i) := by rw [cl8 hi]; exact (hR1.2.1 i hi).1
    have q2 : τ 2 a 2 (nI i).toNatClampNeg = nI (Sf S i) := by rw [cl8 hi]; exact (hR1.2.1 i hi).2.1
    skip
    refine AW.run 10 [false] (29, [(0, .inr (.inr (2, a, 0))), (1, .inl (nI u)), (2, .inl (nI h)), (3, .inl (nI i))], [.inl (τ 2 a 1 (nI i).toNatClampNeg), .inl (nI i), .inr (.inr (2, a, 5))], τ) [¬ icP .ge (nI i) 8, vp_in (nI i) 8] rfl ?_ ?_
    · exact ⟨(nle_lit (a := 8) hi (by decide)), allP1 (by exact in8 hi)⟩
    rw [q1]
    refine AW.run 4 [] (35, [(0, .inr (.inr (2, a, 0))), (1, .inl (nI u)), (2, .inl (nI h)), (3, .inl (nI i))], [.inl (τ 2 a 2 (nI i).toNatClampNeg), .inl (nI (Sk S i)), .inl (nI i), .inr (.inr (2, a, 5))], τ) [vp_in (nI i) 8] rfl ?_ ?_
    · exact allP1 (by exact in8 hi)
    rw [q2]
    refine AW.run 2 [] (37, [(0, .inr (.inr (2, a, 0))), (1, .inl (nI u)), (2, .inl (nI h)), (3, .inl (nI i))], [.inl (nI h), .inl (nI u), .inl (nI (Sf S i)), .inl (nI (Sk S i)), .inl (nI i), .inr (.inr (2, a, 5))], τ) [] rfl ?_ ?_
    · exact trivial
    refine AW.callSI (d' := 1) [.inl (nI (Sk S i)), .inl (nI (Sf S i)), .inl (nI u), .inl (nI h)] [.inl (nI i), .inr (.inr (2, a, 5))] ⟨_, rfl⟩ f_0_rises s_0_rises l_3_66 rfl (Nat.le_of_ble_eq_true rfl) rfl (Nat.le_of_ble_eq_true rfl) (c0_rises (Sk S i) (Sf S i) u h (hO.2.1 i).1 (hO.2.1 i).2.1 hu hh τ) ?_
    rintro _ _ ⟨rfl, rfl⟩
    refine AW.run 3 [] (12, [(3, .inl ((nI i) + 1)), (0, .inr (.inr (2, a, 0))), (1, .inl (nI u)), (2, .inl (nI h))], [], (setM τ 2 a 5 (nI i).toNatClampNeg (nI (riseN (Sk S i) (Sf S i) u h)))) [vp_in (nI i) 8] rfl ?_ ?_
    · exact allP1 (by exact in8 hi)
    rw [nI_1 i]
    refine AW.pick [1, 2, 3, 0] (ls' := [(0, .inr (.inr (2, a, 0))), (1, .inl (nI u)), (2, .inl (nI h)), (3, .inl (nI (i + 1)))]) rfl ?_
    exact hk () _ ⟨only_trans hS1 only_set, by rw [cl8 hi]; exact RepU_step hR1⟩
  · intro _ τ hI
    obtain ⟨hS1, hR1⟩ := hI
    refine AW.run 3 [true] (47, [(0, .inr (.inr (2, a, 0))), (1, .inl (nI u)), (2, .inl (nI h)), (3, .inl (nI 8))], [], τ) [icP .ge (nI 8) 8] rfl ?_ ?_
    · exact allP1 (le_lit (a := 8) (b := 8) (by decide) (by decide))
    refine AW.retv ⟨_, rfl⟩ rfl ?_
    exact ⟨hS1, RepU_end hO.1 hR1⟩
  · refine ⟨?_, fun i hi => ?_, fun i hi => absurd hi (Nat.not_lt_zero _), fun i hi => ?_⟩
    · simpa [setM_at] using ⟨hR.1.1, hR.1.2.1, hR.1.2.2.1, hR.1.2.2.2.2.2⟩
    · simpa [setM_at] using hR.2.1 i hi
    · simpa [setM_at] using (hR.2.2 i hi).2
set_option maxHeartbeats 4000000 in
set_option maxRecDepth 100000 in
theorem c3_become (a : Nat) (S : Sv) (σ : St) (i k f : Nat) (hR : RepE (σ 2 a) S i) (hn : Sn S ≤ 8) (hi : i < Sn S) (hk : k ≤ 5) (hf : f ≤ 9) (hu : Su S ≤ 9) (hh : She S ≤ 9) : Ct M3_become 2 [.inr (.inr (2, a, 0)), .inl (nI i), .inl (nI k), .inl (nI f)] σ (PV fun σ' => Only 2 a σ σ' ∧ RepS (σ' 2 a) (withK S (fu (Sk S) i k) (fu (Sf S) i f))) := by
  refine Ct.of f_3_become (Nat.le_of_ble_eq_true rfl) ?_
  show AW M3_become 2 _ (0, [(0, .inr (.inr (2, a, 0))), (1, .inl (nI i)), (2, .inl (nI k)), (3, .inl (nI f))], [], σ)
  have hi8 : i < 8 := by omega
  refine AW.run 2 [] (2, [(0, .inr (.inr (2, a, 0))), (1, .inl (nI i)), (2, .inl (nI k)), (3, .inl (nI f))], [.inl (nI i), .inr (.inr (2, a, 0))], σ) [] rfl ?_ ?_
  · exact trivial
  refine AW.callVI (d' := 0) [.inl (nI i)] [] ⟨_, rfl⟩ f_3_has v_3_has l_3_58 ⟨rfl, by decide⟩ rfl (Nat.le_of_ble_eq_true rfl) rfl (Nat.le_of_ble_eq_true rfl) (c3_hasN a (Sn S) σ hR.1.1 hn (nI i)) ?_
  rintro v _ ⟨rfl, hv⟩
  rcases hv with ⟨rfl, hp2⟩ | ⟨rfl, hp2⟩
  · skip
    refine AW.run 18 [true] (34, [(0, .inr (.inr (2, a, 0))), (1, .inl (nI i)), (2, .inl (nI k)), (3, .inl (nI f))], [.inl ((setM (setM σ 2 a 1 (nI i).toNatClampNeg (nI k)) 2 a 2 (nI i).toNatClampNeg (nI f)) 2 a 0 10), .inl (nI f), .inl (nI k), .inl (nI i), .inr (.inr (2, a, 5))], (setM (setM σ 2 a 1 (nI i).toNatClampNeg (nI k)) 2 a 2 (nI i).toNatClampNeg (nI f))) [icP .ne (1 : Int32) 0, vp_in (nI i) 8, vp_in (nI i) 8] rfl ?_ ?_
    · exact ⟨(by decide : (¬ (1 : Int32) = 0)), (by exact in8 hi8), allP1 (by exact in8 hi8)⟩
    rw [show (setM (setM σ 2 a 1 (nI i).toNatClampNeg (nI k)) 2 a 2 (nI i).toNatClampNeg (nI f)) 2 a 0 10 = nI (Su S) by simp only [setM_at]; exact hR.1.2.2.2.1]
    refine AW.run 2 [] (38, [(0, .inr (.inr (2, a, 0))), (1, .inl (nI i)), (2, .inl (nI k)), (3, .inl (nI f))], [.inl ((setM (setM σ 2 a 1 (nI i).toNatClampNeg (nI k)) 2 a 2 (nI i).toNatClampNeg (nI f)) 2 a 0 11), .inl (nI (Su S)), .inl (nI f), .inl (nI k), .inl (nI i), .inr (.inr (2, a, 5))], (setM (setM σ 2 a 1 (nI i).toNatClampNeg (nI k)) 2 a 2 (nI i).toNatClampNeg (nI f))) [] rfl ?_ ?_
    · exact trivial
    rw [show (setM (setM σ 2 a 1 (nI i).toNatClampNeg (nI k)) 2 a 2 (nI i).toNatClampNeg (nI f)) 2 a 0 11 = nI (She S) by simp only [setM_at]; exact hR.1.2.2.2.2.1]
    refine AW.callSI (d' := 1) [.inl (nI k), .inl (nI f), .inl (nI (Su S)), .inl (nI (She S))] [.inl (nI i), .inr (.inr (2, a, 5))] ⟨_, rfl⟩ f_0_rises s_0_rises l_3_66 rfl (Nat.le_of_ble_eq_true rfl) rfl (Nat.le_of_ble_eq_true rfl) (c0_rises k f (Su S) (She S) hk hf hu hh (setM (setM σ 2 a 1 (nI i).toNatClampNeg (nI k)) 2 a 2 (nI i).toNatClampNeg (nI f))) ?_
    rintro _ _ ⟨rfl, rfl⟩
    refine AW.run 6 [] (49, [(0, .inr (.inr (2, a, 0))), (1, .inl (nI i)), (2, .inl (nI k)), (3, .inl (nI f))], [.inl (nI f), .inl (nI k), .inl (nI i), .inr (.inr (2, a, 6))], (setM (setM (setM σ 2 a 1 (nI i).toNatClampNeg (nI k)) 2 a 2 (nI i).toNatClampNeg (nI f)) 2 a 5 (nI i).toNatClampNeg (nI (riseN k f (Su S) (She S))))) [vp_in (nI i) 8] rfl ?_ ?_
    · exact allP1 (by exact in8 hi8)
    refine AW.callSI (d' := 0) [.inl (nI k), .inl (nI f)] [.inl (nI i), .inr (.inr (2, a, 6))] ⟨_, rfl⟩ f_0_bears s_0_bears l_3_72 rfl (Nat.le_of_ble_eq_true rfl) rfl (Nat.le_of_ble_eq_true rfl) (c0_bears k f hk hf (setM (setM (setM σ 2 a 1 (nI i).toNatClampNeg (nI k)) 2 a 2 (nI i).toNatClampNeg (nI f)) 2 a 5 (nI i).toNatClampNeg (nI (riseN k f (Su S) (She S))))) ?_
    rintro _ _ ⟨rfl, rfl⟩
    refine AW.run 6 [] (60, [(0, .inr (.inr (2, a, 0))), (1, .inl (nI i)), (2, .inl (nI k)), (3, .inl (nI f))], [.inl (nI f), .inl (nI k), .inl (nI i), .inr (.inr (2, a, 7))], (setM (setM (setM (setM σ 2 a 1 (nI i).toNatClampNeg (nI k)) 2 a 2 (nI i).toNatClampNeg (nI f)) 2 a 5 (nI i).toNatClampNeg (nI (riseN k f (Su S) (She S)))) 2 a 6 (nI i).toNatClampNeg (nI (bearN k f)))) [vp_in (nI i) 8] rfl ?_ ?_
    · exact allP1 (by exact in8 hi8)
    refine AW.callSI (d' := 0) [.inl (nI k), .inl (nI f)] [.inl (nI i), .inr (.inr (2, a, 7))] ⟨_, rfl⟩ f_0_shocks s_0_shocks l_3_76 rfl (Nat.le_of_ble_eq_true rfl) rfl (Nat.le_of_ble_eq_true rfl) (c0_shocks k f hk hf (setM (setM (setM (setM σ 2 a 1 (nI i).toNatClampNeg (nI k)) 2 a 2 (nI i).toNatClampNeg (nI f)) 2 a 5 (nI i).toNatClampNeg (nI (riseN k f (Su S) (She S)))) 2 a 6 (nI i).toNatClampNeg (nI (bearN k f)))) ?_
    rintro _ _ ⟨rfl, rfl⟩
    refine AW.run 1 [] (64, [(0, .inr (.inr (2, a, 0))), (1, .inl (nI i)), (2, .inl (nI k)), (3, .inl (nI f))], [], (setM (setM (setM (setM (setM σ 2 a 1 (nI i).toNatClampNeg (nI k)) 2 a 2 (nI i).toNatClampNeg (nI f)) 2 a 5 (nI i).toNatClampNeg (nI (riseN k f (Su S) (She S)))) 2 a 6 (nI i).toNatClampNeg (nI (bearN k f))) 2 a 7 (nI i).toNatClampNeg (nI (shockN k f)))) [vp_in (nI i) 8] rfl ?_ ?_
    · exact allP1 (by exact in8 hi8)
    refine AW.retv ⟨_, rfl⟩ rfl ?_
    rw [cl8 hi8]
    exact ⟨only_trans only_set (only_trans only_set (only_trans only_set (only_trans only_set only_set))), rep_become hR⟩
  · skip
    refine AW.run 1 [false] (8, [(0, .inr (.inr (2, a, 0))), (1, .inl (nI i)), (2, .inl (nI k)), (3, .inl (nI f))], [], σ) [¬ icP .ne (0 : Int32) 0] rfl ?_ ?_
    · exact allP1 (by decide : ¬ (¬ (0 : Int32) = 0))
    refine AW.retv ⟨_, rfl⟩ rfl ?_
    exact absurd rfl (hp2 i hi)
set_option maxHeartbeats 4000000 in
set_option maxRecDepth 100000 in
theorem c3_add (a : Nat) (S : Sv) (σ : St) (hR : RepS (σ 2 a) S) (hO : SOK S) (k f p : Nat) (hn : Sn S < 8) (hk : k ≤ 5) (hf : f ≤ 9) : Ct M3_add 3 [.inr (.inr (2, a, 0)), .inl (nI k), .inl (nI f), .inl (nI p)] σ (PV fun σ' => Only 2 a σ σ' ∧ RepS (σ' 2 a) (addS S k f p)) := by
  refine Ct.of f_3_add (Nat.le_of_ble_eq_true rfl) ?_
  show AW M3_add 3 _ (0, [(0, .inr (.inr (2, a, 0))), (1, .inl (nI k)), (2, .inl (nI f)), (3, .inl (nI p))], [], σ)
  have e7 : σ 2 a 0 7 = nI (Sn S) := hR.1.1
  have e8 : σ 2 a 0 8 = bI (Sw S) := hR.1.2.1
  refine AW.run 2 [] (4, [(0, .inr (.inr (2, a, 0))), (1, .inl (nI k)), (2, .inl (nI f)), (3, .inl (nI p))], [.inl (σ 2 a 0 7)], σ) [] rfl ?_ ?_
  · exact trivial
  rw [e7]
  refine AW.run 3 [false] (11, [(0, .inr (.inr (2, a, 0))), (1, .inl (nI k)), (2, .inl (nI f)), (3, .inl (nI p))], [.inl (σ 2 a 0 7)], σ) [¬ icP .lt (nI (Sn S)) 0] rfl ?_ ?_
  · exact allP1 (nlt0 (by omega))
  rw [e7]
  refine AW.run 4 [true] (21, [(0, .inr (.inr (2, a, 0))), (1, .inl (nI k)), (2, .inl (nI f)), (3, .inl (nI p))], [.inl (σ 2 a 0 7)], σ) [icP .lt (nI (Sn S)) 8] rfl ?_ ?_
  · exact allP1 (nI_lt (b := 8) hn (by decide))
  rw [e7]
  refine AW.run 6 [] (30, [(4, .inl (nI (Sn S))), (0, .inr (.inr (2, a, 0))), (1, .inl (nI k)), (2, .inl (nI f)), (3, .inl (nI p))], [.inl ((σ 2 a 0 7) + 1), .inr (.inr (2, a, 0))], σ) [] rfl ?_ ?_
  · exact trivial
  rw [e7, nI_1]
  refine AW.run 8 [] (43, [(4, .inl (nI (Sn S))), (0, .inr (.inr (2, a, 0))), (1, .inl (nI k)), (2, .inl (nI f)), (3, .inl (nI p))], [.inl (((setM σ 2 a 0 7 (nI (Sn S + 1))) 2 a 0 8) ||| (1 <<< ((nI (Sn S)) &&& 31))), .inr (.inr (2, a, 0))], (setM σ 2 a 0 7 (nI (Sn S + 1)))) [] rfl ?_ ?_
  · exact trivial
  rw [show ((setM σ 2 a 0 7 (nI (Sn S + 1))) 2 a 0 8) ||| (1 <<< ((nI (Sn S)) &&& 31)) = bI (fu (Sw S) (Sn S) true) by simp only [setM_at]; rw [if_neg (by decide), e8]; exact bI_set _ hn]
  refine AW.run 10 [] (59, [(4, .inl (nI (Sn S))), (0, .inr (.inr (2, a, 0))), (1, .inl (nI k)), (2, .inl (nI f)), (3, .inl (nI p))], [.inl (nI f), .inl (nI k), .inl (nI (Sn S)), .inr (.inr (2, a, 0))], (setM (setM (setM σ 2 a 0 7 (nI (Sn S + 1))) 2 a 0 8 (bI (fu (Sw S) (Sn S) true))) 2 a 3 (nI (Sn S)).toNatClampNeg (nI p))) [vp_in (nI (Sn S)) 8] rfl ?_ ?_
  · exact allP1 (by exact in8 hn)
  refine AW.callVV (d' := 2) [.inl (nI (Sn S)), .inl (nI k), .inl (nI f)] [] ⟨_, rfl⟩ f_3_become v_3_become l_3_62 ⟨rfl, by decide⟩ rfl (Nat.le_of_ble_eq_true rfl) rfl (Nat.le_of_ble_eq_true rfl) (c3_become a (addE S p) (setM (setM (setM σ 2 a 0 7 (nI (Sn S + 1))) 2 a 0 8 (bI (fu (Sw S) (Sn S) true))) 2 a 3 (nI (Sn S)).toNatClampNeg (nI p)) (Sn S) k f (by rw [cl8 hn]; exact rep_addE hR) hn (Nat.lt_succ_self _) hk hf hO.2.2.2.1 hO.2.2.2.2) ?_
  rintro τ1 ⟨hB1, hB2⟩
  refine AW.retv ⟨_, rfl⟩ rfl ?_
  exact ⟨only_trans only_set (only_trans only_set (only_trans only_set hB1)), hB2⟩
end
section
/-! COPY, HALVE, AND WHAT IS READ OFF A SHELF -/
theorem cpy_ne {σ : St} {c i j c2 i2 j2 n : Nat} {c' i' : Nat} (h : ¬ (c' = c2 ∧ i' = i2)) : cpyM σ c i j c2 i2 j2 n c' i' = σ c' i' := by
  funext j' k'
  simp only [cpyM]
  rw [if_neg]
  rintro ⟨h1, h2, -⟩
  exact h ⟨h1, h2⟩
theorem only_cpy {σ : St} {c i j c2 i2 j2 n : Nat} : Only c2 i2 σ (cpyM σ c i j c2 i2 j2 n) := fun _ _ h => cpy_ne h
theorem set_ne {σ : St} {c i j k : Nat} {v : Int32} {c' i' : Nat} (h : ¬ (c' = c ∧ i' = i)) : setM σ c i j k v c' i' = σ c' i' := only_set c' i' h
theorem cpyM_at (σ : St) (c i j c2 i2 j2 n j' k' : Nat) : cpyM σ c i j c2 i2 j2 n c2 i2 j' k' = if j' = j2 ∧ k' < n then σ c i j k' else σ c2 i2 j' k' := by simp [cpyM]
def halfQ (S : Sv) (i : Nat) : Nat → Nat := fun j => if j < i ∧ Sw S j = true then Sq S j / 2 else Sq S j
theorem halfQ_hit {S : Sv} {i : Nat} (h : Sw S i = true) : halfQ S (i + 1) = fu (halfQ S i) i (Sq S i / 2) := by
  funext k
  simp only [halfQ, fu]
  by_cases hk : k = i
  · subst hk
    simp [h]
  · have : (k < i + 1) ↔ (k < i) := by omega
    simp [hk, this]
theorem halfQ_miss {S : Sv} {i : Nat} (h : Sw S i = false) : halfQ S (i + 1) = halfQ S i := by
  funext k
  simp only [halfQ]
  by_cases hk : k = i
  · subst hk
    simp [h]
  · have : (k < i + 1) ↔ (k < i) := by omega
    simp [this]
theorem halfQ_at {S : Sv} {i : Nat} : halfQ S i i = Sq S i := by simp [halfQ]
def halfS (S : Sv) : Sv := withQ S (halfQ S 8)
theorem SOK_halfQ {S : Sv} (hO : SOK S) (m : Nat) : SOK (withQ S (halfQ S m)) := by
  obtain ⟨h1, h2, h3, h4, h5⟩ := hO
  refine ⟨h1, fun k => ⟨(h2 k).1, (h2 k).2.1, (h2 k).2.2.1, ?_⟩, fun k hk => ?_, h4, h5⟩
  · show halfQ S m k ≤ 99
    have := (h2 k).2.2.2
    unfold halfQ
    split
    · omega
    · exact this
  · obtain ⟨g1, g2, g3, g4⟩ := h3 k hk
    refine ⟨g1, g2, ?_, g4⟩
    show halfQ S m k = 0
    unfold halfQ
    rw [if_neg, g3]
    rintro ⟨-, h⟩
    rw [g1] at h
    cases h
theorem half_n : ∀ q < 100, nI q / 2 = nI (q / 2) := by decide +kernel
/-- the whole one at a place, from i on -/
def atN (S : Sv) (p : Nat) : Nat → Nat → Option Nat
  | 0, _ => none
  | k + 1, i => if Sw S i = true ∧ Sp S i = p then some i else atN S p k (i + 1)
def atS (S : Sv) (p : Nat) : Option Nat := atN S p 8 0
def optI (o : Option Nat) : Int32 := match o with
  | none => -9
  | some k => nI k
def psum (S : Sv) : Nat → Nat
  | 0 => 0
  | i + 1 => psum S i + if Sw S i = true then Sq S i else 0
theorem psum_le {S : Sv} (hO : SOK S) : ∀ i, psum S i ≤ 99 * i
  | 0 => Nat.le_refl _
  | i + 1 => by
    have := psum_le hO i
    have := (hO.2.1 i).2.2.2
    unfold psum
    split <;> omega
def ksum (S : Sv) (k : Nat) : Nat → Nat
  | 0 => 0
  | i + 1 => ksum S k i + if Sw S i = true ∧ Sk S i = k then 1 else 0
theorem ksum_le {S : Sv} {k : Nat} : ∀ i, ksum S k i ≤ i
  | 0 => Nat.le_refl _
  | i + 1 => by
    have := ksum_le (S := S) (k := k) i
    unfold ksum
    split <;> omega

set_option maxHeartbeats 4000000 in
set_option maxRecDepth 100000 in
theorem c3_copyFrom (a b : Nat) (hab : b ≠ a) (S : Sv) (σ : St) (hR : RepS (σ 2 b) S) (hO : SOK S) : Ct M3_copyFrom 1 [.inr (.inr (2, a, 0)), .inr (.inr (2, b, 0))] σ (PV fun σ' => Only 2 a σ σ' ∧ RepS (σ' 2 a) (S)) := by
  refine Ct.of f_3_copyFrom (Nat.le_of_ble_eq_true rfl) ?_
  show AW M3_copyFrom 1 _ (0, [(0, .inr (.inr (2, a, 0))), (1, .inr (.inr (2, b, 0)))], [], σ)
  have hb : ¬ ((2 : Nat) = 2 ∧ b = a) := fun h => hab h.2
  refine AW.run 7 [] (12, [(0, .inr (.inr (2, a, 0))), (1, .inr (.inr (2, b, 0)))], [.inl 8, .inl 0, .inr (.inr (2, a, 1)), .inl 0, .inr (.inr (2, b, 1))], σ) [] rfl ?_ ?_
  · exact trivial
  refine AW.copy (n := 8) ⟨_, rfl⟩ l_3_37 (Nat.le_of_ble_eq_true rfl) (Nat.le_of_ble_eq_true rfl) rfl rfl (by decide) ?_
  refine AW.run 7 [] (27, [(0, .inr (.inr (2, a, 0))), (1, .inr (.inr (2, b, 0)))], [.inl 8, .inl 0, .inr (.inr (2, a, 2)), .inl 0, .inr (.inr (2, b, 2))], (cpyM σ 2 b 1 2 a 1 8)) [] rfl ?_ ?_
  · exact trivial
  refine AW.copy (n := 8) ⟨_, rfl⟩ l_3_37 (Nat.le_of_ble_eq_true rfl) (Nat.le_of_ble_eq_true rfl) rfl rfl (by decide) ?_
  refine AW.run 7 [] (42, [(0, .inr (.inr (2, a, 0))), (1, .inr (.inr (2, b, 0)))], [.inl 8, .inl 0, .inr (.inr (2, a, 3)), .inl 0, .inr (.inr (2, b, 3))], (cpyM (cpyM σ 2 b 1 2 a 1 8) 2 b 2 2 a 2 8)) [] rfl ?_ ?_
  · exact trivial
  refine AW.copy (n := 8) ⟨_, rfl⟩ l_3_37 (Nat.le_of_ble_eq_true rfl) (Nat.le_of_ble_eq_true rfl) rfl rfl (by decide) ?_
  refine AW.run 7 [] (57, [(0, .inr (.inr (2, a, 0))), (1, .inr (.inr (2, b, 0)))], [.inl 8, .inl 0, .inr (.inr (2, a, 4)), .inl 0, .inr (.inr (2, b, 4))], (cpyM (cpyM (cpyM σ 2 b 1 2 a 1 8) 2 b 2 2 a 2 8) 2 b 3 2 a 3 8)) [] rfl ?_ ?_
  · exact trivial
  refine AW.copy (n := 8) ⟨_, rfl⟩ l_3_37 (Nat.le_of_ble_eq_true rfl) (Nat.le_of_ble_eq_true rfl) rfl rfl (by decide) ?_
  refine AW.run 7 [] (72, [(0, .inr (.inr (2, a, 0))), (1, .inr (.inr (2, b, 0)))], [.inl 8, .inl 0, .inr (.inr (2, a, 5)), .inl 0, .inr (.inr (2, b, 5))], (cpyM (cpyM (cpyM (cpyM σ 2 b 1 2 a 1 8) 2 b 2 2 a 2 8) 2 b 3 2 a 3 8) 2 b 4 2 a 4 8)) [] rfl ?_ ?_
  · exact trivial
  refine AW.copy (n := 8) ⟨_, rfl⟩ l_3_37 (Nat.le_of_ble_eq_true rfl) (Nat.le_of_ble_eq_true rfl) rfl rfl (by decide) ?_
  refine AW.run 7 [] (87, [(0, .inr (.inr (2, a, 0))), (1, .inr (.inr (2, b, 0)))], [.inl 8, .inl 0, .inr (.inr (2, a, 6)), .inl 0, .inr (.inr (2, b, 6))], (cpyM (cpyM (cpyM (cpyM (cpyM σ 2 b 1 2 a 1 8) 2 b 2 2 a 2 8) 2 b 3 2 a 3 8) 2 b 4 2 a 4 8) 2 b 5 2 a 5 8)) [] rfl ?_ ?_
  · exact trivial
  refine AW.copy (n := 8) ⟨_, rfl⟩ l_3_37 (Nat.le_of_ble_eq_true rfl) (Nat.le_of_ble_eq_true rfl) rfl rfl (by decide) ?_
  refine AW.run 7 [] (102, [(0, .inr (.inr (2, a, 0))), (1, .inr (.inr (2, b, 0)))], [.inl 8, .inl 0, .inr (.inr (2, a, 7)), .inl 0, .inr (.inr (2, b, 7))], (cpyM (cpyM (cpyM (cpyM (cpyM (cpyM σ 2 b 1 2 a 1 8) 2 b 2 2 a 2 8) 2 b 3 2 a 3 8) 2 b 4 2 a 4 8) 2 b 5 2 a 5 8) 2 b 6 2 a 6 8)) [] rfl ?_ ?_
  · exact trivial
  refine AW.copy (n := 8) ⟨_, rfl⟩ l_3_37 (Nat.le_of_ble_eq_true rfl) (Nat.le_of_ble_eq_true rfl) rfl rfl (by decide) ?_
  refine AW.run 24 [] (153, [(0, .inr (.inr (2, a, 0))), (1, .inr (.inr (2, b, 0)))], [], (setM (setM (setM (setM (setM (setM (cpyM (cpyM (cpyM (cpyM (cpyM (cpyM (cpyM σ 2 b 1 2 a 1 8) 2 b 2 2 a 2 8) 2 b 3 2 a 3 8) 2 b 4 2 a 4 8) 2 b 5 2 a 5 8) 2 b 6 2 a 6 8) 2 b 7 2 a 7 8) 2 a 0 7 ((cpyM (cpyM (cpyM (cpyM (cpyM (cpyM (cpyM σ 2 b 1 2 a 1 8) 2 b 2 2 a 2 8) 2 b 3 2 a 3 8) 2 b 4 2 a 4 8) 2 b 5 2 a 5 8) 2 b 6 2 a 6 8) 2 b 7 2 a 7 8) 2 b 0 7)) 2 a 0 8 ((setM (cpyM (cpyM (cpyM (cpyM (cpyM (cpyM (cpyM σ 2 b 1 2 a 1 8) 2 b 2 2 a 2 8) 2 b 3 2 a 3 8) 2 b 4 2 a 4 8) 2 b 5 2 a 5 8) 2 b 6 2 a 6 8) 2 b 7 2 a 7 8) 2 a 0 7 ((cpyM (cpyM (cpyM (cpyM (cpyM (cpyM (cpyM σ 2 b 1 2 a 1 8) 2 b 2 2 a 2 8) 2 b 3 2 a 3 8) 2 b 4 2 a 4 8) 2 b 5 2 a 5 8) 2 b 6 2 a 6 8) 2 b 7 2 a 7 8) 2 b 0 7)) 2 b 0 8)) 2 a 0 9 ((setM (setM (cpyM (cpyM (cpyM (cpyM (cpyM (cpyM (cpyM σ 2 b 1 2 a 1 8) 2 b 2 2 a 2 8) 2 b 3 2 a 3 8) 2 b 4 2 a 4 8) 2 b 5 2 a 5 8) 2 b 6 2 a 6 8) 2 b 7 2 a 7 8) 2 a 0 7 ((cpyM (cpyM (cpyM (cpyM (cpyM (cpyM (cpyM σ 2 b 1 2 a 1 8) 2 b 2 2 a 2 8) 2 b 3 2 a 3 8) 2 b 4 2 a 4 8) 2 b 5 2 a 5 8) 2 b 6 2 a 6 8) 2 b 7 2 a 7 8) 2 b 0 7)) 2 a 0 8 ((setM (cpyM (cpyM (cpyM (cpyM (cpyM (cpyM (cpyM σ 2 b 1 2 a 1 8) 2 b 2 2 a 2 8) 2 b 3 2 a 3 8) 2 b 4 2 a 4 8) 2 b 5 2 a 5 8) 2 b 6 2 a 6 8) 2 b 7 2 a 7 8) 2 a 0 7 ((cpyM (cpyM (cpyM (cpyM (cpyM (cpyM (cpyM σ 2 b 1 2 a 1 8) 2 b 2 2 a 2 8) 2 b 3 2 a 3 8) 2 b 4 2 a 4 8) 2 b 5 2 a 5 8) 2 b 6 2 a 6 8) 2 b 7 2 a 7 8) 2 b 0 7)) 2 b 0 8)) 2 b 0 9)) 2 a 0 10 ((setM (setM (setM (cpyM (cpyM (cpyM (cpyM (cpyM (cpyM (cpyM σ 2 b 1 2 a 1 8) 2 b 2 2 a 2 8) 2 b 3 2 a 3 8) 2 b 4 2 a 4 8) 2 b 5 2 a 5 8) 2 b 6 2 a 6 8) 2 b 7 2 a 7 8) 2 a 0 7 ((cpyM (cpyM (cpyM (cpyM (cpyM (cpyM (cpyM σ 2 b 1 2 a 1 8) 2 b 2 2 a 2 8) 2 b 3 2 a 3 8) 2 b 4 2 a 4 8) 2 b 5 2 a 5 8) 2 b 6 2 a 6 8) 2 b 7 2 a 7 8) 2 b 0 7)) 2 a 0 8 ((setM (cpyM (cpyM (cpyM (cpyM (cpyM (cpyM (cpyM σ 2 b 1 2 a 1 8) 2 b 2 2 a 2 8) 2 b 3 2 a 3 8) 2 b 4 2 a 4 8) 2 b 5 2 a 5 8) 2 b 6 2 a 6 8) 2 b 7 2 a 7 8) 2 a 0 7 ((cpyM (cpyM (cpyM (cpyM (cpyM (cpyM (cpyM σ 2 b 1 2 a 1 8) 2 b 2 2 a 2 8) 2 b 3 2 a 3 8) 2 b 4 2 a 4 8) 2 b 5 2 a 5 8) 2 b 6 2 a 6 8) 2 b 7 2 a 7 8) 2 b 0 7)) 2 b 0 8)) 2 a 0 9 ((setM (setM (cpyM (cpyM (cpyM (cpyM (cpyM (cpyM (cpyM σ 2 b 1 2 a 1 8) 2 b 2 2 a 2 8) 2 b 3 2 a 3 8) 2 b 4 2 a 4 8) 2 b 5 2 a 5 8) 2 b 6 2 a 6 8) 2 b 7 2 a 7 8) 2 a 0 7 ((cpyM (cpyM (cpyM (cpyM (cpyM (cpyM (cpyM σ 2 b 1 2 a 1 8) 2 b 2 2 a 2 8) 2 b 3 2 a 3 8) 2 b 4 2 a 4 8) 2 b 5 2 a 5 8) 2 b 6 2 a 6 8) 2 b 7 2 a 7 8) 2 b 0 7)) 2 a 0 8 ((setM (cpyM (cpyM (cpyM (cpyM (cpyM (cpyM (cpyM σ 2 b 1 2 a 1 8) 2 b 2 2 a 2 8) 2 b 3 2 a 3 8) 2 b 4 2 a 4 8) 2 b 5 2 a 5 8) 2 b 6 2 a 6 8) 2 b 7 2 a 7 8) 2 a 0 7 ((cpyM (cpyM (cpyM (cpyM (cpyM (cpyM (cpyM σ 2 b 1 2 a 1 8) 2 b 2 2 a 2 8) 2 b 3 2 a 3 8) 2 b 4 2 a 4 8) 2 b 5 2 a 5 8) 2 b 6 2 a 6 8) 2 b 7 2 a 7 8) 2 b 0 7)) 2 b 0 8)) 2 b 0 9)) 2 b 0 10)) 2 a 0 11 ((setM (setM (setM (setM (cpyM (cpyM (cpyM (cpyM (cpyM (cpyM (cpyM σ 2 b 1 2 a 1 8) 2 b 2 2 a 2 8) 2 b 3 2 a 3 8) 2 b 4 2 a 4 8) 2 b 5 2 a 5 8) 2 b 6 2 a 6 8) 2 b 7 2 a 7 8) 2 a 0 7 ((cpyM (cpyM (cpyM (cpyM (cpyM (cpyM (cpyM σ 2 b 1 2 a 1 8) 2 b 2 2 a 2 8) 2 b 3 2 a 3 8) 2 b 4 2 a 4 8) 2 b 5 2 a 5 8) 2 b 6 2 a 6 8) 2 b 7 2 a 7 8) 2 b 0 7)) 2 a 0 8 ((setM (cpyM (cpyM (cpyM (cpyM (cpyM (cpyM (cpyM σ 2 b 1 2 a 1 8) 2 b 2 2 a 2 8) 2 b 3 2 a 3 8) 2 b 4 2 a 4 8) 2 b 5 2 a 5 8) 2 b 6 2 a 6 8) 2 b 7 2 a 7 8) 2 a 0 7 ((cpyM (cpyM (cpyM (cpyM (cpyM (cpyM (cpyM σ 2 b 1 2 a 1 8) 2 b 2 2 a 2 8) 2 b 3 2 a 3 8) 2 b 4 2 a 4 8) 2 b 5 2 a 5 8) 2 b 6 2 a 6 8) 2 b 7 2 a 7 8) 2 b 0 7)) 2 b 0 8)) 2 a 0 9 ((setM (setM (cpyM (cpyM (cpyM (cpyM (cpyM (cpyM (cpyM σ 2 b 1 2 a 1 8) 2 b 2 2 a 2 8) 2 b 3 2 a 3 8) 2 b 4 2 a 4 8) 2 b 5 2 a 5 8) 2 b 6 2 a 6 8) 2 b 7 2 a 7 8) 2 a 0 7 ((cpyM (cpyM (cpyM (cpyM (cpyM (cpyM (cpyM σ 2 b 1 2 a 1 8) 2 b 2 2 a 2 8) 2 b 3 2 a 3 8) 2 b 4 2 a 4 8) 2 b 5 2 a 5 8) 2 b 6 2 a 6 8) 2 b 7 2 a 7 8) 2 b 0 7)) 2 a 0 8 ((setM (cpyM (cpyM (cpyM (cpyM (cpyM (cpyM (cpyM σ 2 b 1 2 a 1 8) 2 b 2 2 a 2 8) 2 b 3 2 a 3 8) 2 b 4 2 a 4 8) 2 b 5 2 a 5 8) 2 b 6 2 a 6 8) 2 b 7 2 a 7 8) 2 a 0 7 ((cpyM (cpyM (cpyM (cpyM (cpyM (cpyM (cpyM σ 2 b 1 2 a 1 8) 2 b 2 2 a 2 8) 2 b 3 2 a 3 8) 2 b 4 2 a 4 8) 2 b 5 2 a 5 8) 2 b 6 2 a 6 8) 2 b 7 2 a 7 8) 2 b 0 7)) 2 b 0 8)) 2 b 0 9)) 2 a 0 10 ((setM (setM (setM (cpyM (cpyM (cpyM (cpyM (cpyM (cpyM (cpyM σ 2 b 1 2 a 1 8) 2 b 2 2 a 2 8) 2 b 3 2 a 3 8) 2 b 4 2 a 4 8) 2 b 5 2 a 5 8) 2 b 6 2 a 6 8) 2 b 7 2 a 7 8) 2 a 0 7 ((cpyM (cpyM (cpyM (cpyM (cpyM (cpyM (cpyM σ 2 b 1 2 a 1 8) 2 b 2 2 a 2 8) 2 b 3 2 a 3 8) 2 b 4 2 a 4 8) 2 b 5 2 a 5 8) 2 b 6 2 a 6 8) 2 b 7 2 a 7 8) 2 b 0 7)) 2 a 0 8 ((setM (cpyM (cpyM (cpyM (cpyM (cpyM (cpyM (cpyM σ 2 b 1 2 a 1 8) 2 b 2 2 a 2 8) 2 b 3 2 a 3 8) 2 b 4 2 a 4 8) 2 b 5 2 a 5 8) 2 b 6 2 a 6 8) 2 b 7 2 a 7 8) 2 a 0 7 ((cpyM (cpyM (cpyM (cpyM (cpyM (cpyM (cpyM σ 2 b 1 2 a 1 8) 2 b 2 2 a 2 8) 2 b 3 2 a 3 8) 2 b 4 2 a 4 8) 2 b 5 2 a 5 8) 2 b 6 2 a 6 8) 2 b 7 2 a 7 8) 2 b 0 7)) 2 b 0 8)) 2 a 0 9 ((setM (setM (cpyM (cpyM (cpyM (cpyM (cpyM (cpyM (cpyM σ 2 b 1 2 a 1 8) 2 b 2 2 a 2 8) 2 b 3 2 a 3 8) 2 b 4 2 a 4 8) 2 b 5 2 a 5 8) 2 b 6 2 a 6 8) 2 b 7 2 a 7 8) 2 a 0 7 ((cpyM (cpyM (cpyM (cpyM (cpyM (cpyM (cpyM σ 2 b 1 2 a 1 8) 2 b 2 2 a 2 8) 2 b 3 2 a 3 8) 2 b 4 2 a 4 8) 2 b 5 2 a 5 8) 2 b 6 2 a 6 8) 2 b 7 2 a 7 8) 2 b 0 7)) 2 a 0 8 ((setM (cpyM (cpyM (cpyM (cpyM (cpyM (cpyM (cpyM σ 2 b 1 2 a 1 8) 2 b 2 2 a 2 8) 2 b 3 2 a 3 8) 2 b 4 2 a 4 8) 2 b 5 2 a 5 8) 2 b 6 2 a 6 8) 2 b 7 2 a 7 8) 2 a 0 7 ((cpyM (cpyM (cpyM (cpyM (cpyM (cpyM (cpyM σ 2 b 1 2 a 1 8) 2 b 2 2 a 2 8) 2 b 3 2 a 3 8) 2 b 4 2 a 4 8) 2 b 5 2 a 5 8) 2 b 6 2 a 6 8) 2 b 7 2 a 7 8) 2 b 0 7)) 2 b 0 8)) 2 b 0 9)) 2 b 0 10)) 2 b 0 11)) 2 a 0 12 ((setM (setM (setM (setM (setM (cpyM (cpyM (cpyM (cpyM (cpyM (cpyM (cpyM σ 2 b 1 2 a 1 8) 2 b 2 2 a 2 8) 2 b 3 2 a 3 8) 2 b 4 2 a 4 8) 2 b 5 2 a 5 8) 2 b 6 2 a 6 8) 2 b 7 2 a 7 8) 2 a 0 7 ((cpyM (cpyM (cpyM (cpyM (cpyM (cpyM (cpyM σ 2 b 1 2 a 1 8) 2 b 2 2 a 2 8) 2 b 3 2 a 3 8) 2 b 4 2 a 4 8) 2 b 5 2 a 5 8) 2 b 6 2 a 6 8) 2 b 7 2 a 7 8) 2 b 0 7)) 2 a 0 8 ((setM (cpyM (cpyM (cpyM (cpyM (cpyM (cpyM (cpyM σ 2 b 1 2 a 1 8) 2 b 2 2 a 2 8) 2 b 3 2 a 3 8) 2 b 4 2 a 4 8) 2 b 5 2 a 5 8) 2 b 6 2 a 6 8) 2 b 7 2 a 7 8) 2 a 0 7 ((cpyM (cpyM (cpyM (cpyM (cpyM (cpyM (cpyM σ 2 b 1 2 a 1 8) 2 b 2 2 a 2 8) 2 b 3 2 a 3 8) 2 b 4 2 a 4 8) 2 b 5 2 a 5 8) 2 b 6 2 a 6 8) 2 b 7 2 a 7 8) 2 b 0 7)) 2 b 0 8)) 2 a 0 9 ((setM (setM (cpyM (cpyM (cpyM (cpyM (cpyM (cpyM (cpyM σ 2 b 1 2 a 1 8) 2 b 2 2 a 2 8) 2 b 3 2 a 3 8) 2 b 4 2 a 4 8) 2 b 5 2 a 5 8) 2 b 6 2 a 6 8) 2 b 7 2 a 7 8) 2 a 0 7 ((cpyM (cpyM (cpyM (cpyM (cpyM (cpyM (cpyM σ 2 b 1 2 a 1 8) 2 b 2 2 a 2 8) 2 b 3 2 a 3 8) 2 b 4 2 a 4 8) 2 b 5 2 a 5 8) 2 b 6 2 a 6 8) 2 b 7 2 a 7 8) 2 b 0 7)) 2 a 0 8 ((setM (cpyM (cpyM (cpyM (cpyM (cpyM (cpyM (cpyM σ 2 b 1 2 a 1 8) 2 b 2 2 a 2 8) 2 b 3 2 a 3 8) 2 b 4 2 a 4 8) 2 b 5 2 a 5 8) 2 b 6 2 a 6 8) 2 b 7 2 a 7 8) 2 a 0 7 ((cpyM (cpyM (cpyM (cpyM (cpyM (cpyM (cpyM σ 2 b 1 2 a 1 8) 2 b 2 2 a 2 8) 2 b 3 2 a 3 8) 2 b 4 2 a 4 8) 2 b 5 2 a 5 8) 2 b 6 2 a 6 8) 2 b 7 2 a 7 8) 2 b 0 7)) 2 b 0 8)) 2 b 0 9)) 2 a 0 10 ((setM (setM (setM (cpyM (cpyM (cpyM (cpyM (cpyM (cpyM (cpyM σ 2 b 1 2 a 1 8) 2 b 2 2 a 2 8) 2 b 3 2 a 3 8) 2 b 4 2 a 4 8) 2 b 5 2 a 5 8) 2 b 6 2 a 6 8) 2 b 7 2 a 7 8) 2 a 0 7 ((cpyM (cpyM (cpyM (cpyM (cpyM (cpyM (cpyM σ 2 b 1 2 a 1 8) 2 b 2 2 a 2 8) 2 b 3 2 a 3 8) 2 b 4 2 a 4 8) 2 b 5 2 a 5 8) 2 b 6 2 a 6 8) 2 b 7 2 a 7 8) 2 b 0 7)) 2 a 0 8 ((setM (cpyM (cpyM (cpyM (cpyM (cpyM (cpyM (cpyM σ 2 b 1 2 a 1 8) 2 b 2 2 a 2 8) 2 b 3 2 a 3 8) 2 b 4 2 a 4 8) 2 b 5 2 a 5 8) 2 b 6 2 a 6 8) 2 b 7 2 a 7 8) 2 a 0 7 ((cpyM (cpyM (cpyM (cpyM (cpyM (cpyM (cpyM σ 2 b 1 2 a 1 8) 2 b 2 2 a 2 8) 2 b 3 2 a 3 8) 2 b 4 2 a 4 8) 2 b 5 2 a 5 8) 2 b 6 2 a 6 8) 2 b 7 2 a 7 8) 2 b 0 7)) 2 b 0 8)) 2 a 0 9 ((setM (setM (cpyM (cpyM (cpyM (cpyM (cpyM (cpyM (cpyM σ 2 b 1 2 a 1 8) 2 b 2 2 a 2 8) 2 b 3 2 a 3 8) 2 b 4 2 a 4 8) 2 b 5 2 a 5 8) 2 b 6 2 a 6 8) 2 b 7 2 a 7 8) 2 a 0 7 ((cpyM (cpyM (cpyM (cpyM (cpyM (cpyM (cpyM σ 2 b 1 2 a 1 8) 2 b 2 2 a 2 8) 2 b 3 2 a 3 8) 2 b 4 2 a 4 8) 2 b 5 2 a 5 8) 2 b 6 2 a 6 8) 2 b 7 2 a 7 8) 2 b 0 7)) 2 a 0 8 ((setM (cpyM (cpyM (cpyM (cpyM (cpyM (cpyM (cpyM σ 2 b 1 2 a 1 8) 2 b 2 2 a 2 8) 2 b 3 2 a 3 8) 2 b 4 2 a 4 8) 2 b 5 2 a 5 8) 2 b 6 2 a 6 8) 2 b 7 2 a 7 8) 2 a 0 7 ((cpyM (cpyM (cpyM (cpyM (cpyM (cpyM (cpyM σ 2 b 1 2 a 1 8) 2 b 2 2 a 2 8) 2 b 3 2 a 3 8) 2 b 4 2 a 4 8) 2 b 5 2 a 5 8) 2 b 6 2 a 6 8) 2 b 7 2 a 7 8) 2 b 0 7)) 2 b 0 8)) 2 b 0 9)) 2 b 0 10)) 2 a 0 11 ((setM (setM (setM (setM (cpyM (cpyM (cpyM (cpyM (cpyM (cpyM (cpyM σ 2 b 1 2 a 1 8) 2 b 2 2 a 2 8) 2 b 3 2 a 3 8) 2 b 4 2 a 4 8) 2 b 5 2 a 5 8) 2 b 6 2 a 6 8) 2 b 7 2 a 7 8) 2 a 0 7 ((cpyM (cpyM (cpyM (cpyM (cpyM (cpyM (cpyM σ 2 b 1 2 a 1 8) 2 b 2 2 a 2 8) 2 b 3 2 a 3 8) 2 b 4 2 a 4 8) 2 b 5 2 a 5 8) 2 b 6 2 a 6 8) 2 b 7 2 a 7 8) 2 b 0 7)) 2 a 0 8 ((setM (cpyM (cpyM (cpyM (cpyM (cpyM (cpyM (cpyM σ 2 b 1 2 a 1 8) 2 b 2 2 a 2 8) 2 b 3 2 a 3 8) 2 b 4 2 a 4 8) 2 b 5 2 a 5 8) 2 b 6 2 a 6 8) 2 b 7 2 a 7 8) 2 a 0 7 ((cpyM (cpyM (cpyM (cpyM (cpyM (cpyM (cpyM σ 2 b 1 2 a 1 8) 2 b 2 2 a 2 8) 2 b 3 2 a 3 8) 2 b 4 2 a 4 8) 2 b 5 2 a 5 8) 2 b 6 2 a 6 8) 2 b 7 2 a 7 8) 2 b 0 7)) 2 b 0 8)) 2 a 0 9 ((setM (setM (cpyM (cpyM (cpyM (cpyM (cpyM (cpyM (cpyM σ 2 b 1 2 a 1 8) 2 b 2 2 a 2 8) 2 b 3 2 a 3 8) 2 b 4 2 a 4 8) 2 b 5 2 a 5 8) 2 b 6 2 a 6 8) 2 b 7 2 a 7 8) 2 a 0 7 ((cpyM (cpyM (cpyM (cpyM (cpyM (cpyM (cpyM σ 2 b 1 2 a 1 8) 2 b 2 2 a 2 8) 2 b 3 2 a 3 8) 2 b 4 2 a 4 8) 2 b 5 2 a 5 8) 2 b 6 2 a 6 8) 2 b 7 2 a 7 8) 2 b 0 7)) 2 a 0 8 ((setM (cpyM (cpyM (cpyM (cpyM (cpyM (cpyM (cpyM σ 2 b 1 2 a 1 8) 2 b 2 2 a 2 8) 2 b 3 2 a 3 8) 2 b 4 2 a 4 8) 2 b 5 2 a 5 8) 2 b 6 2 a 6 8) 2 b 7 2 a 7 8) 2 a 0 7 ((cpyM (cpyM (cpyM (cpyM (cpyM (cpyM (cpyM σ 2 b 1 2 a 1 8) 2 b 2 2 a 2 8) 2 b 3 2 a 3 8) 2 b 4 2 a 4 8) 2 b 5 2 a 5 8) 2 b 6 2 a 6 8) 2 b 7 2 a 7 8) 2 b 0 7)) 2 b 0 8)) 2 b 0 9)) 2 a 0 10 ((setM (setM (setM (cpyM (cpyM (cpyM (cpyM (cpyM (cpyM (cpyM σ 2 b 1 2 a 1 8) 2 b 2 2 a 2 8) 2 b 3 2 a 3 8) 2 b 4 2 a 4 8) 2 b 5 2 a 5 8) 2 b 6 2 a 6 8) 2 b 7 2 a 7 8) 2 a 0 7 ((cpyM (cpyM (cpyM (cpyM (cpyM (cpyM (cpyM σ 2 b 1 2 a 1 8) 2 b 2 2 a 2 8) 2 b 3 2 a 3 8) 2 b 4 2 a 4 8) 2 b 5 2 a 5 8) 2 b 6 2 a 6 8) 2 b 7 2 a 7 8) 2 b 0 7)) 2 a 0 8 ((setM (cpyM (cpyM (cpyM (cpyM (cpyM (cpyM (cpyM σ 2 b 1 2 a 1 8) 2 b 2 2 a 2 8) 2 b 3 2 a 3 8) 2 b 4 2 a 4 8) 2 b 5 2 a 5 8) 2 b 6 2 a 6 8) 2 b 7 2 a 7 8) 2 a 0 7 ((cpyM (cpyM (cpyM (cpyM (cpyM (cpyM (cpyM σ 2 b 1 2 a 1 8) 2 b 2 2 a 2 8) 2 b 3 2 a 3 8) 2 b 4 2 a 4 8) 2 b 5 2 a 5 8) 2 b 6 2 a 6 8) 2 b 7 2 a 7 8) 2 b 0 7)) 2 b 0 8)) 2 a 0 9 ((setM (setM (cpyM (cpyM (cpyM (cpyM (cpyM (cpyM (cpyM σ 2 b 1 2 a 1 8) 2 b 2 2 a 2 8) 2 b 3 2 a 3 8) 2 b 4 2 a 4 8) 2 b 5 2 a 5 8) 2 b 6 2 a 6 8) 2 b 7 2 a 7 8) 2 a 0 7 ((cpyM (cpyM (cpyM (cpyM (cpyM (cpyM (cpyM σ 2 b 1 2 a 1 8) 2 b 2 2 a 2 8) 2 b 3 2 a 3 8) 2 b 4 2 a 4 8) 2 b 5 2 a 5 8) 2 b 6 2 a 6 8) 2 b 7 2 a 7 8) 2 b 0 7)) 2 a 0 8 ((setM (cpyM (cpyM (cpyM (cpyM (cpyM (cpyM (cpyM σ 2 b 1 2 a 1 8) 2 b 2 2 a 2 8) 2 b 3 2 a 3 8) 2 b 4 2 a 4 8) 2 b 5 2 a 5 8) 2 b 6 2 a 6 8) 2 b 7 2 a 7 8) 2 a 0 7 ((cpyM (cpyM (cpyM (cpyM (cpyM (cpyM (cpyM σ 2 b 1 2 a 1 8) 2 b 2 2 a 2 8) 2 b 3 2 a 3 8) 2 b 4 2 a 4 8) 2 b 5 2 a 5 8) 2 b 6 2 a 6 8) 2 b 7 2 a 7 8) 2 b 0 7)) 2 b 0 8)) 2 b 0 9)) 2 b 0 10)) 2 b 0 11)) 2 b 0 12))) [] rfl ?_ ?_
  · exact trivial
  refine AW.retv ⟨_, rfl⟩ rfl ?_
  refine ⟨?_, ?_⟩
  · intro c' i' hn
    simp only [set_ne hn, cpy_ne hn]
  · refine ⟨?_, fun i hi => ?_, fun i hi => ?_⟩
    · simp only [setM_at, cpyM_at, set_ne hb, cpy_ne hb]
      simpa using hR.1
    · have hg := hR.2.1 i hi
      simp only [setM_at, cpyM_at, set_ne hb, cpy_ne hb]
      simpa [hi] using hg
    · have hg := hR.2.2 i hi
      have hi8 : i < 8 ∨ 8 ≤ i := by omega
      rcases hi8 with hi8 | hi8
      · simp only [setM_at, cpyM_at, set_ne hb, cpy_ne hb]
        simpa [hi8] using hg
      · exact absurd hi8 (by have := hO.1; omega)
set_option maxHeartbeats 4000000 in
set_option maxRecDepth 100000 in
theorem c3_halvePress (a : Nat) (S : Sv) (σ : St) (hR : RepS (σ 2 a) S) (hO : SOK S) : Ct M3_halvePress 1 [.inr (.inr (2, a, 0))] σ (PV fun σ' => Only 2 a σ σ' ∧ RepS (σ' 2 a) (halfS S)) := by
  refine Ct.of f_3_halvePress (Nat.le_of_ble_eq_true rfl) ?_
  show AW M3_halvePress 1 _ (0, [(0, .inr (.inr (2, a, 0)))], [], σ)
  refine AW.run 2 [] (2, [(1, .inl 0), (0, .inr (.inr (2, a, 0)))], [], σ) [] rfl ?_ ?_
  · exact trivial
  refine AW.pick [1, 0] (ls' := [(0, .inr (.inr (2, a, 0))), (1, .inl (nI 0))]) rfl ?_
  refine AW.loop (α := Unit) 2 8 (fun i _ => [(0, .inr (.inr (2, a, 0))), (1, .inl (nI i))]) (fun i _ τ => Only 2 a σ τ ∧ RepS (τ 2 a) (withQ S (halfQ S i))) ?_ ?_ 8 0 () _ (by omega) ⟨only_rfl, hR⟩
  · intro i _ τ hi hI hk
    obtain ⟨hS1, hR1⟩ := hI
    have q1 : τ 2 a 4 (nI i).toNatClampNeg = nI (Sq S i) := by rw [cl8 hi, (hR1.2.1 i hi).2.2.2]; exact congrArg nI halfQ_at
    have hq : Sq S i < 100 := by have := (hO.2.1 i).2.2.2; omega
    skip
    refine AW.run 5 [false] (10, [(0, .inr (.inr (2, a, 0))), (1, .inl (nI i))], [.inl (nI i), .inr (.inr (2, a, 0))], τ) [¬ icP .ge (nI i) 8] rfl ?_ ?_
    · exact allP1 (nle_lit (a := 8) hi (by decide))
    refine AW.callVI (d' := 0) [.inl (nI i)] [] ⟨_, rfl⟩ f_3_isWhole v_3_isWhole l_3_79 ⟨rfl, by decide⟩ rfl (Nat.le_of_ble_eq_true rfl) rfl (Nat.le_of_ble_eq_true rfl) (c3_isWhole a (withQ S (halfQ S i)) τ hR1 (SOK_halfQ hO i) i (by omega)) ?_
    rintro v _ ⟨rfl, hv⟩
    rcases hv with ⟨rfl, hp10⟩ | ⟨rfl, hp10⟩
    · skip
      refine AW.run 6 [false] (23, [(0, .inr (.inr (2, a, 0))), (1, .inl (nI i))], [.inl (τ 2 a 4 (nI i).toNatClampNeg), .inl (nI i), .inr (.inr (2, a, 4))], τ) [¬ icP .eq (1 : Int32) 0, vp_in (nI i) 8] rfl ?_ ?_
      · exact ⟨(by decide : ¬ ((1 : Int32) = 0)), allP1 (by exact in8 hi)⟩
      rw [q1]
      refine AW.run 2 [] (25, [(0, .inr (.inr (2, a, 0))), (1, .inl (nI i))], [.inl ((nI (Sq S i)) / 2), .inl (nI i), .inr (.inr (2, a, 4))], τ) [¬ (2 : Int32) = 0] rfl ?_ ?_
      · exact allP1 (by decide)
      rw [half_n _ hq]
      refine AW.run 3 [] (2, [(1, .inl ((nI i) + 1)), (0, .inr (.inr (2, a, 0)))], [], (setM τ 2 a 4 (nI i).toNatClampNeg (nI (Sq S i / 2)))) [vp_in (nI i) 8] rfl ?_ ?_
      · exact allP1 (by exact in8 hi)
      rw [nI_1 i]
      refine AW.pick [1, 0] (ls' := [(0, .inr (.inr (2, a, 0))), (1, .inl (nI (i + 1)))]) rfl ?_
      exact hk () _ ⟨only_trans hS1 only_set, by rw [cl8 hi, halfQ_hit (S := S) hp10]; exact rep_q hR1⟩
    · skip
      refine AW.run 3 [true] (2, [(1, .inl ((nI i) + 1)), (0, .inr (.inr (2, a, 0)))], [], τ) [icP .eq (0 : Int32) 0] rfl ?_ ?_
      · exact allP1 (by decide : ((0 : Int32) = 0))
      rw [nI_1 i]
      refine AW.pick [1, 0] (ls' := [(0, .inr (.inr (2, a, 0))), (1, .inl (nI (i + 1)))]) rfl ?_
      exact hk () _ ⟨hS1, by rw [halfQ_miss (S := S) hp10]; exact hR1⟩
  · intro _ τ hI
    obtain ⟨hS1, hR1⟩ := hI
    refine AW.run 3 [true] (32, [(0, .inr (.inr (2, a, 0))), (1, .inl (nI 8))], [], τ) [icP .ge (nI 8) 8] rfl ?_ ?_
    · exact allP1 (le_lit (a := 8) (b := 8) (by decide) (by decide))
    refine AW.retv ⟨_, rfl⟩ rfl ?_
    exact ⟨hS1, hR1⟩
set_option maxHeartbeats 4000000 in
set_option maxRecDepth 100000 in
theorem c3_wholeAt (a : Nat) (S : Sv) (σ : St) (hR : RepS (σ 2 a) S) (hO : SOK S) (p : Nat) (hp : p < 2 ^ 31) : Ct M3_wholeAt 1 [.inr (.inr (2, a, 0)), .inl (nI p)] σ (PI fun v σ' => optI (atS S p) = v ∧ σ = σ') := by
  refine Ct.of f_3_wholeAt (Nat.le_of_ble_eq_true rfl) ?_
  show AW M3_wholeAt 1 _ (0, [(0, .inr (.inr (2, a, 0))), (1, .inl (nI p))], [], σ)
  refine AW.run 2 [] (2, [(2, .inl 0), (0, .inr (.inr (2, a, 0))), (1, .inl (nI p))], [], σ) [] rfl ?_ ?_
  · exact trivial
  refine AW.pick [1, 2, 0] (ls' := [(0, .inr (.inr (2, a, 0))), (1, .inl (nI p)), (2, .inl (nI 0))]) rfl ?_
  refine AW.loop (α := Unit) 2 8 (fun i _ => [(0, .inr (.inr (2, a, 0))), (1, .inl (nI p)), (2, .inl (nI i))]) (fun i _ τ => σ = τ ∧ atS S p = atN S p (8 - i) i) ?_ ?_ 8 0 () _ (by omega) ⟨rfl, rfl⟩
  · intro i _ τ hi hI hk
    obtain ⟨rfl, hI⟩ := hI
    have q1 : σ 2 a 3 (nI i).toNatClampNeg = nI (Sp S i) := by rw [cl8 hi]; exact (hR.2.1 i hi).2.2.1
    have hpl := (hO.2.1 i).2.2.1
    have hu : atN S p (8 - i) i = if Sw S i = true ∧ Sp S i = p then some i else atN S p (8 - (i + 1)) (i + 1) := by
      obtain ⟨m, hm⟩ : ∃ m, 8 - i = m + 1 := ⟨7 - i, by omega⟩
      rw [hm, show 8 - (i + 1) = m by omega]; rfl
    rw [hu] at hI
    skip
    refine AW.run 5 [false] (10, [(0, .inr (.inr (2, a, 0))), (1, .inl (nI p)), (2, .inl (nI i))], [.inl (nI i), .inr (.inr (2, a, 0))], σ) [¬ icP .ge (nI i) 8] rfl ?_ ?_
    · exact allP1 (nle_lit (a := 8) hi (by decide))
    refine AW.callVI (d' := 0) [.inl (nI i)] [] ⟨_, rfl⟩ f_3_isWhole v_3_isWhole l_3_79 ⟨rfl, by decide⟩ rfl (Nat.le_of_ble_eq_true rfl) rfl (Nat.le_of_ble_eq_true rfl) (c3_isWhole a S σ hR hO i (by omega)) ?_
    rintro v _ ⟨rfl, hv⟩
    rcases hv with ⟨rfl, hp10⟩ | ⟨rfl, hp10⟩
    · skip
      refine AW.run 5 [false] (22, [(0, .inr (.inr (2, a, 0))), (1, .inl (nI p)), (2, .inl (nI i))], [.inl (σ 2 a 3 (nI i).toNatClampNeg)], σ) [¬ icP .eq (1 : Int32) 0, vp_in (nI i) 8] rfl ?_ ?_
      · exact ⟨(by decide : ¬ ((1 : Int32) = 0)), allP1 (by exact in8 hi)⟩
      rw [q1]
      by_cases h23_1 : Sp S i = p
      · skip
        refine AW.run 3 [false] (27, [(0, .inr (.inr (2, a, 0))), (1, .inl (nI p)), (2, .inl (nI i))], [.inl (nI i)], σ) [¬ icP .ne (nI (Sp S i)) (nI p)] rfl ?_ ?_
        · exact allP1 (fun q => q (by rw [h23_1]))
        refine AW.reti ⟨_, rfl⟩ rfl ?_
        rw [hI, if_pos ⟨hp10, by assumption⟩]
        exact ⟨rfl, rfl⟩
      · skip
        refine AW.run 4 [true] (2, [(2, .inl ((nI i) + 1)), (0, .inr (.inr (2, a, 0))), (1, .inl (nI p))], [], σ) [icP .ne (nI (Sp S i)) (nI p)] rfl ?_ ?_
        · exact allP1 (fun q => h23_1 (nI_lit q (by omega) hp))
        rw [nI_1 i]
        refine AW.pick [1, 2, 0] (ls' := [(0, .inr (.inr (2, a, 0))), (1, .inl (nI p)), (2, .inl (nI (i + 1)))]) rfl ?_
        exact hk () _ ⟨rfl, by rw [hI, if_neg]; first | (rw [hp10]; exact fun h => absurd h.1 (by decide)) | exact fun h => absurd h.2 (by assumption)⟩
    · skip
      refine AW.run 3 [true] (2, [(2, .inl ((nI i) + 1)), (0, .inr (.inr (2, a, 0))), (1, .inl (nI p))], [], σ) [icP .eq (0 : Int32) 0] rfl ?_ ?_
      · exact allP1 (by decide : ((0 : Int32) = 0))
      rw [nI_1 i]
      refine AW.pick [1, 2, 0] (ls' := [(0, .inr (.inr (2, a, 0))), (1, .inl (nI p)), (2, .inl (nI (i + 1)))]) rfl ?_
      exact hk () _ ⟨rfl, by rw [hI, if_neg]; first | (rw [hp10]; exact fun h => absurd h.1 (by decide)) | exact fun h => absurd h.2 (by assumption)⟩
  · intro _ τ hI
    obtain ⟨rfl, hI⟩ := hI
    refine AW.run 4 [true] (36, [(0, .inr (.inr (2, a, 0))), (1, .inl (nI p)), (2, .inl (nI 8))], [.inl (-9)], σ) [icP .ge (nI 8) 8] rfl ?_ ?_
    · exact allP1 (le_lit (a := 8) (b := 8) (by decide) (by decide))
    refine AW.reti ⟨_, rfl⟩ rfl ?_
    rw [hI]
    exact ⟨rfl, rfl⟩
set_option maxHeartbeats 4000000 in
set_option maxRecDepth 100000 in
theorem c3_pressOfWhole (a : Nat) (S : Sv) (σ : St) (hR : RepS (σ 2 a) S) (hO : SOK S) : Ct M3_pressOfWhole 1 [.inr (.inr (2, a, 0))] σ (PI fun v σ' => nI (psum S 8) = v ∧ σ = σ') := by
  refine Ct.of f_3_pressOfWhole (Nat.le_of_ble_eq_true rfl) ?_
  show AW M3_pressOfWhole 1 _ (0, [(0, .inr (.inr (2, a, 0)))], [], σ)
  refine AW.run 4 [] (4, [(2, .inl 0), (1, .inl 0), (0, .inr (.inr (2, a, 0)))], [], σ) [] rfl ?_ ?_
  · exact trivial
  refine AW.pick [2, 1, 0] (ls' := [(0, .inr (.inr (2, a, 0))), (1, .inl (nI (psum S 0))), (2, .inl (nI 0))]) rfl ?_
  refine AW.loop (α := Unit) 4 8 (fun i _ => [(0, .inr (.inr (2, a, 0))), (1, .inl (nI (psum S i))), (2, .inl (nI i))]) (fun i _ τ => σ = τ) ?_ ?_ 8 0 () _ (by omega) rfl
  · intro i _ τ hi hI hk
    obtain rfl := hI
    have q1 : σ 2 a 4 (nI i).toNatClampNeg = nI (Sq S i) := by rw [cl8 hi]; exact (hR.2.1 i hi).2.2.2
    skip
    refine AW.run 5 [false] (12, [(0, .inr (.inr (2, a, 0))), (1, .inl (nI (psum S i))), (2, .inl (nI i))], [.inl (nI i), .inr (.inr (2, a, 0))], σ) [¬ icP .ge (nI i) 8] rfl ?_ ?_
    · exact allP1 (nle_lit (a := 8) hi (by decide))
    refine AW.callVI (d' := 0) [.inl (nI i)] [] ⟨_, rfl⟩ f_3_isWhole v_3_isWhole l_3_79 ⟨rfl, by decide⟩ rfl (Nat.le_of_ble_eq_true rfl) rfl (Nat.le_of_ble_eq_true rfl) (c3_isWhole a S σ hR hO i (by omega)) ?_
    rintro v _ ⟨rfl, hv⟩
    rcases hv with ⟨rfl, hp12⟩ | ⟨rfl, hp12⟩
    · skip
      refine AW.run 6 [false] (25, [(0, .inr (.inr (2, a, 0))), (1, .inl (nI (psum S i))), (2, .inl (nI i))], [.inl (σ 2 a 4 (nI i).toNatClampNeg), .inl (nI (psum S i))], σ) [¬ icP .eq (1 : Int32) 0, vp_in (nI i) 8] rfl ?_ ?_
      · exact ⟨(by decide : ¬ ((1 : Int32) = 0)), allP1 (by exact in8 hi)⟩
      rw [q1]
      refine AW.run 1 [] (26, [(0, .inr (.inr (2, a, 0))), (1, .inl (nI (psum S i))), (2, .inl (nI i))], [.inl ((nI (psum S i)) + (nI (Sq S i)))], σ) [] rfl ?_ ?_
      · exact trivial
      rw [nI_add]
      refine AW.run 3 [] (4, [(2, .inl ((nI i) + 1)), (1, .inl (nI (psum S i + Sq S i))), (0, .inr (.inr (2, a, 0)))], [], σ) [] rfl ?_ ?_
      · exact trivial
      have hs : psum S (i + 1) = psum S i + Sq S i := by simp [psum, hp12]
      rw [← hs, nI_1 i]
      refine AW.pick [2, 1, 0] (ls' := [(0, .inr (.inr (2, a, 0))), (1, .inl (nI (psum S (i + 1)))), (2, .inl (nI (i + 1)))]) rfl ?_
      exact hk () _ rfl
    · skip
      refine AW.run 3 [true] (4, [(2, .inl ((nI i) + 1)), (0, .inr (.inr (2, a, 0))), (1, .inl (nI (psum S i)))], [], σ) [icP .eq (0 : Int32) 0] rfl ?_ ?_
      · exact allP1 (by decide : ((0 : Int32) = 0))
      have hs : psum S (i + 1) = psum S i := by simp [psum, hp12]
      rw [← hs, nI_1 i]
      refine AW.pick [1, 2, 0] (ls' := [(0, .inr (.inr (2, a, 0))), (1, .inl (nI (psum S (i + 1)))), (2, .inl (nI (i + 1)))]) rfl ?_
      exact hk () _ rfl
  · intro _ τ hI
    obtain rfl := hI
    refine AW.run 4 [true] (34, [(0, .inr (.inr (2, a, 0))), (1, .inl (nI (psum S 8))), (2, .inl (nI 8))], [.inl (nI (psum S 8))], σ) [icP .ge (nI 8) 8] rfl ?_ ?_
    · exact allP1 (le_lit (a := 8) (b := 8) (by decide) (by decide))
    refine AW.reti ⟨_, rfl⟩ rfl ?_
    exact ⟨rfl, rfl⟩
set_option maxHeartbeats 4000000 in
set_option maxRecDepth 100000 in
theorem c3_wholeOfKind (a : Nat) (S : Sv) (σ : St) (hR : RepS (σ 2 a) S) (hO : SOK S) (k : Nat) (hkk : k < 2 ^ 31) : Ct M3_wholeOfKind 1 [.inr (.inr (2, a, 0)), .inl (nI k)] σ (PI fun v σ' => nI (ksum S k 8) = v ∧ σ = σ') := by
  refine Ct.of f_3_wholeOfKind (Nat.le_of_ble_eq_true rfl) ?_
  show AW M3_wholeOfKind 1 _ (0, [(0, .inr (.inr (2, a, 0))), (1, .inl (nI k))], [], σ)
  refine AW.run 4 [] (4, [(3, .inl 0), (2, .inl 0), (0, .inr (.inr (2, a, 0))), (1, .inl (nI k))], [], σ) [] rfl ?_ ?_
  · exact trivial
  refine AW.pick [2, 3, 1, 0] (ls' := [(0, .inr (.inr (2, a, 0))), (1, .inl (nI k)), (2, .inl (nI (ksum S k 0))), (3, .inl (nI 0))]) rfl ?_
  refine AW.loop (α := Unit) 4 8 (fun i _ => [(0, .inr (.inr (2, a, 0))), (1, .inl (nI k)), (2, .inl (nI (ksum S k i))), (3, .inl (nI i))]) (fun i _ τ => σ = τ) ?_ ?_ 8 0 () _ (by omega) rfl
  · intro i _ τ hi hI hk
    obtain rfl := hI
    have q1 : σ 2 a 1 (nI i).toNatClampNeg = nI (Sk S i) := by rw [cl8 hi]; exact (hR.2.1 i hi).1
    have hkl := (hO.2.1 i).1
    skip
    refine AW.run 5 [false] (12, [(0, .inr (.inr (2, a, 0))), (1, .inl (nI k)), (2, .inl (nI (ksum S k i))), (3, .inl (nI i))], [.inl (nI i), .inr (.inr (2, a, 0))], σ) [¬ icP .ge (nI i) 8] rfl ?_ ?_
    · exact allP1 (nle_lit (a := 8) hi (by decide))
    refine AW.callVI (d' := 0) [.inl (nI i)] [] ⟨_, rfl⟩ f_3_isWhole v_3_isWhole l_3_79 ⟨rfl, by decide⟩ rfl (Nat.le_of_ble_eq_true rfl) rfl (Nat.le_of_ble_eq_true rfl) (c3_isWhole a S σ hR hO i (by omega)) ?_
    rintro v _ ⟨rfl, hv⟩
    rcases hv with ⟨rfl, hp12⟩ | ⟨rfl, hp12⟩
    · skip
      refine AW.run 5 [false] (24, [(0, .inr (.inr (2, a, 0))), (1, .inl (nI k)), (2, .inl (nI (ksum S k i))), (3, .inl (nI i))], [.inl (σ 2 a 1 (nI i).toNatClampNeg)], σ) [¬ icP .eq (1 : Int32) 0, vp_in (nI i) 8] rfl ?_ ?_
      · exact ⟨(by decide : ¬ ((1 : Int32) = 0)), allP1 (by exact in8 hi)⟩
      rw [q1]
      by_cases h25_1 : Sk S i = k
      · skip
        refine AW.run 5 [false] (4, [(3, .inl ((nI i) + 1)), (2, .inl ((nI (ksum S k i)) + 1)), (0, .inr (.inr (2, a, 0))), (1, .inl (nI k))], [], σ) [¬ icP .ne (nI (Sk S i)) (nI k)] rfl ?_ ?_
        · exact allP1 (fun q => q (by rw [h25_1]))
        have hs : ksum S k (i + 1) = ksum S k i + 1 := by
          simp only [ksum]
          first | (rw [if_pos ⟨by assumption, by assumption⟩]; done) | (rw [if_neg (fun h => by first | exact absurd h.2 (by assumption) | exact absurd (h.1.symm.trans (by assumption)) (by decide))]; exact Nat.add_zero _)
        rw [nI_1 (ksum S k i), ← hs, nI_1 i]
        refine AW.pick [2, 3, 1, 0] (ls' := [(0, .inr (.inr (2, a, 0))), (1, .inl (nI k)), (2, .inl (nI (ksum S k (i + 1)))), (3, .inl (nI (i + 1)))]) rfl ?_
        exact hk () _ rfl
      · skip
        refine AW.run 4 [true] (4, [(3, .inl ((nI i) + 1)), (0, .inr (.inr (2, a, 0))), (1, .inl (nI k)), (2, .inl (nI (ksum S k i)))], [], σ) [icP .ne (nI (Sk S i)) (nI k)] rfl ?_ ?_
        · exact allP1 (fun q => h25_1 (nI_lit q (by omega) hkk))
        have hs : ksum S k (i + 1) = ksum S k i := by
          simp only [ksum]
          first | (rw [if_pos ⟨by assumption, by assumption⟩]; done) | (rw [if_neg (fun h => by first | exact absurd h.2 (by assumption) | exact absurd (h.1.symm.trans (by assumption)) (by decide))]; exact Nat.add_zero _)
        rw [← hs, nI_1 i]
        refine AW.pick [1, 2, 3, 0] (ls' := [(0, .inr (.inr (2, a, 0))), (1, .inl (nI k)), (2, .inl (nI (ksum S k (i + 1)))), (3, .inl (nI (i + 1)))]) rfl ?_
        exact hk () _ rfl
    · skip
      refine AW.run 3 [true] (4, [(3, .inl ((nI i) + 1)), (0, .inr (.inr (2, a, 0))), (1, .inl (nI k)), (2, .inl (nI (ksum S k i)))], [], σ) [icP .eq (0 : Int32) 0] rfl ?_ ?_
      · exact allP1 (by decide : ((0 : Int32) = 0))
      have hs : ksum S k (i + 1) = ksum S k i := by
        simp only [ksum]
        first | (rw [if_pos ⟨by assumption, by assumption⟩]; done) | (rw [if_neg (fun h => by first | exact absurd h.2 (by assumption) | exact absurd (h.1.symm.trans (by assumption)) (by decide))]; exact Nat.add_zero _)
      rw [← hs, nI_1 i]
      refine AW.pick [1, 2, 3, 0] (ls' := [(0, .inr (.inr (2, a, 0))), (1, .inl (nI k)), (2, .inl (nI (ksum S k (i + 1)))), (3, .inl (nI (i + 1)))]) rfl ?_
      exact hk () _ rfl
  · intro _ τ hI
    obtain rfl := hI
    refine AW.run 4 [true] (38, [(0, .inr (.inr (2, a, 0))), (1, .inl (nI k)), (2, .inl (nI (ksum S k 8))), (3, .inl (nI 8))], [.inl (nI (ksum S k 8))], σ) [icP .ge (nI 8) 8] rfl ?_ ?_
    · exact allP1 (le_lit (a := 8) (b := 8) (by decide) (by decide))
    refine AW.reti ⟨_, rfl⟩ rfl ?_
    exact ⟨rfl, rfl⟩
def nearW (S : Sv) (i m : Nat) : Nat → Bool := fun j => decide (j < m) && (decide (j ≠ i) && Sw S j && nearN (Sp S i) (Sp S j))
theorem nearW_hit {S : Sv} {i m : Nat} (h1 : m ≠ i) (h2 : Sw S m = true) (h3 : nearN (Sp S i) (Sp S m) = true) : nearW S i (m + 1) = fu (nearW S i m) m true := by
  funext j
  simp only [nearW, fu]
  by_cases hj : j = m
  · subst hj; simp [h1, h2, h3]
  · have : (j < m + 1) ↔ (j < m) := by omega
    simp [hj, this]
theorem nearW_miss {S : Sv} {i m : Nat} (h : ¬ (m ≠ i ∧ Sw S m = true ∧ nearN (Sp S i) (Sp S m) = true)) : nearW S i (m + 1) = nearW S i m := by
  funext j
  simp only [nearW]
  by_cases hj : j = m
  · subst hj
    cases hb : (decide (j ≠ i) && Sw S j && nearN (Sp S i) (Sp S j))
    · simp
    · simp only [Bool.and_eq_true, decide_eq_true_eq] at hb
      exact absurd ⟨hb.1.1, hb.1.2, hb.2⟩ h
  · have : (j < m + 1) ↔ (j < m) := by omega
    simp [this]
theorem abs_far : ∀ p < 15, ∀ q < 15, ((2 : Int32) < (if 0 ≤ nI p - nI q then nI p - nI q else 0 - (nI p - nI q))) ↔ nearN p q = false := by decide +kernel
theorem bI_0 : bI (fun _ => false) = 0 := by decide
set_option maxHeartbeats 4000000 in
set_option maxRecDepth 100000 in
theorem c3_nearTo (a : Nat) (S : Sv) (σ : St) (hR : RepS (σ 2 a) S) (hO : SOK S) (i : Nat) (hin : i < Sn S) : Ct M3_nearTo 1 [.inr (.inr (2, a, 0)), .inl (nI i)] σ (PI fun v σ' => bI (nearW S i 8) = v ∧ σ = σ') := by
  refine Ct.of f_3_nearTo (Nat.le_of_ble_eq_true rfl) ?_
  show AW M3_nearTo 1 _ (0, [(0, .inr (.inr (2, a, 0))), (1, .inl (nI i))], [], σ)
  have hn := hO.1
  have hi8 : i < 8 := by omega
  refine AW.run 4 [] (4, [(2, .inl 0), (0, .inr (.inr (2, a, 0))), (1, .inl (nI i))], [.inl (nI i), .inr (.inr (2, a, 0))], σ) [] rfl ?_ ?_
  · exact trivial
  refine AW.callVI (d' := 0) [.inl (nI i)] [] ⟨_, rfl⟩ f_3_has v_3_has l_3_58 ⟨rfl, by decide⟩ rfl (Nat.le_of_ble_eq_true rfl) rfl (Nat.le_of_ble_eq_true rfl) (c3_has a S σ hR hO (nI i)) ?_
  rintro v _ ⟨rfl, hv⟩
  rcases hv with ⟨rfl, hp4⟩ | ⟨rfl, hp4⟩
  · skip
    refine AW.run 3 [true] (14, [(3, .inl 0), (2, .inl 0), (0, .inr (.inr (2, a, 0))), (1, .inl (nI i))], [], σ) [icP .ne (1 : Int32) 0] rfl ?_ ?_
    · exact allP1 (by decide : (¬ (1 : Int32) = 0))
    rw [← bI_0, show (fun _ => false) = nearW S i 0 by funext j; simp [nearW]]
    refine AW.pick [2, 3, 1, 0] (ls' := [(0, .inr (.inr (2, a, 0))), (1, .inl (nI i)), (2, .inl (bI (nearW S i 0))), (3, .inl (nI 0))]) rfl ?_
    refine AW.loop (α := Unit) 14 8 (fun j _ => [(0, .inr (.inr (2, a, 0))), (1, .inl (nI i)), (2, .inl (bI (nearW S i j))), (3, .inl (nI j))]) (fun j _ τ => σ = τ) ?_ ?_ 8 0 () _ (by omega) rfl
    · intro j _ τ hj hI hk
      subst hI
      have hpi : Sp S i < 15 := by have := (hO.2.1 i).2.2.1; omega
      have hpj : Sp S j < 15 := by have := (hO.2.1 j).2.2.1; omega
      have q3 : σ 2 a 3 (nI i).toNatClampNeg - σ 2 a 3 (nI j).toNatClampNeg = nI (Sp S i) - nI (Sp S j) := by rw [cl8 hi8, cl8 hj, (hR.2.1 i hi8).2.2.1, (hR.2.1 j hj).2.2.1]
      by_cases hji : j = i
      · have hm : ¬ (j ≠ i ∧ Sw S j = true ∧ nearN (Sp S i) (Sp S j) = true) := fun h => h.1 hji
        refine AW.run 8 [false, true] (14, [(3, .inl ((nI j) + 1)), (0, .inr (.inr (2, a, 0))), (1, .inl (nI i)), (2, .inl (bI (nearW S i j)))], [], σ) [¬ icP .ge (nI j) 8, icP .eq (nI j) (nI i)] rfl ?_ ?_
        · exact ⟨(nle_lit (a := 8) hj (by decide)), allP1 (by rw [hji]; exact (rfl : nI i = nI i))⟩
        rw [← nearW_miss hm, nI_1 j]
        refine AW.pick [1, 2, 3, 0] (ls' := [(0, .inr (.inr (2, a, 0))), (1, .inl (nI i)), (2, .inl (bI (nearW S i (j + 1)))), (3, .inl (nI (j + 1)))]) rfl ?_
        exact hk () _ rfl
      · skip
        refine AW.run 8 [false, false] (27, [(0, .inr (.inr (2, a, 0))), (1, .inl (nI i)), (2, .inl (bI (nearW S i j))), (3, .inl (nI j))], [.inl (nI j), .inr (.inr (2, a, 0))], σ) [¬ icP .ge (nI j) 8, ¬ icP .eq (nI j) (nI i)] rfl ?_ ?_
        · exact ⟨(nle_lit (a := 8) hj (by decide)), allP1 (fun q => hji (nI_lit q (by omega) (by omega)))⟩
        refine AW.callVI (d' := 0) [.inl (nI j)] [] ⟨_, rfl⟩ f_3_isWhole v_3_isWhole l_3_79 ⟨rfl, by decide⟩ rfl (Nat.le_of_ble_eq_true rfl) rfl (Nat.le_of_ble_eq_true rfl) (c3_isWhole a S σ hR hO j (by omega)) ?_
        rintro v _ ⟨rfl, hv⟩
        rcases hv with ⟨rfl, hp27⟩ | ⟨rfl, hp27⟩
        · skip
          refine AW.run 10 [false] (46, [(0, .inr (.inr (2, a, 0))), (1, .inl (nI i)), (2, .inl (bI (nearW S i j))), (3, .inl (nI j))], [.inl ((σ 2 a 3 (nI i).toNatClampNeg) - (σ 2 a 3 (nI j).toNatClampNeg))], σ) [¬ icP .eq (1 : Int32) 0, vp_in (nI i) 8, vp_in (nI j) 8] rfl ?_ ?_
          · exact ⟨(by decide : ¬ ((1 : Int32) = 0)), (by first | exact in8 hj | exact in8 hi8), allP1 (by first | exact in8 hj | exact in8 hi8)⟩
          rw [q3]
          refine AW.abs ⟨_, rfl⟩ l_3_92 (Nat.le_of_ble_eq_true rfl) (Nat.le_of_ble_eq_true rfl) ?_
          by_cases h50_1 : nearN (Sp S i) (Sp S j) = true
          · skip
            refine AW.run 10 [false] (14, [(3, .inl ((nI j) + 1)), (2, .inl ((bI (nearW S i j)) ||| (1 <<< ((nI j) &&& 31)))), (0, .inr (.inr (2, a, 0))), (1, .inl (nI i))], [], σ) [¬ icP .gt (if 0 ≤ (nI (Sp S i) - nI (Sp S j)) then (nI (Sp S i) - nI (Sp S j)) else 0 - (nI (Sp S i) - nI (Sp S j))) 2] rfl ?_ ?_
            · exact allP1 (fun q => by have := (abs_far _ hpi _ hpj).mp q; rw [h50_1] at this; cases this)
            have hm : j ≠ i ∧ Sw S j = true ∧ nearN (Sp S i) (Sp S j) = true := ⟨hji, hp27, by assumption⟩
            rw [bI_set _ hj, ← nearW_hit hm.1 hm.2.1 hm.2.2, nI_1 j]
            refine AW.pick [2, 3, 1, 0] (ls' := [(0, .inr (.inr (2, a, 0))), (1, .inl (nI i)), (2, .inl (bI (nearW S i (j + 1)))), (3, .inl (nI (j + 1)))]) rfl ?_
            exact hk () _ rfl
          · skip
            refine AW.run 4 [true] (14, [(3, .inl ((nI j) + 1)), (0, .inr (.inr (2, a, 0))), (1, .inl (nI i)), (2, .inl (bI (nearW S i j)))], [], σ) [icP .gt (if 0 ≤ (nI (Sp S i) - nI (Sp S j)) then (nI (Sp S i) - nI (Sp S j)) else 0 - (nI (Sp S i) - nI (Sp S j))) 2] rfl ?_ ?_
            · exact allP1 ((abs_far _ hpi _ hpj).mpr (by cases hb : nearN (Sp S i) (Sp S j); rfl; exact absurd hb h50_1))
            have hm : ¬ (j ≠ i ∧ Sw S j = true ∧ nearN (Sp S i) (Sp S j) = true) := by
              rintro ⟨-, g1, g2⟩
              first | exact absurd g2 (by assumption) | (rw [hp27] at g1; cases g1)
            rw [← nearW_miss hm, nI_1 j]
            refine AW.pick [1, 2, 3, 0] (ls' := [(0, .inr (.inr (2, a, 0))), (1, .inl (nI i)), (2, .inl (bI (nearW S i (j + 1)))), (3, .inl (nI (j + 1)))]) rfl ?_
            exact hk () _ rfl
        · skip
          refine AW.run 3 [true] (14, [(3, .inl ((nI j) + 1)), (0, .inr (.inr (2, a, 0))), (1, .inl (nI i)), (2, .inl (bI (nearW S i j)))], [], σ) [icP .eq (0 : Int32) 0] rfl ?_ ?_
          · exact allP1 (by decide : ((0 : Int32) = 0))
          have hm : ¬ (j ≠ i ∧ Sw S j = true ∧ nearN (Sp S i) (Sp S j) = true) := by
            rintro ⟨-, g1, g2⟩
            first | exact absurd g2 (by assumption) | (rw [hp27] at g1; cases g1)
          rw [← nearW_miss hm, nI_1 j]
          refine AW.pick [1, 2, 3, 0] (ls' := [(0, .inr (.inr (2, a, 0))), (1, .inl (nI i)), (2, .inl (bI (nearW S i (j + 1)))), (3, .inl (nI (j + 1)))]) rfl ?_
          exact hk () _ rfl
    · intro _ τ hI
      subst hI
      refine AW.run 4 [true] (66, [(0, .inr (.inr (2, a, 0))), (1, .inl (nI i)), (2, .inl (bI (nearW S i 8))), (3, .inl (nI 8))], [.inl (bI (nearW S i 8))], σ) [icP .ge (nI 8) 8] rfl ?_ ?_
      · exact allP1 (le_lit (a := 8) (b := 8) (by decide) (by decide))
      refine AW.reti ⟨_, rfl⟩ rfl ?_
      exact ⟨rfl, rfl⟩
  · skip
    refine AW.run 2 [false] (11, [(2, .inl 0), (0, .inr (.inr (2, a, 0))), (1, .inl (nI i))], [.inl 0], σ) [¬ icP .ne (0 : Int32) 0] rfl ?_ ?_
    · exact allP1 (by decide : ¬ (¬ (0 : Int32) = 0))
    refine AW.reti ⟨_, rfl⟩ rfl ?_
    exact absurd rfl (hp4 i hin)
end
section
/-! PAIRS, TIGHTEST, GAP -/
def esum (S : Sv) : Nat → Nat
  | 0 => 0
  | i + 1 => esum S i + if Sw S i = true then cN (nearW S i 8) else 0
theorem esum_le {S : Sv} : ∀ i, esum S i ≤ 8 * i
  | 0 => Nat.le_refl _
  | i + 1 => by
    have := esum_le (S := S) i
    have := cN_le (nearW S i 8)
    unfold esum
    split <;> omega
theorem half_e : ∀ q < 65, nI q / 2 = nI (q / 2) := by decide +kernel
/-- the tightest of those ahead of i -/
def tightN (S : Sv) : Nat → Option Nat
  | 0 => none
  | i + 1 => if Sw S i = true then match tightN S i with
      | none => some i
      | some t => if bearS S i + Sq S t < bearS S t + Sq S i then some i else some t
    else tightN S i
theorem tightN_lt {S : Sv} {t : Nat} : ∀ i, tightN S i = some t → t < i ∧ Sw S t = true
  | 0, h => by cases h
  | i + 1, h => by
    unfold tightN at h
    split at h
    · rename_i hw
      split at h
      · cases h; exact ⟨Nat.lt_succ_self _, hw⟩
      · rename_i t2 ht2
        split at h
        · cases h; exact ⟨Nat.lt_succ_self _, hw⟩
        · cases h
          have := tightN_lt i ht2
          exact ⟨by omega, this.2⟩
    · have := tightN_lt i h
      exact ⟨by omega, this.2⟩
def leastI (S : Sv) (o : Option Nat) : Int32 := match o with
  | none => 0
  | some t => nI (bearS S t) - nI (Sq S t)
theorem sub_toInt {a b : Nat} (ha : a ≤ 99) (hb : b ≤ 99) : (nI a - nI b).toInt = (a : Int) - (b : Int) := by
  have h : ∀ a < 100, ∀ b < 100, (nI a - nI b).toInt = (a : Int) - (b : Int) := by decide +kernel
  exact h a (by omega) b (by omega)
theorem sub_le {a b c d : Nat} (ha : a ≤ 99) (hb : b ≤ 99) (hc : c ≤ 99) (hd : d ≤ 99) : nI a - nI b ≤ nI c - nI d ↔ a + d ≤ c + b := by
  rw [Int32.le_iff_toInt_le, sub_toInt ha hb, sub_toInt hc hd]
  omega
/-- the longest run of free places ahead of i, and the run that is open -/
def gapN (S : Sv) : Nat → Nat × Nat
  | 0 => (0, 0)
  | i + 1 => match atS S i with
    | none => (Nat.max (gapN S i).1 ((gapN S i).2 + 1), (gapN S i).2 + 1)
    | some _ => (Nat.max (gapN S i).1 0, 0)
theorem gapN_le {S : Sv} : ∀ i, (gapN S i).1 ≤ i ∧ (gapN S i).2 ≤ i
  | 0 => ⟨Nat.le_refl _, Nat.le_refl _⟩
  | i + 1 => by
    have := gapN_le (S := S) i
    unfold gapN
    split
    · exact ⟨Nat.max_le.mpr ⟨by omega, by omega⟩, by omega⟩
    · exact ⟨Nat.max_le.mpr ⟨by omega, by omega⟩, by omega⟩
theorem max_nI {a b : Nat} (ha : a < 2 ^ 31) (hb : b < 2 ^ 31) : (if nI a < nI b then nI b else nI a) = nI (Nat.max a b) := by
  by_cases h : a < b
  · rw [if_pos ((nI_ltI ha hb).mpr h), show Nat.max a b = b from Nat.max_eq_right (Nat.le_of_lt h)]
  · rw [if_neg (fun q => h ((nI_ltI ha hb).mp q)), show Nat.max a b = a from Nat.max_eq_left (Nat.le_of_not_lt h)]
theorem max_n0 {a : Nat} (ha : a < 2 ^ 31) : (if nI a < 0 then 0 else nI a) = nI (Nat.max a 0) := by
  rw [if_neg (nI_pos ha), show Nat.max a 0 = a from Nat.max_eq_left (Nat.zero_le _)]
theorem atN_lt {S : Sv} {p k : Nat} : ∀ (n i : Nat), atN S p n i = some k → k < i + n ∧ Sw S k = true ∧ Sp S k = p
  | 0, _, h => by cases h
  | n + 1, i, h => by
    unfold atN at h
    split at h
    · rename_i hc
      cases h
      exact ⟨by omega, hc⟩
    · obtain ⟨h1, h2⟩ := atN_lt n (i + 1) h
      exact ⟨by omega, h2⟩
theorem atS_lt {S : Sv} {p k : Nat} (h : atS S p = some k) : k < 8 ∧ Sw S k = true ∧ Sp S k = p := by
  have := atN_lt 8 0 h
  simpa using this

set_option maxHeartbeats 4000000 in
set_option maxRecDepth 100000 in
theorem c3_pairsNear (a : Nat) (S : Sv) (σ : St) (hR : RepS (σ 2 a) S) (hO : SOK S) : Ct M3_pairsNear 2 [.inr (.inr (2, a, 0))] σ (PI fun v σ' => nI (esum S 8 / 2) = v ∧ σ = σ') := by
  refine Ct.of f_3_pairsNear (Nat.le_of_ble_eq_true rfl) ?_
  show AW M3_pairsNear 2 _ (0, [(0, .inr (.inr (2, a, 0)))], [], σ)
  refine AW.run 4 [] (4, [(2, .inl 0), (1, .inl 0), (0, .inr (.inr (2, a, 0)))], [], σ) [] rfl ?_ ?_
  · exact trivial
  refine AW.pick [2, 1, 0] (ls' := [(0, .inr (.inr (2, a, 0))), (1, .inl (nI (esum S 0))), (2, .inl (nI 0))]) rfl ?_
  refine AW.loop (α := Unit) 4 8 (fun i _ => [(0, .inr (.inr (2, a, 0))), (1, .inl (nI (esum S i))), (2, .inl (nI i))]) (fun i _ τ => σ = τ) ?_ ?_ 8 0 () _ (by omega) rfl
  · intro i _ τ hi hI hk
    obtain rfl := hI
    skip
    refine AW.run 5 [false] (12, [(0, .inr (.inr (2, a, 0))), (1, .inl (nI (esum S i))), (2, .inl (nI i))], [.inl (nI i), .inr (.inr (2, a, 0))], σ) [¬ icP .ge (nI i) 8] rfl ?_ ?_
    · exact allP1 (nle_lit (a := 8) hi (by decide))
    refine AW.callVI (d' := 0) [.inl (nI i)] [] ⟨_, rfl⟩ f_3_isWhole v_3_isWhole l_3_79 ⟨rfl, by decide⟩ rfl (Nat.le_of_ble_eq_true rfl) rfl (Nat.le_of_ble_eq_true rfl) (c3_isWhole a S σ hR hO i (by omega)) ?_
    rintro v _ ⟨rfl, hv⟩
    rcases hv with ⟨rfl, hp12⟩ | ⟨rfl, hp12⟩
    · skip
      refine AW.run 4 [false] (21, [(0, .inr (.inr (2, a, 0))), (1, .inl (nI (esum S i))), (2, .inl (nI i))], [.inl (nI i), .inr (.inr (2, a, 0)), .inl (nI (esum S i))], σ) [¬ icP .eq (1 : Int32) 0] rfl ?_ ?_
      · exact allP1 (by decide : ¬ ((1 : Int32) = 0))
      refine AW.callVI (d' := 1) [.inl (nI i)] [.inl (nI (esum S i))] ⟨_, rfl⟩ f_3_nearTo v_3_nearTo l_3_98 ⟨rfl, by decide⟩ rfl (Nat.le_of_ble_eq_true rfl) rfl (Nat.le_of_ble_eq_true rfl) (c3_nearTo a S σ hR hO i (SOK_lt hO hp12)) ?_
      rintro _ _ ⟨rfl, rfl⟩
      refine AW.callSI (d' := 0) [.inl (bI (nearW S i 8))] [.inl (nI (esum S i))] ⟨_, rfl⟩ f_J_bitCount s_J_bitCount l_3_101 rfl (Nat.le_of_ble_eq_true rfl) rfl (Nat.le_of_ble_eq_true rfl) (cJ_bitCount (bI (nearW S i 8)) σ) ?_
      rintro _ _ ⟨rfl, rfl⟩
      rw [bcV_bI]
      refine AW.run 1 [] (28, [(0, .inr (.inr (2, a, 0))), (1, .inl (nI (esum S i))), (2, .inl (nI i))], [.inl ((nI (esum S i)) + (nI (cN (nearW S i 8))))], σ) [] rfl ?_ ?_
      · exact trivial
      rw [nI_add]
      refine AW.run 3 [] (4, [(2, .inl ((nI i) + 1)), (1, .inl (nI (esum S i + cN (nearW S i 8)))), (0, .inr (.inr (2, a, 0)))], [], σ) [] rfl ?_ ?_
      · exact trivial
      have hs : esum S (i + 1) = esum S i + cN (nearW S i 8) := by simp [esum, hp12]
      rw [← hs, nI_1 i]
      refine AW.pick [2, 1, 0] (ls' := [(0, .inr (.inr (2, a, 0))), (1, .inl (nI (esum S (i + 1)))), (2, .inl (nI (i + 1)))]) rfl ?_
      exact hk () _ rfl
    · skip
      refine AW.run 3 [true] (4, [(2, .inl ((nI i) + 1)), (0, .inr (.inr (2, a, 0))), (1, .inl (nI (esum S i)))], [], σ) [icP .eq (0 : Int32) 0] rfl ?_ ?_
      · exact allP1 (by decide : ((0 : Int32) = 0))
      have hs : esum S (i + 1) = esum S i := by simp [esum, hp12]
      rw [← hs, nI_1 i]
      refine AW.pick [1, 2, 0] (ls' := [(0, .inr (.inr (2, a, 0))), (1, .inl (nI (esum S (i + 1)))), (2, .inl (nI (i + 1)))]) rfl ?_
      exact hk () _ rfl
  · intro _ τ hI
    obtain rfl := hI
    have he := esum_le (S := S) 8
    refine AW.run 6 [true] (38, [(0, .inr (.inr (2, a, 0))), (1, .inl (nI (esum S 8))), (2, .inl (nI 8))], [.inl ((nI (esum S 8)) / 2)], σ) [icP .ge (nI 8) 8, ¬ (2 : Int32) = 0] rfl ?_ ?_
    · exact ⟨(le_lit (a := 8) (b := 8) (by decide) (by decide)), allP1 (by decide)⟩
    refine AW.reti ⟨_, rfl⟩ rfl ?_
    exact ⟨(half_e _ (by omega)).symm, rfl⟩
set_option maxHeartbeats 4000000 in
set_option maxRecDepth 100000 in
theorem c3_tightestOne (a : Nat) (S : Sv) (σ : St) (hR : RepS (σ 2 a) S) (hO : SOK S) : Ct M3_tightestOne 1 [.inr (.inr (2, a, 0))] σ (PI fun v σ' => optI (tightN S 8) = v ∧ σ = σ') := by
  refine Ct.of f_3_tightestOne (Nat.le_of_ble_eq_true rfl) ?_
  show AW M3_tightestOne 1 _ (0, [(0, .inr (.inr (2, a, 0)))], [], σ)
  have q : ∀ i, i < 8 → Sw S i = true → σ 2 a 6 (nI i).toNatClampNeg = nI (bearS S i) ∧ σ 2 a 4 (nI i).toNatClampNeg = nI (Sq S i) := fun i hi hw => by
    rw [cl8 hi]; exact ⟨(hR.2.2 i (SOK_lt hO hw)).2.1, (hR.2.1 i hi).2.2.2⟩
  refine AW.run 6 [] (7, [(3, .inl 0), (2, .inl 0), (1, .inl (-9)), (0, .inr (.inr (2, a, 0)))], [], σ) [] rfl ?_ ?_
  · exact trivial
  refine AW.pick [3, 2, 1, 0] (ls' := [(0, .inr (.inr (2, a, 0))), (1, .inl (optI (tightN S 0))), (2, .inl (leastI S (tightN S 0))), (3, .inl (nI 0))]) rfl ?_
  refine AW.loop (α := Unit) 7 8 (fun i _ => [(0, .inr (.inr (2, a, 0))), (1, .inl (optI (tightN S i))), (2, .inl (leastI S (tightN S i))), (3, .inl (nI i))]) (fun i _ τ => σ = τ) ?_ ?_ 8 0 () _ (by omega) rfl
  · intro i _ τ hi hI hk
    subst hI
    have hbi := bear_le hO i
    have hqi := (hO.2.1 i).2.2.2
    by_cases hw : Sw S i = true
    · cases ht : tightN S i with
      | none =>
        have hs : tightN S (i + 1) = some i := by simp only [tightN, if_pos hw, ht]
        show AW M3_tightestOne 1 _ (7, [(0, .inr (.inr (2, a, 0))), (1, .inl (-9)), (2, .inl 0), (3, .inl (nI i))], [], σ)
        refine AW.run 5 [false] (15, [(0, .inr (.inr (2, a, 0))), (1, .inl (-9)), (2, .inl 0), (3, .inl (nI i))], [.inl (nI i), .inr (.inr (2, a, 0))], σ) [¬ icP .ge (nI i) 8] rfl ?_ ?_
        · exact allP1 (nle_lit (a := 8) hi (by decide))
        refine AW.callVI (d' := 0) [.inl (nI i)] [] ⟨_, rfl⟩ f_3_isWhole v_3_isWhole l_3_79 ⟨rfl, by decide⟩ rfl (Nat.le_of_ble_eq_true rfl) rfl (Nat.le_of_ble_eq_true rfl) (c3_isWhole a S σ hR hO i (by omega)) ?_
        rintro v _ ⟨rfl, hv⟩
        obtain rfl : v = 1 := by
          rcases hv with h | h
          · exact h.1
          · exact absurd (hw.symm.trans h.2) (by decide)
        refine AW.run 15 [false, true] (59, [(1, .inl (nI i)), (0, .inr (.inr (2, a, 0))), (2, .inl 0), (3, .inl (nI i))], [.inl ((σ 2 a 6 (nI i).toNatClampNeg) - (σ 2 a 4 (nI i).toNatClampNeg))], σ) [¬ icP .eq (1 : Int32) 0, icP .eq (-9 : Int32) (-9), vp_in (nI i) 8, vp_in (nI i) 8] rfl ?_ ?_
        · exact ⟨(by decide : ¬ ((1 : Int32) = 0)), (by decide : ((-9 : Int32) = (-9))), (by exact in8 hi), allP1 (by exact in8 hi)⟩
        rw [(q i hi hw).1, (q i hi hw).2]
        refine AW.run 3 [] (7, [(3, .inl ((nI i) + 1)), (2, .inl (nI (bearS S i) - nI (Sq S i))), (1, .inl (nI i)), (0, .inr (.inr (2, a, 0)))], [], σ) [] rfl ?_ ?_
        · exact trivial
        have hx := hk () σ rfl
        rw [hs, ← nI_1 i] at hx
        refine AW.pick [3, 2, 1, 0] (ls' := _) rfl ?_
        exact hx
      | some t =>
        obtain ⟨ht1, ht2⟩ := tightN_lt i ht
        have hbt := bear_le hO t
        have hqt := (hO.2.1 t).2.2.2
        by_cases hb : bearS S i + Sq S t < bearS S t + Sq S i
        · have hs : tightN S (i + 1) = some i := by simp only [tightN, if_pos hw, ht]; rw [if_pos hb]
          show AW M3_tightestOne 1 _ (7, [(0, .inr (.inr (2, a, 0))), (1, .inl (nI t)), (2, .inl (nI (bearS S t) - nI (Sq S t))), (3, .inl (nI i))], [], σ)
          refine AW.run 5 [false] (15, [(0, .inr (.inr (2, a, 0))), (1, .inl (nI t)), (2, .inl (nI (bearS S t) - nI (Sq S t))), (3, .inl (nI i))], [.inl (nI i), .inr (.inr (2, a, 0))], σ) [¬ icP .ge (nI i) 8] rfl ?_ ?_
          · exact allP1 (nle_lit (a := 8) hi (by decide))
          refine AW.callVI (d' := 0) [.inl (nI i)] [] ⟨_, rfl⟩ f_3_isWhole v_3_isWhole l_3_79 ⟨rfl, by decide⟩ rfl (Nat.le_of_ble_eq_true rfl) rfl (Nat.le_of_ble_eq_true rfl) (c3_isWhole a S σ hR hO i (by omega)) ?_
          rintro v _ ⟨rfl, hv⟩
          obtain rfl : v = 1 := by
            rcases hv with h | h
            · exact h.1
            · exact absurd (hw.symm.trans h.2) (by decide)
          refine AW.run 13 [false, false] (40, [(0, .inr (.inr (2, a, 0))), (1, .inl (nI t)), (2, .inl (nI (bearS S t) - nI (Sq S t))), (3, .inl (nI i))], [.inl ((σ 2 a 6 (nI i).toNatClampNeg) - (σ 2 a 4 (nI i).toNatClampNeg))], σ) [¬ icP .eq (1 : Int32) 0, ¬ icP .eq (nI t) (-9), vp_in (nI i) 8, vp_in (nI i) 8] rfl ?_ ?_
          · exact ⟨(by decide : ¬ ((1 : Int32) = 0)), (nI_m9 (by omega)), (by exact in8 hi), allP1 (by exact in8 hi)⟩
          rw [(q i hi hw).1, (q i hi hw).2]
          refine AW.run 13 [false] (59, [(1, .inl (nI i)), (0, .inr (.inr (2, a, 0))), (2, .inl (nI (bearS S t) - nI (Sq S t))), (3, .inl (nI i))], [.inl ((σ 2 a 6 (nI i).toNatClampNeg) - (σ 2 a 4 (nI i).toNatClampNeg))], σ) [¬ icP .ge (nI (bearS S i) - nI (Sq S i)) (nI (bearS S t) - nI (Sq S t)), vp_in (nI i) 8, vp_in (nI i) 8] rfl ?_ ?_
          · exact ⟨(fun q9 => absurd ((sub_le hbt hqt hbi hqi).mp q9) (by omega)), (by exact in8 hi), allP1 (by exact in8 hi)⟩
          rw [(q i hi hw).1, (q i hi hw).2]
          refine AW.run 3 [] (7, [(3, .inl ((nI i) + 1)), (2, .inl (nI (bearS S i) - nI (Sq S i))), (1, .inl (nI i)), (0, .inr (.inr (2, a, 0)))], [], σ) [] rfl ?_ ?_
          · exact trivial
          have hx := hk () σ rfl
          rw [hs, ← nI_1 i] at hx
          refine AW.pick [3, 2, 1, 0] (ls' := _) rfl ?_
          exact hx
        · have hs : tightN S (i + 1) = some t := by simp only [tightN, if_pos hw, ht]; rw [if_neg hb]
          show AW M3_tightestOne 1 _ (7, [(0, .inr (.inr (2, a, 0))), (1, .inl (nI t)), (2, .inl (nI (bearS S t) - nI (Sq S t))), (3, .inl (nI i))], [], σ)
          refine AW.run 5 [false] (15, [(0, .inr (.inr (2, a, 0))), (1, .inl (nI t)), (2, .inl (nI (bearS S t) - nI (Sq S t))), (3, .inl (nI i))], [.inl (nI i), .inr (.inr (2, a, 0))], σ) [¬ icP .ge (nI i) 8] rfl ?_ ?_
          · exact allP1 (nle_lit (a := 8) hi (by decide))
          refine AW.callVI (d' := 0) [.inl (nI i)] [] ⟨_, rfl⟩ f_3_isWhole v_3_isWhole l_3_79 ⟨rfl, by decide⟩ rfl (Nat.le_of_ble_eq_true rfl) rfl (Nat.le_of_ble_eq_true rfl) (c3_isWhole a S σ hR hO i (by omega)) ?_
          rintro v _ ⟨rfl, hv⟩
          obtain rfl : v = 1 := by
            rcases hv with h | h
            · exact h.1
            · exact absurd (hw.symm.trans h.2) (by decide)
          refine AW.run 13 [false, false] (40, [(0, .inr (.inr (2, a, 0))), (1, .inl (nI t)), (2, .inl (nI (bearS S t) - nI (Sq S t))), (3, .inl (nI i))], [.inl ((σ 2 a 6 (nI i).toNatClampNeg) - (σ 2 a 4 (nI i).toNatClampNeg))], σ) [¬ icP .eq (1 : Int32) 0, ¬ icP .eq (nI t) (-9), vp_in (nI i) 8, vp_in (nI i) 8] rfl ?_ ?_
          · exact ⟨(by decide : ¬ ((1 : Int32) = 0)), (nI_m9 (by omega)), (by exact in8 hi), allP1 (by exact in8 hi)⟩
          rw [(q i hi hw).1, (q i hi hw).2]
          refine AW.run 4 [true] (7, [(3, .inl ((nI i) + 1)), (0, .inr (.inr (2, a, 0))), (1, .inl (nI t)), (2, .inl (nI (bearS S t) - nI (Sq S t)))], [], σ) [icP .ge (nI (bearS S i) - nI (Sq S i)) (nI (bearS S t) - nI (Sq S t))] rfl ?_ ?_
          · exact allP1 ((sub_le hbt hqt hbi hqi).mpr (by omega))
          have hx := hk () σ rfl
          rw [hs, ← nI_1 i] at hx
          refine AW.pick [1, 2, 3, 0] (ls' := _) rfl ?_
          exact hx
    · have hs : tightN S (i + 1) = tightN S i := by simp only [tightN]; rw [if_neg hw]
      refine AW.run 5 [false] (15, [(0, .inr (.inr (2, a, 0))), (1, .inl (optI (tightN S i))), (2, .inl (leastI S (tightN S i))), (3, .inl (nI i))], [.inl (nI i), .inr (.inr (2, a, 0))], σ) [¬ icP .ge (nI i) 8] rfl ?_ ?_
      · exact allP1 (nle_lit (a := 8) hi (by decide))
      refine AW.callVI (d' := 0) [.inl (nI i)] [] ⟨_, rfl⟩ f_3_isWhole v_3_isWhole l_3_79 ⟨rfl, by decide⟩ rfl (Nat.le_of_ble_eq_true rfl) rfl (Nat.le_of_ble_eq_true rfl) (c3_isWhole a S σ hR hO i (by omega)) ?_
      rintro v _ ⟨rfl, hv⟩
      obtain rfl : v = 0 := by
        rcases hv with h | h
        · exact absurd h.2 hw
        · exact h.1
      refine AW.run 3 [true] (7, [(3, .inl ((nI i) + 1)), (0, .inr (.inr (2, a, 0))), (1, .inl (optI (tightN S i))), (2, .inl (leastI S (tightN S i)))], [], σ) [icP .eq (0 : Int32) 0] rfl ?_ ?_
      · exact allP1 (by decide : ((0 : Int32) = 0))
      have hx := hk () σ rfl
      rw [hs, ← nI_1 i] at hx
      refine AW.pick [1, 2, 3, 0] (ls' := _) rfl ?_
      exact hx
  · intro _ τ hI
    subst hI
    refine AW.run 4 [true] (67, [(0, .inr (.inr (2, a, 0))), (1, .inl (optI (tightN S 8))), (2, .inl (leastI S (tightN S 8))), (3, .inl (nI 8))], [.inl (optI (tightN S 8))], σ) [icP .ge (nI 8) 8] rfl ?_ ?_
    · exact allP1 (le_lit (a := 8) (b := 8) (by decide) (by decide))
    refine AW.reti ⟨_, rfl⟩ rfl ?_
    exact ⟨rfl, rfl⟩
set_option maxHeartbeats 4000000 in
set_option maxRecDepth 100000 in
theorem c3_longestGap (a : Nat) (S : Sv) (σ : St) (hR : RepS (σ 2 a) S) (hO : SOK S) : Ct M3_longestGap 2 [.inr (.inr (2, a, 0))] σ (PI fun v σ' => nI (gapN S 15).1 = v ∧ σ = σ') := by
  refine Ct.of f_3_longestGap (Nat.le_of_ble_eq_true rfl) ?_
  show AW M3_longestGap 2 _ (0, [(0, .inr (.inr (2, a, 0)))], [], σ)
  refine AW.run 6 [] (6, [(3, .inl 0), (2, .inl 0), (1, .inl 0), (0, .inr (.inr (2, a, 0)))], [], σ) [] rfl ?_ ?_
  · exact trivial
  refine AW.pick [3, 2, 1, 0] (ls' := [(0, .inr (.inr (2, a, 0))), (1, .inl (nI (gapN S 0).1)), (2, .inl (nI (gapN S 0).2)), (3, .inl (nI 0))]) rfl ?_
  refine AW.loop (α := Unit) 6 15 (fun i _ => [(0, .inr (.inr (2, a, 0))), (1, .inl (nI (gapN S i).1)), (2, .inl (nI (gapN S i).2)), (3, .inl (nI i))]) (fun i _ τ => σ = τ) ?_ ?_ 15 0 () _ (by omega) rfl
  · intro i _ τ hi hI hk
    subst hI
    obtain ⟨l1, l2⟩ := gapN_le (S := S) i
    cases ht : atS S i with
    | none =>
      have hs : gapN S (i + 1) = (Nat.max (gapN S i).1 ((gapN S i).2 + 1), (gapN S i).2 + 1) := by simp only [gapN, ht]
      refine AW.run 5 [false] (14, [(0, .inr (.inr (2, a, 0))), (1, .inl (nI (gapN S i).1)), (2, .inl (nI (gapN S i).2)), (3, .inl (nI i))], [.inl (nI i), .inr (.inr (2, a, 0))], σ) [¬ icP .ge (nI i) 15] rfl ?_ ?_
      · exact allP1 (nle_lit (a := 15) hi (by decide))
      refine AW.callVI (d' := 1) [.inl (nI i)] [] ⟨_, rfl⟩ f_3_wholeAt v_3_wholeAt l_3_106 ⟨rfl, by decide⟩ rfl (Nat.le_of_ble_eq_true rfl) rfl (Nat.le_of_ble_eq_true rfl) (c3_wholeAt a S σ hR hO i (by omega)) ?_
      rintro _ _ ⟨rfl, rfl⟩
      rw [ht]
      dsimp only [optI]
      refine AW.run 6 [false] (29, [(0, .inr (.inr (2, a, 0))), (1, .inl (nI (gapN S i).1)), (2, .inl (nI (gapN S i).2)), (3, .inl (nI i))], [.inl ((nI (gapN S i).2) + 1)], σ) [¬ icP .ne (-9 : Int32) (-9)] rfl ?_ ?_
      · exact allP1 (by decide : ¬ (¬ (-9 : Int32) = (-9)))
      rw [nI_1]
      refine AW.run 3 [] (32, [(2, .inl (nI ((gapN S i).2 + 1))), (0, .inr (.inr (2, a, 0))), (1, .inl (nI (gapN S i).1)), (3, .inl (nI i))], [.inl (nI ((gapN S i).2 + 1)), .inl (nI (gapN S i).1)], σ) [] rfl ?_ ?_
      · exact trivial
      refine AW.max ⟨_, rfl⟩ l_3_109 (Nat.le_of_ble_eq_true rfl) (Nat.le_of_ble_eq_true rfl) ?_
      rw [max_nI (by omega) (by omega)]
      refine AW.run 3 [] (6, [(3, .inl ((nI i) + 1)), (1, .inl (nI (Nat.max (gapN S i).1 ((gapN S i).2 + 1)))), (2, .inl (nI ((gapN S i).2 + 1))), (0, .inr (.inr (2, a, 0)))], [], σ) [] rfl ?_ ?_
      · exact trivial
      have hx := hk () σ rfl
      rw [hs, ← nI_1 i] at hx
      refine AW.pick [3, 1, 2, 0] (ls' := _) rfl ?_
      exact hx
    | some t =>
      have htl := (atS_lt ht).1
      have hs : gapN S (i + 1) = (Nat.max (gapN S i).1 0, 0) := by simp only [gapN, ht]
      refine AW.run 5 [false] (14, [(0, .inr (.inr (2, a, 0))), (1, .inl (nI (gapN S i).1)), (2, .inl (nI (gapN S i).2)), (3, .inl (nI i))], [.inl (nI i), .inr (.inr (2, a, 0))], σ) [¬ icP .ge (nI i) 15] rfl ?_ ?_
      · exact allP1 (nle_lit (a := 15) hi (by decide))
      refine AW.callVI (d' := 1) [.inl (nI i)] [] ⟨_, rfl⟩ f_3_wholeAt v_3_wholeAt l_3_106 ⟨rfl, by decide⟩ rfl (Nat.le_of_ble_eq_true rfl) rfl (Nat.le_of_ble_eq_true rfl) (c3_wholeAt a S σ hR hO i (by omega)) ?_
      rintro _ _ ⟨rfl, rfl⟩
      rw [ht]
      dsimp only [optI]
      refine AW.run 6 [true] (32, [(2, .inl 0), (0, .inr (.inr (2, a, 0))), (1, .inl (nI (gapN S i).1)), (3, .inl (nI i))], [.inl 0, .inl (nI (gapN S i).1)], σ) [icP .ne (nI t) (-9)] rfl ?_ ?_
      · exact allP1 (nI_m9 (by omega))
      refine AW.max ⟨_, rfl⟩ l_3_109 (Nat.le_of_ble_eq_true rfl) (Nat.le_of_ble_eq_true rfl) ?_
      rw [max_n0 (by omega)]
      refine AW.run 3 [] (6, [(3, .inl ((nI i) + 1)), (1, .inl (nI (Nat.max (gapN S i).1 0))), (2, .inl 0), (0, .inr (.inr (2, a, 0)))], [], σ) [] rfl ?_ ?_
      · exact trivial
      have hx := hk () σ rfl
      rw [hs, ← nI_1 i] at hx
      refine AW.pick [3, 1, 2, 0] (ls' := _) rfl ?_
      exact hx
  · intro _ τ hI
    subst hI
    refine AW.run 4 [true] (43, [(0, .inr (.inr (2, a, 0))), (1, .inl (nI (gapN S 15).1)), (2, .inl (nI (gapN S 15).2)), (3, .inl (nI 15))], [.inl (nI (gapN S 15).1)], σ) [icP .ge (nI 15) 15] rfl ?_ ?_
    · exact allP1 (le_lit (a := 15) (b := 15) (by decide) (by decide))
    refine AW.reti ⟨_, rfl⟩ rfl ?_
    exact ⟨rfl, rfl⟩
end
section
/-! THE MIND: ONE SHELF OF ITS OWN, (2, 3) -/
theorem only_rep {σ τ : St} {S : Sv} (h : Only 2 3 σ τ) (hR : RepS (σ 2 0) S) : RepS (τ 2 0) S := by
  rw [h 2 0 (by decide)]; exact hR
theorem SOK_q {S : Sv} (hO : SOK S) {k q : Nat} (hk : k < Sn S) (hq : q ≤ 99) : SOK (withQ S (fu (Sq S) k q)) := by
  obtain ⟨h1, h2, h3, h4, h5⟩ := hO
  refine ⟨h1, fun i => ⟨(h2 i).1, (h2 i).2.1, (h2 i).2.2.1, ?_⟩, fun i hi => ?_, h4, h5⟩
  · show fu (Sq S) k q i ≤ 99
    unfold fu; split
    · exact hq
    · exact (h2 i).2.2.2
  · obtain ⟨g1, g2, g3, g4⟩ := h3 i hi
    refine ⟨g1, g2, ?_, g4⟩
    show fu (Sq S) k q i = 0
    rw [fu_ne _ _ (by have h9 : Sn S ≤ i := hi; omega)]; exact g3
theorem SOK_p {S : Sv} (hO : SOK S) {k q : Nat} (hk : k < Sn S) (hq : q ≤ 14) : SOK (withP S (fu (Sp S) k q)) := by
  obtain ⟨h1, h2, h3, h4, h5⟩ := hO
  refine ⟨h1, fun i => ⟨(h2 i).1, (h2 i).2.1, ?_, (h2 i).2.2.2⟩, fun i hi => ?_, h4, h5⟩
  · show fu (Sp S) k q i ≤ 14
    unfold fu; split
    · exact hq
    · exact (h2 i).2.2.1
  · obtain ⟨g1, g2, g3, g4, g5, g6⟩ := h3 i hi
    refine ⟨g1, g2, g3, g4, g5, ?_⟩
    show fu (Sp S) k q i = 0
    rw [fu_ne _ _ (by have h9 : Sn S ≤ i := hi; omega)]; exact g6
theorem SOK_t {S : Sv} (hO : SOK S) {k : Nat} {b : Bool} (hk : k < Sn S) : SOK (withT S (fu (Stw S) k b)) := by
  obtain ⟨h1, h2, h3, h4, h5⟩ := hO
  refine ⟨h1, h2, fun i hi => ?_, h4, h5⟩
  obtain ⟨g1, g2, g3⟩ := h3 i hi
  refine ⟨g1, ?_, g3⟩
  show fu (Stw S) k b i = false
  rw [fu_ne _ _ (by have h9 : Sn S ≤ i := hi; omega)]; exact g2
theorem SOK_w {S : Sv} (hO : SOK S) {k : Nat} : SOK (withW S (fu (Sw S) k false)) := by
  obtain ⟨h1, h2, h3, h4, h5⟩ := hO
  refine ⟨h1, h2, fun i hi => ?_, h4, h5⟩
  obtain ⟨g1, g2⟩ := h3 i hi
  refine ⟨?_, g2⟩
  show fu (Sw S) k false i = false
  unfold fu; split
  · rfl
  · exact g1
theorem SOK_k {S : Sv} (hO : SOK S) {i k f : Nat} (hi : i < Sn S) (hk : k ≤ 5) (hf : f ≤ 9) : SOK (withK S (fu (Sk S) i k) (fu (Sf S) i f)) := by
  obtain ⟨h1, h2, h3, h4, h5⟩ := hO
  refine ⟨h1, fun j => ⟨?_, ?_, (h2 j).2.2⟩, fun j hj => ?_, h4, h5⟩
  · show fu (Sk S) i k j ≤ 5
    unfold fu; split
    · exact hk
    · exact (h2 j).1
  · show fu (Sf S) i f j ≤ 9
    unfold fu; split
    · exact hf
    · exact (h2 j).2.1
  · obtain ⟨g1, g2, g3, g4, g5, g6⟩ := h3 j hj
    refine ⟨g1, g2, g3, ?_, ?_, g6⟩
    · show fu (Sk S) i k j = 0
      rw [fu_ne _ _ (by have h9 : Sn S ≤ j := hj; omega)]; exact g4
    · show fu (Sf S) i f j = 0
      rw [fu_ne _ _ (by have h9 : Sn S ≤ j := hj; omega)]; exact g5
/-- how many are left behind n days -/
def leftS (S : Sv) (n : Nat) : Nat := cN (Sw (passS n S))
theorem leftS_le (S : Sv) (n : Nat) : leftS S n ≤ 8 := cN_le _
/-- the first day, from d on, behind which one isn't whole -/
def goneN (b : Nat) : Nat → Nat → Sv → Option Nat
  | 0, _, _ => none
  | k + 1, d, S => if Sw S b = true then goneN b k (d + 1) (dayS S) else some d
def newGone (S T : Sv) : Nat → Bool := fun j => Sw S j && !(Sw T j)
/-- the first of a set, from i on -/
def fstN (f : Nat → Bool) : Nat → Nat → Option Nat
  | 0, _ => none
  | k + 1, i => if f i = true then some i else fstN f k (i + 1)
def firstN (S : Sv) : Nat → Sv → Option Nat
  | 0, _ => none
  | k + 1, T => match fstN (newGone S (dayS T)) 8 0 with
    | some i => some i
    | none => firstN S k (dayS T)
def sameW (S T : Sv) : Bool := decide (bN (Sw S) = bN (Sw T))
/-- longest run, open run -/
def quietN (S : Sv) : Nat → Nat × Nat
  | 0 => (0, 0)
  | d + 1 => if sameW (passS (d + 1) S) (passS d S) = true then (Nat.max (quietN S d).1 ((quietN S d).2 + 1), (quietN S d).2 + 1) else (Nat.max (quietN S d).1 0, 0)
theorem quietN_le {S : Sv} : ∀ i, (quietN S i).1 ≤ i ∧ (quietN S i).2 ≤ i
  | 0 => ⟨Nat.le_refl _, Nat.le_refl _⟩
  | i + 1 => by
    have := quietN_le (S := S) i
    unfold quietN
    split
    · exact ⟨Nat.max_le.mpr ⟨by omega, by omega⟩, by omega⟩
    · exact ⟨Nat.max_le.mpr ⟨by omega, by omega⟩, by omega⟩
theorem bI_eq {f g : Nat → Bool} : bI f = bI g ↔ bN f = bN g := nI_eq (by have := bN_lt f; omega) (by have := bN_lt g; omega)
def takenS (S : Sv) (b : Nat) : Nat → Bool := fun j => Sw (burstS S b) j && !(Sw (settleS 8 (burstS S b)) j)
/-! the best of several -/
def above (o : Option Nat) (v : Nat) : Bool := match o with
  | none => true
  | some m => decide (m < v)
def amax (f : Nat → Option Nat) (m0 : Option Nat) : Nat → Option Nat × Option Nat
  | 0 => (none, m0)
  | i + 1 => match f i with
    | none => amax f m0 i
    | some v => if above (amax f m0 i).2 v = true then (some i, some v) else amax f m0 i
def optM (o : Option Nat) : Int32 := match o with
  | none => -1
  | some m => nI m
theorem above_cmp {o : Option Nat} {v : Nat} (hv : v ≤ 8) (ho : ∀ m, o = some m → m ≤ 8) : nI v ≤ optM o ↔ above o v = false := by
  cases o with
  | none =>
    have h : ∀ v < 9, ¬ nI v ≤ (-1 : Int32) := by decide
    exact ⟨fun q => absurd q (h v (by omega)), fun q => by cases q⟩
  | some m =>
    have := ho m rfl
    simp only [optM, above]
    rw [nI_leI (by omega) (by omega)]
    simp
theorem amax_le {f : Nat → Option Nat} {m0 : Option Nat} (hf : ∀ i v, f i = some v → v ≤ 8) (h0 : ∀ m, m0 = some m → m ≤ 8) : ∀ i m, (amax f m0 i).2 = some m → m ≤ 8
  | 0, m, h => h0 m h
  | i + 1, m, h => by
    unfold amax at h
    split at h
    · exact amax_le hf h0 i m h
    · rename_i v hv
      split at h
      · cases h; exact hf i _ hv
      · exact amax_le hf h0 i m h
theorem amax_lt {f : Nat → Option Nat} {m0 : Option Nat} : ∀ i b, (amax f m0 i).1 = some b → b < i ∧ ∃ v, f b = some v
  | 0, b, h => by cases h
  | i + 1, b, h => by
    unfold amax at h
    split at h
    · have := amax_lt i b h
      exact ⟨by omega, this.2⟩
    · rename_i v hv
      split at h
      · cases h; exact ⟨Nat.lt_succ_self _, v, hv⟩
      · have := amax_lt i b h
        exact ⟨by omega, this.2⟩
def worstF (S : Sv) (i : Nat) : Option Nat := if Sw S i = true then some (cN (takenS S i)) else none
def worstS (S : Sv) : Option Nat := (amax (worstF S) none 8).1
def safeF (S : Sv) (b n p : Nat) : Option Nat := match atS S p with
  | none => some (leftS (withP S (fu (Sp S) b p)) n)
  | some h => if h = b then some (leftS (withP S (fu (Sp S) b p)) n) else none
def safeS (S : Sv) (b n : Nat) : Option Nat := (amax (safeF S b n) none 15).1
def coverF (S : Sv) (n i : Nat) : Option Nat := if Sw S i = true ∧ Stw S i = false then some (leftS (withT S (fu (Stw S) i true)) n) else none
def coverS (S : Sv) (n : Nat) : Option Nat := (amax (coverF S n) (some (leftS S n)) 8).1
def outF (S : Sv) (n i : Nat) : Option Nat := if Sw S i = true then some (leftS (withQ S (fu (Sq S) i 0)) n) else none
def outS (S : Sv) (n : Nat) : Option Nat := (amax (outF S n) (some (leftS S n)) 8).1

set_option maxHeartbeats 4000000 in
set_option maxRecDepth 100000 in
theorem c1_ahead (S : Sv) (σ : St) (hR : RepS (σ 2 0) S) (hO : SOK S) (n : Nat) (hn : n < 2 ^ 31) : Ct M1_ahead 4 [.inr (.inr (0, 0, 0)), .inr (.inr (2, 0, 0)), .inl (nI n)] σ (PR fun r σ' => (2, 3, 0) = r ∧ Only 2 3 σ σ' ∧ RepS (σ' 2 3) (passS n S)) := by
  refine Ct.of f_1_ahead (Nat.le_of_ble_eq_true rfl) ?_
  show AW M1_ahead 4 _ (0, [(0, .inr (.inr (0, 0, 0))), (1, .inr (.inr (2, 0, 0))), (2, .inl (nI n))], [], σ)
  refine AW.run 3 [] (5, [(0, .inr (.inr (0, 0, 0))), (1, .inr (.inr (2, 0, 0))), (2, .inl (nI n))], [.inr (.inr (2, 0, 0)), .inr (.inr (2, 3, 0))], σ) [] rfl ?_ ?_
  · exact trivial
  refine AW.callVV (d' := 1) [.inr (.inr (2, 0, 0))] [] ⟨_, rfl⟩ f_3_copyFrom v_3_copyFrom l_1_25 ⟨rfl, by decide⟩ rfl (Nat.le_of_ble_eq_true rfl) rfl (Nat.le_of_ble_eq_true rfl) (c3_copyFrom 3 0 (by decide) S σ hR hO) ?_
  rintro τ1 ⟨a1, b1⟩
  refine AW.run 3 [] (13, [(0, .inr (.inr (0, 0, 0))), (1, .inr (.inr (2, 0, 0))), (2, .inl (nI n))], [.inl (nI n), .inr (.inr (2, 3, 0))], τ1) [] rfl ?_ ?_
  · exact trivial
  refine AW.callVV (d' := 3) [.inl (nI n)] [] ⟨_, rfl⟩ f_3_pass v_3_pass l_1_29 ⟨rfl, by decide⟩ rfl (Nat.le_of_ble_eq_true rfl) rfl (Nat.le_of_ble_eq_true rfl) (c3_pass 3 S τ1 b1 hO n (by omega)) ?_
  rintro τ2 ⟨a2, b2⟩
  refine AW.run 2 [] (20, [(0, .inr (.inr (0, 0, 0))), (1, .inr (.inr (2, 0, 0))), (2, .inl (nI n))], [.inr (.inr (2, 3, 0))], τ2) [] rfl ?_ ?_
  · exact trivial
  refine AW.reta ⟨_, rfl⟩ rfl ?_
  exact ⟨rfl, (only_trans (only_trans only_rfl a1) a2), b2⟩

set_option maxHeartbeats 4000000 in
set_option maxRecDepth 100000 in
theorem c1_leftBehind (T : Sv) (σ : St) (hT : RepS (σ 2 3) T) (hOT : SOK T) (n : Nat) (hn : n < 2 ^ 31) : Ct M1_leftBehind 4 [.inr (.inr (0, 0, 0)), .inl (nI n)] σ (PI fun r9 σ' => nI (leftS T n) = r9 ∧ Only 2 3 σ σ') := by
  refine Ct.of f_1_leftBehind (Nat.le_of_ble_eq_true rfl) ?_
  show AW M1_leftBehind 4 _ (0, [(0, .inr (.inr (0, 0, 0))), (1, .inl (nI n))], [], σ)
  refine AW.run 3 [] (5, [(0, .inr (.inr (0, 0, 0))), (1, .inl (nI n))], [.inl (nI n), .inr (.inr (2, 3, 0))], σ) [] rfl ?_ ?_
  · exact trivial
  refine AW.callVV (d' := 3) [.inl (nI n)] [] ⟨_, rfl⟩ f_3_pass v_3_pass l_1_29 ⟨rfl, by decide⟩ rfl (Nat.le_of_ble_eq_true rfl) rfl (Nat.le_of_ble_eq_true rfl) (c3_pass 3 T σ hT hOT n (by omega)) ?_
  rintro τ3 ⟨a3, b3⟩
  refine AW.run 3 [] (15, [(0, .inr (.inr (0, 0, 0))), (1, .inl (nI n))], [.inl (τ3 2 3 0 8)], τ3) [] rfl ?_ ?_
  · exact trivial
  rw [b3.1.2.1]
  refine AW.callSI (d' := 0) [.inl (bI (Sw (passS n T)))] [] ⟨_, rfl⟩ f_J_bitCount s_J_bitCount l_1_37 rfl (Nat.le_of_ble_eq_true rfl) rfl (Nat.le_of_ble_eq_true rfl) (cJ_bitCount (bI (Sw (passS n T))) τ3) ?_
  rintro _ _ ⟨rfl, rfl⟩
  refine AW.reti ⟨_, rfl⟩ rfl ?_
  exact ⟨(bcV_bI _).symm, (only_trans only_rfl a3)⟩
set_option maxHeartbeats 4000000 in
set_option maxRecDepth 100000 in
theorem c1_daysTillGone (S : Sv) (σ : St) (hR : RepS (σ 2 0) S) (hO : SOK S) (b : Nat) (hb : b < 2 ^ 31) : Ct M1_daysTillGone 3 [.inr (.inr (0, 0, 0)), .inr (.inr (2, 0, 0)), .inl (nI b)] σ (PI fun r9 σ' => optI (goneN b 61 0 S) = r9 ∧ Only 2 3 σ σ') := by
  refine Ct.of f_1_daysTillGone (Nat.le_of_ble_eq_true rfl) ?_
  show AW M1_daysTillGone 3 _ (0, [(0, .inr (.inr (0, 0, 0))), (1, .inr (.inr (2, 0, 0))), (2, .inl (nI b))], [], σ)
  refine AW.run 3 [] (5, [(0, .inr (.inr (0, 0, 0))), (1, .inr (.inr (2, 0, 0))), (2, .inl (nI b))], [.inr (.inr (2, 0, 0)), .inr (.inr (2, 3, 0))], σ) [] rfl ?_ ?_
  · exact trivial
  refine AW.callVV (d' := 1) [.inr (.inr (2, 0, 0))] [] ⟨_, rfl⟩ f_3_copyFrom v_3_copyFrom l_1_25 ⟨rfl, by decide⟩ rfl (Nat.le_of_ble_eq_true rfl) rfl (Nat.le_of_ble_eq_true rfl) (c3_copyFrom 3 0 (by decide) S σ hR hO) ?_
  rintro τ4 ⟨a4, b4⟩
  refine AW.run 2 [] (10, [(3, .inl 0), (0, .inr (.inr (0, 0, 0))), (1, .inr (.inr (2, 0, 0))), (2, .inl (nI b))], [], τ4) [] rfl ?_ ?_
  · exact trivial
  refine AW.pick [1, 2, 3, 0] (ls' := [(0, .inr (.inr (0, 0, 0))), (1, .inr (.inr (2, 0, 0))), (2, .inl (nI b)), (3, .inl (nI 0))]) rfl ?_
  refine AW.loop (α := Sv) 10 61 (fun d T => [(0, .inr (.inr (0, 0, 0))), (1, .inr (.inr (2, 0, 0))), (2, .inl (nI b)), (3, .inl (nI d))]) (fun d T τ => Only 2 3 σ τ ∧ RepS (τ 2 3) T ∧ SOK T ∧ goneN b 61 0 S = goneN b (61 - d) d T) ?_ ?_ 61 0 S _ (by omega) ⟨(only_trans only_rfl a4), b4, hO, rfl⟩
  · intro d T τ hd hI hk
    obtain ⟨hA, hT, hOT, hg⟩ := hI
    have hu : goneN b (61 - d) d T = if Sw T b = true then goneN b (61 - (d + 1)) (d + 1) (dayS T) else some d := by
      obtain ⟨m, hm⟩ : ∃ m, 61 - d = m + 1 := ⟨60 - d, by omega⟩
      rw [hm, show 61 - (d + 1) = m by omega]; rfl
    rw [hu] at hg
    refine AW.run 6 [false] (21, [(0, .inr (.inr (0, 0, 0))), (1, .inr (.inr (2, 0, 0))), (2, .inl (nI b)), (3, .inl (nI d))], [.inl (nI b), .inr (.inr (2, 3, 0))], τ) [¬ icP .gt (nI d) 60] rfl ?_ ?_
    · exact allP1 (nI_nlt (a := 60) (b := d) (by omega) (by omega))
    refine AW.callVI (d' := 0) [.inl (nI b)] [] ⟨_, rfl⟩ f_3_isWhole v_3_isWhole l_1_43 ⟨rfl, by decide⟩ rfl (Nat.le_of_ble_eq_true rfl) rfl (Nat.le_of_ble_eq_true rfl) (c3_isWhole 3 T τ hT hOT b hb) ?_
    rintro v _ ⟨rfl, hv⟩
    rcases hv with ⟨rfl, hp21⟩ | ⟨rfl, hp21⟩
    · skip
      refine AW.run 3 [true] (33, [(0, .inr (.inr (0, 0, 0))), (1, .inr (.inr (2, 0, 0))), (2, .inl (nI b)), (3, .inl (nI d))], [.inr (.inr (2, 3, 0))], τ) [icP .ne (1 : Int32) 0] rfl ?_ ?_
      · exact allP1 (by decide : (¬ (1 : Int32) = 0))
      refine AW.callVV (d' := 2) [] [] ⟨_, rfl⟩ f_3_dayGoesBy v_3_dayGoesBy l_1_47 ⟨rfl, by decide⟩ rfl (Nat.le_of_ble_eq_true rfl) rfl (Nat.le_of_ble_eq_true rfl) (c3_dayGoesBy 3 T τ hT hOT ) ?_
      rintro τ5 ⟨a5, b5⟩
      refine AW.run 2 [] (10, [(3, .inl ((nI d) + 1)), (0, .inr (.inr (0, 0, 0))), (1, .inr (.inr (2, 0, 0))), (2, .inl (nI b))], [], τ5) [] rfl ?_ ?_
      · exact trivial
      rw [nI_1 d]
      refine AW.pick [1, 2, 3, 0] (ls' := [(0, .inr (.inr (0, 0, 0))), (1, .inr (.inr (2, 0, 0))), (2, .inl (nI b)), (3, .inl (nI (d + 1)))]) rfl ?_
      exact hk (dayS T) _ ⟨(only_trans hA a5), b5, (SOK_day hOT), by rw [hg, if_pos hp21]⟩
    · skip
      refine AW.run 2 [false] (28, [(0, .inr (.inr (0, 0, 0))), (1, .inr (.inr (2, 0, 0))), (2, .inl (nI b)), (3, .inl (nI d))], [.inl (nI d)], τ) [¬ icP .ne (0 : Int32) 0] rfl ?_ ?_
      · exact allP1 (by decide : ¬ (¬ (0 : Int32) = 0))
      refine AW.reti ⟨_, rfl⟩ rfl ?_
      rw [hg, if_neg (by rw [hp21]; decide)]
      exact ⟨rfl, hA⟩
  · intro T τ hI
    obtain ⟨hA, hT, hOT, hg⟩ := hI
    refine AW.run 4 [true] (44, [(0, .inr (.inr (0, 0, 0))), (1, .inr (.inr (2, 0, 0))), (2, .inl (nI b)), (3, .inl (nI 61))], [.inl (-9)], τ) [icP .gt (nI 61) 60] rfl ?_ ?_
    · exact allP1 (nI_lt (a := 60) (b := 61) (by decide) (by decide))
    refine AW.reti ⟨_, rfl⟩ rfl ?_
    rw [hg]
    exact ⟨rfl, hA⟩
set_option maxHeartbeats 4000000 in
set_option maxRecDepth 100000 in
theorem c1_takenBy (S : Sv) (σ : St) (hR : RepS (σ 2 0) S) (hO : SOK S) (b : Nat) (hb : b < Sn S) : Ct M1_takenBy 2 [.inr (.inr (0, 0, 0)), .inr (.inr (2, 0, 0)), .inl (nI b)] σ (PI fun r9 σ' => bI (takenS S b) = r9 ∧ Only 2 3 σ σ') := by
  refine Ct.of f_1_takenBy (Nat.le_of_ble_eq_true rfl) ?_
  show AW M1_takenBy 2 _ (0, [(0, .inr (.inr (0, 0, 0))), (1, .inr (.inr (2, 0, 0))), (2, .inl (nI b))], [], σ)
  refine AW.run 3 [] (5, [(0, .inr (.inr (0, 0, 0))), (1, .inr (.inr (2, 0, 0))), (2, .inl (nI b))], [.inr (.inr (2, 0, 0)), .inr (.inr (2, 3, 0))], σ) [] rfl ?_ ?_
  · exact trivial
  refine AW.callVV (d' := 1) [.inr (.inr (2, 0, 0))] [] ⟨_, rfl⟩ f_3_copyFrom v_3_copyFrom l_1_25 ⟨rfl, by decide⟩ rfl (Nat.le_of_ble_eq_true rfl) rfl (Nat.le_of_ble_eq_true rfl) (c3_copyFrom 3 0 (by decide) S σ hR hO) ?_
  rintro τ6 ⟨a6, b6⟩
  refine AW.run 3 [] (13, [(0, .inr (.inr (0, 0, 0))), (1, .inr (.inr (2, 0, 0))), (2, .inl (nI b))], [.inl (nI b), .inr (.inr (2, 3, 0))], τ6) [] rfl ?_ ?_
  · exact trivial
  refine AW.callVV (d' := 0) [.inl (nI b)] [] ⟨_, rfl⟩ f_3_burst v_3_burst l_1_56 ⟨rfl, by decide⟩ rfl (Nat.le_of_ble_eq_true rfl) rfl (Nat.le_of_ble_eq_true rfl) (c3_burst 3 S τ6 b6 hO b hb) ?_
  rintro τ7 ⟨a7, b7⟩
  refine AW.run 3 [] (23, [(0, .inr (.inr (0, 0, 0))), (1, .inr (.inr (2, 0, 0))), (2, .inl (nI b))], [.inl (τ7 2 3 0 8)], τ7) [] rfl ?_ ?_
  · exact trivial
  rw [b7.1.2.1]
  refine AW.run 3 [] (28, [(3, .inl (bI (Sw (burstS S b)))), (0, .inr (.inr (0, 0, 0))), (1, .inr (.inr (2, 0, 0))), (2, .inl (nI b))], [.inr (.inr (2, 3, 0))], τ7) [] rfl ?_ ?_
  · exact trivial
  refine AW.callVV (d' := 1) [] [] ⟨_, rfl⟩ f_3_settle v_3_settle l_1_59 ⟨rfl, by decide⟩ rfl (Nat.le_of_ble_eq_true rfl) rfl (Nat.le_of_ble_eq_true rfl) (c3_settle 3 (burstS S b) τ7 b7 (SOK_burst (b := b) hO) ) ?_
  rintro τ8 ⟨a8, b8⟩
  refine AW.run 4 [] (39, [(3, .inl (bI (Sw (burstS S b)))), (0, .inr (.inr (0, 0, 0))), (1, .inr (.inr (2, 0, 0))), (2, .inl (nI b))], [.inl (τ8 2 3 0 8), .inl (bI (Sw (burstS S b)))], τ8) [] rfl ?_ ?_
  · exact trivial
  rw [b8.1.2.1]
  refine AW.run 3 [] (42, [(3, .inl (bI (Sw (burstS S b)))), (0, .inr (.inr (0, 0, 0))), (1, .inr (.inr (2, 0, 0))), (2, .inl (nI b))], [.inl ((bI (Sw (burstS S b))) &&& ((bI (Sw (settleS 8 (burstS S b)))) ^^^ (-1)))], τ8) [] rfl ?_ ?_
  · exact trivial
  rw [bI_andn]
  refine AW.reti ⟨_, rfl⟩ rfl ?_
  exact ⟨rfl, (only_trans (only_trans (only_trans only_rfl a6) a7) a8)⟩
end
section
/-! THE MIND, SECOND PART -/
theorem worstF_le {S : Sv} : ∀ i v, worstF S i = some v → v ≤ 8 := by
  intro i v h
  unfold worstF at h
  split at h
  · cases h; exact cN_le _
  · cases h
theorem none_le : ∀ m, (none : Option Nat) = some m → m ≤ 8 := fun m h => by cases h
set_option maxHeartbeats 4000000 in
set_option maxRecDepth 100000 in
theorem c1_worstOne (S : Sv) (σ : St) (hR : RepS (σ 2 0) S) (hO : SOK S) : Ct M1_worstOne 3 [.inr (.inr (0, 0, 0)), .inr (.inr (2, 0, 0))] σ (PI fun r9 σ' => optI (worstS S) = r9 ∧ Only 2 3 σ σ') := by
  refine Ct.of f_1_worstOne (Nat.le_of_ble_eq_true rfl) ?_
  show AW M1_worstOne 3 _ (0, [(0, .inr (.inr (0, 0, 0))), (1, .inr (.inr (2, 0, 0)))], [], σ)
  refine AW.run 6 [] (8, [(4, .inl 0), (3, .inl (-1)), (2, .inl (-9)), (0, .inr (.inr (0, 0, 0))), (1, .inr (.inr (2, 0, 0)))], [], σ) [] rfl ?_ ?_
  · exact trivial
  refine AW.pick [3, 4, 2, 1, 0] (ls' := [(0, .inr (.inr (0, 0, 0))), (1, .inr (.inr (2, 0, 0))), (2, .inl (optI (amax (worstF S) (none) 0).1)), (3, .inl (optM (amax (worstF S) (none) 0).2)), (4, .inl (nI 0))]) rfl ?_
  refine AW.loop (α := Unit) 8 8 (fun i _ => [(0, .inr (.inr (0, 0, 0))), (1, .inr (.inr (2, 0, 0))), (2, .inl (optI (amax (worstF S) (none) i).1)), (3, .inl (optM (amax (worstF S) (none) i).2)), (4, .inl (nI i))]) (fun i _ τ => Only 2 3 σ τ) ?_ ?_ 8 0 () _ (by omega) only_rfl
  · intro i _ τ hi hA hk
    have hlim := amax_le (f := worstF S) (m0 := none) (worstF_le) (none_le) i
    by_cases hw : Sw S i = true
    · have hfi : worstF S i = some (cN (takenS S i)) := by simp [worstF, hw]
      have hle := cN_le (takenS S i)
      by_cases hab : above (amax (worstF S) (none) i).2 (cN (takenS S i)) = true
      · have hs : amax (worstF S) (none) (i + 1) = (some i, some (cN (takenS S i))) := by simp only [amax, hfi]; rw [if_pos hab]
        refine AW.run 5 [false] (18, [(0, .inr (.inr (0, 0, 0))), (1, .inr (.inr (2, 0, 0))), (2, .inl (optI (amax (worstF S) (none) i).1)), (3, .inl (optM (amax (worstF S) (none) i).2)), (4, .inl (nI i))], [.inl (nI i), .inr (.inr (2, 0, 0))], τ) [¬ icP .ge (nI i) 8] rfl ?_ ?_
        · exact allP1 (nle_lit (a := 8) hi (by decide))
        refine AW.callVI (d' := 0) [.inl (nI i)] [] ⟨_, rfl⟩ f_3_isWhole v_3_isWhole l_1_43 ⟨rfl, by decide⟩ rfl (Nat.le_of_ble_eq_true rfl) rfl (Nat.le_of_ble_eq_true rfl) (c3_isWhole 0 S τ (only_rep hA hR) hO i (by omega)) ?_
        rintro v _ ⟨rfl, hv⟩
        obtain rfl : v = 1 := by
          rcases hv with h | h
          · exact h.1
          · exact absurd (h.2.symm.trans hw) (by decide)
        refine AW.run 4 [true] (31, [(0, .inr (.inr (0, 0, 0))), (1, .inr (.inr (2, 0, 0))), (2, .inl (optI (amax (worstF S) (none) i).1)), (3, .inl (optM (amax (worstF S) (none) i).2)), (4, .inl (nI i))], [.inl (nI i), .inr (.inr (2, 0, 0)), .inr (.inr (0, 0, 0))], τ) [icP .ne (1 : Int32) 0] rfl ?_ ?_
        · exact allP1 (by decide : (¬ (1 : Int32) = 0))
        refine AW.callVI (d' := 2) [.inr (.inr (2, 0, 0)), .inl (nI i)] [] ⟨_, rfl⟩ f_1_takenBy v_1_takenBy l_1_62 ⟨rfl, by decide⟩ rfl (Nat.le_of_ble_eq_true rfl) rfl (Nat.le_of_ble_eq_true rfl) (c1_takenBy S τ (only_rep hA hR) hO i (SOK_lt hO hw)) ?_
        rintro _ τ9 ⟨rfl, a9⟩
        refine AW.callSI (d' := 0) [.inl (bI (takenS S i))] [] ⟨_, rfl⟩ f_J_bitCount s_J_bitCount l_1_37 rfl (Nat.le_of_ble_eq_true rfl) rfl (Nat.le_of_ble_eq_true rfl) (cJ_bitCount (bI (takenS S i)) τ9) ?_
        rintro _ _ ⟨rfl, rfl⟩
        rw [bcV_bI]
        refine AW.run 10 [false] (8, [(4, .inl ((nI i) + 1)), (2, .inl (nI i)), (3, .inl (nI (cN (takenS S i)))), (5, .inl (nI (cN (takenS S i)))), (0, .inr (.inr (0, 0, 0))), (1, .inr (.inr (2, 0, 0)))], [], τ9) [¬ icP .le (nI (cN (takenS S i))) (optM (amax (worstF S) (none) i).2)] rfl ?_ ?_
        · exact allP1 (fun q9 => by rw [(above_cmp (hle) hlim).mp q9] at hab; cases hab)
        have hx := hk () τ9 (only_trans hA a9)
        rw [hs, ← nI_1 i] at hx
        refine AW.pick [4, 5, 1, 2, 0] (ls' := _) rfl ?_
        exact hx
      · have hs : amax (worstF S) (none) (i + 1) = amax (worstF S) (none) i := by simp only [amax, hfi]; rw [if_neg hab]
        refine AW.run 5 [false] (18, [(0, .inr (.inr (0, 0, 0))), (1, .inr (.inr (2, 0, 0))), (2, .inl (optI (amax (worstF S) (none) i).1)), (3, .inl (optM (amax (worstF S) (none) i).2)), (4, .inl (nI i))], [.inl (nI i), .inr (.inr (2, 0, 0))], τ) [¬ icP .ge (nI i) 8] rfl ?_ ?_
        · exact allP1 (nle_lit (a := 8) hi (by decide))
        refine AW.callVI (d' := 0) [.inl (nI i)] [] ⟨_, rfl⟩ f_3_isWhole v_3_isWhole l_1_43 ⟨rfl, by decide⟩ rfl (Nat.le_of_ble_eq_true rfl) rfl (Nat.le_of_ble_eq_true rfl) (c3_isWhole 0 S τ (only_rep hA hR) hO i (by omega)) ?_
        rintro v _ ⟨rfl, hv⟩
        obtain rfl : v = 1 := by
          rcases hv with h | h
          · exact h.1
          · exact absurd (h.2.symm.trans hw) (by decide)
        refine AW.run 4 [true] (31, [(0, .inr (.inr (0, 0, 0))), (1, .inr (.inr (2, 0, 0))), (2, .inl (optI (amax (worstF S) (none) i).1)), (3, .inl (optM (amax (worstF S) (none) i).2)), (4, .inl (nI i))], [.inl (nI i), .inr (.inr (2, 0, 0)), .inr (.inr (0, 0, 0))], τ) [icP .ne (1 : Int32) 0] rfl ?_ ?_
        · exact allP1 (by decide : (¬ (1 : Int32) = 0))
        refine AW.callVI (d' := 2) [.inr (.inr (2, 0, 0)), .inl (nI i)] [] ⟨_, rfl⟩ f_1_takenBy v_1_takenBy l_1_62 ⟨rfl, by decide⟩ rfl (Nat.le_of_ble_eq_true rfl) rfl (Nat.le_of_ble_eq_true rfl) (c1_takenBy S τ (only_rep hA hR) hO i (SOK_lt hO hw)) ?_
        rintro _ τ10 ⟨rfl, a10⟩
        refine AW.callSI (d' := 0) [.inl (bI (takenS S i))] [] ⟨_, rfl⟩ f_J_bitCount s_J_bitCount l_1_37 rfl (Nat.le_of_ble_eq_true rfl) rfl (Nat.le_of_ble_eq_true rfl) (cJ_bitCount (bI (takenS S i)) τ10) ?_
        rintro _ _ ⟨rfl, rfl⟩
        rw [bcV_bI]
        refine AW.run 6 [true] (8, [(4, .inl ((nI i) + 1)), (5, .inl (nI (cN (takenS S i)))), (0, .inr (.inr (0, 0, 0))), (1, .inr (.inr (2, 0, 0))), (2, .inl (optI (amax (worstF S) (none) i).1)), (3, .inl (optM (amax (worstF S) (none) i).2))], [], τ10) [icP .le (nI (cN (takenS S i))) (optM (amax (worstF S) (none) i).2)] rfl ?_ ?_
        · exact allP1 ((above_cmp (hle) hlim).mpr (by cases hb9 : above (amax (worstF S) (none) i).2 (cN (takenS S i)); rfl; exact absurd hb9 hab))
        have hx := hk () τ10 (only_trans hA a10)
        rw [hs, ← nI_1 i] at hx
        refine AW.pick [2, 3, 4, 5, 0] (ls' := _) rfl ?_
        exact hx
    · have hfi : worstF S i = none := by simp [worstF, hw]
      have hwf : Sw S i = false := by cases hb : Sw S i; rfl; exact absurd hb hw
      have hs : amax (worstF S) (none) (i + 1) = amax (worstF S) (none) i := by simp only [amax, hfi]
      refine AW.run 5 [false] (18, [(0, .inr (.inr (0, 0, 0))), (1, .inr (.inr (2, 0, 0))), (2, .inl (optI (amax (worstF S) (none) i).1)), (3, .inl (optM (amax (worstF S) (none) i).2)), (4, .inl (nI i))], [.inl (nI i), .inr (.inr (2, 0, 0))], τ) [¬ icP .ge (nI i) 8] rfl ?_ ?_
      · exact allP1 (nle_lit (a := 8) hi (by decide))
      refine AW.callVI (d' := 0) [.inl (nI i)] [] ⟨_, rfl⟩ f_3_isWhole v_3_isWhole l_1_43 ⟨rfl, by decide⟩ rfl (Nat.le_of_ble_eq_true rfl) rfl (Nat.le_of_ble_eq_true rfl) (c3_isWhole 0 S τ (only_rep hA hR) hO i (by omega)) ?_
      rintro v _ ⟨rfl, hv⟩
      obtain rfl : v = 0 := by
        rcases hv with h | h
        · exact absurd (h.2.symm.trans hwf) (by decide)
        · exact h.1
      refine AW.run 4 [false] (8, [(4, .inl ((nI i) + 1)), (0, .inr (.inr (0, 0, 0))), (1, .inr (.inr (2, 0, 0))), (2, .inl (optI (amax (worstF S) (none) i).1)), (3, .inl (optM (amax (worstF S) (none) i).2))], [], τ) [¬ icP .ne (0 : Int32) 0] rfl ?_ ?_
      · exact allP1 (by decide : ¬ (¬ (0 : Int32) = 0))
      have hx := hk () τ hA
      rw [hs, ← nI_1 i] at hx
      refine AW.pick [1, 2, 3, 4, 0] (ls' := _) rfl ?_
      exact hx
  · intro _ τ hI
    refine AW.run 4 [true] (58, [(0, .inr (.inr (0, 0, 0))), (1, .inr (.inr (2, 0, 0))), (2, .inl (optI (amax (worstF S) (none) 8).1)), (3, .inl (optM (amax (worstF S) (none) 8).2)), (4, .inl (nI 8))], [.inl (optI (amax (worstF S) (none) 8).1)], τ) [icP .ge (nI 8) 8] rfl ?_ ?_
    · exact allP1 (le_lit (a := 8) (b := 8) (by decide) (by decide))
    refine AW.reti ⟨_, rfl⟩ rfl ?_
    exact ⟨rfl, hI⟩
theorem safeF_le {S : Sv} {b n : Nat} : ∀ i v, safeF S b n i = some v → v ≤ 8 := by
  intro i v h
  unfold safeF at h
  split at h
  · cases h; exact leftS_le _ _
  · split at h
    · cases h; exact leftS_le _ _
    · cases h
set_option maxHeartbeats 4000000 in
set_option maxRecDepth 100000 in
theorem c1_safestPlace (S : Sv) (σ : St) (hR : RepS (σ 2 0) S) (hO : SOK S) (b n : Nat) (hb : b < Sn S) (hn : n < 2 ^ 31) : Ct M1_safestPlace 5 [.inr (.inr (0, 0, 0)), .inr (.inr (2, 0, 0)), .inl (nI b), .inl (nI n)] σ (PI fun r9 σ' => optI (safeS S b n) = r9 ∧ Only 2 3 σ σ') := by
  refine Ct.of f_1_safestPlace (Nat.le_of_ble_eq_true rfl) ?_
  show AW M1_safestPlace 5 _ (0, [(0, .inr (.inr (0, 0, 0))), (1, .inr (.inr (2, 0, 0))), (2, .inl (nI b)), (3, .inl (nI n))], [], σ)
  refine AW.run 6 [] (10, [(6, .inl 0), (5, .inl (-1)), (4, .inl (-9)), (0, .inr (.inr (0, 0, 0))), (1, .inr (.inr (2, 0, 0))), (2, .inl (nI b)), (3, .inl (nI n))], [], σ) [] rfl ?_ ?_
  · exact trivial
  refine AW.pick [3, 4, 5, 6, 2, 1, 0] (ls' := [(0, .inr (.inr (0, 0, 0))), (1, .inr (.inr (2, 0, 0))), (2, .inl (nI b)), (3, .inl (nI n)), (4, .inl (optI (amax (safeF S b n) (none) 0).1)), (5, .inl (optM (amax (safeF S b n) (none) 0).2)), (6, .inl (nI 0))]) rfl ?_
  refine AW.loop (α := Unit) 10 15 (fun i _ => [(0, .inr (.inr (0, 0, 0))), (1, .inr (.inr (2, 0, 0))), (2, .inl (nI b)), (3, .inl (nI n)), (4, .inl (optI (amax (safeF S b n) (none) i).1)), (5, .inl (optM (amax (safeF S b n) (none) i).2)), (6, .inl (nI i))]) (fun i _ τ => Only 2 3 σ τ) ?_ ?_ 15 0 () _ (by omega) only_rfl
  · intro i _ τ hi hA hk
    have hlim := amax_le (f := safeF S b n) (m0 := none) (safeF_le) (none_le) i
    rcases hat : atS S i with _ | h
    · have hfi : safeF S b n i = some (leftS (withP S (fu (Sp S) b i)) n) := by simp [safeF, hat]
      have hle := leftS_le (withP S (fu (Sp S) b i)) n
      by_cases hab : above (amax (safeF S b n) (none) i).2 (leftS (withP S (fu (Sp S) b i)) n) = true
      · have hs : amax (safeF S b n) (none) (i + 1) = (some i, some (leftS (withP S (fu (Sp S) b i)) n)) := by simp only [amax, hfi]; rw [if_pos hab]
        refine AW.run 5 [false] (20, [(0, .inr (.inr (0, 0, 0))), (1, .inr (.inr (2, 0, 0))), (2, .inl (nI b)), (3, .inl (nI n)), (4, .inl (optI (amax (safeF S b n) (none) i).1)), (5, .inl (optM (amax (safeF S b n) (none) i).2)), (6, .inl (nI i))], [.inl (nI i), .inr (.inr (2, 0, 0))], τ) [¬ icP .ge (nI i) 15] rfl ?_ ?_
        · exact allP1 (nle_lit (a := 15) hi (by decide))
        refine AW.callVI (d' := 1) [.inl (nI i)] [] ⟨_, rfl⟩ f_3_wholeAt v_3_wholeAt l_1_66 ⟨rfl, by decide⟩ rfl (Nat.le_of_ble_eq_true rfl) rfl (Nat.le_of_ble_eq_true rfl) (c3_wholeAt 0 S τ (only_rep hA hR) hO i (by omega)) ?_
        rintro _ _ ⟨rfl, rfl⟩
        rw [hat]
        dsimp only [optI]
        refine AW.run 7 [true] (46, [(7, .inl (-9)), (0, .inr (.inr (0, 0, 0))), (1, .inr (.inr (2, 0, 0))), (2, .inl (nI b)), (3, .inl (nI n)), (4, .inl (optI (amax (safeF S b n) (none) i).1)), (5, .inl (optM (amax (safeF S b n) (none) i).2)), (6, .inl (nI i))], [.inr (.inr (2, 0, 0)), .inr (.inr (2, 3, 0))], τ) [icP .eq (-9 : Int32) (-9)] rfl ?_ ?_
        · exact allP1 (by decide : ((-9 : Int32) = (-9)))
        refine AW.callVV (d' := 1) [.inr (.inr (2, 0, 0))] [] ⟨_, rfl⟩ f_3_copyFrom v_3_copyFrom l_1_25 ⟨rfl, by decide⟩ rfl (Nat.le_of_ble_eq_true rfl) rfl (Nat.le_of_ble_eq_true rfl) (c3_copyFrom 3 0 (by decide) S τ (only_rep hA hR) hO) ?_
        rintro τ11 ⟨a11, b11⟩
        refine AW.run 4 [] (56, [(7, .inl (-9)), (0, .inr (.inr (0, 0, 0))), (1, .inr (.inr (2, 0, 0))), (2, .inl (nI b)), (3, .inl (nI n)), (4, .inl (optI (amax (safeF S b n) (none) i).1)), (5, .inl (optM (amax (safeF S b n) (none) i).2)), (6, .inl (nI i))], [.inl (nI i), .inl (nI b), .inr (.inr (2, 3, 0))], τ11) [] rfl ?_ ?_
        · exact trivial
        refine AW.callVV (d' := 1) [.inl (nI b), .inl (nI i)] [] ⟨_, rfl⟩ f_3_setPlace v_3_setPlace l_1_69 ⟨rfl, by decide⟩ rfl (Nat.le_of_ble_eq_true rfl) rfl (Nat.le_of_ble_eq_true rfl) (c3_setPlace 3 S τ11 b11 hO b i hb) ?_
        rintro τ12 ⟨a12, b12⟩
        refine AW.run 2 [] (61, [(7, .inl (-9)), (0, .inr (.inr (0, 0, 0))), (1, .inr (.inr (2, 0, 0))), (2, .inl (nI b)), (3, .inl (nI n)), (4, .inl (optI (amax (safeF S b n) (none) i).1)), (5, .inl (optM (amax (safeF S b n) (none) i).2)), (6, .inl (nI i))], [.inl (nI n), .inr (.inr (0, 0, 0))], τ12) [] rfl ?_ ?_
        · exact trivial
        refine AW.callVI (d' := 4) [.inl (nI n)] [] ⟨_, rfl⟩ f_1_leftBehind v_1_leftBehind l_1_73 ⟨rfl, by decide⟩ rfl (Nat.le_of_ble_eq_true rfl) rfl (Nat.le_of_ble_eq_true rfl) (c1_leftBehind (withP S (fu (Sp S) b i)) τ12 b12 (SOK_p hO hb (by omega)) n (by omega)) ?_
        rintro _ τ13 ⟨rfl, a13⟩
        refine AW.run 10 [false] (10, [(6, .inl ((nI i) + 1)), (4, .inl (nI i)), (5, .inl (nI (leftS (withP S (fu (Sp S) b i)) n))), (8, .inl (nI (leftS (withP S (fu (Sp S) b i)) n))), (7, .inl (-9)), (0, .inr (.inr (0, 0, 0))), (1, .inr (.inr (2, 0, 0))), (2, .inl (nI b)), (3, .inl (nI n))], [], τ13) [¬ icP .le (nI (leftS (withP S (fu (Sp S) b i)) n)) (optM (amax (safeF S b n) (none) i).2)] rfl ?_ ?_
        · exact allP1 (fun q9 => by rw [(above_cmp (hle) hlim).mp q9] at hab; cases hab)
        have hx := hk () τ13 (only_trans (only_trans (only_trans hA a11) a12) a13)
        rw [hs, ← nI_1 i] at hx
        refine AW.pick [5, 6, 7, 8, 1, 2, 0] (ls' := _) rfl ?_
        exact hx
      · have hs : amax (safeF S b n) (none) (i + 1) = amax (safeF S b n) (none) i := by simp only [amax, hfi]; rw [if_neg hab]
        refine AW.run 5 [false] (20, [(0, .inr (.inr (0, 0, 0))), (1, .inr (.inr (2, 0, 0))), (2, .inl (nI b)), (3, .inl (nI n)), (4, .inl (optI (amax (safeF S b n) (none) i).1)), (5, .inl (optM (amax (safeF S b n) (none) i).2)), (6, .inl (nI i))], [.inl (nI i), .inr (.inr (2, 0, 0))], τ) [¬ icP .ge (nI i) 15] rfl ?_ ?_
        · exact allP1 (nle_lit (a := 15) hi (by decide))
        refine AW.callVI (d' := 1) [.inl (nI i)] [] ⟨_, rfl⟩ f_3_wholeAt v_3_wholeAt l_1_66 ⟨rfl, by decide⟩ rfl (Nat.le_of_ble_eq_true rfl) rfl (Nat.le_of_ble_eq_true rfl) (c3_wholeAt 0 S τ (only_rep hA hR) hO i (by omega)) ?_
        rintro _ _ ⟨rfl, rfl⟩
        rw [hat]
        dsimp only [optI]
        refine AW.run 7 [true] (46, [(7, .inl (-9)), (0, .inr (.inr (0, 0, 0))), (1, .inr (.inr (2, 0, 0))), (2, .inl (nI b)), (3, .inl (nI n)), (4, .inl (optI (amax (safeF S b n) (none) i).1)), (5, .inl (optM (amax (safeF S b n) (none) i).2)), (6, .inl (nI i))], [.inr (.inr (2, 0, 0)), .inr (.inr (2, 3, 0))], τ) [icP .eq (-9 : Int32) (-9)] rfl ?_ ?_
        · exact allP1 (by decide : ((-9 : Int32) = (-9)))
        refine AW.callVV (d' := 1) [.inr (.inr (2, 0, 0))] [] ⟨_, rfl⟩ f_3_copyFrom v_3_copyFrom l_1_25 ⟨rfl, by decide⟩ rfl (Nat.le_of_ble_eq_true rfl) rfl (Nat.le_of_ble_eq_true rfl) (c3_copyFrom 3 0 (by decide) S τ (only_rep hA hR) hO) ?_
        rintro τ14 ⟨a14, b14⟩
        refine AW.run 4 [] (56, [(7, .inl (-9)), (0, .inr (.inr (0, 0, 0))), (1, .inr (.inr (2, 0, 0))), (2, .inl (nI b)), (3, .inl (nI n)), (4, .inl (optI (amax (safeF S b n) (none) i).1)), (5, .inl (optM (amax (safeF S b n) (none) i).2)), (6, .inl (nI i))], [.inl (nI i), .inl (nI b), .inr (.inr (2, 3, 0))], τ14) [] rfl ?_ ?_
        · exact trivial
        refine AW.callVV (d' := 1) [.inl (nI b), .inl (nI i)] [] ⟨_, rfl⟩ f_3_setPlace v_3_setPlace l_1_69 ⟨rfl, by decide⟩ rfl (Nat.le_of_ble_eq_true rfl) rfl (Nat.le_of_ble_eq_true rfl) (c3_setPlace 3 S τ14 b14 hO b i hb) ?_
        rintro τ15 ⟨a15, b15⟩
        refine AW.run 2 [] (61, [(7, .inl (-9)), (0, .inr (.inr (0, 0, 0))), (1, .inr (.inr (2, 0, 0))), (2, .inl (nI b)), (3, .inl (nI n)), (4, .inl (optI (amax (safeF S b n) (none) i).1)), (5, .inl (optM (amax (safeF S b n) (none) i).2)), (6, .inl (nI i))], [.inl (nI n), .inr (.inr (0, 0, 0))], τ15) [] rfl ?_ ?_
        · exact trivial
        refine AW.callVI (d' := 4) [.inl (nI n)] [] ⟨_, rfl⟩ f_1_leftBehind v_1_leftBehind l_1_73 ⟨rfl, by decide⟩ rfl (Nat.le_of_ble_eq_true rfl) rfl (Nat.le_of_ble_eq_true rfl) (c1_leftBehind (withP S (fu (Sp S) b i)) τ15 b15 (SOK_p hO hb (by omega)) n (by omega)) ?_
        rintro _ τ16 ⟨rfl, a16⟩
        refine AW.run 6 [true] (10, [(6, .inl ((nI i) + 1)), (8, .inl (nI (leftS (withP S (fu (Sp S) b i)) n))), (7, .inl (-9)), (0, .inr (.inr (0, 0, 0))), (1, .inr (.inr (2, 0, 0))), (2, .inl (nI b)), (3, .inl (nI n)), (4, .inl (optI (amax (safeF S b n) (none) i).1)), (5, .inl (optM (amax (safeF S b n) (none) i).2))], [], τ16) [icP .le (nI (leftS (withP S (fu (Sp S) b i)) n)) (optM (amax (safeF S b n) (none) i).2)] rfl ?_ ?_
        · exact allP1 ((above_cmp (hle) hlim).mpr (by cases hb9 : above (amax (safeF S b n) (none) i).2 (leftS (withP S (fu (Sp S) b i)) n); rfl; exact absurd hb9 hab))
        have hx := hk () τ16 (only_trans (only_trans (only_trans hA a14) a15) a16)
        rw [hs, ← nI_1 i] at hx
        refine AW.pick [3, 4, 5, 6, 7, 8, 0] (ls' := _) rfl ?_
        exact hx
    · have hh8 := (atS_lt hat).1
      have hn8 := hO.1
      by_cases hhb : h = b
      · have hfi : safeF S b n i = some (leftS (withP S (fu (Sp S) b i)) n) := by simp [safeF, hat, hhb]
        have hle := leftS_le (withP S (fu (Sp S) b i)) n
        by_cases hab : above (amax (safeF S b n) (none) i).2 (leftS (withP S (fu (Sp S) b i)) n) = true
        · have hs : amax (safeF S b n) (none) (i + 1) = (some i, some (leftS (withP S (fu (Sp S) b i)) n)) := by simp only [amax, hfi]; rw [if_pos hab]
          refine AW.run 5 [false] (20, [(0, .inr (.inr (0, 0, 0))), (1, .inr (.inr (2, 0, 0))), (2, .inl (nI b)), (3, .inl (nI n)), (4, .inl (optI (amax (safeF S b n) (none) i).1)), (5, .inl (optM (amax (safeF S b n) (none) i).2)), (6, .inl (nI i))], [.inl (nI i), .inr (.inr (2, 0, 0))], τ) [¬ icP .ge (nI i) 15] rfl ?_ ?_
          · exact allP1 (nle_lit (a := 15) hi (by decide))
          refine AW.callVI (d' := 1) [.inl (nI i)] [] ⟨_, rfl⟩ f_3_wholeAt v_3_wholeAt l_1_66 ⟨rfl, by decide⟩ rfl (Nat.le_of_ble_eq_true rfl) rfl (Nat.le_of_ble_eq_true rfl) (c3_wholeAt 0 S τ (only_rep hA hR) hO i (by omega)) ?_
          rintro _ _ ⟨rfl, rfl⟩
          rw [hat]
          dsimp only [optI]
          refine AW.run 10 [false, true] (46, [(7, .inl (nI h)), (0, .inr (.inr (0, 0, 0))), (1, .inr (.inr (2, 0, 0))), (2, .inl (nI b)), (3, .inl (nI n)), (4, .inl (optI (amax (safeF S b n) (none) i).1)), (5, .inl (optM (amax (safeF S b n) (none) i).2)), (6, .inl (nI i))], [.inr (.inr (2, 0, 0)), .inr (.inr (2, 3, 0))], τ) [¬ icP .eq (nI h) (-9), icP .eq (nI h) (nI b)] rfl ?_ ?_
          · exact ⟨(nI_m9 (by omega)), allP1 (by rw [hhb]; exact (rfl : nI b = nI b))⟩
          refine AW.callVV (d' := 1) [.inr (.inr (2, 0, 0))] [] ⟨_, rfl⟩ f_3_copyFrom v_3_copyFrom l_1_25 ⟨rfl, by decide⟩ rfl (Nat.le_of_ble_eq_true rfl) rfl (Nat.le_of_ble_eq_true rfl) (c3_copyFrom 3 0 (by decide) S τ (only_rep hA hR) hO) ?_
          rintro τ17 ⟨a17, b17⟩
          refine AW.run 4 [] (56, [(7, .inl (nI h)), (0, .inr (.inr (0, 0, 0))), (1, .inr (.inr (2, 0, 0))), (2, .inl (nI b)), (3, .inl (nI n)), (4, .inl (optI (amax (safeF S b n) (none) i).1)), (5, .inl (optM (amax (safeF S b n) (none) i).2)), (6, .inl (nI i))], [.inl (nI i), .inl (nI b), .inr (.inr (2, 3, 0))], τ17) [] rfl ?_ ?_
          · exact trivial
          refine AW.callVV (d' := 1) [.inl (nI b), .inl (nI i)] [] ⟨_, rfl⟩ f_3_setPlace v_3_setPlace l_1_69 ⟨rfl, by decide⟩ rfl (Nat.le_of_ble_eq_true rfl) rfl (Nat.le_of_ble_eq_true rfl) (c3_setPlace 3 S τ17 b17 hO b i hb) ?_
          rintro τ18 ⟨a18, b18⟩
          refine AW.run 2 [] (61, [(7, .inl (nI h)), (0, .inr (.inr (0, 0, 0))), (1, .inr (.inr (2, 0, 0))), (2, .inl (nI b)), (3, .inl (nI n)), (4, .inl (optI (amax (safeF S b n) (none) i).1)), (5, .inl (optM (amax (safeF S b n) (none) i).2)), (6, .inl (nI i))], [.inl (nI n), .inr (.inr (0, 0, 0))], τ18) [] rfl ?_ ?_
          · exact trivial
          refine AW.callVI (d' := 4) [.inl (nI n)] [] ⟨_, rfl⟩ f_1_leftBehind v_1_leftBehind l_1_73 ⟨rfl, by decide⟩ rfl (Nat.le_of_ble_eq_true rfl) rfl (Nat.le_of_ble_eq_true rfl) (c1_leftBehind (withP S (fu (Sp S) b i)) τ18 b18 (SOK_p hO hb (by omega)) n (by omega)) ?_
          rintro _ τ19 ⟨rfl, a19⟩
          refine AW.run 10 [false] (10, [(6, .inl ((nI i) + 1)), (4, .inl (nI i)), (5, .inl (nI (leftS (withP S (fu (Sp S) b i)) n))), (8, .inl (nI (leftS (withP S (fu (Sp S) b i)) n))), (7, .inl (nI h)), (0, .inr (.inr (0, 0, 0))), (1, .inr (.inr (2, 0, 0))), (2, .inl (nI b)), (3, .inl (nI n))], [], τ19) [¬ icP .le (nI (leftS (withP S (fu (Sp S) b i)) n)) (optM (amax (safeF S b n) (none) i).2)] rfl ?_ ?_
          · exact allP1 (fun q9 => by rw [(above_cmp (hle) hlim).mp q9] at hab; cases hab)
          have hx := hk () τ19 (only_trans (only_trans (only_trans hA a17) a18) a19)
          rw [hs, ← nI_1 i] at hx
          refine AW.pick [5, 6, 7, 8, 1, 2, 0] (ls' := _) rfl ?_
          exact hx
        · have hs : amax (safeF S b n) (none) (i + 1) = amax (safeF S b n) (none) i := by simp only [amax, hfi]; rw [if_neg hab]
          refine AW.run 5 [false] (20, [(0, .inr (.inr (0, 0, 0))), (1, .inr (.inr (2, 0, 0))), (2, .inl (nI b)), (3, .inl (nI n)), (4, .inl (optI (amax (safeF S b n) (none) i).1)), (5, .inl (optM (amax (safeF S b n) (none) i).2)), (6, .inl (nI i))], [.inl (nI i), .inr (.inr (2, 0, 0))], τ) [¬ icP .ge (nI i) 15] rfl ?_ ?_
          · exact allP1 (nle_lit (a := 15) hi (by decide))
          refine AW.callVI (d' := 1) [.inl (nI i)] [] ⟨_, rfl⟩ f_3_wholeAt v_3_wholeAt l_1_66 ⟨rfl, by decide⟩ rfl (Nat.le_of_ble_eq_true rfl) rfl (Nat.le_of_ble_eq_true rfl) (c3_wholeAt 0 S τ (only_rep hA hR) hO i (by omega)) ?_
          rintro _ _ ⟨rfl, rfl⟩
          rw [hat]
          dsimp only [optI]
          refine AW.run 10 [false, true] (46, [(7, .inl (nI h)), (0, .inr (.inr (0, 0, 0))), (1, .inr (.inr (2, 0, 0))), (2, .inl (nI b)), (3, .inl (nI n)), (4, .inl (optI (amax (safeF S b n) (none) i).1)), (5, .inl (optM (amax (safeF S b n) (none) i).2)), (6, .inl (nI i))], [.inr (.inr (2, 0, 0)), .inr (.inr (2, 3, 0))], τ) [¬ icP .eq (nI h) (-9), icP .eq (nI h) (nI b)] rfl ?_ ?_
          · exact ⟨(nI_m9 (by omega)), allP1 (by rw [hhb]; exact (rfl : nI b = nI b))⟩
          refine AW.callVV (d' := 1) [.inr (.inr (2, 0, 0))] [] ⟨_, rfl⟩ f_3_copyFrom v_3_copyFrom l_1_25 ⟨rfl, by decide⟩ rfl (Nat.le_of_ble_eq_true rfl) rfl (Nat.le_of_ble_eq_true rfl) (c3_copyFrom 3 0 (by decide) S τ (only_rep hA hR) hO) ?_
          rintro τ20 ⟨a20, b20⟩
          refine AW.run 4 [] (56, [(7, .inl (nI h)), (0, .inr (.inr (0, 0, 0))), (1, .inr (.inr (2, 0, 0))), (2, .inl (nI b)), (3, .inl (nI n)), (4, .inl (optI (amax (safeF S b n) (none) i).1)), (5, .inl (optM (amax (safeF S b n) (none) i).2)), (6, .inl (nI i))], [.inl (nI i), .inl (nI b), .inr (.inr (2, 3, 0))], τ20) [] rfl ?_ ?_
          · exact trivial
          refine AW.callVV (d' := 1) [.inl (nI b), .inl (nI i)] [] ⟨_, rfl⟩ f_3_setPlace v_3_setPlace l_1_69 ⟨rfl, by decide⟩ rfl (Nat.le_of_ble_eq_true rfl) rfl (Nat.le_of_ble_eq_true rfl) (c3_setPlace 3 S τ20 b20 hO b i hb) ?_
          rintro τ21 ⟨a21, b21⟩
          refine AW.run 2 [] (61, [(7, .inl (nI h)), (0, .inr (.inr (0, 0, 0))), (1, .inr (.inr (2, 0, 0))), (2, .inl (nI b)), (3, .inl (nI n)), (4, .inl (optI (amax (safeF S b n) (none) i).1)), (5, .inl (optM (amax (safeF S b n) (none) i).2)), (6, .inl (nI i))], [.inl (nI n), .inr (.inr (0, 0, 0))], τ21) [] rfl ?_ ?_
          · exact trivial
          refine AW.callVI (d' := 4) [.inl (nI n)] [] ⟨_, rfl⟩ f_1_leftBehind v_1_leftBehind l_1_73 ⟨rfl, by decide⟩ rfl (Nat.le_of_ble_eq_true rfl) rfl (Nat.le_of_ble_eq_true rfl) (c1_leftBehind (withP S (fu (Sp S) b i)) τ21 b21 (SOK_p hO hb (by omega)) n (by omega)) ?_
          rintro _ τ22 ⟨rfl, a22⟩
          refine AW.run 6 [true] (10, [(6, .inl ((nI i) + 1)), (8, .inl (nI (leftS (withP S (fu (Sp S) b i)) n))), (7, .inl (nI h)), (0, .inr (.inr (0, 0, 0))), (1, .inr (.inr (2, 0, 0))), (2, .inl (nI b)), (3, .inl (nI n)), (4, .inl (optI (amax (safeF S b n) (none) i).1)), (5, .inl (optM (amax (safeF S b n) (none) i).2))], [], τ22) [icP .le (nI (leftS (withP S (fu (Sp S) b i)) n)) (optM (amax (safeF S b n) (none) i).2)] rfl ?_ ?_
          · exact allP1 ((above_cmp (hle) hlim).mpr (by cases hb9 : above (amax (safeF S b n) (none) i).2 (leftS (withP S (fu (Sp S) b i)) n); rfl; exact absurd hb9 hab))
          have hx := hk () τ22 (only_trans (only_trans (only_trans hA a20) a21) a22)
          rw [hs, ← nI_1 i] at hx
          refine AW.pick [3, 4, 5, 6, 7, 8, 0] (ls' := _) rfl ?_
          exact hx
      · have hfi : safeF S b n i = none := by simp [safeF, hat, hhb]
        have hs : amax (safeF S b n) (none) (i + 1) = amax (safeF S b n) (none) i := by simp only [amax, hfi]
        refine AW.run 5 [false] (20, [(0, .inr (.inr (0, 0, 0))), (1, .inr (.inr (2, 0, 0))), (2, .inl (nI b)), (3, .inl (nI n)), (4, .inl (optI (amax (safeF S b n) (none) i).1)), (5, .inl (optM (amax (safeF S b n) (none) i).2)), (6, .inl (nI i))], [.inl (nI i), .inr (.inr (2, 0, 0))], τ) [¬ icP .ge (nI i) 15] rfl ?_ ?_
        · exact allP1 (nle_lit (a := 15) hi (by decide))
        refine AW.callVI (d' := 1) [.inl (nI i)] [] ⟨_, rfl⟩ f_3_wholeAt v_3_wholeAt l_1_66 ⟨rfl, by decide⟩ rfl (Nat.le_of_ble_eq_true rfl) rfl (Nat.le_of_ble_eq_true rfl) (c3_wholeAt 0 S τ (only_rep hA hR) hO i (by omega)) ?_
        rintro _ _ ⟨rfl, rfl⟩
        rw [hat]
        dsimp only [optI]
        refine AW.run 10 [false, false] (10, [(6, .inl ((nI i) + 1)), (7, .inl (nI h)), (0, .inr (.inr (0, 0, 0))), (1, .inr (.inr (2, 0, 0))), (2, .inl (nI b)), (3, .inl (nI n)), (4, .inl (optI (amax (safeF S b n) (none) i).1)), (5, .inl (optM (amax (safeF S b n) (none) i).2))], [], τ) [¬ icP .eq (nI h) (-9), ¬ icP .eq (nI h) (nI b)] rfl ?_ ?_
        · exact ⟨(nI_m9 (by omega)), allP1 (fun q => hhb (nI_lit q (by omega) (by omega)))⟩
        have hx := hk () τ hA
        rw [hs, ← nI_1 i] at hx
        refine AW.pick [2, 3, 4, 5, 6, 7, 0] (ls' := _) rfl ?_
        exact hx
  · intro _ τ hI
    refine AW.run 4 [true] (89, [(0, .inr (.inr (0, 0, 0))), (1, .inr (.inr (2, 0, 0))), (2, .inl (nI b)), (3, .inl (nI n)), (4, .inl (optI (amax (safeF S b n) (none) 15).1)), (5, .inl (optM (amax (safeF S b n) (none) 15).2)), (6, .inl (nI 15))], [.inl (optI (amax (safeF S b n) (none) 15).1)], τ) [icP .ge (nI 15) 15] rfl ?_ ?_
    · exact allP1 (le_lit (a := 15) (b := 15) (by decide) (by decide))
    refine AW.reti ⟨_, rfl⟩ rfl ?_
    exact ⟨rfl, hI⟩
theorem coverF_le {S : Sv} {n : Nat} : ∀ i v, coverF S n i = some v → v ≤ 8 := by
  intro i v h
  unfold coverF at h
  split at h
  · cases h; exact leftS_le _ _
  · cases h
set_option maxHeartbeats 4000000 in
set_option maxRecDepth 100000 in
theorem c1_oneToCover (S : Sv) (σ : St) (hR : RepS (σ 2 0) S) (hO : SOK S) (n : Nat) (hn : n < 2 ^ 31) : Ct M1_oneToCover 5 [.inr (.inr (0, 0, 0)), .inr (.inr (2, 0, 0)), .inl (nI n)] σ (PI fun r9 σ' => optI (coverS S n) = r9 ∧ Only 2 3 σ σ') := by
  refine Ct.of f_1_oneToCover (Nat.le_of_ble_eq_true rfl) ?_
  show AW M1_oneToCover 5 _ (0, [(0, .inr (.inr (0, 0, 0))), (1, .inr (.inr (2, 0, 0))), (2, .inl (nI n))], [], σ)
  refine AW.run 5 [] (6, [(3, .inl (-9)), (0, .inr (.inr (0, 0, 0))), (1, .inr (.inr (2, 0, 0))), (2, .inl (nI n))], [.inl (nI n), .inr (.inr (2, 0, 0)), .inr (.inr (0, 0, 0))], σ) [] rfl ?_ ?_
  · exact trivial
  refine AW.callVR (d' := 4) [.inr (.inr (2, 0, 0)), .inl (nI n)] [] ⟨_, rfl⟩ f_1_ahead v_1_ahead l_1_76 ⟨rfl, by decide⟩ rfl (Nat.le_of_ble_eq_true rfl) rfl (Nat.le_of_ble_eq_true rfl) (c1_ahead S σ hR hO n (by omega)) ?_
  rintro _ τ23 ⟨rfl, a23, b23⟩
  refine AW.run 1 [] (12, [(3, .inl (-9)), (0, .inr (.inr (0, 0, 0))), (1, .inr (.inr (2, 0, 0))), (2, .inl (nI n))], [.inl (τ23 2 3 0 8)], τ23) [] rfl ?_ ?_
  · exact trivial
  rw [b23.1.2.1]
  refine AW.callSI (d' := 0) [.inl (bI (Sw (passS n S)))] [] ⟨_, rfl⟩ f_J_bitCount s_J_bitCount l_1_37 rfl (Nat.le_of_ble_eq_true rfl) rfl (Nat.le_of_ble_eq_true rfl) (cJ_bitCount (bI (Sw (passS n S))) τ23) ?_
  rintro _ _ ⟨rfl, rfl⟩
  rw [bcV_bI]
  refine AW.run 3 [] (20, [(5, .inl 0), (4, .inl (nI (leftS S n))), (3, .inl (-9)), (0, .inr (.inr (0, 0, 0))), (1, .inr (.inr (2, 0, 0))), (2, .inl (nI n))], [], τ23) [] rfl ?_ ?_
  · exact trivial
  refine AW.pick [3, 4, 5, 2, 1, 0] (ls' := [(0, .inr (.inr (0, 0, 0))), (1, .inr (.inr (2, 0, 0))), (2, .inl (nI n)), (3, .inl (optI (amax (coverF S n) (some (leftS S n)) 0).1)), (4, .inl (optM (amax (coverF S n) (some (leftS S n)) 0).2)), (5, .inl (nI 0))]) rfl ?_
  refine AW.loop (α := Unit) 20 8 (fun i _ => [(0, .inr (.inr (0, 0, 0))), (1, .inr (.inr (2, 0, 0))), (2, .inl (nI n)), (3, .inl (optI (amax (coverF S n) (some (leftS S n)) i).1)), (4, .inl (optM (amax (coverF S n) (some (leftS S n)) i).2)), (5, .inl (nI i))]) (fun i _ τ => Only 2 3 σ τ) ?_ ?_ 8 0 () _ (by omega) (only_trans only_rfl a23)
  · intro i _ τ hi hA hk
    have hlim := amax_le (f := coverF S n) (m0 := some (leftS S n)) (coverF_le) (fun m h => by cases h; exact leftS_le S n) i
    by_cases hw : Sw S i = true
    · cases hc : Stw S i with
      | false =>
        have hfi : coverF S n i = some (leftS (withT S (fu (Stw S) i true)) n) := by simp [coverF, hw, hc]
        have hle := leftS_le (withT S (fu (Stw S) i true)) n
        by_cases hab : above (amax (coverF S n) (some (leftS S n)) i).2 (leftS (withT S (fu (Stw S) i true)) n) = true
        · have hs : amax (coverF S n) (some (leftS S n)) (i + 1) = (some i, some (leftS (withT S (fu (Stw S) i true)) n)) := by simp only [amax, hfi]; rw [if_pos hab]
          refine AW.run 5 [false] (30, [(0, .inr (.inr (0, 0, 0))), (1, .inr (.inr (2, 0, 0))), (2, .inl (nI n)), (3, .inl (optI (amax (coverF S n) (some (leftS S n)) i).1)), (4, .inl (optM (amax (coverF S n) (some (leftS S n)) i).2)), (5, .inl (nI i))], [.inl (nI i), .inr (.inr (2, 0, 0))], τ) [¬ icP .ge (nI i) 8] rfl ?_ ?_
          · exact allP1 (nle_lit (a := 8) hi (by decide))
          refine AW.callVI (d' := 0) [.inl (nI i)] [] ⟨_, rfl⟩ f_3_isWhole v_3_isWhole l_1_43 ⟨rfl, by decide⟩ rfl (Nat.le_of_ble_eq_true rfl) rfl (Nat.le_of_ble_eq_true rfl) (c3_isWhole 0 S τ (only_rep hA hR) hO i (by omega)) ?_
          rintro v _ ⟨rfl, hv⟩
          obtain rfl : v = 1 := by
            rcases hv with h | h
            · exact h.1
            · exact absurd (h.2.symm.trans hw) (by decide)
          refine AW.run 3 [false] (39, [(0, .inr (.inr (0, 0, 0))), (1, .inr (.inr (2, 0, 0))), (2, .inl (nI n)), (3, .inl (optI (amax (coverF S n) (some (leftS S n)) i).1)), (4, .inl (optM (amax (coverF S n) (some (leftS S n)) i).2)), (5, .inl (nI i))], [.inl (nI i), .inr (.inr (2, 0, 0))], τ) [¬ icP .eq (1 : Int32) 0] rfl ?_ ?_
          · exact allP1 (by decide : ¬ ((1 : Int32) = 0))
          refine AW.callVI (d' := 0) [.inl (nI i)] [] ⟨_, rfl⟩ f_3_isCovered v_3_isCovered l_1_80 ⟨rfl, by decide⟩ rfl (Nat.le_of_ble_eq_true rfl) rfl (Nat.le_of_ble_eq_true rfl) (c3_isCovered 0 S τ (only_rep hA hR) hO i (by omega)) ?_
          rintro v _ ⟨rfl, hv⟩
          obtain rfl : v = 0 := by
            rcases hv with h | h
            · exact absurd (h.2.symm.trans hc) (by decide)
            · exact h.1
          refine AW.run 4 [true] (53, [(0, .inr (.inr (0, 0, 0))), (1, .inr (.inr (2, 0, 0))), (2, .inl (nI n)), (3, .inl (optI (amax (coverF S n) (some (leftS S n)) i).1)), (4, .inl (optM (amax (coverF S n) (some (leftS S n)) i).2)), (5, .inl (nI i))], [.inr (.inr (2, 0, 0)), .inr (.inr (2, 3, 0))], τ) [icP .eq (0 : Int32) 0] rfl ?_ ?_
          · exact allP1 (by decide : ((0 : Int32) = 0))
          refine AW.callVV (d' := 1) [.inr (.inr (2, 0, 0))] [] ⟨_, rfl⟩ f_3_copyFrom v_3_copyFrom l_1_25 ⟨rfl, by decide⟩ rfl (Nat.le_of_ble_eq_true rfl) rfl (Nat.le_of_ble_eq_true rfl) (c3_copyFrom 3 0 (by decide) S τ (only_rep hA hR) hO) ?_
          rintro τ24 ⟨a24, b24⟩
          refine AW.run 3 [] (62, [(0, .inr (.inr (0, 0, 0))), (1, .inr (.inr (2, 0, 0))), (2, .inl (nI n)), (3, .inl (optI (amax (coverF S n) (some (leftS S n)) i).1)), (4, .inl (optM (amax (coverF S n) (some (leftS S n)) i).2)), (5, .inl (nI i))], [.inl (nI i), .inr (.inr (2, 3, 0))], τ24) [] rfl ?_ ?_
          · exact trivial
          refine AW.callVV (d' := 1) [.inl (nI i)] [] ⟨_, rfl⟩ f_3_turnTowel v_3_turnTowel l_1_83 ⟨rfl, by decide⟩ rfl (Nat.le_of_ble_eq_true rfl) rfl (Nat.le_of_ble_eq_true rfl) (c3_turnTowel 3 S τ24 b24 hO i (SOK_lt hO hw)) ?_
          rintro τ25 ⟨a25, b25⟩
          replace b25 : RepS (τ25 2 3) (withT S (fu (Stw S) i true)) := by rw [hc] at b25; exact b25 -- b25
          refine AW.run 2 [] (67, [(0, .inr (.inr (0, 0, 0))), (1, .inr (.inr (2, 0, 0))), (2, .inl (nI n)), (3, .inl (optI (amax (coverF S n) (some (leftS S n)) i).1)), (4, .inl (optM (amax (coverF S n) (some (leftS S n)) i).2)), (5, .inl (nI i))], [.inl (nI n), .inr (.inr (0, 0, 0))], τ25) [] rfl ?_ ?_
          · exact trivial
          refine AW.callVI (d' := 4) [.inl (nI n)] [] ⟨_, rfl⟩ f_1_leftBehind v_1_leftBehind l_1_73 ⟨rfl, by decide⟩ rfl (Nat.le_of_ble_eq_true rfl) rfl (Nat.le_of_ble_eq_true rfl) (c1_leftBehind (withT S (fu (Stw S) i true)) τ25 b25 (SOK_t hO (SOK_lt hO hw)) n (by omega)) ?_
          rintro _ τ26 ⟨rfl, a26⟩
          refine AW.run 10 [false] (20, [(5, .inl ((nI i) + 1)), (3, .inl (nI i)), (4, .inl (nI (leftS (withT S (fu (Stw S) i true)) n))), (6, .inl (nI (leftS (withT S (fu (Stw S) i true)) n))), (0, .inr (.inr (0, 0, 0))), (1, .inr (.inr (2, 0, 0))), (2, .inl (nI n))], [], τ26) [¬ icP .le (nI (leftS (withT S (fu (Stw S) i true)) n)) (optM (amax (coverF S n) (some (leftS S n)) i).2)] rfl ?_ ?_
          · exact allP1 (fun q9 => by rw [(above_cmp (hle) hlim).mp q9] at hab; cases hab)
          have hx := hk () τ26 (only_trans (only_trans (only_trans hA a24) a25) a26)
          rw [hs, ← nI_1 i] at hx
          refine AW.pick [4, 5, 6, 1, 2, 0] (ls' := _) rfl ?_
          exact hx
        · have hs : amax (coverF S n) (some (leftS S n)) (i + 1) = amax (coverF S n) (some (leftS S n)) i := by simp only [amax, hfi]; rw [if_neg hab]
          refine AW.run 5 [false] (30, [(0, .inr (.inr (0, 0, 0))), (1, .inr (.inr (2, 0, 0))), (2, .inl (nI n)), (3, .inl (optI (amax (coverF S n) (some (leftS S n)) i).1)), (4, .inl (optM (amax (coverF S n) (some (leftS S n)) i).2)), (5, .inl (nI i))], [.inl (nI i), .inr (.inr (2, 0, 0))], τ) [¬ icP .ge (nI i) 8] rfl ?_ ?_
          · exact allP1 (nle_lit (a := 8) hi (by decide))
          refine AW.callVI (d' := 0) [.inl (nI i)] [] ⟨_, rfl⟩ f_3_isWhole v_3_isWhole l_1_43 ⟨rfl, by decide⟩ rfl (Nat.le_of_ble_eq_true rfl) rfl (Nat.le_of_ble_eq_true rfl) (c3_isWhole 0 S τ (only_rep hA hR) hO i (by omega)) ?_
          rintro v _ ⟨rfl, hv⟩
          obtain rfl : v = 1 := by
            rcases hv with h | h
            · exact h.1
            · exact absurd (h.2.symm.trans hw) (by decide)
          refine AW.run 3 [false] (39, [(0, .inr (.inr (0, 0, 0))), (1, .inr (.inr (2, 0, 0))), (2, .inl (nI n)), (3, .inl (optI (amax (coverF S n) (some (leftS S n)) i).1)), (4, .inl (optM (amax (coverF S n) (some (leftS S n)) i).2)), (5, .inl (nI i))], [.inl (nI i), .inr (.inr (2, 0, 0))], τ) [¬ icP .eq (1 : Int32) 0] rfl ?_ ?_
          · exact allP1 (by decide : ¬ ((1 : Int32) = 0))
          refine AW.callVI (d' := 0) [.inl (nI i)] [] ⟨_, rfl⟩ f_3_isCovered v_3_isCovered l_1_80 ⟨rfl, by decide⟩ rfl (Nat.le_of_ble_eq_true rfl) rfl (Nat.le_of_ble_eq_true rfl) (c3_isCovered 0 S τ (only_rep hA hR) hO i (by omega)) ?_
          rintro v _ ⟨rfl, hv⟩
          obtain rfl : v = 0 := by
            rcases hv with h | h
            · exact absurd (h.2.symm.trans hc) (by decide)
            · exact h.1
          refine AW.run 4 [true] (53, [(0, .inr (.inr (0, 0, 0))), (1, .inr (.inr (2, 0, 0))), (2, .inl (nI n)), (3, .inl (optI (amax (coverF S n) (some (leftS S n)) i).1)), (4, .inl (optM (amax (coverF S n) (some (leftS S n)) i).2)), (5, .inl (nI i))], [.inr (.inr (2, 0, 0)), .inr (.inr (2, 3, 0))], τ) [icP .eq (0 : Int32) 0] rfl ?_ ?_
          · exact allP1 (by decide : ((0 : Int32) = 0))
          refine AW.callVV (d' := 1) [.inr (.inr (2, 0, 0))] [] ⟨_, rfl⟩ f_3_copyFrom v_3_copyFrom l_1_25 ⟨rfl, by decide⟩ rfl (Nat.le_of_ble_eq_true rfl) rfl (Nat.le_of_ble_eq_true rfl) (c3_copyFrom 3 0 (by decide) S τ (only_rep hA hR) hO) ?_
          rintro τ27 ⟨a27, b27⟩
          refine AW.run 3 [] (62, [(0, .inr (.inr (0, 0, 0))), (1, .inr (.inr (2, 0, 0))), (2, .inl (nI n)), (3, .inl (optI (amax (coverF S n) (some (leftS S n)) i).1)), (4, .inl (optM (amax (coverF S n) (some (leftS S n)) i).2)), (5, .inl (nI i))], [.inl (nI i), .inr (.inr (2, 3, 0))], τ27) [] rfl ?_ ?_
          · exact trivial
          refine AW.callVV (d' := 1) [.inl (nI i)] [] ⟨_, rfl⟩ f_3_turnTowel v_3_turnTowel l_1_83 ⟨rfl, by decide⟩ rfl (Nat.le_of_ble_eq_true rfl) rfl (Nat.le_of_ble_eq_true rfl) (c3_turnTowel 3 S τ27 b27 hO i (SOK_lt hO hw)) ?_
          rintro τ28 ⟨a28, b28⟩
          replace b28 : RepS (τ28 2 3) (withT S (fu (Stw S) i true)) := by rw [hc] at b28; exact b28 -- b28
          refine AW.run 2 [] (67, [(0, .inr (.inr (0, 0, 0))), (1, .inr (.inr (2, 0, 0))), (2, .inl (nI n)), (3, .inl (optI (amax (coverF S n) (some (leftS S n)) i).1)), (4, .inl (optM (amax (coverF S n) (some (leftS S n)) i).2)), (5, .inl (nI i))], [.inl (nI n), .inr (.inr (0, 0, 0))], τ28) [] rfl ?_ ?_
          · exact trivial
          refine AW.callVI (d' := 4) [.inl (nI n)] [] ⟨_, rfl⟩ f_1_leftBehind v_1_leftBehind l_1_73 ⟨rfl, by decide⟩ rfl (Nat.le_of_ble_eq_true rfl) rfl (Nat.le_of_ble_eq_true rfl) (c1_leftBehind (withT S (fu (Stw S) i true)) τ28 b28 (SOK_t hO (SOK_lt hO hw)) n (by omega)) ?_
          rintro _ τ29 ⟨rfl, a29⟩
          refine AW.run 6 [true] (20, [(5, .inl ((nI i) + 1)), (6, .inl (nI (leftS (withT S (fu (Stw S) i true)) n))), (0, .inr (.inr (0, 0, 0))), (1, .inr (.inr (2, 0, 0))), (2, .inl (nI n)), (3, .inl (optI (amax (coverF S n) (some (leftS S n)) i).1)), (4, .inl (optM (amax (coverF S n) (some (leftS S n)) i).2))], [], τ29) [icP .le (nI (leftS (withT S (fu (Stw S) i true)) n)) (optM (amax (coverF S n) (some (leftS S n)) i).2)] rfl ?_ ?_
          · exact allP1 ((above_cmp (hle) hlim).mpr (by cases hb9 : above (amax (coverF S n) (some (leftS S n)) i).2 (leftS (withT S (fu (Stw S) i true)) n); rfl; exact absurd hb9 hab))
          have hx := hk () τ29 (only_trans (only_trans (only_trans hA a27) a28) a29)
          rw [hs, ← nI_1 i] at hx
          refine AW.pick [2, 3, 4, 5, 6, 0] (ls' := _) rfl ?_
          exact hx
      | true =>
        have hfi : coverF S n i = none := by simp [coverF, hc]
        have hs : amax (coverF S n) (some (leftS S n)) (i + 1) = amax (coverF S n) (some (leftS S n)) i := by simp only [amax, hfi]
        refine AW.run 5 [false] (30, [(0, .inr (.inr (0, 0, 0))), (1, .inr (.inr (2, 0, 0))), (2, .inl (nI n)), (3, .inl (optI (amax (coverF S n) (some (leftS S n)) i).1)), (4, .inl (optM (amax (coverF S n) (some (leftS S n)) i).2)), (5, .inl (nI i))], [.inl (nI i), .inr (.inr (2, 0, 0))], τ) [¬ icP .ge (nI i) 8] rfl ?_ ?_
        · exact allP1 (nle_lit (a := 8) hi (by decide))
        refine AW.callVI (d' := 0) [.inl (nI i)] [] ⟨_, rfl⟩ f_3_isWhole v_3_isWhole l_1_43 ⟨rfl, by decide⟩ rfl (Nat.le_of_ble_eq_true rfl) rfl (Nat.le_of_ble_eq_true rfl) (c3_isWhole 0 S τ (only_rep hA hR) hO i (by omega)) ?_
        rintro v _ ⟨rfl, hv⟩
        obtain rfl : v = 1 := by
          rcases hv with h | h
          · exact h.1
          · exact absurd (h.2.symm.trans hw) (by decide)
        refine AW.run 3 [false] (39, [(0, .inr (.inr (0, 0, 0))), (1, .inr (.inr (2, 0, 0))), (2, .inl (nI n)), (3, .inl (optI (amax (coverF S n) (some (leftS S n)) i).1)), (4, .inl (optM (amax (coverF S n) (some (leftS S n)) i).2)), (5, .inl (nI i))], [.inl (nI i), .inr (.inr (2, 0, 0))], τ) [¬ icP .eq (1 : Int32) 0] rfl ?_ ?_
        · exact allP1 (by decide : ¬ ((1 : Int32) = 0))
        refine AW.callVI (d' := 0) [.inl (nI i)] [] ⟨_, rfl⟩ f_3_isCovered v_3_isCovered l_1_80 ⟨rfl, by decide⟩ rfl (Nat.le_of_ble_eq_true rfl) rfl (Nat.le_of_ble_eq_true rfl) (c3_isCovered 0 S τ (only_rep hA hR) hO i (by omega)) ?_
        rintro v _ ⟨rfl, hv⟩
        obtain rfl : v = 1 := by
          rcases hv with h | h
          · exact h.1
          · exact absurd (h.2.symm.trans hc) (by decide)
        refine AW.run 4 [false] (20, [(5, .inl ((nI i) + 1)), (0, .inr (.inr (0, 0, 0))), (1, .inr (.inr (2, 0, 0))), (2, .inl (nI n)), (3, .inl (optI (amax (coverF S n) (some (leftS S n)) i).1)), (4, .inl (optM (amax (coverF S n) (some (leftS S n)) i).2))], [], τ) [¬ icP .eq (1 : Int32) 0] rfl ?_ ?_
        · exact allP1 (by decide : ¬ ((1 : Int32) = 0))
        have hx := hk () τ hA
        rw [hs, ← nI_1 i] at hx
        refine AW.pick [1, 2, 3, 4, 5, 0] (ls' := _) rfl ?_
        exact hx
    · have hfi : coverF S n i = none := by simp [coverF, hw]
      have hwf : Sw S i = false := by cases hb : Sw S i; rfl; exact absurd hb hw
      have hs : amax (coverF S n) (some (leftS S n)) (i + 1) = amax (coverF S n) (some (leftS S n)) i := by simp only [amax, hfi]
      refine AW.run 5 [false] (30, [(0, .inr (.inr (0, 0, 0))), (1, .inr (.inr (2, 0, 0))), (2, .inl (nI n)), (3, .inl (optI (amax (coverF S n) (some (leftS S n)) i).1)), (4, .inl (optM (amax (coverF S n) (some (leftS S n)) i).2)), (5, .inl (nI i))], [.inl (nI i), .inr (.inr (2, 0, 0))], τ) [¬ icP .ge (nI i) 8] rfl ?_ ?_
      · exact allP1 (nle_lit (a := 8) hi (by decide))
      refine AW.callVI (d' := 0) [.inl (nI i)] [] ⟨_, rfl⟩ f_3_isWhole v_3_isWhole l_1_43 ⟨rfl, by decide⟩ rfl (Nat.le_of_ble_eq_true rfl) rfl (Nat.le_of_ble_eq_true rfl) (c3_isWhole 0 S τ (only_rep hA hR) hO i (by omega)) ?_
      rintro v _ ⟨rfl, hv⟩
      obtain rfl : v = 0 := by
        rcases hv with h | h
        · exact absurd (h.2.symm.trans hwf) (by decide)
        · exact h.1
      refine AW.run 3 [true] (20, [(5, .inl ((nI i) + 1)), (0, .inr (.inr (0, 0, 0))), (1, .inr (.inr (2, 0, 0))), (2, .inl (nI n)), (3, .inl (optI (amax (coverF S n) (some (leftS S n)) i).1)), (4, .inl (optM (amax (coverF S n) (some (leftS S n)) i).2))], [], τ) [icP .eq (0 : Int32) 0] rfl ?_ ?_
      · exact allP1 (by decide : ((0 : Int32) = 0))
      have hx := hk () τ hA
      rw [hs, ← nI_1 i] at hx
      refine AW.pick [1, 2, 3, 4, 5, 0] (ls' := _) rfl ?_
      exact hx
  · intro _ τ hI
    refine AW.run 4 [true] (93, [(0, .inr (.inr (0, 0, 0))), (1, .inr (.inr (2, 0, 0))), (2, .inl (nI n)), (3, .inl (optI (amax (coverF S n) (some (leftS S n)) 8).1)), (4, .inl (optM (amax (coverF S n) (some (leftS S n)) 8).2)), (5, .inl (nI 8))], [.inl (optI (amax (coverF S n) (some (leftS S n)) 8).1)], τ) [icP .ge (nI 8) 8] rfl ?_ ?_
    · exact allP1 (le_lit (a := 8) (b := 8) (by decide) (by decide))
    refine AW.reti ⟨_, rfl⟩ rfl ?_
    exact ⟨rfl, hI⟩
theorem outF_le {S : Sv} {n : Nat} : ∀ i v, outF S n i = some v → v ≤ 8 := by
  intro i v h
  unfold outF at h
  split at h
  · cases h; exact leftS_le _ _
  · cases h
set_option maxHeartbeats 4000000 in
set_option maxRecDepth 100000 in
theorem c1_oneToLetOut (S : Sv) (σ : St) (hR : RepS (σ 2 0) S) (hO : SOK S) (n : Nat) (hn : n < 2 ^ 31) : Ct M1_oneToLetOut 5 [.inr (.inr (0, 0, 0)), .inr (.inr (2, 0, 0)), .inl (nI n)] σ (PI fun r9 σ' => optI (outS S n) = r9 ∧ Only 2 3 σ σ') := by
  refine Ct.of f_1_oneToLetOut (Nat.le_of_ble_eq_true rfl) ?_
  show AW M1_oneToLetOut 5 _ (0, [(0, .inr (.inr (0, 0, 0))), (1, .inr (.inr (2, 0, 0))), (2, .inl (nI n))], [], σ)
  refine AW.run 5 [] (6, [(3, .inl (-9)), (0, .inr (.inr (0, 0, 0))), (1, .inr (.inr (2, 0, 0))), (2, .inl (nI n))], [.inl (nI n), .inr (.inr (2, 0, 0)), .inr (.inr (0, 0, 0))], σ) [] rfl ?_ ?_
  · exact trivial
  refine AW.callVR (d' := 4) [.inr (.inr (2, 0, 0)), .inl (nI n)] [] ⟨_, rfl⟩ f_1_ahead v_1_ahead l_1_76 ⟨rfl, by decide⟩ rfl (Nat.le_of_ble_eq_true rfl) rfl (Nat.le_of_ble_eq_true rfl) (c1_ahead S σ hR hO n (by omega)) ?_
  rintro _ τ30 ⟨rfl, a30, b30⟩
  refine AW.run 1 [] (12, [(3, .inl (-9)), (0, .inr (.inr (0, 0, 0))), (1, .inr (.inr (2, 0, 0))), (2, .inl (nI n))], [.inl (τ30 2 3 0 8)], τ30) [] rfl ?_ ?_
  · exact trivial
  rw [b30.1.2.1]
  refine AW.callSI (d' := 0) [.inl (bI (Sw (passS n S)))] [] ⟨_, rfl⟩ f_J_bitCount s_J_bitCount l_1_37 rfl (Nat.le_of_ble_eq_true rfl) rfl (Nat.le_of_ble_eq_true rfl) (cJ_bitCount (bI (Sw (passS n S))) τ30) ?_
  rintro _ _ ⟨rfl, rfl⟩
  rw [bcV_bI]
  refine AW.run 3 [] (20, [(5, .inl 0), (4, .inl (nI (leftS S n))), (3, .inl (-9)), (0, .inr (.inr (0, 0, 0))), (1, .inr (.inr (2, 0, 0))), (2, .inl (nI n))], [], τ30) [] rfl ?_ ?_
  · exact trivial
  refine AW.pick [3, 4, 5, 2, 1, 0] (ls' := [(0, .inr (.inr (0, 0, 0))), (1, .inr (.inr (2, 0, 0))), (2, .inl (nI n)), (3, .inl (optI (amax (outF S n) (some (leftS S n)) 0).1)), (4, .inl (optM (amax (outF S n) (some (leftS S n)) 0).2)), (5, .inl (nI 0))]) rfl ?_
  refine AW.loop (α := Unit) 20 8 (fun i _ => [(0, .inr (.inr (0, 0, 0))), (1, .inr (.inr (2, 0, 0))), (2, .inl (nI n)), (3, .inl (optI (amax (outF S n) (some (leftS S n)) i).1)), (4, .inl (optM (amax (outF S n) (some (leftS S n)) i).2)), (5, .inl (nI i))]) (fun i _ τ => Only 2 3 σ τ) ?_ ?_ 8 0 () _ (by omega) (only_trans only_rfl a30)
  · intro i _ τ hi hA hk
    have hlim := amax_le (f := outF S n) (m0 := some (leftS S n)) (outF_le) (fun m h => by cases h; exact leftS_le S n) i
    by_cases hw : Sw S i = true
    · have hfi : outF S n i = some (leftS (withQ S (fu (Sq S) i 0)) n) := by simp [outF, hw]
      have hle := leftS_le (withQ S (fu (Sq S) i 0)) n
      by_cases hab : above (amax (outF S n) (some (leftS S n)) i).2 (leftS (withQ S (fu (Sq S) i 0)) n) = true
      · have hs : amax (outF S n) (some (leftS S n)) (i + 1) = (some i, some (leftS (withQ S (fu (Sq S) i 0)) n)) := by simp only [amax, hfi]; rw [if_pos hab]
        refine AW.run 5 [false] (30, [(0, .inr (.inr (0, 0, 0))), (1, .inr (.inr (2, 0, 0))), (2, .inl (nI n)), (3, .inl (optI (amax (outF S n) (some (leftS S n)) i).1)), (4, .inl (optM (amax (outF S n) (some (leftS S n)) i).2)), (5, .inl (nI i))], [.inl (nI i), .inr (.inr (2, 0, 0))], τ) [¬ icP .ge (nI i) 8] rfl ?_ ?_
        · exact allP1 (nle_lit (a := 8) hi (by decide))
        refine AW.callVI (d' := 0) [.inl (nI i)] [] ⟨_, rfl⟩ f_3_isWhole v_3_isWhole l_1_43 ⟨rfl, by decide⟩ rfl (Nat.le_of_ble_eq_true rfl) rfl (Nat.le_of_ble_eq_true rfl) (c3_isWhole 0 S τ (only_rep hA hR) hO i (by omega)) ?_
        rintro v _ ⟨rfl, hv⟩
        obtain rfl : v = 1 := by
          rcases hv with h | h
          · exact h.1
          · exact absurd (h.2.symm.trans hw) (by decide)
        refine AW.run 4 [true] (44, [(0, .inr (.inr (0, 0, 0))), (1, .inr (.inr (2, 0, 0))), (2, .inl (nI n)), (3, .inl (optI (amax (outF S n) (some (leftS S n)) i).1)), (4, .inl (optM (amax (outF S n) (some (leftS S n)) i).2)), (5, .inl (nI i))], [.inr (.inr (2, 0, 0)), .inr (.inr (2, 3, 0))], τ) [icP .ne (1 : Int32) 0] rfl ?_ ?_
        · exact allP1 (by decide : (¬ (1 : Int32) = 0))
        refine AW.callVV (d' := 1) [.inr (.inr (2, 0, 0))] [] ⟨_, rfl⟩ f_3_copyFrom v_3_copyFrom l_1_25 ⟨rfl, by decide⟩ rfl (Nat.le_of_ble_eq_true rfl) rfl (Nat.le_of_ble_eq_true rfl) (c3_copyFrom 3 0 (by decide) S τ (only_rep hA hR) hO) ?_
        rintro τ31 ⟨a31, b31⟩
        refine AW.run 4 [] (54, [(0, .inr (.inr (0, 0, 0))), (1, .inr (.inr (2, 0, 0))), (2, .inl (nI n)), (3, .inl (optI (amax (outF S n) (some (leftS S n)) i).1)), (4, .inl (optM (amax (outF S n) (some (leftS S n)) i).2)), (5, .inl (nI i))], [.inl 0, .inl (nI i), .inr (.inr (2, 3, 0))], τ31) [] rfl ?_ ?_
        · exact trivial
        refine AW.callVV (d' := 1) [.inl (nI i), .inl 0] [] ⟨_, rfl⟩ f_3_setPress v_3_setPress l_1_86 ⟨rfl, by decide⟩ rfl (Nat.le_of_ble_eq_true rfl) rfl (Nat.le_of_ble_eq_true rfl) (c3_setPress 3 S τ31 b31 hO i 0 (SOK_lt hO hw)) ?_
        rintro τ32 ⟨a32, b32⟩
        refine AW.run 2 [] (59, [(0, .inr (.inr (0, 0, 0))), (1, .inr (.inr (2, 0, 0))), (2, .inl (nI n)), (3, .inl (optI (amax (outF S n) (some (leftS S n)) i).1)), (4, .inl (optM (amax (outF S n) (some (leftS S n)) i).2)), (5, .inl (nI i))], [.inl (nI n), .inr (.inr (0, 0, 0))], τ32) [] rfl ?_ ?_
        · exact trivial
        refine AW.callVI (d' := 4) [.inl (nI n)] [] ⟨_, rfl⟩ f_1_leftBehind v_1_leftBehind l_1_73 ⟨rfl, by decide⟩ rfl (Nat.le_of_ble_eq_true rfl) rfl (Nat.le_of_ble_eq_true rfl) (c1_leftBehind (withQ S (fu (Sq S) i 0)) τ32 b32 (SOK_q hO (SOK_lt hO hw) (by omega)) n (by omega)) ?_
        rintro _ τ33 ⟨rfl, a33⟩
        refine AW.run 10 [false] (20, [(5, .inl ((nI i) + 1)), (3, .inl (nI i)), (4, .inl (nI (leftS (withQ S (fu (Sq S) i 0)) n))), (6, .inl (nI (leftS (withQ S (fu (Sq S) i 0)) n))), (0, .inr (.inr (0, 0, 0))), (1, .inr (.inr (2, 0, 0))), (2, .inl (nI n))], [], τ33) [¬ icP .le (nI (leftS (withQ S (fu (Sq S) i 0)) n)) (optM (amax (outF S n) (some (leftS S n)) i).2)] rfl ?_ ?_
        · exact allP1 (fun q9 => by rw [(above_cmp (hle) hlim).mp q9] at hab; cases hab)
        have hx := hk () τ33 (only_trans (only_trans (only_trans hA a31) a32) a33)
        rw [hs, ← nI_1 i] at hx
        refine AW.pick [4, 5, 6, 1, 2, 0] (ls' := _) rfl ?_
        exact hx
      · have hs : amax (outF S n) (some (leftS S n)) (i + 1) = amax (outF S n) (some (leftS S n)) i := by simp only [amax, hfi]; rw [if_neg hab]
        refine AW.run 5 [false] (30, [(0, .inr (.inr (0, 0, 0))), (1, .inr (.inr (2, 0, 0))), (2, .inl (nI n)), (3, .inl (optI (amax (outF S n) (some (leftS S n)) i).1)), (4, .inl (optM (amax (outF S n) (some (leftS S n)) i).2)), (5, .inl (nI i))], [.inl (nI i), .inr (.inr (2, 0, 0))], τ) [¬ icP .ge (nI i) 8] rfl ?_ ?_
        · exact allP1 (nle_lit (a := 8) hi (by decide))
        refine AW.callVI (d' := 0) [.inl (nI i)] [] ⟨_, rfl⟩ f_3_isWhole v_3_isWhole l_1_43 ⟨rfl, by decide⟩ rfl (Nat.le_of_ble_eq_true rfl) rfl (Nat.le_of_ble_eq_true rfl) (c3_isWhole 0 S τ (only_rep hA hR) hO i (by omega)) ?_
        rintro v _ ⟨rfl, hv⟩
        obtain rfl : v = 1 := by
          rcases hv with h | h
          · exact h.1
          · exact absurd (h.2.symm.trans hw) (by decide)
        refine AW.run 4 [true] (44, [(0, .inr (.inr (0, 0, 0))), (1, .inr (.inr (2, 0, 0))), (2, .inl (nI n)), (3, .inl (optI (amax (outF S n) (some (leftS S n)) i).1)), (4, .inl (optM (amax (outF S n) (some (leftS S n)) i).2)), (5, .inl (nI i))], [.inr (.inr (2, 0, 0)), .inr (.inr (2, 3, 0))], τ) [icP .ne (1 : Int32) 0] rfl ?_ ?_
        · exact allP1 (by decide : (¬ (1 : Int32) = 0))
        refine AW.callVV (d' := 1) [.inr (.inr (2, 0, 0))] [] ⟨_, rfl⟩ f_3_copyFrom v_3_copyFrom l_1_25 ⟨rfl, by decide⟩ rfl (Nat.le_of_ble_eq_true rfl) rfl (Nat.le_of_ble_eq_true rfl) (c3_copyFrom 3 0 (by decide) S τ (only_rep hA hR) hO) ?_
        rintro τ34 ⟨a34, b34⟩
        refine AW.run 4 [] (54, [(0, .inr (.inr (0, 0, 0))), (1, .inr (.inr (2, 0, 0))), (2, .inl (nI n)), (3, .inl (optI (amax (outF S n) (some (leftS S n)) i).1)), (4, .inl (optM (amax (outF S n) (some (leftS S n)) i).2)), (5, .inl (nI i))], [.inl 0, .inl (nI i), .inr (.inr (2, 3, 0))], τ34) [] rfl ?_ ?_
        · exact trivial
        refine AW.callVV (d' := 1) [.inl (nI i), .inl 0] [] ⟨_, rfl⟩ f_3_setPress v_3_setPress l_1_86 ⟨rfl, by decide⟩ rfl (Nat.le_of_ble_eq_true rfl) rfl (Nat.le_of_ble_eq_true rfl) (c3_setPress 3 S τ34 b34 hO i 0 (SOK_lt hO hw)) ?_
        rintro τ35 ⟨a35, b35⟩
        refine AW.run 2 [] (59, [(0, .inr (.inr (0, 0, 0))), (1, .inr (.inr (2, 0, 0))), (2, .inl (nI n)), (3, .inl (optI (amax (outF S n) (some (leftS S n)) i).1)), (4, .inl (optM (amax (outF S n) (some (leftS S n)) i).2)), (5, .inl (nI i))], [.inl (nI n), .inr (.inr (0, 0, 0))], τ35) [] rfl ?_ ?_
        · exact trivial
        refine AW.callVI (d' := 4) [.inl (nI n)] [] ⟨_, rfl⟩ f_1_leftBehind v_1_leftBehind l_1_73 ⟨rfl, by decide⟩ rfl (Nat.le_of_ble_eq_true rfl) rfl (Nat.le_of_ble_eq_true rfl) (c1_leftBehind (withQ S (fu (Sq S) i 0)) τ35 b35 (SOK_q hO (SOK_lt hO hw) (by omega)) n (by omega)) ?_
        rintro _ τ36 ⟨rfl, a36⟩
        refine AW.run 6 [true] (20, [(5, .inl ((nI i) + 1)), (6, .inl (nI (leftS (withQ S (fu (Sq S) i 0)) n))), (0, .inr (.inr (0, 0, 0))), (1, .inr (.inr (2, 0, 0))), (2, .inl (nI n)), (3, .inl (optI (amax (outF S n) (some (leftS S n)) i).1)), (4, .inl (optM (amax (outF S n) (some (leftS S n)) i).2))], [], τ36) [icP .le (nI (leftS (withQ S (fu (Sq S) i 0)) n)) (optM (amax (outF S n) (some (leftS S n)) i).2)] rfl ?_ ?_
        · exact allP1 ((above_cmp (hle) hlim).mpr (by cases hb9 : above (amax (outF S n) (some (leftS S n)) i).2 (leftS (withQ S (fu (Sq S) i 0)) n); rfl; exact absurd hb9 hab))
        have hx := hk () τ36 (only_trans (only_trans (only_trans hA a34) a35) a36)
        rw [hs, ← nI_1 i] at hx
        refine AW.pick [2, 3, 4, 5, 6, 0] (ls' := _) rfl ?_
        exact hx
    · have hfi : outF S n i = none := by simp [outF, hw]
      have hwf : Sw S i = false := by cases hb : Sw S i; rfl; exact absurd hb hw
      have hs : amax (outF S n) (some (leftS S n)) (i + 1) = amax (outF S n) (some (leftS S n)) i := by simp only [amax, hfi]
      refine AW.run 5 [false] (30, [(0, .inr (.inr (0, 0, 0))), (1, .inr (.inr (2, 0, 0))), (2, .inl (nI n)), (3, .inl (optI (amax (outF S n) (some (leftS S n)) i).1)), (4, .inl (optM (amax (outF S n) (some (leftS S n)) i).2)), (5, .inl (nI i))], [.inl (nI i), .inr (.inr (2, 0, 0))], τ) [¬ icP .ge (nI i) 8] rfl ?_ ?_
      · exact allP1 (nle_lit (a := 8) hi (by decide))
      refine AW.callVI (d' := 0) [.inl (nI i)] [] ⟨_, rfl⟩ f_3_isWhole v_3_isWhole l_1_43 ⟨rfl, by decide⟩ rfl (Nat.le_of_ble_eq_true rfl) rfl (Nat.le_of_ble_eq_true rfl) (c3_isWhole 0 S τ (only_rep hA hR) hO i (by omega)) ?_
      rintro v _ ⟨rfl, hv⟩
      obtain rfl : v = 0 := by
        rcases hv with h | h
        · exact absurd (h.2.symm.trans hwf) (by decide)
        · exact h.1
      refine AW.run 4 [false] (20, [(5, .inl ((nI i) + 1)), (0, .inr (.inr (0, 0, 0))), (1, .inr (.inr (2, 0, 0))), (2, .inl (nI n)), (3, .inl (optI (amax (outF S n) (some (leftS S n)) i).1)), (4, .inl (optM (amax (outF S n) (some (leftS S n)) i).2))], [], τ) [¬ icP .ne (0 : Int32) 0] rfl ?_ ?_
      · exact allP1 (by decide : ¬ (¬ (0 : Int32) = 0))
      have hx := hk () τ hA
      rw [hs, ← nI_1 i] at hx
      refine AW.pick [1, 2, 3, 4, 5, 0] (ls' := _) rfl ?_
      exact hx
  · intro _ τ hI
    refine AW.run 4 [true] (85, [(0, .inr (.inr (0, 0, 0))), (1, .inr (.inr (2, 0, 0))), (2, .inl (nI n)), (3, .inl (optI (amax (outF S n) (some (leftS S n)) 8).1)), (4, .inl (optM (amax (outF S n) (some (leftS S n)) 8).2)), (5, .inl (nI 8))], [.inl (optI (amax (outF S n) (some (leftS S n)) 8).1)], τ) [icP .ge (nI 8) 8] rfl ?_ ?_
    · exact allP1 (le_lit (a := 8) (b := 8) (by decide) (by decide))
    refine AW.reti ⟨_, rfl⟩ rfl ?_
    exact ⟨rfl, hI⟩
end
section
/-! THE MIND, THIRD PART -/
set_option maxHeartbeats 4000000 in
set_option maxRecDepth 100000 in
theorem c1_firstToGo (S : Sv) (σ : St) (hR : RepS (σ 2 0) S) (hO : SOK S) : Ct M1_firstToGo 3 [.inr (.inr (0, 0, 0)), .inr (.inr (2, 0, 0))] σ (PI fun r9 σ' => optI (firstN S 60 S) = r9 ∧ Only 2 3 σ σ') := by
  refine Ct.of f_1_firstToGo (Nat.le_of_ble_eq_true rfl) ?_
  show AW M1_firstToGo 3 _ (0, [(0, .inr (.inr (0, 0, 0))), (1, .inr (.inr (2, 0, 0)))], [], σ)
  refine AW.run 3 [] (5, [(0, .inr (.inr (0, 0, 0))), (1, .inr (.inr (2, 0, 0)))], [.inr (.inr (2, 0, 0)), .inr (.inr (2, 3, 0))], σ) [] rfl ?_ ?_
  · exact trivial
  refine AW.callVV (d' := 1) [.inr (.inr (2, 0, 0))] [] ⟨_, rfl⟩ f_3_copyFrom v_3_copyFrom l_1_25 ⟨rfl, by decide⟩ rfl (Nat.le_of_ble_eq_true rfl) rfl (Nat.le_of_ble_eq_true rfl) (c3_copyFrom 3 0 (by decide) S σ hR hO) ?_
  rintro τ37 ⟨a37, b37⟩
  refine AW.run 2 [] (10, [(2, .inl 0), (0, .inr (.inr (0, 0, 0))), (1, .inr (.inr (2, 0, 0)))], [], τ37) [] rfl ?_ ?_
  · exact trivial
  refine AW.pick [1, 2, 0] (ls' := [(0, .inr (.inr (0, 0, 0))), (1, .inr (.inr (2, 0, 0))), (2, .inl (nI 0))]) rfl ?_
  refine AW.loop (α := Sv) 10 60 (fun d T => [(0, .inr (.inr (0, 0, 0))), (1, .inr (.inr (2, 0, 0))), (2, .inl (nI d))]) (fun d T τ => Only 2 3 σ τ ∧ RepS (τ 2 3) T ∧ SOK T ∧ firstN S 60 S = firstN S (60 - d) T) ?_ ?_ 60 0 S _ (by omega) ⟨(only_trans only_rfl a37), b37, hO, rfl⟩
  · intro d T τ hd hI hk
    obtain ⟨hA, hT, hOT, hg⟩ := hI
    have hu : firstN S (60 - d) T = match fstN (newGone S (dayS T)) 8 0 with | some i => some i | none => firstN S (60 - (d + 1)) (dayS T) := by
      obtain ⟨m, hm⟩ : ∃ m, 60 - d = m + 1 := ⟨59 - d, by omega⟩
      rw [hm, show 60 - (d + 1) = m by omega]; rfl
    rw [hu] at hg
    refine AW.run 5 [false] (20, [(0, .inr (.inr (0, 0, 0))), (1, .inr (.inr (2, 0, 0))), (2, .inl (nI d))], [.inr (.inr (2, 3, 0))], τ) [¬ icP .ge (nI d) 60] rfl ?_ ?_
    · exact allP1 (nle_lit (a := 60) hd (by decide))
    refine AW.callVV (d' := 2) [] [] ⟨_, rfl⟩ f_3_dayGoesBy v_3_dayGoesBy l_1_47 ⟨rfl, by decide⟩ rfl (Nat.le_of_ble_eq_true rfl) rfl (Nat.le_of_ble_eq_true rfl) (c3_dayGoesBy 3 T τ hT hOT ) ?_
    rintro τ38 ⟨a38, b38⟩
    refine AW.run 2 [] (27, [(0, .inr (.inr (0, 0, 0))), (1, .inr (.inr (2, 0, 0))), (2, .inl (nI d))], [.inl (τ38 2 0 0 8)], τ38) [] rfl ?_ ?_
    · exact trivial
    rw [(only_rep (only_trans hA a38) hR).1.2.1]
    refine AW.run 3 [] (34, [(0, .inr (.inr (0, 0, 0))), (1, .inr (.inr (2, 0, 0))), (2, .inl (nI d))], [.inl (τ38 2 3 0 8), .inl (bI (Sw S))], τ38) [] rfl ?_ ?_
    · exact trivial
    rw [b38.1.2.1]
    refine AW.run 3 [] (37, [(0, .inr (.inr (0, 0, 0))), (1, .inr (.inr (2, 0, 0))), (2, .inl (nI d))], [.inl ((bI (Sw S)) &&& ((bI (Sw (dayS T))) ^^^ (-1)))], τ38) [] rfl ?_ ?_
    · exact trivial
    rw [bI_andn]
    change AW M1_firstToGo 3 _ (37, [(0, .inr (.inr (0, 0, 0))), (1, .inr (.inr (2, 0, 0))), (2, .inl (nI d))], [.inl (bI (newGone S (dayS T)))], τ38)
    refine AW.run 3 [] (41, [(4, .inl 0), (3, .inl (bI (newGone S (dayS T)))), (0, .inr (.inr (0, 0, 0))), (1, .inr (.inr (2, 0, 0))), (2, .inl (nI d))], [], τ38) [] rfl ?_ ?_
    · exact trivial
    refine AW.pick [2, 3, 4, 1, 0] (ls' := [(0, .inr (.inr (0, 0, 0))), (1, .inr (.inr (2, 0, 0))), (2, .inl (nI d)), (3, .inl (bI (newGone S (dayS T)))), (4, .inl (nI 0))]) rfl ?_
    refine AW.loop (α := Unit) 41 8 (fun i _ => [(0, .inr (.inr (0, 0, 0))), (1, .inr (.inr (2, 0, 0))), (2, .inl (nI d)), (3, .inl (bI (newGone S (dayS T)))), (4, .inl (nI i))]) (fun i _ τ9 => τ38 = τ9 ∧ fstN (newGone S (dayS T)) 8 0 = fstN (newGone S (dayS T)) (8 - i) i) ?_ ?_ 8 0 () _ (by omega) ⟨rfl, rfl⟩
    · intro i _ τ9 hi hJ hk9
      obtain ⟨rfl, hJ⟩ := hJ
      have hu9 : fstN (newGone S (dayS T)) (8 - i) i = if newGone S (dayS T) i = true then some i else fstN (newGone S (dayS T)) (8 - (i + 1)) (i + 1) := by
        obtain ⟨m, hm⟩ : ∃ m, 8 - i = m + 1 := ⟨7 - i, by omega⟩
        rw [hm, show 8 - (i + 1) = m by omega]; rfl
      have hbit := bI_bit (newGone S (dayS T)) hi
      by_cases hgi : newGone S (dayS T) i = true
      · rw [hu9, if_pos hgi] at hJ
        rw [hJ] at hg
        refine AW.run 8 [false] (54, [(0, .inr (.inr (0, 0, 0))), (1, .inr (.inr (2, 0, 0))), (2, .inl (nI d)), (3, .inl (bI (newGone S (dayS T)))), (4, .inl (nI i))], [.inl (((bI (newGone S (dayS T))) >>> ((nI i) &&& 31)) &&& 1)], τ38) [¬ icP .ge (nI i) 8] rfl ?_ ?_
        · exact allP1 (nle_lit (a := 8) hi (by decide))
        rw [hbit]
        refine AW.run 2 [false] (59, [(0, .inr (.inr (0, 0, 0))), (1, .inr (.inr (2, 0, 0))), (2, .inl (nI d)), (3, .inl (bI (newGone S (dayS T)))), (4, .inl (nI i))], [.inl (nI i)], τ38) [¬ icP .eq (if newGone S (dayS T) i = true then 1 else 0) 0] rfl ?_ ?_
        · exact allP1 (by rw [if_pos hgi]; exact (by decide : ¬ (1 : Int32) = 0))
        refine AW.reti ⟨_, rfl⟩ rfl ?_
        exact ⟨by rw [hg]; rfl, (only_trans hA a38)⟩
      · skip
        refine AW.run 8 [false] (54, [(0, .inr (.inr (0, 0, 0))), (1, .inr (.inr (2, 0, 0))), (2, .inl (nI d)), (3, .inl (bI (newGone S (dayS T)))), (4, .inl (nI i))], [.inl (((bI (newGone S (dayS T))) >>> ((nI i) &&& 31)) &&& 1)], τ38) [¬ icP .ge (nI i) 8] rfl ?_ ?_
        · exact allP1 (nle_lit (a := 8) hi (by decide))
        rw [hbit]
        refine AW.run 3 [true] (41, [(4, .inl ((nI i) + 1)), (0, .inr (.inr (0, 0, 0))), (1, .inr (.inr (2, 0, 0))), (2, .inl (nI d)), (3, .inl (bI (newGone S (dayS T))))], [], τ38) [icP .eq (if newGone S (dayS T) i = true then 1 else 0) 0] rfl ?_ ?_
        · exact allP1 (by rw [if_neg hgi]; exact (rfl : (0 : Int32) = 0))
        rw [nI_1 i]
        refine AW.pick [1, 2, 3, 4, 0] (ls' := [(0, .inr (.inr (0, 0, 0))), (1, .inr (.inr (2, 0, 0))), (2, .inl (nI d)), (3, .inl (bI (newGone S (dayS T)))), (4, .inl (nI (i + 1)))]) rfl ?_
        exact hk9 () _ ⟨rfl, by rw [hJ, hu9, if_neg hgi]⟩
    · intro _ τ9 hJ
      obtain ⟨rfl, hJ⟩ := hJ
      have hJ : fstN (newGone S (dayS T)) 8 0 = none := hJ
      rw [hJ] at hg
      refine AW.run 5 [true] (10, [(2, .inl ((nI d) + 1)), (0, .inr (.inr (0, 0, 0))), (1, .inr (.inr (2, 0, 0))), (3, .inl (bI (newGone S (dayS T)))), (4, .inl (nI 8))], [], τ38) [icP .ge (nI 8) 8] rfl ?_ ?_
      · exact allP1 (le_lit (a := 8) (b := 8) (by decide) (by decide))
      rw [nI_1 d]
      refine AW.pick [1, 2, 0] (ls' := [(0, .inr (.inr (0, 0, 0))), (1, .inr (.inr (2, 0, 0))), (2, .inl (nI (d + 1)))]) rfl ?_
      exact hk (dayS T) _ ⟨(only_trans hA a38), b38, (SOK_day hOT), hg⟩
  · intro T τ hI
    obtain ⟨hA, hT, hOT, hg⟩ := hI
    refine AW.run 4 [true] (74, [(0, .inr (.inr (0, 0, 0))), (1, .inr (.inr (2, 0, 0))), (2, .inl (nI 60))], [.inl (-9)], τ) [icP .ge (nI 60) 60] rfl ?_ ?_
    · exact allP1 (le_lit (a := 60) (b := 60) (by decide) (by decide))
    refine AW.reti ⟨_, rfl⟩ rfl ?_
    exact ⟨by rw [hg]; rfl, hA⟩
set_option maxHeartbeats 4000000 in
set_option maxRecDepth 100000 in
theorem c1_longestQuiet (S : Sv) (σ : St) (hR : RepS (σ 2 0) S) (hO : SOK S) : Ct M1_longestQuiet 3 [.inr (.inr (0, 0, 0)), .inr (.inr (2, 0, 0))] σ (PI fun r9 σ' => nI (quietN S 60).1 = r9 ∧ Only 2 3 σ σ') := by
  refine Ct.of f_1_longestQuiet (Nat.le_of_ble_eq_true rfl) ?_
  show AW M1_longestQuiet 3 _ (0, [(0, .inr (.inr (0, 0, 0))), (1, .inr (.inr (2, 0, 0)))], [], σ)
  refine AW.run 3 [] (5, [(0, .inr (.inr (0, 0, 0))), (1, .inr (.inr (2, 0, 0)))], [.inr (.inr (2, 0, 0)), .inr (.inr (2, 3, 0))], σ) [] rfl ?_ ?_
  · exact trivial
  refine AW.callVV (d' := 1) [.inr (.inr (2, 0, 0))] [] ⟨_, rfl⟩ f_3_copyFrom v_3_copyFrom l_1_25 ⟨rfl, by decide⟩ rfl (Nat.le_of_ble_eq_true rfl) rfl (Nat.le_of_ble_eq_true rfl) (c3_copyFrom 3 0 (by decide) S σ hR hO) ?_
  rintro τ39 ⟨a39, b39⟩
  refine AW.run 6 [] (15, [(4, .inl 0), (3, .inl 0), (2, .inl 0), (0, .inr (.inr (0, 0, 0))), (1, .inr (.inr (2, 0, 0)))], [], τ39) [] rfl ?_ ?_
  · exact trivial
  refine AW.pick [3, 4, 2, 1, 0] (ls' := [(0, .inr (.inr (0, 0, 0))), (1, .inr (.inr (2, 0, 0))), (2, .inl (nI (quietN S 0).1)), (3, .inl (nI (quietN S 0).2)), (4, .inl (nI 0))]) rfl ?_
  refine AW.loop (α := Unit) 15 60 (fun d _ => [(0, .inr (.inr (0, 0, 0))), (1, .inr (.inr (2, 0, 0))), (2, .inl (nI (quietN S d).1)), (3, .inl (nI (quietN S d).2)), (4, .inl (nI d))]) (fun d _ τ => Only 2 3 σ τ ∧ RepS (τ 2 3) (passS d S)) ?_ ?_ 60 0 () _ (by omega) ⟨(only_trans only_rfl a39), b39⟩
  · intro d _ τ hd hI hk
    obtain ⟨hA, hT⟩ := hI
    have hOT := SOK_pass d hO
    obtain ⟨l1, l2⟩ := quietN_le (S := S) d
    by_cases hsm : sameW (dayS (passS d S)) (passS d S) = true
    · have hs : quietN S (d + 1) = (Nat.max (quietN S d).1 ((quietN S d).2 + 1), (quietN S d).2 + 1) := by simp only [quietN, pass_succ]; rw [if_pos hsm]
      have he : bI (Sw (dayS (passS d S))) = bI (Sw (passS d S)) := bI_eq.mpr (of_decide_eq_true hsm)
      refine AW.run 6 [false] (29, [(0, .inr (.inr (0, 0, 0))), (1, .inr (.inr (2, 0, 0))), (2, .inl (nI (quietN S d).1)), (3, .inl (nI (quietN S d).2)), (4, .inl (nI d))], [.inl (τ 2 3 0 8)], τ) [¬ icP .ge (nI d) 60] rfl ?_ ?_
      · exact allP1 (nle_lit (a := 60) hd (by decide))
      rw [hT.1.2.1]
      refine AW.run 3 [] (35, [(5, .inl (bI (Sw (passS d S)))), (0, .inr (.inr (0, 0, 0))), (1, .inr (.inr (2, 0, 0))), (2, .inl (nI (quietN S d).1)), (3, .inl (nI (quietN S d).2)), (4, .inl (nI d))], [.inr (.inr (2, 3, 0))], τ) [] rfl ?_ ?_
      · exact trivial
      refine AW.callVV (d' := 2) [] [] ⟨_, rfl⟩ f_3_dayGoesBy v_3_dayGoesBy l_1_47 ⟨rfl, by decide⟩ rfl (Nat.le_of_ble_eq_true rfl) rfl (Nat.le_of_ble_eq_true rfl) (c3_dayGoesBy 3 (passS d S) τ hT hOT ) ?_
      rintro τ40 ⟨a40, b40⟩
      refine AW.run 3 [] (45, [(5, .inl (bI (Sw (passS d S)))), (0, .inr (.inr (0, 0, 0))), (1, .inr (.inr (2, 0, 0))), (2, .inl (nI (quietN S d).1)), (3, .inl (nI (quietN S d).2)), (4, .inl (nI d))], [.inl (τ40 2 3 0 8)], τ40) [] rfl ?_ ?_
      · exact trivial
      rw [b40.1.2.1]
      refine AW.run 6 [false] (57, [(5, .inl (bI (Sw (passS d S)))), (0, .inr (.inr (0, 0, 0))), (1, .inr (.inr (2, 0, 0))), (2, .inl (nI (quietN S d).1)), (3, .inl (nI (quietN S d).2)), (4, .inl (nI d))], [.inl ((nI (quietN S d).2) + 1)], τ40) [¬ icP .ne (bI (Sw (dayS (passS d S)))) (bI (Sw (passS d S)))] rfl ?_ ?_
      · exact allP1 (fun q => q he)
      rw [nI_1]
      refine AW.run 3 [] (60, [(3, .inl (nI ((quietN S d).2 + 1))), (5, .inl (bI (Sw (passS d S)))), (0, .inr (.inr (0, 0, 0))), (1, .inr (.inr (2, 0, 0))), (2, .inl (nI (quietN S d).1)), (4, .inl (nI d))], [.inl (nI ((quietN S d).2 + 1)), .inl (nI (quietN S d).1)], τ40) [] rfl ?_ ?_
      · exact trivial
      refine AW.max ⟨_, rfl⟩ l_1_50 (Nat.le_of_ble_eq_true rfl) (Nat.le_of_ble_eq_true rfl) ?_
      rw [max_nI (by omega) (by omega)]
      refine AW.run 3 [] (15, [(4, .inl ((nI d) + 1)), (2, .inl (nI (Nat.max (quietN S d).1 ((quietN S d).2 + 1)))), (3, .inl (nI ((quietN S d).2 + 1))), (5, .inl (bI (Sw (passS d S)))), (0, .inr (.inr (0, 0, 0))), (1, .inr (.inr (2, 0, 0)))], [], τ40) [] rfl ?_ ?_
      · exact trivial
      have hx := hk () τ40 ⟨(only_trans hA a40), by rw [pass_succ]; exact b40⟩
      rw [hs, ← nI_1 d] at hx
      refine AW.pick [4, 5, 1, 2, 0] (ls' := _) rfl ?_
      exact hx
    · have hs : quietN S (d + 1) = (Nat.max (quietN S d).1 0, 0) := by simp only [quietN, pass_succ]; rw [if_neg hsm]
      have he : ¬ bI (Sw (dayS (passS d S))) = bI (Sw (passS d S)) := fun q => hsm (decide_eq_true (bI_eq.mp q))
      refine AW.run 6 [false] (29, [(0, .inr (.inr (0, 0, 0))), (1, .inr (.inr (2, 0, 0))), (2, .inl (nI (quietN S d).1)), (3, .inl (nI (quietN S d).2)), (4, .inl (nI d))], [.inl (τ 2 3 0 8)], τ) [¬ icP .ge (nI d) 60] rfl ?_ ?_
      · exact allP1 (nle_lit (a := 60) hd (by decide))
      rw [hT.1.2.1]
      refine AW.run 3 [] (35, [(5, .inl (bI (Sw (passS d S)))), (0, .inr (.inr (0, 0, 0))), (1, .inr (.inr (2, 0, 0))), (2, .inl (nI (quietN S d).1)), (3, .inl (nI (quietN S d).2)), (4, .inl (nI d))], [.inr (.inr (2, 3, 0))], τ) [] rfl ?_ ?_
      · exact trivial
      refine AW.callVV (d' := 2) [] [] ⟨_, rfl⟩ f_3_dayGoesBy v_3_dayGoesBy l_1_47 ⟨rfl, by decide⟩ rfl (Nat.le_of_ble_eq_true rfl) rfl (Nat.le_of_ble_eq_true rfl) (c3_dayGoesBy 3 (passS d S) τ hT hOT ) ?_
      rintro τ41 ⟨a41, b41⟩
      refine AW.run 3 [] (45, [(5, .inl (bI (Sw (passS d S)))), (0, .inr (.inr (0, 0, 0))), (1, .inr (.inr (2, 0, 0))), (2, .inl (nI (quietN S d).1)), (3, .inl (nI (quietN S d).2)), (4, .inl (nI d))], [.inl (τ41 2 3 0 8)], τ41) [] rfl ?_ ?_
      · exact trivial
      rw [b41.1.2.1]
      refine AW.run 6 [true] (60, [(3, .inl 0), (5, .inl (bI (Sw (passS d S)))), (0, .inr (.inr (0, 0, 0))), (1, .inr (.inr (2, 0, 0))), (2, .inl (nI (quietN S d).1)), (4, .inl (nI d))], [.inl 0, .inl (nI (quietN S d).1)], τ41) [icP .ne (bI (Sw (dayS (passS d S)))) (bI (Sw (passS d S)))] rfl ?_ ?_
      · exact allP1 (he)
      refine AW.max ⟨_, rfl⟩ l_1_50 (Nat.le_of_ble_eq_true rfl) (Nat.le_of_ble_eq_true rfl) ?_
      rw [max_n0 (by omega)]
      refine AW.run 3 [] (15, [(4, .inl ((nI d) + 1)), (2, .inl (nI (Nat.max (quietN S d).1 0))), (3, .inl 0), (5, .inl (bI (Sw (passS d S)))), (0, .inr (.inr (0, 0, 0))), (1, .inr (.inr (2, 0, 0)))], [], τ41) [] rfl ?_ ?_
      · exact trivial
      have hx := hk () τ41 ⟨(only_trans hA a41), by rw [pass_succ]; exact b41⟩
      rw [hs, ← nI_1 d] at hx
      refine AW.pick [4, 5, 1, 2, 0] (ls' := _) rfl ?_
      exact hx
  · intro _ τ hI
    obtain ⟨hA, hT⟩ := hI
    refine AW.run 4 [true] (71, [(0, .inr (.inr (0, 0, 0))), (1, .inr (.inr (2, 0, 0))), (2, .inl (nI (quietN S 60).1)), (3, .inl (nI (quietN S 60).2)), (4, .inl (nI 60))], [.inl (nI (quietN S 60).1)], τ) [icP .ge (nI 60) 60] rfl ?_ ?_
    · exact allP1 (le_lit (a := 60) (b := 60) (by decide) (by decide))
    refine AW.reti ⟨_, rfl⟩ rfl ?_
    exact ⟨rfl, hA⟩
set_option maxHeartbeats 4000000 in
set_option maxRecDepth 100000 in
theorem c1_leftWithSugar (S : Sv) (σ : St) (hR : RepS (σ 2 0) S) (hO : SOK S) (u n : Nat) (hu : u ≤ 9) (hn : n < 2 ^ 31) : Ct M1_leftWithSugar 4 [.inr (.inr (0, 0, 0)), .inr (.inr (2, 0, 0)), .inl (nI u), .inl (nI n)] σ (PI fun r9 σ' => nI (leftS (withU S u (She S)) n) = r9 ∧ Only 2 3 σ σ') := by
  refine Ct.of f_1_leftWithSugar (Nat.le_of_ble_eq_true rfl) ?_
  show AW M1_leftWithSugar 4 _ (0, [(0, .inr (.inr (0, 0, 0))), (1, .inr (.inr (2, 0, 0))), (2, .inl (nI u)), (3, .inl (nI n))], [], σ)
  refine AW.run 3 [] (5, [(0, .inr (.inr (0, 0, 0))), (1, .inr (.inr (2, 0, 0))), (2, .inl (nI u)), (3, .inl (nI n))], [.inr (.inr (2, 0, 0)), .inr (.inr (2, 3, 0))], σ) [] rfl ?_ ?_
  · exact trivial
  refine AW.callVV (d' := 1) [.inr (.inr (2, 0, 0))] [] ⟨_, rfl⟩ f_3_copyFrom v_3_copyFrom l_1_25 ⟨rfl, by decide⟩ rfl (Nat.le_of_ble_eq_true rfl) rfl (Nat.le_of_ble_eq_true rfl) (c3_copyFrom 3 0 (by decide) S σ hR hO) ?_
  rintro τ42 ⟨a42, b42⟩
  refine AW.run 5 [] (17, [(0, .inr (.inr (0, 0, 0))), (1, .inr (.inr (2, 0, 0))), (2, .inl (nI u)), (3, .inl (nI n))], [.inl (τ42 2 0 0 11), .inl (nI u), .inr (.inr (2, 3, 0))], τ42) [] rfl ?_ ?_
  · exact trivial
  rw [(only_rep (only_trans only_rfl a42) hR).1.2.2.2.2.1]
  refine AW.callVV (d' := 2) [.inl (nI u), .inl (nI (She S))] [] ⟨_, rfl⟩ f_3_nourish v_3_nourish l_1_95 ⟨rfl, by decide⟩ rfl (Nat.le_of_ble_eq_true rfl) rfl (Nat.le_of_ble_eq_true rfl) (c3_nourish 3 S τ42 b42 hO u (She S) hu hO.2.2.2.2) ?_
  rintro τ43 ⟨a43, b43⟩
  refine AW.run 3 [] (25, [(0, .inr (.inr (0, 0, 0))), (1, .inr (.inr (2, 0, 0))), (2, .inl (nI u)), (3, .inl (nI n))], [.inl (nI n), .inr (.inr (2, 3, 0))], τ43) [] rfl ?_ ?_
  · exact trivial
  refine AW.callVV (d' := 3) [.inl (nI n)] [] ⟨_, rfl⟩ f_3_pass v_3_pass l_1_29 ⟨rfl, by decide⟩ rfl (Nat.le_of_ble_eq_true rfl) rfl (Nat.le_of_ble_eq_true rfl) (c3_pass 3 (withU S u (She S)) τ43 b43 (SOK_U hO hu hO.2.2.2.2) n (by omega)) ?_
  rintro τ44 ⟨a44, b44⟩
  refine AW.run 3 [] (35, [(0, .inr (.inr (0, 0, 0))), (1, .inr (.inr (2, 0, 0))), (2, .inl (nI u)), (3, .inl (nI n))], [.inl (τ44 2 3 0 8)], τ44) [] rfl ?_ ?_
  · exact trivial
  rw [b44.1.2.1]
  refine AW.callSI (d' := 0) [.inl (bI (Sw (passS n (withU S u (She S)))))] [] ⟨_, rfl⟩ f_J_bitCount s_J_bitCount l_1_37 rfl (Nat.le_of_ble_eq_true rfl) rfl (Nat.le_of_ble_eq_true rfl) (cJ_bitCount (bI (Sw (passS n (withU S u (She S))))) τ44) ?_
  rintro _ _ ⟨rfl, rfl⟩
  refine AW.reti ⟨_, rfl⟩ rfl ?_
  exact ⟨(bcV_bI _).symm, (only_trans (only_trans (only_trans only_rfl a42) a43) a44)⟩
/-- the best sugar: the greatest of the best -/
def bsug (S : Sv) (n : Nat) : Nat → Nat × Option Nat
  | 0 => (0, none)
  | u + 1 => if above (bsug S n u).2 (leftS (withU S u (She S)) n + 1) = true then (u, some (leftS (withU S u (She S)) n)) else bsug S n u
theorem bsug_le {S : Sv} {n : Nat} : ∀ i, (∀ m, (bsug S n i).2 = some m → m ≤ 8) ∧ (bsug S n i).1 ≤ i
  | 0 => ⟨fun m h => (by cases h), Nat.le_refl _⟩
  | i + 1 => by
    obtain ⟨h1, h2⟩ := bsug_le (S := S) (n := n) i
    unfold bsug
    split
    · exact ⟨fun m h => by cases h; exact leftS_le _ _, by omega⟩
    · exact ⟨h1, by omega⟩
theorem above_ge {o : Option Nat} {v : Nat} (hv : v ≤ 8) (ho : ∀ m, o = some m → m ≤ 8) : nI v < optM o ↔ above o (v + 1) = false := by
  cases o with
  | none =>
    have h : ∀ v < 9, ¬ nI v < (-1 : Int32) := by decide
    exact ⟨fun q => absurd q (h v (by omega)), fun q => by cases q⟩
  | some m =>
    have := ho m rfl
    simp only [optM, above]
    rw [nI_ltI (by omega) (by omega)]
    simp
    omega
set_option maxHeartbeats 4000000 in
set_option maxRecDepth 100000 in
theorem c1_bestSugar (S : Sv) (σ : St) (hR : RepS (σ 2 0) S) (hO : SOK S) (n : Nat) (hn : n < 2 ^ 31) : Ct M1_bestSugar 5 [.inr (.inr (0, 0, 0)), .inr (.inr (2, 0, 0)), .inl (nI n)] σ (PI fun r9 σ' => nI (bsug S n 10).1 = r9 ∧ Only 2 3 σ σ') := by
  refine Ct.of f_1_bestSugar (Nat.le_of_ble_eq_true rfl) ?_
  show AW M1_bestSugar 5 _ (0, [(0, .inr (.inr (0, 0, 0))), (1, .inr (.inr (2, 0, 0))), (2, .inl (nI n))], [], σ)
  refine AW.run 6 [] (8, [(5, .inl 0), (4, .inl (-1)), (3, .inl 0), (0, .inr (.inr (0, 0, 0))), (1, .inr (.inr (2, 0, 0))), (2, .inl (nI n))], [], σ) [] rfl ?_ ?_
  · exact trivial
  refine AW.pick [3, 4, 5, 2, 1, 0] (ls' := [(0, .inr (.inr (0, 0, 0))), (1, .inr (.inr (2, 0, 0))), (2, .inl (nI n)), (3, .inl (nI (bsug S n 0).1)), (4, .inl (optM (bsug S n 0).2)), (5, .inl (nI 0))]) rfl ?_
  refine AW.loop (α := Unit) 8 10 (fun d _ => [(0, .inr (.inr (0, 0, 0))), (1, .inr (.inr (2, 0, 0))), (2, .inl (nI n)), (3, .inl (nI (bsug S n d).1)), (4, .inl (optM (bsug S n d).2)), (5, .inl (nI d))]) (fun d _ τ => Only 2 3 σ τ) ?_ ?_ 10 0 () _ (by omega) only_rfl
  · intro d _ τ hd hA hk
    obtain ⟨hlim, _⟩ := bsug_le (S := S) (n := n) d
    have hle := leftS_le (withU S d (She S)) n
    by_cases hab : above (bsug S n d).2 (leftS (withU S d (She S)) n + 1) = true
    · have hs : bsug S n (d + 1) = (d, some (leftS (withU S d (She S)) n)) := by simp only [bsug]; rw [if_pos hab]
      refine AW.run 7 [false] (20, [(0, .inr (.inr (0, 0, 0))), (1, .inr (.inr (2, 0, 0))), (2, .inl (nI n)), (3, .inl (nI (bsug S n d).1)), (4, .inl (optM (bsug S n d).2)), (5, .inl (nI d))], [.inl (nI n), .inl (nI d), .inr (.inr (2, 0, 0)), .inr (.inr (0, 0, 0))], τ) [¬ icP .gt (nI d) 9] rfl ?_ ?_
      · exact allP1 (nI_nlt (a := 9) (b := d) (by omega) (by omega))
      refine AW.callVI (d' := 4) [.inr (.inr (2, 0, 0)), .inl (nI d), .inl (nI n)] [] ⟨_, rfl⟩ f_1_leftWithSugar v_1_leftWithSugar l_1_98 ⟨rfl, by decide⟩ rfl (Nat.le_of_ble_eq_true rfl) rfl (Nat.le_of_ble_eq_true rfl) (c1_leftWithSugar S τ (only_rep hA hR) hO d n (by omega) (by omega)) ?_
      rintro _ τ45 ⟨rfl, a45⟩
      refine AW.run 10 [false] (8, [(5, .inl ((nI d) + 1)), (3, .inl (nI d)), (4, .inl (nI (leftS (withU S d (She S)) n))), (6, .inl (nI (leftS (withU S d (She S)) n))), (0, .inr (.inr (0, 0, 0))), (1, .inr (.inr (2, 0, 0))), (2, .inl (nI n))], [], τ45) [¬ icP .lt (nI (leftS (withU S d (She S)) n)) (optM (bsug S n d).2)] rfl ?_ ?_
      · exact allP1 (fun q9 => by rw [(above_ge hle hlim).mp q9] at hab; cases hab)
      have hx := hk () τ45 (only_trans hA a45)
      rw [hs, ← nI_1 d] at hx
      refine AW.pick [4, 5, 6, 1, 2, 0] (ls' := _) rfl ?_
      exact hx
    · have hs : bsug S n (d + 1) = bsug S n d := by simp only [bsug]; rw [if_neg hab]
      refine AW.run 7 [false] (20, [(0, .inr (.inr (0, 0, 0))), (1, .inr (.inr (2, 0, 0))), (2, .inl (nI n)), (3, .inl (nI (bsug S n d).1)), (4, .inl (optM (bsug S n d).2)), (5, .inl (nI d))], [.inl (nI n), .inl (nI d), .inr (.inr (2, 0, 0)), .inr (.inr (0, 0, 0))], τ) [¬ icP .gt (nI d) 9] rfl ?_ ?_
      · exact allP1 (nI_nlt (a := 9) (b := d) (by omega) (by omega))
      refine AW.callVI (d' := 4) [.inr (.inr (2, 0, 0)), .inl (nI d), .inl (nI n)] [] ⟨_, rfl⟩ f_1_leftWithSugar v_1_leftWithSugar l_1_98 ⟨rfl, by decide⟩ rfl (Nat.le_of_ble_eq_true rfl) rfl (Nat.le_of_ble_eq_true rfl) (c1_leftWithSugar S τ (only_rep hA hR) hO d n (by omega) (by omega)) ?_
      rintro _ τ46 ⟨rfl, a46⟩
      refine AW.run 6 [true] (8, [(5, .inl ((nI d) + 1)), (6, .inl (nI (leftS (withU S d (She S)) n))), (0, .inr (.inr (0, 0, 0))), (1, .inr (.inr (2, 0, 0))), (2, .inl (nI n)), (3, .inl (nI (bsug S n d).1)), (4, .inl (optM (bsug S n d).2))], [], τ46) [icP .lt (nI (leftS (withU S d (She S)) n)) (optM (bsug S n d).2)] rfl ?_ ?_
      · exact allP1 ((above_ge hle hlim).mpr (by cases hb9 : above (bsug S n d).2 (leftS (withU S d (She S)) n + 1); rfl; exact absurd hb9 hab))
      have hx := hk () τ46 (only_trans hA a46)
      rw [hs, ← nI_1 d] at hx
      refine AW.pick [2, 3, 4, 5, 6, 0] (ls' := _) rfl ?_
      exact hx
  · intro _ τ hI
    refine AW.run 4 [true] (46, [(0, .inr (.inr (0, 0, 0))), (1, .inr (.inr (2, 0, 0))), (2, .inl (nI n)), (3, .inl (nI (bsug S n 10).1)), (4, .inl (optM (bsug S n 10).2)), (5, .inl (nI 10))], [.inl (nI (bsug S n 10).1)], τ) [icP .gt (nI 10) 9] rfl ?_ ?_
    · exact allP1 (nI_lt (a := 9) (b := 10) (by decide) (by decide))
    refine AW.reti ⟨_, rfl⟩ rfl ?_
    exact ⟨rfl, hI⟩
end
section
/-! THE MIND, FOURTH PART -/
def readyN (T : Sv) (b v : Nat) : Bool := Sw T b && decide (v ≤ Sq T b)
def wantN (T : Sv) (b : Nat) : Nat := if Sw T b = true then 5 + Sq T b / 10 else 0
theorem ten_n : ∀ q < 100, nI q / 10 = nI (q / 10) := by decide +kernel
theorem mul10 : ∀ i < 8, (10 : Int32) * nI i = nI (10 * i) := by decide
def upA (st : Option Nat × Option Nat) (c : Nat) (o : Option Nat) : Option Nat × Option Nat := match o with
  | none => st
  | some v => if above st.2 v = true then (some c, some v) else st
def chgF (S : Sv) (n i j : Nat) : Option Nat := if Sw S i = true ∧ Sw S j = true then some (leftS (withP S (fu (fu (Sp S) i (Sp S j)) j (Sp S i))) n) else none
def chgJ (S : Sv) (n i : Nat) (st : Option Nat × Option Nat) : Nat → Option Nat × Option Nat
  | 0 => st
  | k + 1 => upA (chgJ S n i st k) (10 * i + (i + 1 + k)) (chgF S n i (i + 1 + k))
def chgO (S : Sv) (n : Nat) : Nat → Option Nat × Option Nat
  | 0 => (none, some (leftS S n))
  | i + 1 => chgJ S n i (chgO S n i) (7 - i)
theorem chgF_le {S : Sv} {n i j v : Nat} (h : chgF S n i j = some v) : v ≤ 8 := by
  unfold chgF at h
  split at h
  · cases h; exact leftS_le _ _
  · cases h
theorem upA_le {st : Option Nat × Option Nat} {c : Nat} {o : Option Nat} (ho : ∀ v, o = some v → v ≤ 8) (h : ∀ m, st.2 = some m → m ≤ 8) : ∀ m, (upA st c o).2 = some m → m ≤ 8 := by
  intro m hm
  unfold upA at hm
  split at hm
  · exact h m hm
  · rename_i v
    split at hm
    · cases hm; exact ho _ rfl
    · exact h m hm
theorem chgJ_le {S : Sv} {n i : Nat} {st : Option Nat × Option Nat} (h : ∀ m, st.2 = some m → m ≤ 8) : ∀ k, ∀ m, (chgJ S n i st k).2 = some m → m ≤ 8
  | 0 => h
  | k + 1 => upA_le (fun v hv => chgF_le hv) (chgJ_le h k)
theorem chgO_le {S : Sv} {n : Nat} : ∀ i, ∀ m, (chgO S n i).2 = some m → m ≤ 8
  | 0 => fun m h => by cases h; exact leftS_le _ _
  | i + 1 => chgJ_le (chgO_le i) _
/-- the least sugar from u on -/
def rdyN (S : Sv) (b v n : Nat) : Nat → Nat → Option Nat
  | 0, _ => none
  | k + 1, u => if readyN (passS n (withU S u (She S))) b v = true then some u else rdyN S b v n k (u + 1)
/-- ready behind any of the days from d on, of which those ahead of m are sweet -/
def swtN (b v m : Nat) : Nat → Nat → Sv → Bool
  | 0, _, _ => false
  | k + 1, d, T => if readyN T b v = true then true else swtN b v m k (d + 1) (dayS (withU T (if d < m then 9 else 0) (She T)))
def fedN (S : Sv) (b v : Nat) : Nat → Nat → Option Nat
  | 0, _ => none
  | k + 1, m => if swtN b v m 31 0 S = true then some m else fedN S b v k (m + 1)
def hlvD (d : Nat) (T : Sv) : Sv := dayS (if d % 7 = 0 then halfS T else T)
def hlvN (S : Sv) : Nat → Nat → Sv → Option Nat
  | 0, _, _ => none
  | k + 1, d, T => if sameW (hlvD d T) S = true then hlvN S k (d + 1) (hlvD d T) else some d
theorem SOK_hlv {T : Sv} {d : Nat} (h : SOK T) : SOK (hlvD d T) := by
  unfold hlvD
  split
  · exact SOK_day (SOK_halfQ h 8)
  · exact SOK_day h
def endN : Nat → Nat → Sv → Option Nat
  | 0, _, _ => none
  | k + 1, d, T => if bN (Sw T) = 0 then some d else endN k (d + 1) (dayS T)
/-- the greatest heat below k -/
def clmN (S : Sv) : Nat → Option Nat
  | 0 => none
  | h + 1 => if sameW (dayS (withU S (Su S) h)) S = true then some h else clmN S h
theorem rem7 : ∀ d < 61, (nI d - nI d / 7 * 7 = 0) ↔ d % 7 = 0 := by decide +kernel
theorem bI_z {f : Nat → Bool} : bI f = 0 ↔ bN f = 0 := by
  have : (0 : Int32) = nI 0 := by decide
  unfold bI
  rw [this, nI_eq (by have := bN_lt f; omega) (by decide)]

set_option maxHeartbeats 4000000 in
set_option maxRecDepth 100000 in
theorem c1_isReady (T : Sv) (σ : St) (hT : RepS (σ 2 3) T) (hOT : SOK T) (b v : Nat) (hb : b < Sn T) (hv : v < 2 ^ 31) : Ct M1_isReady 2 [.inr (.inr (0, 0, 0)), .inl (nI b), .inl (nI v)] σ (PB σ (readyN T b v = true) (readyN T b v = false)) := by
  refine Ct.of f_1_isReady (Nat.le_of_ble_eq_true rfl) ?_
  show AW M1_isReady 2 _ (0, [(0, .inr (.inr (0, 0, 0))), (1, .inl (nI b)), (2, .inl (nI v))], [], σ)
  have hq := (hOT.2.1 b).2.2.2
  have hn := hOT.1
  refine AW.run 3 [] (5, [(0, .inr (.inr (0, 0, 0))), (1, .inl (nI b)), (2, .inl (nI v))], [.inl (nI b), .inr (.inr (2, 3, 0))], σ) [] rfl ?_ ?_
  · exact trivial
  refine AW.callVI (d' := 0) [.inl (nI b)] [] ⟨_, rfl⟩ f_3_isWhole v_3_isWhole l_1_43 ⟨rfl, by decide⟩ rfl (Nat.le_of_ble_eq_true rfl) rfl (Nat.le_of_ble_eq_true rfl) (c3_isWhole 3 T σ hT hOT b (by omega)) ?_
  rintro v _ ⟨rfl, hv⟩
  rcases hv with ⟨rfl, hp5⟩ | ⟨rfl, hp5⟩
  · skip
    refine AW.run 4 [false] (16, [(0, .inr (.inr (0, 0, 0))), (1, .inl (nI b)), (2, .inl (nI v))], [.inl (nI b), .inr (.inr (2, 3, 0))], σ) [¬ icP .eq (1 : Int32) 0] rfl ?_ ?_
    · exact allP1 (by decide : ¬ ((1 : Int32) = 0))
    refine AW.callVI (d' := 1) [.inl (nI b)] [] ⟨_, rfl⟩ f_3_pressOf v_3_pressOf l_1_106 ⟨rfl, by decide⟩ rfl (Nat.le_of_ble_eq_true rfl) rfl (Nat.le_of_ble_eq_true rfl) (c3_pressOf 3 T σ hT hOT b hb) ?_
    rintro _ _ ⟨rfl, rfl⟩
    by_cases h20_1 : v ≤ Sq T b
    · skip
      refine AW.run 4 [false] (28, [(0, .inr (.inr (0, 0, 0))), (1, .inl (nI b)), (2, .inl (nI v))], [.inl 1], σ) [¬ icP .lt (nI (Sq T b)) (nI v)] rfl ?_ ?_
      · exact allP1 (nI_nlt h20_1 (by omega))
      refine AW.retz ⟨_, rfl⟩ rfl (by decide) ?_
      exact ⟨rfl, Or.inl ⟨rfl, by simp [readyN, hp5]; assumption⟩⟩
    · skip
      refine AW.run 3 [true] (28, [(0, .inr (.inr (0, 0, 0))), (1, .inl (nI b)), (2, .inl (nI v))], [.inl 0], σ) [icP .lt (nI (Sq T b)) (nI v)] rfl ?_ ?_
      · exact allP1 (nI_lt (by omega) (by omega))
      refine AW.retz ⟨_, rfl⟩ rfl (by decide) ?_
      exact ⟨rfl, Or.inr ⟨rfl, by first | (simp [readyN, hp5]; done) | (simp [readyN, hp5]; omega)⟩⟩
  · skip
    refine AW.run 2 [true] (28, [(0, .inr (.inr (0, 0, 0))), (1, .inl (nI b)), (2, .inl (nI v))], [.inl 0], σ) [icP .eq (0 : Int32) 0] rfl ?_ ?_
    · exact allP1 (by decide : ((0 : Int32) = 0))
    refine AW.retz ⟨_, rfl⟩ rfl (by decide) ?_
    exact ⟨rfl, Or.inr ⟨rfl, by first | (simp [readyN, hp5]; done) | (simp [readyN, hp5]; omega)⟩⟩
set_option maxHeartbeats 4000000 in
set_option maxRecDepth 100000 in
theorem c1_wantMet (T : Sv) (σ : St) (hT : RepS (σ 2 3) T) (hOT : SOK T) (b : Nat) (hb : b < Sn T) : Ct M1_wantMet 2 [.inr (.inr (0, 0, 0)), .inl (nI b)] σ (PI fun v σ' => nI (wantN T b) = v ∧ σ = σ') := by
  refine Ct.of f_1_wantMet (Nat.le_of_ble_eq_true rfl) ?_
  show AW M1_wantMet 2 _ (0, [(0, .inr (.inr (0, 0, 0))), (1, .inl (nI b))], [], σ)
  have hq := (hOT.2.1 b).2.2.2
  have hn := hOT.1
  refine AW.run 3 [] (5, [(0, .inr (.inr (0, 0, 0))), (1, .inl (nI b))], [.inl (nI b), .inr (.inr (2, 3, 0))], σ) [] rfl ?_ ?_
  · exact trivial
  refine AW.callVI (d' := 0) [.inl (nI b)] [] ⟨_, rfl⟩ f_3_isWhole v_3_isWhole l_1_43 ⟨rfl, by decide⟩ rfl (Nat.le_of_ble_eq_true rfl) rfl (Nat.le_of_ble_eq_true rfl) (c3_isWhole 3 T σ hT hOT b (by omega)) ?_
  rintro v _ ⟨rfl, hv⟩
  rcases hv with ⟨rfl, hp5⟩ | ⟨rfl, hp5⟩
  · skip
    refine AW.run 5 [false] (17, [(0, .inr (.inr (0, 0, 0))), (1, .inl (nI b))], [.inl (nI b), .inr (.inr (2, 3, 0)), .inl 5], σ) [¬ icP .eq (1 : Int32) 0] rfl ?_ ?_
    · exact allP1 (by decide : ¬ ((1 : Int32) = 0))
    refine AW.callVI (d' := 1) [.inl (nI b)] [.inl 5] ⟨_, rfl⟩ f_3_pressOf v_3_pressOf l_1_106 ⟨rfl, by decide⟩ rfl (Nat.le_of_ble_eq_true rfl) rfl (Nat.le_of_ble_eq_true rfl) (c3_pressOf 3 T σ hT hOT b hb) ?_
    rintro _ _ ⟨rfl, rfl⟩
    refine AW.run 2 [] (23, [(0, .inr (.inr (0, 0, 0))), (1, .inl (nI b))], [.inl ((nI (Sq T b)) / 10), .inl 5], σ) [¬ (10 : Int32) = 0] rfl ?_ ?_
    · exact allP1 (by decide)
    rw [ten_n _ (by omega)]
    refine AW.run 2 [] (28, [(0, .inr (.inr (0, 0, 0))), (1, .inl (nI b))], [.inl (5 + (nI (Sq T b / 10)))], σ) [] rfl ?_ ?_
    · exact trivial
    refine AW.reti ⟨_, rfl⟩ rfl ?_
    exact ⟨by simp only [wantN, hp5, if_true]; exact (nI_add 5 _).symm, rfl⟩
  · skip
    refine AW.run 2 [true] (28, [(0, .inr (.inr (0, 0, 0))), (1, .inl (nI b))], [.inl 0], σ) [icP .eq (0 : Int32) 0] rfl ?_ ?_
    · exact allP1 (by decide : ((0 : Int32) = 0))
    refine AW.reti ⟨_, rfl⟩ rfl ?_
    exact ⟨by simp [wantN, hp5]; rfl, rfl⟩
set_option maxHeartbeats 4000000 in
set_option maxRecDepth 100000 in
theorem c1_bestChange (S : Sv) (σ : St) (hR : RepS (σ 2 0) S) (hO : SOK S) (n : Nat) (hn : n < 2 ^ 31) : Ct M1_bestChange 5 [.inr (.inr (0, 0, 0)), .inr (.inr (2, 0, 0)), .inl (nI n)] σ (PI fun r9 σ' => optI (chgO S n 8).1 = r9 ∧ Only 2 3 σ σ') := by
  refine Ct.of f_1_bestChange (Nat.le_of_ble_eq_true rfl) ?_
  show AW M1_bestChange 5 _ (0, [(0, .inr (.inr (0, 0, 0))), (1, .inr (.inr (2, 0, 0))), (2, .inl (nI n))], [], σ)
  refine AW.run 5 [] (6, [(3, .inl (-9)), (0, .inr (.inr (0, 0, 0))), (1, .inr (.inr (2, 0, 0))), (2, .inl (nI n))], [.inl (nI n), .inr (.inr (2, 0, 0)), .inr (.inr (0, 0, 0))], σ) [] rfl ?_ ?_
  · exact trivial
  refine AW.callVR (d' := 4) [.inr (.inr (2, 0, 0)), .inl (nI n)] [] ⟨_, rfl⟩ f_1_ahead v_1_ahead l_1_76 ⟨rfl, by decide⟩ rfl (Nat.le_of_ble_eq_true rfl) rfl (Nat.le_of_ble_eq_true rfl) (c1_ahead S σ hR hO n (by omega)) ?_
  rintro _ τ47 ⟨rfl, a47, b47⟩
  refine AW.run 1 [] (12, [(3, .inl (-9)), (0, .inr (.inr (0, 0, 0))), (1, .inr (.inr (2, 0, 0))), (2, .inl (nI n))], [.inl (τ47 2 3 0 8)], τ47) [] rfl ?_ ?_
  · exact trivial
  rw [b47.1.2.1]
  refine AW.callSI (d' := 0) [.inl (bI (Sw (passS n S)))] [] ⟨_, rfl⟩ f_J_bitCount s_J_bitCount l_1_37 rfl (Nat.le_of_ble_eq_true rfl) rfl (Nat.le_of_ble_eq_true rfl) (cJ_bitCount (bI (Sw (passS n S))) τ47) ?_
  rintro _ _ ⟨rfl, rfl⟩
  rw [bcV_bI]
  refine AW.run 3 [] (20, [(5, .inl 0), (4, .inl (nI (leftS S n))), (3, .inl (-9)), (0, .inr (.inr (0, 0, 0))), (1, .inr (.inr (2, 0, 0))), (2, .inl (nI n))], [], τ47) [] rfl ?_ ?_
  · exact trivial
  refine AW.pick [3, 4, 5, 2, 1, 0] (ls' := [(0, .inr (.inr (0, 0, 0))), (1, .inr (.inr (2, 0, 0))), (2, .inl (nI n)), (3, .inl (optI (chgO S n 0).1)), (4, .inl (optM (chgO S n 0).2)), (5, .inl (nI 0))]) rfl ?_
  refine AW.loop (α := Unit) 20 8 (fun i _ => [(0, .inr (.inr (0, 0, 0))), (1, .inr (.inr (2, 0, 0))), (2, .inl (nI n)), (3, .inl (optI (chgO S n i).1)), (4, .inl (optM (chgO S n i).2)), (5, .inl (nI i))]) (fun i _ τ => Only 2 3 σ τ) ?_ ?_ 8 0 () _ (by omega) (only_trans only_rfl a47)
  · intro i _ τ hi hA hk
    refine AW.run 7 [false] (33, [(6, .inl ((nI i) + 1)), (0, .inr (.inr (0, 0, 0))), (1, .inr (.inr (2, 0, 0))), (2, .inl (nI n)), (3, .inl (optI (chgO S n i).1)), (4, .inl (optM (chgO S n i).2)), (5, .inl (nI i))], [], τ) [¬ icP .ge (nI i) 8] rfl ?_ ?_
    · exact allP1 (nle_lit (a := 8) hi (by decide))
    rw [nI_1 i]
    refine AW.pick [1, 2, 3, 4, 5, 6, 0] (ls' := [(0, .inr (.inr (0, 0, 0))), (1, .inr (.inr (2, 0, 0))), (2, .inl (nI n)), (3, .inl (optI (chgJ S n i (chgO S n i) 0).1)), (4, .inl (optM (chgJ S n i (chgO S n i) 0).2)), (5, .inl (nI i)), (6, .inl (nI (i + 1 + 0)))]) rfl ?_
    refine AW.loop (α := Unit) 33 (7 - i) (fun k _ => [(0, .inr (.inr (0, 0, 0))), (1, .inr (.inr (2, 0, 0))), (2, .inl (nI n)), (3, .inl (optI (chgJ S n i (chgO S n i) k).1)), (4, .inl (optM (chgJ S n i (chgO S n i) k).2)), (5, .inl (nI i)), (6, .inl (nI (i + 1 + k)))]) (fun k _ τ => Only 2 3 σ τ) ?_ ?_ (7 - i) 0 () _ (by omega) hA
    · intro k _ τ hkk hA hk9
      have hlim := chgJ_le (S := S) (n := n) (i := i) (chgO_le (S := S) (n := n) i) k
      by_cases hwi : Sw S i = true
      · by_cases hwj : Sw S (i + 1 + k) = true
        · have hfi : chgF S n i (i + 1 + k) = some (leftS (withP S (fu (fu (Sp S) i (Sp S (i + 1 + k))) (i + 1 + k) (Sp S i))) n) := by simp [chgF, hwi, hwj]
          have hle := leftS_le (withP S (fu (fu (Sp S) i (Sp S (i + 1 + k))) (i + 1 + k) (Sp S i))) n
          by_cases hab : above (chgJ S n i (chgO S n i) k).2 (leftS (withP S (fu (fu (Sp S) i (Sp S (i + 1 + k))) (i + 1 + k) (Sp S i))) n) = true
          · have hs : chgJ S n i (chgO S n i) (k + 1) = (some (10 * i + (i + 1 + k)), some (leftS (withP S (fu (fu (Sp S) i (Sp S (i + 1 + k))) (i + 1 + k) (Sp S i))) n)) := by simp only [chgJ, upA, hfi]; rw [if_pos hab]
            refine AW.run 5 [false] (43, [(0, .inr (.inr (0, 0, 0))), (1, .inr (.inr (2, 0, 0))), (2, .inl (nI n)), (3, .inl (optI (chgJ S n i (chgO S n i) k).1)), (4, .inl (optM (chgJ S n i (chgO S n i) k).2)), (5, .inl (nI i)), (6, .inl (nI (i + 1 + k)))], [.inl (nI i), .inr (.inr (2, 0, 0))], τ) [¬ icP .ge (nI (i + 1 + k)) 8] rfl ?_ ?_
            · exact allP1 (nle_lit (a := 8) (b := i + 1 + k) (by omega) (by decide))
            refine AW.callVI (d' := 0) [.inl (nI i)] [] ⟨_, rfl⟩ f_3_isWhole v_3_isWhole l_1_43 ⟨rfl, by decide⟩ rfl (Nat.le_of_ble_eq_true rfl) rfl (Nat.le_of_ble_eq_true rfl) (c3_isWhole 0 S τ (only_rep hA hR) hO i (by omega)) ?_
            rintro v _ ⟨rfl, hv⟩
            obtain rfl : v = 1 := by
              rcases hv with h | h
              · exact h.1
              · exact absurd (h.2.symm.trans hwi) (by decide)
            refine AW.run 3 [false] (52, [(0, .inr (.inr (0, 0, 0))), (1, .inr (.inr (2, 0, 0))), (2, .inl (nI n)), (3, .inl (optI (chgJ S n i (chgO S n i) k).1)), (4, .inl (optM (chgJ S n i (chgO S n i) k).2)), (5, .inl (nI i)), (6, .inl (nI (i + 1 + k)))], [.inl (nI (i + 1 + k)), .inr (.inr (2, 0, 0))], τ) [¬ icP .eq (1 : Int32) 0] rfl ?_ ?_
            · exact allP1 (by decide : ¬ ((1 : Int32) = 0))
            refine AW.callVI (d' := 0) [.inl (nI (i + 1 + k))] [] ⟨_, rfl⟩ f_3_isWhole v_3_isWhole l_1_43 ⟨rfl, by decide⟩ rfl (Nat.le_of_ble_eq_true rfl) rfl (Nat.le_of_ble_eq_true rfl) (c3_isWhole 0 S τ (only_rep hA hR) hO (i + 1 + k) (by omega)) ?_
            rintro v _ ⟨rfl, hv⟩
            obtain rfl : v = 1 := by
              rcases hv with h | h
              · exact h.1
              · exact absurd (h.2.symm.trans hwj) (by decide)
            refine AW.run 4 [true] (66, [(0, .inr (.inr (0, 0, 0))), (1, .inr (.inr (2, 0, 0))), (2, .inl (nI n)), (3, .inl (optI (chgJ S n i (chgO S n i) k).1)), (4, .inl (optM (chgJ S n i (chgO S n i) k).2)), (5, .inl (nI i)), (6, .inl (nI (i + 1 + k)))], [.inr (.inr (2, 0, 0)), .inr (.inr (2, 3, 0))], τ) [icP .ne (1 : Int32) 0] rfl ?_ ?_
            · exact allP1 (by decide : (¬ (1 : Int32) = 0))
            refine AW.callVV (d' := 1) [.inr (.inr (2, 0, 0))] [] ⟨_, rfl⟩ f_3_copyFrom v_3_copyFrom l_1_25 ⟨rfl, by decide⟩ rfl (Nat.le_of_ble_eq_true rfl) rfl (Nat.le_of_ble_eq_true rfl) (c3_copyFrom 3 0 (by decide) S τ (only_rep hA hR) hO) ?_
            rintro τ48 ⟨a48, b48⟩
            refine AW.run 5 [] (78, [(0, .inr (.inr (0, 0, 0))), (1, .inr (.inr (2, 0, 0))), (2, .inl (nI n)), (3, .inl (optI (chgJ S n i (chgO S n i) k).1)), (4, .inl (optM (chgJ S n i (chgO S n i) k).2)), (5, .inl (nI i)), (6, .inl (nI (i + 1 + k)))], [.inl (nI (i + 1 + k)), .inr (.inr (2, 0, 0)), .inl (nI i), .inr (.inr (2, 3, 0))], τ48) [] rfl ?_ ?_
            · exact trivial
            refine AW.callVI (d' := 1) [.inl (nI (i + 1 + k))] [.inl (nI i), .inr (.inr (2, 3, 0))] ⟨_, rfl⟩ f_3_placeOf v_3_placeOf l_1_89 ⟨rfl, by decide⟩ rfl (Nat.le_of_ble_eq_true rfl) rfl (Nat.le_of_ble_eq_true rfl) (c3_placeOf 0 S τ48 (only_rep (only_trans hA a48) hR) hO (i + 1 + k) (SOK_lt hO hwj)) ?_
            rintro _ _ ⟨rfl, rfl⟩
            refine AW.callVV (d' := 1) [.inl (nI i), .inl (nI (Sp S (i + 1 + k)))] [] ⟨_, rfl⟩ f_3_setPlace v_3_setPlace l_1_69 ⟨rfl, by decide⟩ rfl (Nat.le_of_ble_eq_true rfl) rfl (Nat.le_of_ble_eq_true rfl) (c3_setPlace 3 S τ48 b48 hO i (Sp S (i + 1 + k)) (SOK_lt hO hwi)) ?_
            rintro τ49 ⟨a49, b49⟩
            refine AW.run 5 [] (93, [(0, .inr (.inr (0, 0, 0))), (1, .inr (.inr (2, 0, 0))), (2, .inl (nI n)), (3, .inl (optI (chgJ S n i (chgO S n i) k).1)), (4, .inl (optM (chgJ S n i (chgO S n i) k).2)), (5, .inl (nI i)), (6, .inl (nI (i + 1 + k)))], [.inl (nI i), .inr (.inr (2, 0, 0)), .inl (nI (i + 1 + k)), .inr (.inr (2, 3, 0))], τ49) [] rfl ?_ ?_
            · exact trivial
            refine AW.callVI (d' := 1) [.inl (nI i)] [.inl (nI (i + 1 + k)), .inr (.inr (2, 3, 0))] ⟨_, rfl⟩ f_3_placeOf v_3_placeOf l_1_89 ⟨rfl, by decide⟩ rfl (Nat.le_of_ble_eq_true rfl) rfl (Nat.le_of_ble_eq_true rfl) (c3_placeOf 0 S τ49 (only_rep (only_trans (only_trans hA a48) a49) hR) hO (i) (SOK_lt hO hwi)) ?_
            rintro _ _ ⟨rfl, rfl⟩
            refine AW.callVV (d' := 1) [.inl (nI (i + 1 + k)), .inl (nI (Sp S i))] [] ⟨_, rfl⟩ f_3_setPlace v_3_setPlace l_1_69 ⟨rfl, by decide⟩ rfl (Nat.le_of_ble_eq_true rfl) rfl (Nat.le_of_ble_eq_true rfl) (c3_setPlace 3 (withP S (fu (Sp S) i (Sp S (i + 1 + k)))) τ49 b49 (SOK_p hO (SOK_lt hO hwi) (hO.2.1 (i + 1 + k)).2.2.1) (i + 1 + k) (Sp S i) (SOK_lt hO hwj)) ?_
            rintro τ50 ⟨a50, b50⟩
            refine AW.run 2 [] (101, [(0, .inr (.inr (0, 0, 0))), (1, .inr (.inr (2, 0, 0))), (2, .inl (nI n)), (3, .inl (optI (chgJ S n i (chgO S n i) k).1)), (4, .inl (optM (chgJ S n i (chgO S n i) k).2)), (5, .inl (nI i)), (6, .inl (nI (i + 1 + k)))], [.inl (nI n), .inr (.inr (0, 0, 0))], τ50) [] rfl ?_ ?_
            · exact trivial
            refine AW.callVI (d' := 4) [.inl (nI n)] [] ⟨_, rfl⟩ f_1_leftBehind v_1_leftBehind l_1_73 ⟨rfl, by decide⟩ rfl (Nat.le_of_ble_eq_true rfl) rfl (Nat.le_of_ble_eq_true rfl) (c1_leftBehind (withP S (fu (fu (Sp S) i (Sp S (i + 1 + k))) (i + 1 + k) (Sp S i))) τ50 b50 (SOK_p (k := i + 1 + k) (q := Sp S i) (SOK_p hO (SOK_lt hO hwi) (hO.2.1 (i + 1 + k)).2.2.1) (SOK_lt hO hwj) (hO.2.1 i).2.2.1) n (by omega)) ?_
            rintro _ τ51 ⟨rfl, a51⟩
            refine AW.run 9 [false] (122, [(4, .inl (nI (leftS (withP S (fu (fu (Sp S) i (Sp S (i + 1 + k))) (i + 1 + k) (Sp S i))) n))), (7, .inl (nI (leftS (withP S (fu (fu (Sp S) i (Sp S (i + 1 + k))) (i + 1 + k) (Sp S i))) n))), (0, .inr (.inr (0, 0, 0))), (1, .inr (.inr (2, 0, 0))), (2, .inl (nI n)), (3, .inl (optI (chgJ S n i (chgO S n i) k).1)), (5, .inl (nI i)), (6, .inl (nI (i + 1 + k)))], [.inl (10 * (nI i))], τ51) [¬ icP .le (nI (leftS (withP S (fu (fu (Sp S) i (Sp S (i + 1 + k))) (i + 1 + k) (Sp S i))) n)) (optM (chgJ S n i (chgO S n i) k).2)] rfl ?_ ?_
            · exact allP1 (fun q9 => by rw [(above_cmp hle hlim).mp q9] at hab; cases hab)
            rw [mul10 i hi]
            refine AW.run 2 [] (125, [(4, .inl (nI (leftS (withP S (fu (fu (Sp S) i (Sp S (i + 1 + k))) (i + 1 + k) (Sp S i))) n))), (7, .inl (nI (leftS (withP S (fu (fu (Sp S) i (Sp S (i + 1 + k))) (i + 1 + k) (Sp S i))) n))), (0, .inr (.inr (0, 0, 0))), (1, .inr (.inr (2, 0, 0))), (2, .inl (nI n)), (3, .inl (optI (chgJ S n i (chgO S n i) k).1)), (5, .inl (nI i)), (6, .inl (nI (i + 1 + k)))], [.inl ((nI (10 * i)) + (nI (i + 1 + k)))], τ51) [] rfl ?_ ?_
            · exact trivial
            rw [nI_add]
            refine AW.run 3 [] (33, [(6, .inl ((nI (i + 1 + k)) + 1)), (3, .inl (nI (10 * i + (i + 1 + k)))), (4, .inl (nI (leftS (withP S (fu (fu (Sp S) i (Sp S (i + 1 + k))) (i + 1 + k) (Sp S i))) n))), (7, .inl (nI (leftS (withP S (fu (fu (Sp S) i (Sp S (i + 1 + k))) (i + 1 + k) (Sp S i))) n))), (0, .inr (.inr (0, 0, 0))), (1, .inr (.inr (2, 0, 0))), (2, .inl (nI n)), (5, .inl (nI i))], [], τ51) [] rfl ?_ ?_
            · exact trivial
            have hx := hk9 () τ51 (only_trans (only_trans (only_trans (only_trans hA a48) a49) a50) a51)
            rw [hs, show i + 1 + (k + 1) = i + 1 + k + 1 from rfl, ← nI_1 (i + 1 + k)] at hx
            refine AW.pick [4, 5, 6, 1, 2, 7, 0] (ls' := _) rfl ?_
            exact hx
          · have hs : chgJ S n i (chgO S n i) (k + 1) = chgJ S n i (chgO S n i) k := by simp only [chgJ, upA, hfi]; rw [if_neg hab]
            refine AW.run 5 [false] (43, [(0, .inr (.inr (0, 0, 0))), (1, .inr (.inr (2, 0, 0))), (2, .inl (nI n)), (3, .inl (optI (chgJ S n i (chgO S n i) k).1)), (4, .inl (optM (chgJ S n i (chgO S n i) k).2)), (5, .inl (nI i)), (6, .inl (nI (i + 1 + k)))], [.inl (nI i), .inr (.inr (2, 0, 0))], τ) [¬ icP .ge (nI (i + 1 + k)) 8] rfl ?_ ?_
            · exact allP1 (nle_lit (a := 8) (b := i + 1 + k) (by omega) (by decide))
            refine AW.callVI (d' := 0) [.inl (nI i)] [] ⟨_, rfl⟩ f_3_isWhole v_3_isWhole l_1_43 ⟨rfl, by decide⟩ rfl (Nat.le_of_ble_eq_true rfl) rfl (Nat.le_of_ble_eq_true rfl) (c3_isWhole 0 S τ (only_rep hA hR) hO i (by omega)) ?_
            rintro v _ ⟨rfl, hv⟩
            obtain rfl : v = 1 := by
              rcases hv with h | h
              · exact h.1
              · exact absurd (h.2.symm.trans hwi) (by decide)
            refine AW.run 3 [false] (52, [(0, .inr (.inr (0, 0, 0))), (1, .inr (.inr (2, 0, 0))), (2, .inl (nI n)), (3, .inl (optI (chgJ S n i (chgO S n i) k).1)), (4, .inl (optM (chgJ S n i (chgO S n i) k).2)), (5, .inl (nI i)), (6, .inl (nI (i + 1 + k)))], [.inl (nI (i + 1 + k)), .inr (.inr (2, 0, 0))], τ) [¬ icP .eq (1 : Int32) 0] rfl ?_ ?_
            · exact allP1 (by decide : ¬ ((1 : Int32) = 0))
            refine AW.callVI (d' := 0) [.inl (nI (i + 1 + k))] [] ⟨_, rfl⟩ f_3_isWhole v_3_isWhole l_1_43 ⟨rfl, by decide⟩ rfl (Nat.le_of_ble_eq_true rfl) rfl (Nat.le_of_ble_eq_true rfl) (c3_isWhole 0 S τ (only_rep hA hR) hO (i + 1 + k) (by omega)) ?_
            rintro v _ ⟨rfl, hv⟩
            obtain rfl : v = 1 := by
              rcases hv with h | h
              · exact h.1
              · exact absurd (h.2.symm.trans hwj) (by decide)
            refine AW.run 4 [true] (66, [(0, .inr (.inr (0, 0, 0))), (1, .inr (.inr (2, 0, 0))), (2, .inl (nI n)), (3, .inl (optI (chgJ S n i (chgO S n i) k).1)), (4, .inl (optM (chgJ S n i (chgO S n i) k).2)), (5, .inl (nI i)), (6, .inl (nI (i + 1 + k)))], [.inr (.inr (2, 0, 0)), .inr (.inr (2, 3, 0))], τ) [icP .ne (1 : Int32) 0] rfl ?_ ?_
            · exact allP1 (by decide : (¬ (1 : Int32) = 0))
            refine AW.callVV (d' := 1) [.inr (.inr (2, 0, 0))] [] ⟨_, rfl⟩ f_3_copyFrom v_3_copyFrom l_1_25 ⟨rfl, by decide⟩ rfl (Nat.le_of_ble_eq_true rfl) rfl (Nat.le_of_ble_eq_true rfl) (c3_copyFrom 3 0 (by decide) S τ (only_rep hA hR) hO) ?_
            rintro τ52 ⟨a52, b52⟩
            refine AW.run 5 [] (78, [(0, .inr (.inr (0, 0, 0))), (1, .inr (.inr (2, 0, 0))), (2, .inl (nI n)), (3, .inl (optI (chgJ S n i (chgO S n i) k).1)), (4, .inl (optM (chgJ S n i (chgO S n i) k).2)), (5, .inl (nI i)), (6, .inl (nI (i + 1 + k)))], [.inl (nI (i + 1 + k)), .inr (.inr (2, 0, 0)), .inl (nI i), .inr (.inr (2, 3, 0))], τ52) [] rfl ?_ ?_
            · exact trivial
            refine AW.callVI (d' := 1) [.inl (nI (i + 1 + k))] [.inl (nI i), .inr (.inr (2, 3, 0))] ⟨_, rfl⟩ f_3_placeOf v_3_placeOf l_1_89 ⟨rfl, by decide⟩ rfl (Nat.le_of_ble_eq_true rfl) rfl (Nat.le_of_ble_eq_true rfl) (c3_placeOf 0 S τ52 (only_rep (only_trans hA a52) hR) hO (i + 1 + k) (SOK_lt hO hwj)) ?_
            rintro _ _ ⟨rfl, rfl⟩
            refine AW.callVV (d' := 1) [.inl (nI i), .inl (nI (Sp S (i + 1 + k)))] [] ⟨_, rfl⟩ f_3_setPlace v_3_setPlace l_1_69 ⟨rfl, by decide⟩ rfl (Nat.le_of_ble_eq_true rfl) rfl (Nat.le_of_ble_eq_true rfl) (c3_setPlace 3 S τ52 b52 hO i (Sp S (i + 1 + k)) (SOK_lt hO hwi)) ?_
            rintro τ53 ⟨a53, b53⟩
            refine AW.run 5 [] (93, [(0, .inr (.inr (0, 0, 0))), (1, .inr (.inr (2, 0, 0))), (2, .inl (nI n)), (3, .inl (optI (chgJ S n i (chgO S n i) k).1)), (4, .inl (optM (chgJ S n i (chgO S n i) k).2)), (5, .inl (nI i)), (6, .inl (nI (i + 1 + k)))], [.inl (nI i), .inr (.inr (2, 0, 0)), .inl (nI (i + 1 + k)), .inr (.inr (2, 3, 0))], τ53) [] rfl ?_ ?_
            · exact trivial
            refine AW.callVI (d' := 1) [.inl (nI i)] [.inl (nI (i + 1 + k)), .inr (.inr (2, 3, 0))] ⟨_, rfl⟩ f_3_placeOf v_3_placeOf l_1_89 ⟨rfl, by decide⟩ rfl (Nat.le_of_ble_eq_true rfl) rfl (Nat.le_of_ble_eq_true rfl) (c3_placeOf 0 S τ53 (only_rep (only_trans (only_trans hA a52) a53) hR) hO (i) (SOK_lt hO hwi)) ?_
            rintro _ _ ⟨rfl, rfl⟩
            refine AW.callVV (d' := 1) [.inl (nI (i + 1 + k)), .inl (nI (Sp S i))] [] ⟨_, rfl⟩ f_3_setPlace v_3_setPlace l_1_69 ⟨rfl, by decide⟩ rfl (Nat.le_of_ble_eq_true rfl) rfl (Nat.le_of_ble_eq_true rfl) (c3_setPlace 3 (withP S (fu (Sp S) i (Sp S (i + 1 + k)))) τ53 b53 (SOK_p hO (SOK_lt hO hwi) (hO.2.1 (i + 1 + k)).2.2.1) (i + 1 + k) (Sp S i) (SOK_lt hO hwj)) ?_
            rintro τ54 ⟨a54, b54⟩
            refine AW.run 2 [] (101, [(0, .inr (.inr (0, 0, 0))), (1, .inr (.inr (2, 0, 0))), (2, .inl (nI n)), (3, .inl (optI (chgJ S n i (chgO S n i) k).1)), (4, .inl (optM (chgJ S n i (chgO S n i) k).2)), (5, .inl (nI i)), (6, .inl (nI (i + 1 + k)))], [.inl (nI n), .inr (.inr (0, 0, 0))], τ54) [] rfl ?_ ?_
            · exact trivial
            refine AW.callVI (d' := 4) [.inl (nI n)] [] ⟨_, rfl⟩ f_1_leftBehind v_1_leftBehind l_1_73 ⟨rfl, by decide⟩ rfl (Nat.le_of_ble_eq_true rfl) rfl (Nat.le_of_ble_eq_true rfl) (c1_leftBehind (withP S (fu (fu (Sp S) i (Sp S (i + 1 + k))) (i + 1 + k) (Sp S i))) τ54 b54 (SOK_p (k := i + 1 + k) (q := Sp S i) (SOK_p hO (SOK_lt hO hwi) (hO.2.1 (i + 1 + k)).2.2.1) (SOK_lt hO hwj) (hO.2.1 i).2.2.1) n (by omega)) ?_
            rintro _ τ55 ⟨rfl, a55⟩
            refine AW.run 6 [true] (33, [(6, .inl ((nI (i + 1 + k)) + 1)), (7, .inl (nI (leftS (withP S (fu (fu (Sp S) i (Sp S (i + 1 + k))) (i + 1 + k) (Sp S i))) n))), (0, .inr (.inr (0, 0, 0))), (1, .inr (.inr (2, 0, 0))), (2, .inl (nI n)), (3, .inl (optI (chgJ S n i (chgO S n i) k).1)), (4, .inl (optM (chgJ S n i (chgO S n i) k).2)), (5, .inl (nI i))], [], τ55) [icP .le (nI (leftS (withP S (fu (fu (Sp S) i (Sp S (i + 1 + k))) (i + 1 + k) (Sp S i))) n)) (optM (chgJ S n i (chgO S n i) k).2)] rfl ?_ ?_
            · exact allP1 ((above_cmp hle hlim).mpr (by cases hb9 : above (chgJ S n i (chgO S n i) k).2 (leftS (withP S (fu (fu (Sp S) i (Sp S (i + 1 + k))) (i + 1 + k) (Sp S i))) n); rfl; exact absurd hb9 hab))
            have hx := hk9 () τ55 (only_trans (only_trans (only_trans (only_trans hA a52) a53) a54) a55)
            rw [hs, show i + 1 + (k + 1) = i + 1 + k + 1 from rfl, ← nI_1 (i + 1 + k)] at hx
            refine AW.pick [2, 3, 4, 5, 6, 7, 0] (ls' := _) rfl ?_
            exact hx
        · have hs : chgJ S n i (chgO S n i) (k + 1) = chgJ S n i (chgO S n i) k := by simp [chgJ, upA, chgF, hwj]
          have hwf : Sw S (i + 1 + k) = false := by cases hb : Sw S (i + 1 + k); rfl; exact absurd hb hwj
          refine AW.run 5 [false] (43, [(0, .inr (.inr (0, 0, 0))), (1, .inr (.inr (2, 0, 0))), (2, .inl (nI n)), (3, .inl (optI (chgJ S n i (chgO S n i) k).1)), (4, .inl (optM (chgJ S n i (chgO S n i) k).2)), (5, .inl (nI i)), (6, .inl (nI (i + 1 + k)))], [.inl (nI i), .inr (.inr (2, 0, 0))], τ) [¬ icP .ge (nI (i + 1 + k)) 8] rfl ?_ ?_
          · exact allP1 (nle_lit (a := 8) (b := i + 1 + k) (by omega) (by decide))
          refine AW.callVI (d' := 0) [.inl (nI i)] [] ⟨_, rfl⟩ f_3_isWhole v_3_isWhole l_1_43 ⟨rfl, by decide⟩ rfl (Nat.le_of_ble_eq_true rfl) rfl (Nat.le_of_ble_eq_true rfl) (c3_isWhole 0 S τ (only_rep hA hR) hO i (by omega)) ?_
          rintro v _ ⟨rfl, hv⟩
          obtain rfl : v = 1 := by
            rcases hv with h | h
            · exact h.1
            · exact absurd (h.2.symm.trans hwi) (by decide)
          refine AW.run 3 [false] (52, [(0, .inr (.inr (0, 0, 0))), (1, .inr (.inr (2, 0, 0))), (2, .inl (nI n)), (3, .inl (optI (chgJ S n i (chgO S n i) k).1)), (4, .inl (optM (chgJ S n i (chgO S n i) k).2)), (5, .inl (nI i)), (6, .inl (nI (i + 1 + k)))], [.inl (nI (i + 1 + k)), .inr (.inr (2, 0, 0))], τ) [¬ icP .eq (1 : Int32) 0] rfl ?_ ?_
          · exact allP1 (by decide : ¬ ((1 : Int32) = 0))
          refine AW.callVI (d' := 0) [.inl (nI (i + 1 + k))] [] ⟨_, rfl⟩ f_3_isWhole v_3_isWhole l_1_43 ⟨rfl, by decide⟩ rfl (Nat.le_of_ble_eq_true rfl) rfl (Nat.le_of_ble_eq_true rfl) (c3_isWhole 0 S τ (only_rep hA hR) hO (i + 1 + k) (by omega)) ?_
          rintro v _ ⟨rfl, hv⟩
          obtain rfl : v = 0 := by
            rcases hv with h | h
            · exact absurd (h.2.symm.trans hwf) (by decide)
            · exact h.1
          refine AW.run 4 [false] (33, [(6, .inl ((nI (i + 1 + k)) + 1)), (0, .inr (.inr (0, 0, 0))), (1, .inr (.inr (2, 0, 0))), (2, .inl (nI n)), (3, .inl (optI (chgJ S n i (chgO S n i) k).1)), (4, .inl (optM (chgJ S n i (chgO S n i) k).2)), (5, .inl (nI i))], [], τ) [¬ icP .ne (0 : Int32) 0] rfl ?_ ?_
          · exact allP1 (by decide : ¬ (¬ (0 : Int32) = 0))
          have hx := hk9 () τ hA
          rw [hs, show i + 1 + (k + 1) = i + 1 + k + 1 from rfl, ← nI_1 (i + 1 + k)] at hx
          refine AW.pick [1, 2, 3, 4, 5, 6, 0] (ls' := _) rfl ?_
          exact hx
      · have hs : chgJ S n i (chgO S n i) (k + 1) = chgJ S n i (chgO S n i) k := by simp [chgJ, upA, chgF, hwi]
        have hwf : Sw S i = false := by cases hb : Sw S i; rfl; exact absurd hb hwi
        refine AW.run 5 [false] (43, [(0, .inr (.inr (0, 0, 0))), (1, .inr (.inr (2, 0, 0))), (2, .inl (nI n)), (3, .inl (optI (chgJ S n i (chgO S n i) k).1)), (4, .inl (optM (chgJ S n i (chgO S n i) k).2)), (5, .inl (nI i)), (6, .inl (nI (i + 1 + k)))], [.inl (nI i), .inr (.inr (2, 0, 0))], τ) [¬ icP .ge (nI (i + 1 + k)) 8] rfl ?_ ?_
        · exact allP1 (nle_lit (a := 8) (b := i + 1 + k) (by omega) (by decide))
        refine AW.callVI (d' := 0) [.inl (nI i)] [] ⟨_, rfl⟩ f_3_isWhole v_3_isWhole l_1_43 ⟨rfl, by decide⟩ rfl (Nat.le_of_ble_eq_true rfl) rfl (Nat.le_of_ble_eq_true rfl) (c3_isWhole 0 S τ (only_rep hA hR) hO i (by omega)) ?_
        rintro v _ ⟨rfl, hv⟩
        obtain rfl : v = 0 := by
          rcases hv with h | h
          · exact absurd (h.2.symm.trans hwf) (by decide)
          · exact h.1
        refine AW.run 3 [true] (33, [(6, .inl ((nI (i + 1 + k)) + 1)), (0, .inr (.inr (0, 0, 0))), (1, .inr (.inr (2, 0, 0))), (2, .inl (nI n)), (3, .inl (optI (chgJ S n i (chgO S n i) k).1)), (4, .inl (optM (chgJ S n i (chgO S n i) k).2)), (5, .inl (nI i))], [], τ) [icP .eq (0 : Int32) 0] rfl ?_ ?_
        · exact allP1 (by decide : ((0 : Int32) = 0))
        have hx := hk9 () τ hA
        rw [hs, show i + 1 + (k + 1) = i + 1 + k + 1 from rfl, ← nI_1 (i + 1 + k)] at hx
        refine AW.pick [1, 2, 3, 4, 5, 6, 0] (ls' := _) rfl ?_
        exact hx
    · intro _ τ hA
      have e8 : i + 1 + (7 - i) = 8 := by omega
      rw [e8]
      refine AW.run 5 [true] (20, [(5, .inl ((nI i) + 1)), (0, .inr (.inr (0, 0, 0))), (1, .inr (.inr (2, 0, 0))), (2, .inl (nI n)), (3, .inl (optI (chgJ S n i (chgO S n i) (7 - i)).1)), (4, .inl (optM (chgJ S n i (chgO S n i) (7 - i)).2)), (6, .inl (nI 8))], [], τ) [icP .ge (nI 8) 8] rfl ?_ ?_
      · exact allP1 (le_lit (a := 8) (b := 8) (by decide) (by decide))
      have hx := hk () τ hA
      rw [← nI_1 i] at hx
      refine AW.pick [1, 2, 3, 4, 5, 0] (ls' := _) rfl ?_
      exact hx
  · intro _ τ hI
    refine AW.run 4 [true] (139, [(0, .inr (.inr (0, 0, 0))), (1, .inr (.inr (2, 0, 0))), (2, .inl (nI n)), (3, .inl (optI (chgO S n 8).1)), (4, .inl (optM (chgO S n 8).2)), (5, .inl (nI 8))], [.inl (optI (chgO S n 8).1)], τ) [icP .ge (nI 8) 8] rfl ?_ ?_
    · exact allP1 (le_lit (a := 8) (b := 8) (by decide) (by decide))
    refine AW.reti ⟨_, rfl⟩ rfl ?_
    exact ⟨rfl, hI⟩
end
section
/-! THE MIND, FIFTH PART -/
theorem settle_n : ∀ (n : Nat) (S : Sv), Sn (settleS n S) = Sn S
  | 0, _ => rfl
  | n + 1, S => by
    unfold settleS
    split
    · rfl
    · exact settle_n n _
theorem day_n (S : Sv) : Sn (dayS S) = Sn S := settle_n 8 _
theorem pass_n : ∀ (n : Nat) (S : Sv), Sn (passS n S) = Sn S
  | 0, _ => rfl
  | n + 1, S => (pass_n n (dayS S)).trans (day_n S)
theorem settle_h : ∀ (n : Nat) (S : Sv), She (settleS n S) = She S
  | 0, _ => rfl
  | n + 1, S => by
    unfold settleS
    split
    · rfl
    · exact settle_h n _
theorem day_h (S : Sv) : She (dayS S) = She S := settle_h 8 _
set_option maxHeartbeats 4000000 in
set_option maxRecDepth 100000 in
theorem c1_leastSugarFor (S : Sv) (σ : St) (hR : RepS (σ 2 0) S) (hO : SOK S) (b v n : Nat) (hb : b < Sn S) (hv : v < 2 ^ 31) (hn : n < 2 ^ 31) : Ct M1_leastSugarFor 4 [.inr (.inr (0, 0, 0)), .inr (.inr (2, 0, 0)), .inl (nI b), .inl (nI v), .inl (nI n)] σ (PI fun r9 σ' => optI (rdyN S b v n 10 0) = r9 ∧ Only 2 3 σ σ') := by
  refine Ct.of f_1_leastSugarFor (Nat.le_of_ble_eq_true rfl) ?_
  show AW M1_leastSugarFor 4 _ (0, [(0, .inr (.inr (0, 0, 0))), (1, .inr (.inr (2, 0, 0))), (2, .inl (nI b)), (3, .inl (nI v)), (4, .inl (nI n))], [], σ)
  have hbn : ∀ u h, Sn (passS n (withU S u h)) = Sn S := fun u h => pass_n n _
  refine AW.run 2 [] (3, [(5, .inl 0), (0, .inr (.inr (0, 0, 0))), (1, .inr (.inr (2, 0, 0))), (2, .inl (nI b)), (3, .inl (nI v)), (4, .inl (nI n))], [], σ) [] rfl ?_ ?_
  · exact trivial
  refine AW.pick [1, 2, 3, 4, 5, 0] (ls' := [(0, .inr (.inr (0, 0, 0))), (1, .inr (.inr (2, 0, 0))), (2, .inl (nI b)), (3, .inl (nI v)), (4, .inl (nI n)), (5, .inl (nI 0))]) rfl ?_
  refine AW.loop (α := Unit) 3 10 (fun u _ => [(0, .inr (.inr (0, 0, 0))), (1, .inr (.inr (2, 0, 0))), (2, .inl (nI b)), (3, .inl (nI v)), (4, .inl (nI n)), (5, .inl (nI u))]) (fun u _ τ => Only 2 3 σ τ ∧ rdyN S b v n 10 0 = rdyN S b v n (10 - u) u) ?_ ?_ 10 0 () _ (by omega) ⟨only_rfl, rfl⟩
  · intro u _ τ hu hI hk
    obtain ⟨hA, hg⟩ := hI
    have hw : rdyN S b v n (10 - u) u = if readyN (passS n (withU S u (She S))) b v = true then some u else rdyN S b v n (10 - (u + 1)) (u + 1) := by
      obtain ⟨m, hm⟩ : ∃ m, 10 - u = m + 1 := ⟨9 - u, by omega⟩
      rw [hm, show 10 - (u + 1) = m by omega]; rfl
    rw [hw] at hg
    refine AW.run 6 [false] (15, [(0, .inr (.inr (0, 0, 0))), (1, .inr (.inr (2, 0, 0))), (2, .inl (nI b)), (3, .inl (nI v)), (4, .inl (nI n)), (5, .inl (nI u))], [.inr (.inr (2, 0, 0)), .inr (.inr (2, 3, 0))], τ) [¬ icP .gt (nI u) 9] rfl ?_ ?_
    · exact allP1 (nI_nlt (a := 9) (b := u) (by omega) (by omega))
    refine AW.callVV (d' := 1) [.inr (.inr (2, 0, 0))] [] ⟨_, rfl⟩ f_3_copyFrom v_3_copyFrom l_1_25 ⟨rfl, by decide⟩ rfl (Nat.le_of_ble_eq_true rfl) rfl (Nat.le_of_ble_eq_true rfl) (c3_copyFrom 3 0 (by decide) S τ (only_rep hA hR) hO) ?_
    rintro τ56 ⟨a56, b56⟩
    refine AW.run 5 [] (28, [(0, .inr (.inr (0, 0, 0))), (1, .inr (.inr (2, 0, 0))), (2, .inl (nI b)), (3, .inl (nI v)), (4, .inl (nI n)), (5, .inl (nI u))], [.inl (τ56 2 0 0 11), .inl (nI u), .inr (.inr (2, 3, 0))], τ56) [] rfl ?_ ?_
    · exact trivial
    rw [(only_rep (only_trans hA a56) hR).1.2.2.2.2.1]
    refine AW.callVV (d' := 2) [.inl (nI u), .inl (nI (She S))] [] ⟨_, rfl⟩ f_3_nourish v_3_nourish l_1_95 ⟨rfl, by decide⟩ rfl (Nat.le_of_ble_eq_true rfl) rfl (Nat.le_of_ble_eq_true rfl) (c3_nourish 3 S τ56 b56 hO u (She S) (by omega) hO.2.2.2.2) ?_
    rintro τ57 ⟨a57, b57⟩
    refine AW.run 3 [] (37, [(0, .inr (.inr (0, 0, 0))), (1, .inr (.inr (2, 0, 0))), (2, .inl (nI b)), (3, .inl (nI v)), (4, .inl (nI n)), (5, .inl (nI u))], [.inl (nI n), .inr (.inr (2, 3, 0))], τ57) [] rfl ?_ ?_
    · exact trivial
    refine AW.callVV (d' := 3) [.inl (nI n)] [] ⟨_, rfl⟩ f_3_pass v_3_pass l_1_29 ⟨rfl, by decide⟩ rfl (Nat.le_of_ble_eq_true rfl) rfl (Nat.le_of_ble_eq_true rfl) (c3_pass 3 (withU S u (She S)) τ57 b57 (SOK_U hO (by omega) hO.2.2.2.2) n (by omega)) ?_
    rintro τ58 ⟨a58, b58⟩
    refine AW.run 3 [] (43, [(0, .inr (.inr (0, 0, 0))), (1, .inr (.inr (2, 0, 0))), (2, .inl (nI b)), (3, .inl (nI v)), (4, .inl (nI n)), (5, .inl (nI u))], [.inl (nI v), .inl (nI b), .inr (.inr (0, 0, 0))], τ58) [] rfl ?_ ?_
    · exact trivial
    refine AW.callVI (d' := 2) [.inl (nI b), .inl (nI v)] [] ⟨_, rfl⟩ f_1_isReady v_1_isReady l_1_102 ⟨rfl, by decide⟩ rfl (Nat.le_of_ble_eq_true rfl) rfl (Nat.le_of_ble_eq_true rfl) (c1_isReady (passS n (withU S u (She S))) τ58 b58 (SOK_pass n (SOK_U hO (by omega) hO.2.2.2.2)) b v (by rw [hbn]; exact hb) (by omega)) ?_
    rintro v9 _ ⟨rfl, hv9⟩
    rcases hv9 with ⟨rfl, hp43⟩ | ⟨rfl, hp43⟩
    · skip
      refine AW.run 2 [false] (51, [(0, .inr (.inr (0, 0, 0))), (1, .inr (.inr (2, 0, 0))), (2, .inl (nI b)), (3, .inl (nI v)), (4, .inl (nI n)), (5, .inl (nI u))], [.inl (nI u)], τ58) [¬ icP .eq (1 : Int32) 0] rfl ?_ ?_
      · exact allP1 (by decide : ¬ ((1 : Int32) = 0))
      refine AW.reti ⟨_, rfl⟩ rfl ?_
      exact ⟨by rw [hg, if_pos hp43]; rfl, (only_trans (only_trans (only_trans hA a56) a57) a58)⟩
    · skip
      refine AW.run 3 [true] (3, [(5, .inl ((nI u) + 1)), (0, .inr (.inr (0, 0, 0))), (1, .inr (.inr (2, 0, 0))), (2, .inl (nI b)), (3, .inl (nI v)), (4, .inl (nI n))], [], τ58) [icP .eq (0 : Int32) 0] rfl ?_ ?_
      · exact allP1 (by decide : ((0 : Int32) = 0))
      rw [nI_1 u]
      refine AW.pick [1, 2, 3, 4, 5, 0] (ls' := [(0, .inr (.inr (0, 0, 0))), (1, .inr (.inr (2, 0, 0))), (2, .inl (nI b)), (3, .inl (nI v)), (4, .inl (nI n)), (5, .inl (nI (u + 1)))]) rfl ?_
      exact hk () _ ⟨(only_trans (only_trans (only_trans hA a56) a57) a58), by rw [hg, if_neg (by rw [hp43]; decide)]⟩
  · intro _ τ hI
    obtain ⟨hA, hg⟩ := hI
    refine AW.run 4 [true] (60, [(0, .inr (.inr (0, 0, 0))), (1, .inr (.inr (2, 0, 0))), (2, .inl (nI b)), (3, .inl (nI v)), (4, .inl (nI n)), (5, .inl (nI 10))], [.inl (-9)], τ) [icP .gt (nI 10) 9] rfl ?_ ?_
    · exact allP1 (nI_lt (a := 9) (b := 10) (by decide) (by decide))
    refine AW.reti ⟨_, rfl⟩ rfl ?_
    exact ⟨by rw [hg]; rfl, hA⟩
theorem settle_u : ∀ (n : Nat) (S : Sv), Su (settleS n S) = Su S
  | 0, _ => rfl
  | n + 1, S => by
    unfold settleS
    split
    · rfl
    · exact settle_u n _
theorem day_u (S : Sv) : Su (dayS S) = Su S := settle_u 8 _
theorem withU_self {S : Sv} {u h : Nat} (hu : Su S = u) (hh : She S = h) : withU S u h = S := by rw [← hu, ← hh]; rfl
set_option maxHeartbeats 4000000 in
set_option maxRecDepth 100000 in
theorem c1_fewestSweetDays (S : Sv) (σ : St) (hR : RepS (σ 2 0) S) (hO : SOK S) (b v : Nat) (hb : b < Sn S) (hv : v < 2 ^ 31) : Ct M1_fewestSweetDays 3 [.inr (.inr (0, 0, 0)), .inr (.inr (2, 0, 0)), .inl (nI b), .inl (nI v)] σ (PI fun r9 σ' => optI (fedN S b v 31 0) = r9 ∧ Only 2 3 σ σ') := by
  refine Ct.of f_1_fewestSweetDays (Nat.le_of_ble_eq_true rfl) ?_
  show AW M1_fewestSweetDays 3 _ (0, [(0, .inr (.inr (0, 0, 0))), (1, .inr (.inr (2, 0, 0))), (2, .inl (nI b)), (3, .inl (nI v))], [], σ)
  refine AW.run 2 [] (3, [(4, .inl 0), (0, .inr (.inr (0, 0, 0))), (1, .inr (.inr (2, 0, 0))), (2, .inl (nI b)), (3, .inl (nI v))], [], σ) [] rfl ?_ ?_
  · exact trivial
  refine AW.pick [1, 2, 3, 4, 0] (ls' := [(0, .inr (.inr (0, 0, 0))), (1, .inr (.inr (2, 0, 0))), (2, .inl (nI b)), (3, .inl (nI v)), (4, .inl (nI 0))]) rfl ?_
  refine AW.loop (α := Unit) 3 31 (fun m _ => [(0, .inr (.inr (0, 0, 0))), (1, .inr (.inr (2, 0, 0))), (2, .inl (nI b)), (3, .inl (nI v)), (4, .inl (nI m))]) (fun m _ τ => Only 2 3 σ τ ∧ fedN S b v 31 0 = fedN S b v (31 - m) m) ?_ ?_ 31 0 () _ (by omega) ⟨only_rfl, rfl⟩
  · intro m _ τ hm hI hk
    obtain ⟨hA, hg⟩ := hI
    have hw : fedN S b v (31 - m) m = if swtN b v m 31 0 S = true then some m else fedN S b v (31 - (m + 1)) (m + 1) := by
      obtain ⟨k, hk⟩ : ∃ k, 31 - m = k + 1 := ⟨30 - m, by omega⟩
      rw [hk, show 31 - (m + 1) = k by omega]; rfl
    rw [hw] at hg
    refine AW.run 6 [false] (15, [(0, .inr (.inr (0, 0, 0))), (1, .inr (.inr (2, 0, 0))), (2, .inl (nI b)), (3, .inl (nI v)), (4, .inl (nI m))], [.inr (.inr (2, 0, 0)), .inr (.inr (2, 3, 0))], τ) [¬ icP .gt (nI m) 30] rfl ?_ ?_
    · exact allP1 (nI_nlt (a := 30) (b := m) (by omega) (by omega))
    refine AW.callVV (d' := 1) [.inr (.inr (2, 0, 0))] [] ⟨_, rfl⟩ f_3_copyFrom v_3_copyFrom l_1_25 ⟨rfl, by decide⟩ rfl (Nat.le_of_ble_eq_true rfl) rfl (Nat.le_of_ble_eq_true rfl) (c3_copyFrom 3 0 (by decide) S τ (only_rep hA hR) hO) ?_
    rintro τ59 ⟨a59, b59⟩
    refine AW.run 5 [] (28, [(0, .inr (.inr (0, 0, 0))), (1, .inr (.inr (2, 0, 0))), (2, .inl (nI b)), (3, .inl (nI v)), (4, .inl (nI m))], [.inl (τ59 2 0 0 11), .inl 9, .inr (.inr (2, 3, 0))], τ59) [] rfl ?_ ?_
    · exact trivial
    rw [(only_rep (only_trans hA a59) hR).1.2.2.2.2.1]
    refine AW.callVV (d' := 2) [.inl 9, .inl (nI (She S))] [] ⟨_, rfl⟩ f_3_nourish v_3_nourish l_1_95 ⟨rfl, by decide⟩ rfl (Nat.le_of_ble_eq_true rfl) rfl (Nat.le_of_ble_eq_true rfl) (c3_nourish 3 S τ59 b59 hO 9 (She S) (by omega) hO.2.2.2.2) ?_
    rintro τ60 ⟨a60, b60⟩
    refine AW.run 2 [] (34, [(5, .inl 0), (0, .inr (.inr (0, 0, 0))), (1, .inr (.inr (2, 0, 0))), (2, .inl (nI b)), (3, .inl (nI v)), (4, .inl (nI m))], [], τ60) [] rfl ?_ ?_
    · exact trivial
    refine AW.pick [1, 2, 3, 4, 5, 0] (ls' := [(0, .inr (.inr (0, 0, 0))), (1, .inr (.inr (2, 0, 0))), (2, .inl (nI b)), (3, .inl (nI v)), (4, .inl (nI m)), (5, .inl (nI 0))]) rfl ?_
    refine AW.loop (α := Sv) 34 31 (fun d T => [(0, .inr (.inr (0, 0, 0))), (1, .inr (.inr (2, 0, 0))), (2, .inl (nI b)), (3, .inl (nI v)), (4, .inl (nI m)), (5, .inl (nI d))]) (fun d T τ => Only 2 3 σ τ ∧ RepS (τ 2 3) (withU T (if d ≤ m then 9 else 0) (She T)) ∧ SOK T ∧ Sn T = Sn S ∧ She T = She S ∧ swtN b v m 31 0 S = swtN b v m (31 - d) d T) ?_ ?_ 31 0 S _ (by omega) ⟨(only_trans (only_trans hA a59) a60), (by rw [if_pos (Nat.zero_le _)]; exact b60), hO, rfl, rfl, rfl⟩
    · intro d T τ hd hI hk9
      obtain ⟨hA, hT, hOT, hTn, hTh, hs⟩ := hI
      have hOu : SOK (withU T (if d ≤ m then 9 else 0) (She T)) := SOK_U hOT (by split <;> omega) hOT.2.2.2.2
      have hrd : readyN (withU T (if d ≤ m then 9 else 0) (She T)) b v = readyN T b v := rfl
      have hw9 : swtN b v m (31 - d) d T = if readyN T b v = true then true else swtN b v m (31 - (d + 1)) (d + 1) (dayS (withU T (if d < m then 9 else 0) (She T))) := by
        obtain ⟨k, hk⟩ : ∃ k, 31 - d = k + 1 := ⟨30 - d, by omega⟩
        rw [hk, show 31 - (d + 1) = k by omega]; rfl
      rw [hw9] at hs
      by_cases hdm : d = m
      · skip
        refine AW.run 6 [false] (44, [(0, .inr (.inr (0, 0, 0))), (1, .inr (.inr (2, 0, 0))), (2, .inl (nI b)), (3, .inl (nI v)), (4, .inl (nI m)), (5, .inl (nI d))], [.inl (nI v), .inl (nI b), .inr (.inr (0, 0, 0))], τ) [¬ icP .gt (nI d) 30] rfl ?_ ?_
        · exact allP1 (nI_nlt (a := 30) (b := d) (by omega) (by omega))
        refine AW.callVI (d' := 2) [.inl (nI b), .inl (nI v)] [] ⟨_, rfl⟩ f_1_isReady v_1_isReady l_1_102 ⟨rfl, by decide⟩ rfl (Nat.le_of_ble_eq_true rfl) rfl (Nat.le_of_ble_eq_true rfl) (c1_isReady (withU T (if d ≤ m then 9 else 0) (She T)) τ hT hOu b v (show b < Sn T by omega) (by omega)) ?_
        rintro v9 _ ⟨rfl, hv9⟩
        rcases hv9 with ⟨rfl, hp44⟩ | ⟨rfl, hp44⟩
        · skip
          refine AW.run 2 [false] (52, [(0, .inr (.inr (0, 0, 0))), (1, .inr (.inr (2, 0, 0))), (2, .inl (nI b)), (3, .inl (nI v)), (4, .inl (nI m)), (5, .inl (nI d))], [.inl (nI m)], τ) [¬ icP .eq (1 : Int32) 0] rfl ?_ ?_
          · exact allP1 (by decide : ¬ ((1 : Int32) = 0))
          refine AW.reti ⟨_, rfl⟩ rfl ?_
          rw [hrd] at hp44
          rw [if_pos hp44] at hs
          exact ⟨by rw [hg, if_pos hs]; rfl, hA⟩
        · skip
          refine AW.run 9 [true, false] (69, [(0, .inr (.inr (0, 0, 0))), (1, .inr (.inr (2, 0, 0))), (2, .inl (nI b)), (3, .inl (nI v)), (4, .inl (nI m)), (5, .inl (nI d))], [.inl (τ 2 0 0 11), .inl 0, .inr (.inr (2, 3, 0))], τ) [icP .eq (0 : Int32) 0, ¬ icP .ne (nI d) (nI m)] rfl ?_ ?_
          · exact ⟨(by decide : ((0 : Int32) = 0)), allP1 (fun q => q (by rw [hdm]))⟩
          rw [(only_rep hA hR).1.2.2.2.2.1, ← hTh]
          refine AW.callVV (d' := 2) [.inl 0, .inl (nI (She T))] [] ⟨_, rfl⟩ f_3_nourish v_3_nourish l_1_95 ⟨rfl, by decide⟩ rfl (Nat.le_of_ble_eq_true rfl) rfl (Nat.le_of_ble_eq_true rfl) (c3_nourish 3 (withU T (if d ≤ m then 9 else 0) (She T)) τ hT hOu 0 (She T) (by omega) hOT.2.2.2.2) ?_
          rintro τ61 ⟨a61, b61⟩
          refine AW.run 2 [] (76, [(0, .inr (.inr (0, 0, 0))), (1, .inr (.inr (2, 0, 0))), (2, .inl (nI b)), (3, .inl (nI v)), (4, .inl (nI m)), (5, .inl (nI d))], [.inr (.inr (2, 3, 0))], τ61) [] rfl ?_ ?_
          · exact trivial
          refine AW.callVV (d' := 2) [] [] ⟨_, rfl⟩ f_3_dayGoesBy v_3_dayGoesBy l_1_47 ⟨rfl, by decide⟩ rfl (Nat.le_of_ble_eq_true rfl) rfl (Nat.le_of_ble_eq_true rfl) (c3_dayGoesBy 3 (withU T 0 (She T)) τ61 b61 (SOK_U hOT (by omega) hOT.2.2.2.2) ) ?_
          rintro τ62 ⟨a62, b62⟩
          refine AW.run 2 [] (34, [(5, .inl ((nI d) + 1)), (0, .inr (.inr (0, 0, 0))), (1, .inr (.inr (2, 0, 0))), (2, .inl (nI b)), (3, .inl (nI v)), (4, .inl (nI m))], [], τ62) [] rfl ?_ ?_
          · exact trivial
          rw [nI_1 d]
          refine AW.pick [1, 2, 3, 4, 5, 0] (ls' := [(0, .inr (.inr (0, 0, 0))), (1, .inr (.inr (2, 0, 0))), (2, .inl (nI b)), (3, .inl (nI v)), (4, .inl (nI m)), (5, .inl (nI (d + 1)))]) rfl ?_
          have hnew : RepS (τ62 2 3) (dayS (withU T (if d < m then 9 else 0) (She T))) := by
            have h9 := b62
            rw [if_neg (by omega)]; exact h9
          refine hk9 (dayS (withU T (if d < m then 9 else 0) (She T))) _ ⟨(only_trans (only_trans hA a61) a62), ?_, SOK_day (SOK_U hOT (by split <;> omega) hOT.2.2.2.2), (day_n _).trans hTn, (day_h _).trans hTh, ?_⟩
          · have e9 : withU (dayS (withU T (if d < m then 9 else 0) (She T))) (if d + 1 ≤ m then 9 else 0) (She (dayS (withU T (if d < m then 9 else 0) (She T)))) = dayS (withU T (if d < m then 9 else 0) (She T)) := by
              exact withU_self (day_u (withU T (if d < m then 9 else 0) (She T))) rfl
            rw [e9]; exact hnew
          · rw [hs, if_neg (by rw [← hrd, hp44]; decide)]
      · skip
        refine AW.run 6 [false] (44, [(0, .inr (.inr (0, 0, 0))), (1, .inr (.inr (2, 0, 0))), (2, .inl (nI b)), (3, .inl (nI v)), (4, .inl (nI m)), (5, .inl (nI d))], [.inl (nI v), .inl (nI b), .inr (.inr (0, 0, 0))], τ) [¬ icP .gt (nI d) 30] rfl ?_ ?_
        · exact allP1 (nI_nlt (a := 30) (b := d) (by omega) (by omega))
        refine AW.callVI (d' := 2) [.inl (nI b), .inl (nI v)] [] ⟨_, rfl⟩ f_1_isReady v_1_isReady l_1_102 ⟨rfl, by decide⟩ rfl (Nat.le_of_ble_eq_true rfl) rfl (Nat.le_of_ble_eq_true rfl) (c1_isReady (withU T (if d ≤ m then 9 else 0) (She T)) τ hT hOu b v (show b < Sn T by omega) (by omega)) ?_
        rintro v9 _ ⟨rfl, hv9⟩
        rcases hv9 with ⟨rfl, hp44⟩ | ⟨rfl, hp44⟩
        · skip
          refine AW.run 2 [false] (52, [(0, .inr (.inr (0, 0, 0))), (1, .inr (.inr (2, 0, 0))), (2, .inl (nI b)), (3, .inl (nI v)), (4, .inl (nI m)), (5, .inl (nI d))], [.inl (nI m)], τ) [¬ icP .eq (1 : Int32) 0] rfl ?_ ?_
          · exact allP1 (by decide : ¬ ((1 : Int32) = 0))
          refine AW.reti ⟨_, rfl⟩ rfl ?_
          rw [hrd] at hp44
          rw [if_pos hp44] at hs
          exact ⟨by rw [hg, if_pos hs]; rfl, hA⟩
        · skip
          refine AW.run 6 [true, true] (76, [(0, .inr (.inr (0, 0, 0))), (1, .inr (.inr (2, 0, 0))), (2, .inl (nI b)), (3, .inl (nI v)), (4, .inl (nI m)), (5, .inl (nI d))], [.inr (.inr (2, 3, 0))], τ) [icP .eq (0 : Int32) 0, icP .ne (nI d) (nI m)] rfl ?_ ?_
          · exact ⟨(by decide : ((0 : Int32) = 0)), allP1 (fun q => hdm (nI_lit q (by omega) (by omega)))⟩
          refine AW.callVV (d' := 2) [] [] ⟨_, rfl⟩ f_3_dayGoesBy v_3_dayGoesBy l_1_47 ⟨rfl, by decide⟩ rfl (Nat.le_of_ble_eq_true rfl) rfl (Nat.le_of_ble_eq_true rfl) (c3_dayGoesBy 3 (withU T (if d ≤ m then 9 else 0) (She T)) τ hT hOu ) ?_
          rintro τ63 ⟨a63, b63⟩
          refine AW.run 2 [] (34, [(5, .inl ((nI d) + 1)), (0, .inr (.inr (0, 0, 0))), (1, .inr (.inr (2, 0, 0))), (2, .inl (nI b)), (3, .inl (nI v)), (4, .inl (nI m))], [], τ63) [] rfl ?_ ?_
          · exact trivial
          rw [nI_1 d]
          refine AW.pick [1, 2, 3, 4, 5, 0] (ls' := [(0, .inr (.inr (0, 0, 0))), (1, .inr (.inr (2, 0, 0))), (2, .inl (nI b)), (3, .inl (nI v)), (4, .inl (nI m)), (5, .inl (nI (d + 1)))]) rfl ?_
          have hnew : RepS (τ63 2 3) (dayS (withU T (if d < m then 9 else 0) (She T))) := by
            have h9 := b63
            rcases Nat.lt_or_ge d m with hlt | hlt
            · rw [if_pos (show d ≤ m by omega)] at h9; rw [if_pos hlt]; exact h9
            · rw [if_neg (show ¬ d ≤ m by omega)] at h9; rw [if_neg (show ¬ d < m by omega)]; exact h9
          refine hk9 (dayS (withU T (if d < m then 9 else 0) (She T))) _ ⟨(only_trans hA a63), ?_, SOK_day (SOK_U hOT (by split <;> omega) hOT.2.2.2.2), (day_n _).trans hTn, (day_h _).trans hTh, ?_⟩
          · have e9 : withU (dayS (withU T (if d < m then 9 else 0) (She T))) (if d + 1 ≤ m then 9 else 0) (She (dayS (withU T (if d < m then 9 else 0) (She T)))) = dayS (withU T (if d < m then 9 else 0) (She T)) := by
              exact withU_self (day_u (withU T (if d < m then 9 else 0) (She T))) rfl
            rw [e9]; exact hnew
          · rw [hs, if_neg (by rw [← hrd, hp44]; decide)]
    · intro T τ hI
      obtain ⟨hA, hT, hOT, hTn, hTh, hs⟩ := hI
      have hs : swtN b v m 31 0 S = false := hs
      refine AW.run 5 [true] (3, [(4, .inl ((nI m) + 1)), (0, .inr (.inr (0, 0, 0))), (1, .inr (.inr (2, 0, 0))), (2, .inl (nI b)), (3, .inl (nI v)), (5, .inl (nI 31))], [], τ) [icP .gt (nI 31) 30] rfl ?_ ?_
      · exact allP1 (nI_lt (a := 30) (b := 31) (by decide) (by decide))
      rw [nI_1 m]
      refine AW.pick [1, 2, 3, 4, 0] (ls' := [(0, .inr (.inr (0, 0, 0))), (1, .inr (.inr (2, 0, 0))), (2, .inl (nI b)), (3, .inl (nI v)), (4, .inl (nI (m + 1)))]) rfl ?_
      exact hk () _ ⟨hA, by rw [hg, if_neg (by rw [hs]; decide)]⟩
  · intro _ τ hI
    obtain ⟨hA, hg⟩ := hI
    refine AW.run 4 [true] (93, [(0, .inr (.inr (0, 0, 0))), (1, .inr (.inr (2, 0, 0))), (2, .inl (nI b)), (3, .inl (nI v)), (4, .inl (nI 31))], [.inl (-9)], τ) [icP .gt (nI 31) 30] rfl ?_ ?_
    · exact allP1 (nI_lt (a := 30) (b := 31) (by decide) (by decide))
    refine AW.reti ⟨_, rfl⟩ rfl ?_
    exact ⟨by rw [hg]; rfl, hA⟩
end
section
/-! THE MIND, SIXTH PART -/
set_option maxHeartbeats 4000000 in
set_option maxRecDepth 100000 in
theorem c1_daysTillOneGoesHalved (S : Sv) (σ : St) (hR : RepS (σ 2 0) S) (hO : SOK S) : Ct M1_daysTillOneGoesHalved 3 [.inr (.inr (0, 0, 0)), .inr (.inr (2, 0, 0))] σ (PI fun r9 σ' => optI (hlvN S 60 1 S) = r9 ∧ Only 2 3 σ σ') := by
  refine Ct.of f_1_daysTillOneGoesHalved (Nat.le_of_ble_eq_true rfl) ?_
  show AW M1_daysTillOneGoesHalved 3 _ (0, [(0, .inr (.inr (0, 0, 0))), (1, .inr (.inr (2, 0, 0)))], [], σ)
  refine AW.run 3 [] (5, [(0, .inr (.inr (0, 0, 0))), (1, .inr (.inr (2, 0, 0)))], [.inr (.inr (2, 0, 0)), .inr (.inr (2, 3, 0))], σ) [] rfl ?_ ?_
  · exact trivial
  refine AW.callVV (d' := 1) [.inr (.inr (2, 0, 0))] [] ⟨_, rfl⟩ f_3_copyFrom v_3_copyFrom l_1_25 ⟨rfl, by decide⟩ rfl (Nat.le_of_ble_eq_true rfl) rfl (Nat.le_of_ble_eq_true rfl) (c3_copyFrom 3 0 (by decide) S σ hR hO) ?_
  rintro τ64 ⟨a64, b64⟩
  refine AW.run 2 [] (10, [(2, .inl 1), (0, .inr (.inr (0, 0, 0))), (1, .inr (.inr (2, 0, 0)))], [], τ64) [] rfl ?_ ?_
  · exact trivial
  refine AW.pick [1, 2, 0] (ls' := [(0, .inr (.inr (0, 0, 0))), (1, .inr (.inr (2, 0, 0))), (2, .inl (nI (0 + 1)))]) rfl ?_
  refine AW.loop (α := Sv) 10 60 (fun d T => [(0, .inr (.inr (0, 0, 0))), (1, .inr (.inr (2, 0, 0))), (2, .inl (nI (d + 1)))]) (fun d T τ => Only 2 3 σ τ ∧ RepS (τ 2 3) T ∧ SOK T ∧ hlvN S 60 1 S = hlvN S (60 - d) (d + 1) T) ?_ ?_ 60 0 S _ (by omega) ⟨(only_trans only_rfl a64), b64, hO, rfl⟩
  · intro d T τ hd hI hk
    obtain ⟨hA, hT, hOT, hg⟩ := hI
    have hw : hlvN S (60 - d) (d + 1) T = if sameW (hlvD (d + 1) T) S = true then hlvN S (60 - (d + 1)) (d + 1 + 1) (hlvD (d + 1) T) else some (d + 1) := by
      obtain ⟨k, hk⟩ : ∃ k, 60 - d = k + 1 := ⟨59 - d, by omega⟩
      rw [hk, show 60 - (d + 1) = k by omega]; rfl
    rw [hw] at hg
    have hr7 := rem7 (d + 1) (by omega)
    by_cases h7 : (d + 1) % 7 = 0
    · have hD : hlvD (d + 1) T = dayS (halfS T) := by simp [hlvD, h7]
      refine AW.run 9 [false, false] (27, [(0, .inr (.inr (0, 0, 0))), (1, .inr (.inr (2, 0, 0))), (2, .inl (nI (d + 1)))], [.inr (.inr (2, 3, 0))], τ) [¬ icP .gt (nI (d + 1)) 60, ¬ (7 : Int32) = 0, ¬ icP .ne ((nI (d + 1)) - (nI (d + 1)) / 7 * 7) 0] rfl ?_ ?_
      · exact ⟨(nI_nlt (a := 60) (b := d + 1) (by omega) (by omega)), (by decide), allP1 (fun q => q (hr7.mpr h7))⟩
      refine AW.callVV (d' := 1) [] [] ⟨_, rfl⟩ f_3_halvePress v_3_halvePress l_1_109 ⟨rfl, by decide⟩ rfl (Nat.le_of_ble_eq_true rfl) rfl (Nat.le_of_ble_eq_true rfl) (c3_halvePress 3 T τ hT hOT ) ?_
      rintro τ65 ⟨a65, b65⟩
      refine AW.run 2 [] (34, [(0, .inr (.inr (0, 0, 0))), (1, .inr (.inr (2, 0, 0))), (2, .inl (nI (d + 1)))], [.inr (.inr (2, 3, 0))], τ65) [] rfl ?_ ?_
      · exact trivial
      refine AW.callVV (d' := 2) [] [] ⟨_, rfl⟩ f_3_dayGoesBy v_3_dayGoesBy l_1_47 ⟨rfl, by decide⟩ rfl (Nat.le_of_ble_eq_true rfl) rfl (Nat.le_of_ble_eq_true rfl) (c3_dayGoesBy 3 (halfS T) τ65 b65 (SOK_halfQ hOT 8) ) ?_
      rintro τ66 ⟨a66, b66⟩
      refine AW.run 3 [] (44, [(0, .inr (.inr (0, 0, 0))), (1, .inr (.inr (2, 0, 0))), (2, .inl (nI (d + 1)))], [.inl (τ66 2 3 0 8)], τ66) [] rfl ?_ ?_
      · exact trivial
      rw [b66.1.2.1]
      refine AW.run 2 [] (48, [(0, .inr (.inr (0, 0, 0))), (1, .inr (.inr (2, 0, 0))), (2, .inl (nI (d + 1)))], [.inl (τ66 2 0 0 8), .inl (bI (Sw (dayS (halfS T))))], τ66) [] rfl ?_ ?_
      · exact trivial
      rw [(only_rep (only_trans (only_trans hA a65) a66) hR).1.2.1]
      by_cases h48_1 : sameW (hlvD (d + 1) T) S = true
      · skip
        refine AW.run 3 [true] (10, [(2, .inl ((nI (d + 1)) + 1)), (0, .inr (.inr (0, 0, 0))), (1, .inr (.inr (2, 0, 0)))], [], τ66) [icP .eq (bI (Sw (dayS (halfS T)))) (bI (Sw S))] rfl ?_ ?_
        · exact allP1 (bI_eq.mpr (by have := of_decide_eq_true h48_1; rw [hD] at this; exact this))
        rw [nI_1 (d + 1)]
        refine AW.pick [1, 2, 0] (ls' := [(0, .inr (.inr (0, 0, 0))), (1, .inr (.inr (2, 0, 0))), (2, .inl (nI (d + 1 + 1)))]) rfl ?_
        exact hk (hlvD (d + 1) T) _ ⟨(only_trans (only_trans hA a65) a66), by rw [hD]; exact b66, SOK_hlv hOT, by rw [hg, if_pos (by assumption)]⟩
      · skip
        refine AW.run 2 [false] (52, [(0, .inr (.inr (0, 0, 0))), (1, .inr (.inr (2, 0, 0))), (2, .inl (nI (d + 1)))], [.inl (nI (d + 1))], τ66) [¬ icP .eq (bI (Sw (dayS (halfS T)))) (bI (Sw S))] rfl ?_ ?_
        · exact allP1 (fun q => h48_1 (decide_eq_true (by rw [hD]; exact bI_eq.mp q)))
        refine AW.reti ⟨_, rfl⟩ rfl ?_
        exact ⟨by rw [hg, if_neg (by assumption)]; rfl, (only_trans (only_trans hA a65) a66)⟩
    · have hD : hlvD (d + 1) T = dayS T := by simp [hlvD, h7]
      refine AW.run 9 [false, true] (34, [(0, .inr (.inr (0, 0, 0))), (1, .inr (.inr (2, 0, 0))), (2, .inl (nI (d + 1)))], [.inr (.inr (2, 3, 0))], τ) [¬ icP .gt (nI (d + 1)) 60, ¬ (7 : Int32) = 0, icP .ne ((nI (d + 1)) - (nI (d + 1)) / 7 * 7) 0] rfl ?_ ?_
      · exact ⟨(nI_nlt (a := 60) (b := d + 1) (by omega) (by omega)), (by decide), allP1 (fun q => h7 (hr7.mp q))⟩
      refine AW.callVV (d' := 2) [] [] ⟨_, rfl⟩ f_3_dayGoesBy v_3_dayGoesBy l_1_47 ⟨rfl, by decide⟩ rfl (Nat.le_of_ble_eq_true rfl) rfl (Nat.le_of_ble_eq_true rfl) (c3_dayGoesBy 3 T τ hT hOT ) ?_
      rintro τ67 ⟨a67, b67⟩
      refine AW.run 3 [] (44, [(0, .inr (.inr (0, 0, 0))), (1, .inr (.inr (2, 0, 0))), (2, .inl (nI (d + 1)))], [.inl (τ67 2 3 0 8)], τ67) [] rfl ?_ ?_
      · exact trivial
      rw [b67.1.2.1]
      refine AW.run 2 [] (48, [(0, .inr (.inr (0, 0, 0))), (1, .inr (.inr (2, 0, 0))), (2, .inl (nI (d + 1)))], [.inl (τ67 2 0 0 8), .inl (bI (Sw (dayS T)))], τ67) [] rfl ?_ ?_
      · exact trivial
      rw [(only_rep (only_trans hA a67) hR).1.2.1]
      by_cases h48_1 : sameW (hlvD (d + 1) T) S = true
      · skip
        refine AW.run 3 [true] (10, [(2, .inl ((nI (d + 1)) + 1)), (0, .inr (.inr (0, 0, 0))), (1, .inr (.inr (2, 0, 0)))], [], τ67) [icP .eq (bI (Sw (dayS T))) (bI (Sw S))] rfl ?_ ?_
        · exact allP1 (bI_eq.mpr (by have := of_decide_eq_true h48_1; rw [hD] at this; exact this))
        rw [nI_1 (d + 1)]
        refine AW.pick [1, 2, 0] (ls' := [(0, .inr (.inr (0, 0, 0))), (1, .inr (.inr (2, 0, 0))), (2, .inl (nI (d + 1 + 1)))]) rfl ?_
        exact hk (hlvD (d + 1) T) _ ⟨(only_trans hA a67), by rw [hD]; exact b67, SOK_hlv hOT, by rw [hg, if_pos (by assumption)]⟩
      · skip
        refine AW.run 2 [false] (52, [(0, .inr (.inr (0, 0, 0))), (1, .inr (.inr (2, 0, 0))), (2, .inl (nI (d + 1)))], [.inl (nI (d + 1))], τ67) [¬ icP .eq (bI (Sw (dayS T))) (bI (Sw S))] rfl ?_ ?_
        · exact allP1 (fun q => h48_1 (decide_eq_true (by rw [hD]; exact bI_eq.mp q)))
        refine AW.reti ⟨_, rfl⟩ rfl ?_
        exact ⟨by rw [hg, if_neg (by assumption)]; rfl, (only_trans hA a67)⟩
  · intro T τ hI
    obtain ⟨hA, hT, hOT, hg⟩ := hI
    refine AW.run 4 [true] (61, [(0, .inr (.inr (0, 0, 0))), (1, .inr (.inr (2, 0, 0))), (2, .inl (nI (60 + 1)))], [.inl (-9)], τ) [icP .gt (nI (60 + 1)) 60] rfl ?_ ?_
    · exact allP1 (nI_lt (a := 60) (b := 61) (by decide) (by decide))
    refine AW.reti ⟨_, rfl⟩ rfl ?_
    exact ⟨by rw [hg]; rfl, hA⟩
set_option maxHeartbeats 4000000 in
set_option maxRecDepth 100000 in
theorem c1_daysTillAllGone (S : Sv) (σ : St) (hR : RepS (σ 2 0) S) (hO : SOK S) : Ct M1_daysTillAllGone 3 [.inr (.inr (0, 0, 0)), .inr (.inr (2, 0, 0))] σ (PI fun r9 σ' => optI (endN 61 0 S) = r9 ∧ Only 2 3 σ σ') := by
  refine Ct.of f_1_daysTillAllGone (Nat.le_of_ble_eq_true rfl) ?_
  show AW M1_daysTillAllGone 3 _ (0, [(0, .inr (.inr (0, 0, 0))), (1, .inr (.inr (2, 0, 0)))], [], σ)
  refine AW.run 3 [] (5, [(0, .inr (.inr (0, 0, 0))), (1, .inr (.inr (2, 0, 0)))], [.inr (.inr (2, 0, 0)), .inr (.inr (2, 3, 0))], σ) [] rfl ?_ ?_
  · exact trivial
  refine AW.callVV (d' := 1) [.inr (.inr (2, 0, 0))] [] ⟨_, rfl⟩ f_3_copyFrom v_3_copyFrom l_1_25 ⟨rfl, by decide⟩ rfl (Nat.le_of_ble_eq_true rfl) rfl (Nat.le_of_ble_eq_true rfl) (c3_copyFrom 3 0 (by decide) S σ hR hO) ?_
  rintro τ68 ⟨a68, b68⟩
  refine AW.run 2 [] (10, [(2, .inl 0), (0, .inr (.inr (0, 0, 0))), (1, .inr (.inr (2, 0, 0)))], [], τ68) [] rfl ?_ ?_
  · exact trivial
  refine AW.pick [1, 2, 0] (ls' := [(0, .inr (.inr (0, 0, 0))), (1, .inr (.inr (2, 0, 0))), (2, .inl (nI 0))]) rfl ?_
  refine AW.loop (α := Sv) 10 61 (fun d T => [(0, .inr (.inr (0, 0, 0))), (1, .inr (.inr (2, 0, 0))), (2, .inl (nI d))]) (fun d T τ => Only 2 3 σ τ ∧ RepS (τ 2 3) T ∧ SOK T ∧ endN 61 0 S = endN (61 - d) d T) ?_ ?_ 61 0 S _ (by omega) ⟨(only_trans only_rfl a68), b68, hO, rfl⟩
  · intro d T τ hd hI hk
    obtain ⟨hA, hT, hOT, hg⟩ := hI
    have hu : endN (61 - d) d T = if bN (Sw T) = 0 then some d else endN (61 - (d + 1)) (d + 1) (dayS T) := by
      obtain ⟨m, hm⟩ : ∃ m, 61 - d = m + 1 := ⟨60 - d, by omega⟩
      rw [hm, show 61 - (d + 1) = m by omega]; rfl
    rw [hu] at hg
    refine AW.run 6 [false] (23, [(0, .inr (.inr (0, 0, 0))), (1, .inr (.inr (2, 0, 0))), (2, .inl (nI d))], [.inl (τ 2 3 0 8)], τ) [¬ icP .gt (nI d) 60] rfl ?_ ?_
    · exact allP1 (nI_nlt (a := 60) (b := d) (by omega) (by omega))
    rw [hT.1.2.1]
    by_cases h23_1 : bN (Sw T) = 0
    · skip
      refine AW.run 2 [false] (27, [(0, .inr (.inr (0, 0, 0))), (1, .inr (.inr (2, 0, 0))), (2, .inl (nI d))], [.inl (nI d)], τ) [¬ icP .ne (bI (Sw T)) 0] rfl ?_ ?_
      · exact allP1 (fun q => q (bI_z.mpr h23_1))
      refine AW.reti ⟨_, rfl⟩ rfl ?_
      rw [hg, if_pos (by assumption)]
      exact ⟨rfl, hA⟩
    · skip
      refine AW.run 3 [true] (32, [(0, .inr (.inr (0, 0, 0))), (1, .inr (.inr (2, 0, 0))), (2, .inl (nI d))], [.inr (.inr (2, 3, 0))], τ) [icP .ne (bI (Sw T)) 0] rfl ?_ ?_
      · exact allP1 (fun q => h23_1 (bI_z.mp q))
      refine AW.callVV (d' := 2) [] [] ⟨_, rfl⟩ f_3_dayGoesBy v_3_dayGoesBy l_1_47 ⟨rfl, by decide⟩ rfl (Nat.le_of_ble_eq_true rfl) rfl (Nat.le_of_ble_eq_true rfl) (c3_dayGoesBy 3 T τ hT hOT ) ?_
      rintro τ69 ⟨a69, b69⟩
      refine AW.run 2 [] (10, [(2, .inl ((nI d) + 1)), (0, .inr (.inr (0, 0, 0))), (1, .inr (.inr (2, 0, 0)))], [], τ69) [] rfl ?_ ?_
      · exact trivial
      rw [nI_1 d]
      refine AW.pick [1, 2, 0] (ls' := [(0, .inr (.inr (0, 0, 0))), (1, .inr (.inr (2, 0, 0))), (2, .inl (nI (d + 1)))]) rfl ?_
      exact hk (dayS T) _ ⟨(only_trans hA a69), b69, (SOK_day hOT), by rw [hg, if_neg (by assumption)]⟩
  · intro T τ hI
    obtain ⟨hA, hT, hOT, hg⟩ := hI
    refine AW.run 4 [true] (43, [(0, .inr (.inr (0, 0, 0))), (1, .inr (.inr (2, 0, 0))), (2, .inl (nI 61))], [.inl (-9)], τ) [icP .gt (nI 61) 60] rfl ?_ ?_
    · exact allP1 (nI_lt (a := 60) (b := 61) (by decide) (by decide))
    refine AW.reti ⟨_, rfl⟩ rfl ?_
    rw [hg]
    exact ⟨rfl, hA⟩
set_option maxHeartbeats 4000000 in
set_option maxRecDepth 100000 in
theorem c1_greatestCalmHeat (S : Sv) (σ : St) (hR : RepS (σ 2 0) S) (hO : SOK S) : Ct M1_greatestCalmHeat 3 [.inr (.inr (0, 0, 0)), .inr (.inr (2, 0, 0))] σ (PI fun r9 σ' => optI (clmN S 10) = r9 ∧ Only 2 3 σ σ') := by
  refine Ct.of f_1_greatestCalmHeat (Nat.le_of_ble_eq_true rfl) ?_
  show AW M1_greatestCalmHeat 3 _ (0, [(0, .inr (.inr (0, 0, 0))), (1, .inr (.inr (2, 0, 0)))], [], σ)
  refine AW.run 7 [false] (12, [(2, .inl 9), (0, .inr (.inr (0, 0, 0))), (1, .inr (.inr (2, 0, 0)))], [.inr (.inr (2, 0, 0)), .inr (.inr (2, 3, 0))], σ) [¬ icP .lt (9 : Int32) 0] rfl ?_ ?_
  · exact allP1 (by decide : ¬ ((9 : Int32) < 0))
  refine AW.callVV (d' := 1) [.inr (.inr (2, 0, 0))] [] ⟨_, rfl⟩ f_3_copyFrom v_3_copyFrom l_1_25 ⟨rfl, by decide⟩ rfl (Nat.le_of_ble_eq_true rfl) rfl (Nat.le_of_ble_eq_true rfl) (c3_copyFrom 3 0 (by decide) S σ hR hO) ?_
  rintro τ70 ⟨a70, b70⟩
  refine AW.run 4 [] (23, [(2, .inl 9), (0, .inr (.inr (0, 0, 0))), (1, .inr (.inr (2, 0, 0)))], [.inl (τ70 2 0 0 10), .inr (.inr (2, 3, 0))], τ70) [] rfl ?_ ?_
  · exact trivial
  rw [(only_rep (only_trans only_rfl a70) hR).1.2.2.2.1]
  refine AW.run 1 [] (24, [(2, .inl 9), (0, .inr (.inr (0, 0, 0))), (1, .inr (.inr (2, 0, 0)))], [.inl 9, .inl (nI (Su S)), .inr (.inr (2, 3, 0))], τ70) [] rfl ?_ ?_
  · exact trivial
  refine AW.callVV (d' := 2) [.inl (nI (Su S)), .inl 9] [] ⟨_, rfl⟩ f_3_nourish v_3_nourish l_1_95 ⟨rfl, by decide⟩ rfl (Nat.le_of_ble_eq_true rfl) rfl (Nat.le_of_ble_eq_true rfl) (c3_nourish 3 S τ70 b70 hO (Su S) 9 hO.2.2.2.1 (by omega)) ?_
  rintro τ71 ⟨a71, b71⟩
  refine AW.run 2 [] (31, [(2, .inl 9), (0, .inr (.inr (0, 0, 0))), (1, .inr (.inr (2, 0, 0)))], [.inr (.inr (2, 3, 0))], τ71) [] rfl ?_ ?_
  · exact trivial
  refine AW.callVV (d' := 2) [] [] ⟨_, rfl⟩ f_3_dayGoesBy v_3_dayGoesBy l_1_47 ⟨rfl, by decide⟩ rfl (Nat.le_of_ble_eq_true rfl) rfl (Nat.le_of_ble_eq_true rfl) (c3_dayGoesBy 3 (withU S (Su S) 9) τ71 b71 (SOK_U hO hO.2.2.2.1 (by omega)) ) ?_
  rintro τ72 ⟨a72, b72⟩
  refine AW.run 3 [] (41, [(2, .inl 9), (0, .inr (.inr (0, 0, 0))), (1, .inr (.inr (2, 0, 0)))], [.inl (τ72 2 3 0 8)], τ72) [] rfl ?_ ?_
  · exact trivial
  rw [b72.1.2.1]
  refine AW.run 2 [] (45, [(2, .inl 9), (0, .inr (.inr (0, 0, 0))), (1, .inr (.inr (2, 0, 0)))], [.inl (τ72 2 0 0 8), .inl (bI (Sw (dayS (withU S (Su S) 9))))], τ72) [] rfl ?_ ?_
  · exact trivial
  rw [(only_rep (only_trans (only_trans (only_trans only_rfl a70) a71) a72) hR).1.2.1]
  by_cases h45_1 : sameW (dayS (withU S (Su S) 9)) S = true
  · skip
    refine AW.run 2 [false] (49, [(2, .inl 9), (0, .inr (.inr (0, 0, 0))), (1, .inr (.inr (2, 0, 0)))], [.inl 9], τ72) [¬ icP .ne (bI (Sw (dayS (withU S (Su S) 9)))) (bI (Sw S))] rfl ?_ ?_
    · exact allP1 (fun q => q (bI_eq.mpr (of_decide_eq_true h45_1)))
    refine AW.reti ⟨_, rfl⟩ rfl ?_
    exact ⟨by simp [clmN, *] <;> rfl, (only_trans (only_trans (only_trans only_rfl a70) a71) a72)⟩
  · skip
    refine AW.run 8 [true, false] (12, [(2, .inl 8), (0, .inr (.inr (0, 0, 0))), (1, .inr (.inr (2, 0, 0)))], [.inr (.inr (2, 0, 0)), .inr (.inr (2, 3, 0))], τ72) [icP .ne (bI (Sw (dayS (withU S (Su S) 9)))) (bI (Sw S)), ¬ icP .lt (8 : Int32) 0] rfl ?_ ?_
    · exact ⟨(fun q => h45_1 (decide_eq_true (bI_eq.mp q))), allP1 (by decide : ¬ ((8 : Int32) < 0))⟩
    refine AW.callVV (d' := 1) [.inr (.inr (2, 0, 0))] [] ⟨_, rfl⟩ f_3_copyFrom v_3_copyFrom l_1_25 ⟨rfl, by decide⟩ rfl (Nat.le_of_ble_eq_true rfl) rfl (Nat.le_of_ble_eq_true rfl) (c3_copyFrom 3 0 (by decide) S τ72 (only_rep (only_trans (only_trans (only_trans only_rfl a70) a71) a72) hR) hO) ?_
    rintro τ73 ⟨a73, b73⟩
    refine AW.run 4 [] (23, [(2, .inl 8), (0, .inr (.inr (0, 0, 0))), (1, .inr (.inr (2, 0, 0)))], [.inl (τ73 2 0 0 10), .inr (.inr (2, 3, 0))], τ73) [] rfl ?_ ?_
    · exact trivial
    rw [(only_rep (only_trans (only_trans (only_trans (only_trans only_rfl a70) a71) a72) a73) hR).1.2.2.2.1]
    refine AW.run 1 [] (24, [(2, .inl 8), (0, .inr (.inr (0, 0, 0))), (1, .inr (.inr (2, 0, 0)))], [.inl 8, .inl (nI (Su S)), .inr (.inr (2, 3, 0))], τ73) [] rfl ?_ ?_
    · exact trivial
    refine AW.callVV (d' := 2) [.inl (nI (Su S)), .inl 8] [] ⟨_, rfl⟩ f_3_nourish v_3_nourish l_1_95 ⟨rfl, by decide⟩ rfl (Nat.le_of_ble_eq_true rfl) rfl (Nat.le_of_ble_eq_true rfl) (c3_nourish 3 S τ73 b73 hO (Su S) 8 hO.2.2.2.1 (by omega)) ?_
    rintro τ74 ⟨a74, b74⟩
    refine AW.run 2 [] (31, [(2, .inl 8), (0, .inr (.inr (0, 0, 0))), (1, .inr (.inr (2, 0, 0)))], [.inr (.inr (2, 3, 0))], τ74) [] rfl ?_ ?_
    · exact trivial
    refine AW.callVV (d' := 2) [] [] ⟨_, rfl⟩ f_3_dayGoesBy v_3_dayGoesBy l_1_47 ⟨rfl, by decide⟩ rfl (Nat.le_of_ble_eq_true rfl) rfl (Nat.le_of_ble_eq_true rfl) (c3_dayGoesBy 3 (withU S (Su S) 8) τ74 b74 (SOK_U hO hO.2.2.2.1 (by omega)) ) ?_
    rintro τ75 ⟨a75, b75⟩
    refine AW.run 3 [] (41, [(2, .inl 8), (0, .inr (.inr (0, 0, 0))), (1, .inr (.inr (2, 0, 0)))], [.inl (τ75 2 3 0 8)], τ75) [] rfl ?_ ?_
    · exact trivial
    rw [b75.1.2.1]
    refine AW.run 2 [] (45, [(2, .inl 8), (0, .inr (.inr (0, 0, 0))), (1, .inr (.inr (2, 0, 0)))], [.inl (τ75 2 0 0 8), .inl (bI (Sw (dayS (withU S (Su S) 8))))], τ75) [] rfl ?_ ?_
    · exact trivial
    rw [(only_rep (only_trans (only_trans (only_trans (only_trans (only_trans (only_trans only_rfl a70) a71) a72) a73) a74) a75) hR).1.2.1]
    by_cases h45_2 : sameW (dayS (withU S (Su S) 8)) S = true
    · skip
      refine AW.run 2 [false] (49, [(2, .inl 8), (0, .inr (.inr (0, 0, 0))), (1, .inr (.inr (2, 0, 0)))], [.inl 8], τ75) [¬ icP .ne (bI (Sw (dayS (withU S (Su S) 8)))) (bI (Sw S))] rfl ?_ ?_
      · exact allP1 (fun q => q (bI_eq.mpr (of_decide_eq_true h45_2)))
      refine AW.reti ⟨_, rfl⟩ rfl ?_
      exact ⟨by simp [clmN, *] <;> rfl, (only_trans (only_trans (only_trans (only_trans (only_trans (only_trans only_rfl a70) a71) a72) a73) a74) a75)⟩
    · skip
      refine AW.run 8 [true, false] (12, [(2, .inl 7), (0, .inr (.inr (0, 0, 0))), (1, .inr (.inr (2, 0, 0)))], [.inr (.inr (2, 0, 0)), .inr (.inr (2, 3, 0))], τ75) [icP .ne (bI (Sw (dayS (withU S (Su S) 8)))) (bI (Sw S)), ¬ icP .lt (7 : Int32) 0] rfl ?_ ?_
      · exact ⟨(fun q => h45_2 (decide_eq_true (bI_eq.mp q))), allP1 (by decide : ¬ ((7 : Int32) < 0))⟩
      refine AW.callVV (d' := 1) [.inr (.inr (2, 0, 0))] [] ⟨_, rfl⟩ f_3_copyFrom v_3_copyFrom l_1_25 ⟨rfl, by decide⟩ rfl (Nat.le_of_ble_eq_true rfl) rfl (Nat.le_of_ble_eq_true rfl) (c3_copyFrom 3 0 (by decide) S τ75 (only_rep (only_trans (only_trans (only_trans (only_trans (only_trans (only_trans only_rfl a70) a71) a72) a73) a74) a75) hR) hO) ?_
      rintro τ76 ⟨a76, b76⟩
      refine AW.run 4 [] (23, [(2, .inl 7), (0, .inr (.inr (0, 0, 0))), (1, .inr (.inr (2, 0, 0)))], [.inl (τ76 2 0 0 10), .inr (.inr (2, 3, 0))], τ76) [] rfl ?_ ?_
      · exact trivial
      rw [(only_rep (only_trans (only_trans (only_trans (only_trans (only_trans (only_trans (only_trans only_rfl a70) a71) a72) a73) a74) a75) a76) hR).1.2.2.2.1]
      refine AW.run 1 [] (24, [(2, .inl 7), (0, .inr (.inr (0, 0, 0))), (1, .inr (.inr (2, 0, 0)))], [.inl 7, .inl (nI (Su S)), .inr (.inr (2, 3, 0))], τ76) [] rfl ?_ ?_
      · exact trivial
      refine AW.callVV (d' := 2) [.inl (nI (Su S)), .inl 7] [] ⟨_, rfl⟩ f_3_nourish v_3_nourish l_1_95 ⟨rfl, by decide⟩ rfl (Nat.le_of_ble_eq_true rfl) rfl (Nat.le_of_ble_eq_true rfl) (c3_nourish 3 S τ76 b76 hO (Su S) 7 hO.2.2.2.1 (by omega)) ?_
      rintro τ77 ⟨a77, b77⟩
      refine AW.run 2 [] (31, [(2, .inl 7), (0, .inr (.inr (0, 0, 0))), (1, .inr (.inr (2, 0, 0)))], [.inr (.inr (2, 3, 0))], τ77) [] rfl ?_ ?_
      · exact trivial
      refine AW.callVV (d' := 2) [] [] ⟨_, rfl⟩ f_3_dayGoesBy v_3_dayGoesBy l_1_47 ⟨rfl, by decide⟩ rfl (Nat.le_of_ble_eq_true rfl) rfl (Nat.le_of_ble_eq_true rfl) (c3_dayGoesBy 3 (withU S (Su S) 7) τ77 b77 (SOK_U hO hO.2.2.2.1 (by omega)) ) ?_
      rintro τ78 ⟨a78, b78⟩
      refine AW.run 3 [] (41, [(2, .inl 7), (0, .inr (.inr (0, 0, 0))), (1, .inr (.inr (2, 0, 0)))], [.inl (τ78 2 3 0 8)], τ78) [] rfl ?_ ?_
      · exact trivial
      rw [b78.1.2.1]
      refine AW.run 2 [] (45, [(2, .inl 7), (0, .inr (.inr (0, 0, 0))), (1, .inr (.inr (2, 0, 0)))], [.inl (τ78 2 0 0 8), .inl (bI (Sw (dayS (withU S (Su S) 7))))], τ78) [] rfl ?_ ?_
      · exact trivial
      rw [(only_rep (only_trans (only_trans (only_trans (only_trans (only_trans (only_trans (only_trans (only_trans (only_trans only_rfl a70) a71) a72) a73) a74) a75) a76) a77) a78) hR).1.2.1]
      by_cases h45_3 : sameW (dayS (withU S (Su S) 7)) S = true
      · skip
        refine AW.run 2 [false] (49, [(2, .inl 7), (0, .inr (.inr (0, 0, 0))), (1, .inr (.inr (2, 0, 0)))], [.inl 7], τ78) [¬ icP .ne (bI (Sw (dayS (withU S (Su S) 7)))) (bI (Sw S))] rfl ?_ ?_
        · exact allP1 (fun q => q (bI_eq.mpr (of_decide_eq_true h45_3)))
        refine AW.reti ⟨_, rfl⟩ rfl ?_
        exact ⟨by simp [clmN, *] <;> rfl, (only_trans (only_trans (only_trans (only_trans (only_trans (only_trans (only_trans (only_trans (only_trans only_rfl a70) a71) a72) a73) a74) a75) a76) a77) a78)⟩
      · skip
        refine AW.run 8 [true, false] (12, [(2, .inl 6), (0, .inr (.inr (0, 0, 0))), (1, .inr (.inr (2, 0, 0)))], [.inr (.inr (2, 0, 0)), .inr (.inr (2, 3, 0))], τ78) [icP .ne (bI (Sw (dayS (withU S (Su S) 7)))) (bI (Sw S)), ¬ icP .lt (6 : Int32) 0] rfl ?_ ?_
        · exact ⟨(fun q => h45_3 (decide_eq_true (bI_eq.mp q))), allP1 (by decide : ¬ ((6 : Int32) < 0))⟩
        refine AW.callVV (d' := 1) [.inr (.inr (2, 0, 0))] [] ⟨_, rfl⟩ f_3_copyFrom v_3_copyFrom l_1_25 ⟨rfl, by decide⟩ rfl (Nat.le_of_ble_eq_true rfl) rfl (Nat.le_of_ble_eq_true rfl) (c3_copyFrom 3 0 (by decide) S τ78 (only_rep (only_trans (only_trans (only_trans (only_trans (only_trans (only_trans (only_trans (only_trans (only_trans only_rfl a70) a71) a72) a73) a74) a75) a76) a77) a78) hR) hO) ?_
        rintro τ79 ⟨a79, b79⟩
        refine AW.run 4 [] (23, [(2, .inl 6), (0, .inr (.inr (0, 0, 0))), (1, .inr (.inr (2, 0, 0)))], [.inl (τ79 2 0 0 10), .inr (.inr (2, 3, 0))], τ79) [] rfl ?_ ?_
        · exact trivial
        rw [(only_rep (only_trans (only_trans (only_trans (only_trans (only_trans (only_trans (only_trans (only_trans (only_trans (only_trans only_rfl a70) a71) a72) a73) a74) a75) a76) a77) a78) a79) hR).1.2.2.2.1]
        refine AW.run 1 [] (24, [(2, .inl 6), (0, .inr (.inr (0, 0, 0))), (1, .inr (.inr (2, 0, 0)))], [.inl 6, .inl (nI (Su S)), .inr (.inr (2, 3, 0))], τ79) [] rfl ?_ ?_
        · exact trivial
        refine AW.callVV (d' := 2) [.inl (nI (Su S)), .inl 6] [] ⟨_, rfl⟩ f_3_nourish v_3_nourish l_1_95 ⟨rfl, by decide⟩ rfl (Nat.le_of_ble_eq_true rfl) rfl (Nat.le_of_ble_eq_true rfl) (c3_nourish 3 S τ79 b79 hO (Su S) 6 hO.2.2.2.1 (by omega)) ?_
        rintro τ80 ⟨a80, b80⟩
        refine AW.run 2 [] (31, [(2, .inl 6), (0, .inr (.inr (0, 0, 0))), (1, .inr (.inr (2, 0, 0)))], [.inr (.inr (2, 3, 0))], τ80) [] rfl ?_ ?_
        · exact trivial
        refine AW.callVV (d' := 2) [] [] ⟨_, rfl⟩ f_3_dayGoesBy v_3_dayGoesBy l_1_47 ⟨rfl, by decide⟩ rfl (Nat.le_of_ble_eq_true rfl) rfl (Nat.le_of_ble_eq_true rfl) (c3_dayGoesBy 3 (withU S (Su S) 6) τ80 b80 (SOK_U hO hO.2.2.2.1 (by omega)) ) ?_
        rintro τ81 ⟨a81, b81⟩
        refine AW.run 3 [] (41, [(2, .inl 6), (0, .inr (.inr (0, 0, 0))), (1, .inr (.inr (2, 0, 0)))], [.inl (τ81 2 3 0 8)], τ81) [] rfl ?_ ?_
        · exact trivial
        rw [b81.1.2.1]
        refine AW.run 2 [] (45, [(2, .inl 6), (0, .inr (.inr (0, 0, 0))), (1, .inr (.inr (2, 0, 0)))], [.inl (τ81 2 0 0 8), .inl (bI (Sw (dayS (withU S (Su S) 6))))], τ81) [] rfl ?_ ?_
        · exact trivial
        rw [(only_rep (only_trans (only_trans (only_trans (only_trans (only_trans (only_trans (only_trans (only_trans (only_trans (only_trans (only_trans (only_trans only_rfl a70) a71) a72) a73) a74) a75) a76) a77) a78) a79) a80) a81) hR).1.2.1]
        by_cases h45_4 : sameW (dayS (withU S (Su S) 6)) S = true
        · skip
          refine AW.run 2 [false] (49, [(2, .inl 6), (0, .inr (.inr (0, 0, 0))), (1, .inr (.inr (2, 0, 0)))], [.inl 6], τ81) [¬ icP .ne (bI (Sw (dayS (withU S (Su S) 6)))) (bI (Sw S))] rfl ?_ ?_
          · exact allP1 (fun q => q (bI_eq.mpr (of_decide_eq_true h45_4)))
          refine AW.reti ⟨_, rfl⟩ rfl ?_
          exact ⟨by simp [clmN, *] <;> rfl, (only_trans (only_trans (only_trans (only_trans (only_trans (only_trans (only_trans (only_trans (only_trans (only_trans (only_trans (only_trans only_rfl a70) a71) a72) a73) a74) a75) a76) a77) a78) a79) a80) a81)⟩
        · skip
          refine AW.run 8 [true, false] (12, [(2, .inl 5), (0, .inr (.inr (0, 0, 0))), (1, .inr (.inr (2, 0, 0)))], [.inr (.inr (2, 0, 0)), .inr (.inr (2, 3, 0))], τ81) [icP .ne (bI (Sw (dayS (withU S (Su S) 6)))) (bI (Sw S)), ¬ icP .lt (5 : Int32) 0] rfl ?_ ?_
          · exact ⟨(fun q => h45_4 (decide_eq_true (bI_eq.mp q))), allP1 (by decide : ¬ ((5 : Int32) < 0))⟩
          refine AW.callVV (d' := 1) [.inr (.inr (2, 0, 0))] [] ⟨_, rfl⟩ f_3_copyFrom v_3_copyFrom l_1_25 ⟨rfl, by decide⟩ rfl (Nat.le_of_ble_eq_true rfl) rfl (Nat.le_of_ble_eq_true rfl) (c3_copyFrom 3 0 (by decide) S τ81 (only_rep (only_trans (only_trans (only_trans (only_trans (only_trans (only_trans (only_trans (only_trans (only_trans (only_trans (only_trans (only_trans only_rfl a70) a71) a72) a73) a74) a75) a76) a77) a78) a79) a80) a81) hR) hO) ?_
          rintro τ82 ⟨a82, b82⟩
          refine AW.run 4 [] (23, [(2, .inl 5), (0, .inr (.inr (0, 0, 0))), (1, .inr (.inr (2, 0, 0)))], [.inl (τ82 2 0 0 10), .inr (.inr (2, 3, 0))], τ82) [] rfl ?_ ?_
          · exact trivial
          rw [(only_rep (only_trans (only_trans (only_trans (only_trans (only_trans (only_trans (only_trans (only_trans (only_trans (only_trans (only_trans (only_trans (only_trans only_rfl a70) a71) a72) a73) a74) a75) a76) a77) a78) a79) a80) a81) a82) hR).1.2.2.2.1]
          refine AW.run 1 [] (24, [(2, .inl 5), (0, .inr (.inr (0, 0, 0))), (1, .inr (.inr (2, 0, 0)))], [.inl 5, .inl (nI (Su S)), .inr (.inr (2, 3, 0))], τ82) [] rfl ?_ ?_
          · exact trivial
          refine AW.callVV (d' := 2) [.inl (nI (Su S)), .inl 5] [] ⟨_, rfl⟩ f_3_nourish v_3_nourish l_1_95 ⟨rfl, by decide⟩ rfl (Nat.le_of_ble_eq_true rfl) rfl (Nat.le_of_ble_eq_true rfl) (c3_nourish 3 S τ82 b82 hO (Su S) 5 hO.2.2.2.1 (by omega)) ?_
          rintro τ83 ⟨a83, b83⟩
          refine AW.run 2 [] (31, [(2, .inl 5), (0, .inr (.inr (0, 0, 0))), (1, .inr (.inr (2, 0, 0)))], [.inr (.inr (2, 3, 0))], τ83) [] rfl ?_ ?_
          · exact trivial
          refine AW.callVV (d' := 2) [] [] ⟨_, rfl⟩ f_3_dayGoesBy v_3_dayGoesBy l_1_47 ⟨rfl, by decide⟩ rfl (Nat.le_of_ble_eq_true rfl) rfl (Nat.le_of_ble_eq_true rfl) (c3_dayGoesBy 3 (withU S (Su S) 5) τ83 b83 (SOK_U hO hO.2.2.2.1 (by omega)) ) ?_
          rintro τ84 ⟨a84, b84⟩
          refine AW.run 3 [] (41, [(2, .inl 5), (0, .inr (.inr (0, 0, 0))), (1, .inr (.inr (2, 0, 0)))], [.inl (τ84 2 3 0 8)], τ84) [] rfl ?_ ?_
          · exact trivial
          rw [b84.1.2.1]
          refine AW.run 2 [] (45, [(2, .inl 5), (0, .inr (.inr (0, 0, 0))), (1, .inr (.inr (2, 0, 0)))], [.inl (τ84 2 0 0 8), .inl (bI (Sw (dayS (withU S (Su S) 5))))], τ84) [] rfl ?_ ?_
          · exact trivial
          rw [(only_rep (only_trans (only_trans (only_trans (only_trans (only_trans (only_trans (only_trans (only_trans (only_trans (only_trans (only_trans (only_trans (only_trans (only_trans (only_trans only_rfl a70) a71) a72) a73) a74) a75) a76) a77) a78) a79) a80) a81) a82) a83) a84) hR).1.2.1]
          by_cases h45_5 : sameW (dayS (withU S (Su S) 5)) S = true
          · skip
            refine AW.run 2 [false] (49, [(2, .inl 5), (0, .inr (.inr (0, 0, 0))), (1, .inr (.inr (2, 0, 0)))], [.inl 5], τ84) [¬ icP .ne (bI (Sw (dayS (withU S (Su S) 5)))) (bI (Sw S))] rfl ?_ ?_
            · exact allP1 (fun q => q (bI_eq.mpr (of_decide_eq_true h45_5)))
            refine AW.reti ⟨_, rfl⟩ rfl ?_
            exact ⟨by simp [clmN, *] <;> rfl, (only_trans (only_trans (only_trans (only_trans (only_trans (only_trans (only_trans (only_trans (only_trans (only_trans (only_trans (only_trans (only_trans (only_trans (only_trans only_rfl a70) a71) a72) a73) a74) a75) a76) a77) a78) a79) a80) a81) a82) a83) a84)⟩
          · skip
            refine AW.run 8 [true, false] (12, [(2, .inl 4), (0, .inr (.inr (0, 0, 0))), (1, .inr (.inr (2, 0, 0)))], [.inr (.inr (2, 0, 0)), .inr (.inr (2, 3, 0))], τ84) [icP .ne (bI (Sw (dayS (withU S (Su S) 5)))) (bI (Sw S)), ¬ icP .lt (4 : Int32) 0] rfl ?_ ?_
            · exact ⟨(fun q => h45_5 (decide_eq_true (bI_eq.mp q))), allP1 (by decide : ¬ ((4 : Int32) < 0))⟩
            refine AW.callVV (d' := 1) [.inr (.inr (2, 0, 0))] [] ⟨_, rfl⟩ f_3_copyFrom v_3_copyFrom l_1_25 ⟨rfl, by decide⟩ rfl (Nat.le_of_ble_eq_true rfl) rfl (Nat.le_of_ble_eq_true rfl) (c3_copyFrom 3 0 (by decide) S τ84 (only_rep (only_trans (only_trans (only_trans (only_trans (only_trans (only_trans (only_trans (only_trans (only_trans (only_trans (only_trans (only_trans (only_trans (only_trans (only_trans only_rfl a70) a71) a72) a73) a74) a75) a76) a77) a78) a79) a80) a81) a82) a83) a84) hR) hO) ?_
            rintro τ85 ⟨a85, b85⟩
            refine AW.run 4 [] (23, [(2, .inl 4), (0, .inr (.inr (0, 0, 0))), (1, .inr (.inr (2, 0, 0)))], [.inl (τ85 2 0 0 10), .inr (.inr (2, 3, 0))], τ85) [] rfl ?_ ?_
            · exact trivial
            rw [(only_rep (only_trans (only_trans (only_trans (only_trans (only_trans (only_trans (only_trans (only_trans (only_trans (only_trans (only_trans (only_trans (only_trans (only_trans (only_trans (only_trans only_rfl a70) a71) a72) a73) a74) a75) a76) a77) a78) a79) a80) a81) a82) a83) a84) a85) hR).1.2.2.2.1]
            refine AW.run 1 [] (24, [(2, .inl 4), (0, .inr (.inr (0, 0, 0))), (1, .inr (.inr (2, 0, 0)))], [.inl 4, .inl (nI (Su S)), .inr (.inr (2, 3, 0))], τ85) [] rfl ?_ ?_
            · exact trivial
            refine AW.callVV (d' := 2) [.inl (nI (Su S)), .inl 4] [] ⟨_, rfl⟩ f_3_nourish v_3_nourish l_1_95 ⟨rfl, by decide⟩ rfl (Nat.le_of_ble_eq_true rfl) rfl (Nat.le_of_ble_eq_true rfl) (c3_nourish 3 S τ85 b85 hO (Su S) 4 hO.2.2.2.1 (by omega)) ?_
            rintro τ86 ⟨a86, b86⟩
            refine AW.run 2 [] (31, [(2, .inl 4), (0, .inr (.inr (0, 0, 0))), (1, .inr (.inr (2, 0, 0)))], [.inr (.inr (2, 3, 0))], τ86) [] rfl ?_ ?_
            · exact trivial
            refine AW.callVV (d' := 2) [] [] ⟨_, rfl⟩ f_3_dayGoesBy v_3_dayGoesBy l_1_47 ⟨rfl, by decide⟩ rfl (Nat.le_of_ble_eq_true rfl) rfl (Nat.le_of_ble_eq_true rfl) (c3_dayGoesBy 3 (withU S (Su S) 4) τ86 b86 (SOK_U hO hO.2.2.2.1 (by omega)) ) ?_
            rintro τ87 ⟨a87, b87⟩
            refine AW.run 3 [] (41, [(2, .inl 4), (0, .inr (.inr (0, 0, 0))), (1, .inr (.inr (2, 0, 0)))], [.inl (τ87 2 3 0 8)], τ87) [] rfl ?_ ?_
            · exact trivial
            rw [b87.1.2.1]
            refine AW.run 2 [] (45, [(2, .inl 4), (0, .inr (.inr (0, 0, 0))), (1, .inr (.inr (2, 0, 0)))], [.inl (τ87 2 0 0 8), .inl (bI (Sw (dayS (withU S (Su S) 4))))], τ87) [] rfl ?_ ?_
            · exact trivial
            rw [(only_rep (only_trans (only_trans (only_trans (only_trans (only_trans (only_trans (only_trans (only_trans (only_trans (only_trans (only_trans (only_trans (only_trans (only_trans (only_trans (only_trans (only_trans (only_trans only_rfl a70) a71) a72) a73) a74) a75) a76) a77) a78) a79) a80) a81) a82) a83) a84) a85) a86) a87) hR).1.2.1]
            by_cases h45_6 : sameW (dayS (withU S (Su S) 4)) S = true
            · skip
              refine AW.run 2 [false] (49, [(2, .inl 4), (0, .inr (.inr (0, 0, 0))), (1, .inr (.inr (2, 0, 0)))], [.inl 4], τ87) [¬ icP .ne (bI (Sw (dayS (withU S (Su S) 4)))) (bI (Sw S))] rfl ?_ ?_
              · exact allP1 (fun q => q (bI_eq.mpr (of_decide_eq_true h45_6)))
              refine AW.reti ⟨_, rfl⟩ rfl ?_
              exact ⟨by simp [clmN, *] <;> rfl, (only_trans (only_trans (only_trans (only_trans (only_trans (only_trans (only_trans (only_trans (only_trans (only_trans (only_trans (only_trans (only_trans (only_trans (only_trans (only_trans (only_trans (only_trans only_rfl a70) a71) a72) a73) a74) a75) a76) a77) a78) a79) a80) a81) a82) a83) a84) a85) a86) a87)⟩
            · skip
              refine AW.run 8 [true, false] (12, [(2, .inl 3), (0, .inr (.inr (0, 0, 0))), (1, .inr (.inr (2, 0, 0)))], [.inr (.inr (2, 0, 0)), .inr (.inr (2, 3, 0))], τ87) [icP .ne (bI (Sw (dayS (withU S (Su S) 4)))) (bI (Sw S)), ¬ icP .lt (3 : Int32) 0] rfl ?_ ?_
              · exact ⟨(fun q => h45_6 (decide_eq_true (bI_eq.mp q))), allP1 (by decide : ¬ ((3 : Int32) < 0))⟩
              refine AW.callVV (d' := 1) [.inr (.inr (2, 0, 0))] [] ⟨_, rfl⟩ f_3_copyFrom v_3_copyFrom l_1_25 ⟨rfl, by decide⟩ rfl (Nat.le_of_ble_eq_true rfl) rfl (Nat.le_of_ble_eq_true rfl) (c3_copyFrom 3 0 (by decide) S τ87 (only_rep (only_trans (only_trans (only_trans (only_trans (only_trans (only_trans (only_trans (only_trans (only_trans (only_trans (only_trans (only_trans (only_trans (only_trans (only_trans (only_trans (only_trans (only_trans only_rfl a70) a71) a72) a73) a74) a75) a76) a77) a78) a79) a80) a81) a82) a83) a84) a85) a86) a87) hR) hO) ?_
              rintro τ88 ⟨a88, b88⟩
              refine AW.run 4 [] (23, [(2, .inl 3), (0, .inr (.inr (0, 0, 0))), (1, .inr (.inr (2, 0, 0)))], [.inl (τ88 2 0 0 10), .inr (.inr (2, 3, 0))], τ88) [] rfl ?_ ?_
              · exact trivial
              rw [(only_rep (only_trans (only_trans (only_trans (only_trans (only_trans (only_trans (only_trans (only_trans (only_trans (only_trans (only_trans (only_trans (only_trans (only_trans (only_trans (only_trans (only_trans (only_trans (only_trans only_rfl a70) a71) a72) a73) a74) a75) a76) a77) a78) a79) a80) a81) a82) a83) a84) a85) a86) a87) a88) hR).1.2.2.2.1]
              refine AW.run 1 [] (24, [(2, .inl 3), (0, .inr (.inr (0, 0, 0))), (1, .inr (.inr (2, 0, 0)))], [.inl 3, .inl (nI (Su S)), .inr (.inr (2, 3, 0))], τ88) [] rfl ?_ ?_
              · exact trivial
              refine AW.callVV (d' := 2) [.inl (nI (Su S)), .inl 3] [] ⟨_, rfl⟩ f_3_nourish v_3_nourish l_1_95 ⟨rfl, by decide⟩ rfl (Nat.le_of_ble_eq_true rfl) rfl (Nat.le_of_ble_eq_true rfl) (c3_nourish 3 S τ88 b88 hO (Su S) 3 hO.2.2.2.1 (by omega)) ?_
              rintro τ89 ⟨a89, b89⟩
              refine AW.run 2 [] (31, [(2, .inl 3), (0, .inr (.inr (0, 0, 0))), (1, .inr (.inr (2, 0, 0)))], [.inr (.inr (2, 3, 0))], τ89) [] rfl ?_ ?_
              · exact trivial
              refine AW.callVV (d' := 2) [] [] ⟨_, rfl⟩ f_3_dayGoesBy v_3_dayGoesBy l_1_47 ⟨rfl, by decide⟩ rfl (Nat.le_of_ble_eq_true rfl) rfl (Nat.le_of_ble_eq_true rfl) (c3_dayGoesBy 3 (withU S (Su S) 3) τ89 b89 (SOK_U hO hO.2.2.2.1 (by omega)) ) ?_
              rintro τ90 ⟨a90, b90⟩
              refine AW.run 3 [] (41, [(2, .inl 3), (0, .inr (.inr (0, 0, 0))), (1, .inr (.inr (2, 0, 0)))], [.inl (τ90 2 3 0 8)], τ90) [] rfl ?_ ?_
              · exact trivial
              rw [b90.1.2.1]
              refine AW.run 2 [] (45, [(2, .inl 3), (0, .inr (.inr (0, 0, 0))), (1, .inr (.inr (2, 0, 0)))], [.inl (τ90 2 0 0 8), .inl (bI (Sw (dayS (withU S (Su S) 3))))], τ90) [] rfl ?_ ?_
              · exact trivial
              rw [(only_rep (only_trans (only_trans (only_trans (only_trans (only_trans (only_trans (only_trans (only_trans (only_trans (only_trans (only_trans (only_trans (only_trans (only_trans (only_trans (only_trans (only_trans (only_trans (only_trans (only_trans (only_trans only_rfl a70) a71) a72) a73) a74) a75) a76) a77) a78) a79) a80) a81) a82) a83) a84) a85) a86) a87) a88) a89) a90) hR).1.2.1]
              by_cases h45_7 : sameW (dayS (withU S (Su S) 3)) S = true
              · skip
                refine AW.run 2 [false] (49, [(2, .inl 3), (0, .inr (.inr (0, 0, 0))), (1, .inr (.inr (2, 0, 0)))], [.inl 3], τ90) [¬ icP .ne (bI (Sw (dayS (withU S (Su S) 3)))) (bI (Sw S))] rfl ?_ ?_
                · exact allP1 (fun q => q (bI_eq.mpr (of_decide_eq_true h45_7)))
                refine AW.reti ⟨_, rfl⟩ rfl ?_
                exact ⟨by simp [clmN, *] <;> rfl, (only_trans (only_trans (only_trans (only_trans (only_trans (only_trans (only_trans (only_trans (only_trans (only_trans (only_trans (only_trans (only_trans (only_trans (only_trans (only_trans (only_trans (only_trans (only_trans (only_trans (only_trans only_rfl a70) a71) a72) a73) a74) a75) a76) a77) a78) a79) a80) a81) a82) a83) a84) a85) a86) a87) a88) a89) a90)⟩
              · skip
                refine AW.run 8 [true, false] (12, [(2, .inl 2), (0, .inr (.inr (0, 0, 0))), (1, .inr (.inr (2, 0, 0)))], [.inr (.inr (2, 0, 0)), .inr (.inr (2, 3, 0))], τ90) [icP .ne (bI (Sw (dayS (withU S (Su S) 3)))) (bI (Sw S)), ¬ icP .lt (2 : Int32) 0] rfl ?_ ?_
                · exact ⟨(fun q => h45_7 (decide_eq_true (bI_eq.mp q))), allP1 (by decide : ¬ ((2 : Int32) < 0))⟩
                refine AW.callVV (d' := 1) [.inr (.inr (2, 0, 0))] [] ⟨_, rfl⟩ f_3_copyFrom v_3_copyFrom l_1_25 ⟨rfl, by decide⟩ rfl (Nat.le_of_ble_eq_true rfl) rfl (Nat.le_of_ble_eq_true rfl) (c3_copyFrom 3 0 (by decide) S τ90 (only_rep (only_trans (only_trans (only_trans (only_trans (only_trans (only_trans (only_trans (only_trans (only_trans (only_trans (only_trans (only_trans (only_trans (only_trans (only_trans (only_trans (only_trans (only_trans (only_trans (only_trans (only_trans only_rfl a70) a71) a72) a73) a74) a75) a76) a77) a78) a79) a80) a81) a82) a83) a84) a85) a86) a87) a88) a89) a90) hR) hO) ?_
                rintro τ91 ⟨a91, b91⟩
                refine AW.run 4 [] (23, [(2, .inl 2), (0, .inr (.inr (0, 0, 0))), (1, .inr (.inr (2, 0, 0)))], [.inl (τ91 2 0 0 10), .inr (.inr (2, 3, 0))], τ91) [] rfl ?_ ?_
                · exact trivial
                rw [(only_rep (only_trans (only_trans (only_trans (only_trans (only_trans (only_trans (only_trans (only_trans (only_trans (only_trans (only_trans (only_trans (only_trans (only_trans (only_trans (only_trans (only_trans (only_trans (only_trans (only_trans (only_trans (only_trans only_rfl a70) a71) a72) a73) a74) a75) a76) a77) a78) a79) a80) a81) a82) a83) a84) a85) a86) a87) a88) a89) a90) a91) hR).1.2.2.2.1]
                refine AW.run 1 [] (24, [(2, .inl 2), (0, .inr (.inr (0, 0, 0))), (1, .inr (.inr (2, 0, 0)))], [.inl 2, .inl (nI (Su S)), .inr (.inr (2, 3, 0))], τ91) [] rfl ?_ ?_
                · exact trivial
                refine AW.callVV (d' := 2) [.inl (nI (Su S)), .inl 2] [] ⟨_, rfl⟩ f_3_nourish v_3_nourish l_1_95 ⟨rfl, by decide⟩ rfl (Nat.le_of_ble_eq_true rfl) rfl (Nat.le_of_ble_eq_true rfl) (c3_nourish 3 S τ91 b91 hO (Su S) 2 hO.2.2.2.1 (by omega)) ?_
                rintro τ92 ⟨a92, b92⟩
                refine AW.run 2 [] (31, [(2, .inl 2), (0, .inr (.inr (0, 0, 0))), (1, .inr (.inr (2, 0, 0)))], [.inr (.inr (2, 3, 0))], τ92) [] rfl ?_ ?_
                · exact trivial
                refine AW.callVV (d' := 2) [] [] ⟨_, rfl⟩ f_3_dayGoesBy v_3_dayGoesBy l_1_47 ⟨rfl, by decide⟩ rfl (Nat.le_of_ble_eq_true rfl) rfl (Nat.le_of_ble_eq_true rfl) (c3_dayGoesBy 3 (withU S (Su S) 2) τ92 b92 (SOK_U hO hO.2.2.2.1 (by omega)) ) ?_
                rintro τ93 ⟨a93, b93⟩
                refine AW.run 3 [] (41, [(2, .inl 2), (0, .inr (.inr (0, 0, 0))), (1, .inr (.inr (2, 0, 0)))], [.inl (τ93 2 3 0 8)], τ93) [] rfl ?_ ?_
                · exact trivial
                rw [b93.1.2.1]
                refine AW.run 2 [] (45, [(2, .inl 2), (0, .inr (.inr (0, 0, 0))), (1, .inr (.inr (2, 0, 0)))], [.inl (τ93 2 0 0 8), .inl (bI (Sw (dayS (withU S (Su S) 2))))], τ93) [] rfl ?_ ?_
                · exact trivial
                rw [(only_rep (only_trans (only_trans (only_trans (only_trans (only_trans (only_trans (only_trans (only_trans (only_trans (only_trans (only_trans (only_trans (only_trans (only_trans (only_trans (only_trans (only_trans (only_trans (only_trans (only_trans (only_trans (only_trans (only_trans (only_trans only_rfl a70) a71) a72) a73) a74) a75) a76) a77) a78) a79) a80) a81) a82) a83) a84) a85) a86) a87) a88) a89) a90) a91) a92) a93) hR).1.2.1]
                by_cases h45_8 : sameW (dayS (withU S (Su S) 2)) S = true
                · skip
                  refine AW.run 2 [false] (49, [(2, .inl 2), (0, .inr (.inr (0, 0, 0))), (1, .inr (.inr (2, 0, 0)))], [.inl 2], τ93) [¬ icP .ne (bI (Sw (dayS (withU S (Su S) 2)))) (bI (Sw S))] rfl ?_ ?_
                  · exact allP1 (fun q => q (bI_eq.mpr (of_decide_eq_true h45_8)))
                  refine AW.reti ⟨_, rfl⟩ rfl ?_
                  exact ⟨by simp [clmN, *] <;> rfl, (only_trans (only_trans (only_trans (only_trans (only_trans (only_trans (only_trans (only_trans (only_trans (only_trans (only_trans (only_trans (only_trans (only_trans (only_trans (only_trans (only_trans (only_trans (only_trans (only_trans (only_trans (only_trans (only_trans (only_trans only_rfl a70) a71) a72) a73) a74) a75) a76) a77) a78) a79) a80) a81) a82) a83) a84) a85) a86) a87) a88) a89) a90) a91) a92) a93)⟩
                · skip
                  refine AW.run 8 [true, false] (12, [(2, .inl 1), (0, .inr (.inr (0, 0, 0))), (1, .inr (.inr (2, 0, 0)))], [.inr (.inr (2, 0, 0)), .inr (.inr (2, 3, 0))], τ93) [icP .ne (bI (Sw (dayS (withU S (Su S) 2)))) (bI (Sw S)), ¬ icP .lt (1 : Int32) 0] rfl ?_ ?_
                  · exact ⟨(fun q => h45_8 (decide_eq_true (bI_eq.mp q))), allP1 (by decide : ¬ ((1 : Int32) < 0))⟩
                  refine AW.callVV (d' := 1) [.inr (.inr (2, 0, 0))] [] ⟨_, rfl⟩ f_3_copyFrom v_3_copyFrom l_1_25 ⟨rfl, by decide⟩ rfl (Nat.le_of_ble_eq_true rfl) rfl (Nat.le_of_ble_eq_true rfl) (c3_copyFrom 3 0 (by decide) S τ93 (only_rep (only_trans (only_trans (only_trans (only_trans (only_trans (only_trans (only_trans (only_trans (only_trans (only_trans (only_trans (only_trans (only_trans (only_trans (only_trans (only_trans (only_trans (only_trans (only_trans (only_trans (only_trans (only_trans (only_trans (only_trans only_rfl a70) a71) a72) a73) a74) a75) a76) a77) a78) a79) a80) a81) a82) a83) a84) a85) a86) a87) a88) a89) a90) a91) a92) a93) hR) hO) ?_
                  rintro τ94 ⟨a94, b94⟩
                  refine AW.run 4 [] (23, [(2, .inl 1), (0, .inr (.inr (0, 0, 0))), (1, .inr (.inr (2, 0, 0)))], [.inl (τ94 2 0 0 10), .inr (.inr (2, 3, 0))], τ94) [] rfl ?_ ?_
                  · exact trivial
                  rw [(only_rep (only_trans (only_trans (only_trans (only_trans (only_trans (only_trans (only_trans (only_trans (only_trans (only_trans (only_trans (only_trans (only_trans (only_trans (only_trans (only_trans (only_trans (only_trans (only_trans (only_trans (only_trans (only_trans (only_trans (only_trans (only_trans only_rfl a70) a71) a72) a73) a74) a75) a76) a77) a78) a79) a80) a81) a82) a83) a84) a85) a86) a87) a88) a89) a90) a91) a92) a93) a94) hR).1.2.2.2.1]
                  refine AW.run 1 [] (24, [(2, .inl 1), (0, .inr (.inr (0, 0, 0))), (1, .inr (.inr (2, 0, 0)))], [.inl 1, .inl (nI (Su S)), .inr (.inr (2, 3, 0))], τ94) [] rfl ?_ ?_
                  · exact trivial
                  refine AW.callVV (d' := 2) [.inl (nI (Su S)), .inl 1] [] ⟨_, rfl⟩ f_3_nourish v_3_nourish l_1_95 ⟨rfl, by decide⟩ rfl (Nat.le_of_ble_eq_true rfl) rfl (Nat.le_of_ble_eq_true rfl) (c3_nourish 3 S τ94 b94 hO (Su S) 1 hO.2.2.2.1 (by omega)) ?_
                  rintro τ95 ⟨a95, b95⟩
                  refine AW.run 2 [] (31, [(2, .inl 1), (0, .inr (.inr (0, 0, 0))), (1, .inr (.inr (2, 0, 0)))], [.inr (.inr (2, 3, 0))], τ95) [] rfl ?_ ?_
                  · exact trivial
                  refine AW.callVV (d' := 2) [] [] ⟨_, rfl⟩ f_3_dayGoesBy v_3_dayGoesBy l_1_47 ⟨rfl, by decide⟩ rfl (Nat.le_of_ble_eq_true rfl) rfl (Nat.le_of_ble_eq_true rfl) (c3_dayGoesBy 3 (withU S (Su S) 1) τ95 b95 (SOK_U hO hO.2.2.2.1 (by omega)) ) ?_
                  rintro τ96 ⟨a96, b96⟩
                  refine AW.run 3 [] (41, [(2, .inl 1), (0, .inr (.inr (0, 0, 0))), (1, .inr (.inr (2, 0, 0)))], [.inl (τ96 2 3 0 8)], τ96) [] rfl ?_ ?_
                  · exact trivial
                  rw [b96.1.2.1]
                  refine AW.run 2 [] (45, [(2, .inl 1), (0, .inr (.inr (0, 0, 0))), (1, .inr (.inr (2, 0, 0)))], [.inl (τ96 2 0 0 8), .inl (bI (Sw (dayS (withU S (Su S) 1))))], τ96) [] rfl ?_ ?_
                  · exact trivial
                  rw [(only_rep (only_trans (only_trans (only_trans (only_trans (only_trans (only_trans (only_trans (only_trans (only_trans (only_trans (only_trans (only_trans (only_trans (only_trans (only_trans (only_trans (only_trans (only_trans (only_trans (only_trans (only_trans (only_trans (only_trans (only_trans (only_trans (only_trans (only_trans only_rfl a70) a71) a72) a73) a74) a75) a76) a77) a78) a79) a80) a81) a82) a83) a84) a85) a86) a87) a88) a89) a90) a91) a92) a93) a94) a95) a96) hR).1.2.1]
                  by_cases h45_9 : sameW (dayS (withU S (Su S) 1)) S = true
                  · skip
                    refine AW.run 2 [false] (49, [(2, .inl 1), (0, .inr (.inr (0, 0, 0))), (1, .inr (.inr (2, 0, 0)))], [.inl 1], τ96) [¬ icP .ne (bI (Sw (dayS (withU S (Su S) 1)))) (bI (Sw S))] rfl ?_ ?_
                    · exact allP1 (fun q => q (bI_eq.mpr (of_decide_eq_true h45_9)))
                    refine AW.reti ⟨_, rfl⟩ rfl ?_
                    exact ⟨by simp [clmN, *] <;> rfl, (only_trans (only_trans (only_trans (only_trans (only_trans (only_trans (only_trans (only_trans (only_trans (only_trans (only_trans (only_trans (only_trans (only_trans (only_trans (only_trans (only_trans (only_trans (only_trans (only_trans (only_trans (only_trans (only_trans (only_trans (only_trans (only_trans (only_trans only_rfl a70) a71) a72) a73) a74) a75) a76) a77) a78) a79) a80) a81) a82) a83) a84) a85) a86) a87) a88) a89) a90) a91) a92) a93) a94) a95) a96)⟩
                  · skip
                    refine AW.run 8 [true, false] (12, [(2, .inl 0), (0, .inr (.inr (0, 0, 0))), (1, .inr (.inr (2, 0, 0)))], [.inr (.inr (2, 0, 0)), .inr (.inr (2, 3, 0))], τ96) [icP .ne (bI (Sw (dayS (withU S (Su S) 1)))) (bI (Sw S)), ¬ icP .lt (0 : Int32) 0] rfl ?_ ?_
                    · exact ⟨(fun q => h45_9 (decide_eq_true (bI_eq.mp q))), allP1 (by decide : ¬ ((0 : Int32) < 0))⟩
                    refine AW.callVV (d' := 1) [.inr (.inr (2, 0, 0))] [] ⟨_, rfl⟩ f_3_copyFrom v_3_copyFrom l_1_25 ⟨rfl, by decide⟩ rfl (Nat.le_of_ble_eq_true rfl) rfl (Nat.le_of_ble_eq_true rfl) (c3_copyFrom 3 0 (by decide) S τ96 (only_rep (only_trans (only_trans (only_trans (only_trans (only_trans (only_trans (only_trans (only_trans (only_trans (only_trans (only_trans (only_trans (only_trans (only_trans (only_trans (only_trans (only_trans (only_trans (only_trans (only_trans (only_trans (only_trans (only_trans (only_trans (only_trans (only_trans (only_trans only_rfl a70) a71) a72) a73) a74) a75) a76) a77) a78) a79) a80) a81) a82) a83) a84) a85) a86) a87) a88) a89) a90) a91) a92) a93) a94) a95) a96) hR) hO) ?_
                    rintro τ97 ⟨a97, b97⟩
                    refine AW.run 4 [] (23, [(2, .inl 0), (0, .inr (.inr (0, 0, 0))), (1, .inr (.inr (2, 0, 0)))], [.inl (τ97 2 0 0 10), .inr (.inr (2, 3, 0))], τ97) [] rfl ?_ ?_
                    · exact trivial
                    rw [(only_rep (only_trans (only_trans (only_trans (only_trans (only_trans (only_trans (only_trans (only_trans (only_trans (only_trans (only_trans (only_trans (only_trans (only_trans (only_trans (only_trans (only_trans (only_trans (only_trans (only_trans (only_trans (only_trans (only_trans (only_trans (only_trans (only_trans (only_trans (only_trans only_rfl a70) a71) a72) a73) a74) a75) a76) a77) a78) a79) a80) a81) a82) a83) a84) a85) a86) a87) a88) a89) a90) a91) a92) a93) a94) a95) a96) a97) hR).1.2.2.2.1]
                    refine AW.run 1 [] (24, [(2, .inl 0), (0, .inr (.inr (0, 0, 0))), (1, .inr (.inr (2, 0, 0)))], [.inl 0, .inl (nI (Su S)), .inr (.inr (2, 3, 0))], τ97) [] rfl ?_ ?_
                    · exact trivial
                    refine AW.callVV (d' := 2) [.inl (nI (Su S)), .inl 0] [] ⟨_, rfl⟩ f_3_nourish v_3_nourish l_1_95 ⟨rfl, by decide⟩ rfl (Nat.le_of_ble_eq_true rfl) rfl (Nat.le_of_ble_eq_true rfl) (c3_nourish 3 S τ97 b97 hO (Su S) 0 hO.2.2.2.1 (by omega)) ?_
                    rintro τ98 ⟨a98, b98⟩
                    refine AW.run 2 [] (31, [(2, .inl 0), (0, .inr (.inr (0, 0, 0))), (1, .inr (.inr (2, 0, 0)))], [.inr (.inr (2, 3, 0))], τ98) [] rfl ?_ ?_
                    · exact trivial
                    refine AW.callVV (d' := 2) [] [] ⟨_, rfl⟩ f_3_dayGoesBy v_3_dayGoesBy l_1_47 ⟨rfl, by decide⟩ rfl (Nat.le_of_ble_eq_true rfl) rfl (Nat.le_of_ble_eq_true rfl) (c3_dayGoesBy 3 (withU S (Su S) 0) τ98 b98 (SOK_U hO hO.2.2.2.1 (by omega)) ) ?_
                    rintro τ99 ⟨a99, b99⟩
                    refine AW.run 3 [] (41, [(2, .inl 0), (0, .inr (.inr (0, 0, 0))), (1, .inr (.inr (2, 0, 0)))], [.inl (τ99 2 3 0 8)], τ99) [] rfl ?_ ?_
                    · exact trivial
                    rw [b99.1.2.1]
                    refine AW.run 2 [] (45, [(2, .inl 0), (0, .inr (.inr (0, 0, 0))), (1, .inr (.inr (2, 0, 0)))], [.inl (τ99 2 0 0 8), .inl (bI (Sw (dayS (withU S (Su S) 0))))], τ99) [] rfl ?_ ?_
                    · exact trivial
                    rw [(only_rep (only_trans (only_trans (only_trans (only_trans (only_trans (only_trans (only_trans (only_trans (only_trans (only_trans (only_trans (only_trans (only_trans (only_trans (only_trans (only_trans (only_trans (only_trans (only_trans (only_trans (only_trans (only_trans (only_trans (only_trans (only_trans (only_trans (only_trans (only_trans (only_trans (only_trans only_rfl a70) a71) a72) a73) a74) a75) a76) a77) a78) a79) a80) a81) a82) a83) a84) a85) a86) a87) a88) a89) a90) a91) a92) a93) a94) a95) a96) a97) a98) a99) hR).1.2.1]
                    by_cases h45_10 : sameW (dayS (withU S (Su S) 0)) S = true
                    · skip
                      refine AW.run 2 [false] (49, [(2, .inl 0), (0, .inr (.inr (0, 0, 0))), (1, .inr (.inr (2, 0, 0)))], [.inl 0], τ99) [¬ icP .ne (bI (Sw (dayS (withU S (Su S) 0)))) (bI (Sw S))] rfl ?_ ?_
                      · exact allP1 (fun q => q (bI_eq.mpr (of_decide_eq_true h45_10)))
                      refine AW.reti ⟨_, rfl⟩ rfl ?_
                      exact ⟨by simp [clmN, *] <;> rfl, (only_trans (only_trans (only_trans (only_trans (only_trans (only_trans (only_trans (only_trans (only_trans (only_trans (only_trans (only_trans (only_trans (only_trans (only_trans (only_trans (only_trans (only_trans (only_trans (only_trans (only_trans (only_trans (only_trans (only_trans (only_trans (only_trans (only_trans (only_trans (only_trans (only_trans only_rfl a70) a71) a72) a73) a74) a75) a76) a77) a78) a79) a80) a81) a82) a83) a84) a85) a86) a87) a88) a89) a90) a91) a92) a93) a94) a95) a96) a97) a98) a99)⟩
                    · skip
                      refine AW.run 6 [true, true] (58, [(2, .inl (-1)), (0, .inr (.inr (0, 0, 0))), (1, .inr (.inr (2, 0, 0)))], [.inl (-9)], τ99) [icP .ne (bI (Sw (dayS (withU S (Su S) 0)))) (bI (Sw S)), icP .lt (-1 : Int32) 0] rfl ?_ ?_
                      · exact ⟨(fun q => h45_10 (decide_eq_true (bI_eq.mp q))), allP1 (by decide : ((-1 : Int32) < 0))⟩
                      refine AW.reti ⟨_, rfl⟩ rfl ?_
                      exact ⟨by simp [clmN, *] <;> rfl, (only_trans (only_trans (only_trans (only_trans (only_trans (only_trans (only_trans (only_trans (only_trans (only_trans (only_trans (only_trans (only_trans (only_trans (only_trans (only_trans (only_trans (only_trans (only_trans (only_trans (only_trans (only_trans (only_trans (only_trans (only_trans (only_trans (only_trans (only_trans (only_trans (only_trans only_rfl a70) a71) a72) a73) a74) a75) a76) a77) a78) a79) a80) a81) a82) a83) a84) a85) a86) a87) a88) a89) a90) a91) a92) a93) a94) a95) a96) a97) a98) a99)⟩
set_option maxHeartbeats 4000000 in
set_option maxRecDepth 100000 in
theorem c1_easedBy (S : Sv) (σ : St) (hR : RepS (σ 2 0) S) (hO : SOK S) (b o n : Nat) (hb : b < Sn S) (ho : o < Sn S) (hn : n < 2 ^ 31) : Ct M1_easedBy 5 [.inr (.inr (0, 0, 0)), .inr (.inr (2, 0, 0)), .inl (nI b), .inl (nI o), .inl (nI n)] σ (PI fun r9 σ' => nI (Sq (passS n S) b) - nI (Sq (passS n (withW S (fu (Sw S) o false))) b) = r9 ∧ Only 2 3 σ σ') := by
  refine Ct.of f_1_easedBy (Nat.le_of_ble_eq_true rfl) ?_
  show AW M1_easedBy 5 _ (0, [(0, .inr (.inr (0, 0, 0))), (1, .inr (.inr (2, 0, 0))), (2, .inl (nI b)), (3, .inl (nI o)), (4, .inl (nI n))], [], σ)
  refine AW.run 3 [] (4, [(0, .inr (.inr (0, 0, 0))), (1, .inr (.inr (2, 0, 0))), (2, .inl (nI b)), (3, .inl (nI o)), (4, .inl (nI n))], [.inl (nI n), .inr (.inr (2, 0, 0)), .inr (.inr (0, 0, 0))], σ) [] rfl ?_ ?_
  · exact trivial
  refine AW.callVR (d' := 4) [.inr (.inr (2, 0, 0)), .inl (nI n)] [] ⟨_, rfl⟩ f_1_ahead v_1_ahead l_1_76 ⟨rfl, by decide⟩ rfl (Nat.le_of_ble_eq_true rfl) rfl (Nat.le_of_ble_eq_true rfl) (c1_ahead S σ hR hO n (by omega)) ?_
  rintro _ τ100 ⟨rfl, a100, b100⟩
  refine AW.run 1 [] (8, [(0, .inr (.inr (0, 0, 0))), (1, .inr (.inr (2, 0, 0))), (2, .inl (nI b)), (3, .inl (nI o)), (4, .inl (nI n))], [.inl (nI b), .inr (.inr (2, 3, 0))], τ100) [] rfl ?_ ?_
  · exact trivial
  refine AW.callVI (d' := 1) [.inl (nI b)] [] ⟨_, rfl⟩ f_3_pressOf v_3_pressOf l_1_106 ⟨rfl, by decide⟩ rfl (Nat.le_of_ble_eq_true rfl) rfl (Nat.le_of_ble_eq_true rfl) (c3_pressOf 3 (passS n S) τ100 b100 (SOK_pass n hO) b (by rw [pass_n]; exact hb)) ?_
  rintro _ _ ⟨rfl, rfl⟩
  refine AW.run 4 [] (18, [(5, .inl (nI (Sq (passS n S) b))), (0, .inr (.inr (0, 0, 0))), (1, .inr (.inr (2, 0, 0))), (2, .inl (nI b)), (3, .inl (nI o)), (4, .inl (nI n))], [.inr (.inr (2, 0, 0)), .inr (.inr (2, 3, 0))], τ100) [] rfl ?_ ?_
  · exact trivial
  refine AW.callVV (d' := 1) [.inr (.inr (2, 0, 0))] [] ⟨_, rfl⟩ f_3_copyFrom v_3_copyFrom l_1_25 ⟨rfl, by decide⟩ rfl (Nat.le_of_ble_eq_true rfl) rfl (Nat.le_of_ble_eq_true rfl) (c3_copyFrom 3 0 (by decide) S τ100 (only_rep (only_trans only_rfl a100) hR) hO) ?_
  rintro τ101 ⟨a101, b101⟩
  refine AW.run 3 [] (26, [(5, .inl (nI (Sq (passS n S) b))), (0, .inr (.inr (0, 0, 0))), (1, .inr (.inr (2, 0, 0))), (2, .inl (nI b)), (3, .inl (nI o)), (4, .inl (nI n))], [.inl (nI o), .inr (.inr (2, 3, 0))], τ101) [] rfl ?_ ?_
  · exact trivial
  refine AW.callVV (d' := 1) [.inl (nI o)] [] ⟨_, rfl⟩ f_3_takeAway v_3_takeAway l_1_139 ⟨rfl, by decide⟩ rfl (Nat.le_of_ble_eq_true rfl) rfl (Nat.le_of_ble_eq_true rfl) (c3_takeAway 3 S τ101 b101 hO o ho) ?_
  rintro τ102 ⟨a102, b102⟩
  refine AW.run 3 [] (35, [(5, .inl (nI (Sq (passS n S) b))), (0, .inr (.inr (0, 0, 0))), (1, .inr (.inr (2, 0, 0))), (2, .inl (nI b)), (3, .inl (nI o)), (4, .inl (nI n))], [.inl (nI n), .inr (.inr (2, 3, 0))], τ102) [] rfl ?_ ?_
  · exact trivial
  refine AW.callVV (d' := 3) [.inl (nI n)] [] ⟨_, rfl⟩ f_3_pass v_3_pass l_1_29 ⟨rfl, by decide⟩ rfl (Nat.le_of_ble_eq_true rfl) rfl (Nat.le_of_ble_eq_true rfl) (c3_pass 3 (withW S (fu (Sw S) o false)) τ102 b102 (SOK_w hO) n (by omega)) ?_
  rintro τ103 ⟨a103, b103⟩
  refine AW.run 4 [] (45, [(5, .inl (nI (Sq (passS n S) b))), (0, .inr (.inr (0, 0, 0))), (1, .inr (.inr (2, 0, 0))), (2, .inl (nI b)), (3, .inl (nI o)), (4, .inl (nI n))], [.inl (nI b), .inr (.inr (2, 3, 0)), .inl (nI (Sq (passS n S) b))], τ103) [] rfl ?_ ?_
  · exact trivial
  refine AW.callVI (d' := 1) [.inl (nI b)] [.inl (nI (Sq (passS n S) b))] ⟨_, rfl⟩ f_3_pressOf v_3_pressOf l_1_106 ⟨rfl, by decide⟩ rfl (Nat.le_of_ble_eq_true rfl) rfl (Nat.le_of_ble_eq_true rfl) (c3_pressOf 3 (passS n (withW S (fu (Sw S) o false))) τ103 b103 (SOK_pass n (SOK_w hO)) b (by rw [pass_n]; exact hb)) ?_
  rintro _ _ ⟨rfl, rfl⟩
  refine AW.run 1 [] (49, [(5, .inl (nI (Sq (passS n S) b))), (0, .inr (.inr (0, 0, 0))), (1, .inr (.inr (2, 0, 0))), (2, .inl (nI b)), (3, .inl (nI o)), (4, .inl (nI n))], [.inl ((nI (Sq (passS n S) b)) - (nI (Sq (passS n (withW S (fu (Sw S) o false))) b)))], τ103) [] rfl ?_ ?_
  · exact trivial
  refine AW.reti ⟨_, rfl⟩ rfl ?_
  exact ⟨rfl, (only_trans (only_trans (only_trans (only_trans only_rfl a100) a101) a102) a103)⟩
/-- the mind's own may have changed -/
def OnlyM (σ σ' : St) : Prop := ∀ c' i', c' ≠ 0 → ¬ (c' = 2 ∧ i' = 3) → σ' c' i' = σ c' i'
theorem onlyM_rfl {σ : St} : OnlyM σ σ := fun _ _ _ _ => rfl
theorem onlyM_of {σ σ1 : St} (h : Only 2 3 σ σ1) : OnlyM σ σ1 := fun c' i' _ hn => h c' i' hn
theorem onlyM_trans {σ σ1 σ2 : St} (h : OnlyM σ σ1) (h2 : Only 2 3 σ1 σ2) : OnlyM σ σ2 := fun c' i' h0 hn => (h2 c' i' hn).trans (h c' i' h0 hn)
theorem onlyM_set {σ τ : St} {j k : Nat} {v : Int32} (h : OnlyM σ τ) : OnlyM σ (setM τ 0 0 j k v) := fun c' i' h0 hn => by
  rw [set_ne (fun q => h0 q.1)]; exact h c' i' h0 hn
theorem onlyM_rep {σ τ : St} {S : Sv} (h : OnlyM σ τ) (hR : RepS (σ 2 0) S) : RepS (τ 2 0) S := by
  rw [h 2 0 (by decide) (by decide)]; exact hR
def rest0 (S : Sv) (a : Nat) (p : Bool) : Sv := if p = true then withQ S (fu (Sq S) a 0) else S
def restS (S : Sv) (one other p : Nat) : Sv := rest0 (rest0 S one (decide (2 ≤ p))) other (decide (p % 2 = 1))
theorem SOK_rest0 {S : Sv} {a : Nat} {p : Bool} (hO : SOK S) (ha : a < Sn S) : SOK (rest0 S a p) := by
  unfold rest0
  split
  · exact SOK_q hO ha (by omega)
  · exact hO
def rw1 (S : Sv) (one other n p : Nat) : Nat := wantN (passS n (restS S one other p)) one
def rw2 (S : Sv) (one other n p : Nat) : Nat := wantN (passS n (restS S one other p)) other
def restB (S : Sv) (one other n : Nat) : Nat → Bool := fun p => decide (rw1 S one other n (p ^^^ 2) ≤ rw1 S one other n p) && decide (rw2 S one other n (p ^^^ 1) ≤ rw2 S one other n p)
def restO (S : Sv) (one other n : Nat) : Int32 := match fstN (restB S one other n) 4 0 with
  | none => -9
  | some p => nI (10 * (p / 2) + p % 2)
theorem want_le {T : Sv} (hO : SOK T) (b : Nat) : wantN T b ≤ 14 := by
  have := (hO.2.1 b).2.2.2
  unfold wantN
  split <;> omega
theorem p4a : ∀ p < 4, nI p - nI p / 2 * 2 = nI (p % 2) := by decide
theorem p4b : ∀ p < 4, vp_in (nI p ^^^ 2) 4 ∧ (nI p ^^^ 2).toNatClampNeg = p ^^^ 2 ∧ p ^^^ 2 < 4 := by
  intro p hp
  have : p = 0 ∨ p = 1 ∨ p = 2 ∨ p = 3 := by omega
  rcases this with rfl | rfl | rfl | rfl <;> exact ⟨by unfold vp_in; decide, by decide, by decide⟩
theorem p4c : ∀ p < 4, vp_in (nI p ^^^ 1) 4 ∧ (nI p ^^^ 1).toNatClampNeg = p ^^^ 1 ∧ p ^^^ 1 < 4 := by
  intro p hp
  have : p = 0 ∨ p = 1 ∨ p = 2 ∨ p = 3 := by omega
  rcases this with rfl | rfl | rfl | rfl <;> exact ⟨by unfold vp_in; decide, by decide, by decide⟩
theorem p4d : ∀ p < 4, (10 : Int32) * (nI p / 2) + nI (p % 2) = nI (10 * (p / 2) + p % 2) := by decide
theorem cl4 {p : Nat} (h : p < 4) : (nI p).toNatClampNeg = p := nI_clamp (by omega)
set_option maxHeartbeats 4000000 in
set_option maxRecDepth 100000 in
theorem c1_restingPair (S : Sv) (σ : St) (hR : RepS (σ 2 0) S) (hO : SOK S) (one other n : Nat) (h1 : one < Sn S) (h2 : other < Sn S) (hn : n < 2 ^ 31) : Ct M1_restingPair 4 [.inr (.inr (0, 0, 0)), .inr (.inr (2, 0, 0)), .inl (nI one), .inl (nI other), .inl (nI n)] σ (PI fun r9 σ' => restO S one other n = r9 ∧ OnlyM σ σ') := by
  refine Ct.of f_1_restingPair (Nat.le_of_ble_eq_true rfl) ?_
  show AW M1_restingPair 4 _ (0, [(0, .inr (.inr (0, 0, 0))), (1, .inr (.inr (2, 0, 0))), (2, .inl (nI one)), (3, .inl (nI other)), (4, .inl (nI n))], [], σ)
  have hp4 : ∀ p, SOK (passS n (restS S one other p)) := fun p => SOK_pass n (SOK_rest0 (SOK_rest0 hO h1) (by unfold rest0; split <;> exact h2))
  refine AW.run 2 [] (3, [(5, .inl 0), (0, .inr (.inr (0, 0, 0))), (1, .inr (.inr (2, 0, 0))), (2, .inl (nI one)), (3, .inl (nI other)), (4, .inl (nI n))], [], σ) [] rfl ?_ ?_
  · exact trivial
  refine AW.pick [1, 2, 3, 4, 5, 0] (ls' := [(0, .inr (.inr (0, 0, 0))), (1, .inr (.inr (2, 0, 0))), (2, .inl (nI one)), (3, .inl (nI other)), (4, .inl (nI n)), (5, .inl (nI 0))]) rfl ?_
  refine AW.loop (α := Unit) 3 4 (fun p _ => [(0, .inr (.inr (0, 0, 0))), (1, .inr (.inr (2, 0, 0))), (2, .inl (nI one)), (3, .inl (nI other)), (4, .inl (nI n)), (5, .inl (nI p))]) (fun p _ τ => OnlyM σ τ ∧ ∀ j, j < p → τ 0 0 2 j = nI (rw1 S one other n j) ∧ τ 0 0 3 j = nI (rw2 S one other n j)) ?_ ?_ 4 0 () _ (by omega) ⟨onlyM_rfl, fun j hj => absurd hj (Nat.not_lt_zero _)⟩
  · intro p _ τ hp hI hk
    obtain ⟨hA, hF⟩ := hI
    have hm2 := p4a p hp
    refine AW.run 6 [false] (14, [(0, .inr (.inr (0, 0, 0))), (1, .inr (.inr (2, 0, 0))), (2, .inl (nI one)), (3, .inl (nI other)), (4, .inl (nI n)), (5, .inl (nI p))], [.inr (.inr (2, 0, 0)), .inr (.inr (2, 3, 0))], τ) [¬ icP .ge (nI p) 4] rfl ?_ ?_
    · exact allP1 (nle_lit (a := 4) hp (by decide))
    refine AW.callVV (d' := 1) [.inr (.inr (2, 0, 0))] [] ⟨_, rfl⟩ f_3_copyFrom v_3_copyFrom l_1_25 ⟨rfl, by decide⟩ rfl (Nat.le_of_ble_eq_true rfl) rfl (Nat.le_of_ble_eq_true rfl) (c3_copyFrom 3 0 (by decide) S τ (onlyM_rep hA hR) hO) ?_
    rintro τ104 ⟨a104, b104⟩
    by_cases h20_1 : 2 ≤ p
    · skip
      refine AW.run 7 [false] (29, [(0, .inr (.inr (0, 0, 0))), (1, .inr (.inr (2, 0, 0))), (2, .inl (nI one)), (3, .inl (nI other)), (4, .inl (nI n)), (5, .inl (nI p))], [.inl 0, .inl (nI one), .inr (.inr (2, 3, 0))], τ104) [¬ icP .lt (nI p) 2] rfl ?_ ?_
      · exact allP1 (nI_nlt (a := p) (b := 2) (by omega) (by omega))
      refine AW.callVV (d' := 1) [.inl (nI one), .inl 0] [] ⟨_, rfl⟩ f_3_setPress v_3_setPress l_1_86 ⟨rfl, by decide⟩ rfl (Nat.le_of_ble_eq_true rfl) rfl (Nat.le_of_ble_eq_true rfl) (c3_setPress 3 S τ104 b104 hO one 0 (show one < Sn S from h1)) ?_
      rintro τ105 ⟨a105, b105⟩
      refine AW.run 3 [] (36, [(0, .inr (.inr (0, 0, 0))), (1, .inr (.inr (2, 0, 0))), (2, .inl (nI one)), (3, .inl (nI other)), (4, .inl (nI n)), (5, .inl (nI p))], [.inl ((nI p) - (nI p) / 2 * 2)], τ105) [¬ (2 : Int32) = 0] rfl ?_ ?_
      · exact allP1 (by decide)
      rw [hm2]
      by_cases h37_2 : p % 2 = 1
      · skip
        refine AW.run 6 [false] (46, [(0, .inr (.inr (0, 0, 0))), (1, .inr (.inr (2, 0, 0))), (2, .inl (nI one)), (3, .inl (nI other)), (4, .inl (nI n)), (5, .inl (nI p))], [.inl 0, .inl (nI other), .inr (.inr (2, 3, 0))], τ105) [¬ icP .ne (nI (p % 2)) 1] rfl ?_ ?_
        · exact allP1 (fun q => q (by rw [h37_2]; rfl))
        refine AW.callVV (d' := 1) [.inl (nI other), .inl 0] [] ⟨_, rfl⟩ f_3_setPress v_3_setPress l_1_86 ⟨rfl, by decide⟩ rfl (Nat.le_of_ble_eq_true rfl) rfl (Nat.le_of_ble_eq_true rfl) (c3_setPress 3 (withQ S (fu (Sq S) one 0)) τ105 b105 (SOK_q hO (show one < Sn S from h1) (by omega)) other 0 (show other < Sn S from h2)) ?_
        rintro τ106 ⟨a106, b106⟩
        refine AW.run 3 [] (55, [(0, .inr (.inr (0, 0, 0))), (1, .inr (.inr (2, 0, 0))), (2, .inl (nI one)), (3, .inl (nI other)), (4, .inl (nI n)), (5, .inl (nI p))], [.inl (nI n), .inr (.inr (2, 3, 0))], τ106) [] rfl ?_ ?_
        · exact trivial
        refine AW.callVV (d' := 3) [.inl (nI n)] [] ⟨_, rfl⟩ f_3_pass v_3_pass l_1_29 ⟨rfl, by decide⟩ rfl (Nat.le_of_ble_eq_true rfl) rfl (Nat.le_of_ble_eq_true rfl) (c3_pass 3 (withQ (withQ S (fu (Sq S) one 0)) (fu (Sq (withQ S (fu (Sq S) one 0))) other 0)) τ106 b106 (SOK_q (SOK_q hO (show one < Sn S from h1) (by omega)) (show other < Sn S from h2) (by omega)) n (by omega)) ?_
        rintro τ107 ⟨a107, b107⟩
        refine AW.run 5 [] (66, [(0, .inr (.inr (0, 0, 0))), (1, .inr (.inr (2, 0, 0))), (2, .inl (nI one)), (3, .inl (nI other)), (4, .inl (nI n)), (5, .inl (nI p))], [.inl (nI one), .inr (.inr (0, 0, 0)), .inl (nI p), .inr (.inr (0, 0, 2))], τ107) [] rfl ?_ ?_
        · exact trivial
        refine AW.callVI (d' := 2) [.inl (nI one)] [.inl (nI p), .inr (.inr (0, 0, 2))] ⟨_, rfl⟩ f_1_wantMet v_1_wantMet l_1_130 ⟨rfl, by decide⟩ rfl (Nat.le_of_ble_eq_true rfl) rfl (Nat.le_of_ble_eq_true rfl) (c1_wantMet (passS n (withQ (withQ S (fu (Sq S) one 0)) (fu (Sq (withQ S (fu (Sq S) one 0))) other 0))) τ107 b107 (SOK_pass n (SOK_q (SOK_q hO (show one < Sn S from h1) (by omega)) (show other < Sn S from h2) (by omega))) one (by rw [pass_n]; exact h1)) ?_
        rintro _ _ ⟨rfl, rfl⟩
        refine AW.run 6 [] (78, [(0, .inr (.inr (0, 0, 0))), (1, .inr (.inr (2, 0, 0))), (2, .inl (nI one)), (3, .inl (nI other)), (4, .inl (nI n)), (5, .inl (nI p))], [.inl (nI other), .inr (.inr (0, 0, 0)), .inl (nI p), .inr (.inr (0, 0, 3))], (setM τ107 0 0 2 (nI p).toNatClampNeg (nI (wantN (passS n (withQ (withQ S (fu (Sq S) one 0)) (fu (Sq (withQ S (fu (Sq S) one 0))) other 0))) one)))) [vp_in (nI p) 4] rfl ?_ ?_
        · exact allP1 (by exact vp_in_nI hp (by decide))
        refine AW.callVI (d' := 2) [.inl (nI other)] [.inl (nI p), .inr (.inr (0, 0, 3))] ⟨_, rfl⟩ f_1_wantMet v_1_wantMet l_1_130 ⟨rfl, by decide⟩ rfl (Nat.le_of_ble_eq_true rfl) rfl (Nat.le_of_ble_eq_true rfl) (c1_wantMet (passS n (withQ (withQ S (fu (Sq S) one 0)) (fu (Sq (withQ S (fu (Sq S) one 0))) other 0))) (setM τ107 0 0 2 (nI p).toNatClampNeg (nI (wantN (passS n (withQ (withQ S (fu (Sq S) one 0)) (fu (Sq (withQ S (fu (Sq S) one 0))) other 0))) one))) (by rw [set_ne (by decide)]; exact b107) (SOK_pass n (SOK_q (SOK_q hO (show one < Sn S from h1) (by omega)) (show other < Sn S from h2) (by omega))) other (by rw [pass_n]; exact h2)) ?_
        rintro _ _ ⟨rfl, rfl⟩
        refine AW.run 3 [] (3, [(5, .inl ((nI p) + 1)), (0, .inr (.inr (0, 0, 0))), (1, .inr (.inr (2, 0, 0))), (2, .inl (nI one)), (3, .inl (nI other)), (4, .inl (nI n))], [], (setM (setM τ107 0 0 2 (nI p).toNatClampNeg (nI (wantN (passS n (withQ (withQ S (fu (Sq S) one 0)) (fu (Sq (withQ S (fu (Sq S) one 0))) other 0))) one))) 0 0 3 (nI p).toNatClampNeg (nI (wantN (passS n (withQ (withQ S (fu (Sq S) one 0)) (fu (Sq (withQ S (fu (Sq S) one 0))) other 0))) other)))) [vp_in (nI p) 4] rfl ?_ ?_
        · exact allP1 (by exact vp_in_nI hp (by decide))
        rw [nI_1 p]
        refine AW.pick [1, 2, 3, 4, 5, 0] (ls' := [(0, .inr (.inr (0, 0, 0))), (1, .inr (.inr (2, 0, 0))), (2, .inl (nI one)), (3, .inl (nI other)), (4, .inl (nI n)), (5, .inl (nI (p + 1)))]) rfl ?_
        have hch : τ107 0 0 = τ 0 0 := (only_trans (only_trans (only_trans a104 a105) a106) a107) 0 0 (by decide)
        rw [cl4 hp]
        refine hk () _ ⟨onlyM_set (onlyM_set (onlyM_trans (onlyM_trans (onlyM_trans (onlyM_trans hA a104) a105) a106) a107)), fun j hj => ?_⟩
        by_cases hjp : j = p
        · subst hjp
          have hre : restS S one other j = (withQ (withQ S (fu (Sq S) one 0)) (fu (Sq (withQ S (fu (Sq S) one 0))) other 0)) := by simp [restS, rest0, *]
          simp only [setM_at, rw1, rw2, hre]
          simp
        · have := hF j (by omega)
          simp only [setM_at]
          rw [if_neg (by omega), if_neg (by omega), if_neg (by omega), if_neg (by omega), hch]
          exact this
      · skip
        refine AW.run 5 [true] (55, [(0, .inr (.inr (0, 0, 0))), (1, .inr (.inr (2, 0, 0))), (2, .inl (nI one)), (3, .inl (nI other)), (4, .inl (nI n)), (5, .inl (nI p))], [.inl (nI n), .inr (.inr (2, 3, 0))], τ105) [icP .ne (nI (p % 2)) 1] rfl ?_ ?_
        · exact allP1 (fun q => h37_2 (nI_lit (n := 1) q (by omega) (by decide)))
        refine AW.callVV (d' := 3) [.inl (nI n)] [] ⟨_, rfl⟩ f_3_pass v_3_pass l_1_29 ⟨rfl, by decide⟩ rfl (Nat.le_of_ble_eq_true rfl) rfl (Nat.le_of_ble_eq_true rfl) (c3_pass 3 (withQ S (fu (Sq S) one 0)) τ105 b105 (SOK_q hO (show one < Sn S from h1) (by omega)) n (by omega)) ?_
        rintro τ108 ⟨a108, b108⟩
        refine AW.run 5 [] (66, [(0, .inr (.inr (0, 0, 0))), (1, .inr (.inr (2, 0, 0))), (2, .inl (nI one)), (3, .inl (nI other)), (4, .inl (nI n)), (5, .inl (nI p))], [.inl (nI one), .inr (.inr (0, 0, 0)), .inl (nI p), .inr (.inr (0, 0, 2))], τ108) [] rfl ?_ ?_
        · exact trivial
        refine AW.callVI (d' := 2) [.inl (nI one)] [.inl (nI p), .inr (.inr (0, 0, 2))] ⟨_, rfl⟩ f_1_wantMet v_1_wantMet l_1_130 ⟨rfl, by decide⟩ rfl (Nat.le_of_ble_eq_true rfl) rfl (Nat.le_of_ble_eq_true rfl) (c1_wantMet (passS n (withQ S (fu (Sq S) one 0))) τ108 b108 (SOK_pass n (SOK_q hO (show one < Sn S from h1) (by omega))) one (by rw [pass_n]; exact h1)) ?_
        rintro _ _ ⟨rfl, rfl⟩
        refine AW.run 6 [] (78, [(0, .inr (.inr (0, 0, 0))), (1, .inr (.inr (2, 0, 0))), (2, .inl (nI one)), (3, .inl (nI other)), (4, .inl (nI n)), (5, .inl (nI p))], [.inl (nI other), .inr (.inr (0, 0, 0)), .inl (nI p), .inr (.inr (0, 0, 3))], (setM τ108 0 0 2 (nI p).toNatClampNeg (nI (wantN (passS n (withQ S (fu (Sq S) one 0))) one)))) [vp_in (nI p) 4] rfl ?_ ?_
        · exact allP1 (by exact vp_in_nI hp (by decide))
        refine AW.callVI (d' := 2) [.inl (nI other)] [.inl (nI p), .inr (.inr (0, 0, 3))] ⟨_, rfl⟩ f_1_wantMet v_1_wantMet l_1_130 ⟨rfl, by decide⟩ rfl (Nat.le_of_ble_eq_true rfl) rfl (Nat.le_of_ble_eq_true rfl) (c1_wantMet (passS n (withQ S (fu (Sq S) one 0))) (setM τ108 0 0 2 (nI p).toNatClampNeg (nI (wantN (passS n (withQ S (fu (Sq S) one 0))) one))) (by rw [set_ne (by decide)]; exact b108) (SOK_pass n (SOK_q hO (show one < Sn S from h1) (by omega))) other (by rw [pass_n]; exact h2)) ?_
        rintro _ _ ⟨rfl, rfl⟩
        refine AW.run 3 [] (3, [(5, .inl ((nI p) + 1)), (0, .inr (.inr (0, 0, 0))), (1, .inr (.inr (2, 0, 0))), (2, .inl (nI one)), (3, .inl (nI other)), (4, .inl (nI n))], [], (setM (setM τ108 0 0 2 (nI p).toNatClampNeg (nI (wantN (passS n (withQ S (fu (Sq S) one 0))) one))) 0 0 3 (nI p).toNatClampNeg (nI (wantN (passS n (withQ S (fu (Sq S) one 0))) other)))) [vp_in (nI p) 4] rfl ?_ ?_
        · exact allP1 (by exact vp_in_nI hp (by decide))
        rw [nI_1 p]
        refine AW.pick [1, 2, 3, 4, 5, 0] (ls' := [(0, .inr (.inr (0, 0, 0))), (1, .inr (.inr (2, 0, 0))), (2, .inl (nI one)), (3, .inl (nI other)), (4, .inl (nI n)), (5, .inl (nI (p + 1)))]) rfl ?_
        have hch : τ108 0 0 = τ 0 0 := (only_trans (only_trans a104 a105) a108) 0 0 (by decide)
        rw [cl4 hp]
        refine hk () _ ⟨onlyM_set (onlyM_set (onlyM_trans (onlyM_trans (onlyM_trans hA a104) a105) a108)), fun j hj => ?_⟩
        by_cases hjp : j = p
        · subst hjp
          have hre : restS S one other j = (withQ S (fu (Sq S) one 0)) := by simp [restS, rest0, *]
          simp only [setM_at, rw1, rw2, hre]
          simp
        · have := hF j (by omega)
          simp only [setM_at]
          rw [if_neg (by omega), if_neg (by omega), if_neg (by omega), if_neg (by omega), hch]
          exact this
    · skip
      refine AW.run 6 [true] (36, [(0, .inr (.inr (0, 0, 0))), (1, .inr (.inr (2, 0, 0))), (2, .inl (nI one)), (3, .inl (nI other)), (4, .inl (nI n)), (5, .inl (nI p))], [.inl ((nI p) - (nI p) / 2 * 2)], τ104) [icP .lt (nI p) 2, ¬ (2 : Int32) = 0] rfl ?_ ?_
      · exact ⟨(nI_lt (b := 2) (by omega) (by decide)), allP1 (by decide)⟩
      rw [hm2]
      by_cases h37_3 : p % 2 = 1
      · skip
        refine AW.run 6 [false] (46, [(0, .inr (.inr (0, 0, 0))), (1, .inr (.inr (2, 0, 0))), (2, .inl (nI one)), (3, .inl (nI other)), (4, .inl (nI n)), (5, .inl (nI p))], [.inl 0, .inl (nI other), .inr (.inr (2, 3, 0))], τ104) [¬ icP .ne (nI (p % 2)) 1] rfl ?_ ?_
        · exact allP1 (fun q => q (by rw [h37_3]; rfl))
        refine AW.callVV (d' := 1) [.inl (nI other), .inl 0] [] ⟨_, rfl⟩ f_3_setPress v_3_setPress l_1_86 ⟨rfl, by decide⟩ rfl (Nat.le_of_ble_eq_true rfl) rfl (Nat.le_of_ble_eq_true rfl) (c3_setPress 3 S τ104 b104 hO other 0 (show other < Sn S from h2)) ?_
        rintro τ109 ⟨a109, b109⟩
        refine AW.run 3 [] (55, [(0, .inr (.inr (0, 0, 0))), (1, .inr (.inr (2, 0, 0))), (2, .inl (nI one)), (3, .inl (nI other)), (4, .inl (nI n)), (5, .inl (nI p))], [.inl (nI n), .inr (.inr (2, 3, 0))], τ109) [] rfl ?_ ?_
        · exact trivial
        refine AW.callVV (d' := 3) [.inl (nI n)] [] ⟨_, rfl⟩ f_3_pass v_3_pass l_1_29 ⟨rfl, by decide⟩ rfl (Nat.le_of_ble_eq_true rfl) rfl (Nat.le_of_ble_eq_true rfl) (c3_pass 3 (withQ S (fu (Sq S) other 0)) τ109 b109 (SOK_q hO (show other < Sn S from h2) (by omega)) n (by omega)) ?_
        rintro τ110 ⟨a110, b110⟩
        refine AW.run 5 [] (66, [(0, .inr (.inr (0, 0, 0))), (1, .inr (.inr (2, 0, 0))), (2, .inl (nI one)), (3, .inl (nI other)), (4, .inl (nI n)), (5, .inl (nI p))], [.inl (nI one), .inr (.inr (0, 0, 0)), .inl (nI p), .inr (.inr (0, 0, 2))], τ110) [] rfl ?_ ?_
        · exact trivial
        refine AW.callVI (d' := 2) [.inl (nI one)] [.inl (nI p), .inr (.inr (0, 0, 2))] ⟨_, rfl⟩ f_1_wantMet v_1_wantMet l_1_130 ⟨rfl, by decide⟩ rfl (Nat.le_of_ble_eq_true rfl) rfl (Nat.le_of_ble_eq_true rfl) (c1_wantMet (passS n (withQ S (fu (Sq S) other 0))) τ110 b110 (SOK_pass n (SOK_q hO (show other < Sn S from h2) (by omega))) one (by rw [pass_n]; exact h1)) ?_
        rintro _ _ ⟨rfl, rfl⟩
        refine AW.run 6 [] (78, [(0, .inr (.inr (0, 0, 0))), (1, .inr (.inr (2, 0, 0))), (2, .inl (nI one)), (3, .inl (nI other)), (4, .inl (nI n)), (5, .inl (nI p))], [.inl (nI other), .inr (.inr (0, 0, 0)), .inl (nI p), .inr (.inr (0, 0, 3))], (setM τ110 0 0 2 (nI p).toNatClampNeg (nI (wantN (passS n (withQ S (fu (Sq S) other 0))) one)))) [vp_in (nI p) 4] rfl ?_ ?_
        · exact allP1 (by exact vp_in_nI hp (by decide))
        refine AW.callVI (d' := 2) [.inl (nI other)] [.inl (nI p), .inr (.inr (0, 0, 3))] ⟨_, rfl⟩ f_1_wantMet v_1_wantMet l_1_130 ⟨rfl, by decide⟩ rfl (Nat.le_of_ble_eq_true rfl) rfl (Nat.le_of_ble_eq_true rfl) (c1_wantMet (passS n (withQ S (fu (Sq S) other 0))) (setM τ110 0 0 2 (nI p).toNatClampNeg (nI (wantN (passS n (withQ S (fu (Sq S) other 0))) one))) (by rw [set_ne (by decide)]; exact b110) (SOK_pass n (SOK_q hO (show other < Sn S from h2) (by omega))) other (by rw [pass_n]; exact h2)) ?_
        rintro _ _ ⟨rfl, rfl⟩
        refine AW.run 3 [] (3, [(5, .inl ((nI p) + 1)), (0, .inr (.inr (0, 0, 0))), (1, .inr (.inr (2, 0, 0))), (2, .inl (nI one)), (3, .inl (nI other)), (4, .inl (nI n))], [], (setM (setM τ110 0 0 2 (nI p).toNatClampNeg (nI (wantN (passS n (withQ S (fu (Sq S) other 0))) one))) 0 0 3 (nI p).toNatClampNeg (nI (wantN (passS n (withQ S (fu (Sq S) other 0))) other)))) [vp_in (nI p) 4] rfl ?_ ?_
        · exact allP1 (by exact vp_in_nI hp (by decide))
        rw [nI_1 p]
        refine AW.pick [1, 2, 3, 4, 5, 0] (ls' := [(0, .inr (.inr (0, 0, 0))), (1, .inr (.inr (2, 0, 0))), (2, .inl (nI one)), (3, .inl (nI other)), (4, .inl (nI n)), (5, .inl (nI (p + 1)))]) rfl ?_
        have hch : τ110 0 0 = τ 0 0 := (only_trans (only_trans a104 a109) a110) 0 0 (by decide)
        rw [cl4 hp]
        refine hk () _ ⟨onlyM_set (onlyM_set (onlyM_trans (onlyM_trans (onlyM_trans hA a104) a109) a110)), fun j hj => ?_⟩
        by_cases hjp : j = p
        · subst hjp
          have hre : restS S one other j = (withQ S (fu (Sq S) other 0)) := by simp [restS, rest0, *]
          simp only [setM_at, rw1, rw2, hre]
          simp
        · have := hF j (by omega)
          simp only [setM_at]
          rw [if_neg (by omega), if_neg (by omega), if_neg (by omega), if_neg (by omega), hch]
          exact this
      · skip
        refine AW.run 5 [true] (55, [(0, .inr (.inr (0, 0, 0))), (1, .inr (.inr (2, 0, 0))), (2, .inl (nI one)), (3, .inl (nI other)), (4, .inl (nI n)), (5, .inl (nI p))], [.inl (nI n), .inr (.inr (2, 3, 0))], τ104) [icP .ne (nI (p % 2)) 1] rfl ?_ ?_
        · exact allP1 (fun q => h37_3 (nI_lit (n := 1) q (by omega) (by decide)))
        refine AW.callVV (d' := 3) [.inl (nI n)] [] ⟨_, rfl⟩ f_3_pass v_3_pass l_1_29 ⟨rfl, by decide⟩ rfl (Nat.le_of_ble_eq_true rfl) rfl (Nat.le_of_ble_eq_true rfl) (c3_pass 3 S τ104 b104 hO n (by omega)) ?_
        rintro τ111 ⟨a111, b111⟩
        refine AW.run 5 [] (66, [(0, .inr (.inr (0, 0, 0))), (1, .inr (.inr (2, 0, 0))), (2, .inl (nI one)), (3, .inl (nI other)), (4, .inl (nI n)), (5, .inl (nI p))], [.inl (nI one), .inr (.inr (0, 0, 0)), .inl (nI p), .inr (.inr (0, 0, 2))], τ111) [] rfl ?_ ?_
        · exact trivial
        refine AW.callVI (d' := 2) [.inl (nI one)] [.inl (nI p), .inr (.inr (0, 0, 2))] ⟨_, rfl⟩ f_1_wantMet v_1_wantMet l_1_130 ⟨rfl, by decide⟩ rfl (Nat.le_of_ble_eq_true rfl) rfl (Nat.le_of_ble_eq_true rfl) (c1_wantMet (passS n S) τ111 b111 (SOK_pass n hO) one (by rw [pass_n]; exact h1)) ?_
        rintro _ _ ⟨rfl, rfl⟩
        refine AW.run 6 [] (78, [(0, .inr (.inr (0, 0, 0))), (1, .inr (.inr (2, 0, 0))), (2, .inl (nI one)), (3, .inl (nI other)), (4, .inl (nI n)), (5, .inl (nI p))], [.inl (nI other), .inr (.inr (0, 0, 0)), .inl (nI p), .inr (.inr (0, 0, 3))], (setM τ111 0 0 2 (nI p).toNatClampNeg (nI (wantN (passS n S) one)))) [vp_in (nI p) 4] rfl ?_ ?_
        · exact allP1 (by exact vp_in_nI hp (by decide))
        refine AW.callVI (d' := 2) [.inl (nI other)] [.inl (nI p), .inr (.inr (0, 0, 3))] ⟨_, rfl⟩ f_1_wantMet v_1_wantMet l_1_130 ⟨rfl, by decide⟩ rfl (Nat.le_of_ble_eq_true rfl) rfl (Nat.le_of_ble_eq_true rfl) (c1_wantMet (passS n S) (setM τ111 0 0 2 (nI p).toNatClampNeg (nI (wantN (passS n S) one))) (by rw [set_ne (by decide)]; exact b111) (SOK_pass n hO) other (by rw [pass_n]; exact h2)) ?_
        rintro _ _ ⟨rfl, rfl⟩
        refine AW.run 3 [] (3, [(5, .inl ((nI p) + 1)), (0, .inr (.inr (0, 0, 0))), (1, .inr (.inr (2, 0, 0))), (2, .inl (nI one)), (3, .inl (nI other)), (4, .inl (nI n))], [], (setM (setM τ111 0 0 2 (nI p).toNatClampNeg (nI (wantN (passS n S) one))) 0 0 3 (nI p).toNatClampNeg (nI (wantN (passS n S) other)))) [vp_in (nI p) 4] rfl ?_ ?_
        · exact allP1 (by exact vp_in_nI hp (by decide))
        rw [nI_1 p]
        refine AW.pick [1, 2, 3, 4, 5, 0] (ls' := [(0, .inr (.inr (0, 0, 0))), (1, .inr (.inr (2, 0, 0))), (2, .inl (nI one)), (3, .inl (nI other)), (4, .inl (nI n)), (5, .inl (nI (p + 1)))]) rfl ?_
        have hch : τ111 0 0 = τ 0 0 := (only_trans a104 a111) 0 0 (by decide)
        rw [cl4 hp]
        refine hk () _ ⟨onlyM_set (onlyM_set (onlyM_trans (onlyM_trans hA a104) a111)), fun j hj => ?_⟩
        by_cases hjp : j = p
        · subst hjp
          have hre : restS S one other j = S := by simp [restS, rest0, *]
          simp only [setM_at, rw1, rw2, hre]
          simp
        · have := hF j (by omega)
          simp only [setM_at]
          rw [if_neg (by omega), if_neg (by omega), if_neg (by omega), if_neg (by omega), hch]
          exact this
  · intro _ τ hI
    obtain ⟨hA, hF⟩ := hI
    refine AW.run 5 [true] (91, [(5, .inl 0), (0, .inr (.inr (0, 0, 0))), (1, .inr (.inr (2, 0, 0))), (2, .inl (nI one)), (3, .inl (nI other)), (4, .inl (nI n))], [], τ) [icP .ge (nI 4) 4] rfl ?_ ?_
    · exact allP1 (le_lit (a := 4) (b := 4) (by decide) (by decide))
    refine AW.pick [1, 2, 3, 4, 5, 0] (ls' := [(0, .inr (.inr (0, 0, 0))), (1, .inr (.inr (2, 0, 0))), (2, .inl (nI one)), (3, .inl (nI other)), (4, .inl (nI n)), (5, .inl (nI 0))]) rfl ?_
    refine AW.loop (α := Unit) 91 4 (fun p _ => [(0, .inr (.inr (0, 0, 0))), (1, .inr (.inr (2, 0, 0))), (2, .inl (nI one)), (3, .inl (nI other)), (4, .inl (nI n)), (5, .inl (nI p))]) (fun p _ τ9 => τ = τ9 ∧ fstN (restB S one other n) 4 0 = fstN (restB S one other n) (4 - p) p) ?_ ?_ 4 0 () _ (by omega) ⟨rfl, rfl⟩
    · intro p _ τ9 hp hJ hk
      obtain ⟨rfl, hJ⟩ := hJ
      have hw : fstN (restB S one other n) (4 - p) p = if restB S one other n p = true then some p else fstN (restB S one other n) (4 - (p + 1)) (p + 1) := by
        obtain ⟨m, hm⟩ : ∃ m, 4 - p = m + 1 := ⟨3 - p, by omega⟩
        rw [hm, show 4 - (p + 1) = m by omega]; rfl
      rw [hw] at hJ
      obtain ⟨b1, b2, b3⟩ := p4b p hp
      obtain ⟨c1, c2, c3⟩ := p4c p hp
      have q1 : τ 0 0 2 (nI p).toNatClampNeg = nI (rw1 S one other n p) := by rw [cl4 hp]; exact (hF p hp).1
      have q2 : τ 0 0 2 (nI p ^^^ 2).toNatClampNeg = nI (rw1 S one other n (p ^^^ 2)) := by rw [b2]; exact (hF _ b3).1
      have q3 : τ 0 0 3 (nI p).toNatClampNeg = nI (rw2 S one other n p) := by rw [cl4 hp]; exact (hF p hp).2
      have q4 : τ 0 0 3 (nI p ^^^ 1).toNatClampNeg = nI (rw2 S one other n (p ^^^ 1)) := by rw [c2]; exact (hF _ c3).2
      have wl1 : ∀ j, rw1 S one other n j ≤ 14 := fun j => want_le (hp4 j) one
      have wl2 : ∀ j, rw2 S one other n j ≤ 14 := fun j => want_le (hp4 j) other
      have l1 := wl1 p
      have l2 := wl1 (p ^^^ 2)
      have l3 := wl2 p
      have l4 := wl2 (p ^^^ 1)
      refine AW.run 7 [false] (104, [(0, .inr (.inr (0, 0, 0))), (1, .inr (.inr (2, 0, 0))), (2, .inl (nI one)), (3, .inl (nI other)), (4, .inl (nI n)), (5, .inl (nI p))], [.inl (τ 0 0 2 (nI p).toNatClampNeg)], τ) [¬ icP .ge (nI p) 4, vp_in (nI p) 4] rfl ?_ ?_
      · exact ⟨(nle_lit (a := 4) hp (by decide)), allP1 (by first | exact vp_in_nI hp (by decide) | exact b1 | exact c1)⟩
      rw [q1]
      refine AW.run 6 [] (113, [(0, .inr (.inr (0, 0, 0))), (1, .inr (.inr (2, 0, 0))), (2, .inl (nI one)), (3, .inl (nI other)), (4, .inl (nI n)), (5, .inl (nI p))], [.inl (τ 0 0 2 ((nI p) ^^^ 2).toNatClampNeg), .inl (nI (rw1 S one other n p))], τ) [vp_in ((nI p) ^^^ 2) 4] rfl ?_ ?_
      · exact allP1 (by first | exact vp_in_nI hp (by decide) | exact b1 | exact c1)
      rw [q2]
      by_cases h113_1 : rw1 S one other n p < rw1 S one other n (p ^^^ 2)
      · skip
        refine AW.run 7 [true] (130, [(6, .inl 0), (0, .inr (.inr (0, 0, 0))), (1, .inr (.inr (2, 0, 0))), (2, .inl (nI one)), (3, .inl (nI other)), (4, .inl (nI n)), (5, .inl (nI p))], [.inl (τ 0 0 3 (nI p).toNatClampNeg)], τ) [icP .lt (nI (rw1 S one other n p)) (nI (rw1 S one other n (p ^^^ 2))), vp_in (nI p) 4] rfl ?_ ?_
        · exact ⟨(nI_lt h113_1 (by omega)), allP1 (by first | exact vp_in_nI hp (by decide) | exact b1 | exact c1)⟩
        rw [q3]
        refine AW.run 6 [] (139, [(6, .inl 0), (0, .inr (.inr (0, 0, 0))), (1, .inr (.inr (2, 0, 0))), (2, .inl (nI one)), (3, .inl (nI other)), (4, .inl (nI n)), (5, .inl (nI p))], [.inl (τ 0 0 3 ((nI p) ^^^ 1).toNatClampNeg), .inl (nI (rw2 S one other n p))], τ) [vp_in ((nI p) ^^^ 1) 4] rfl ?_ ?_
        · exact allP1 (by first | exact vp_in_nI hp (by decide) | exact b1 | exact c1)
        rw [q4]
        by_cases h139_2 : rw2 S one other n p < rw2 S one other n (p ^^^ 1)
        · skip
          refine AW.run 7 [true, true] (91, [(5, .inl ((nI p) + 1)), (7, .inl 0), (6, .inl 0), (0, .inr (.inr (0, 0, 0))), (1, .inr (.inr (2, 0, 0))), (2, .inl (nI one)), (3, .inl (nI other)), (4, .inl (nI n))], [], τ) [icP .lt (nI (rw2 S one other n p)) (nI (rw2 S one other n (p ^^^ 1))), icP .eq (0 : Int32) 0] rfl ?_ ?_
          · exact ⟨(nI_lt h139_2 (by omega)), allP1 (by decide : ((0 : Int32) = 0))⟩
          rw [nI_1 p]
          refine AW.pick [3, 4, 5, 6, 7, 0] (ls' := [(0, .inr (.inr (0, 0, 0))), (1, .inr (.inr (2, 0, 0))), (2, .inl (nI one)), (3, .inl (nI other)), (4, .inl (nI n)), (5, .inl (nI (p + 1)))]) rfl ?_
          exact hk () _ ⟨rfl, by rw [hJ, if_neg (by simp only [restB, Bool.and_eq_true, decide_eq_true_eq]; omega)]⟩
        · skip
          refine AW.run 8 [false, true] (91, [(5, .inl ((nI p) + 1)), (7, .inl 1), (6, .inl 0), (0, .inr (.inr (0, 0, 0))), (1, .inr (.inr (2, 0, 0))), (2, .inl (nI one)), (3, .inl (nI other)), (4, .inl (nI n))], [], τ) [¬ icP .lt (nI (rw2 S one other n p)) (nI (rw2 S one other n (p ^^^ 1))), icP .eq (0 : Int32) 0] rfl ?_ ?_
          · exact ⟨(nI_nlt (by omega) (by omega)), allP1 (by decide : ((0 : Int32) = 0))⟩
          rw [nI_1 p]
          refine AW.pick [3, 4, 5, 6, 7, 0] (ls' := [(0, .inr (.inr (0, 0, 0))), (1, .inr (.inr (2, 0, 0))), (2, .inl (nI one)), (3, .inl (nI other)), (4, .inl (nI n)), (5, .inl (nI (p + 1)))]) rfl ?_
          exact hk () _ ⟨rfl, by rw [hJ, if_neg (by simp only [restB, Bool.and_eq_true, decide_eq_true_eq]; omega)]⟩
      · skip
        refine AW.run 8 [false] (130, [(6, .inl 1), (0, .inr (.inr (0, 0, 0))), (1, .inr (.inr (2, 0, 0))), (2, .inl (nI one)), (3, .inl (nI other)), (4, .inl (nI n)), (5, .inl (nI p))], [.inl (τ 0 0 3 (nI p).toNatClampNeg)], τ) [¬ icP .lt (nI (rw1 S one other n p)) (nI (rw1 S one other n (p ^^^ 2))), vp_in (nI p) 4] rfl ?_ ?_
        · exact ⟨(nI_nlt (by omega) (by omega)), allP1 (by first | exact vp_in_nI hp (by decide) | exact b1 | exact c1)⟩
        rw [q3]
        refine AW.run 6 [] (139, [(6, .inl 1), (0, .inr (.inr (0, 0, 0))), (1, .inr (.inr (2, 0, 0))), (2, .inl (nI one)), (3, .inl (nI other)), (4, .inl (nI n)), (5, .inl (nI p))], [.inl (τ 0 0 3 ((nI p) ^^^ 1).toNatClampNeg), .inl (nI (rw2 S one other n p))], τ) [vp_in ((nI p) ^^^ 1) 4] rfl ?_ ?_
        · exact allP1 (by first | exact vp_in_nI hp (by decide) | exact b1 | exact c1)
        rw [q4]
        by_cases h139_3 : rw2 S one other n p < rw2 S one other n (p ^^^ 1)
        · skip
          refine AW.run 9 [true, false, true] (91, [(5, .inl ((nI p) + 1)), (7, .inl 0), (6, .inl 1), (0, .inr (.inr (0, 0, 0))), (1, .inr (.inr (2, 0, 0))), (2, .inl (nI one)), (3, .inl (nI other)), (4, .inl (nI n))], [], τ) [icP .lt (nI (rw2 S one other n p)) (nI (rw2 S one other n (p ^^^ 1))), ¬ icP .eq (1 : Int32) 0, icP .eq (0 : Int32) 0] rfl ?_ ?_
          · exact ⟨(nI_lt h139_3 (by omega)), (by decide : ¬ ((1 : Int32) = 0)), allP1 (by decide : ((0 : Int32) = 0))⟩
          rw [nI_1 p]
          refine AW.pick [3, 4, 5, 6, 7, 0] (ls' := [(0, .inr (.inr (0, 0, 0))), (1, .inr (.inr (2, 0, 0))), (2, .inl (nI one)), (3, .inl (nI other)), (4, .inl (nI n)), (5, .inl (nI (p + 1)))]) rfl ?_
          exact hk () _ ⟨rfl, by rw [hJ, if_neg (by simp only [restB, Bool.and_eq_true, decide_eq_true_eq]; omega)]⟩
        · skip
          refine AW.run 16 [false, false, false] (170, [(7, .inl 1), (6, .inl 1), (0, .inr (.inr (0, 0, 0))), (1, .inr (.inr (2, 0, 0))), (2, .inl (nI one)), (3, .inl (nI other)), (4, .inl (nI n)), (5, .inl (nI p))], [.inl ((nI p) - (nI p) / 2 * 2), .inl (10 * ((nI p) / 2))], τ) [¬ icP .lt (nI (rw2 S one other n p)) (nI (rw2 S one other n (p ^^^ 1))), ¬ icP .eq (1 : Int32) 0, ¬ icP .eq (1 : Int32) 0, ¬ (2 : Int32) = 0, ¬ (2 : Int32) = 0] rfl ?_ ?_
          · exact ⟨(nI_nlt (by omega) (by omega)), (by decide : ¬ ((1 : Int32) = 0)), (by decide : ¬ ((1 : Int32) = 0)), (by decide), allP1 (by decide)⟩
          rw [p4a p hp]
          refine AW.run 1 [] (171, [(7, .inl 1), (6, .inl 1), (0, .inr (.inr (0, 0, 0))), (1, .inr (.inr (2, 0, 0))), (2, .inl (nI one)), (3, .inl (nI other)), (4, .inl (nI n)), (5, .inl (nI p))], [.inl ((10 * ((nI p) / 2)) + (nI (p % 2)))], τ) [] rfl ?_ ?_
          · exact trivial
          rw [p4d p hp]
          refine AW.reti ⟨_, rfl⟩ rfl ?_
          rw [if_pos (by simp only [restB, Bool.and_eq_true, decide_eq_true_eq]; omega)] at hJ
          exact ⟨by unfold restO; rw [hJ], hA⟩
    · intro _ τ9 hJ
      obtain ⟨rfl, hJ⟩ := hJ
      refine AW.run 4 [true] (180, [(0, .inr (.inr (0, 0, 0))), (1, .inr (.inr (2, 0, 0))), (2, .inl (nI one)), (3, .inl (nI other)), (4, .inl (nI n)), (5, .inl (nI 4))], [.inl (-9)], τ) [icP .ge (nI 4) 4] rfl ?_ ?_
      · exact allP1 (le_lit (a := 4) (b := 4) (by decide) (by decide))
      refine AW.reti ⟨_, rfl⟩ rfl ?_
      exact ⟨by unfold restO; rw [hJ]; rfl, hA⟩
end
