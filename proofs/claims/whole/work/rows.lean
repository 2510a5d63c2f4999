section
-- ===== PART A: goes FIRST, ahead of the names: the tables' words, and 'selects' of the private methods out of them =====
/-- a private method of a class that the tables say can be made, by its rows of tables_1 -/
def lw_okq (q : MethodName × Nat) : Prop := (q.1.cls ≠ "java/lang/invoke/MethodHandle" ∧ q.1.cls ≠ "java/lang/invoke/VarHandle") ∧ Cond.instantiable q.1.cls q.2 ∈ tables_1 ∧ Cond.privateMethod q.1 ∈ tables_1 ∧ Cond.instanceMethod q.1 ∈ tables_1
theorem lw_p0 : lw_okq (⟨"ColdHouse$Script", "readItem", "(I)I"⟩, 3) := ⟨⟨by decide +kernel, by decide +kernel⟩, List.mem_of_getElem? (i := 27) (by decide +kernel), List.mem_of_getElem? (i := 363) (by decide +kernel), List.mem_of_getElem? (i := 364) (by decide +kernel)⟩
theorem lw_p1 : lw_okq (⟨"ColdHouse$Script", "letterAt", "(I)C"⟩, 3) := ⟨⟨by decide +kernel, by decide +kernel⟩, List.mem_of_getElem? (i := 27) (by decide +kernel), List.mem_of_getElem? (i := 367) (by decide +kernel), List.mem_of_getElem? (i := 368) (by decide +kernel)⟩
theorem lw_p2 : lw_okq (⟨"ColdHouse$Script", "readNumbers", "(I[I[I)I"⟩, 3) := ⟨⟨by decide +kernel, by decide +kernel⟩, List.mem_of_getElem? (i := 27) (by decide +kernel), List.mem_of_getElem? (i := 373) (by decide +kernel), List.mem_of_getElem? (i := 374) (by decide +kernel)⟩
theorem lw_p3 : lw_okq (⟨"ColdHouse$Script", "isFigure", "(I)Z"⟩, 3) := ⟨⟨by decide +kernel, by decide +kernel⟩, List.mem_of_getElem? (i := 27) (by decide +kernel), List.mem_of_getElem? (i := 380) (by decide +kernel), List.mem_of_getElem? (i := 381) (by decide +kernel)⟩
theorem lw_p4 : lw_okq (⟨"ColdHouse$Plant", "takeMachine", "([I)V"⟩, 14) := ⟨⟨by decide +kernel, by decide +kernel⟩, List.mem_of_getElem? (i := 48) (by decide +kernel), List.mem_of_getElem? (i := 397) (by decide +kernel), List.mem_of_getElem? (i := 398) (by decide +kernel)⟩
theorem lw_p5 : lw_okq (⟨"ColdHouse", "isMachine", "(I)Z"⟩, 8) := ⟨⟨by decide +kernel, by decide +kernel⟩, List.mem_of_getElem? (i := 19) (by decide +kernel), List.mem_of_getElem? (i := 489) (by decide +kernel), List.mem_of_getElem? (i := 490) (by decide +kernel)⟩
theorem lw_p6 : lw_okq (⟨"ColdHouse$Staging", "greatestOf", "(I)I"⟩, 2) := ⟨⟨by decide +kernel, by decide +kernel⟩, List.mem_of_getElem? (i := 226) (by decide +kernel), List.mem_of_getElem? (i := 524) (by decide +kernel), List.mem_of_getElem? (i := 525) (by decide +kernel)⟩
theorem lw_p7 : lw_okq (⟨"ColdHouse$Plant", "sumOver", "(I[I)I"⟩, 14) := ⟨⟨by decide +kernel, by decide +kernel⟩, List.mem_of_getElem? (i := 48) (by decide +kernel), List.mem_of_getElem? (i := 558) (by decide +kernel), List.mem_of_getElem? (i := 559) (by decide +kernel)⟩
theorem lw_p8 : lw_okq (⟨"ColdHouse$Sharing", "addMachine", "(II)V"⟩, 9) := ⟨⟨by decide +kernel, by decide +kernel⟩, List.mem_of_getElem? (i := 232) (by decide +kernel), List.mem_of_getElem? (i := 586) (by decide +kernel), List.mem_of_getElem? (i := 587) (by decide +kernel)⟩
theorem lw_p9 : lw_okq (⟨"ColdHouse$Sharing", "fillRow", "(I)V"⟩, 9) := ⟨⟨by decide +kernel, by decide +kernel⟩, List.mem_of_getElem? (i := 232) (by decide +kernel), List.mem_of_getElem? (i := 590) (by decide +kernel), List.mem_of_getElem? (i := 591) (by decide +kernel)⟩
theorem lw_p10 : lw_okq (⟨"ColdHouse$Sharing", "leastWith", "(II)J"⟩, 9) := ⟨⟨by decide +kernel, by decide +kernel⟩, List.mem_of_getElem? (i := 232) (by decide +kernel), List.mem_of_getElem? (i := 605) (by decide +kernel), List.mem_of_getElem? (i := 606) (by decide +kernel)⟩
theorem lw_p11 : lw_okq (⟨"ColdHouse$Staging", "comeOn", "(LColdHouse$State;I)V"⟩, 2) := ⟨⟨by decide +kernel, by decide +kernel⟩, List.mem_of_getElem? (i := 226) (by decide +kernel), List.mem_of_getElem? (i := 614) (by decide +kernel), List.mem_of_getElem? (i := 615) (by decide +kernel)⟩
theorem lw_p12 : lw_okq (⟨"ColdHouse$Staging", "comeBack", "(LColdHouse$State;)V"⟩, 2) := ⟨⟨by decide +kernel, by decide +kernel⟩, List.mem_of_getElem? (i := 226) (by decide +kernel), List.mem_of_getElem? (i := 632) (by decide +kernel), List.mem_of_getElem? (i := 633) (by decide +kernel)⟩
theorem lw_p13 : lw_okq (⟨"ColdHouse$Staging", "gapIsOver", "(LColdHouse$State;I)Z"⟩, 2) := ⟨⟨by decide +kernel, by decide +kernel⟩, List.mem_of_getElem? (i := 226) (by decide +kernel), List.mem_of_getElem? (i := 636) (by decide +kernel), List.mem_of_getElem? (i := 637) (by decide +kernel)⟩
theorem lw_p14 : lw_okq (⟨"ColdHouse$Staging", "stageUp", "(LColdHouse$State;)V"⟩, 2) := ⟨⟨by decide +kernel, by decide +kernel⟩, List.mem_of_getElem? (i := 226) (by decide +kernel), List.mem_of_getElem? (i := 649) (by decide +kernel), List.mem_of_getElem? (i := 650) (by decide +kernel)⟩
theorem lw_p15 : lw_okq (⟨"ColdHouse$Staging", "nextToStart", "(LColdHouse$State;)I"⟩, 2) := ⟨⟨by decide +kernel, by decide +kernel⟩, List.mem_of_getElem? (i := 226) (by decide +kernel), List.mem_of_getElem? (i := 653) (by decide +kernel), List.mem_of_getElem? (i := 654) (by decide +kernel)⟩
def lw_privs_1 : List (MethodName × Nat) := [(⟨"ColdHouse$Script", "readItem", "(I)I"⟩, 3), (⟨"ColdHouse$Script", "letterAt", "(I)C"⟩, 3), (⟨"ColdHouse$Script", "readNumbers", "(I[I[I)I"⟩, 3), (⟨"ColdHouse$Script", "isFigure", "(I)Z"⟩, 3), (⟨"ColdHouse$Plant", "takeMachine", "([I)V"⟩, 14), (⟨"ColdHouse", "isMachine", "(I)Z"⟩, 8), (⟨"ColdHouse$Staging", "greatestOf", "(I)I"⟩, 2), (⟨"ColdHouse$Plant", "sumOver", "(I[I)I"⟩, 14), (⟨"ColdHouse$Sharing", "addMachine", "(II)V"⟩, 9), (⟨"ColdHouse$Sharing", "fillRow", "(I)V"⟩, 9), (⟨"ColdHouse$Sharing", "leastWith", "(II)J"⟩, 9), (⟨"ColdHouse$Staging", "comeOn", "(LColdHouse$State;I)V"⟩, 2), (⟨"ColdHouse$Staging", "comeBack", "(LColdHouse$State;)V"⟩, 2), (⟨"ColdHouse$Staging", "gapIsOver", "(LColdHouse$State;I)Z"⟩, 2), (⟨"ColdHouse$Staging", "stageUp", "(LColdHouse$State;)V"⟩, 2), (⟨"ColdHouse$Staging", "nextToStart", "(LColdHouse$State;)I"⟩, 2)]
theorem lw_r1 : ∀ q ∈ lw_privs_1, lw_okq q := List.forall_mem_cons.mpr ⟨lw_p0, List.forall_mem_cons.mpr ⟨lw_p1, List.forall_mem_cons.mpr ⟨lw_p2, List.forall_mem_cons.mpr ⟨lw_p3, List.forall_mem_cons.mpr ⟨lw_p4, List.forall_mem_cons.mpr ⟨lw_p5, List.forall_mem_cons.mpr ⟨lw_p6, List.forall_mem_cons.mpr ⟨lw_p7, List.forall_mem_cons.mpr ⟨lw_p8, List.forall_mem_cons.mpr ⟨lw_p9, List.forall_mem_cons.mpr ⟨lw_p10, List.forall_mem_cons.mpr ⟨lw_p11, List.forall_mem_cons.mpr ⟨lw_p12, List.forall_mem_cons.mpr ⟨lw_p13, List.forall_mem_cons.mpr ⟨lw_p14, List.forall_mem_cons.mpr ⟨lw_p15, fun _ h => absurd h List.not_mem_nil⟩⟩⟩⟩⟩⟩⟩⟩⟩⟩⟩⟩⟩⟩⟩⟩
theorem lw_p16 : lw_okq (⟨"ColdHouse$Staging", "stageDown", "(LColdHouse$State;)V"⟩, 2) := ⟨⟨by decide +kernel, by decide +kernel⟩, List.mem_of_getElem? (i := 226) (by decide +kernel), List.mem_of_getElem? (i := 666) (by decide +kernel), List.mem_of_getElem? (i := 667) (by decide +kernel)⟩
theorem lw_p17 : lw_okq (⟨"ColdHouse$Staging", "nextToStop", "(LColdHouse$State;)I"⟩, 2) := ⟨⟨by decide +kernel, by decide +kernel⟩, List.mem_of_getElem? (i := 226) (by decide +kernel), List.mem_of_getElem? (i := 670) (by decide +kernel), List.mem_of_getElem? (i := 671) (by decide +kernel)⟩
theorem lw_p18 : lw_okq (⟨"ColdHouse$BestSets", "addMachine", "(I)V"⟩, 6) := ⟨⟨by decide +kernel, by decide +kernel⟩, List.mem_of_getElem? (i := 277) (by decide +kernel), List.mem_of_getElem? (i := 731) (by decide +kernel), List.mem_of_getElem? (i := 732) (by decide +kernel)⟩
theorem lw_p19 : lw_okq (⟨"ColdHouse$BestSets", "fillRow", "(I)V"⟩, 6) := ⟨⟨by decide +kernel, by decide +kernel⟩, List.mem_of_getElem? (i := 277) (by decide +kernel), List.mem_of_getElem? (i := 735) (by decide +kernel), List.mem_of_getElem? (i := 736) (by decide +kernel)⟩
theorem lw_p20 : lw_okq (⟨"ColdHouse$BestSets", "leastWith", "(II)I"⟩, 6) := ⟨⟨by decide +kernel, by decide +kernel⟩, List.mem_of_getElem? (i := 277) (by decide +kernel), List.mem_of_getElem? (i := 742) (by decide +kernel), List.mem_of_getElem? (i := 743) (by decide +kernel)⟩
theorem lw_p21 : lw_okq (⟨"ColdHouse", "aboveBest", "(I)I"⟩, 8) := ⟨⟨by decide +kernel, by decide +kernel⟩, List.mem_of_getElem? (i := 19) (by decide +kernel), List.mem_of_getElem? (i := 769) (by decide +kernel), List.mem_of_getElem? (i := 770) (by decide +kernel)⟩
theorem lw_p22 : lw_okq (⟨"ColdHouseModel", "beginRead", "()V"⟩, 15) := ⟨⟨by decide +kernel, by decide +kernel⟩, List.mem_of_getElem? (i := 782) (by decide +kernel), List.mem_of_getElem? (i := 788) (by decide +kernel), List.mem_of_getElem? (i := 789) (by decide +kernel)⟩
theorem lw_p23 : lw_okq (⟨"ColdHouseModel", "putMachine", "(IIIIII)V"⟩, 15) := ⟨⟨by decide +kernel, by decide +kernel⟩, List.mem_of_getElem? (i := 782) (by decide +kernel), List.mem_of_getElem? (i := 792) (by decide +kernel), List.mem_of_getElem? (i := 793) (by decide +kernel)⟩
theorem lw_p24 : lw_okq (⟨"ColdHouseModel", "takeRead", "()V"⟩, 15) := ⟨⟨by decide +kernel, by decide +kernel⟩, List.mem_of_getElem? (i := 782) (by decide +kernel), List.mem_of_getElem? (i := 796) (by decide +kernel), List.mem_of_getElem? (i := 797) (by decide +kernel)⟩
theorem lw_p25 : lw_okq (⟨"ColdHouseModel", "readText", "()I"⟩, 15) := ⟨⟨by decide +kernel, by decide +kernel⟩, List.mem_of_getElem? (i := 782) (by decide +kernel), List.mem_of_getElem? (i := 861) (by decide +kernel), List.mem_of_getElem? (i := 862) (by decide +kernel)⟩
theorem lw_p26 : lw_okq (⟨"ColdHouseModel", "readMachine", "()Z"⟩, 15) := ⟨⟨by decide +kernel, by decide +kernel⟩, List.mem_of_getElem? (i := 782) (by decide +kernel), List.mem_of_getElem? (i := 865) (by decide +kernel), List.mem_of_getElem? (i := 866) (by decide +kernel)⟩
theorem lw_p27 : lw_okq (⟨"ColdHouseModel", "readNumbers", "(I)Z"⟩, 15) := ⟨⟨by decide +kernel, by decide +kernel⟩, List.mem_of_getElem? (i := 782) (by decide +kernel), List.mem_of_getElem? (i := 869) (by decide +kernel), List.mem_of_getElem? (i := 870) (by decide +kernel)⟩
theorem lw_p28 : lw_okq (⟨"ColdHouseModel", "isFigure", "()Z"⟩, 15) := ⟨⟨by decide +kernel, by decide +kernel⟩, List.mem_of_getElem? (i := 782) (by decide +kernel), List.mem_of_getElem? (i := 873) (by decide +kernel), List.mem_of_getElem? (i := 874) (by decide +kernel)⟩
theorem lw_p29 : lw_okq (⟨"ColdHouseModel", "isNumber", "(III)Z"⟩, 15) := ⟨⟨by decide +kernel, by decide +kernel⟩, List.mem_of_getElem? (i := 782) (by decide +kernel), List.mem_of_getElem? (i := 877) (by decide +kernel), List.mem_of_getElem? (i := 878) (by decide +kernel)⟩
theorem lw_p30 : lw_okq (⟨"ColdHouseModel", "readOther", "(I)Z"⟩, 15) := ⟨⟨by decide +kernel, by decide +kernel⟩, List.mem_of_getElem? (i := 782) (by decide +kernel), List.mem_of_getElem? (i := 881) (by decide +kernel), List.mem_of_getElem? (i := 882) (by decide +kernel)⟩
theorem lw_p31 : lw_okq (⟨"ColdHouseModel", "note", "()V"⟩, 15) := ⟨⟨by decide +kernel, by decide +kernel⟩, List.mem_of_getElem? (i := 782) (by decide +kernel), List.mem_of_getElem? (i := 897) (by decide +kernel), List.mem_of_getElem? (i := 898) (by decide +kernel)⟩
def lw_privs_2 : List (MethodName × Nat) := [(⟨"ColdHouse$Staging", "stageDown", "(LColdHouse$State;)V"⟩, 2), (⟨"ColdHouse$Staging", "nextToStop", "(LColdHouse$State;)I"⟩, 2), (⟨"ColdHouse$BestSets", "addMachine", "(I)V"⟩, 6), (⟨"ColdHouse$BestSets", "fillRow", "(I)V"⟩, 6), (⟨"ColdHouse$BestSets", "leastWith", "(II)I"⟩, 6), (⟨"ColdHouse", "aboveBest", "(I)I"⟩, 8), (⟨"ColdHouseModel", "beginRead", "()V"⟩, 15), (⟨"ColdHouseModel", "putMachine", "(IIIIII)V"⟩, 15), (⟨"ColdHouseModel", "takeRead", "()V"⟩, 15), (⟨"ColdHouseModel", "readText", "()I"⟩, 15), (⟨"ColdHouseModel", "readMachine", "()Z"⟩, 15), (⟨"ColdHouseModel", "readNumbers", "(I)Z"⟩, 15), (⟨"ColdHouseModel", "isFigure", "()Z"⟩, 15), (⟨"ColdHouseModel", "isNumber", "(III)Z"⟩, 15), (⟨"ColdHouseModel", "readOther", "(I)Z"⟩, 15), (⟨"ColdHouseModel", "note", "()V"⟩, 15)]
theorem lw_r2 : ∀ q ∈ lw_privs_2, lw_okq q := List.forall_mem_cons.mpr ⟨lw_p16, List.forall_mem_cons.mpr ⟨lw_p17, List.forall_mem_cons.mpr ⟨lw_p18, List.forall_mem_cons.mpr ⟨lw_p19, List.forall_mem_cons.mpr ⟨lw_p20, List.forall_mem_cons.mpr ⟨lw_p21, List.forall_mem_cons.mpr ⟨lw_p22, List.forall_mem_cons.mpr ⟨lw_p23, List.forall_mem_cons.mpr ⟨lw_p24, List.forall_mem_cons.mpr ⟨lw_p25, List.forall_mem_cons.mpr ⟨lw_p26, List.forall_mem_cons.mpr ⟨lw_p27, List.forall_mem_cons.mpr ⟨lw_p28, List.forall_mem_cons.mpr ⟨lw_p29, List.forall_mem_cons.mpr ⟨lw_p30, List.forall_mem_cons.mpr ⟨lw_p31, fun _ h => absurd h List.not_mem_nil⟩⟩⟩⟩⟩⟩⟩⟩⟩⟩⟩⟩⟩⟩⟩⟩
theorem lw_p32 : lw_okq (⟨"ColdHouseModel", "isMachine", "(I)Z"⟩, 15) := ⟨⟨by decide +kernel, by decide +kernel⟩, List.mem_of_getElem? (i := 782) (by decide +kernel), List.mem_of_getElem? (i := 905) (by decide +kernel), List.mem_of_getElem? (i := 906) (by decide +kernel)⟩
theorem lw_p33 : lw_okq (⟨"ColdHouseModel", "own", "(II)I"⟩, 15) := ⟨⟨by decide +kernel, by decide +kernel⟩, List.mem_of_getElem? (i := 782) (by decide +kernel), List.mem_of_getElem? (i := 909) (by decide +kernel), List.mem_of_getElem? (i := 910) (by decide +kernel)⟩
theorem lw_p34 : lw_okq (⟨"ColdHouseModel", "unlist", "(I)V"⟩, 15) := ⟨⟨by decide +kernel, by decide +kernel⟩, List.mem_of_getElem? (i := 782) (by decide +kernel), List.mem_of_getElem? (i := 913) (by decide +kernel), List.mem_of_getElem? (i := 914) (by decide +kernel)⟩
theorem lw_p35 : lw_okq (⟨"ColdHouseModel", "stop", "(II)V"⟩, 15) := ⟨⟨by decide +kernel, by decide +kernel⟩, List.mem_of_getElem? (i := 782) (by decide +kernel), List.mem_of_getElem? (i := 917) (by decide +kernel), List.mem_of_getElem? (i := 918) (by decide +kernel)⟩
theorem lw_p36 : lw_okq (⟨"ColdHouseModel", "lockedOnes", "()I"⟩, 15) := ⟨⟨by decide +kernel, by decide +kernel⟩, List.mem_of_getElem? (i := 782) (by decide +kernel), List.mem_of_getElem? (i := 921) (by decide +kernel), List.mem_of_getElem? (i := 922) (by decide +kernel)⟩
theorem lw_p37 : lw_okq (⟨"ColdHouseModel", "standing", "(I)I"⟩, 15) := ⟨⟨by decide +kernel, by decide +kernel⟩, List.mem_of_getElem? (i := 782) (by decide +kernel), List.mem_of_getElem? (i := 932) (by decide +kernel), List.mem_of_getElem? (i := 933) (by decide +kernel)⟩
theorem lw_p38 : lw_okq (⟨"ColdHouseModel", "mostOf", "(I)I"⟩, 15) := ⟨⟨by decide +kernel, by decide +kernel⟩, List.mem_of_getElem? (i := 782) (by decide +kernel), List.mem_of_getElem? (i := 936) (by decide +kernel), List.mem_of_getElem? (i := 937) (by decide +kernel)⟩
theorem lw_p39 : lw_okq (⟨"ColdHouseModel", "tickOnce", "()V"⟩, 15) := ⟨⟨by decide +kernel, by decide +kernel⟩, List.mem_of_getElem? (i := 782) (by decide +kernel), List.mem_of_getElem? (i := 944) (by decide +kernel), List.mem_of_getElem? (i := 945) (by decide +kernel)⟩
theorem lw_p40 : lw_okq (⟨"ColdHouseModel", "powerNow", "()I"⟩, 15) := ⟨⟨by decide +kernel, by decide +kernel⟩, List.mem_of_getElem? (i := 782) (by decide +kernel), List.mem_of_getElem? (i := 948) (by decide +kernel), List.mem_of_getElem? (i := 949) (by decide +kernel)⟩
theorem lw_p41 : lw_okq (⟨"ColdHouseModel", "made", "()I"⟩, 15) := ⟨⟨by decide +kernel, by decide +kernel⟩, List.mem_of_getElem? (i := 782) (by decide +kernel), List.mem_of_getElem? (i := 952) (by decide +kernel), List.mem_of_getElem? (i := 953) (by decide +kernel)⟩
theorem lw_p42 : lw_okq (⟨"ColdHouseModel", "layTable", "()V"⟩, 15) := ⟨⟨by decide +kernel, by decide +kernel⟩, List.mem_of_getElem? (i := 782) (by decide +kernel), List.mem_of_getElem? (i := 956) (by decide +kernel), List.mem_of_getElem? (i := 957) (by decide +kernel)⟩
theorem lw_p43 : lw_okq (⟨"ColdHouseModel", "lift", "()I"⟩, 15) := ⟨⟨by decide +kernel, by decide +kernel⟩, List.mem_of_getElem? (i := 782) (by decide +kernel), List.mem_of_getElem? (i := 960) (by decide +kernel), List.mem_of_getElem? (i := 961) (by decide +kernel)⟩
theorem lw_p44 : lw_okq (⟨"ColdHouseModel", "leastBy", "(IIII)I"⟩, 15) := ⟨⟨by decide +kernel, by decide +kernel⟩, List.mem_of_getElem? (i := 782) (by decide +kernel), List.mem_of_getElem? (i := 971) (by decide +kernel), List.mem_of_getElem? (i := 972) (by decide +kernel)⟩
theorem lw_p45 : lw_okq (⟨"ColdHouseModel", "leastOf", "(I)I"⟩, 15) := ⟨⟨by decide +kernel, by decide +kernel⟩, List.mem_of_getElem? (i := 782) (by decide +kernel), List.mem_of_getElem? (i := 975) (by decide +kernel), List.mem_of_getElem? (i := 976) (by decide +kernel)⟩
theorem lw_p46 : lw_okq (⟨"ColdHouseModel", "powerOf", "(III)I"⟩, 15) := ⟨⟨by decide +kernel, by decide +kernel⟩, List.mem_of_getElem? (i := 782) (by decide +kernel), List.mem_of_getElem? (i := 979) (by decide +kernel), List.mem_of_getElem? (i := 980) (by decide +kernel)⟩
theorem lw_p47 : lw_okq (⟨"ColdHouseModel", "can", "(II)Z"⟩, 15) := ⟨⟨by decide +kernel, by decide +kernel⟩, List.mem_of_getElem? (i := 782) (by decide +kernel), List.mem_of_getElem? (i := 983) (by decide +kernel), List.mem_of_getElem? (i := 984) (by decide +kernel)⟩
def lw_privs_3 : List (MethodName × Nat) := [(⟨"ColdHouseModel", "isMachine", "(I)Z"⟩, 15), (⟨"ColdHouseModel", "own", "(II)I"⟩, 15), (⟨"ColdHouseModel", "unlist", "(I)V"⟩, 15), (⟨"ColdHouseModel", "stop", "(II)V"⟩, 15), (⟨"ColdHouseModel", "lockedOnes", "()I"⟩, 15), (⟨"ColdHouseModel", "standing", "(I)I"⟩, 15), (⟨"ColdHouseModel", "mostOf", "(I)I"⟩, 15), (⟨"ColdHouseModel", "tickOnce", "()V"⟩, 15), (⟨"ColdHouseModel", "powerNow", "()I"⟩, 15), (⟨"ColdHouseModel", "made", "()I"⟩, 15), (⟨"ColdHouseModel", "layTable", "()V"⟩, 15), (⟨"ColdHouseModel", "lift", "()I"⟩, 15), (⟨"ColdHouseModel", "leastBy", "(IIII)I"⟩, 15), (⟨"ColdHouseModel", "leastOf", "(I)I"⟩, 15), (⟨"ColdHouseModel", "powerOf", "(III)I"⟩, 15), (⟨"ColdHouseModel", "can", "(II)Z"⟩, 15)]
theorem lw_r3 : ∀ q ∈ lw_privs_3, lw_okq q := List.forall_mem_cons.mpr ⟨lw_p32, List.forall_mem_cons.mpr ⟨lw_p33, List.forall_mem_cons.mpr ⟨lw_p34, List.forall_mem_cons.mpr ⟨lw_p35, List.forall_mem_cons.mpr ⟨lw_p36, List.forall_mem_cons.mpr ⟨lw_p37, List.forall_mem_cons.mpr ⟨lw_p38, List.forall_mem_cons.mpr ⟨lw_p39, List.forall_mem_cons.mpr ⟨lw_p40, List.forall_mem_cons.mpr ⟨lw_p41, List.forall_mem_cons.mpr ⟨lw_p42, List.forall_mem_cons.mpr ⟨lw_p43, List.forall_mem_cons.mpr ⟨lw_p44, List.forall_mem_cons.mpr ⟨lw_p45, List.forall_mem_cons.mpr ⟨lw_p46, List.forall_mem_cons.mpr ⟨lw_p47, fun _ h => absurd h List.not_mem_nil⟩⟩⟩⟩⟩⟩⟩⟩⟩⟩⟩⟩⟩⟩⟩⟩
theorem lw_p48 : lw_okq (⟨"ColdHouseModel", "sumOf", "(II)I"⟩, 15) := ⟨⟨by decide +kernel, by decide +kernel⟩, List.mem_of_getElem? (i := 782) (by decide +kernel), List.mem_of_getElem? (i := 987) (by decide +kernel), List.mem_of_getElem? (i := 988) (by decide +kernel)⟩
theorem lw_p49 : lw_okq (⟨"ColdHouseModel", "layShare", "(II)V"⟩, 15) := ⟨⟨by decide +kernel, by decide +kernel⟩, List.mem_of_getElem? (i := 782) (by decide +kernel), List.mem_of_getElem? (i := 991) (by decide +kernel), List.mem_of_getElem? (i := 992) (by decide +kernel)⟩
theorem lw_p50 : lw_okq (⟨"ColdHouseModel", "leastPower", "(II)I"⟩, 15) := ⟨⟨by decide +kernel, by decide +kernel⟩, List.mem_of_getElem? (i := 782) (by decide +kernel), List.mem_of_getElem? (i := 995) (by decide +kernel), List.mem_of_getElem? (i := 996) (by decide +kernel)⟩
theorem lw_p51 : lw_okq (⟨"ColdHouseModel", "isGapOver", "(I)Z"⟩, 15) := ⟨⟨by decide +kernel, by decide +kernel⟩, List.mem_of_getElem? (i := 782) (by decide +kernel), List.mem_of_getElem? (i := 999) (by decide +kernel), List.mem_of_getElem? (i := 1000) (by decide +kernel)⟩
theorem lw_p52 : lw_okq (⟨"ColdHouseModel", "start", "(II)V"⟩, 15) := ⟨⟨by decide +kernel, by decide +kernel⟩, List.mem_of_getElem? (i := 782) (by decide +kernel), List.mem_of_getElem? (i := 1003) (by decide +kernel), List.mem_of_getElem? (i := 1004) (by decide +kernel)⟩
theorem lw_p53 : lw_okq (⟨"ColdHouseModel", "stopper", "(I)I"⟩, 15) := ⟨⟨by decide +kernel, by decide +kernel⟩, List.mem_of_getElem? (i := 782) (by decide +kernel), List.mem_of_getElem? (i := 1007) (by decide +kernel), List.mem_of_getElem? (i := 1008) (by decide +kernel)⟩
theorem lw_p54 : lw_okq (⟨"ColdHouseModel", "starter", "(I)I"⟩, 15) := ⟨⟨by decide +kernel, by decide +kernel⟩, List.mem_of_getElem? (i := 782) (by decide +kernel), List.mem_of_getElem? (i := 1011) (by decide +kernel), List.mem_of_getElem? (i := 1012) (by decide +kernel)⟩
theorem lw_p55 : lw_okq (⟨"ColdHouseModel", "mayStart", "(II)Z"⟩, 15) := ⟨⟨by decide +kernel, by decide +kernel⟩, List.mem_of_getElem? (i := 782) (by decide +kernel), List.mem_of_getElem? (i := 1015) (by decide +kernel), List.mem_of_getElem? (i := 1016) (by decide +kernel)⟩
theorem lw_p56 : lw_okq (⟨"ColdHouseModel", "placeInList", "(I)I"⟩, 15) := ⟨⟨by decide +kernel, by decide +kernel⟩, List.mem_of_getElem? (i := 782) (by decide +kernel), List.mem_of_getElem? (i := 1023) (by decide +kernel), List.mem_of_getElem? (i := 1024) (by decide +kernel)⟩
theorem lw_p57 : lw_okq (⟨"ColdHouseModel", "findBest", "(I)I"⟩, 15) := ⟨⟨by decide +kernel, by decide +kernel⟩, List.mem_of_getElem? (i := 782) (by decide +kernel), List.mem_of_getElem? (i := 1039) (by decide +kernel), List.mem_of_getElem? (i := 1040) (by decide +kernel)⟩
theorem lw_p58 : lw_okq (⟨"ColdHouseModel", "more", "()I"⟩, 15) := ⟨⟨by decide +kernel, by decide +kernel⟩, List.mem_of_getElem? (i := 782) (by decide +kernel), List.mem_of_getElem? (i := 1047) (by decide +kernel), List.mem_of_getElem? (i := 1048) (by decide +kernel)⟩
def lw_privs_4 : List (MethodName × Nat) := [(⟨"ColdHouseModel", "sumOf", "(II)I"⟩, 15), (⟨"ColdHouseModel", "layShare", "(II)V"⟩, 15), (⟨"ColdHouseModel", "leastPower", "(II)I"⟩, 15), (⟨"ColdHouseModel", "isGapOver", "(I)Z"⟩, 15), (⟨"ColdHouseModel", "start", "(II)V"⟩, 15), (⟨"ColdHouseModel", "stopper", "(I)I"⟩, 15), (⟨"ColdHouseModel", "starter", "(I)I"⟩, 15), (⟨"ColdHouseModel", "mayStart", "(II)Z"⟩, 15), (⟨"ColdHouseModel", "placeInList", "(I)I"⟩, 15), (⟨"ColdHouseModel", "findBest", "(I)I"⟩, 15), (⟨"ColdHouseModel", "more", "()I"⟩, 15)]
theorem lw_r4 : ∀ q ∈ lw_privs_4, lw_okq q := List.forall_mem_cons.mpr ⟨lw_p48, List.forall_mem_cons.mpr ⟨lw_p49, List.forall_mem_cons.mpr ⟨lw_p50, List.forall_mem_cons.mpr ⟨lw_p51, List.forall_mem_cons.mpr ⟨lw_p52, List.forall_mem_cons.mpr ⟨lw_p53, List.forall_mem_cons.mpr ⟨lw_p54, List.forall_mem_cons.mpr ⟨lw_p55, List.forall_mem_cons.mpr ⟨lw_p56, List.forall_mem_cons.mpr ⟨lw_p57, List.forall_mem_cons.mpr ⟨lw_p58, fun _ h => absurd h List.not_mem_nil⟩⟩⟩⟩⟩⟩⟩⟩⟩⟩⟩
def lw_privs : List (MethodName × Nat) := lw_privs_1 ++ (lw_privs_2 ++ (lw_privs_3 ++ (lw_privs_4)))
def lw_tbl : List Cond := k2_sels lw_privs ++ tables_1
theorem lw_privs_ok : ∀ q ∈ lw_privs, lw_okq q := by
  show ∀ q ∈ lw_privs_1 ++ (lw_privs_2 ++ (lw_privs_3 ++ (lw_privs_4))), lw_okq q
  exact List.forall_mem_append.mpr ⟨lw_r1, List.forall_mem_append.mpr ⟨lw_r2, List.forall_mem_append.mpr ⟨lw_r3, lw_r4⟩⟩⟩
end
section
/-! NUMBERS: an int of the machine as an integer -/
def iI (z : Int) : Int32 := Int32.ofInt z
def lI (z : Int) : Int64 := Int64.ofInt z
def InR (z : Int) : Prop := -2147483648 ≤ z ∧ z ≤ 2147483647
def InL (z : Int) : Prop := -9223372036854775808 ≤ z ∧ z ≤ 9223372036854775807
theorem iI_of (x : Int32) : iI x.toInt = x := Int32.ofInt_toInt x
theorem lI_of (x : Int64) : lI x.toInt = x := Int64.ofInt_toInt x
theorem iI_to {z : Int} (h : InR z) : (iI z).toInt = z := by
  have h1 := h.1
  have h2 := h.2
  exact Int32.toInt_ofInt_of_le (by omega) (by omega)
theorem lI_to {z : Int} (h : InL z) : (lI z).toInt = z := by
  have h1 := h.1
  have h2 := h.2
  exact Int64.toInt_ofInt_of_le (by omega) (by omega)
theorem inR_to (x : Int32) : InR x.toInt := by
  have h1 := Int32.toInt_lt x
  have h2 := Int32.le_toInt x
  exact ⟨by omega, by omega⟩
theorem inL_to (x : Int64) : InL x.toInt := by
  have h1 := Int64.toInt_lt x
  have h2 := Int64.le_toInt x
  exact ⟨by omega, by omega⟩
theorem iI_add (a b : Int) : iI a + iI b = iI (a + b) := (Int32.ofInt_add a b).symm
theorem iI_sub (a b : Int) : iI a - iI b = iI (a - b) := (Int32.ofInt_sub a b).symm
theorem iI_mul (a b : Int) : iI a * iI b = iI (a * b) := (Int32.ofInt_mul a b).symm
theorem iI_neg (a : Int) : -iI a = iI (-a) := (Int32.ofInt_neg a).symm
theorem lI_add (a b : Int) : lI a + lI b = lI (a + b) := (Int64.ofInt_add a b).symm
theorem iI_lt {a b : Int} (ha : InR a) (hb : InR b) : iI a < iI b ↔ a < b := by rw [Int32.lt_iff_toInt_lt, iI_to ha, iI_to hb]
theorem iI_le {a b : Int} (ha : InR a) (hb : InR b) : iI a ≤ iI b ↔ a ≤ b := by rw [Int32.le_iff_toInt_le, iI_to ha, iI_to hb]
theorem iI_eq {a b : Int} (ha : InR a) (hb : InR b) : iI a = iI b ↔ a = b := by rw [← Int32.toInt_inj, iI_to ha, iI_to hb]
theorem lI_lt {a b : Int} (ha : InL a) (hb : InL b) : lI a < lI b ↔ a < b := by rw [Int64.lt_iff_toInt_lt, lI_to ha, lI_to hb]
theorem lI_eq {a b : Int} (ha : InL a) (hb : InL b) : lI a = lI b ↔ a = b := by rw [← Int64.toInt_inj, lI_to ha, lI_to hb]
theorem iI_zero : iI 0 = 0 := rfl
theorem inR_zero : InR 0 := ⟨by decide, by decide⟩
theorem iI_clamp {a : Int} (h0 : 0 ≤ a) (h : a ≤ 2147483647) : (iI a).toNatClampNeg = a.toNat := by
  show (iI a).toInt.toNat = a.toNat
  rw [iI_to ⟨by omega, h⟩]
theorem iI_in {a : Int} {n : Nat} (h0 : 0 ≤ a) (h1 : a < (n : Int)) (hn : n ≤ 2147483647) : vp_in (iI a) n := by
  intro q
  have hr : InR a := ⟨by omega, by omega⟩
  rcases q with q | q
  · rw [← iI_zero, iI_lt hr inR_zero] at q; omega
  · rw [iI_clamp h0 (by omega)] at q; omega
/-! operations on the bits, as integers -/
def band (a b : Int) : Int := (iI a &&& iI b).toInt
def bor (a b : Int) : Int := (iI a ||| iI b).toInt
def bxor (a b : Int) : Int := (iI a ^^^ iI b).toInt
def bshl (a b : Int) : Int := (iI a <<< (iI b &&& 31)).toInt
def bshr (a b : Int) : Int := (iI a >>> (iI b &&& 31)).toInt
def bushr (a b : Int) : Int := (((iI a).toUInt32 >>> ((iI b).toUInt32 &&& Int32.toUInt32 31)).toInt32).toInt
def jdiv (a b : Int) : Int := (iI a / iI b).toInt
def jrem (a b : Int) : Int := (iI a - iI a / iI b * iI b).toInt
def j2c (a : Int) : Int := (((iI a).toUInt32 % 65536).toInt32).toInt
def j2l (a : Int) : Int := ((iI a).toInt64).toInt
def l2j (a : Int) : Int := ((lI a).toInt32).toInt
def lshl (a b : Int) : Int := (lI a <<< ((iI b).toInt64 &&& 63)).toInt
def lshr (a b : Int) : Int := (lI a >>> ((iI b).toInt64 &&& 63)).toInt
theorem jdiv_pos {a b : Int} (ha : InR a) (h0 : 0 ≤ a) (hb : 0 < b) (hb2 : b ≤ 2147483647) : jdiv a b = a / b := by
  have hbr : InR b := ⟨by omega, hb2⟩
  unfold jdiv
  rw [Int32.toInt_div_of_ne_right _ _ (fun q => by
    have : b = -1 := (iI_eq hbr ⟨by decide, by decide⟩).mp q
    omega), iI_to ha, iI_to hbr, Int.tdiv_eq_ediv_of_nonneg h0]
theorem jrem_pos {a b : Int} (ha : InR a) (h0 : 0 ≤ a) (hb : 0 < b) (hb2 : b ≤ 2147483647) : jrem a b = a % b := by
  have hbr : InR b := ⟨by omega, hb2⟩
  unfold jrem
  rw [rem_toInt, iI_to ha, iI_to hbr, Int.tmod_eq_emod_of_nonneg h0]
theorem j2l_eq {a : Int} (h : InR a) : j2l a = a := by
  unfold j2l
  rw [Int32.toInt_toInt64, iI_to h]
theorem l2j_eq {a : Int} (h : InR a) : l2j a = a := by
  unfold l2j
  have h2 := iI_to h
  rw [show (lI a).toInt32 = iI a from Int64.toInt32_ofInt, h2]
/-! WORLDS -/
/-- an object's number, a field's number, a place (0 for a field that holds a number): the number there -/
abbrev Wd : Type := Nat → Nat → Nat → Int
/-- a layout: class of an object (by number), its address, the address of the array in a field, the number of the object in a field, the classes, the array classes, the addresses of the static arrays -/
abbrev Ly : Type := (Nat → Option Nat) × (Nat → Nat) × (Nat → Nat → Nat) × (Nat → Nat → Nat) × va_G × (Nat → ClassId) × (Nat → Nat)
abbrev gOb (G : Ly) : Nat → Option Nat := G.1
abbrev gAd (G : Ly) : Nat → Nat := G.2.1
abbrev gAr (G : Ly) : Nat → Nat → Nat := G.2.2.1
abbrev gLk (G : Ly) : Nat → Nat → Nat := G.2.2.2.1
abbrev gD (G : Ly) : va_G := G.2.2.2.2.1
abbrev gCa (G : Ly) : Nat → ClassId := G.2.2.2.2.2.1
abbrev gSa (G : Ly) : Nat → Nat := G.2.2.2.2.2.2
def up (w : Wd) (o f j : Nat) (v : Int) : Wd := fun o' f' j' => if o' = o ∧ f' = f ∧ j' = j then v else w o' f' j'
theorem up_at (w : Wd) (o f j : Nat) (v : Int) : up w o f j v o f j = v := if_pos ⟨rfl, rfl, rfl⟩
theorem up_ne {w : Wd} {o f j o' f' j' : Nat} {v : Int} (h : ¬ (o' = o ∧ f' = f ∧ j' = j)) : up w o f j v o' f' j' = w o' f' j' := if_neg h
/-- what a field is: 0 a number, 6 a truth value, 1 ints, 2 longs, 3 letters, 5 objects (so many), 4 an object -/
def fkX (c f : Nat) : Nat × Nat := match c with
  | 0 => (match f with | 0 => (4, 0) | 1 => (1, 481) | 2 => (1, 81) | 3 => (6, 0) | _ => (0, 0))
  | 1 => (match f with | 0 => (0, 0) | 1 => (0, 0) | _ => (5, 4))
  | 2 => (match f with | 1 => (1, 6) | 2 => (1, 6) | 3 => (1, 6) | 4 => (1, 6) | 5 => (1, 6) | 6 => (1, 6) | _ => (0, 0))
  | 3 => (match f with | 0 => (0, 0) | 1 => (3, 200) | _ => (1, 6))
  | 4 => (match f with | 0 => (4, 0) | 1 => (2, 481) | 2 => (2, 81) | 3 => (6, 0) | _ => (0, 0))
  | 5 => (4, 0)
  | 6 => (match f with | 0 => (1, 4) | 10 => (1, 6) | 11 => (1, 6) | 12 => (1, 6) | 13 => (1, 54) | 14 => (1, 6) | _ => (0, 0))
  | 7 => (4, 0)
  | _ => (match f with | 0 => (1, 200) | 3 => (1, 44) | 4 => (1, 44) | 5 => (1, 101) | 6 => (1, 101) | 7 => (1, 404) | 9 => (1, 6) | 10 => (1, 15392) | 11 => (6, 0) | 13 => (1, 6) | _ => (0, 0))
def nfX (c : Nat) : Nat := match c with
  | 0 => 6 | 1 => 3 | 2 => 14 | 3 => 3 | 4 => 9 | 5 => 2 | 6 => 15 | 7 => 8 | _ => 15
def isA (k : Nat × Nat) : Bool := k.1 == 1 || k.1 == 2 || k.1 == 3 || k.1 == 5
def fval (G : Ly) (w : Wd) (o c f : Nat) : Value := match (fkX c f).1 with
  | 0 => .int (iI (w o f 0))
  | 6 => .int (iI (w o f 0))
  | 4 => .ref (gAd G (gLk G o f))
  | _ => .ref (gAr G o f)
def acell (G : Ly) (w : Wd) (o f : Nat) (k : Nat × Nat) : Cell := match k.1 with
  | 1 => vp_cell (gCa G 0) (k.2, .inl fun j => iI (w o f j))
  | 2 => vp_cell (gCa G 1) (k.2, .inr (.inl fun j => lI (w o f j)))
  | 3 => vp_cell (gCa G 2) (k.2, .inl fun j => iI (w o f j))
  | _ => vp_cell (gCa G 3) (k.2, .inr (.inr (.inr (.inr fun j => some (gAd G (gLk G o (100 + j)))))))
/-- the heap holds the world -/
def Hold (G : Ly) (w : Wd) (H : Heap) : Prop := ∀ o c, gOb G o = some c →
  t_OB (gAd G o) ((gD G).1 c) (nfX c) ((gD G).2 c) H (fval G w o c) ∧ ∀ f, f < nfX c → isA (fkX c f) = true → H[gAr G o f]? = some (acell G w o f (fkX c f))
/-- the addresses are apart -/
def Ap (G : Ly) : Prop := (∀ o c o' c', gOb G o = some c → gOb G o' = some c' → gAd G o = gAd G o' → o = o') ∧
  (∀ o c o' c' f f', gOb G o = some c → gOb G o' = some c' → f < nfX c → isA (fkX c f) = true → f' < nfX c' → isA (fkX c' f') = true → gAr G o f = gAr G o' f' → o = o' ∧ f = f') ∧
  (∀ o c o' c' f', gOb G o = some c → gOb G o' = some c' → f' < nfX c' → isA (fkX c' f') = true → gAd G o ≠ gAr G o' f')
/-- the world's own cells -/
def gA (G : Ly) : Nat → Prop := fun q => ∃ o c, gOb G o = some c ∧ (q = gAd G o ∨ ∃ f, f < nfX c ∧ isA (fkX c f) = true ∧ q = gAr G o f)
theorem gA_o {G : Ly} {o c : Nat} (h : gOb G o = some c) : gA G (gAd G o) := ⟨o, c, h, Or.inl rfl⟩
theorem gA_a {G : Ly} {o c f : Nat} (h : gOb G o = some c) (hf : f < nfX c) (ha : isA (fkX c f) = true) : gA G (gAr G o f) := ⟨o, c, h, Or.inr ⟨f, hf, ha, rfl⟩⟩
/-- a number of a field is set -/
theorem Hold.puti {G : Ly} {w : Wd} {H H1 : Heap} (h : Hold G w H) (hA : Ap G) {o c f : Nat} (ho : gOb G o = some c) (hk : (fkX c f).1 = 0 ∨ (fkX c f).1 = 6) {v : Int}
    (he : t_OB (gAd G o) ((gD G).1 c) (nfX c) ((gD G).2 c) H1 (updV (fval G w o c) f (.int (iI v)))) (oq : ∀ q : Nat, q ≠ gAd G o → H1[q]? = H[q]?) : Hold G (up w o f 0 v) H1 := by
  intro o' c' ho'
  obtain ⟨h1, h2⟩ := h o' c' ho'
  constructor
  · by_cases e : o' = o
    · subst e
      cases ho.symm.trans ho'
      refine he.to fun k hk' => ?_
      by_cases ek : k = f
      · subst ek
        rcases hk with hk | hk <;> simp [updV, fval, hk, up]
      · simp [updV, ek, fval, up]
    · have hne : gAd G o' ≠ gAd G o := fun z => e (hA.1 _ _ _ _ ho' ho z)
      refine (h1.kept (oq _ hne)).to fun k hk' => ?_
      simp [fval, up, e]
  · intro f' hf' ha'
    have hne : gAr G o' f' ≠ gAd G o := fun z => hA.2.2 _ _ _ _ _ ho ho' hf' ha' z.symm
    rw [oq _ hne, h2 f' hf' ha']
    have hx : ¬ (o' = o ∧ f' = f) := by
      rintro ⟨rfl, rfl⟩
      cases ho.symm.trans ho'
      rcases hk with hk | hk <;> simp [isA, hk] at ha'
    have hu : ∀ j, up w o f 0 v o' f' j = w o' f' j := fun j => up_ne (fun q => hx ⟨q.1, q.2.1⟩)
    simp only [acell, hu]
/-- an array is changed -/
theorem Hold.puta {G : Ly} {w w' : Wd} {H H1 : Heap} (h : Hold G w H) (hA : Ap G) {o c f : Nat} (ho : gOb G o = some c) (hf : f < nfX c) (ha : isA (fkX c f) = true)
    (hw : ∀ o' f' j', ¬ (o' = o ∧ f' = f) → w' o' f' j' = w o' f' j') (he : H1[gAr G o f]? = some (acell G w' o f (fkX c f))) (oq : ∀ q : Nat, q ≠ gAr G o f → H1[q]? = H[q]?) : Hold G w' H1 := by
  intro o' c' ho'
  obtain ⟨h1, h2⟩ := h o' c' ho'
  constructor
  · have hne : gAd G o' ≠ gAr G o f := hA.2.2 _ _ _ _ _ ho' ho hf ha
    refine (h1.kept (oq _ hne)).to fun k hk' => ?_
    by_cases e : o' = o ∧ k = f
    · obtain ⟨rfl, rfl⟩ := e
      cases ho.symm.trans ho'
      have hk : (fkX c k).1 = 1 ∨ (fkX c k).1 = 2 ∨ (fkX c k).1 = 3 ∨ (fkX c k).1 = 5 := by
        simp [isA] at ha
        omega
      rcases hk with hk | hk | hk | hk <;> simp [fval, hk]
    · simp only [fval, hw o' k 0 e]
  · intro f' hf' ha'
    by_cases e : o' = o ∧ f' = f
    · obtain ⟨rfl, rfl⟩ := e
      cases ho.symm.trans ho'
      exact he
    · have hne : gAr G o' f' ≠ gAr G o f := fun z => e (hA.2.1 _ _ _ _ _ _ ho' ho hf' ha' hf ha z)
      rw [oq _ hne, h2 f' hf' ha']
      have hu : ∀ j, w' o' f' j = w o' f' j := fun j => hw o' f' j e
      simp only [acell, hu]
end
