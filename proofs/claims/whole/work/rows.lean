section
-- ===== PART A: goes FIRST, ahead of the names: the tables' words, and 'selects' of the private methods out of them =====
/-- a private method of a class that the tables say can be made, by its rows of tables_1 -/
def lw_okq (q : MethodName × Nat) : Prop := (q.1.cls ≠ "java/lang/invoke/MethodHandle" ∧ q.1.cls ≠ "java/lang/invoke/VarHandle") ∧ Cond.instantiable q.1.cls q.2 ∈ tables_1 ∧ Cond.privateMethod q.1 ∈ tables_1 ∧ Cond.instanceMethod q.1 ∈ tables_1
theorem lw_p0 : lw_okq (⟨"ColdHouse$Script", "readItem", "(I)I"⟩, 3) := ⟨⟨by decide +kernel, by decide +kernel⟩, List.mem_of_getElem? (i := 27) (by decide +kernel), List.mem_of_getElem? (i := 363) (by decide +kernel), List.mem_of_getElem? (i := 364) (by decide +kernel)⟩
theorem lw_p1 : lw_okq (⟨"ColdHouse$Script", "letterAt", "(I)C"⟩, 3) := ⟨⟨by decide +kernel, by decide +kernel⟩, List.mem_of_getElem? (i := 27) (by decide +kernel), List.mem_of_getElem? (i := 367) (by decide +kernel), List.mem_of_getElem? (i := 368) (by decide +kernel)⟩
theorem lw_p2 : lw_okq (⟨"ColdHouse$Script", "readNumbers", "(I[I[I)I"⟩, 3) := ⟨⟨by decide +kernel, by decide +kernel⟩, List.mem_of_getElem? (i := 27) (by decide +kernel), List.mem_of_getElem? (i := 373) (by decide +kernel), List.mem_of_getElem? (i := 374) (by decide +kernel)⟩
theorem lw_p3 : lw_okq (⟨"ColdHouse$Script", "isFigure", "(I)Z"⟩, 3) := ⟨⟨by decide +kernel, by decide +kernel⟩, List.mem_of_getElem? (i := 27) (by decide +kernel), List.mem_of_getElem? (i := 380) (by decide +kernel), List.mem_of_getElem? (i := 381) (by decide +kernel)⟩
theorem lw_p4 : lw_okq (⟨"ColdHouse$Plant", "takeMachine", "([I)V"⟩, 14) := ⟨⟨by decide +kernel, by decide +kernel⟩, List.mem_of_getElem? (i := 48) (by decide +kernel), List.mem_of_getElem? (i := 397) (by decide +kernel), List.mem_of_getElem? (i := 398) (by decide +kernel)⟩
theorem lw_p5 : lw_okq (⟨"ColdHouse", "isMachine", "(I)Z"⟩, 8) := ⟨⟨by decide +kernel, by decide +kernel⟩, List.mem_of_getElem? (i := 19) (by decide +kernel), List.mem_of_getElem? (i := 489) (by decide +kernel), List.mem_of_getElem? (i := 490) (by decide +kernel)⟩
theorem lw_p6 : lw_okq (⟨"ColdHouse$Staging", "greatestOf", "(I)I"⟩, 2) := ⟨⟨by decide +kernel, by decide +kernel⟩, List.mem_of_getElem? (i := 226) (by decide +kernel), List.mem_of_getElem? (i := 524) (by decide +kernel), List.mem_of_getElem? (i := 525) (by decide +kernel)⟩
theorem lw_p7 : lw_okq (⟨"ColdHouse$Plant", "sumOver", "(I[I)I"⟩, 14) := ⟨⟨by decide +kernel, by decide +kernel⟩, List.mem_of_getElem? (i := 48) (by decide +kernel), List.mem_of_getElem? (i := 558) (by decide +kernel), List.mem_of_getElem? (i := 559) (by decide +kernel)⟩
theorem lw_p8 : lw_okq (⟨"ColdHouse$Sharing", "addMachine", "(II)V"⟩, 9) := ⟨⟨by decide +kernel, by decide +kernel⟩, List.mem_of_getElem? (i := 232) (by decide +kernel), List.mem_of_getElem? (i := 586) (by decide +kernel), List.mem_of_getElem? (i := 587) (by decide +kernel)⟩
theorem lw_p9 : lw_okq (⟨"ColdHouse$Sharing", "fillRow", "(I)V"⟩, 9) := ⟨⟨by decide +kernel, by decide +kernel⟩, List.mem_of_getElem? (i := 232) (by decide +kernel), List.mem_of_getElem? (i := 590) (by decide +kernel), List.mem_of_getElem? (i := 591) (by decide +kernel)⟩
theorem lw_p10 : lw_okq (⟨"ColdHouse$Sharing", "leastWith", "(II)J"⟩, 9) := ⟨⟨by decide +kernel, by decide +kernel⟩, List.mem_of_getElem? (i := 232) (by decide +kernel), List.mem_of_getElem? (i := 605) (by decide +kernel), List.mem_of_getElem? (i := 606) (by decide +kernel)⟩
theorem lw_p11 : lw_okq (⟨"ColdHouse$Staging", "comeOn", "(LColdHouse$State;I)V"⟩, 2) := ⟨⟨by decide +kernel, by decide +kernel⟩, List.mem_of_getElem? (i := 226) (by decide +kernel), List.mem_of_getElem? (i := 614) (by decide +kernel), List.mem_of_getElem? (i := 615) (by decide +kernel)⟩
theorem lw_p12 : lw_okq (⟨"ColdHouse$Staging", "comeBack", "(LColdHouse$State;)V"⟩, 2) := ⟨⟨by decide +kernel, by decide +kernel⟩, List.mem_of_getElem? (i := 226) (by decide +kernel), List.mem_of_getElem? (i := 632) (by decide +kernel), List.mem_of_getElem? (i := 633) (by decide +kernel)⟩
theorem lw_p13 : lw_okq (⟨"ColdHouse$Staging", "gapIsOver", "(LColdHouse$State;I)Z"⟩, 2) := ⟨⟨by decide +kernel, by decide +kernel⟩, List.mem_of_getElem? (i := 226) (by decide +kernel), List.mem_of_getElem? (i := 636) (by decide +kernel), List.mem_of_getElem? (i := 637) (by decide +kernel)⟩
theorem lw_p14 : lw_okq (⟨"ColdHouse$Staging", "stageUp", "(LColdHouse$State;)V"⟩, 2) := ⟨⟨by decide +kernel, by decide +kernel⟩, List.mem_of_getElem? (i := 226) (by decide +kernel), List.mem_of_getElem? (i := 649) (by decide +kernel), List.mem_of_getElem? (i := 650) (by decide +kernel)⟩
theorem lw_p15 : lw_okq (⟨"ColdHouse$Staging", "nextToStart", "(LColdHouse$State;)I"⟩, 2) := ⟨⟨by decide +kernel, by decide +kernel⟩, List.mem_of_getElem? (i := 226) (by decide +kernel), List.mem_of_getElem? (i := 653) (by decide +kernel), List.mem_of_getElem? (i := 654) (by decide +kernel)⟩
def lw_privs_1 : List (MethodName × Nat) := [(⟨"ColdHouse$Script", "readItem", "(I)I"⟩, 3), (⟨"ColdHouse$Script", "letterAt", "(I)C"⟩, 3), (⟨"ColdHouse$Script", "readNumbers", "(I[I[I)I"⟩, 3), (⟨"ColdHouse$Script", "isFigure", "(I)Z"⟩, 3), (⟨"ColdHouse$Plant", "takeMachine", "([I)V"⟩, 14), (⟨"ColdHouse", "isMachine", "(I)Z"⟩, 8), (⟨"ColdHouse$Staging", "greatestOf", "(I)I"⟩, 2), (⟨"ColdHouse$Plant", "sumOver", "(I[I)I"⟩, 14), (⟨"ColdHouse$Sharing", "addMachine", "(II)V"⟩, 9), (⟨"ColdHouse$Sharing", "fillRow", "(I)V"⟩, 9), (⟨"ColdHouse$Sharing", "leastWith", "(II)J"⟩, 9), (⟨"ColdHouse$Staging", "comeOn", "(LColdHouse$State;I)V"⟩, 2), (⟨"ColdHouse$Staging", "comeBack", "(LColdHouse$State;)V"⟩, 2), (⟨"ColdHouse$Staging", "gapIsOver", "(LColdHouse$State;I)Z"⟩, 2), (⟨"ColdHouse$Staging", "stageUp", "(LColdHouse$State;)V"⟩, 2), (⟨"ColdHouse$Staging", "nextToStart", "(LColdHouse$State;)I"⟩, 2)]
theorem lw_r1 : ∀ q ∈ lw_privs_1, lw_okq q := List.forall_mem_cons.mpr ⟨lw_p0, List.forall_mem_cons.mpr ⟨lw_p1, List.forall_mem_cons.mpr ⟨lw_p2, List.forall_mem_cons.mpr ⟨lw_p3, List.forall_mem_cons.mpr ⟨lw_p4, List.forall_mem_cons.mpr ⟨lw_p5, List.forall_mem_cons.mpr ⟨lw_p6, List.forall_mem_cons.mpr ⟨lw_p7, List.forall_mem_cons.mpr ⟨lw_p8, List.forall_mem_cons.mpr ⟨lw_p9, List.forall_mem_cons.mpr ⟨lw_p10, List.forall_mem_cons.mpr ⟨lw_p11, List.forall_mem_cons.mpr ⟨lw_p12, List.forall_mem_cons.mpr ⟨lw_p13, List.forall_mem_cons.mpr ⟨lw_p14, List.forall_mem_cons.mpr ⟨lw_p15, fun _ h => absurd h List.not_mem_nil⟩⟩⟩⟩⟩⟩⟩⟩⟩⟩⟩⟩⟩⟩⟩⟩
theorem lw_p16 : lw_okq (⟨"ColdHouse$Staging", "stageDown", "(LColdHouse$State;)V"⟩, 2) := ⟨⟨by decide +kernel, by decide +kernel⟩, List.mem_of_getElem? (i := 226) (by decide +kernel), List.mem_of_getElem? (i := 666) (by decide +kernel), List.mem_of_getElem? (i := 667) (by decide +kernel)⟩
theorem lw_p17 : lw_okq (⟨"ColdHouse$Staging", "nextToStop", "(LColdHouse$State;)I"⟩, 2) := ⟨⟨by decide +kernel, by decide +kernel⟩, List.mem_of_getElem? (i := 226) (by decide +kernel), List.mem_of_getElem? (i := 670) (by decide +kernel), List.mem_of_getElem? (i := 671) (by decide +kernel)⟩
theorem lw_p18 : lw_okq (⟨"ColdHouse$BestSets", "addMachine", "(I)V"⟩, 6) := ⟨⟨by decide +kernel, by decide +kernel⟩, List.mem_of_getElem? (i := 277) (by decide +kernel), List.mem_of_getElem? (i := 731) (by decide +kernel), List.mem_of_getElem? (i := 732) (by decide +kernel)⟩
theorem lw_p19 : lw_okq (⟨"ColdHouse$BestSets", "fillRow", "(I)V"⟩, 6) := ⟨⟨by decide +kernel, by decide +kernel⟩, List.mem_of_getElem? (i := 277) (by decide +kernel), List.mem_of_getElem? (i := 735) (by decide +kernel), List.mem_of_getElem? (i := 736) (by decide +kernel)⟩
theorem lw_p20 : lw_okq (⟨"ColdHouse$BestSets", "leastWith", "(II)I"⟩, 6) := ⟨⟨by decide +kernel, by decide +kernel⟩, List.mem_of_getElem? (i := 277) (by decide +kernel), List.mem_of_getElem? (i := 742) (by decide +kernel), List.mem_of_getElem? (i := 743) (by decide +kernel)⟩
theorem lw_p21 : lw_okq (⟨"ColdHouse", "aboveBest", "(I)I"⟩, 8) := ⟨⟨by decide +kernel, by decide +kernel⟩, List.mem_of_getElem? (i := 19) (by decide +kernel), List.mem_of_getElem? (i := 769) (by decide +kernel), List.mem_of_getElem? (i := 770) (by decide +kernel)⟩
theorem lw_p22 : lw_okq (⟨"ColdHouseModel", "beginRead", "()V"⟩, 15) := ⟨⟨by decide +kernel, by decide +kernel⟩, List.mem_of_getElem? (i := 782) (by decide +kernel), List.mem_of_getElem? (i := 788) (by decide +kernel), List.mem_of_getElem? (i := 789) (by decide +kernel)⟩
theorem lw_p23 : lw_okq (⟨"ColdHouseModel", "putMachine", "(IIIIII)V"⟩, 15) := ⟨⟨by decide +kernel, by decide +kernel⟩, List.mem_of_getElem? (i := 782) (by decide +kernel), List.mem_of_getElem? (i := 792) (by decide +kernel), List.mem_of_getElem? (i := 793) (by decide +kernel)⟩
theorem lw_p24 : lw_okq (⟨"ColdHouseModel", "takeRead", "()V"⟩, 15) := ⟨⟨by decide +kernel, by decide +kernel⟩, List.mem_of_getElem? (i := 782) (by decide +kernel), List.mem_of_getElem? (i := 796) (by decide +kernel), List.mem_of_getElem? (i := 797) (by decide +kernel)⟩
theorem lw_p25 : lw_okq (⟨"ColdHouseModel", "readText", "()I"⟩, 15) := ⟨⟨by decide +kernel, by decide +kernel⟩, List.mem_of_getElem? (i := 782) (by decide +kernel), List.mem_of_getElem? (i := 861) (by decide +kernel), List.mem_of_getElem? (i := 862) (by decide +kernel)⟩
theorem lw_p26 : lw_okq (⟨"ColdHouseModel", "readMachine", "()Z"⟩, 15) := ⟨⟨by decide +kernel, by decide +kernel⟩, List.mem_of_getElem? (i := 782) (by decide +kernel), List.mem_of_getElem? (i := 865) (by decide +kernel), List.mem_of_getElem? (i := 866) (by decide +kernel)⟩
theorem lw_p27 : lw_okq (⟨"ColdHouseModel", "readNumbers", "(I)Z"⟩, 15) := ⟨⟨by decide +kernel, by decide +kernel⟩, List.mem_of_getElem? (i := 782) (by decide +kernel), List.mem_of_getElem? (i := 869) (by decide +kernel), List.mem_of_getElem? (i := 870) (by decide +kernel)⟩
theorem lw_p28 : lw_okq (⟨"ColdHouseModel", "isFigure", "()Z"⟩, 15) := ⟨⟨by decide +kernel, by decide +kernel⟩, List.mem_of_getElem? (i := 782) (by decide +kernel), List.mem_of_getElem? (i := 873) (by decide +kernel), List.mem_of_getElem? (i := 874) (by decide +kernel)⟩
theorem lw_p29 : lw_okq (⟨"ColdHouseModel", "isNumber", "(III)Z"⟩, 15) := ⟨⟨by decide +kernel, by decide +kernel⟩, List.mem_of_getElem? (i := 782) (by decide +kernel), List.mem_of_getElem? (i := 877) (by decide +kernel), List.mem_of_getElem? (i := 878) (by decide +kernel)⟩
theorem lw_p30 : lw_okq (⟨"ColdHouseModel", "readOther", "(I)Z"⟩, 15) := ⟨⟨by decide +kernel, by decide +kernel⟩, List.mem_of_getElem? (i := 782) (by decide +kernel), List.mem_of_getElem? (i := 881) (by decide +kernel), List.mem_of_getElem? (i := 882) (by decide +kernel)⟩
theorem lw_p31 : lw_okq (⟨"ColdHouseModel", "note", "()V"⟩, 15) := ⟨⟨by decide +kernel, by decide +kernel⟩, List.mem_of_getElem? (i := 782) (by decide +kernel), List.mem_of_getElem? (i := 897) (by decide +kernel), List.mem_of_getElem? (i := 898) (by decide +kernel)⟩
def lw_privs_2 : List (MethodName × Nat) := [(⟨"ColdHouse$Staging", "stageDown", "(LColdHouse$State;)V"⟩, 2), (⟨"ColdHouse$Staging", "nextToStop", "(LColdHouse$State;)I"⟩, 2), (⟨"ColdHouse$BestSets", "addMachine", "(I)V"⟩, 6), (⟨"ColdHouse$BestSets", "fillRow", "(I)V"⟩, 6), (⟨"ColdHouse$BestSets", "leastWith", "(II)I"⟩, 6), (⟨"ColdHouse", "aboveBest", "(I)I"⟩, 8), (⟨"ColdHouseModel", "beginRead", "()V"⟩, 15), (⟨"ColdHouseModel", "putMachine", "(IIIIII)V"⟩, 15), (⟨"ColdHouseModel", "takeRead", "()V"⟩, 15), (⟨"ColdHouseModel", "readText", "()I"⟩, 15), (⟨"ColdHouseModel", "readMachine", "()Z"⟩, 15), (⟨"ColdHouseModel", "readNumbers", "(I)Z"⟩, 15), (⟨"ColdHouseModel", "isFigure", "()Z"⟩, 15), (⟨"ColdHouseModel", "isNumber", "(III)Z"⟩, 15), (⟨"ColdHouseModel", "readOther", "(I)Z"⟩, 15), (⟨"ColdHouseModel", "note", "()V"⟩, 15)]
theorem lw_r2 : ∀ q ∈ lw_privs_2, lw_okq q := List.forall_mem_cons.mpr ⟨lw_p16, List.forall_mem_cons.mpr ⟨lw_p17, List.forall_mem_cons.mpr ⟨lw_p18, List.forall_mem_cons.mpr ⟨lw_p19, List.forall_mem_cons.mpr ⟨lw_p20, List.forall_mem_cons.mpr ⟨lw_p21, List.forall_mem_cons.mpr ⟨lw_p22, List.forall_mem_cons.mpr ⟨lw_p23, List.forall_mem_cons.mpr ⟨lw_p24, List.forall_mem_cons.mpr ⟨lw_p25, List.forall_mem_cons.mpr ⟨lw_p26, List.forall_mem_cons.mpr ⟨lw_p27, List.forall_mem_cons.mpr ⟨lw_p28, List.forall_mem_cons.mpr ⟨lw_p29, List.forall_mem_cons.mpr ⟨lw_p30, List.forall_mem_cons.mpr ⟨lw_p31, fun _ h => absurd h List.not_mem_nil⟩⟩⟩⟩⟩⟩⟩⟩⟩⟩⟩⟩⟩⟩⟩⟩
theorem lw_p32 : lw_okq (⟨"ColdHouseModel", "isMachine", "(I)Z"⟩, 15) := ⟨⟨by decide +kernel, by decide +kernel⟩, List.mem_of_getElem? (i := 782) (by decide +kernel), List.mem_of_getElem? (i := 905) (by decide +kernel), List.mem_of_getElem? (i := 906) (by decide +kernel)⟩
theorem lw_p33 : lw_okq (⟨"ColdHouseModel", "own", "(II)I"⟩, 15) := ⟨⟨by decide +kernel, by decide +kernel⟩, List.mem_of_getElem? (i := 782) (by decide +kernel), List.mem_of_getElem? (i := 909) (by decide +kernel), List.mem_of_getElem? (i := 910) (by decide +kernel)⟩
theorem lw_p34 : lw_okq (⟨"ColdHouseModel", "unlist", "(I)V"⟩, 15) := ⟨⟨by decide +kernel, by decide +kernel⟩, List.mem_of_getElem? (i := 782) (by decide +kernel), List.mem_of_getElem? (i := 913) (by decide +kernel), List.mem_of_getElem? (i := 914) (by decide +kernel)⟩
theorem lw_p35 : lw_okq (⟨"ColdHouseModel", "stop", "(II)V"⟩, 15) := ⟨⟨by decide +kernel, by decide +kernel⟩, List.mem_of_getElem? (i := 782) (by decide +kernel), List.mem_of_getElem? (i := 917) (by decide +kernel), List.mem_of_getElem? (i := 918) (by decide +kernel)⟩
theorem lw_p36 : lw_okq (⟨"ColdHouseModel", "lockedOnes", "()I"⟩, 15) := ⟨⟨by decide +kernel, by decide +kernel⟩, List.mem_of_getElem? (i := 782) (by decide +kernel), List.mem_of_getElem? (i := 921) (by decide +kernel), List.mem_of_getElem? (i := 922) (by decide +kernel)⟩
theorem lw_p37 : lw_okq (⟨"ColdHouseModel", "standing", "(I)I"⟩, 15) := ⟨⟨by decide +kernel, by decide +kernel⟩, List.mem_of_getElem? (i := 782) (by decide +kernel), List.mem_of_getElem? (i := 932) (by decide +kernel), List.mem_of_getElem? (i := 933) (by decide +kernel)⟩
theorem lw_p38 : lw_okq (⟨"ColdHouseModel", "mostOf", "(I)I"⟩, 15) := ⟨⟨by decide +kernel, by decide +kernel⟩, List.mem_of_getElem? (i := 782) (by decide +kernel), List.mem_of_getElem? (i := 936) (by decide +kernel), List.mem_of_getElem? (i := 937) (by decide +kernel)⟩
theorem lw_p39 : lw_okq (⟨"ColdHouseModel", "tickOnce", "()V"⟩, 15) := ⟨⟨by decide +kernel, by decide +kernel⟩, List.mem_of_getElem? (i := 782) (by decide +kernel), List.mem_of_getElem? (i := 944) (by decide +kernel), List.mem_of_getElem? (i := 945) (by decide +kernel)⟩
theorem lw_p40 : lw_okq (⟨"ColdHouseModel", "powerNow", "()I"⟩, 15) := ⟨⟨by decide +kernel, by decide +kernel⟩, List.mem_of_getElem? (i := 782) (by decide +kernel), List.mem_of_getElem? (i := 948) (by decide +kernel), List.mem_of_getElem? (i := 949) (by decide +kernel)⟩
theorem lw_p41 : lw_okq (⟨"ColdHouseModel", "made", "()I"⟩, 15) := ⟨⟨by decide +kernel, by decide +kernel⟩, List.mem_of_getElem? (i := 782) (by decide +kernel), List.mem_of_getElem? (i := 952) (by decide +kernel), List.mem_of_getElem? (i := 953) (by decide +kernel)⟩
theorem lw_p42 : lw_okq (⟨"ColdHouseModel", "layTable", "()V"⟩, 15) := ⟨⟨by decide +kernel, by decide +kernel⟩, List.mem_of_getElem? (i := 782) (by decide +kernel), List.mem_of_getElem? (i := 956) (by decide +kernel), List.mem_of_getElem? (i := 957) (by decide +kernel)⟩
theorem lw_p43 : lw_okq (⟨"ColdHouseModel", "lift", "()I"⟩, 15) := ⟨⟨by decide +kernel, by decide +kernel⟩, List.mem_of_getElem? (i := 782) (by decide +kernel), List.mem_of_getElem? (i := 960) (by decide +kernel), List.mem_of_getElem? (i := 961) (by decide +kernel)⟩
theorem lw_p44 : lw_okq (⟨"ColdHouseModel", "leastBy", "(IIII)I"⟩, 15) := ⟨⟨by decide +kernel, by decide +kernel⟩, List.mem_of_getElem? (i := 782) (by decide +kernel), List.mem_of_getElem? (i := 971) (by decide +kernel), List.mem_of_getElem? (i := 972) (by decide +kernel)⟩
theorem lw_p45 : lw_okq (⟨"ColdHouseModel", "leastOf", "(I)I"⟩, 15) := ⟨⟨by decide +kernel, by decide +kernel⟩, List.mem_of_getElem? (i := 782) (by decide +kernel), List.mem_of_getElem? (i := 975) (by decide +kernel), List.mem_of_getElem? (i := 976) (by decide +kernel)⟩
theorem lw_p46 : lw_okq (⟨"ColdHouseModel", "powerOf", "(III)I"⟩, 15) := ⟨⟨by decide +kernel, by decide +kernel⟩, List.mem_of_getElem? (i := 782) (by decide +kernel), List.mem_of_getElem? (i := 979) (by decide +kernel), List.mem_of_getElem? (i := 980) (by decide +kernel)⟩
theorem lw_p47 : lw_okq (⟨"ColdHouseModel", "can", "(II)Z"⟩, 15) := ⟨⟨by decide +kernel, by decide +kernel⟩, List.mem_of_getElem? (i := 782) (by decide +kernel), List.mem_of_getElem? (i := 983) (by decide +kernel), List.mem_of_getElem? (i := 984) (by decide +kernel)⟩
def lw_privs_3 : List (MethodName × Nat) := [(⟨"ColdHouseModel", "isMachine", "(I)Z"⟩, 15), (⟨"ColdHouseModel", "own", "(II)I"⟩, 15), (⟨"ColdHouseModel", "unlist", "(I)V"⟩, 15), (⟨"ColdHouseModel", "stop", "(II)V"⟩, 15), (⟨"ColdHouseModel", "lockedOnes", "()I"⟩, 15), (⟨"ColdHouseModel", "standing", "(I)I"⟩, 15), (⟨"ColdHouseModel", "mostOf", "(I)I"⟩, 15), (⟨"ColdHouseModel", "tickOnce", "()V"⟩, 15), (⟨"ColdHouseModel", "powerNow", "()I"⟩, 15), (⟨"ColdHouseModel", "made", "()I"⟩, 15), (⟨"ColdHouseModel", "layTable", "()V"⟩, 15), (⟨"ColdHouseModel", "lift", "()I"⟩, 15), (⟨"ColdHouseModel", "leastBy", "(IIII)I"⟩, 15), (⟨"ColdHouseModel", "leastOf", "(I)I"⟩, 15), (⟨"ColdHouseModel", "powerOf", "(III)I"⟩, 15), (⟨"ColdHouseModel", "can", "(II)Z"⟩, 15)]
theorem lw_r3 : ∀ q ∈ lw_privs_3, lw_okq q := List.forall_mem_cons.mpr ⟨lw_p32, List.forall_mem_cons.mpr ⟨lw_p33, List.forall_mem_cons.mpr ⟨lw_p34, List.forall_mem_cons.mpr ⟨lw_p35, List.forall_mem_cons.mpr ⟨lw_p36, List.forall_mem_cons.mpr ⟨lw_p37, List.forall_mem_cons.mpr ⟨lw_p38, List.forall_mem_cons.mpr ⟨lw_p39, List.forall_mem_cons.mpr ⟨lw_p40, List.forall_mem_cons.mpr ⟨lw_p41, List.forall_mem_cons.mpr ⟨lw_p42, List.forall_mem_cons.mpr ⟨lw_p43, List.forall_mem_cons.mpr ⟨lw_p44, List.forall_mem_cons.mpr ⟨lw_p45, List.forall_mem_cons.mpr ⟨lw_p46, List.forall_mem_cons.mpr ⟨lw_p47, fun _ h => absurd h List.not_mem_nil⟩⟩⟩⟩⟩⟩⟩⟩⟩⟩⟩⟩⟩⟩⟩⟩
theorem lw_p48 : lw_okq (⟨"ColdHouseModel", "sumOf", "(II)I"⟩, 15) := ⟨⟨by decide +kernel, by decide +kernel⟩, List.mem_of_getElem? (i := 782) (by decide +kernel), List.mem_of_getElem? (i := 987) (by decide +kernel), List.mem_of_getElem? (i := 988) (by decide +kernel)⟩
theorem lw_p49 : lw_okq (⟨"ColdHouseModel", "layShare", "(II)V"⟩, 15) := ⟨⟨by decide +kernel, by decide +kernel⟩, List.mem_of_getElem? (i := 782) (by decide +kernel), List.mem_of_getElem? (i := 991) (by decide +kernel), List.mem_of_getElem? (i := 992) (by decide +kernel)⟩
theorem lw_p50 : lw_okq (⟨"ColdHouseModel", "leastPower", "(II)I"⟩, 15) := ⟨⟨by decide +kernel, by decide +kernel⟩, List.mem_of_getElem? (i := 782) (by decide +kernel), List.mem_of_getElem? (i := 995) (by decide +kernel), List.mem_of_getElem? (i := 996) (by decide +kernel)⟩
theorem lw_p51 : lw_okq (⟨"ColdHouseModel", "isGapOver", "(I)Z"⟩, 15) := ⟨⟨by decide +kernel, by decide +kernel⟩, List.mem_of_getElem? (i := 782) (by decide +kernel), List.mem_of_getElem? (i := 999) (by decide +kernel), List.mem_of_getElem? (i := 1000) (by decide +kernel)⟩
theorem lw_p52 : lw_okq (⟨"ColdHouseModel", "start", "(II)V"⟩, 15) := ⟨⟨by decide +kernel, by decide +kernel⟩, List.mem_of_getElem? (i := 782) (by decide +kernel), List.mem_of_getElem? (i := 1003) (by decide +kernel), List.mem_of_getElem? (i := 1004) (by decide +kernel)⟩
theorem lw_p53 : lw_okq (⟨"ColdHouseModel", "stopper", "(I)I"⟩, 15) := ⟨⟨by decide +kernel, by decide +kernel⟩, List.mem_of_getElem? (i := 782) (by decide +kernel), List.mem_of_getElem? (i := 1007) (by decide +kernel), List.mem_of_getElem? (i := 1008) (by decide +kernel)⟩
theorem lw_p54 : lw_okq (⟨"ColdHouseModel", "starter", "(I)I"⟩, 15) := ⟨⟨by decide +kernel, by decide +kernel⟩, List.mem_of_getElem? (i := 782) (by decide +kernel), List.mem_of_getElem? (i := 1011) (by decide +kernel), List.mem_of_getElem? (i := 1012) (by decide +kernel)⟩
theorem lw_p55 : lw_okq (⟨"ColdHouseModel", "mayStart", "(II)Z"⟩, 15) := ⟨⟨by decide +kernel, by decide +kernel⟩, List.mem_of_getElem? (i := 782) (by decide +kernel), List.mem_of_getElem? (i := 1015) (by decide +kernel), List.mem_of_getElem? (i := 1016) (by decide +kernel)⟩
theorem lw_p56 : lw_okq (⟨"ColdHouseModel", "placeInList", "(I)I"⟩, 15) := ⟨⟨by decide +kernel, by decide +kernel⟩, List.mem_of_getElem? (i := 782) (by decide +kernel), List.mem_of_getElem? (i := 1023) (by decide +kernel), List.mem_of_getElem? (i := 1024) (by decide +kernel)⟩
theorem lw_p57 : lw_okq (⟨"ColdHouseModel", "findBest", "(I)I"⟩, 15) := ⟨⟨by decide +kernel, by decide +kernel⟩, List.mem_of_getElem? (i := 782) (by decide +kernel), List.mem_of_getElem? (i := 1039) (by decide +kernel), List.mem_of_getElem? (i := 1040) (by decide +kernel)⟩
theorem lw_p58 : lw_okq (⟨"ColdHouseModel", "more", "()I"⟩, 15) := ⟨⟨by decide +kernel, by decide +kernel⟩, List.mem_of_getElem? (i := 782) (by decide +kernel), List.mem_of_getElem? (i := 1047) (by decide +kernel), List.mem_of_getElem? (i := 1048) (by decide +kernel)⟩
def lw_privs_4 : List (MethodName × Nat) := [(⟨"ColdHouseModel", "sumOf", "(II)I"⟩, 15), (⟨"ColdHouseModel", "layShare", "(II)V"⟩, 15), (⟨"ColdHouseModel", "leastPower", "(II)I"⟩, 15), (⟨"ColdHouseModel", "isGapOver", "(I)Z"⟩, 15), (⟨"ColdHouseModel", "start", "(II)V"⟩, 15), (⟨"ColdHouseModel", "stopper", "(I)I"⟩, 15), (⟨"ColdHouseModel", "starter", "(I)I"⟩, 15), (⟨"ColdHouseModel", "mayStart", "(II)Z"⟩, 15), (⟨"ColdHouseModel", "placeInList", "(I)I"⟩, 15), (⟨"ColdHouseModel", "findBest", "(I)I"⟩, 15), (⟨"ColdHouseModel", "more", "()I"⟩, 15)]
theorem lw_r4 : ∀ q ∈ lw_privs_4, lw_okq q := List.forall_mem_cons.mpr ⟨lw_p48, List.forall_mem_cons.mpr ⟨lw_p49, List.forall_mem_cons.mpr ⟨lw_p50, List.forall_mem_cons.mpr ⟨lw_p51, List.forall_mem_cons.mpr ⟨lw_p52, List.forall_mem_cons.mpr ⟨lw_p53, List.forall_mem_cons.mpr ⟨lw_p54, List.forall_mem_cons.mpr ⟨lw_p55, List.forall_mem_cons.mpr ⟨lw_p56, List.forall_mem_cons.mpr ⟨lw_p57, List.forall_mem_cons.mpr ⟨lw_p58, fun _ h => absurd h List.not_mem_nil⟩⟩⟩⟩⟩⟩⟩⟩⟩⟩⟩
def lw_privs : List (MethodName × Nat) := lw_privs_1 ++ (lw_privs_2 ++ (lw_privs_3 ++ (lw_privs_4)))
def lw_tbl : List Cond := k2_sels lw_privs ++ tables_1
theorem lw_privs_ok : ∀ q ∈ lw_privs, lw_okq q := by
  show ∀ q ∈ lw_privs_1 ++ (lw_privs_2 ++ (lw_privs_3 ++ (lw_privs_4))), lw_okq q
  exact List.forall_mem_append.mpr ⟨lw_r1, List.forall_mem_append.mpr ⟨lw_r2, List.forall_mem_append.mpr ⟨lw_r3, lw_r4⟩⟩⟩
end
section
/-! NUMBERS: an int of the machine as an integer -/
def iI (z : Int) : Int32 := Int32.ofInt z
def lI (z : Int) : Int64 := Int64.ofInt z
def InR (z : Int) : Prop := -2147483648 ≤ z ∧ z ≤ 2147483647
def InL (z : Int) : Prop := -9223372036854775808 ≤ z ∧ z ≤ 9223372036854775807
theorem iI_of (x : Int32) : iI x.toInt = x := Int32.ofInt_toInt x
theorem lI_of (x : Int64) : lI x.toInt = x := Int64.ofInt_toInt x
theorem iI_to {z : Int} (h : InR z) : (iI z).toInt = z := by
  have h1 := h.1
  have h2 := h.2
  exact Int32.toInt_ofInt_of_le (by omega) (by omega)
theorem lI_to {z : Int} (h : InL z) : (lI z).toInt = z := by
  have h1 := h.1
  have h2 := h.2
  exact Int64.toInt_ofInt_of_le (by omega) (by omega)
theorem inR_to (x : Int32) : InR x.toInt := by
  have h1 := Int32.toInt_lt x
  have h2 := Int32.le_toInt x
  exact ⟨by omega, by omega⟩
theorem inL_to (x : Int64) : InL x.toInt := by
  have h1 := Int64.toInt_lt x
  have h2 := Int64.le_toInt x
  exact ⟨by omega, by omega⟩
theorem iI_add (a b : Int) : iI a + iI b = iI (a + b) := (Int32.ofInt_add a b).symm
theorem iI_sub (a b : Int) : iI a - iI b = iI (a - b) := (Int32.ofInt_sub a b).symm
theorem iI_mul (a b : Int) : iI a * iI b = iI (a * b) := (Int32.ofInt_mul a b).symm
theorem iI_neg (a : Int) : -iI a = iI (-a) := (Int32.ofInt_neg a).symm
theorem lI_add (a b : Int) : lI a + lI b = lI (a + b) := (Int64.ofInt_add a b).symm
theorem iI_lt {a b : Int} (ha : InR a) (hb : InR b) : iI a < iI b ↔ a < b := by rw [Int32.lt_iff_toInt_lt, iI_to ha, iI_to hb]
theorem iI_le {a b : Int} (ha : InR a) (hb : InR b) : iI a ≤ iI b ↔ a ≤ b := by rw [Int32.le_iff_toInt_le, iI_to ha, iI_to hb]
theorem iI_eq {a b : Int} (ha : InR a) (hb : InR b) : iI a = iI b ↔ a = b := by rw [← Int32.toInt_inj, iI_to ha, iI_to hb]
theorem lI_lt {a b : Int} (ha : InL a) (hb : InL b) : lI a < lI b ↔ a < b := by rw [Int64.lt_iff_toInt_lt, lI_to ha, lI_to hb]
theorem lI_eq {a b : Int} (ha : InL a) (hb : InL b) : lI a = lI b ↔ a = b := by rw [← Int64.toInt_inj, lI_to ha, lI_to hb]
theorem iI_zero : iI 0 = 0 := rfl
theorem inR_zero : InR 0 := ⟨by decide, by decide⟩
theorem iI_clamp {a : Int} (h0 : 0 ≤ a) (h : a ≤ 2147483647) : (iI a).toNatClampNeg = a.toNat := by
  show (iI a).toInt.toNat = a.toNat
  rw [iI_to ⟨by omega, h⟩]
theorem iI_in {a : Int} {n : Nat} (h0 : 0 ≤ a) (h1 : a < (n : Int)) (hn : n ≤ 2147483647) : vp_in (iI a) n := by
  intro q
  have hr : InR a := ⟨by omega, by omega⟩
  rcases q with q | q
  · rw [← iI_zero, iI_lt hr inR_zero] at q; omega
  · rw [iI_clamp h0 (by omega)] at q; omega
/-! operations on the bits, as integers -/
def band (a b : Int) : Int := (iI a &&& iI b).toInt
def bor (a b : Int) : Int := (iI a ||| iI b).toInt
def bxor (a b : Int) : Int := (iI a ^^^ iI b).toInt
def bshl (a b : Int) : Int := (iI a <<< (iI b &&& 31)).toInt
def bshr (a b : Int) : Int := (iI a >>> (iI b &&& 31)).toInt
def bushr (a b : Int) : Int := (((iI a).toUInt32 >>> ((iI b).toUInt32 &&& Int32.toUInt32 31)).toInt32).toInt
def jdiv (a b : Int) : Int := (iI a / iI b).toInt
def jrem (a b : Int) : Int := (iI a - iI a / iI b * iI b).toInt
def j2c (a : Int) : Int := (((iI a).toUInt32 % 65536).toInt32).toInt
def j2l (a : Int) : Int := ((iI a).toInt64).toInt
def l2j (a : Int) : Int := ((lI a).toInt32).toInt
def lshl (a b : Int) : Int := (lI a <<< ((iI b).toInt64 &&& 63)).toInt
def lshr (a b : Int) : Int := (lI a >>> ((iI b).toInt64 &&& 63)).toInt
theorem jdiv_pos {a b : Int} (ha : InR a) (h0 : 0 ≤ a) (hb : 0 < b) (hb2 : b ≤ 2147483647) : jdiv a b = a / b := by
  have hbr : InR b := ⟨by omega, hb2⟩
  unfold jdiv
  rw [Int32.toInt_div_of_ne_right _ _ (fun q => by
    have : b = -1 := (iI_eq hbr ⟨by decide, by decide⟩).mp q
    omega), iI_to ha, iI_to hbr, Int.tdiv_eq_ediv_of_nonneg h0]
theorem jrem_pos {a b : Int} (ha : InR a) (h0 : 0 ≤ a) (hb : 0 < b) (hb2 : b ≤ 2147483647) : jrem a b = a % b := by
  have hbr : InR b := ⟨by omega, hb2⟩
  unfold jrem
  rw [rem_toInt, iI_to ha, iI_to hbr, Int.tmod_eq_emod_of_nonneg h0]
theorem j2l_eq {a : Int} (h : InR a) : j2l a = a := by
  unfold j2l
  rw [Int32.toInt_toInt64, iI_to h]
theorem l2j_eq {a : Int} (h : InR a) : l2j a = a := by
  unfold l2j
  have h2 := iI_to h
  rw [show (lI a).toInt32 = iI a from Int64.toInt32_ofInt, h2]
/-! WORLDS -/
/-- an object's number, a field's number, a place (0 for a field that holds a number): the number there -/
abbrev Wd : Type := Nat → Nat → Nat → Int
/-- a layout: class of an object (by number), its address, the address of the array in a field, the number of the object in a field, the classes, the array classes, the addresses of the static arrays -/
abbrev Ly : Type := (Nat → Option Nat) × (Nat → Nat) × (Nat → Nat → Nat) × (Nat → Nat → Nat) × va_G × (Nat → ClassId) × (Nat → Nat)
abbrev gOb (G : Ly) : Nat → Option Nat := G.1
abbrev gAd (G : Ly) : Nat → Nat := G.2.1
abbrev gAr (G : Ly) : Nat → Nat → Nat := G.2.2.1
abbrev gLk (G : Ly) : Nat → Nat → Nat := G.2.2.2.1
abbrev gD (G : Ly) : va_G := G.2.2.2.2.1
abbrev gCa (G : Ly) : Nat → ClassId := G.2.2.2.2.2.1
abbrev gSa (G : Ly) : Nat → Nat := G.2.2.2.2.2.2
def up (w : Wd) (o f j : Nat) (v : Int) : Wd := fun o' f' j' => if o' = o ∧ f' = f ∧ j' = j then v else w o' f' j'
theorem up_at (w : Wd) (o f j : Nat) (v : Int) : up w o f j v o f j = v := if_pos ⟨rfl, rfl, rfl⟩
theorem up_ne {w : Wd} {o f j o' f' j' : Nat} {v : Int} (h : ¬ (o' = o ∧ f' = f ∧ j' = j)) : up w o f j v o' f' j' = w o' f' j' := if_neg h
/-- what a field is: 0 a number, 6 a truth value, 1 ints, 2 longs, 3 letters, 5 objects (so many), 4 an object -/
def fkX (c f : Nat) : Nat × Nat := match c with
  | 0 => (match f with | 0 => (4, 0) | 1 => (1, 481) | 2 => (1, 81) | 3 => (6, 0) | _ => (0, 0))
  | 1 => (match f with | 0 => (0, 0) | 1 => (0, 0) | _ => (5, 4))
  | 2 => (match f with | 1 => (1, 6) | 2 => (1, 6) | 3 => (1, 6) | 4 => (1, 6) | 5 => (1, 6) | 6 => (1, 6) | _ => (0, 0))
  | 3 => (match f with | 0 => (0, 0) | 1 => (3, 200) | _ => (1, 6))
  | 4 => (match f with | 0 => (4, 0) | 1 => (2, 481) | 2 => (2, 81) | 3 => (6, 0) | _ => (0, 0))
  | 5 => (4, 0)
  | 6 => (match f with | 0 => (1, 4) | 10 => (1, 6) | 11 => (1, 6) | 12 => (1, 6) | 13 => (1, 54) | 14 => (1, 6) | _ => (0, 0))
  | 7 => (4, 0)
  | _ => (match f with | 0 => (1, 200) | 3 => (1, 44) | 4 => (1, 44) | 5 => (1, 101) | 6 => (1, 101) | 7 => (1, 404) | 9 => (1, 6) | 10 => (1, 15392) | 11 => (6, 0) | 13 => (1, 6) | _ => (0, 0))
def nfX (c : Nat) : Nat := match c with
  | 0 => 6 | 1 => 3 | 2 => 14 | 3 => 3 | 4 => 9 | 5 => 2 | 6 => 15 | 7 => 8 | _ => 15
def isA (k : Nat × Nat) : Bool := k.1 == 1 || k.1 == 2 || k.1 == 3 || k.1 == 5
def fval (G : Ly) (w : Wd) (o c f : Nat) : Value := match (fkX c f).1 with
  | 0 => .int (iI (w o f 0))
  | 6 => .int (iI (w o f 0))
  | 4 => .ref (gAd G (gLk G o f))
  | _ => .ref (gAr G o f)
def acell (G : Ly) (w : Wd) (o f : Nat) (k : Nat × Nat) : Cell := match k.1 with
  | 1 => vp_cell (gCa G 0) (k.2, .inl fun j => iI (w o f j))
  | 2 => vp_cell (gCa G 1) (k.2, .inr (.inl fun j => lI (w o f j)))
  | 3 => vp_cell (gCa G 2) (k.2, .inl fun j => iI (w o f j))
  | _ => vp_cell (gCa G 3) (k.2, .inr (.inr (.inr (.inr fun j => some (gAd G (gLk G o (100 + j)))))))
/-- the heap holds the world -/
def Hold (G : Ly) (w : Wd) (H : Heap) : Prop := ∀ o c, gOb G o = some c →
  t_OB (gAd G o) ((gD G).1 c) (nfX c) ((gD G).2 c) H (fval G w o c) ∧ ∀ f, f < nfX c → isA (fkX c f) = true → H[gAr G o f]? = some (acell G w o f (fkX c f))
/-- the addresses are apart -/
def Ap (G : Ly) : Prop := (∀ o c o' c', gOb G o = some c → gOb G o' = some c' → gAd G o = gAd G o' → o = o') ∧
  (∀ o c o' c' f f', gOb G o = some c → gOb G o' = some c' → f < nfX c → isA (fkX c f) = true → f' < nfX c' → isA (fkX c' f') = true → gAr G o f = gAr G o' f' → o = o' ∧ f = f') ∧
  (∀ o c o' c' f', gOb G o = some c → gOb G o' = some c' → f' < nfX c' → isA (fkX c' f') = true → gAd G o ≠ gAr G o' f')
/-- the world's own cells -/
def gA (G : Ly) : Nat → Prop := fun q => ∃ o c, gOb G o = some c ∧ (q = gAd G o ∨ ∃ f, f < nfX c ∧ isA (fkX c f) = true ∧ q = gAr G o f)
theorem gA_o {G : Ly} {o c : Nat} (h : gOb G o = some c) : gA G (gAd G o) := ⟨o, c, h, Or.inl rfl⟩
theorem gA_a {G : Ly} {o c f : Nat} (h : gOb G o = some c) (hf : f < nfX c) (ha : isA (fkX c f) = true) : gA G (gAr G o f) := ⟨o, c, h, Or.inr ⟨f, hf, ha, rfl⟩⟩
/-- a number of a field is set -/
theorem Hold.puti {G : Ly} {w : Wd} {H H1 : Heap} (h : Hold G w H) (hA : Ap G) {o c f : Nat} (ho : gOb G o = some c) (hk : (fkX c f).1 = 0 ∨ (fkX c f).1 = 6) {v : Int}
    (he : t_OB (gAd G o) ((gD G).1 c) (nfX c) ((gD G).2 c) H1 (updV (fval G w o c) f (.int (iI v)))) (oq : ∀ q : Nat, q ≠ gAd G o → H1[q]? = H[q]?) : Hold G (up w o f 0 v) H1 := by
  intro o' c' ho'
  obtain ⟨h1, h2⟩ := h o' c' ho'
  constructor
  · by_cases e : o' = o
    · subst e
      cases ho.symm.trans ho'
      refine he.to fun k hk' => ?_
      by_cases ek : k = f
      · subst ek
        rcases hk with hk | hk <;> simp [updV, fval, hk, up]
      · simp [updV, ek, fval, up]
    · have hne : gAd G o' ≠ gAd G o := fun z => e (hA.1 _ _ _ _ ho' ho z)
      refine (h1.kept (oq _ hne)).to fun k hk' => ?_
      simp [fval, up, e]
  · intro f' hf' ha'
    have hne : gAr G o' f' ≠ gAd G o := fun z => hA.2.2 _ _ _ _ _ ho ho' hf' ha' z.symm
    rw [oq _ hne, h2 f' hf' ha']
    have hx : ¬ (o' = o ∧ f' = f) := by
      rintro ⟨rfl, rfl⟩
      cases ho.symm.trans ho'
      rcases hk with hk | hk <;> simp [isA, hk] at ha'
    have hu : ∀ j, up w o f 0 v o' f' j = w o' f' j := fun j => up_ne (fun q => hx ⟨q.1, q.2.1⟩)
    simp only [acell, hu]
/-- an array is changed -/
theorem Hold.puta {G : Ly} {w w' : Wd} {H H1 : Heap} (h : Hold G w H) (hA : Ap G) {o c f : Nat} (ho : gOb G o = some c) (hf : f < nfX c) (ha : isA (fkX c f) = true)
    (hw : ∀ o' f' j', ¬ (o' = o ∧ f' = f) → w' o' f' j' = w o' f' j') (he : H1[gAr G o f]? = some (acell G w' o f (fkX c f))) (oq : ∀ q : Nat, q ≠ gAr G o f → H1[q]? = H[q]?) : Hold G w' H1 := by
  intro o' c' ho'
  obtain ⟨h1, h2⟩ := h o' c' ho'
  constructor
  · have hne : gAd G o' ≠ gAr G o f := hA.2.2 _ _ _ _ _ ho' ho hf ha
    refine (h1.kept (oq _ hne)).to fun k hk' => ?_
    by_cases e : o' = o ∧ k = f
    · obtain ⟨rfl, rfl⟩ := e
      cases ho.symm.trans ho'
      have hk : (fkX c k).1 = 1 ∨ (fkX c k).1 = 2 ∨ (fkX c k).1 = 3 ∨ (fkX c k).1 = 5 := by
        simp [isA] at ha
        omega
      rcases hk with hk | hk | hk | hk <;> simp [fval, hk]
    · simp only [fval, hw o' k 0 e]
  · intro f' hf' ha'
    by_cases e : o' = o ∧ f' = f
    · obtain ⟨rfl, rfl⟩ := e
      cases ho.symm.trans ho'
      exact he
    · have hne : gAr G o' f' ≠ gAr G o f := fun z => e (hA.2.1 _ _ _ _ _ _ ho' ho hf' ha' hf ha z)
      rw [oq _ hne, h2 f' hf' ha']
      have hu : ∀ j, w' o' f' j = w o' f' j := fun j => hw o' f' j e
      simp only [acell, hu]
end
section
def RX0 : String := "ColdHouse$BestSets"
def TX0 : u_T := fun k => match k with
  | 0 => ("ColdHouse$BestSets", "plant", "LColdHouse$Plant;", true)
  | 1 => ("ColdHouse$BestSets", "leastFor", "[I", true)
  | 2 => ("ColdHouse$BestSets", "row", "[I", true)
  | 3 => ("ColdHouse$BestSets", "known", "Z", false)
  | 4 => ("ColdHouse$BestSets", "open", "I", false)
  | _ => ("ColdHouse$BestSets", "lift", "I", false)
def tyX0 : Nat → FieldType := fun k => match k with
  | 0 => .object "ColdHouse$Plant"
  | 1 => .array .int
  | 2 => .array .int
  | 3 => .boolean
  | 4 => .int
  | _ => .int
theorem nmX0 : ∀ a, a < 6 → ∀ b, b < 6 → a ≠ b → (TX0 a).2.1 ≠ (TX0 b).2.1 := by decide +kernel
theorem tyX0_ok : ∀ k, k < 6 → parseFieldDescriptor (TX0 k).2.2.1 = some (tyX0 k) := by decide +kernel
def RX1 : String := "ColdHouse$Past"
def TX1 : u_T := fun k => match k with
  | 0 => ("ColdHouse$Past", "held", "I", false)
  | 1 => ("ColdHouse$Past", "next", "I", false)
  | _ => ("ColdHouse$Past", "states", "[LColdHouse$State;", true)
def tyX1 : Nat → FieldType := fun k => match k with
  | 0 => .int
  | 1 => .int
  | _ => .array (.object "ColdHouse$State")
theorem nmX1 : ∀ a, a < 3 → ∀ b, b < 3 → a ≠ b → (TX1 a).2.1 ≠ (TX1 b).2.1 := by decide +kernel
theorem tyX1_ok : ∀ k, k < 3 → parseFieldDescriptor (TX1 k).2.2.1 = some (tyX1 k) := by decide +kernel
def RX2 : String := "ColdHouse$Plant"
def TX2 : u_T := fun k => match k with
  | 0 => ("ColdHouse$Plant", "machines", "I", false)
  | 1 => ("ColdHouse$Plant", "least", "[I", true)
  | 2 => ("ColdHouse$Plant", "most", "[I", true)
  | 3 => ("ColdHouse$Plant", "base", "[I", true)
  | 4 => ("ColdHouse$Plant", "slope", "[I", true)
  | 5 => ("ColdHouse$Plant", "curve", "[I", true)
  | 6 => ("ColdHouse$Plant", "flow", "[I", true)
  | 7 => ("ColdHouse$Plant", "run", "I", false)
  | 8 => ("ColdHouse$Plant", "rest", "I", false)
  | 9 => ("ColdHouse$Plant", "startsAllowed", "I", false)
  | 10 => ("ColdHouse$Plant", "gap", "I", false)
  | 11 => ("ColdHouse$Plant", "up", "I", false)
  | 12 => ("ColdHouse$Plant", "down", "I", false)
  | _ => ("ColdHouse$Plant", "patience", "I", false)
def tyX2 : Nat → FieldType := fun k => match k with
  | 0 => .int
  | 1 => .array .int
  | 2 => .array .int
  | 3 => .array .int
  | 4 => .array .int
  | 5 => .array .int
  | 6 => .array .int
  | 7 => .int
  | 8 => .int
  | 9 => .int
  | 10 => .int
  | 11 => .int
  | 12 => .int
  | _ => .int
theorem nmX2 : ∀ a, a < 14 → ∀ b, b < 14 → a ≠ b → (TX2 a).2.1 ≠ (TX2 b).2.1 := by decide +kernel
theorem tyX2_ok : ∀ k, k < 14 → parseFieldDescriptor (TX2 k).2.2.1 = some (tyX2 k) := by decide +kernel
def RX3 : String := "ColdHouse$Script"
def TX3 : u_T := fun k => match k with
  | 0 => ("ColdHouse$Script", "length", "I", false)
  | 1 => ("ColdHouse$Script", "letters", "[C", true)
  | _ => ("ColdHouse$Script", "numbers", "[I", true)
def tyX3 : Nat → FieldType := fun k => match k with
  | 0 => .int
  | 1 => .array .char
  | _ => .array .int
theorem nmX3 : ∀ a, a < 3 → ∀ b, b < 3 → a ≠ b → (TX3 a).2.1 ≠ (TX3 b).2.1 := by decide +kernel
theorem tyX3_ok : ∀ k, k < 3 → parseFieldDescriptor (TX3 k).2.2.1 = some (tyX3 k) := by decide +kernel
def RX4 : String := "ColdHouse$Sharing"
def TX4 : u_T := fun k => match k with
  | 0 => ("ColdHouse$Sharing", "plant", "LColdHouse$Plant;", true)
  | 1 => ("ColdHouse$Sharing", "leastFor", "[J", true)
  | 2 => ("ColdHouse$Sharing", "row", "[J", true)
  | 3 => ("ColdHouse$Sharing", "known", "Z", false)
  | 4 => ("ColdHouse$Sharing", "set", "I", false)
  | 5 => ("ColdHouse$Sharing", "load", "I", false)
  | 6 => ("ColdHouse$Sharing", "lift", "I", false)
  | 7 => ("ColdHouse$Sharing", "low", "I", false)
  | _ => ("ColdHouse$Sharing", "high", "I", false)
def tyX4 : Nat → FieldType := fun k => match k with
  | 0 => .object "ColdHouse$Plant"
  | 1 => .array .long
  | 2 => .array .long
  | 3 => .boolean
  | 4 => .int
  | 5 => .int
  | 6 => .int
  | 7 => .int
  | _ => .int
theorem nmX4 : ∀ a, a < 9 → ∀ b, b < 9 → a ≠ b → (TX4 a).2.1 ≠ (TX4 b).2.1 := by decide +kernel
theorem tyX4_ok : ∀ k, k < 9 → parseFieldDescriptor (TX4 k).2.2.1 = some (tyX4 k) := by decide +kernel
def RX5 : String := "ColdHouse$Staging"
def TX5 : u_T := fun k => match k with
  | 0 => ("ColdHouse$Staging", "sharing", "LColdHouse$Sharing;", true)
  | _ => ("ColdHouse$Staging", "plant", "LColdHouse$Plant;", true)
def tyX5 : Nat → FieldType := fun k => match k with
  | 0 => .object "ColdHouse$Sharing"
  | _ => .object "ColdHouse$Plant"
theorem nmX5 : ∀ a, a < 2 → ∀ b, b < 2 → a ≠ b → (TX5 a).2.1 ≠ (TX5 b).2.1 := by decide +kernel
theorem tyX5_ok : ∀ k, k < 2 → parseFieldDescriptor (TX5 k).2.2.1 = some (tyX5 k) := by decide +kernel
def RX6 : String := "ColdHouse$State"
def TX6 : u_T := fun k => match k with
  | 0 => ("ColdHouse$State", "told", "[I", true)
  | 1 => ("ColdHouse$State", "ticks", "I", false)
  | 2 => ("ColdHouse$State", "ups", "I", false)
  | 3 => ("ColdHouse$State", "downs", "I", false)
  | 4 => ("ColdHouse$State", "energy", "I", false)
  | 5 => ("ColdHouse$State", "locked", "I", false)
  | 6 => ("ColdHouse$State", "starting", "I", false)
  | 7 => ("ColdHouse$State", "on", "I", false)
  | 8 => ("ColdHouse$State", "lastStart", "I", false)
  | 9 => ("ColdHouse$State", "listed", "I", false)
  | 10 => ("ColdHouse$State", "list", "[I", true)
  | 11 => ("ColdHouse$State", "hours", "[I", true)
  | 12 => ("ColdHouse$State", "starts", "[I", true)
  | 13 => ("ColdHouse$State", "startTicks", "[I", true)
  | _ => ("ColdHouse$State", "stopTick", "[I", true)
def tyX6 : Nat → FieldType := fun k => match k with
  | 0 => .array .int
  | 1 => .int
  | 2 => .int
  | 3 => .int
  | 4 => .int
  | 5 => .int
  | 6 => .int
  | 7 => .int
  | 8 => .int
  | 9 => .int
  | 10 => .array .int
  | 11 => .array .int
  | 12 => .array .int
  | 13 => .array .int
  | _ => .array .int
theorem nmX6 : ∀ a, a < 15 → ∀ b, b < 15 → a ≠ b → (TX6 a).2.1 ≠ (TX6 b).2.1 := by decide +kernel
theorem tyX6_ok : ∀ k, k < 15 → parseFieldDescriptor (TX6 k).2.2.1 = some (tyX6 k) := by decide +kernel
def RX7 : String := "ColdHouse"
def TX7 : u_T := fun k => match k with
  | 0 => ("ColdHouse", "script", "LColdHouse$Script;", true)
  | 1 => ("ColdHouse", "plant", "LColdHouse$Plant;", true)
  | 2 => ("ColdHouse", "state", "LColdHouse$State;", true)
  | 3 => ("ColdHouse", "trial", "LColdHouse$State;", true)
  | 4 => ("ColdHouse", "past", "LColdHouse$Past;", true)
  | 5 => ("ColdHouse", "staging", "LColdHouse$Staging;", true)
  | 6 => ("ColdHouse", "asked", "LColdHouse$Sharing;", true)
  | _ => ("ColdHouse", "bestSets", "LColdHouse$BestSets;", true)
def tyX7 : Nat → FieldType := fun k => match k with
  | 0 => .object "ColdHouse$Script"
  | 1 => .object "ColdHouse$Plant"
  | 2 => .object "ColdHouse$State"
  | 3 => .object "ColdHouse$State"
  | 4 => .object "ColdHouse$Past"
  | 5 => .object "ColdHouse$Staging"
  | 6 => .object "ColdHouse$Sharing"
  | _ => .object "ColdHouse$BestSets"
theorem nmX7 : ∀ a, a < 8 → ∀ b, b < 8 → a ≠ b → (TX7 a).2.1 ≠ (TX7 b).2.1 := by decide +kernel
theorem tyX7_ok : ∀ k, k < 8 → parseFieldDescriptor (TX7 k).2.2.1 = some (tyX7 k) := by decide +kernel
def RX8 : String := "ColdHouseModel"
def TX8 : u_T := fun k => match k with
  | 0 => ("ColdHouseModel", "text", "[I", true)
  | 1 => ("ColdHouseModel", "letters", "I", false)
  | 2 => ("ColdHouseModel", "at", "I", false)
  | 3 => ("ColdHouseModel", "read", "[I", true)
  | 4 => ("ColdHouseModel", "told", "[I", true)
  | 5 => ("ColdHouseModel", "now", "[I", true)
  | 6 => ("ColdHouseModel", "aside", "[I", true)
  | 7 => ("ColdHouseModel", "past", "[I", true)
  | 8 => ("ColdHouseModel", "changes", "I", false)
  | 9 => ("ColdHouseModel", "numbers", "[I", true)
  | 10 => ("ColdHouseModel", "table", "[I", true)
  | 11 => ("ColdHouseModel", "isLaid", "Z", false)
  | 12 => ("ColdHouseModel", "laidLift", "I", false)
  | 13 => ("ColdHouseModel", "makes", "[I", true)
  | _ => ("ColdHouseModel", "bestPower", "I", false)
def tyX8 : Nat → FieldType := fun k => match k with
  | 0 => .array .int
  | 1 => .int
  | 2 => .int
  | 3 => .array .int
  | 4 => .array .int
  | 5 => .array .int
  | 6 => .array .int
  | 7 => .array .int
  | 8 => .int
  | 9 => .array .int
  | 10 => .array .int
  | 11 => .boolean
  | 12 => .int
  | 13 => .array .int
  | _ => .int
theorem nmX8 : ∀ a, a < 15 → ∀ b, b < 15 → a ≠ b → (TX8 a).2.1 ≠ (TX8 b).2.1 := by decide +kernel
theorem tyX8_ok : ∀ k, k < 15 → parseFieldDescriptor (TX8 k).2.2.1 = some (tyX8 k) := by decide +kernel
def RJ6 : String := "java/lang/Integer"
def RJ9 : String := "java/lang/Math"
def RJ0 : String := "java/lang/String"
def RJ1 : String := "java/lang/StringLatin1"
def RJ7 : String := "java/util/Arrays"
def RJ3 : String := "jdk/internal/util/Preconditions"
abbrev cX0_init : ByteArray := prog_2_method_1_code
def yX0_init : MethodName := ⟨RX0, "<init>", "(LColdHouse$Plant;)V"⟩
abbrev cX0_forget : ByteArray := prog_2_method_2_code
def yX0_forget : MethodName := ⟨RX0, "forget", "()V"⟩
abbrev cX0_reckon : ByteArray := prog_2_method_3_code
def yX0_reckon : MethodName := ⟨RX0, "reckon", "(II)V"⟩
abbrev cX0_has : ByteArray := prog_2_method_4_code
def yX0_has : MethodName := ⟨RX0, "has", "(I)Z"⟩
abbrev cX0_setFor : ByteArray := prog_2_method_5_code
def yX0_setFor : MethodName := ⟨RX0, "setFor", "(I)I"⟩
abbrev cX0_leastPower : ByteArray := prog_2_method_6_code
def yX0_leastPower : MethodName := ⟨RX0, "leastPower", "(I)I"⟩
abbrev cX0_addMachine : ByteArray := prog_2_method_7_code
def yX0_addMachine : MethodName := ⟨RX0, "addMachine", "(I)V"⟩
abbrev cX0_fillRow : ByteArray := prog_2_method_8_code
def yX0_fillRow : MethodName := ⟨RX0, "fillRow", "(I)V"⟩
abbrev cX0_leastWith : ByteArray := prog_2_method_9_code
def yX0_leastWith : MethodName := ⟨RX0, "leastWith", "(II)I"⟩
abbrev cX1_init : ByteArray := prog_3_method_1_code
def yX1_init : MethodName := ⟨RX1, "<init>", "()V"⟩
abbrev cX1_forget : ByteArray := prog_3_method_2_code
def yX1_forget : MethodName := ⟨RX1, "forget", "()V"⟩
abbrev cX1_keep : ByteArray := prog_3_method_3_code
def yX1_keep : MethodName := ⟨RX1, "keep", "(LColdHouse$State;)V"⟩
abbrev cX1_giveBack : ByteArray := prog_3_method_4_code
def yX1_giveBack : MethodName := ⟨RX1, "giveBack", "(LColdHouse$State;)Z"⟩
abbrev cX2_init : ByteArray := prog_4_method_1_code
def yX2_init : MethodName := ⟨RX2, "<init>", "()V"⟩
abbrev cX2_reset : ByteArray := prog_4_method_2_code
def yX2_reset : MethodName := ⟨RX2, "reset", "()V"⟩
abbrev cX2_take : ByteArray := prog_4_method_3_code
def yX2_take : MethodName := ⟨RX2, "take", "(C[I)V"⟩
abbrev cX2_takeMachine : ByteArray := prog_4_method_4_code
def yX2_takeMachine : MethodName := ⟨RX2, "takeMachine", "([I)V"⟩
abbrev cX2_all : ByteArray := prog_4_method_5_code
def yX2_all : MethodName := ⟨RX2, "all", "()I"⟩
abbrev cX2_powerAt : ByteArray := prog_4_method_6_code
def yX2_powerAt : MethodName := ⟨RX2, "powerAt", "(III)I"⟩
abbrev cX2_can : ByteArray := prog_4_method_7_code
def yX2_can : MethodName := ⟨RX2, "can", "(II)Z"⟩
abbrev cX2_leasts : ByteArray := prog_4_method_8_code
def yX2_leasts : MethodName := ⟨RX2, "leasts", "(I)I"⟩
abbrev cX2_mosts : ByteArray := prog_4_method_9_code
def yX2_mosts : MethodName := ⟨RX2, "mosts", "(I)I"⟩
abbrev cX2_flows : ByteArray := prog_4_method_10_code
def yX2_flows : MethodName := ⟨RX2, "flows", "(I)I"⟩
abbrev cX2_sumOver : ByteArray := prog_4_method_11_code
def yX2_sumOver : MethodName := ⟨RX2, "sumOver", "(I[I)I"⟩
abbrev cX3_init : ByteArray := prog_5_method_1_code
def yX3_init : MethodName := ⟨RX3, "<init>", "()V"⟩
abbrev cX3_add : ByteArray := prog_5_method_2_code
def yX3_add : MethodName := ⟨RX3, "add", "(C)Z"⟩
abbrev cX3_empty : ByteArray := prog_5_method_3_code
def yX3_empty : MethodName := ⟨RX3, "empty", "()V"⟩
abbrev cX3_firstFault : ByteArray := prog_5_method_4_code
def yX3_firstFault : MethodName := ⟨RX3, "firstFault", "()I"⟩
abbrev cX3_machines : ByteArray := prog_5_method_5_code
def yX3_machines : MethodName := ⟨RX3, "machines", "()I"⟩
abbrev cX3_layInto : ByteArray := prog_5_method_6_code
def yX3_layInto : MethodName := ⟨RX3, "layInto", "(LColdHouse$Plant;)V"⟩
abbrev cX3_readItem : ByteArray := prog_5_method_7_code
def yX3_readItem : MethodName := ⟨RX3, "readItem", "(I)I"⟩
abbrev cX3_readNumbers : ByteArray := prog_5_method_8_code
def yX3_readNumbers : MethodName := ⟨RX3, "readNumbers", "(I[I[I)I"⟩
abbrev cX3_isFigure : ByteArray := prog_5_method_9_code
def yX3_isFigure : MethodName := ⟨RX3, "isFigure", "(I)Z"⟩
abbrev cX3_letterAt : ByteArray := prog_5_method_10_code
def yX3_letterAt : MethodName := ⟨RX3, "letterAt", "(I)C"⟩
abbrev cX4_init : ByteArray := prog_6_method_1_code
def yX4_init : MethodName := ⟨RX4, "<init>", "(LColdHouse$Plant;)V"⟩
abbrev cX4_forget : ByteArray := prog_6_method_2_code
def yX4_forget : MethodName := ⟨RX4, "forget", "()V"⟩
abbrev cX4_find : ByteArray := prog_6_method_3_code
def yX4_find : MethodName := ⟨RX4, "find", "(III)Z"⟩
abbrev cX4_leastPower : ByteArray := prog_6_method_4_code
def yX4_leastPower : MethodName := ⟨RX4, "leastPower", "()I"⟩
abbrev cX4_part : ByteArray := prog_6_method_5_code
def yX4_part : MethodName := ⟨RX4, "part", "(I)I"⟩
abbrev cX4_shiftOf : ByteArray := prog_6_method_6_code
def yX4_shiftOf : MethodName := ⟨RX4, "shiftOf", "(I)I"⟩
abbrev cX4_addMachine : ByteArray := prog_6_method_7_code
def yX4_addMachine : MethodName := ⟨RX4, "addMachine", "(II)V"⟩
abbrev cX4_fillRow : ByteArray := prog_6_method_8_code
def yX4_fillRow : MethodName := ⟨RX4, "fillRow", "(I)V"⟩
abbrev cX4_leastWith : ByteArray := prog_6_method_9_code
def yX4_leastWith : MethodName := ⟨RX4, "leastWith", "(II)J"⟩
abbrev cX5_init : ByteArray := prog_7_method_1_code
def yX5_init : MethodName := ⟨RX5, "<init>", "(LColdHouse$Plant;)V"⟩
abbrev cX5_made : ByteArray := prog_7_method_2_code
def yX5_made : MethodName := ⟨RX5, "made", "(LColdHouse$State;)I"⟩
abbrev cX5_powerNow : ByteArray := prog_7_method_3_code
def yX5_powerNow : MethodName := ⟨RX5, "powerNow", "(LColdHouse$State;)I"⟩
abbrev cX5_madeBy : ByteArray := prog_7_method_4_code
def yX5_madeBy : MethodName := ⟨RX5, "madeBy", "(LColdHouse$State;I)I"⟩
abbrev cX5_pass : ByteArray := prog_7_method_5_code
def yX5_pass : MethodName := ⟨RX5, "pass", "(LColdHouse$State;)V"⟩
abbrev cX5_comeOn : ByteArray := prog_7_method_6_code
def yX5_comeOn : MethodName := ⟨RX5, "comeOn", "(LColdHouse$State;I)V"⟩
abbrev cX5_comeBack : ByteArray := prog_7_method_7_code
def yX5_comeBack : MethodName := ⟨RX5, "comeBack", "(LColdHouse$State;)V"⟩
abbrev cX5_stageUp : ByteArray := prog_7_method_8_code
def yX5_stageUp : MethodName := ⟨RX5, "stageUp", "(LColdHouse$State;)V"⟩
abbrev cX5_stageDown : ByteArray := prog_7_method_9_code
def yX5_stageDown : MethodName := ⟨RX5, "stageDown", "(LColdHouse$State;)V"⟩
abbrev cX5_gapIsOver : ByteArray := prog_7_method_10_code
def yX5_gapIsOver : MethodName := ⟨RX5, "gapIsOver", "(LColdHouse$State;I)Z"⟩
abbrev cX5_mayStart : ByteArray := prog_7_method_11_code
def yX5_mayStart : MethodName := ⟨RX5, "mayStart", "(LColdHouse$State;II)Z"⟩
abbrev cX5_nextToStart : ByteArray := prog_7_method_12_code
def yX5_nextToStart : MethodName := ⟨RX5, "nextToStart", "(LColdHouse$State;)I"⟩
abbrev cX5_nextToStop : ByteArray := prog_7_method_13_code
def yX5_nextToStop : MethodName := ⟨RX5, "nextToStop", "(LColdHouse$State;)I"⟩
abbrev cX5_fall : ByteArray := prog_7_method_14_code
def yX5_fall : MethodName := ⟨RX5, "fall", "(LColdHouse$State;)V"⟩
abbrev cX5_greatestOf : ByteArray := prog_7_method_15_code
def yX5_greatestOf : MethodName := ⟨RX5, "greatestOf", "(I)I"⟩
abbrev cX6_init : ByteArray := prog_8_method_1_code
def yX6_init : MethodName := ⟨RX6, "<init>", "()V"⟩
abbrev cX6_reset : ByteArray := prog_8_method_2_code
def yX6_reset : MethodName := ⟨RX6, "reset", "()V"⟩
abbrev cX6_copyFrom : ByteArray := prog_8_method_3_code
def yX6_copyFrom : MethodName := ⟨RX6, "copyFrom", "(LColdHouse$State;)V"⟩
abbrev cX6_running : ByteArray := prog_8_method_4_code
def yX6_running : MethodName := ⟨RX6, "running", "()I"⟩
abbrev cX6_lift : ByteArray := prog_8_method_5_code
def yX6_lift : MethodName := ⟨RX6, "lift", "()I"⟩
abbrev cX6_startedSoFar : ByteArray := prog_8_method_6_code
def yX6_startedSoFar : MethodName := ⟨RX6, "startedSoFar", "()I"⟩
abbrev cX6_start : ByteArray := prog_8_method_7_code
def yX6_start : MethodName := ⟨RX6, "start", "(I)V"⟩
abbrev cX6_stop : ByteArray := prog_8_method_8_code
def yX6_stop : MethodName := ⟨RX6, "stop", "(I)V"⟩
abbrev cX6_ticksSinceStart : ByteArray := prog_8_method_9_code
def yX6_ticksSinceStart : MethodName := ⟨RX6, "ticksSinceStart", "(II)I"⟩
abbrev cX6_ticksSinceStop : ByteArray := prog_8_method_10_code
def yX6_ticksSinceStop : MethodName := ⟨RX6, "ticksSinceStop", "(II)I"⟩
abbrev cX6_startBack : ByteArray := prog_8_method_11_code
def yX6_startBack : MethodName := ⟨RX6, "startBack", "(II)I"⟩
abbrev cX6_ringPlace : ByteArray := prog_8_method_12_code
def yX6_ringPlace : MethodName := ⟨RX6, "ringPlace", "(II)I"⟩
abbrev cX6_putOnList : ByteArray := prog_8_method_13_code
def yX6_putOnList : MethodName := ⟨RX6, "putOnList", "(I)V"⟩
abbrev cX6_firstOfList : ByteArray := prog_8_method_14_code
def yX6_firstOfList : MethodName := ⟨RX6, "firstOfList", "()I"⟩
abbrev cX6_takeOffList : ByteArray := prog_8_method_15_code
def yX6_takeOffList : MethodName := ⟨RX6, "takeOffList", "(I)V"⟩
abbrev cX6_placeInList : ByteArray := prog_8_method_16_code
def yX6_placeInList : MethodName := ⟨RX6, "placeInList", "(I)I"⟩
abbrev cX7_init : ByteArray := prog_1_method_1_code
def yX7_init : MethodName := ⟨RX7, "<init>", "()V"⟩
abbrev cX7_write : ByteArray := prog_1_method_2_code
def yX7_write : MethodName := ⟨RX7, "write", "(I)I"⟩
abbrev cX7_wipe : ByteArray := prog_1_method_3_code
def yX7_wipe : MethodName := ⟨RX7, "wipe", "()I"⟩
abbrev cX7_fault : ByteArray := prog_1_method_4_code
def yX7_fault : MethodName := ⟨RX7, "fault", "()I"⟩
abbrev cX7_lay : ByteArray := prog_1_method_5_code
def yX7_lay : MethodName := ⟨RX7, "lay", "()I"⟩
abbrev cX7_tell : ByteArray := prog_1_method_6_code
def yX7_tell : MethodName := ⟨RX7, "tell", "(II)I"⟩
abbrev cX7_lock : ByteArray := prog_1_method_7_code
def yX7_lock : MethodName := ⟨RX7, "lock", "(II)I"⟩
abbrev cX7_dip : ByteArray := prog_1_method_8_code
def yX7_dip : MethodName := ⟨RX7, "dip", "()I"⟩
abbrev cX7_tick : ByteArray := prog_1_method_9_code
def yX7_tick : MethodName := ⟨RX7, "tick", "(I)I"⟩
abbrev cX7_undo : ByteArray := prog_1_method_10_code
def yX7_undo : MethodName := ⟨RX7, "undo", "()I"⟩
abbrev cX7_machine : ByteArray := prog_1_method_11_code
def yX7_machine : MethodName := ⟨RX7, "machine", "(II)I"⟩
abbrev cX7_power : ByteArray := prog_1_method_12_code
def yX7_power : MethodName := ⟨RX7, "power", "(III)I"⟩
abbrev cX7_share : ByteArray := prog_1_method_13_code
def yX7_share : MethodName := ⟨RX7, "share", "(III)I"⟩
abbrev cX7_best : ByteArray := prog_1_method_14_code
def yX7_best : MethodName := ⟨RX7, "best", "(II)I"⟩
abbrev cX7_now : ByteArray := prog_1_method_15_code
def yX7_now : MethodName := ⟨RX7, "now", "(I)I"⟩
abbrev cX7_ahead : ByteArray := prog_1_method_16_code
def yX7_ahead : MethodName := ⟨RX7, "ahead", "(II)I"⟩
abbrev cX7_count : ByteArray := prog_1_method_17_code
def yX7_count : MethodName := ⟨RX7, "count", "(I)I"⟩
abbrev cX7_isMachine : ByteArray := prog_1_method_18_code
def yX7_isMachine : MethodName := ⟨RX7, "isMachine", "(I)Z"⟩
abbrev cX7_isLoad : ByteArray := prog_1_method_19_code
def yX7_isLoad : MethodName := ⟨RX7, "isLoad", "(I)Z"⟩
abbrev cX7_bitOf : ByteArray := prog_1_method_20_code
def yX7_bitOf : MethodName := ⟨RX7, "bitOf", "(II)I"⟩
abbrev cX7_aboveBest : ByteArray := prog_1_method_21_code
def yX7_aboveBest : MethodName := ⟨RX7, "aboveBest", "(I)I"⟩
abbrev cX8_init : ByteArray := prog_10_method_1_code
def yX8_init : MethodName := ⟨RX8, "<init>", "()V"⟩
abbrev cX8_in : ByteArray := prog_10_method_2_code
def yX8_in : MethodName := ⟨RX8, "in", "(III)Z"⟩
abbrev cX8_beginRead : ByteArray := prog_10_method_3_code
def yX8_beginRead : MethodName := ⟨RX8, "beginRead", "()V"⟩
abbrev cX8_putMachine : ByteArray := prog_10_method_4_code
def yX8_putMachine : MethodName := ⟨RX8, "putMachine", "(IIIIII)V"⟩
abbrev cX8_takeRead : ByteArray := prog_10_method_5_code
def yX8_takeRead : MethodName := ⟨RX8, "takeRead", "()V"⟩
abbrev cX8_isFigure : ByteArray := prog_10_method_6_code
def yX8_isFigure : MethodName := ⟨RX8, "isFigure", "()Z"⟩
abbrev cX8_readNumbers : ByteArray := prog_10_method_7_code
def yX8_readNumbers : MethodName := ⟨RX8, "readNumbers", "(I)Z"⟩
abbrev cX8_isNumber : ByteArray := prog_10_method_8_code
def yX8_isNumber : MethodName := ⟨RX8, "isNumber", "(III)Z"⟩
abbrev cX8_readMachine : ByteArray := prog_10_method_9_code
def yX8_readMachine : MethodName := ⟨RX8, "readMachine", "()Z"⟩
abbrev cX8_readOther : ByteArray := prog_10_method_10_code
def yX8_readOther : MethodName := ⟨RX8, "readOther", "(I)Z"⟩
abbrev cX8_readText : ByteArray := prog_10_method_11_code
def yX8_readText : MethodName := ⟨RX8, "readText", "()I"⟩
abbrev cX8_write : ByteArray := prog_10_method_12_code
def yX8_write : MethodName := ⟨RX8, "write", "(I)I"⟩
abbrev cX8_wipe : ByteArray := prog_10_method_13_code
def yX8_wipe : MethodName := ⟨RX8, "wipe", "()I"⟩
abbrev cX8_fault : ByteArray := prog_10_method_14_code
def yX8_fault : MethodName := ⟨RX8, "fault", "()I"⟩
abbrev cX8_lay : ByteArray := prog_10_method_15_code
def yX8_lay : MethodName := ⟨RX8, "lay", "()I"⟩
abbrev cX8_leastOf : ByteArray := prog_10_method_16_code
def yX8_leastOf : MethodName := ⟨RX8, "leastOf", "(I)I"⟩
abbrev cX8_mostOf : ByteArray := prog_10_method_17_code
def yX8_mostOf : MethodName := ⟨RX8, "mostOf", "(I)I"⟩
abbrev cX8_powerOf : ByteArray := prog_10_method_18_code
def yX8_powerOf : MethodName := ⟨RX8, "powerOf", "(III)I"⟩
abbrev cX8_lift : ByteArray := prog_10_method_19_code
def yX8_lift : MethodName := ⟨RX8, "lift", "()I"⟩
abbrev cX8_has : ByteArray := prog_10_method_20_code
def yX8_has : MethodName := ⟨RX8, "has", "(II)Z"⟩
abbrev cX8_sumOf : ByteArray := prog_10_method_21_code
def yX8_sumOf : MethodName := ⟨RX8, "sumOf", "(II)I"⟩
abbrev cX8_can : ByteArray := prog_10_method_22_code
def yX8_can : MethodName := ⟨RX8, "can", "(II)Z"⟩
abbrev cX8_lowest : ByteArray := prog_10_method_23_code
def yX8_lowest : MethodName := ⟨RX8, "lowest", "(I)I"⟩
abbrev cX8_leastBy : ByteArray := prog_10_method_24_code
def yX8_leastBy : MethodName := ⟨RX8, "leastBy", "(IIII)I"⟩
abbrev cX8_layTable : ByteArray := prog_10_method_25_code
def yX8_layTable : MethodName := ⟨RX8, "layTable", "()V"⟩
abbrev cX8_leastPower : ByteArray := prog_10_method_26_code
def yX8_leastPower : MethodName := ⟨RX8, "leastPower", "(II)I"⟩
abbrev cX8_layShare : ByteArray := prog_10_method_27_code
def yX8_layShare : MethodName := ⟨RX8, "layShare", "(II)V"⟩
abbrev cX8_lockedOnes : ByteArray := prog_10_method_28_code
def yX8_lockedOnes : MethodName := ⟨RX8, "lockedOnes", "()I"⟩
abbrev cX8_ones : ByteArray := prog_10_method_29_code
def yX8_ones : MethodName := ⟨RX8, "ones", "(I)I"⟩
abbrev cX8_findBest : ByteArray := prog_10_method_30_code
def yX8_findBest : MethodName := ⟨RX8, "findBest", "(I)I"⟩
abbrev cX8_own : ByteArray := prog_10_method_31_code
def yX8_own : MethodName := ⟨RX8, "own", "(II)I"⟩
abbrev cX8_standing : ByteArray := prog_10_method_32_code
def yX8_standing : MethodName := ⟨RX8, "standing", "(I)I"⟩
abbrev cX8_made : ByteArray := prog_10_method_33_code
def yX8_made : MethodName := ⟨RX8, "made", "()I"⟩
abbrev cX8_powerNow : ByteArray := prog_10_method_34_code
def yX8_powerNow : MethodName := ⟨RX8, "powerNow", "()I"⟩
abbrev cX8_isGapOver : ByteArray := prog_10_method_35_code
def yX8_isGapOver : MethodName := ⟨RX8, "isGapOver", "(I)Z"⟩
abbrev cX8_mayStart : ByteArray := prog_10_method_36_code
def yX8_mayStart : MethodName := ⟨RX8, "mayStart", "(II)Z"⟩
abbrev cX8_start : ByteArray := prog_10_method_37_code
def yX8_start : MethodName := ⟨RX8, "start", "(II)V"⟩
abbrev cX8_stop : ByteArray := prog_10_method_38_code
def yX8_stop : MethodName := ⟨RX8, "stop", "(II)V"⟩
abbrev cX8_starter : ByteArray := prog_10_method_39_code
def yX8_starter : MethodName := ⟨RX8, "starter", "(I)I"⟩
abbrev cX8_stopper : ByteArray := prog_10_method_40_code
def yX8_stopper : MethodName := ⟨RX8, "stopper", "(I)I"⟩
abbrev cX8_unlist : ByteArray := prog_10_method_41_code
def yX8_unlist : MethodName := ⟨RX8, "unlist", "(I)V"⟩
abbrev cX8_tickOnce : ByteArray := prog_10_method_42_code
def yX8_tickOnce : MethodName := ⟨RX8, "tickOnce", "()V"⟩
abbrev cX8_note : ByteArray := prog_10_method_43_code
def yX8_note : MethodName := ⟨RX8, "note", "()V"⟩
abbrev cX8_undo : ByteArray := prog_10_method_44_code
def yX8_undo : MethodName := ⟨RX8, "undo", "()I"⟩
abbrev cX8_tell : ByteArray := prog_10_method_45_code
def yX8_tell : MethodName := ⟨RX8, "tell", "(II)I"⟩
abbrev cX8_isMachine : ByteArray := prog_10_method_46_code
def yX8_isMachine : MethodName := ⟨RX8, "isMachine", "(I)Z"⟩
abbrev cX8_lock : ByteArray := prog_10_method_47_code
def yX8_lock : MethodName := ⟨RX8, "lock", "(II)I"⟩
abbrev cX8_dip : ByteArray := prog_10_method_48_code
def yX8_dip : MethodName := ⟨RX8, "dip", "()I"⟩
abbrev cX8_tick : ByteArray := prog_10_method_49_code
def yX8_tick : MethodName := ⟨RX8, "tick", "(I)I"⟩
abbrev cX8_placeInList : ByteArray := prog_10_method_50_code
def yX8_placeInList : MethodName := ⟨RX8, "placeInList", "(I)I"⟩
abbrev cX8_machine : ByteArray := prog_10_method_51_code
def yX8_machine : MethodName := ⟨RX8, "machine", "(II)I"⟩
abbrev cX8_power : ByteArray := prog_10_method_52_code
def yX8_power : MethodName := ⟨RX8, "power", "(III)I"⟩
abbrev cX8_share : ByteArray := prog_10_method_53_code
def yX8_share : MethodName := ⟨RX8, "share", "(III)I"⟩
abbrev cX8_best : ByteArray := prog_10_method_54_code
def yX8_best : MethodName := ⟨RX8, "best", "(II)I"⟩
abbrev cX8_more : ByteArray := prog_10_method_55_code
def yX8_more : MethodName := ⟨RX8, "more", "()I"⟩
abbrev cX8_now : ByteArray := prog_10_method_56_code
def yX8_now : MethodName := ⟨RX8, "now", "(I)I"⟩
abbrev cX8_ahead : ByteArray := prog_10_method_57_code
def yX8_ahead : MethodName := ⟨RX8, "ahead", "(II)I"⟩
abbrev cX8_count : ByteArray := prog_10_method_58_code
def yX8_count : MethodName := ⟨RX8, "count", "(I)I"⟩
abbrev cJ6_bitCount_0f7a4 : ByteArray := prog_11_method_49_code
def yJ6_bitCount_0f7a4 : MethodName := ⟨RJ6, "bitCount", "(I)I"⟩
abbrev cJ9_floorMod_7cf53 : ByteArray := prog_12_method_50_code
def yJ9_floorMod_7cf53 : MethodName := ⟨RJ9, "floorMod", "(II)I"⟩
abbrev cJ7_fill_53178 : ByteArray := prog_17_method_103_code
def yJ7_fill_53178 : MethodName := ⟨RJ7, "fill", "([II)V"⟩
abbrev cJ0_length_8abf5 : ByteArray := prog_13_method_54_code
def yJ0_length_8abf5 : MethodName := ⟨RJ0, "length", "()I"⟩
abbrev cJ0_charAt_5068e : ByteArray := prog_13_method_56_code
def yJ0_charAt_5068e : MethodName := ⟨RJ0, "charAt", "(I)C"⟩
abbrev cJ0_coder_7d493 : ByteArray := prog_13_method_152_code
def yJ0_coder_7d493 : MethodName := ⟨RJ0, "coder", "()B"⟩
abbrev cJ0_isLatin1_aae02 : ByteArray := prog_13_method_154_code
def yJ0_isLatin1_aae02 : MethodName := ⟨RJ0, "isLatin1", "()Z"⟩
abbrev cJ0_checkIndex_df160 : ByteArray := prog_13_method_155_code
def yJ0_checkIndex_df160 : MethodName := ⟨RJ0, "checkIndex", "(II)V"⟩
abbrev cJ1_charAt_3b067 : ByteArray := prog_14_method_2_code
def yJ1_charAt_3b067 : MethodName := ⟨RJ1, "charAt", "([BI)C"⟩
abbrev cJ3_checkIndex_8e157 : ByteArray := prog_18_method_11_code
def yJ3_checkIndex_8e157 : MethodName := ⟨RJ3, "checkIndex", "(IILjava/util/function/BiFunction;)I"⟩
abbrev classes : List vw_C := [(RX0, TX0, 6), (RX1, TX1, 3), (RX2, TX2, 14), (RX3, TX3, 3), (RX4, TX4, 9), (RX5, TX5, 2), (RX6, TX6, 15), (RX7, TX7, 8), (RX8, TX8, 15)]
/-- the words that stay true wherever a call leads -/
def gw : List Cond := lw_tbl.filter goodWord
theorem gw_of {w : Cond} {i : Nat} (h : lw_tbl[i]? = some w) (hg : goodWord w = true) : w ∈ gw := List.mem_filter.mpr ⟨List.mem_of_getElem? h, hg⟩
theorem gw_good {w : Cond} (h : w ∈ gw) : (w.onTables && w.keeps) = true ∨ ∃ ty, w = .arrayClass ty := good_of_word (List.mem_filter.mp h).2
theorem gw_tbl {w : Cond} (h : w ∈ gw) : w ∈ lw_tbl := (List.mem_filter.mp h).1
def isNest : Cond → Bool
  | .fieldLinkNest .. => true
  | .methodLinkNest .. => true
  | _ => false
def nw : List Cond := lw_tbl.filter isNest
theorem nw_of {w : Cond} {i : Nat} (h : lw_tbl[i]? = some w) (hg : isNest w = true) : w ∈ nw := List.mem_filter.mpr ⟨List.mem_of_getElem? h, hg⟩
theorem nw_tbl {w : Cond} (h : w ∈ nw) : w ∈ lw_tbl := (List.mem_filter.mp h).1
theorem ly_X0_0 : u_lay RX0 TX0 0 ∈ gw := gw_of (i := 347) (by decide +kernel) (by decide +kernel)
theorem ly_X0_1 : u_lay RX0 TX0 1 ∈ gw := gw_of (i := 349) (by decide +kernel) (by decide +kernel)
theorem ly_X0_2 : u_lay RX0 TX0 2 ∈ gw := gw_of (i := 351) (by decide +kernel) (by decide +kernel)
theorem ly_X0_3 : u_lay RX0 TX0 3 ∈ gw := gw_of (i := 353) (by decide +kernel) (by decide +kernel)
theorem ly_X0_4 : u_lay RX0 TX0 4 ∈ gw := gw_of (i := 355) (by decide +kernel) (by decide +kernel)
theorem ly_X0_5 : u_lay RX0 TX0 5 ∈ gw := gw_of (i := 357) (by decide +kernel) (by decide +kernel)
theorem in_X0 : ∀ w ∈ u_ws RX0 TX0 6, w ∈ gw := by
  intro w hw
  obtain ⟨k, hk, rfl⟩ := List.mem_map.mp hw
  have hk := List.mem_range.mp hk
  match k, hk with
  | 0, _ => exact ly_X0_0
  | 1, _ => exact ly_X0_1
  | 2, _ => exact ly_X0_2
  | 3, _ => exact ly_X0_3
  | 4, _ => exact ly_X0_4
  | 5, _ => exact ly_X0_5
  | k + 6, hk => exact absurd hk (by omega)
theorem ly_X1_0 : u_lay RX1 TX1 0 ∈ gw := gw_of (i := 277) (by decide +kernel) (by decide +kernel)
theorem ly_X1_1 : u_lay RX1 TX1 1 ∈ gw := gw_of (i := 279) (by decide +kernel) (by decide +kernel)
theorem ly_X1_2 : u_lay RX1 TX1 2 ∈ gw := gw_of (i := 281) (by decide +kernel) (by decide +kernel)
theorem in_X1 : ∀ w ∈ u_ws RX1 TX1 3, w ∈ gw := by
  intro w hw
  obtain ⟨k, hk, rfl⟩ := List.mem_map.mp hw
  have hk := List.mem_range.mp hk
  match k, hk with
  | 0, _ => exact ly_X1_0
  | 1, _ => exact ly_X1_1
  | 2, _ => exact ly_X1_2
  | k + 3, hk => exact absurd hk (by omega)
theorem ly_X2_0 : u_lay RX2 TX2 0 ∈ gw := gw_of (i := 148) (by decide +kernel) (by decide +kernel)
theorem ly_X2_1 : u_lay RX2 TX2 1 ∈ gw := gw_of (i := 150) (by decide +kernel) (by decide +kernel)
theorem ly_X2_2 : u_lay RX2 TX2 2 ∈ gw := gw_of (i := 152) (by decide +kernel) (by decide +kernel)
theorem ly_X2_3 : u_lay RX2 TX2 3 ∈ gw := gw_of (i := 154) (by decide +kernel) (by decide +kernel)
theorem ly_X2_4 : u_lay RX2 TX2 4 ∈ gw := gw_of (i := 156) (by decide +kernel) (by decide +kernel)
theorem ly_X2_5 : u_lay RX2 TX2 5 ∈ gw := gw_of (i := 158) (by decide +kernel) (by decide +kernel)
theorem ly_X2_6 : u_lay RX2 TX2 6 ∈ gw := gw_of (i := 160) (by decide +kernel) (by decide +kernel)
theorem ly_X2_7 : u_lay RX2 TX2 7 ∈ gw := gw_of (i := 162) (by decide +kernel) (by decide +kernel)
theorem ly_X2_8 : u_lay RX2 TX2 8 ∈ gw := gw_of (i := 164) (by decide +kernel) (by decide +kernel)
theorem ly_X2_9 : u_lay RX2 TX2 9 ∈ gw := gw_of (i := 166) (by decide +kernel) (by decide +kernel)
theorem ly_X2_10 : u_lay RX2 TX2 10 ∈ gw := gw_of (i := 168) (by decide +kernel) (by decide +kernel)
theorem ly_X2_11 : u_lay RX2 TX2 11 ∈ gw := gw_of (i := 170) (by decide +kernel) (by decide +kernel)
theorem ly_X2_12 : u_lay RX2 TX2 12 ∈ gw := gw_of (i := 172) (by decide +kernel) (by decide +kernel)
theorem ly_X2_13 : u_lay RX2 TX2 13 ∈ gw := gw_of (i := 174) (by decide +kernel) (by decide +kernel)
theorem in_X2 : ∀ w ∈ u_ws RX2 TX2 14, w ∈ gw := by
  intro w hw
  obtain ⟨k, hk, rfl⟩ := List.mem_map.mp hw
  have hk := List.mem_range.mp hk
  match k, hk with
  | 0, _ => exact ly_X2_0
  | 1, _ => exact ly_X2_1
  | 2, _ => exact ly_X2_2
  | 3, _ => exact ly_X2_3
  | 4, _ => exact ly_X2_4
  | 5, _ => exact ly_X2_5
  | 6, _ => exact ly_X2_6
  | 7, _ => exact ly_X2_7
  | 8, _ => exact ly_X2_8
  | 9, _ => exact ly_X2_9
  | 10, _ => exact ly_X2_10
  | 11, _ => exact ly_X2_11
  | 12, _ => exact ly_X2_12
  | 13, _ => exact ly_X2_13
  | k + 14, hk => exact absurd hk (by omega)
theorem ly_X3_0 : u_lay RX3 TX3 0 ∈ gw := gw_of (i := 97) (by decide +kernel) (by decide +kernel)
theorem ly_X3_1 : u_lay RX3 TX3 1 ∈ gw := gw_of (i := 99) (by decide +kernel) (by decide +kernel)
theorem ly_X3_2 : u_lay RX3 TX3 2 ∈ gw := gw_of (i := 101) (by decide +kernel) (by decide +kernel)
theorem in_X3 : ∀ w ∈ u_ws RX3 TX3 3, w ∈ gw := by
  intro w hw
  obtain ⟨k, hk, rfl⟩ := List.mem_map.mp hw
  have hk := List.mem_range.mp hk
  match k, hk with
  | 0, _ => exact ly_X3_0
  | 1, _ => exact ly_X3_1
  | 2, _ => exact ly_X3_2
  | k + 3, hk => exact absurd hk (by omega)
theorem ly_X4_0 : u_lay RX4 TX4 0 ∈ gw := gw_of (i := 305) (by decide +kernel) (by decide +kernel)
theorem ly_X4_1 : u_lay RX4 TX4 1 ∈ gw := gw_of (i := 307) (by decide +kernel) (by decide +kernel)
theorem ly_X4_2 : u_lay RX4 TX4 2 ∈ gw := gw_of (i := 309) (by decide +kernel) (by decide +kernel)
theorem ly_X4_3 : u_lay RX4 TX4 3 ∈ gw := gw_of (i := 311) (by decide +kernel) (by decide +kernel)
theorem ly_X4_4 : u_lay RX4 TX4 4 ∈ gw := gw_of (i := 313) (by decide +kernel) (by decide +kernel)
theorem ly_X4_5 : u_lay RX4 TX4 5 ∈ gw := gw_of (i := 315) (by decide +kernel) (by decide +kernel)
theorem ly_X4_6 : u_lay RX4 TX4 6 ∈ gw := gw_of (i := 317) (by decide +kernel) (by decide +kernel)
theorem ly_X4_7 : u_lay RX4 TX4 7 ∈ gw := gw_of (i := 319) (by decide +kernel) (by decide +kernel)
theorem ly_X4_8 : u_lay RX4 TX4 8 ∈ gw := gw_of (i := 321) (by decide +kernel) (by decide +kernel)
theorem in_X4 : ∀ w ∈ u_ws RX4 TX4 9, w ∈ gw := by
  intro w hw
  obtain ⟨k, hk, rfl⟩ := List.mem_map.mp hw
  have hk := List.mem_range.mp hk
  match k, hk with
  | 0, _ => exact ly_X4_0
  | 1, _ => exact ly_X4_1
  | 2, _ => exact ly_X4_2
  | 3, _ => exact ly_X4_3
  | 4, _ => exact ly_X4_4
  | 5, _ => exact ly_X4_5
  | 6, _ => exact ly_X4_6
  | 7, _ => exact ly_X4_7
  | 8, _ => exact ly_X4_8
  | k + 9, hk => exact absurd hk (by omega)
theorem ly_X5_0 : u_lay RX5 TX5 0 ∈ gw := gw_of (i := 328) (by decide +kernel) (by decide +kernel)
theorem ly_X5_1 : u_lay RX5 TX5 1 ∈ gw := gw_of (i := 330) (by decide +kernel) (by decide +kernel)
theorem in_X5 : ∀ w ∈ u_ws RX5 TX5 2, w ∈ gw := by
  intro w hw
  obtain ⟨k, hk, rfl⟩ := List.mem_map.mp hw
  have hk := List.mem_range.mp hk
  match k, hk with
  | 0, _ => exact ly_X5_0
  | 1, _ => exact ly_X5_1
  | k + 2, hk => exact absurd hk (by omega)
theorem ly_X6_0 : u_lay RX6 TX6 0 ∈ gw := gw_of (i := 233) (by decide +kernel) (by decide +kernel)
theorem ly_X6_1 : u_lay RX6 TX6 1 ∈ gw := gw_of (i := 235) (by decide +kernel) (by decide +kernel)
theorem ly_X6_2 : u_lay RX6 TX6 2 ∈ gw := gw_of (i := 237) (by decide +kernel) (by decide +kernel)
theorem ly_X6_3 : u_lay RX6 TX6 3 ∈ gw := gw_of (i := 239) (by decide +kernel) (by decide +kernel)
theorem ly_X6_4 : u_lay RX6 TX6 4 ∈ gw := gw_of (i := 241) (by decide +kernel) (by decide +kernel)
theorem ly_X6_5 : u_lay RX6 TX6 5 ∈ gw := gw_of (i := 243) (by decide +kernel) (by decide +kernel)
theorem ly_X6_6 : u_lay RX6 TX6 6 ∈ gw := gw_of (i := 245) (by decide +kernel) (by decide +kernel)
theorem ly_X6_7 : u_lay RX6 TX6 7 ∈ gw := gw_of (i := 247) (by decide +kernel) (by decide +kernel)
theorem ly_X6_8 : u_lay RX6 TX6 8 ∈ gw := gw_of (i := 249) (by decide +kernel) (by decide +kernel)
theorem ly_X6_9 : u_lay RX6 TX6 9 ∈ gw := gw_of (i := 251) (by decide +kernel) (by decide +kernel)
theorem ly_X6_10 : u_lay RX6 TX6 10 ∈ gw := gw_of (i := 253) (by decide +kernel) (by decide +kernel)
theorem ly_X6_11 : u_lay RX6 TX6 11 ∈ gw := gw_of (i := 255) (by decide +kernel) (by decide +kernel)
theorem ly_X6_12 : u_lay RX6 TX6 12 ∈ gw := gw_of (i := 257) (by decide +kernel) (by decide +kernel)
theorem ly_X6_13 : u_lay RX6 TX6 13 ∈ gw := gw_of (i := 259) (by decide +kernel) (by decide +kernel)
theorem ly_X6_14 : u_lay RX6 TX6 14 ∈ gw := gw_of (i := 261) (by decide +kernel) (by decide +kernel)
theorem in_X6 : ∀ w ∈ u_ws RX6 TX6 15, w ∈ gw := by
  intro w hw
  obtain ⟨k, hk, rfl⟩ := List.mem_map.mp hw
  have hk := List.mem_range.mp hk
  match k, hk with
  | 0, _ => exact ly_X6_0
  | 1, _ => exact ly_X6_1
  | 2, _ => exact ly_X6_2
  | 3, _ => exact ly_X6_3
  | 4, _ => exact ly_X6_4
  | 5, _ => exact ly_X6_5
  | 6, _ => exact ly_X6_6
  | 7, _ => exact ly_X6_7
  | 8, _ => exact ly_X6_8
  | 9, _ => exact ly_X6_9
  | 10, _ => exact ly_X6_10
  | 11, _ => exact ly_X6_11
  | 12, _ => exact ly_X6_12
  | 13, _ => exact ly_X6_13
  | 14, _ => exact ly_X6_14
  | k + 15, hk => exact absurd hk (by omega)
theorem ly_X7_0 : u_lay RX7 TX7 0 ∈ gw := gw_of (i := 471) (by decide +kernel) (by decide +kernel)
theorem ly_X7_1 : u_lay RX7 TX7 1 ∈ gw := gw_of (i := 473) (by decide +kernel) (by decide +kernel)
theorem ly_X7_2 : u_lay RX7 TX7 2 ∈ gw := gw_of (i := 475) (by decide +kernel) (by decide +kernel)
theorem ly_X7_3 : u_lay RX7 TX7 3 ∈ gw := gw_of (i := 477) (by decide +kernel) (by decide +kernel)
theorem ly_X7_4 : u_lay RX7 TX7 4 ∈ gw := gw_of (i := 479) (by decide +kernel) (by decide +kernel)
theorem ly_X7_5 : u_lay RX7 TX7 5 ∈ gw := gw_of (i := 481) (by decide +kernel) (by decide +kernel)
theorem ly_X7_6 : u_lay RX7 TX7 6 ∈ gw := gw_of (i := 483) (by decide +kernel) (by decide +kernel)
theorem ly_X7_7 : u_lay RX7 TX7 7 ∈ gw := gw_of (i := 485) (by decide +kernel) (by decide +kernel)
theorem in_X7 : ∀ w ∈ u_ws RX7 TX7 8, w ∈ gw := by
  intro w hw
  obtain ⟨k, hk, rfl⟩ := List.mem_map.mp hw
  have hk := List.mem_range.mp hk
  match k, hk with
  | 0, _ => exact ly_X7_0
  | 1, _ => exact ly_X7_1
  | 2, _ => exact ly_X7_2
  | 3, _ => exact ly_X7_3
  | 4, _ => exact ly_X7_4
  | 5, _ => exact ly_X7_5
  | 6, _ => exact ly_X7_6
  | 7, _ => exact ly_X7_7
  | k + 8, hk => exact absurd hk (by omega)
theorem ly_X8_0 : u_lay RX8 TX8 0 ∈ gw := gw_of (i := 873) (by decide +kernel) (by decide +kernel)
theorem ly_X8_1 : u_lay RX8 TX8 1 ∈ gw := gw_of (i := 875) (by decide +kernel) (by decide +kernel)
theorem ly_X8_2 : u_lay RX8 TX8 2 ∈ gw := gw_of (i := 877) (by decide +kernel) (by decide +kernel)
theorem ly_X8_3 : u_lay RX8 TX8 3 ∈ gw := gw_of (i := 879) (by decide +kernel) (by decide +kernel)
theorem ly_X8_4 : u_lay RX8 TX8 4 ∈ gw := gw_of (i := 881) (by decide +kernel) (by decide +kernel)
theorem ly_X8_5 : u_lay RX8 TX8 5 ∈ gw := gw_of (i := 883) (by decide +kernel) (by decide +kernel)
theorem ly_X8_6 : u_lay RX8 TX8 6 ∈ gw := gw_of (i := 885) (by decide +kernel) (by decide +kernel)
theorem ly_X8_7 : u_lay RX8 TX8 7 ∈ gw := gw_of (i := 887) (by decide +kernel) (by decide +kernel)
theorem ly_X8_8 : u_lay RX8 TX8 8 ∈ gw := gw_of (i := 889) (by decide +kernel) (by decide +kernel)
theorem ly_X8_9 : u_lay RX8 TX8 9 ∈ gw := gw_of (i := 891) (by decide +kernel) (by decide +kernel)
theorem ly_X8_10 : u_lay RX8 TX8 10 ∈ gw := gw_of (i := 893) (by decide +kernel) (by decide +kernel)
theorem ly_X8_11 : u_lay RX8 TX8 11 ∈ gw := gw_of (i := 895) (by decide +kernel) (by decide +kernel)
theorem ly_X8_12 : u_lay RX8 TX8 12 ∈ gw := gw_of (i := 897) (by decide +kernel) (by decide +kernel)
theorem ly_X8_13 : u_lay RX8 TX8 13 ∈ gw := gw_of (i := 899) (by decide +kernel) (by decide +kernel)
theorem ly_X8_14 : u_lay RX8 TX8 14 ∈ gw := gw_of (i := 901) (by decide +kernel) (by decide +kernel)
theorem in_X8 : ∀ w ∈ u_ws RX8 TX8 15, w ∈ gw := by
  intro w hw
  obtain ⟨k, hk, rfl⟩ := List.mem_map.mp hw
  have hk := List.mem_range.mp hk
  match k, hk with
  | 0, _ => exact ly_X8_0
  | 1, _ => exact ly_X8_1
  | 2, _ => exact ly_X8_2
  | 3, _ => exact ly_X8_3
  | 4, _ => exact ly_X8_4
  | 5, _ => exact ly_X8_5
  | 6, _ => exact ly_X8_6
  | 7, _ => exact ly_X8_7
  | 8, _ => exact ly_X8_8
  | 9, _ => exact ly_X8_9
  | 10, _ => exact ly_X8_10
  | 11, _ => exact ly_X8_11
  | 12, _ => exact ly_X8_12
  | 13, _ => exact ly_X8_13
  | 14, _ => exact ly_X8_14
  | k + 15, hk => exact absurd hk (by omega)
theorem fl_X7_10 : Cond.fieldLink RX7 10 "ColdHouse" "script" "LColdHouse$Script;" ∈ gw := gw_of (i := 463) (by decide +kernel) (by decide +kernel)
theorem fl_X7_19 : Cond.fieldLink RX7 19 "ColdHouse" "plant" "LColdHouse$Plant;" ∈ gw := gw_of (i := 464) (by decide +kernel) (by decide +kernel)
theorem fl_X7_26 : Cond.fieldLink RX7 26 "ColdHouse" "state" "LColdHouse$State;" ∈ gw := gw_of (i := 465) (by decide +kernel) (by decide +kernel)
theorem fl_X7_30 : Cond.fieldLink RX7 30 "ColdHouse" "trial" "LColdHouse$State;" ∈ gw := gw_of (i := 466) (by decide +kernel) (by decide +kernel)
theorem fl_X7_36 : Cond.fieldLink RX7 36 "ColdHouse" "past" "LColdHouse$Past;" ∈ gw := gw_of (i := 467) (by decide +kernel) (by decide +kernel)
theorem fl_X7_45 : Cond.fieldLink RX7 45 "ColdHouse" "staging" "LColdHouse$Staging;" ∈ gw := gw_of (i := 468) (by decide +kernel) (by decide +kernel)
theorem fl_X7_52 : Cond.fieldLink RX7 52 "ColdHouse" "asked" "LColdHouse$Sharing;" ∈ gw := gw_of (i := 469) (by decide +kernel) (by decide +kernel)
theorem fl_X7_59 : Cond.fieldLink RX7 59 "ColdHouse" "bestSets" "LColdHouse$BestSets;" ∈ gw := gw_of (i := 470) (by decide +kernel) (by decide +kernel)
theorem fl_X7_85 : Cond.fieldLink RX7 85 "ColdHouse$Script" "length" "I" ∈ gw := gw_of (i := 94) (by decide +kernel) (by decide +kernel)
theorem fl_X7_100 : Cond.fieldLink RX7 100 "ColdHouse$Staging" "sharing" "LColdHouse$Sharing;" ∈ gw := gw_of (i := 326) (by decide +kernel) (by decide +kernel)
theorem fl_X7_105 : Cond.fieldLink RX7 105 "ColdHouse$Plant" "machines" "I" ∈ gw := gw_of (i := 116) (by decide +kernel) (by decide +kernel)
theorem fl_X7_107 : Cond.fieldLink RX7 107 "ColdHouse" "TOLD_LEAST" "[I" ∈ gw := gw_of (i := 530) (by decide +kernel) (by decide +kernel)
theorem fl_X7_111 : Cond.fieldLink RX7 111 "ColdHouse" "TOLD_MOST" "[I" ∈ gw := gw_of (i := 532) (by decide +kernel) (by decide +kernel)
theorem fl_X7_114 : Cond.fieldLink RX7 114 "ColdHouse$State" "told" "[I" ∈ gw := gw_of (i := 198) (by decide +kernel) (by decide +kernel)
theorem fl_X7_125 : Cond.fieldLink RX7 125 "ColdHouse$State" "locked" "I" ∈ gw := gw_of (i := 212) (by decide +kernel) (by decide +kernel)
theorem fl_X7_147 : Cond.fieldLink RX7 147 "ColdHouse$State" "ticks" "I" ∈ gw := gw_of (i := 201) (by decide +kernel) (by decide +kernel)
theorem fl_X7_160 : Cond.fieldLink RX7 160 "ColdHouse$Past" "held" "I" ∈ gw := gw_of (i := 274) (by decide +kernel) (by decide +kernel)
theorem fl_X7_163 : Cond.fieldLink RX7 163 "ColdHouse$Plant" "least" "[I" ∈ gw := gw_of (i := 120) (by decide +kernel) (by decide +kernel)
theorem fl_X7_166 : Cond.fieldLink RX7 166 "ColdHouse$Plant" "most" "[I" ∈ gw := gw_of (i := 124) (by decide +kernel) (by decide +kernel)
theorem fl_X7_169 : Cond.fieldLink RX7 169 "ColdHouse$Plant" "base" "[I" ∈ gw := gw_of (i := 127) (by decide +kernel) (by decide +kernel)
theorem fl_X7_172 : Cond.fieldLink RX7 172 "ColdHouse$Plant" "slope" "[I" ∈ gw := gw_of (i := 129) (by decide +kernel) (by decide +kernel)
theorem fl_X7_175 : Cond.fieldLink RX7 175 "ColdHouse$Plant" "curve" "[I" ∈ gw := gw_of (i := 131) (by decide +kernel) (by decide +kernel)
theorem fl_X7_178 : Cond.fieldLink RX7 178 "ColdHouse$Plant" "flow" "[I" ∈ gw := gw_of (i := 133) (by decide +kernel) (by decide +kernel)
theorem fl_X7_181 : Cond.fieldLink RX7 181 "ColdHouse$State" "starting" "I" ∈ gw := gw_of (i := 216) (by decide +kernel) (by decide +kernel)
theorem fl_X7_188 : Cond.fieldLink RX7 188 "ColdHouse$State" "on" "I" ∈ gw := gw_of (i := 219) (by decide +kernel) (by decide +kernel)
theorem fl_X7_191 : Cond.fieldLink RX7 191 "ColdHouse$State" "hours" "[I" ∈ gw := gw_of (i := 228) (by decide +kernel) (by decide +kernel)
theorem fl_X7_194 : Cond.fieldLink RX7 194 "ColdHouse$State" "starts" "[I" ∈ gw := gw_of (i := 230) (by decide +kernel) (by decide +kernel)
theorem fl_X7_264 : Cond.fieldLink RX7 264 "ColdHouse$State" "energy" "I" ∈ gw := gw_of (i := 210) (by decide +kernel) (by decide +kernel)
theorem fl_X7_267 : Cond.fieldLink RX7 267 "ColdHouse$State" "listed" "I" ∈ gw := gw_of (i := 224) (by decide +kernel) (by decide +kernel)
theorem fl_X7_270 : Cond.fieldLink RX7 270 "ColdHouse$State" "ups" "I" ∈ gw := gw_of (i := 204) (by decide +kernel) (by decide +kernel)
theorem fl_X7_273 : Cond.fieldLink RX7 273 "ColdHouse$State" "downs" "I" ∈ gw := gw_of (i := 207) (by decide +kernel) (by decide +kernel)
theorem fl_X0_11 : Cond.fieldLink RX0 11 "ColdHouse$BestSets" "leastFor" "[I" ∈ gw := gw_of (i := 342) (by decide +kernel) (by decide +kernel)
theorem fl_X0_15 : Cond.fieldLink RX0 15 "ColdHouse$BestSets" "row" "[I" ∈ gw := gw_of (i := 343) (by decide +kernel) (by decide +kernel)
theorem fl_X0_18 : Cond.fieldLink RX0 18 "ColdHouse$BestSets" "plant" "LColdHouse$Plant;" ∈ gw := gw_of (i := 341) (by decide +kernel) (by decide +kernel)
theorem fl_X0_22 : Cond.fieldLink RX0 22 "ColdHouse$BestSets" "known" "Z" ∈ gw := gw_of (i := 344) (by decide +kernel) (by decide +kernel)
theorem fl_X0_26 : Cond.fieldLink RX0 26 "ColdHouse$BestSets" "open" "I" ∈ gw := gw_of (i := 345) (by decide +kernel) (by decide +kernel)
theorem fl_X0_30 : Cond.fieldLink RX0 30 "ColdHouse$BestSets" "lift" "I" ∈ gw := gw_of (i := 346) (by decide +kernel) (by decide +kernel)
theorem fl_X0_40 : Cond.fieldLink RX0 40 "ColdHouse$Plant" "machines" "I" ∈ gw := gw_of (i := 113) (by decide +kernel) (by decide +kernel)
theorem fl_X0_65 : Cond.fieldLink RX0 65 "ColdHouse$Plant" "least" "[I" ∈ gw := gw_of (i := 119) (by decide +kernel) (by decide +kernel)
theorem fl_X0_71 : Cond.fieldLink RX0 71 "ColdHouse$Plant" "most" "[I" ∈ gw := gw_of (i := 123) (by decide +kernel) (by decide +kernel)
theorem fl_X1_11 : Cond.fieldLink RX1 11 "ColdHouse$Past" "states" "[LColdHouse$State;" ∈ gw := gw_of (i := 276) (by decide +kernel) (by decide +kernel)
theorem fl_X1_18 : Cond.fieldLink RX1 18 "ColdHouse$Past" "held" "I" ∈ gw := gw_of (i := 273) (by decide +kernel) (by decide +kernel)
theorem fl_X1_22 : Cond.fieldLink RX1 22 "ColdHouse$Past" "next" "I" ∈ gw := gw_of (i := 275) (by decide +kernel) (by decide +kernel)
theorem fl_X2_9 : Cond.fieldLink RX2 9 "ColdHouse$Plant" "least" "[I" ∈ gw := gw_of (i := 117) (by decide +kernel) (by decide +kernel)
theorem fl_X2_15 : Cond.fieldLink RX2 15 "ColdHouse$Plant" "most" "[I" ∈ gw := gw_of (i := 121) (by decide +kernel) (by decide +kernel)
theorem fl_X2_18 : Cond.fieldLink RX2 18 "ColdHouse$Plant" "base" "[I" ∈ gw := gw_of (i := 126) (by decide +kernel) (by decide +kernel)
theorem fl_X2_21 : Cond.fieldLink RX2 21 "ColdHouse$Plant" "slope" "[I" ∈ gw := gw_of (i := 128) (by decide +kernel) (by decide +kernel)
theorem fl_X2_24 : Cond.fieldLink RX2 24 "ColdHouse$Plant" "curve" "[I" ∈ gw := gw_of (i := 130) (by decide +kernel) (by decide +kernel)
theorem fl_X2_27 : Cond.fieldLink RX2 27 "ColdHouse$Plant" "flow" "[I" ∈ gw := gw_of (i := 132) (by decide +kernel) (by decide +kernel)
theorem fl_X2_30 : Cond.fieldLink RX2 30 "ColdHouse$Plant" "machines" "I" ∈ gw := gw_of (i := 112) (by decide +kernel) (by decide +kernel)
theorem fl_X2_34 : Cond.fieldLink RX2 34 "ColdHouse$Plant" "run" "I" ∈ gw := gw_of (i := 134) (by decide +kernel) (by decide +kernel)
theorem fl_X2_37 : Cond.fieldLink RX2 37 "ColdHouse$Plant" "rest" "I" ∈ gw := gw_of (i := 136) (by decide +kernel) (by decide +kernel)
theorem fl_X2_40 : Cond.fieldLink RX2 40 "ColdHouse$Plant" "startsAllowed" "I" ∈ gw := gw_of (i := 138) (by decide +kernel) (by decide +kernel)
theorem fl_X2_43 : Cond.fieldLink RX2 43 "ColdHouse$Plant" "gap" "I" ∈ gw := gw_of (i := 140) (by decide +kernel) (by decide +kernel)
theorem fl_X2_46 : Cond.fieldLink RX2 46 "ColdHouse$Plant" "up" "I" ∈ gw := gw_of (i := 142) (by decide +kernel) (by decide +kernel)
theorem fl_X2_49 : Cond.fieldLink RX2 49 "ColdHouse$Plant" "down" "I" ∈ gw := gw_of (i := 144) (by decide +kernel) (by decide +kernel)
theorem fl_X2_52 : Cond.fieldLink RX2 52 "ColdHouse$Plant" "patience" "I" ∈ gw := gw_of (i := 146) (by decide +kernel) (by decide +kernel)
theorem fn_X2_55 : Cond.fieldLinkNest RX2 55 "ColdHouse" "MACHINE_MOST" "[I" "ColdHouse" ∈ nw := nw_of (i := 454) (by decide +kernel) (by decide +kernel)
theorem fl_X3_9 : Cond.fieldLink RX3 9 "ColdHouse$Script" "letters" "[C" ∈ gw := gw_of (i := 95) (by decide +kernel) (by decide +kernel)
theorem fn_X3_15 : Cond.fieldLinkNest RX3 15 "ColdHouse" "MACHINE_MOST" "[I" "ColdHouse" ∈ nw := nw_of (i := 91) (by decide +kernel) (by decide +kernel)
theorem fl_X3_19 : Cond.fieldLink RX3 19 "ColdHouse$Script" "numbers" "[I" ∈ gw := gw_of (i := 96) (by decide +kernel) (by decide +kernel)
theorem fl_X3_22 : Cond.fieldLink RX3 22 "ColdHouse$Script" "length" "I" ∈ gw := gw_of (i := 93) (by decide +kernel) (by decide +kernel)
theorem fn_X3_43 : Cond.fieldLinkNest RX3 43 "ColdHouse" "MACHINE_LEAST" "[I" "ColdHouse" ∈ nw := nw_of (i := 429) (by decide +kernel) (by decide +kernel)
theorem fn_X3_50 : Cond.fieldLinkNest RX3 50 "ColdHouse" "RUN_LEAST" "[I" "ColdHouse" ∈ nw := nw_of (i := 442) (by decide +kernel) (by decide +kernel)
theorem fn_X3_53 : Cond.fieldLinkNest RX3 53 "ColdHouse" "RUN_MOST" "[I" "ColdHouse" ∈ nw := nw_of (i := 444) (by decide +kernel) (by decide +kernel)
theorem fn_X3_56 : Cond.fieldLinkNest RX3 56 "ColdHouse" "STAGE_LEAST" "[I" "ColdHouse" ∈ nw := nw_of (i := 446) (by decide +kernel) (by decide +kernel)
theorem fn_X3_59 : Cond.fieldLinkNest RX3 59 "ColdHouse" "STAGE_MOST" "[I" "ColdHouse" ∈ nw := nw_of (i := 448) (by decide +kernel) (by decide +kernel)
theorem fl_X4_11 : Cond.fieldLink RX4 11 "ColdHouse$Sharing" "leastFor" "[J" ∈ gw := gw_of (i := 297) (by decide +kernel) (by decide +kernel)
theorem fl_X4_15 : Cond.fieldLink RX4 15 "ColdHouse$Sharing" "row" "[J" ∈ gw := gw_of (i := 298) (by decide +kernel) (by decide +kernel)
theorem fl_X4_18 : Cond.fieldLink RX4 18 "ColdHouse$Sharing" "plant" "LColdHouse$Plant;" ∈ gw := gw_of (i := 296) (by decide +kernel) (by decide +kernel)
theorem fl_X4_22 : Cond.fieldLink RX4 22 "ColdHouse$Sharing" "known" "Z" ∈ gw := gw_of (i := 299) (by decide +kernel) (by decide +kernel)
theorem fl_X4_26 : Cond.fieldLink RX4 26 "ColdHouse$Sharing" "set" "I" ∈ gw := gw_of (i := 300) (by decide +kernel) (by decide +kernel)
theorem fl_X4_30 : Cond.fieldLink RX4 30 "ColdHouse$Sharing" "load" "I" ∈ gw := gw_of (i := 301) (by decide +kernel) (by decide +kernel)
theorem fl_X4_33 : Cond.fieldLink RX4 33 "ColdHouse$Sharing" "lift" "I" ∈ gw := gw_of (i := 302) (by decide +kernel) (by decide +kernel)
theorem fl_X4_42 : Cond.fieldLink RX4 42 "ColdHouse$Sharing" "low" "I" ∈ gw := gw_of (i := 303) (by decide +kernel) (by decide +kernel)
theorem fl_X4_45 : Cond.fieldLink RX4 45 "ColdHouse$Sharing" "high" "I" ∈ gw := gw_of (i := 304) (by decide +kernel) (by decide +kernel)
theorem fl_X4_48 : Cond.fieldLink RX4 48 "ColdHouse$Plant" "machines" "I" ∈ gw := gw_of (i := 114) (by decide +kernel) (by decide +kernel)
theorem fl_X4_67 : Cond.fieldLink RX4 67 "ColdHouse$Plant" "least" "[I" ∈ gw := gw_of (i := 118) (by decide +kernel) (by decide +kernel)
theorem fl_X4_79 : Cond.fieldLink RX4 79 "ColdHouse$Plant" "most" "[I" ∈ gw := gw_of (i := 122) (by decide +kernel) (by decide +kernel)
theorem fl_X5_9 : Cond.fieldLink RX5 9 "ColdHouse$Staging" "plant" "LColdHouse$Plant;" ∈ gw := gw_of (i := 327) (by decide +kernel) (by decide +kernel)
theorem fl_X5_20 : Cond.fieldLink RX5 20 "ColdHouse$Staging" "sharing" "LColdHouse$Sharing;" ∈ gw := gw_of (i := 325) (by decide +kernel) (by decide +kernel)
theorem fl_X5_24 : Cond.fieldLink RX5 24 "ColdHouse$State" "on" "I" ∈ gw := gw_of (i := 217) (by decide +kernel) (by decide +kernel)
theorem fl_X5_39 : Cond.fieldLink RX5 39 "ColdHouse$State" "told" "[I" ∈ gw := gw_of (i := 197) (by decide +kernel) (by decide +kernel)
theorem fl_X5_70 : Cond.fieldLink RX5 70 "ColdHouse$State" "energy" "I" ∈ gw := gw_of (i := 209) (by decide +kernel) (by decide +kernel)
theorem fl_X5_76 : Cond.fieldLink RX5 76 "ColdHouse$State" "ticks" "I" ∈ gw := gw_of (i := 200) (by decide +kernel) (by decide +kernel)
theorem fl_X5_79 : Cond.fieldLink RX5 79 "ColdHouse$Plant" "machines" "I" ∈ gw := gw_of (i := 115) (by decide +kernel) (by decide +kernel)
theorem fl_X5_82 : Cond.fieldLink RX5 82 "ColdHouse$State" "hours" "[I" ∈ gw := gw_of (i := 227) (by decide +kernel) (by decide +kernel)
theorem fl_X5_95 : Cond.fieldLink RX5 95 "ColdHouse$State" "listed" "I" ∈ gw := gw_of (i := 223) (by decide +kernel) (by decide +kernel)
theorem fl_X5_102 : Cond.fieldLink RX5 102 "ColdHouse$Plant" "up" "I" ∈ gw := gw_of (i := 143) (by decide +kernel) (by decide +kernel)
theorem fl_X5_111 : Cond.fieldLink RX5 111 "ColdHouse$State" "starting" "I" ∈ gw := gw_of (i := 215) (by decide +kernel) (by decide +kernel)
theorem fl_X5_131 : Cond.fieldLink RX5 131 "ColdHouse$State" "ups" "I" ∈ gw := gw_of (i := 203) (by decide +kernel) (by decide +kernel)
theorem fl_X5_134 : Cond.fieldLink RX5 134 "ColdHouse$State" "downs" "I" ∈ gw := gw_of (i := 206) (by decide +kernel) (by decide +kernel)
theorem fl_X5_137 : Cond.fieldLink RX5 137 "ColdHouse$Plant" "patience" "I" ∈ gw := gw_of (i := 147) (by decide +kernel) (by decide +kernel)
theorem fl_X5_146 : Cond.fieldLink RX5 146 "ColdHouse$Plant" "down" "I" ∈ gw := gw_of (i := 145) (by decide +kernel) (by decide +kernel)
theorem fl_X5_152 : Cond.fieldLink RX5 152 "ColdHouse$State" "lastStart" "I" ∈ gw := gw_of (i := 221) (by decide +kernel) (by decide +kernel)
theorem fl_X5_155 : Cond.fieldLink RX5 155 "ColdHouse$Plant" "gap" "I" ∈ gw := gw_of (i := 141) (by decide +kernel) (by decide +kernel)
theorem fl_X5_158 : Cond.fieldLink RX5 158 "ColdHouse$State" "locked" "I" ∈ gw := gw_of (i := 213) (by decide +kernel) (by decide +kernel)
theorem fl_X5_164 : Cond.fieldLink RX5 164 "ColdHouse$Plant" "rest" "I" ∈ gw := gw_of (i := 137) (by decide +kernel) (by decide +kernel)
theorem fl_X5_167 : Cond.fieldLink RX5 167 "ColdHouse$Plant" "startsAllowed" "I" ∈ gw := gw_of (i := 139) (by decide +kernel) (by decide +kernel)
theorem fl_X5_177 : Cond.fieldLink RX5 177 "ColdHouse$Plant" "run" "I" ∈ gw := gw_of (i := 135) (by decide +kernel) (by decide +kernel)
theorem fl_X5_186 : Cond.fieldLink RX5 186 "ColdHouse$Plant" "most" "[I" ∈ gw := gw_of (i := 125) (by decide +kernel) (by decide +kernel)
theorem fl_X6_9 : Cond.fieldLink RX6 9 "ColdHouse$State" "told" "[I" ∈ gw := gw_of (i := 196) (by decide +kernel) (by decide +kernel)
theorem fl_X6_15 : Cond.fieldLink RX6 15 "ColdHouse$State" "list" "[I" ∈ gw := gw_of (i := 225) (by decide +kernel) (by decide +kernel)
theorem fl_X6_18 : Cond.fieldLink RX6 18 "ColdHouse$State" "hours" "[I" ∈ gw := gw_of (i := 226) (by decide +kernel) (by decide +kernel)
theorem fl_X6_21 : Cond.fieldLink RX6 21 "ColdHouse$State" "starts" "[I" ∈ gw := gw_of (i := 229) (by decide +kernel) (by decide +kernel)
theorem fl_X6_24 : Cond.fieldLink RX6 24 "ColdHouse$State" "startTicks" "[I" ∈ gw := gw_of (i := 231) (by decide +kernel) (by decide +kernel)
theorem fl_X6_27 : Cond.fieldLink RX6 27 "ColdHouse$State" "stopTick" "[I" ∈ gw := gw_of (i := 232) (by decide +kernel) (by decide +kernel)
theorem fn_X6_33 : Cond.fieldLinkNest RX6 33 "ColdHouse" "TOLD_FIRST" "[I" "ColdHouse" ∈ nw := nw_of (i := 187) (by decide +kernel) (by decide +kernel)
theorem fl_X6_42 : Cond.fieldLink RX6 42 "ColdHouse$State" "ticks" "I" ∈ gw := gw_of (i := 199) (by decide +kernel) (by decide +kernel)
theorem fl_X6_46 : Cond.fieldLink RX6 46 "ColdHouse$State" "ups" "I" ∈ gw := gw_of (i := 202) (by decide +kernel) (by decide +kernel)
theorem fl_X6_49 : Cond.fieldLink RX6 49 "ColdHouse$State" "downs" "I" ∈ gw := gw_of (i := 205) (by decide +kernel) (by decide +kernel)
theorem fl_X6_52 : Cond.fieldLink RX6 52 "ColdHouse$State" "energy" "I" ∈ gw := gw_of (i := 208) (by decide +kernel) (by decide +kernel)
theorem fl_X6_55 : Cond.fieldLink RX6 55 "ColdHouse$State" "locked" "I" ∈ gw := gw_of (i := 211) (by decide +kernel) (by decide +kernel)
theorem fl_X6_58 : Cond.fieldLink RX6 58 "ColdHouse$State" "starting" "I" ∈ gw := gw_of (i := 214) (by decide +kernel) (by decide +kernel)
theorem fl_X6_61 : Cond.fieldLink RX6 61 "ColdHouse$State" "on" "I" ∈ gw := gw_of (i := 218) (by decide +kernel) (by decide +kernel)
theorem fl_X6_65 : Cond.fieldLink RX6 65 "ColdHouse$State" "lastStart" "I" ∈ gw := gw_of (i := 220) (by decide +kernel) (by decide +kernel)
theorem fl_X6_68 : Cond.fieldLink RX6 68 "ColdHouse$State" "listed" "I" ∈ gw := gw_of (i := 222) (by decide +kernel) (by decide +kernel)
theorem fl_X8_7 : Cond.fieldLink RX8 7 "ColdHouseModel" "text" "[I" ∈ gw := gw_of (i := 858) (by decide +kernel) (by decide +kernel)
theorem fl_X8_13 : Cond.fieldLink RX8 13 "ColdHouseModel" "read" "[I" ∈ gw := gw_of (i := 861) (by decide +kernel) (by decide +kernel)
theorem fl_X8_16 : Cond.fieldLink RX8 16 "ColdHouseModel" "told" "[I" ∈ gw := gw_of (i := 862) (by decide +kernel) (by decide +kernel)
theorem fl_X8_19 : Cond.fieldLink RX8 19 "ColdHouseModel" "now" "[I" ∈ gw := gw_of (i := 863) (by decide +kernel) (by decide +kernel)
theorem fl_X8_22 : Cond.fieldLink RX8 22 "ColdHouseModel" "aside" "[I" ∈ gw := gw_of (i := 864) (by decide +kernel) (by decide +kernel)
theorem fl_X8_25 : Cond.fieldLink RX8 25 "ColdHouseModel" "past" "[I" ∈ gw := gw_of (i := 865) (by decide +kernel) (by decide +kernel)
theorem fl_X8_28 : Cond.fieldLink RX8 28 "ColdHouseModel" "numbers" "[I" ∈ gw := gw_of (i := 867) (by decide +kernel) (by decide +kernel)
theorem fl_X8_31 : Cond.fieldLink RX8 31 "ColdHouseModel" "table" "[I" ∈ gw := gw_of (i := 868) (by decide +kernel) (by decide +kernel)
theorem fl_X8_34 : Cond.fieldLink RX8 34 "ColdHouseModel" "makes" "[I" ∈ gw := gw_of (i := 871) (by decide +kernel) (by decide +kernel)
theorem fl_X8_47 : Cond.fieldLink RX8 47 "ColdHouseModel" "changes" "I" ∈ gw := gw_of (i := 866) (by decide +kernel) (by decide +kernel)
theorem fl_X8_51 : Cond.fieldLink RX8 51 "ColdHouseModel" "isLaid" "Z" ∈ gw := gw_of (i := 869) (by decide +kernel) (by decide +kernel)
theorem fl_X8_55 : Cond.fieldLink RX8 55 "ColdHouseModel" "at" "I" ∈ gw := gw_of (i := 860) (by decide +kernel) (by decide +kernel)
theorem fl_X8_58 : Cond.fieldLink RX8 58 "ColdHouseModel" "letters" "I" ∈ gw := gw_of (i := 859) (by decide +kernel) (by decide +kernel)
theorem fl_X8_109 : Cond.fieldLink RX8 109 "ColdHouseModel" "laidLift" "I" ∈ gw := gw_of (i := 870) (by decide +kernel) (by decide +kernel)
theorem fl_X8_131 : Cond.fieldLink RX8 131 "ColdHouseModel" "bestPower" "I" ∈ gw := gw_of (i := 872) (by decide +kernel) (by decide +kernel)
theorem ml_X7_1 : Cond.methodLink RX7 1 ⟨"java/lang/Object", "<init>", "()V"⟩ ∈ gw := gw_of (i := 82) (by decide +kernel) (by decide +kernel)
theorem mn_X7_9 : Cond.methodLinkNest RX7 9 yX3_init "ColdHouse" ∈ nw := nw_of (i := 87) (by decide +kernel) (by decide +kernel)
theorem mn_X7_18 : Cond.methodLinkNest RX7 18 yX2_init "ColdHouse" ∈ nw := nw_of (i := 108) (by decide +kernel) (by decide +kernel)
theorem ml_X7_25 : Cond.methodLink RX7 25 yX6_init ∈ gw := gw_of (i := 179) (by decide +kernel) (by decide +kernel)
theorem ml_X7_35 : Cond.methodLink RX7 35 yX1_init ∈ gw := gw_of (i := 266) (by decide +kernel) (by decide +kernel)
theorem ml_X7_42 : Cond.methodLink RX7 42 yX5_init ∈ gw := gw_of (i := 286) (by decide +kernel) (by decide +kernel)
theorem ml_X7_51 : Cond.methodLink RX7 51 yX4_init ∈ gw := gw_of (i := 334) (by decide +kernel) (by decide +kernel)
theorem ml_X7_58 : Cond.methodLink RX7 58 yX0_init ∈ gw := gw_of (i := 337) (by decide +kernel) (by decide +kernel)
theorem ml_X7_65 : Cond.methodLink RX7 65 yJ0_length_8abf5 ∈ gw := gw_of (i := 361) (by decide +kernel) (by decide +kernel)
theorem ml_X7_71 : Cond.methodLink RX7 71 yJ0_charAt_5068e ∈ gw := gw_of (i := 371) (by decide +kernel) (by decide +kernel)
theorem ml_X7_75 : Cond.methodLink RX7 75 yX3_add ∈ gw := gw_of (i := 409) (by decide +kernel) (by decide +kernel)
theorem ml_X7_79 : Cond.methodLink RX7 79 yX3_layInto ∈ gw := gw_of (i := 413) (by decide +kernel) (by decide +kernel)
theorem ml_X7_82 : Cond.methodLink RX7 82 yX3_empty ∈ gw := gw_of (i := 459) (by decide +kernel) (by decide +kernel)
theorem ml_X7_88 : Cond.methodLink RX7 88 yX3_firstFault ∈ gw := gw_of (i := 501) (by decide +kernel) (by decide +kernel)
theorem ml_X7_91 : Cond.methodLink RX7 91 yX3_machines ∈ gw := gw_of (i := 509) (by decide +kernel) (by decide +kernel)
theorem ml_X7_94 : Cond.methodLink RX7 94 yX6_reset ∈ gw := gw_of (i := 513) (by decide +kernel) (by decide +kernel)
theorem ml_X7_97 : Cond.methodLink RX7 97 yX1_forget ∈ gw := gw_of (i := 514) (by decide +kernel) (by decide +kernel)
theorem ml_X7_103 : Cond.methodLink RX7 103 yX4_forget ∈ gw := gw_of (i := 518) (by decide +kernel) (by decide +kernel)
theorem ml_X7_104 : Cond.methodLink RX7 104 yX0_forget ∈ gw := gw_of (i := 522) (by decide +kernel) (by decide +kernel)
theorem ml_X7_117 : Cond.methodLink RX7 117 yX1_keep ∈ gw := gw_of (i := 534) (by decide +kernel) (by decide +kernel)
theorem ml_X7_121 : Cond.methodLink RX7 121 yX7_isMachine ∈ gw := gw_of (i := 547) (by decide +kernel) (by decide +kernel)
theorem ml_X7_128 : Cond.methodLink RX7 128 yX6_stop ∈ gw := gw_of (i := 551) (by decide +kernel) (by decide +kernel)
theorem ml_X7_132 : Cond.methodLink RX7 132 yX6_takeOffList ∈ gw := gw_of (i := 562) (by decide +kernel) (by decide +kernel)
theorem ml_X7_135 : Cond.methodLink RX7 135 yJ6_bitCount_0f7a4 ∈ gw := gw_of (i := 566) (by decide +kernel) (by decide +kernel)
theorem ml_X7_141 : Cond.methodLink RX7 141 yX6_running ∈ gw := gw_of (i := 576) (by decide +kernel) (by decide +kernel)
theorem ml_X7_144 : Cond.methodLink RX7 144 yX5_fall ∈ gw := gw_of (i := 577) (by decide +kernel) (by decide +kernel)
theorem ml_X7_150 : Cond.methodLink RX7 150 yX6_startedSoFar ∈ gw := gw_of (i := 596) (by decide +kernel) (by decide +kernel)
theorem ml_X7_153 : Cond.methodLink RX7 153 yX5_pass ∈ gw := gw_of (i := 600) (by decide +kernel) (by decide +kernel)
theorem ml_X7_156 : Cond.methodLink RX7 156 yX1_giveBack ∈ gw := gw_of (i := 736) (by decide +kernel) (by decide +kernel)
theorem ml_X7_184 : Cond.methodLink RX7 184 yX7_bitOf ∈ gw := gw_of (i := 744) (by decide +kernel) (by decide +kernel)
theorem ml_X7_197 : Cond.methodLink RX7 197 yX5_mayStart ∈ gw := gw_of (i := 745) (by decide +kernel) (by decide +kernel)
theorem ml_X7_201 : Cond.methodLink RX7 201 yX5_madeBy ∈ gw := gw_of (i := 746) (by decide +kernel) (by decide +kernel)
theorem ml_X7_205 : Cond.methodLink RX7 205 yX6_placeInList ∈ gw := gw_of (i := 754) (by decide +kernel) (by decide +kernel)
theorem ml_X7_208 : Cond.methodLink RX7 208 yX2_powerAt ∈ gw := gw_of (i := 762) (by decide +kernel) (by decide +kernel)
theorem ml_X7_212 : Cond.methodLink RX7 212 yX2_all ∈ gw := gw_of (i := 767) (by decide +kernel) (by decide +kernel)
theorem ml_X7_215 : Cond.methodLink RX7 215 yX7_isLoad ∈ gw := gw_of (i := 771) (by decide +kernel) (by decide +kernel)
theorem ml_X7_218 : Cond.methodLink RX7 218 yX6_lift ∈ gw := gw_of (i := 774) (by decide +kernel) (by decide +kernel)
theorem ml_X7_221 : Cond.methodLink RX7 221 yX4_find ∈ gw := gw_of (i := 775) (by decide +kernel) (by decide +kernel)
theorem ml_X7_225 : Cond.methodLink RX7 225 yX4_leastPower ∈ gw := gw_of (i := 776) (by decide +kernel) (by decide +kernel)
theorem ml_X7_228 : Cond.methodLink RX7 228 yX4_part ∈ gw := gw_of (i := 777) (by decide +kernel) (by decide +kernel)
theorem ml_X7_231 : Cond.methodLink RX7 231 yX0_reckon ∈ gw := gw_of (i := 782) (by decide +kernel) (by decide +kernel)
theorem ml_X7_235 : Cond.methodLink RX7 235 yX0_has ∈ gw := gw_of (i := 804) (by decide +kernel) (by decide +kernel)
theorem ml_X7_238 : Cond.methodLink RX7 238 yX0_setFor ∈ gw := gw_of (i := 808) (by decide +kernel) (by decide +kernel)
theorem ml_X7_241 : Cond.methodLink RX7 241 yX0_leastPower ∈ gw := gw_of (i := 812) (by decide +kernel) (by decide +kernel)
theorem ml_X7_243 : Cond.methodLink RX7 243 yX5_made ∈ gw := gw_of (i := 820) (by decide +kernel) (by decide +kernel)
theorem ml_X7_247 : Cond.methodLink RX7 247 ⟨"java/lang/Math", "max", "(II)I"⟩ ∈ gw := gw_of (i := 821) (by decide +kernel) (by decide +kernel)
theorem ml_X7_252 : Cond.methodLink RX7 252 yX5_powerNow ∈ gw := gw_of (i := 822) (by decide +kernel) (by decide +kernel)
theorem ml_X7_255 : Cond.methodLink RX7 255 yX2_flows ∈ gw := gw_of (i := 823) (by decide +kernel) (by decide +kernel)
theorem ml_X7_258 : Cond.methodLink RX7 258 yX7_aboveBest ∈ gw := gw_of (i := 827) (by decide +kernel) (by decide +kernel)
theorem ml_X7_261 : Cond.methodLink RX7 261 yX6_copyFrom ∈ gw := gw_of (i := 835) (by decide +kernel) (by decide +kernel)
theorem ml_X0_5 : Cond.methodLink RX0 5 ⟨"java/lang/Object", "<init>", "()V"⟩ ∈ gw := gw_of (i := 340) (by decide +kernel) (by decide +kernel)
theorem ml_X0_34 : Cond.methodLink RX0 34 yJ7_fill_53178 ∈ gw := gw_of (i := 787) (by decide +kernel) (by decide +kernel)
theorem mn_X0_45 : Cond.methodLinkNest RX0 45 yX7_bitOf "ColdHouse" ∈ nw := nw_of (i := 788) (by decide +kernel) (by decide +kernel)
theorem ml_X0_49 : Cond.methodLink RX0 49 yX0_addMachine ∈ gw := gw_of (i := 789) (by decide +kernel) (by decide +kernel)
theorem ml_X0_53 : Cond.methodLink RX0 53 yX0_fillRow ∈ gw := gw_of (i := 793) (by decide +kernel) (by decide +kernel)
theorem ml_X0_56 : Cond.methodLink RX0 56 yX2_mosts ∈ gw := gw_of (i := 798) (by decide +kernel) (by decide +kernel)
theorem ml_X0_60 : Cond.methodLink RX0 60 ⟨"java/lang/Math", "min", "(II)I"⟩ ∈ gw := gw_of (i := 799) (by decide +kernel) (by decide +kernel)
theorem ml_X0_68 : Cond.methodLink RX0 68 yX0_leastWith ∈ gw := gw_of (i := 800) (by decide +kernel) (by decide +kernel)
theorem ml_X0_74 : Cond.methodLink RX0 74 yX2_powerAt ∈ gw := gw_of (i := 797) (by decide +kernel) (by decide +kernel)
theorem ml_X1_3 : Cond.methodLink RX1 3 ⟨"java/lang/Object", "<init>", "()V"⟩ ∈ gw := gw_of (i := 269) (by decide +kernel) (by decide +kernel)
theorem ml_X1_17 : Cond.methodLink RX1 17 yX6_init ∈ gw := gw_of (i := 272) (by decide +kernel) (by decide +kernel)
theorem ml_X1_25 : Cond.methodLink RX1 25 yX6_copyFrom ∈ gw := gw_of (i := 538) (by decide +kernel) (by decide +kernel)
theorem ml_X1_29 : Cond.methodLink RX1 29 ⟨"java/lang/Math", "min", "(II)I"⟩ ∈ gw := gw_of (i := 542) (by decide +kernel) (by decide +kernel)
theorem ml_X2_3 : Cond.methodLink RX2 3 ⟨"java/lang/Object", "<init>", "()V"⟩ ∈ gw := gw_of (i := 111) (by decide +kernel) (by decide +kernel)
theorem ml_X2_58 : Cond.methodLink RX2 58 yX2_takeMachine ∈ gw := gw_of (i := 455) (by decide +kernel) (by decide +kernel)
theorem ml_X2_62 : Cond.methodLink RX2 62 yX2_leasts ∈ gw := gw_of (i := 641) (by decide +kernel) (by decide +kernel)
theorem ml_X2_66 : Cond.methodLink RX2 66 yX2_mosts ∈ gw := gw_of (i := 642) (by decide +kernel) (by decide +kernel)
theorem ml_X2_69 : Cond.methodLink RX2 69 yX2_sumOver ∈ gw := gw_of (i := 616) (by decide +kernel) (by decide +kernel)
theorem ml_X3_3 : Cond.methodLink RX3 3 ⟨"java/lang/Object", "<init>", "()V"⟩ ∈ gw := gw_of (i := 90) (by decide +kernel) (by decide +kernel)
theorem ml_X3_26 : Cond.methodLink RX3 26 yX3_readItem ∈ gw := gw_of (i := 421) (by decide +kernel) (by decide +kernel)
theorem ml_X3_30 : Cond.methodLink RX3 30 yX2_reset ∈ gw := gw_of (i := 417) (by decide +kernel) (by decide +kernel)
theorem ml_X3_35 : Cond.methodLink RX3 35 yX2_take ∈ gw := gw_of (i := 450) (by decide +kernel) (by decide +kernel)
theorem ml_X3_39 : Cond.methodLink RX3 39 yX3_letterAt ∈ gw := gw_of (i := 425) (by decide +kernel) (by decide +kernel)
theorem ml_X3_46 : Cond.methodLink RX3 46 yX3_readNumbers ∈ gw := gw_of (i := 431) (by decide +kernel) (by decide +kernel)
theorem ml_X3_62 : Cond.methodLink RX3 62 ⟨"java/lang/Math", "min", "(II)I"⟩ ∈ gw := gw_of (i := 435) (by decide +kernel) (by decide +kernel)
theorem ml_X3_68 : Cond.methodLink RX3 68 yX3_isFigure ∈ gw := gw_of (i := 438) (by decide +kernel) (by decide +kernel)
theorem ml_X4_5 : Cond.methodLink RX4 5 ⟨"java/lang/Object", "<init>", "()V"⟩ ∈ gw := gw_of (i := 295) (by decide +kernel) (by decide +kernel)
theorem ml_X4_36 : Cond.methodLink RX4 36 yX2_can ∈ gw := gw_of (i := 637) (by decide +kernel) (by decide +kernel)
theorem mn_X4_51 : Cond.methodLinkNest RX4 51 yX7_bitOf "ColdHouse" ∈ nw := nw_of (i := 643) (by decide +kernel) (by decide +kernel)
theorem ml_X4_55 : Cond.methodLink RX4 55 yX4_addMachine ∈ gw := gw_of (i := 644) (by decide +kernel) (by decide +kernel)
theorem ml_X4_59 : Cond.methodLink RX4 59 yX4_shiftOf ∈ gw := gw_of (i := 656) (by decide +kernel) (by decide +kernel)
theorem ml_X4_63 : Cond.methodLink RX4 63 yX4_fillRow ∈ gw := gw_of (i := 648) (by decide +kernel) (by decide +kernel)
theorem ml_X4_71 : Cond.methodLink RX4 71 yX2_mosts ∈ gw := gw_of (i := 659) (by decide +kernel) (by decide +kernel)
theorem ml_X4_74 : Cond.methodLink RX4 74 ⟨"java/lang/Math", "max", "(II)I"⟩ ∈ gw := gw_of (i := 660) (by decide +kernel) (by decide +kernel)
theorem ml_X4_82 : Cond.methodLink RX4 82 yX2_leasts ∈ gw := gw_of (i := 661) (by decide +kernel) (by decide +kernel)
theorem ml_X4_85 : Cond.methodLink RX4 85 ⟨"java/lang/Math", "min", "(II)I"⟩ ∈ gw := gw_of (i := 662) (by decide +kernel) (by decide +kernel)
theorem ml_X4_88 : Cond.methodLink RX4 88 yX4_leastWith ∈ gw := gw_of (i := 663) (by decide +kernel) (by decide +kernel)
theorem ml_X4_92 : Cond.methodLink RX4 92 yX2_powerAt ∈ gw := gw_of (i := 652) (by decide +kernel) (by decide +kernel)
theorem ml_X5_3 : Cond.methodLink RX5 3 ⟨"java/lang/Object", "<init>", "()V"⟩ ∈ gw := gw_of (i := 289) (by decide +kernel) (by decide +kernel)
theorem ml_X5_17 : Cond.methodLink RX5 17 yX4_init ∈ gw := gw_of (i := 292) (by decide +kernel) (by decide +kernel)
theorem ml_X5_30 : Cond.methodLink RX5 30 yX2_leasts ∈ gw := gw_of (i := 612) (by decide +kernel) (by decide +kernel)
theorem ml_X5_36 : Cond.methodLink RX5 36 yX2_mosts ∈ gw := gw_of (i := 620) (by decide +kernel) (by decide +kernel)
theorem ml_X5_43 : Cond.methodLink RX5 43 ⟨"java/lang/Math", "min", "(II)I"⟩ ∈ gw := gw_of (i := 624) (by decide +kernel) (by decide +kernel)
theorem ml_X5_49 : Cond.methodLink RX5 49 ⟨"java/lang/Math", "max", "(II)I"⟩ ∈ gw := gw_of (i := 625) (by decide +kernel) (by decide +kernel)
theorem ml_X5_52 : Cond.methodLink RX5 52 yX5_made ∈ gw := gw_of (i := 608) (by decide +kernel) (by decide +kernel)
theorem ml_X5_56 : Cond.methodLink RX5 56 yX6_lift ∈ gw := gw_of (i := 628) (by decide +kernel) (by decide +kernel)
theorem ml_X5_60 : Cond.methodLink RX5 60 yX4_find ∈ gw := gw_of (i := 633) (by decide +kernel) (by decide +kernel)
theorem ml_X5_64 : Cond.methodLink RX5 64 yX4_leastPower ∈ gw := gw_of (i := 668) (by decide +kernel) (by decide +kernel)
theorem ml_X5_67 : Cond.methodLink RX5 67 yX4_part ∈ gw := gw_of (i := 750) (by decide +kernel) (by decide +kernel)
theorem ml_X5_73 : Cond.methodLink RX5 73 yX5_powerNow ∈ gw := gw_of (i := 604) (by decide +kernel) (by decide +kernel)
theorem ml_X5_85 : Cond.methodLink RX5 85 yX6_running ∈ gw := gw_of (i := 581) (by decide +kernel) (by decide +kernel)
theorem mn_X5_88 : Cond.methodLinkNest RX5 88 yX7_bitOf "ColdHouse" ∈ nw := nw_of (i := 586) (by decide +kernel) (by decide +kernel)
theorem ml_X5_91 : Cond.methodLink RX5 91 yX5_comeOn ∈ gw := gw_of (i := 672) (by decide +kernel) (by decide +kernel)
theorem ml_X5_98 : Cond.methodLink RX5 98 yX5_comeBack ∈ gw := gw_of (i := 690) (by decide +kernel) (by decide +kernel)
theorem ml_X5_105 : Cond.methodLink RX5 105 yX5_stageUp ∈ gw := gw_of (i := 707) (by decide +kernel) (by decide +kernel)
theorem ml_X5_108 : Cond.methodLink RX5 108 yX5_stageDown ∈ gw := gw_of (i := 724) (by decide +kernel) (by decide +kernel)
theorem ml_X5_114 : Cond.methodLink RX5 114 yX6_ticksSinceStart ∈ gw := gw_of (i := 676) (by decide +kernel) (by decide +kernel)
theorem ml_X5_117 : Cond.methodLink RX5 117 yX5_gapIsOver ∈ gw := gw_of (i := 694) (by decide +kernel) (by decide +kernel)
theorem ml_X5_121 : Cond.methodLink RX5 121 yX6_firstOfList ∈ gw := gw_of (i := 698) (by decide +kernel) (by decide +kernel)
theorem ml_X5_124 : Cond.methodLink RX5 124 yX6_takeOffList ∈ gw := gw_of (i := 702) (by decide +kernel) (by decide +kernel)
theorem ml_X5_128 : Cond.methodLink RX5 128 yX6_start ∈ gw := gw_of (i := 703) (by decide +kernel) (by decide +kernel)
theorem ml_X5_140 : Cond.methodLink RX5 140 yX5_nextToStart ∈ gw := gw_of (i := 711) (by decide +kernel) (by decide +kernel)
theorem ml_X5_143 : Cond.methodLink RX5 143 yX5_nextToStop ∈ gw := gw_of (i := 728) (by decide +kernel) (by decide +kernel)
theorem ml_X5_149 : Cond.methodLink RX5 149 yX6_stop ∈ gw := gw_of (i := 587) (by decide +kernel) (by decide +kernel)
theorem ml_X5_161 : Cond.methodLink RX5 161 yX6_ticksSinceStop ∈ gw := gw_of (i := 719) (by decide +kernel) (by decide +kernel)
theorem ml_X5_170 : Cond.methodLink RX5 170 yX6_startBack ∈ gw := gw_of (i := 723) (by decide +kernel) (by decide +kernel)
theorem ml_X5_173 : Cond.methodLink RX5 173 yX5_mayStart ∈ gw := gw_of (i := 715) (by decide +kernel) (by decide +kernel)
theorem ml_X5_180 : Cond.methodLink RX5 180 yX5_greatestOf ∈ gw := gw_of (i := 582) (by decide +kernel) (by decide +kernel)
theorem ml_X5_183 : Cond.methodLink RX5 183 yX6_putOnList ∈ gw := gw_of (i := 588) (by decide +kernel) (by decide +kernel)
theorem ml_X6_3 : Cond.methodLink RX6 3 ⟨"java/lang/Object", "<init>", "()V"⟩ ∈ gw := gw_of (i := 182) (by decide +kernel) (by decide +kernel)
theorem ml_X6_30 : Cond.methodLink RX6 30 yX6_reset ∈ gw := gw_of (i := 183) (by decide +kernel) (by decide +kernel)
theorem ml_X6_36 : Cond.methodLink RX6 36 ⟨"java/lang/System", "arraycopy", "(Ljava/lang/Object;ILjava/lang/Object;II)V"⟩ ∈ gw := gw_of (i := 189) (by decide +kernel) (by decide +kernel)
theorem ml_X6_71 : Cond.methodLink RX6 71 yJ7_fill_53178 ∈ gw := gw_of (i := 193) (by decide +kernel) (by decide +kernel)
theorem ml_X6_77 : Cond.methodLink RX6 77 ⟨"java/lang/Math", "max", "(II)I"⟩ ∈ gw := gw_of (i := 632) (by decide +kernel) (by decide +kernel)
theorem ml_X6_83 : Cond.methodLink RX6 83 yX6_ringPlace ∈ gw := gw_of (i := 684) (by decide +kernel) (by decide +kernel)
theorem ml_X6_86 : Cond.methodLink RX6 86 yX6_running ∈ gw := gw_of (i := 555) (by decide +kernel) (by decide +kernel)
theorem mn_X6_90 : Cond.methodLinkNest RX6 90 yX7_bitOf "ColdHouse" ∈ nw := nw_of (i := 559) (by decide +kernel) (by decide +kernel)
theorem ml_X6_93 : Cond.methodLink RX6 93 yX6_startBack ∈ gw := gw_of (i := 680) (by decide +kernel) (by decide +kernel)
theorem ml_X6_96 : Cond.methodLink RX6 96 yJ9_floorMod_7cf53 ∈ gw := gw_of (i := 687) (by decide +kernel) (by decide +kernel)
theorem ml_L_9 : Cond.methodLink "ColdHouseLaw" 9 yX7_init ∈ gw := gw_of (i := 79) (by decide +kernel) (by decide +kernel)
theorem ml_L_12 : Cond.methodLink "ColdHouseLaw" 12 yX8_init ∈ gw := gw_of (i := 842) (by decide +kernel) (by decide +kernel)
theorem ml_L_13 : Cond.methodLink "ColdHouseLaw" 13 yX7_write ∈ gw := gw_of (i := 489) (by decide +kernel) (by decide +kernel)
theorem ml_L_17 : Cond.methodLink "ColdHouseLaw" 17 yX8_write ∈ gw := gw_of (i := 904) (by decide +kernel) (by decide +kernel)
theorem ml_L_18 : Cond.methodLink "ColdHouseLaw" 18 yX7_wipe ∈ gw := gw_of (i := 493) (by decide +kernel) (by decide +kernel)
theorem ml_L_22 : Cond.methodLink "ColdHouseLaw" 22 yX8_wipe ∈ gw := gw_of (i := 911) (by decide +kernel) (by decide +kernel)
theorem ml_L_23 : Cond.methodLink "ColdHouseLaw" 23 yX7_fault ∈ gw := gw_of (i := 497) (by decide +kernel) (by decide +kernel)
theorem ml_L_26 : Cond.methodLink "ColdHouseLaw" 26 yX8_fault ∈ gw := gw_of (i := 915) (by decide +kernel) (by decide +kernel)
theorem ml_L_27 : Cond.methodLink "ColdHouseLaw" 27 yX7_lay ∈ gw := gw_of (i := 505) (by decide +kernel) (by decide +kernel)
theorem ml_L_30 : Cond.methodLink "ColdHouseLaw" 30 yX8_lay ∈ gw := gw_of (i := 943) (by decide +kernel) (by decide +kernel)
theorem ml_L_31 : Cond.methodLink "ColdHouseLaw" 31 yX7_tell ∈ gw := gw_of (i := 526) (by decide +kernel) (by decide +kernel)
theorem ml_L_35 : Cond.methodLink "ColdHouseLaw" 35 yX8_tell ∈ gw := gw_of (i := 951) (by decide +kernel) (by decide +kernel)
theorem ml_L_36 : Cond.methodLink "ColdHouseLaw" 36 yX7_lock ∈ gw := gw_of (i := 543) (by decide +kernel) (by decide +kernel)
theorem ml_L_39 : Cond.methodLink "ColdHouseLaw" 39 yX8_lock ∈ gw := gw_of (i := 959) (by decide +kernel) (by decide +kernel)
theorem ml_L_40 : Cond.methodLink "ColdHouseLaw" 40 yX7_dip ∈ gw := gw_of (i := 572) (by decide +kernel) (by decide +kernel)
theorem ml_L_43 : Cond.methodLink "ColdHouseLaw" 43 yX8_dip ∈ gw := gw_of (i := 986) (by decide +kernel) (by decide +kernel)
theorem ml_L_44 : Cond.methodLink "ColdHouseLaw" 44 yX7_tick ∈ gw := gw_of (i := 592) (by decide +kernel) (by decide +kernel)
theorem ml_L_47 : Cond.methodLink "ColdHouseLaw" 47 yX8_tick ∈ gw := gw_of (i := 998) (by decide +kernel) (by decide +kernel)
theorem ml_L_48 : Cond.methodLink "ColdHouseLaw" 48 yX7_undo ∈ gw := gw_of (i := 732) (by decide +kernel) (by decide +kernel)
theorem ml_L_51 : Cond.methodLink "ColdHouseLaw" 51 yX8_undo ∈ gw := gw_of (i := 947) (by decide +kernel) (by decide +kernel)
theorem ml_L_52 : Cond.methodLink "ColdHouseLaw" 52 yX7_machine ∈ gw := gw_of (i := 740) (by decide +kernel) (by decide +kernel)
theorem ml_L_55 : Cond.methodLink "ColdHouseLaw" 55 yX8_machine ∈ gw := gw_of (i := 1077) (by decide +kernel) (by decide +kernel)
theorem ml_L_56 : Cond.methodLink "ColdHouseLaw" 56 yX7_power ∈ gw := gw_of (i := 758) (by decide +kernel) (by decide +kernel)
theorem ml_L_60 : Cond.methodLink "ColdHouseLaw" 60 yX8_power ∈ gw := gw_of (i := 1085) (by decide +kernel) (by decide +kernel)
theorem ml_L_61 : Cond.methodLink "ColdHouseLaw" 61 yX7_share ∈ gw := gw_of (i := 763) (by decide +kernel) (by decide +kernel)
theorem ml_L_64 : Cond.methodLink "ColdHouseLaw" 64 yX8_share ∈ gw := gw_of (i := 1089) (by decide +kernel) (by decide +kernel)
theorem ml_L_65 : Cond.methodLink "ColdHouseLaw" 65 yX7_best ∈ gw := gw_of (i := 778) (by decide +kernel) (by decide +kernel)
theorem ml_L_68 : Cond.methodLink "ColdHouseLaw" 68 yX8_best ∈ gw := gw_of (i := 1093) (by decide +kernel) (by decide +kernel)
theorem ml_L_69 : Cond.methodLink "ColdHouseLaw" 69 yX7_now ∈ gw := gw_of (i := 816) (by decide +kernel) (by decide +kernel)
theorem ml_L_72 : Cond.methodLink "ColdHouseLaw" 72 yX8_now ∈ gw := gw_of (i := 1101) (by decide +kernel) (by decide +kernel)
theorem ml_L_73 : Cond.methodLink "ColdHouseLaw" 73 yX7_ahead ∈ gw := gw_of (i := 831) (by decide +kernel) (by decide +kernel)
theorem ml_L_76 : Cond.methodLink "ColdHouseLaw" 76 yX8_ahead ∈ gw := gw_of (i := 1109) (by decide +kernel) (by decide +kernel)
theorem ml_L_77 : Cond.methodLink "ColdHouseLaw" 77 yX7_count ∈ gw := gw_of (i := 836) (by decide +kernel) (by decide +kernel)
theorem ml_L_80 : Cond.methodLink "ColdHouseLaw" 80 yX8_count ∈ gw := gw_of (i := 1113) (by decide +kernel) (by decide +kernel)
theorem ml_X8_1 : Cond.methodLink RX8 1 ⟨"java/lang/Object", "<init>", "()V"⟩ ∈ gw := gw_of (i := 845) (by decide +kernel) (by decide +kernel)
theorem ml_X8_37 : Cond.methodLink RX8 37 yX8_beginRead ∈ gw := gw_of (i := 846) (by decide +kernel) (by decide +kernel)
theorem ml_X8_40 : Cond.methodLink RX8 40 yX8_putMachine ∈ gw := gw_of (i := 850) (by decide +kernel) (by decide +kernel)
theorem ml_X8_44 : Cond.methodLink RX8 44 yX8_takeRead ∈ gw := gw_of (i := 854) (by decide +kernel) (by decide +kernel)
theorem ml_X8_61 : Cond.methodLink RX8 61 yX8_in ∈ gw := gw_of (i := 908) (by decide +kernel) (by decide +kernel)
theorem ml_X8_65 : Cond.methodLink RX8 65 yX8_isFigure ∈ gw := gw_of (i := 931) (by decide +kernel) (by decide +kernel)
theorem ml_X8_69 : Cond.methodLink RX8 69 yX8_readNumbers ∈ gw := gw_of (i := 927) (by decide +kernel) (by decide +kernel)
theorem ml_X8_73 : Cond.methodLink RX8 73 yX8_isNumber ∈ gw := gw_of (i := 935) (by decide +kernel) (by decide +kernel)
theorem ml_X8_76 : Cond.methodLink RX8 76 yX8_readMachine ∈ gw := gw_of (i := 923) (by decide +kernel) (by decide +kernel)
theorem ml_X8_79 : Cond.methodLink RX8 79 yX8_readOther ∈ gw := gw_of (i := 939) (by decide +kernel) (by decide +kernel)
theorem ml_X8_82 : Cond.methodLink RX8 82 yX8_readText ∈ gw := gw_of (i := 919) (by decide +kernel) (by decide +kernel)
theorem ml_X8_86 : Cond.methodLink RX8 86 yX8_has ∈ gw := gw_of (i := 1026) (by decide +kernel) (by decide +kernel)
theorem ml_X8_90 : Cond.methodLink RX8 90 yX8_sumOf ∈ gw := gw_of (i := 1045) (by decide +kernel) (by decide +kernel)
theorem ml_X8_95 : Cond.methodLink RX8 95 yX8_leastOf ∈ gw := gw_of (i := 1033) (by decide +kernel) (by decide +kernel)
theorem ml_X8_99 : Cond.methodLink RX8 99 yX8_mostOf ∈ gw := gw_of (i := 994) (by decide +kernel) (by decide +kernel)
theorem ml_X8_102 : Cond.methodLink RX8 102 yX8_powerOf ∈ gw := gw_of (i := 1037) (by decide +kernel) (by decide +kernel)
theorem ml_X8_106 : Cond.methodLink RX8 106 yX8_lift ∈ gw := gw_of (i := 1018) (by decide +kernel) (by decide +kernel)
theorem ml_X8_112 : Cond.methodLink RX8 112 yX8_lowest ∈ gw := gw_of (i := 1023) (by decide +kernel) (by decide +kernel)
theorem ml_X8_115 : Cond.methodLink RX8 115 yX8_leastBy ∈ gw := gw_of (i := 1029) (by decide +kernel) (by decide +kernel)
theorem ml_X8_119 : Cond.methodLink RX8 119 yX8_leastPower ∈ gw := gw_of (i := 1053) (by decide +kernel) (by decide +kernel)
theorem ml_X8_122 : Cond.methodLink RX8 122 yX8_own ∈ gw := gw_of (i := 967) (by decide +kernel) (by decide +kernel)
theorem ml_X8_125 : Cond.methodLink RX8 125 yX8_layTable ∈ gw := gw_of (i := 1014) (by decide +kernel) (by decide +kernel)
theorem ml_X8_128 : Cond.methodLink RX8 128 yX8_lockedOnes ∈ gw := gw_of (i := 979) (by decide +kernel) (by decide +kernel)
theorem ml_X8_134 : Cond.methodLink RX8 134 yX8_can ∈ gw := gw_of (i := 1041) (by decide +kernel) (by decide +kernel)
theorem ml_X8_137 : Cond.methodLink RX8 137 yX8_ones ∈ gw := gw_of (i := 983) (by decide +kernel) (by decide +kernel)
theorem ml_X8_140 : Cond.methodLink RX8 140 yX8_standing ∈ gw := gw_of (i := 990) (by decide +kernel) (by decide +kernel)
theorem ml_X8_143 : Cond.methodLink RX8 143 yX8_layShare ∈ gw := gw_of (i := 1049) (by decide +kernel) (by decide +kernel)
theorem ml_X8_147 : Cond.methodLink RX8 147 yX8_made ∈ gw := gw_of (i := 1010) (by decide +kernel) (by decide +kernel)
theorem ml_X8_150 : Cond.methodLink RX8 150 yX8_isGapOver ∈ gw := gw_of (i := 1057) (by decide +kernel) (by decide +kernel)
theorem ml_X8_153 : Cond.methodLink RX8 153 yX8_mayStart ∈ gw := gw_of (i := 1073) (by decide +kernel) (by decide +kernel)
theorem ml_X8_156 : Cond.methodLink RX8 156 yX8_powerNow ∈ gw := gw_of (i := 1006) (by decide +kernel) (by decide +kernel)
theorem ml_X8_159 : Cond.methodLink RX8 159 yX8_unlist ∈ gw := gw_of (i := 971) (by decide +kernel) (by decide +kernel)
theorem ml_X8_163 : Cond.methodLink RX8 163 yX8_start ∈ gw := gw_of (i := 1061) (by decide +kernel) (by decide +kernel)
theorem ml_X8_166 : Cond.methodLink RX8 166 yX8_stopper ∈ gw := gw_of (i := 1065) (by decide +kernel) (by decide +kernel)
theorem ml_X8_169 : Cond.methodLink RX8 169 yX8_starter ∈ gw := gw_of (i := 1069) (by decide +kernel) (by decide +kernel)
theorem ml_X8_172 : Cond.methodLink RX8 172 yX8_stop ∈ gw := gw_of (i := 975) (by decide +kernel) (by decide +kernel)
theorem ml_X8_175 : Cond.methodLink RX8 175 yX8_note ∈ gw := gw_of (i := 955) (by decide +kernel) (by decide +kernel)
theorem ml_X8_178 : Cond.methodLink RX8 178 yX8_isMachine ∈ gw := gw_of (i := 963) (by decide +kernel) (by decide +kernel)
theorem ml_X8_181 : Cond.methodLink RX8 181 yX8_tickOnce ∈ gw := gw_of (i := 1002) (by decide +kernel) (by decide +kernel)
theorem ml_X8_184 : Cond.methodLink RX8 184 yX8_placeInList ∈ gw := gw_of (i := 1081) (by decide +kernel) (by decide +kernel)
theorem ml_X8_187 : Cond.methodLink RX8 187 yX8_findBest ∈ gw := gw_of (i := 1097) (by decide +kernel) (by decide +kernel)
theorem ml_X8_190 : Cond.methodLink RX8 190 yX8_more ∈ gw := gw_of (i := 1105) (by decide +kernel) (by decide +kernel)
theorem ml_J0_335 : Cond.methodLink RJ0 335 yJ0_coder_7d493 ∈ gw := gw_of (i := 365) (by decide +kernel) (by decide +kernel)
theorem ml_J0_492 : Cond.methodLink RJ0 492 yJ0_isLatin1_aae02 ∈ gw := gw_of (i := 375) (by decide +kernel) (by decide +kernel)
theorem ml_J0_495 : Cond.methodLink RJ0 495 yJ1_charAt_3b067 ∈ gw := gw_of (i := 379) (by decide +kernel) (by decide +kernel)
theorem ml_J0_498 : Cond.methodLink RJ0 498 ⟨"java/lang/StringUTF16", "charAt", "([BI)C"⟩ ∈ gw := gw_of (i := 390) (by decide +kernel) (by decide +kernel)
theorem ml_J0_1059 : Cond.methodLink RJ0 1059 yJ3_checkIndex_8e157 ∈ gw := gw_of (i := 387) (by decide +kernel) (by decide +kernel)
theorem ml_J1_9 : Cond.methodLink RJ1 9 yJ0_checkIndex_df160 ∈ gw := gw_of (i := 382) (by decide +kernel) (by decide +kernel)
theorem co_X0_init : Cond.code yX0_init cX0_init 2 none ∈ gw := gw_of (i := 339) (by decide +kernel) (by decide +kernel)
theorem im_X0_init : Cond.instanceMethod yX0_init ∈ gw := gw_of (i := 338) (by decide +kernel) (by decide +kernel)
theorem co_X0_forget : Cond.code yX0_forget cX0_forget 1 none ∈ gw := gw_of (i := 525) (by decide +kernel) (by decide +kernel)
theorem im_X0_forget : Cond.instanceMethod yX0_forget ∈ gw := gw_of (i := 523) (by decide +kernel) (by decide +kernel)
theorem se_X0_forget : Cond.selects RX0 yX0_forget yX0_forget ∈ gw := gw_of (i := 524) (by decide +kernel) (by decide +kernel)
theorem co_X0_reckon : Cond.code yX0_reckon cX0_reckon 4 none ∈ gw := gw_of (i := 785) (by decide +kernel) (by decide +kernel)
theorem im_X0_reckon : Cond.instanceMethod yX0_reckon ∈ gw := gw_of (i := 783) (by decide +kernel) (by decide +kernel)
theorem se_X0_reckon : Cond.selects RX0 yX0_reckon yX0_reckon ∈ gw := gw_of (i := 784) (by decide +kernel) (by decide +kernel)
theorem co_X0_has : Cond.code yX0_has cX0_has 2 (some .boolean) ∈ gw := gw_of (i := 807) (by decide +kernel) (by decide +kernel)
theorem im_X0_has : Cond.instanceMethod yX0_has ∈ gw := gw_of (i := 805) (by decide +kernel) (by decide +kernel)
theorem se_X0_has : Cond.selects RX0 yX0_has yX0_has ∈ gw := gw_of (i := 806) (by decide +kernel) (by decide +kernel)
theorem co_X0_setFor : Cond.code yX0_setFor cX0_setFor 2 (some .int) ∈ gw := gw_of (i := 811) (by decide +kernel) (by decide +kernel)
theorem im_X0_setFor : Cond.instanceMethod yX0_setFor ∈ gw := gw_of (i := 809) (by decide +kernel) (by decide +kernel)
theorem se_X0_setFor : Cond.selects RX0 yX0_setFor yX0_setFor ∈ gw := gw_of (i := 810) (by decide +kernel) (by decide +kernel)
theorem co_X0_leastPower : Cond.code yX0_leastPower cX0_leastPower 2 (some .int) ∈ gw := gw_of (i := 815) (by decide +kernel) (by decide +kernel)
theorem im_X0_leastPower : Cond.instanceMethod yX0_leastPower ∈ gw := gw_of (i := 813) (by decide +kernel) (by decide +kernel)
theorem se_X0_leastPower : Cond.selects RX0 yX0_leastPower yX0_leastPower ∈ gw := gw_of (i := 814) (by decide +kernel) (by decide +kernel)
theorem co_X0_addMachine : Cond.code yX0_addMachine cX0_addMachine 4 none ∈ gw := gw_of (i := 792) (by decide +kernel) (by decide +kernel)
theorem im_X0_addMachine : Cond.instanceMethod yX0_addMachine ∈ gw := gw_of (i := 791) (by decide +kernel) (by decide +kernel)
theorem se_X0_addMachine : Cond.selects RX0 yX0_addMachine yX0_addMachine ∈ gw := gw_of (i := 18) (by decide +kernel) (by decide +kernel)
theorem co_X0_fillRow : Cond.code yX0_fillRow cX0_fillRow 3 none ∈ gw := gw_of (i := 796) (by decide +kernel) (by decide +kernel)
theorem im_X0_fillRow : Cond.instanceMethod yX0_fillRow ∈ gw := gw_of (i := 795) (by decide +kernel) (by decide +kernel)
theorem se_X0_fillRow : Cond.selects RX0 yX0_fillRow yX0_fillRow ∈ gw := gw_of (i := 19) (by decide +kernel) (by decide +kernel)
theorem co_X0_leastWith : Cond.code yX0_leastWith cX0_leastWith 7 (some .int) ∈ gw := gw_of (i := 803) (by decide +kernel) (by decide +kernel)
theorem im_X0_leastWith : Cond.instanceMethod yX0_leastWith ∈ gw := gw_of (i := 802) (by decide +kernel) (by decide +kernel)
theorem se_X0_leastWith : Cond.selects RX0 yX0_leastWith yX0_leastWith ∈ gw := gw_of (i := 20) (by decide +kernel) (by decide +kernel)
theorem co_X1_init : Cond.code yX1_init cX1_init 2 none ∈ gw := gw_of (i := 268) (by decide +kernel) (by decide +kernel)
theorem im_X1_init : Cond.instanceMethod yX1_init ∈ gw := gw_of (i := 267) (by decide +kernel) (by decide +kernel)
theorem co_X1_forget : Cond.code yX1_forget cX1_forget 1 none ∈ gw := gw_of (i := 517) (by decide +kernel) (by decide +kernel)
theorem im_X1_forget : Cond.instanceMethod yX1_forget ∈ gw := gw_of (i := 515) (by decide +kernel) (by decide +kernel)
theorem se_X1_forget : Cond.selects RX1 yX1_forget yX1_forget ∈ gw := gw_of (i := 516) (by decide +kernel) (by decide +kernel)
theorem co_X1_keep : Cond.code yX1_keep cX1_keep 2 none ∈ gw := gw_of (i := 537) (by decide +kernel) (by decide +kernel)
theorem im_X1_keep : Cond.instanceMethod yX1_keep ∈ gw := gw_of (i := 535) (by decide +kernel) (by decide +kernel)
theorem se_X1_keep : Cond.selects RX1 yX1_keep yX1_keep ∈ gw := gw_of (i := 536) (by decide +kernel) (by decide +kernel)
theorem co_X1_giveBack : Cond.code yX1_giveBack cX1_giveBack 2 (some .boolean) ∈ gw := gw_of (i := 739) (by decide +kernel) (by decide +kernel)
theorem im_X1_giveBack : Cond.instanceMethod yX1_giveBack ∈ gw := gw_of (i := 737) (by decide +kernel) (by decide +kernel)
theorem se_X1_giveBack : Cond.selects RX1 yX1_giveBack yX1_giveBack ∈ gw := gw_of (i := 738) (by decide +kernel) (by decide +kernel)
theorem co_X2_init : Cond.code yX2_init cX2_init 1 none ∈ gw := gw_of (i := 110) (by decide +kernel) (by decide +kernel)
theorem im_X2_init : Cond.instanceMethod yX2_init ∈ gw := gw_of (i := 109) (by decide +kernel) (by decide +kernel)
theorem co_X2_reset : Cond.code yX2_reset cX2_reset 1 none ∈ gw := gw_of (i := 420) (by decide +kernel) (by decide +kernel)
theorem im_X2_reset : Cond.instanceMethod yX2_reset ∈ gw := gw_of (i := 418) (by decide +kernel) (by decide +kernel)
theorem se_X2_reset : Cond.selects RX2 yX2_reset yX2_reset ∈ gw := gw_of (i := 419) (by decide +kernel) (by decide +kernel)
theorem co_X2_take : Cond.code yX2_take cX2_take 3 none ∈ gw := gw_of (i := 453) (by decide +kernel) (by decide +kernel)
theorem im_X2_take : Cond.instanceMethod yX2_take ∈ gw := gw_of (i := 451) (by decide +kernel) (by decide +kernel)
theorem se_X2_take : Cond.selects RX2 yX2_take yX2_take ∈ gw := gw_of (i := 452) (by decide +kernel) (by decide +kernel)
theorem co_X2_takeMachine : Cond.code yX2_takeMachine cX2_takeMachine 2 none ∈ gw := gw_of (i := 458) (by decide +kernel) (by decide +kernel)
theorem im_X2_takeMachine : Cond.instanceMethod yX2_takeMachine ∈ gw := gw_of (i := 457) (by decide +kernel) (by decide +kernel)
theorem se_X2_takeMachine : Cond.selects RX2 yX2_takeMachine yX2_takeMachine ∈ gw := gw_of (i := 4) (by decide +kernel) (by decide +kernel)
theorem co_X2_all : Cond.code yX2_all cX2_all 1 (some .int) ∈ gw := gw_of (i := 770) (by decide +kernel) (by decide +kernel)
theorem im_X2_all : Cond.instanceMethod yX2_all ∈ gw := gw_of (i := 768) (by decide +kernel) (by decide +kernel)
theorem se_X2_all : Cond.selects RX2 yX2_all yX2_all ∈ gw := gw_of (i := 769) (by decide +kernel) (by decide +kernel)
theorem co_X2_powerAt : Cond.code yX2_powerAt cX2_powerAt 4 (some .int) ∈ gw := gw_of (i := 655) (by decide +kernel) (by decide +kernel)
theorem im_X2_powerAt : Cond.instanceMethod yX2_powerAt ∈ gw := gw_of (i := 653) (by decide +kernel) (by decide +kernel)
theorem se_X2_powerAt : Cond.selects RX2 yX2_powerAt yX2_powerAt ∈ gw := gw_of (i := 654) (by decide +kernel) (by decide +kernel)
theorem co_X2_can : Cond.code yX2_can cX2_can 3 (some .boolean) ∈ gw := gw_of (i := 640) (by decide +kernel) (by decide +kernel)
theorem im_X2_can : Cond.instanceMethod yX2_can ∈ gw := gw_of (i := 638) (by decide +kernel) (by decide +kernel)
theorem se_X2_can : Cond.selects RX2 yX2_can yX2_can ∈ gw := gw_of (i := 639) (by decide +kernel) (by decide +kernel)
theorem co_X2_leasts : Cond.code yX2_leasts cX2_leasts 2 (some .int) ∈ gw := gw_of (i := 615) (by decide +kernel) (by decide +kernel)
theorem im_X2_leasts : Cond.instanceMethod yX2_leasts ∈ gw := gw_of (i := 613) (by decide +kernel) (by decide +kernel)
theorem se_X2_leasts : Cond.selects RX2 yX2_leasts yX2_leasts ∈ gw := gw_of (i := 614) (by decide +kernel) (by decide +kernel)
theorem co_X2_mosts : Cond.code yX2_mosts cX2_mosts 2 (some .int) ∈ gw := gw_of (i := 623) (by decide +kernel) (by decide +kernel)
theorem im_X2_mosts : Cond.instanceMethod yX2_mosts ∈ gw := gw_of (i := 621) (by decide +kernel) (by decide +kernel)
theorem se_X2_mosts : Cond.selects RX2 yX2_mosts yX2_mosts ∈ gw := gw_of (i := 622) (by decide +kernel) (by decide +kernel)
theorem co_X2_flows : Cond.code yX2_flows cX2_flows 2 (some .int) ∈ gw := gw_of (i := 826) (by decide +kernel) (by decide +kernel)
theorem im_X2_flows : Cond.instanceMethod yX2_flows ∈ gw := gw_of (i := 824) (by decide +kernel) (by decide +kernel)
theorem se_X2_flows : Cond.selects RX2 yX2_flows yX2_flows ∈ gw := gw_of (i := 825) (by decide +kernel) (by decide +kernel)
theorem co_X2_sumOver : Cond.code yX2_sumOver cX2_sumOver 5 (some .int) ∈ gw := gw_of (i := 619) (by decide +kernel) (by decide +kernel)
theorem im_X2_sumOver : Cond.instanceMethod yX2_sumOver ∈ gw := gw_of (i := 618) (by decide +kernel) (by decide +kernel)
theorem se_X2_sumOver : Cond.selects RX2 yX2_sumOver yX2_sumOver ∈ gw := gw_of (i := 7) (by decide +kernel) (by decide +kernel)
theorem co_X3_init : Cond.code yX3_init cX3_init 1 none ∈ gw := gw_of (i := 89) (by decide +kernel) (by decide +kernel)
theorem im_X3_init : Cond.instanceMethod yX3_init ∈ gw := gw_of (i := 88) (by decide +kernel) (by decide +kernel)
theorem co_X3_add : Cond.code yX3_add cX3_add 2 (some .boolean) ∈ gw := gw_of (i := 412) (by decide +kernel) (by decide +kernel)
theorem im_X3_add : Cond.instanceMethod yX3_add ∈ gw := gw_of (i := 410) (by decide +kernel) (by decide +kernel)
theorem se_X3_add : Cond.selects RX3 yX3_add yX3_add ∈ gw := gw_of (i := 411) (by decide +kernel) (by decide +kernel)
theorem co_X3_empty : Cond.code yX3_empty cX3_empty 1 none ∈ gw := gw_of (i := 462) (by decide +kernel) (by decide +kernel)
theorem im_X3_empty : Cond.instanceMethod yX3_empty ∈ gw := gw_of (i := 460) (by decide +kernel) (by decide +kernel)
theorem se_X3_empty : Cond.selects RX3 yX3_empty yX3_empty ∈ gw := gw_of (i := 461) (by decide +kernel) (by decide +kernel)
theorem co_X3_firstFault : Cond.code yX3_firstFault cX3_firstFault 5 (some .int) ∈ gw := gw_of (i := 504) (by decide +kernel) (by decide +kernel)
theorem im_X3_firstFault : Cond.instanceMethod yX3_firstFault ∈ gw := gw_of (i := 502) (by decide +kernel) (by decide +kernel)
theorem se_X3_firstFault : Cond.selects RX3 yX3_firstFault yX3_firstFault ∈ gw := gw_of (i := 503) (by decide +kernel) (by decide +kernel)
theorem co_X3_machines : Cond.code yX3_machines cX3_machines 3 (some .int) ∈ gw := gw_of (i := 512) (by decide +kernel) (by decide +kernel)
theorem im_X3_machines : Cond.instanceMethod yX3_machines ∈ gw := gw_of (i := 510) (by decide +kernel) (by decide +kernel)
theorem se_X3_machines : Cond.selects RX3 yX3_machines yX3_machines ∈ gw := gw_of (i := 511) (by decide +kernel) (by decide +kernel)
theorem co_X3_layInto : Cond.code yX3_layInto cX3_layInto 5 none ∈ gw := gw_of (i := 416) (by decide +kernel) (by decide +kernel)
theorem im_X3_layInto : Cond.instanceMethod yX3_layInto ∈ gw := gw_of (i := 414) (by decide +kernel) (by decide +kernel)
theorem se_X3_layInto : Cond.selects RX3 yX3_layInto yX3_layInto ∈ gw := gw_of (i := 415) (by decide +kernel) (by decide +kernel)
theorem co_X3_readItem : Cond.code yX3_readItem cX3_readItem 4 (some .int) ∈ gw := gw_of (i := 424) (by decide +kernel) (by decide +kernel)
theorem im_X3_readItem : Cond.instanceMethod yX3_readItem ∈ gw := gw_of (i := 423) (by decide +kernel) (by decide +kernel)
theorem se_X3_readItem : Cond.selects RX3 yX3_readItem yX3_readItem ∈ gw := gw_of (i := 0) (by decide +kernel) (by decide +kernel)
theorem co_X3_readNumbers : Cond.code yX3_readNumbers cX3_readNumbers 9 (some .int) ∈ gw := gw_of (i := 434) (by decide +kernel) (by decide +kernel)
theorem im_X3_readNumbers : Cond.instanceMethod yX3_readNumbers ∈ gw := gw_of (i := 433) (by decide +kernel) (by decide +kernel)
theorem se_X3_readNumbers : Cond.selects RX3 yX3_readNumbers yX3_readNumbers ∈ gw := gw_of (i := 2) (by decide +kernel) (by decide +kernel)
theorem co_X3_isFigure : Cond.code yX3_isFigure cX3_isFigure 3 (some .boolean) ∈ gw := gw_of (i := 441) (by decide +kernel) (by decide +kernel)
theorem im_X3_isFigure : Cond.instanceMethod yX3_isFigure ∈ gw := gw_of (i := 440) (by decide +kernel) (by decide +kernel)
theorem se_X3_isFigure : Cond.selects RX3 yX3_isFigure yX3_isFigure ∈ gw := gw_of (i := 3) (by decide +kernel) (by decide +kernel)
theorem co_X3_letterAt : Cond.code yX3_letterAt cX3_letterAt 2 (some .char) ∈ gw := gw_of (i := 428) (by decide +kernel) (by decide +kernel)
theorem im_X3_letterAt : Cond.instanceMethod yX3_letterAt ∈ gw := gw_of (i := 427) (by decide +kernel) (by decide +kernel)
theorem se_X3_letterAt : Cond.selects RX3 yX3_letterAt yX3_letterAt ∈ gw := gw_of (i := 1) (by decide +kernel) (by decide +kernel)
theorem co_X4_init : Cond.code yX4_init cX4_init 2 none ∈ gw := gw_of (i := 294) (by decide +kernel) (by decide +kernel)
theorem im_X4_init : Cond.instanceMethod yX4_init ∈ gw := gw_of (i := 293) (by decide +kernel) (by decide +kernel)
theorem co_X4_forget : Cond.code yX4_forget cX4_forget 1 none ∈ gw := gw_of (i := 521) (by decide +kernel) (by decide +kernel)
theorem im_X4_forget : Cond.instanceMethod yX4_forget ∈ gw := gw_of (i := 519) (by decide +kernel) (by decide +kernel)
theorem se_X4_forget : Cond.selects RX4 yX4_forget yX4_forget ∈ gw := gw_of (i := 520) (by decide +kernel) (by decide +kernel)
theorem co_X4_find : Cond.code yX4_find cX4_find 5 (some .boolean) ∈ gw := gw_of (i := 636) (by decide +kernel) (by decide +kernel)
theorem im_X4_find : Cond.instanceMethod yX4_find ∈ gw := gw_of (i := 634) (by decide +kernel) (by decide +kernel)
theorem se_X4_find : Cond.selects RX4 yX4_find yX4_find ∈ gw := gw_of (i := 635) (by decide +kernel) (by decide +kernel)
theorem co_X4_leastPower : Cond.code yX4_leastPower cX4_leastPower 1 (some .int) ∈ gw := gw_of (i := 671) (by decide +kernel) (by decide +kernel)
theorem im_X4_leastPower : Cond.instanceMethod yX4_leastPower ∈ gw := gw_of (i := 669) (by decide +kernel) (by decide +kernel)
theorem se_X4_leastPower : Cond.selects RX4 yX4_leastPower yX4_leastPower ∈ gw := gw_of (i := 670) (by decide +kernel) (by decide +kernel)
theorem co_X4_part : Cond.code yX4_part cX4_part 2 (some .int) ∈ gw := gw_of (i := 753) (by decide +kernel) (by decide +kernel)
theorem im_X4_part : Cond.instanceMethod yX4_part ∈ gw := gw_of (i := 751) (by decide +kernel) (by decide +kernel)
theorem se_X4_part : Cond.selects RX4 yX4_part yX4_part ∈ gw := gw_of (i := 752) (by decide +kernel) (by decide +kernel)
theorem co_X4_shiftOf : Cond.code yX4_shiftOf cX4_shiftOf 1 (some .int) ∈ gw := gw_of (i := 658) (by decide +kernel) (by decide +kernel)
theorem sm_X4_shiftOf : Cond.static yX4_shiftOf ∈ gw := gw_of (i := 657) (by decide +kernel) (by decide +kernel)
theorem co_X4_addMachine : Cond.code yX4_addMachine cX4_addMachine 6 none ∈ gw := gw_of (i := 647) (by decide +kernel) (by decide +kernel)
theorem im_X4_addMachine : Cond.instanceMethod yX4_addMachine ∈ gw := gw_of (i := 646) (by decide +kernel) (by decide +kernel)
theorem se_X4_addMachine : Cond.selects RX4 yX4_addMachine yX4_addMachine ∈ gw := gw_of (i := 8) (by decide +kernel) (by decide +kernel)
theorem co_X4_fillRow : Cond.code yX4_fillRow cX4_fillRow 3 none ∈ gw := gw_of (i := 651) (by decide +kernel) (by decide +kernel)
theorem im_X4_fillRow : Cond.instanceMethod yX4_fillRow ∈ gw := gw_of (i := 650) (by decide +kernel) (by decide +kernel)
theorem se_X4_fillRow : Cond.selects RX4 yX4_fillRow yX4_fillRow ∈ gw := gw_of (i := 9) (by decide +kernel) (by decide +kernel)
theorem co_X4_leastWith : Cond.code yX4_leastWith cX4_leastWith 9 (some .long) ∈ gw := gw_of (i := 666) (by decide +kernel) (by decide +kernel)
theorem im_X4_leastWith : Cond.instanceMethod yX4_leastWith ∈ gw := gw_of (i := 665) (by decide +kernel) (by decide +kernel)
theorem se_X4_leastWith : Cond.selects RX4 yX4_leastWith yX4_leastWith ∈ gw := gw_of (i := 10) (by decide +kernel) (by decide +kernel)
theorem co_X5_init : Cond.code yX5_init cX5_init 2 none ∈ gw := gw_of (i := 288) (by decide +kernel) (by decide +kernel)
theorem im_X5_init : Cond.instanceMethod yX5_init ∈ gw := gw_of (i := 287) (by decide +kernel) (by decide +kernel)
theorem co_X5_made : Cond.code yX5_made cX5_made 2 (some .int) ∈ gw := gw_of (i := 611) (by decide +kernel) (by decide +kernel)
theorem im_X5_made : Cond.instanceMethod yX5_made ∈ gw := gw_of (i := 609) (by decide +kernel) (by decide +kernel)
theorem se_X5_made : Cond.selects RX5 yX5_made yX5_made ∈ gw := gw_of (i := 610) (by decide +kernel) (by decide +kernel)
theorem co_X5_powerNow : Cond.code yX5_powerNow cX5_powerNow 2 (some .int) ∈ gw := gw_of (i := 607) (by decide +kernel) (by decide +kernel)
theorem im_X5_powerNow : Cond.instanceMethod yX5_powerNow ∈ gw := gw_of (i := 605) (by decide +kernel) (by decide +kernel)
theorem se_X5_powerNow : Cond.selects RX5 yX5_powerNow yX5_powerNow ∈ gw := gw_of (i := 606) (by decide +kernel) (by decide +kernel)
theorem co_X5_madeBy : Cond.code yX5_madeBy cX5_madeBy 3 (some .int) ∈ gw := gw_of (i := 749) (by decide +kernel) (by decide +kernel)
theorem im_X5_madeBy : Cond.instanceMethod yX5_madeBy ∈ gw := gw_of (i := 747) (by decide +kernel) (by decide +kernel)
theorem se_X5_madeBy : Cond.selects RX5 yX5_madeBy yX5_madeBy ∈ gw := gw_of (i := 748) (by decide +kernel) (by decide +kernel)
theorem co_X5_pass : Cond.code yX5_pass cX5_pass 3 none ∈ gw := gw_of (i := 603) (by decide +kernel) (by decide +kernel)
theorem im_X5_pass : Cond.instanceMethod yX5_pass ∈ gw := gw_of (i := 601) (by decide +kernel) (by decide +kernel)
theorem se_X5_pass : Cond.selects RX5 yX5_pass yX5_pass ∈ gw := gw_of (i := 602) (by decide +kernel) (by decide +kernel)
theorem co_X5_comeOn : Cond.code yX5_comeOn cX5_comeOn 3 none ∈ gw := gw_of (i := 675) (by decide +kernel) (by decide +kernel)
theorem im_X5_comeOn : Cond.instanceMethod yX5_comeOn ∈ gw := gw_of (i := 674) (by decide +kernel) (by decide +kernel)
theorem se_X5_comeOn : Cond.selects RX5 yX5_comeOn yX5_comeOn ∈ gw := gw_of (i := 11) (by decide +kernel) (by decide +kernel)
theorem co_X5_comeBack : Cond.code yX5_comeBack cX5_comeBack 3 none ∈ gw := gw_of (i := 693) (by decide +kernel) (by decide +kernel)
theorem im_X5_comeBack : Cond.instanceMethod yX5_comeBack ∈ gw := gw_of (i := 692) (by decide +kernel) (by decide +kernel)
theorem se_X5_comeBack : Cond.selects RX5 yX5_comeBack yX5_comeBack ∈ gw := gw_of (i := 12) (by decide +kernel) (by decide +kernel)
theorem co_X5_stageUp : Cond.code yX5_stageUp cX5_stageUp 3 none ∈ gw := gw_of (i := 710) (by decide +kernel) (by decide +kernel)
theorem im_X5_stageUp : Cond.instanceMethod yX5_stageUp ∈ gw := gw_of (i := 709) (by decide +kernel) (by decide +kernel)
theorem se_X5_stageUp : Cond.selects RX5 yX5_stageUp yX5_stageUp ∈ gw := gw_of (i := 14) (by decide +kernel) (by decide +kernel)
theorem co_X5_stageDown : Cond.code yX5_stageDown cX5_stageDown 3 none ∈ gw := gw_of (i := 727) (by decide +kernel) (by decide +kernel)
theorem im_X5_stageDown : Cond.instanceMethod yX5_stageDown ∈ gw := gw_of (i := 726) (by decide +kernel) (by decide +kernel)
theorem se_X5_stageDown : Cond.selects RX5 yX5_stageDown yX5_stageDown ∈ gw := gw_of (i := 16) (by decide +kernel) (by decide +kernel)
theorem co_X5_gapIsOver : Cond.code yX5_gapIsOver cX5_gapIsOver 3 (some .boolean) ∈ gw := gw_of (i := 697) (by decide +kernel) (by decide +kernel)
theorem im_X5_gapIsOver : Cond.instanceMethod yX5_gapIsOver ∈ gw := gw_of (i := 696) (by decide +kernel) (by decide +kernel)
theorem se_X5_gapIsOver : Cond.selects RX5 yX5_gapIsOver yX5_gapIsOver ∈ gw := gw_of (i := 13) (by decide +kernel) (by decide +kernel)
theorem co_X5_mayStart : Cond.code yX5_mayStart cX5_mayStart 4 (some .boolean) ∈ gw := gw_of (i := 718) (by decide +kernel) (by decide +kernel)
theorem im_X5_mayStart : Cond.instanceMethod yX5_mayStart ∈ gw := gw_of (i := 716) (by decide +kernel) (by decide +kernel)
theorem se_X5_mayStart : Cond.selects RX5 yX5_mayStart yX5_mayStart ∈ gw := gw_of (i := 717) (by decide +kernel) (by decide +kernel)
theorem co_X5_nextToStart : Cond.code yX5_nextToStart cX5_nextToStart 4 (some .int) ∈ gw := gw_of (i := 714) (by decide +kernel) (by decide +kernel)
theorem im_X5_nextToStart : Cond.instanceMethod yX5_nextToStart ∈ gw := gw_of (i := 713) (by decide +kernel) (by decide +kernel)
theorem se_X5_nextToStart : Cond.selects RX5 yX5_nextToStart yX5_nextToStart ∈ gw := gw_of (i := 15) (by decide +kernel) (by decide +kernel)
theorem co_X5_nextToStop : Cond.code yX5_nextToStop cX5_nextToStop 4 (some .int) ∈ gw := gw_of (i := 731) (by decide +kernel) (by decide +kernel)
theorem im_X5_nextToStop : Cond.instanceMethod yX5_nextToStop ∈ gw := gw_of (i := 730) (by decide +kernel) (by decide +kernel)
theorem se_X5_nextToStop : Cond.selects RX5 yX5_nextToStop yX5_nextToStop ∈ gw := gw_of (i := 17) (by decide +kernel) (by decide +kernel)
theorem co_X5_fall : Cond.code yX5_fall cX5_fall 5 none ∈ gw := gw_of (i := 580) (by decide +kernel) (by decide +kernel)
theorem im_X5_fall : Cond.instanceMethod yX5_fall ∈ gw := gw_of (i := 578) (by decide +kernel) (by decide +kernel)
theorem se_X5_fall : Cond.selects RX5 yX5_fall yX5_fall ∈ gw := gw_of (i := 579) (by decide +kernel) (by decide +kernel)
theorem co_X5_greatestOf : Cond.code yX5_greatestOf cX5_greatestOf 5 (some .int) ∈ gw := gw_of (i := 585) (by decide +kernel) (by decide +kernel)
theorem im_X5_greatestOf : Cond.instanceMethod yX5_greatestOf ∈ gw := gw_of (i := 584) (by decide +kernel) (by decide +kernel)
theorem se_X5_greatestOf : Cond.selects RX5 yX5_greatestOf yX5_greatestOf ∈ gw := gw_of (i := 6) (by decide +kernel) (by decide +kernel)
theorem co_X6_init : Cond.code yX6_init cX6_init 1 none ∈ gw := gw_of (i := 181) (by decide +kernel) (by decide +kernel)
theorem im_X6_init : Cond.instanceMethod yX6_init ∈ gw := gw_of (i := 180) (by decide +kernel) (by decide +kernel)
theorem co_X6_reset : Cond.code yX6_reset cX6_reset 1 none ∈ gw := gw_of (i := 186) (by decide +kernel) (by decide +kernel)
theorem im_X6_reset : Cond.instanceMethod yX6_reset ∈ gw := gw_of (i := 184) (by decide +kernel) (by decide +kernel)
theorem se_X6_reset : Cond.selects RX6 yX6_reset yX6_reset ∈ gw := gw_of (i := 185) (by decide +kernel) (by decide +kernel)
theorem co_X6_copyFrom : Cond.code yX6_copyFrom cX6_copyFrom 2 none ∈ gw := gw_of (i := 541) (by decide +kernel) (by decide +kernel)
theorem im_X6_copyFrom : Cond.instanceMethod yX6_copyFrom ∈ gw := gw_of (i := 539) (by decide +kernel) (by decide +kernel)
theorem se_X6_copyFrom : Cond.selects RX6 yX6_copyFrom yX6_copyFrom ∈ gw := gw_of (i := 540) (by decide +kernel) (by decide +kernel)
theorem co_X6_running : Cond.code yX6_running cX6_running 1 (some .int) ∈ gw := gw_of (i := 558) (by decide +kernel) (by decide +kernel)
theorem im_X6_running : Cond.instanceMethod yX6_running ∈ gw := gw_of (i := 556) (by decide +kernel) (by decide +kernel)
theorem se_X6_running : Cond.selects RX6 yX6_running yX6_running ∈ gw := gw_of (i := 557) (by decide +kernel) (by decide +kernel)
theorem co_X6_lift : Cond.code yX6_lift cX6_lift 1 (some .int) ∈ gw := gw_of (i := 631) (by decide +kernel) (by decide +kernel)
theorem im_X6_lift : Cond.instanceMethod yX6_lift ∈ gw := gw_of (i := 629) (by decide +kernel) (by decide +kernel)
theorem se_X6_lift : Cond.selects RX6 yX6_lift yX6_lift ∈ gw := gw_of (i := 630) (by decide +kernel) (by decide +kernel)
theorem co_X6_startedSoFar : Cond.code yX6_startedSoFar cX6_startedSoFar 3 (some .int) ∈ gw := gw_of (i := 599) (by decide +kernel) (by decide +kernel)
theorem im_X6_startedSoFar : Cond.instanceMethod yX6_startedSoFar ∈ gw := gw_of (i := 597) (by decide +kernel) (by decide +kernel)
theorem se_X6_startedSoFar : Cond.selects RX6 yX6_startedSoFar yX6_startedSoFar ∈ gw := gw_of (i := 598) (by decide +kernel) (by decide +kernel)
theorem co_X6_start : Cond.code yX6_start cX6_start 2 none ∈ gw := gw_of (i := 706) (by decide +kernel) (by decide +kernel)
theorem im_X6_start : Cond.instanceMethod yX6_start ∈ gw := gw_of (i := 704) (by decide +kernel) (by decide +kernel)
theorem se_X6_start : Cond.selects RX6 yX6_start yX6_start ∈ gw := gw_of (i := 705) (by decide +kernel) (by decide +kernel)
theorem co_X6_stop : Cond.code yX6_stop cX6_stop 2 none ∈ gw := gw_of (i := 554) (by decide +kernel) (by decide +kernel)
theorem im_X6_stop : Cond.instanceMethod yX6_stop ∈ gw := gw_of (i := 552) (by decide +kernel) (by decide +kernel)
theorem se_X6_stop : Cond.selects RX6 yX6_stop yX6_stop ∈ gw := gw_of (i := 553) (by decide +kernel) (by decide +kernel)
theorem co_X6_ticksSinceStart : Cond.code yX6_ticksSinceStart cX6_ticksSinceStart 3 (some .int) ∈ gw := gw_of (i := 679) (by decide +kernel) (by decide +kernel)
theorem im_X6_ticksSinceStart : Cond.instanceMethod yX6_ticksSinceStart ∈ gw := gw_of (i := 677) (by decide +kernel) (by decide +kernel)
theorem se_X6_ticksSinceStart : Cond.selects RX6 yX6_ticksSinceStart yX6_ticksSinceStart ∈ gw := gw_of (i := 678) (by decide +kernel) (by decide +kernel)
theorem co_X6_ticksSinceStop : Cond.code yX6_ticksSinceStop cX6_ticksSinceStop 3 (some .int) ∈ gw := gw_of (i := 722) (by decide +kernel) (by decide +kernel)
theorem im_X6_ticksSinceStop : Cond.instanceMethod yX6_ticksSinceStop ∈ gw := gw_of (i := 720) (by decide +kernel) (by decide +kernel)
theorem se_X6_ticksSinceStop : Cond.selects RX6 yX6_ticksSinceStop yX6_ticksSinceStop ∈ gw := gw_of (i := 721) (by decide +kernel) (by decide +kernel)
theorem co_X6_startBack : Cond.code yX6_startBack cX6_startBack 3 (some .int) ∈ gw := gw_of (i := 683) (by decide +kernel) (by decide +kernel)
theorem im_X6_startBack : Cond.instanceMethod yX6_startBack ∈ gw := gw_of (i := 681) (by decide +kernel) (by decide +kernel)
theorem se_X6_startBack : Cond.selects RX6 yX6_startBack yX6_startBack ∈ gw := gw_of (i := 682) (by decide +kernel) (by decide +kernel)
theorem co_X6_ringPlace : Cond.code yX6_ringPlace cX6_ringPlace 2 (some .int) ∈ gw := gw_of (i := 686) (by decide +kernel) (by decide +kernel)
theorem sm_X6_ringPlace : Cond.static yX6_ringPlace ∈ gw := gw_of (i := 685) (by decide +kernel) (by decide +kernel)
theorem co_X6_putOnList : Cond.code yX6_putOnList cX6_putOnList 2 none ∈ gw := gw_of (i := 591) (by decide +kernel) (by decide +kernel)
theorem im_X6_putOnList : Cond.instanceMethod yX6_putOnList ∈ gw := gw_of (i := 589) (by decide +kernel) (by decide +kernel)
theorem se_X6_putOnList : Cond.selects RX6 yX6_putOnList yX6_putOnList ∈ gw := gw_of (i := 590) (by decide +kernel) (by decide +kernel)
theorem co_X6_firstOfList : Cond.code yX6_firstOfList cX6_firstOfList 1 (some .int) ∈ gw := gw_of (i := 701) (by decide +kernel) (by decide +kernel)
theorem im_X6_firstOfList : Cond.instanceMethod yX6_firstOfList ∈ gw := gw_of (i := 699) (by decide +kernel) (by decide +kernel)
theorem se_X6_firstOfList : Cond.selects RX6 yX6_firstOfList yX6_firstOfList ∈ gw := gw_of (i := 700) (by decide +kernel) (by decide +kernel)
theorem co_X6_takeOffList : Cond.code yX6_takeOffList cX6_takeOffList 4 none ∈ gw := gw_of (i := 565) (by decide +kernel) (by decide +kernel)
theorem im_X6_takeOffList : Cond.instanceMethod yX6_takeOffList ∈ gw := gw_of (i := 563) (by decide +kernel) (by decide +kernel)
theorem se_X6_takeOffList : Cond.selects RX6 yX6_takeOffList yX6_takeOffList ∈ gw := gw_of (i := 564) (by decide +kernel) (by decide +kernel)
theorem co_X6_placeInList : Cond.code yX6_placeInList cX6_placeInList 3 (some .int) ∈ gw := gw_of (i := 757) (by decide +kernel) (by decide +kernel)
theorem im_X6_placeInList : Cond.instanceMethod yX6_placeInList ∈ gw := gw_of (i := 755) (by decide +kernel) (by decide +kernel)
theorem se_X6_placeInList : Cond.selects RX6 yX6_placeInList yX6_placeInList ∈ gw := gw_of (i := 756) (by decide +kernel) (by decide +kernel)
theorem co_X7_init : Cond.code yX7_init cX7_init 2 none ∈ gw := gw_of (i := 81) (by decide +kernel) (by decide +kernel)
theorem im_X7_init : Cond.instanceMethod yX7_init ∈ gw := gw_of (i := 80) (by decide +kernel) (by decide +kernel)
theorem co_X7_write : Cond.code yX7_write cX7_write 2 (some .int) ∈ gw := gw_of (i := 492) (by decide +kernel) (by decide +kernel)
theorem im_X7_write : Cond.instanceMethod yX7_write ∈ gw := gw_of (i := 490) (by decide +kernel) (by decide +kernel)
theorem se_X7_write : Cond.selects RX7 yX7_write yX7_write ∈ gw := gw_of (i := 491) (by decide +kernel) (by decide +kernel)
theorem co_X7_wipe : Cond.code yX7_wipe cX7_wipe 2 (some .int) ∈ gw := gw_of (i := 496) (by decide +kernel) (by decide +kernel)
theorem im_X7_wipe : Cond.instanceMethod yX7_wipe ∈ gw := gw_of (i := 494) (by decide +kernel) (by decide +kernel)
theorem se_X7_wipe : Cond.selects RX7 yX7_wipe yX7_wipe ∈ gw := gw_of (i := 495) (by decide +kernel) (by decide +kernel)
theorem co_X7_fault : Cond.code yX7_fault cX7_fault 1 (some .int) ∈ gw := gw_of (i := 500) (by decide +kernel) (by decide +kernel)
theorem im_X7_fault : Cond.instanceMethod yX7_fault ∈ gw := gw_of (i := 498) (by decide +kernel) (by decide +kernel)
theorem se_X7_fault : Cond.selects RX7 yX7_fault yX7_fault ∈ gw := gw_of (i := 499) (by decide +kernel) (by decide +kernel)
theorem co_X7_lay : Cond.code yX7_lay cX7_lay 1 (some .int) ∈ gw := gw_of (i := 508) (by decide +kernel) (by decide +kernel)
theorem im_X7_lay : Cond.instanceMethod yX7_lay ∈ gw := gw_of (i := 506) (by decide +kernel) (by decide +kernel)
theorem se_X7_lay : Cond.selects RX7 yX7_lay yX7_lay ∈ gw := gw_of (i := 507) (by decide +kernel) (by decide +kernel)
theorem co_X7_tell : Cond.code yX7_tell cX7_tell 4 (some .int) ∈ gw := gw_of (i := 529) (by decide +kernel) (by decide +kernel)
theorem im_X7_tell : Cond.instanceMethod yX7_tell ∈ gw := gw_of (i := 527) (by decide +kernel) (by decide +kernel)
theorem se_X7_tell : Cond.selects RX7 yX7_tell yX7_tell ∈ gw := gw_of (i := 528) (by decide +kernel) (by decide +kernel)
theorem co_X7_lock : Cond.code yX7_lock cX7_lock 4 (some .int) ∈ gw := gw_of (i := 546) (by decide +kernel) (by decide +kernel)
theorem im_X7_lock : Cond.instanceMethod yX7_lock ∈ gw := gw_of (i := 544) (by decide +kernel) (by decide +kernel)
theorem se_X7_lock : Cond.selects RX7 yX7_lock yX7_lock ∈ gw := gw_of (i := 545) (by decide +kernel) (by decide +kernel)
theorem co_X7_dip : Cond.code yX7_dip cX7_dip 2 (some .int) ∈ gw := gw_of (i := 575) (by decide +kernel) (by decide +kernel)
theorem im_X7_dip : Cond.instanceMethod yX7_dip ∈ gw := gw_of (i := 573) (by decide +kernel) (by decide +kernel)
theorem se_X7_dip : Cond.selects RX7 yX7_dip yX7_dip ∈ gw := gw_of (i := 574) (by decide +kernel) (by decide +kernel)
theorem co_X7_tick : Cond.code yX7_tick cX7_tick 4 (some .int) ∈ gw := gw_of (i := 595) (by decide +kernel) (by decide +kernel)
theorem im_X7_tick : Cond.instanceMethod yX7_tick ∈ gw := gw_of (i := 593) (by decide +kernel) (by decide +kernel)
theorem se_X7_tick : Cond.selects RX7 yX7_tick yX7_tick ∈ gw := gw_of (i := 594) (by decide +kernel) (by decide +kernel)
theorem co_X7_undo : Cond.code yX7_undo cX7_undo 1 (some .int) ∈ gw := gw_of (i := 735) (by decide +kernel) (by decide +kernel)
theorem im_X7_undo : Cond.instanceMethod yX7_undo ∈ gw := gw_of (i := 733) (by decide +kernel) (by decide +kernel)
theorem se_X7_undo : Cond.selects RX7 yX7_undo yX7_undo ∈ gw := gw_of (i := 734) (by decide +kernel) (by decide +kernel)
theorem co_X7_machine : Cond.code yX7_machine cX7_machine 3 (some .int) ∈ gw := gw_of (i := 743) (by decide +kernel) (by decide +kernel)
theorem im_X7_machine : Cond.instanceMethod yX7_machine ∈ gw := gw_of (i := 741) (by decide +kernel) (by decide +kernel)
theorem se_X7_machine : Cond.selects RX7 yX7_machine yX7_machine ∈ gw := gw_of (i := 742) (by decide +kernel) (by decide +kernel)
theorem co_X7_power : Cond.code yX7_power cX7_power 4 (some .int) ∈ gw := gw_of (i := 761) (by decide +kernel) (by decide +kernel)
theorem im_X7_power : Cond.instanceMethod yX7_power ∈ gw := gw_of (i := 759) (by decide +kernel) (by decide +kernel)
theorem se_X7_power : Cond.selects RX7 yX7_power yX7_power ∈ gw := gw_of (i := 760) (by decide +kernel) (by decide +kernel)
theorem co_X7_share : Cond.code yX7_share cX7_share 4 (some .int) ∈ gw := gw_of (i := 766) (by decide +kernel) (by decide +kernel)
theorem im_X7_share : Cond.instanceMethod yX7_share ∈ gw := gw_of (i := 764) (by decide +kernel) (by decide +kernel)
theorem se_X7_share : Cond.selects RX7 yX7_share yX7_share ∈ gw := gw_of (i := 765) (by decide +kernel) (by decide +kernel)
theorem co_X7_best : Cond.code yX7_best cX7_best 3 (some .int) ∈ gw := gw_of (i := 781) (by decide +kernel) (by decide +kernel)
theorem im_X7_best : Cond.instanceMethod yX7_best ∈ gw := gw_of (i := 779) (by decide +kernel) (by decide +kernel)
theorem se_X7_best : Cond.selects RX7 yX7_best yX7_best ∈ gw := gw_of (i := 780) (by decide +kernel) (by decide +kernel)
theorem co_X7_now : Cond.code yX7_now cX7_now 4 (some .int) ∈ gw := gw_of (i := 819) (by decide +kernel) (by decide +kernel)
theorem im_X7_now : Cond.instanceMethod yX7_now ∈ gw := gw_of (i := 817) (by decide +kernel) (by decide +kernel)
theorem se_X7_now : Cond.selects RX7 yX7_now yX7_now ∈ gw := gw_of (i := 818) (by decide +kernel) (by decide +kernel)
theorem co_X7_ahead : Cond.code yX7_ahead cX7_ahead 5 (some .int) ∈ gw := gw_of (i := 834) (by decide +kernel) (by decide +kernel)
theorem im_X7_ahead : Cond.instanceMethod yX7_ahead ∈ gw := gw_of (i := 832) (by decide +kernel) (by decide +kernel)
theorem se_X7_ahead : Cond.selects RX7 yX7_ahead yX7_ahead ∈ gw := gw_of (i := 833) (by decide +kernel) (by decide +kernel)
theorem co_X7_count : Cond.code yX7_count cX7_count 2 (some .int) ∈ gw := gw_of (i := 839) (by decide +kernel) (by decide +kernel)
theorem im_X7_count : Cond.instanceMethod yX7_count ∈ gw := gw_of (i := 837) (by decide +kernel) (by decide +kernel)
theorem se_X7_count : Cond.selects RX7 yX7_count yX7_count ∈ gw := gw_of (i := 838) (by decide +kernel) (by decide +kernel)
theorem co_X7_isMachine : Cond.code yX7_isMachine cX7_isMachine 2 (some .boolean) ∈ gw := gw_of (i := 550) (by decide +kernel) (by decide +kernel)
theorem im_X7_isMachine : Cond.instanceMethod yX7_isMachine ∈ gw := gw_of (i := 549) (by decide +kernel) (by decide +kernel)
theorem se_X7_isMachine : Cond.selects RX7 yX7_isMachine yX7_isMachine ∈ gw := gw_of (i := 5) (by decide +kernel) (by decide +kernel)
theorem co_X7_isLoad : Cond.code yX7_isLoad cX7_isLoad 1 (some .boolean) ∈ gw := gw_of (i := 773) (by decide +kernel) (by decide +kernel)
theorem sm_X7_isLoad : Cond.static yX7_isLoad ∈ gw := gw_of (i := 772) (by decide +kernel) (by decide +kernel)
theorem co_X7_bitOf : Cond.code yX7_bitOf cX7_bitOf 2 (some .int) ∈ gw := gw_of (i := 561) (by decide +kernel) (by decide +kernel)
theorem sm_X7_bitOf : Cond.static yX7_bitOf ∈ gw := gw_of (i := 560) (by decide +kernel) (by decide +kernel)
theorem co_X7_aboveBest : Cond.code yX7_aboveBest cX7_aboveBest 2 (some .int) ∈ gw := gw_of (i := 830) (by decide +kernel) (by decide +kernel)
theorem im_X7_aboveBest : Cond.instanceMethod yX7_aboveBest ∈ gw := gw_of (i := 829) (by decide +kernel) (by decide +kernel)
theorem se_X7_aboveBest : Cond.selects RX7 yX7_aboveBest yX7_aboveBest ∈ gw := gw_of (i := 21) (by decide +kernel) (by decide +kernel)
theorem co_X8_init : Cond.code yX8_init cX8_init 1 none ∈ gw := gw_of (i := 844) (by decide +kernel) (by decide +kernel)
theorem im_X8_init : Cond.instanceMethod yX8_init ∈ gw := gw_of (i := 843) (by decide +kernel) (by decide +kernel)
theorem co_X8_in : Cond.code yX8_in cX8_in 3 (some .boolean) ∈ gw := gw_of (i := 910) (by decide +kernel) (by decide +kernel)
theorem sm_X8_in : Cond.static yX8_in ∈ gw := gw_of (i := 909) (by decide +kernel) (by decide +kernel)
theorem co_X8_beginRead : Cond.code yX8_beginRead cX8_beginRead 2 none ∈ gw := gw_of (i := 849) (by decide +kernel) (by decide +kernel)
theorem im_X8_beginRead : Cond.instanceMethod yX8_beginRead ∈ gw := gw_of (i := 848) (by decide +kernel) (by decide +kernel)
theorem se_X8_beginRead : Cond.selects RX8 yX8_beginRead yX8_beginRead ∈ gw := gw_of (i := 22) (by decide +kernel) (by decide +kernel)
theorem co_X8_putMachine : Cond.code yX8_putMachine cX8_putMachine 8 none ∈ gw := gw_of (i := 853) (by decide +kernel) (by decide +kernel)
theorem im_X8_putMachine : Cond.instanceMethod yX8_putMachine ∈ gw := gw_of (i := 852) (by decide +kernel) (by decide +kernel)
theorem se_X8_putMachine : Cond.selects RX8 yX8_putMachine yX8_putMachine ∈ gw := gw_of (i := 23) (by decide +kernel) (by decide +kernel)
theorem co_X8_takeRead : Cond.code yX8_takeRead cX8_takeRead 3 none ∈ gw := gw_of (i := 857) (by decide +kernel) (by decide +kernel)
theorem im_X8_takeRead : Cond.instanceMethod yX8_takeRead ∈ gw := gw_of (i := 856) (by decide +kernel) (by decide +kernel)
theorem se_X8_takeRead : Cond.selects RX8 yX8_takeRead yX8_takeRead ∈ gw := gw_of (i := 24) (by decide +kernel) (by decide +kernel)
theorem co_X8_isFigure : Cond.code yX8_isFigure cX8_isFigure 1 (some .boolean) ∈ gw := gw_of (i := 934) (by decide +kernel) (by decide +kernel)
theorem im_X8_isFigure : Cond.instanceMethod yX8_isFigure ∈ gw := gw_of (i := 933) (by decide +kernel) (by decide +kernel)
theorem se_X8_isFigure : Cond.selects RX8 yX8_isFigure yX8_isFigure ∈ gw := gw_of (i := 28) (by decide +kernel) (by decide +kernel)
theorem co_X8_readNumbers : Cond.code yX8_readNumbers cX8_readNumbers 5 (some .boolean) ∈ gw := gw_of (i := 930) (by decide +kernel) (by decide +kernel)
theorem im_X8_readNumbers : Cond.instanceMethod yX8_readNumbers ∈ gw := gw_of (i := 929) (by decide +kernel) (by decide +kernel)
theorem se_X8_readNumbers : Cond.selects RX8 yX8_readNumbers yX8_readNumbers ∈ gw := gw_of (i := 27) (by decide +kernel) (by decide +kernel)
theorem co_X8_isNumber : Cond.code yX8_isNumber cX8_isNumber 4 (some .boolean) ∈ gw := gw_of (i := 938) (by decide +kernel) (by decide +kernel)
theorem im_X8_isNumber : Cond.instanceMethod yX8_isNumber ∈ gw := gw_of (i := 937) (by decide +kernel) (by decide +kernel)
theorem se_X8_isNumber : Cond.selects RX8 yX8_isNumber yX8_isNumber ∈ gw := gw_of (i := 29) (by decide +kernel) (by decide +kernel)
theorem co_X8_readMachine : Cond.code yX8_readMachine cX8_readMachine 1 (some .boolean) ∈ gw := gw_of (i := 926) (by decide +kernel) (by decide +kernel)
theorem im_X8_readMachine : Cond.instanceMethod yX8_readMachine ∈ gw := gw_of (i := 925) (by decide +kernel) (by decide +kernel)
theorem se_X8_readMachine : Cond.selects RX8 yX8_readMachine yX8_readMachine ∈ gw := gw_of (i := 26) (by decide +kernel) (by decide +kernel)
theorem co_X8_readOther : Cond.code yX8_readOther cX8_readOther 6 (some .boolean) ∈ gw := gw_of (i := 942) (by decide +kernel) (by decide +kernel)
theorem im_X8_readOther : Cond.instanceMethod yX8_readOther ∈ gw := gw_of (i := 941) (by decide +kernel) (by decide +kernel)
theorem se_X8_readOther : Cond.selects RX8 yX8_readOther yX8_readOther ∈ gw := gw_of (i := 30) (by decide +kernel) (by decide +kernel)
theorem co_X8_readText : Cond.code yX8_readText cX8_readText 4 (some .int) ∈ gw := gw_of (i := 922) (by decide +kernel) (by decide +kernel)
theorem im_X8_readText : Cond.instanceMethod yX8_readText ∈ gw := gw_of (i := 921) (by decide +kernel) (by decide +kernel)
theorem se_X8_readText : Cond.selects RX8 yX8_readText yX8_readText ∈ gw := gw_of (i := 25) (by decide +kernel) (by decide +kernel)
theorem co_X8_write : Cond.code yX8_write cX8_write 2 (some .int) ∈ gw := gw_of (i := 907) (by decide +kernel) (by decide +kernel)
theorem im_X8_write : Cond.instanceMethod yX8_write ∈ gw := gw_of (i := 905) (by decide +kernel) (by decide +kernel)
theorem se_X8_write : Cond.selects RX8 yX8_write yX8_write ∈ gw := gw_of (i := 906) (by decide +kernel) (by decide +kernel)
theorem co_X8_wipe : Cond.code yX8_wipe cX8_wipe 2 (some .int) ∈ gw := gw_of (i := 914) (by decide +kernel) (by decide +kernel)
theorem im_X8_wipe : Cond.instanceMethod yX8_wipe ∈ gw := gw_of (i := 912) (by decide +kernel) (by decide +kernel)
theorem se_X8_wipe : Cond.selects RX8 yX8_wipe yX8_wipe ∈ gw := gw_of (i := 913) (by decide +kernel) (by decide +kernel)
theorem co_X8_fault : Cond.code yX8_fault cX8_fault 1 (some .int) ∈ gw := gw_of (i := 918) (by decide +kernel) (by decide +kernel)
theorem im_X8_fault : Cond.instanceMethod yX8_fault ∈ gw := gw_of (i := 916) (by decide +kernel) (by decide +kernel)
theorem se_X8_fault : Cond.selects RX8 yX8_fault yX8_fault ∈ gw := gw_of (i := 917) (by decide +kernel) (by decide +kernel)
theorem co_X8_lay : Cond.code yX8_lay cX8_lay 1 (some .int) ∈ gw := gw_of (i := 946) (by decide +kernel) (by decide +kernel)
theorem im_X8_lay : Cond.instanceMethod yX8_lay ∈ gw := gw_of (i := 944) (by decide +kernel) (by decide +kernel)
theorem se_X8_lay : Cond.selects RX8 yX8_lay yX8_lay ∈ gw := gw_of (i := 945) (by decide +kernel) (by decide +kernel)
theorem co_X8_leastOf : Cond.code yX8_leastOf cX8_leastOf 2 (some .int) ∈ gw := gw_of (i := 1036) (by decide +kernel) (by decide +kernel)
theorem im_X8_leastOf : Cond.instanceMethod yX8_leastOf ∈ gw := gw_of (i := 1035) (by decide +kernel) (by decide +kernel)
theorem se_X8_leastOf : Cond.selects RX8 yX8_leastOf yX8_leastOf ∈ gw := gw_of (i := 45) (by decide +kernel) (by decide +kernel)
theorem co_X8_mostOf : Cond.code yX8_mostOf cX8_mostOf 2 (some .int) ∈ gw := gw_of (i := 997) (by decide +kernel) (by decide +kernel)
theorem im_X8_mostOf : Cond.instanceMethod yX8_mostOf ∈ gw := gw_of (i := 996) (by decide +kernel) (by decide +kernel)
theorem se_X8_mostOf : Cond.selects RX8 yX8_mostOf yX8_mostOf ∈ gw := gw_of (i := 38) (by decide +kernel) (by decide +kernel)
theorem co_X8_powerOf : Cond.code yX8_powerOf cX8_powerOf 5 (some .int) ∈ gw := gw_of (i := 1040) (by decide +kernel) (by decide +kernel)
theorem im_X8_powerOf : Cond.instanceMethod yX8_powerOf ∈ gw := gw_of (i := 1039) (by decide +kernel) (by decide +kernel)
theorem se_X8_powerOf : Cond.selects RX8 yX8_powerOf yX8_powerOf ∈ gw := gw_of (i := 46) (by decide +kernel) (by decide +kernel)
theorem co_X8_lift : Cond.code yX8_lift cX8_lift 1 (some .int) ∈ gw := gw_of (i := 1021) (by decide +kernel) (by decide +kernel)
theorem im_X8_lift : Cond.instanceMethod yX8_lift ∈ gw := gw_of (i := 1020) (by decide +kernel) (by decide +kernel)
theorem se_X8_lift : Cond.selects RX8 yX8_lift yX8_lift ∈ gw := gw_of (i := 43) (by decide +kernel) (by decide +kernel)
theorem co_X8_has : Cond.code yX8_has cX8_has 2 (some .boolean) ∈ gw := gw_of (i := 1028) (by decide +kernel) (by decide +kernel)
theorem sm_X8_has : Cond.static yX8_has ∈ gw := gw_of (i := 1027) (by decide +kernel) (by decide +kernel)
theorem co_X8_sumOf : Cond.code yX8_sumOf cX8_sumOf 5 (some .int) ∈ gw := gw_of (i := 1048) (by decide +kernel) (by decide +kernel)
theorem im_X8_sumOf : Cond.instanceMethod yX8_sumOf ∈ gw := gw_of (i := 1047) (by decide +kernel) (by decide +kernel)
theorem se_X8_sumOf : Cond.selects RX8 yX8_sumOf yX8_sumOf ∈ gw := gw_of (i := 48) (by decide +kernel) (by decide +kernel)
theorem co_X8_can : Cond.code yX8_can cX8_can 3 (some .boolean) ∈ gw := gw_of (i := 1044) (by decide +kernel) (by decide +kernel)
theorem im_X8_can : Cond.instanceMethod yX8_can ∈ gw := gw_of (i := 1043) (by decide +kernel) (by decide +kernel)
theorem se_X8_can : Cond.selects RX8 yX8_can yX8_can ∈ gw := gw_of (i := 47) (by decide +kernel) (by decide +kernel)
theorem co_X8_lowest : Cond.code yX8_lowest cX8_lowest 2 (some .int) ∈ gw := gw_of (i := 1025) (by decide +kernel) (by decide +kernel)
theorem sm_X8_lowest : Cond.static yX8_lowest ∈ gw := gw_of (i := 1024) (by decide +kernel) (by decide +kernel)
theorem co_X8_leastBy : Cond.code yX8_leastBy cX8_leastBy 9 (some .int) ∈ gw := gw_of (i := 1032) (by decide +kernel) (by decide +kernel)
theorem im_X8_leastBy : Cond.instanceMethod yX8_leastBy ∈ gw := gw_of (i := 1031) (by decide +kernel) (by decide +kernel)
theorem se_X8_leastBy : Cond.selects RX8 yX8_leastBy yX8_leastBy ∈ gw := gw_of (i := 44) (by decide +kernel) (by decide +kernel)
theorem co_X8_layTable : Cond.code yX8_layTable cX8_layTable 5 none ∈ gw := gw_of (i := 1017) (by decide +kernel) (by decide +kernel)
theorem im_X8_layTable : Cond.instanceMethod yX8_layTable ∈ gw := gw_of (i := 1016) (by decide +kernel) (by decide +kernel)
theorem se_X8_layTable : Cond.selects RX8 yX8_layTable yX8_layTable ∈ gw := gw_of (i := 42) (by decide +kernel) (by decide +kernel)
theorem co_X8_leastPower : Cond.code yX8_leastPower cX8_leastPower 3 (some .int) ∈ gw := gw_of (i := 1056) (by decide +kernel) (by decide +kernel)
theorem im_X8_leastPower : Cond.instanceMethod yX8_leastPower ∈ gw := gw_of (i := 1055) (by decide +kernel) (by decide +kernel)
theorem se_X8_leastPower : Cond.selects RX8 yX8_leastPower yX8_leastPower ∈ gw := gw_of (i := 50) (by decide +kernel) (by decide +kernel)
theorem co_X8_layShare : Cond.code yX8_layShare cX8_layShare 8 none ∈ gw := gw_of (i := 1052) (by decide +kernel) (by decide +kernel)
theorem im_X8_layShare : Cond.instanceMethod yX8_layShare ∈ gw := gw_of (i := 1051) (by decide +kernel) (by decide +kernel)
theorem se_X8_layShare : Cond.selects RX8 yX8_layShare yX8_layShare ∈ gw := gw_of (i := 49) (by decide +kernel) (by decide +kernel)
theorem co_X8_lockedOnes : Cond.code yX8_lockedOnes cX8_lockedOnes 3 (some .int) ∈ gw := gw_of (i := 982) (by decide +kernel) (by decide +kernel)
theorem im_X8_lockedOnes : Cond.instanceMethod yX8_lockedOnes ∈ gw := gw_of (i := 981) (by decide +kernel) (by decide +kernel)
theorem se_X8_lockedOnes : Cond.selects RX8 yX8_lockedOnes yX8_lockedOnes ∈ gw := gw_of (i := 36) (by decide +kernel) (by decide +kernel)
theorem co_X8_ones : Cond.code yX8_ones cX8_ones 3 (some .int) ∈ gw := gw_of (i := 985) (by decide +kernel) (by decide +kernel)
theorem sm_X8_ones : Cond.static yX8_ones ∈ gw := gw_of (i := 984) (by decide +kernel) (by decide +kernel)
theorem co_X8_findBest : Cond.code yX8_findBest cX8_findBest 7 (some .int) ∈ gw := gw_of (i := 1100) (by decide +kernel) (by decide +kernel)
theorem im_X8_findBest : Cond.instanceMethod yX8_findBest ∈ gw := gw_of (i := 1099) (by decide +kernel) (by decide +kernel)
theorem se_X8_findBest : Cond.selects RX8 yX8_findBest yX8_findBest ∈ gw := gw_of (i := 57) (by decide +kernel) (by decide +kernel)
theorem co_X8_own : Cond.code yX8_own cX8_own 3 (some .int) ∈ gw := gw_of (i := 970) (by decide +kernel) (by decide +kernel)
theorem im_X8_own : Cond.instanceMethod yX8_own ∈ gw := gw_of (i := 969) (by decide +kernel) (by decide +kernel)
theorem se_X8_own : Cond.selects RX8 yX8_own yX8_own ∈ gw := gw_of (i := 33) (by decide +kernel) (by decide +kernel)
theorem co_X8_standing : Cond.code yX8_standing cX8_standing 4 (some .int) ∈ gw := gw_of (i := 993) (by decide +kernel) (by decide +kernel)
theorem im_X8_standing : Cond.instanceMethod yX8_standing ∈ gw := gw_of (i := 992) (by decide +kernel) (by decide +kernel)
theorem se_X8_standing : Cond.selects RX8 yX8_standing yX8_standing ∈ gw := gw_of (i := 37) (by decide +kernel) (by decide +kernel)
theorem co_X8_made : Cond.code yX8_made cX8_made 5 (some .int) ∈ gw := gw_of (i := 1013) (by decide +kernel) (by decide +kernel)
theorem im_X8_made : Cond.instanceMethod yX8_made ∈ gw := gw_of (i := 1012) (by decide +kernel) (by decide +kernel)
theorem se_X8_made : Cond.selects RX8 yX8_made yX8_made ∈ gw := gw_of (i := 41) (by decide +kernel) (by decide +kernel)
theorem co_X8_powerNow : Cond.code yX8_powerNow cX8_powerNow 3 (some .int) ∈ gw := gw_of (i := 1009) (by decide +kernel) (by decide +kernel)
theorem im_X8_powerNow : Cond.instanceMethod yX8_powerNow ∈ gw := gw_of (i := 1008) (by decide +kernel) (by decide +kernel)
theorem se_X8_powerNow : Cond.selects RX8 yX8_powerNow yX8_powerNow ∈ gw := gw_of (i := 40) (by decide +kernel) (by decide +kernel)
theorem co_X8_isGapOver : Cond.code yX8_isGapOver cX8_isGapOver 2 (some .boolean) ∈ gw := gw_of (i := 1060) (by decide +kernel) (by decide +kernel)
theorem im_X8_isGapOver : Cond.instanceMethod yX8_isGapOver ∈ gw := gw_of (i := 1059) (by decide +kernel) (by decide +kernel)
theorem se_X8_isGapOver : Cond.selects RX8 yX8_isGapOver yX8_isGapOver ∈ gw := gw_of (i := 51) (by decide +kernel) (by decide +kernel)
theorem co_X8_mayStart : Cond.code yX8_mayStart cX8_mayStart 5 (some .boolean) ∈ gw := gw_of (i := 1076) (by decide +kernel) (by decide +kernel)
theorem im_X8_mayStart : Cond.instanceMethod yX8_mayStart ∈ gw := gw_of (i := 1075) (by decide +kernel) (by decide +kernel)
theorem se_X8_mayStart : Cond.selects RX8 yX8_mayStart yX8_mayStart ∈ gw := gw_of (i := 55) (by decide +kernel) (by decide +kernel)
theorem co_X8_start : Cond.code yX8_start cX8_start 5 none ∈ gw := gw_of (i := 1064) (by decide +kernel) (by decide +kernel)
theorem im_X8_start : Cond.instanceMethod yX8_start ∈ gw := gw_of (i := 1063) (by decide +kernel) (by decide +kernel)
theorem se_X8_start : Cond.selects RX8 yX8_start yX8_start ∈ gw := gw_of (i := 52) (by decide +kernel) (by decide +kernel)
theorem co_X8_stop : Cond.code yX8_stop cX8_stop 3 none ∈ gw := gw_of (i := 978) (by decide +kernel) (by decide +kernel)
theorem im_X8_stop : Cond.instanceMethod yX8_stop ∈ gw := gw_of (i := 977) (by decide +kernel) (by decide +kernel)
theorem se_X8_stop : Cond.selects RX8 yX8_stop yX8_stop ∈ gw := gw_of (i := 35) (by decide +kernel) (by decide +kernel)
theorem co_X8_starter : Cond.code yX8_starter cX8_starter 4 (some .int) ∈ gw := gw_of (i := 1072) (by decide +kernel) (by decide +kernel)
theorem im_X8_starter : Cond.instanceMethod yX8_starter ∈ gw := gw_of (i := 1071) (by decide +kernel) (by decide +kernel)
theorem se_X8_starter : Cond.selects RX8 yX8_starter yX8_starter ∈ gw := gw_of (i := 54) (by decide +kernel) (by decide +kernel)
theorem co_X8_stopper : Cond.code yX8_stopper cX8_stopper 5 (some .int) ∈ gw := gw_of (i := 1068) (by decide +kernel) (by decide +kernel)
theorem im_X8_stopper : Cond.instanceMethod yX8_stopper ∈ gw := gw_of (i := 1067) (by decide +kernel) (by decide +kernel)
theorem se_X8_stopper : Cond.selects RX8 yX8_stopper yX8_stopper ∈ gw := gw_of (i := 53) (by decide +kernel) (by decide +kernel)
theorem co_X8_unlist : Cond.code yX8_unlist cX8_unlist 4 none ∈ gw := gw_of (i := 974) (by decide +kernel) (by decide +kernel)
theorem im_X8_unlist : Cond.instanceMethod yX8_unlist ∈ gw := gw_of (i := 973) (by decide +kernel) (by decide +kernel)
theorem se_X8_unlist : Cond.selects RX8 yX8_unlist yX8_unlist ∈ gw := gw_of (i := 34) (by decide +kernel) (by decide +kernel)
theorem co_X8_tickOnce : Cond.code yX8_tickOnce cX8_tickOnce 6 none ∈ gw := gw_of (i := 1005) (by decide +kernel) (by decide +kernel)
theorem im_X8_tickOnce : Cond.instanceMethod yX8_tickOnce ∈ gw := gw_of (i := 1004) (by decide +kernel) (by decide +kernel)
theorem se_X8_tickOnce : Cond.selects RX8 yX8_tickOnce yX8_tickOnce ∈ gw := gw_of (i := 39) (by decide +kernel) (by decide +kernel)
theorem co_X8_note : Cond.code yX8_note cX8_note 2 none ∈ gw := gw_of (i := 958) (by decide +kernel) (by decide +kernel)
theorem im_X8_note : Cond.instanceMethod yX8_note ∈ gw := gw_of (i := 957) (by decide +kernel) (by decide +kernel)
theorem se_X8_note : Cond.selects RX8 yX8_note yX8_note ∈ gw := gw_of (i := 31) (by decide +kernel) (by decide +kernel)
theorem co_X8_undo : Cond.code yX8_undo cX8_undo 2 (some .int) ∈ gw := gw_of (i := 950) (by decide +kernel) (by decide +kernel)
theorem im_X8_undo : Cond.instanceMethod yX8_undo ∈ gw := gw_of (i := 948) (by decide +kernel) (by decide +kernel)
theorem se_X8_undo : Cond.selects RX8 yX8_undo yX8_undo ∈ gw := gw_of (i := 949) (by decide +kernel) (by decide +kernel)
theorem co_X8_tell : Cond.code yX8_tell cX8_tell 5 (some .int) ∈ gw := gw_of (i := 954) (by decide +kernel) (by decide +kernel)
theorem im_X8_tell : Cond.instanceMethod yX8_tell ∈ gw := gw_of (i := 952) (by decide +kernel) (by decide +kernel)
theorem se_X8_tell : Cond.selects RX8 yX8_tell yX8_tell ∈ gw := gw_of (i := 953) (by decide +kernel) (by decide +kernel)
theorem co_X8_isMachine : Cond.code yX8_isMachine cX8_isMachine 2 (some .boolean) ∈ gw := gw_of (i := 966) (by decide +kernel) (by decide +kernel)
theorem im_X8_isMachine : Cond.instanceMethod yX8_isMachine ∈ gw := gw_of (i := 965) (by decide +kernel) (by decide +kernel)
theorem se_X8_isMachine : Cond.selects RX8 yX8_isMachine yX8_isMachine ∈ gw := gw_of (i := 32) (by decide +kernel) (by decide +kernel)
theorem co_X8_lock : Cond.code yX8_lock cX8_lock 3 (some .int) ∈ gw := gw_of (i := 962) (by decide +kernel) (by decide +kernel)
theorem im_X8_lock : Cond.instanceMethod yX8_lock ∈ gw := gw_of (i := 960) (by decide +kernel) (by decide +kernel)
theorem se_X8_lock : Cond.selects RX8 yX8_lock yX8_lock ∈ gw := gw_of (i := 961) (by decide +kernel) (by decide +kernel)
theorem co_X8_dip : Cond.code yX8_dip cX8_dip 4 (some .int) ∈ gw := gw_of (i := 989) (by decide +kernel) (by decide +kernel)
theorem im_X8_dip : Cond.instanceMethod yX8_dip ∈ gw := gw_of (i := 987) (by decide +kernel) (by decide +kernel)
theorem se_X8_dip : Cond.selects RX8 yX8_dip yX8_dip ∈ gw := gw_of (i := 988) (by decide +kernel) (by decide +kernel)
theorem co_X8_tick : Cond.code yX8_tick cX8_tick 4 (some .int) ∈ gw := gw_of (i := 1001) (by decide +kernel) (by decide +kernel)
theorem im_X8_tick : Cond.instanceMethod yX8_tick ∈ gw := gw_of (i := 999) (by decide +kernel) (by decide +kernel)
theorem se_X8_tick : Cond.selects RX8 yX8_tick yX8_tick ∈ gw := gw_of (i := 1000) (by decide +kernel) (by decide +kernel)
theorem co_X8_placeInList : Cond.code yX8_placeInList cX8_placeInList 4 (some .int) ∈ gw := gw_of (i := 1084) (by decide +kernel) (by decide +kernel)
theorem im_X8_placeInList : Cond.instanceMethod yX8_placeInList ∈ gw := gw_of (i := 1083) (by decide +kernel) (by decide +kernel)
theorem se_X8_placeInList : Cond.selects RX8 yX8_placeInList yX8_placeInList ∈ gw := gw_of (i := 56) (by decide +kernel) (by decide +kernel)
theorem co_X8_machine : Cond.code yX8_machine cX8_machine 3 (some .int) ∈ gw := gw_of (i := 1080) (by decide +kernel) (by decide +kernel)
theorem im_X8_machine : Cond.instanceMethod yX8_machine ∈ gw := gw_of (i := 1078) (by decide +kernel) (by decide +kernel)
theorem se_X8_machine : Cond.selects RX8 yX8_machine yX8_machine ∈ gw := gw_of (i := 1079) (by decide +kernel) (by decide +kernel)
theorem co_X8_power : Cond.code yX8_power cX8_power 4 (some .int) ∈ gw := gw_of (i := 1088) (by decide +kernel) (by decide +kernel)
theorem im_X8_power : Cond.instanceMethod yX8_power ∈ gw := gw_of (i := 1086) (by decide +kernel) (by decide +kernel)
theorem se_X8_power : Cond.selects RX8 yX8_power yX8_power ∈ gw := gw_of (i := 1087) (by decide +kernel) (by decide +kernel)
theorem co_X8_share : Cond.code yX8_share cX8_share 4 (some .int) ∈ gw := gw_of (i := 1092) (by decide +kernel) (by decide +kernel)
theorem im_X8_share : Cond.instanceMethod yX8_share ∈ gw := gw_of (i := 1090) (by decide +kernel) (by decide +kernel)
theorem se_X8_share : Cond.selects RX8 yX8_share yX8_share ∈ gw := gw_of (i := 1091) (by decide +kernel) (by decide +kernel)
theorem co_X8_best : Cond.code yX8_best cX8_best 4 (some .int) ∈ gw := gw_of (i := 1096) (by decide +kernel) (by decide +kernel)
theorem im_X8_best : Cond.instanceMethod yX8_best ∈ gw := gw_of (i := 1094) (by decide +kernel) (by decide +kernel)
theorem se_X8_best : Cond.selects RX8 yX8_best yX8_best ∈ gw := gw_of (i := 1095) (by decide +kernel) (by decide +kernel)
theorem co_X8_more : Cond.code yX8_more cX8_more 3 (some .int) ∈ gw := gw_of (i := 1108) (by decide +kernel) (by decide +kernel)
theorem im_X8_more : Cond.instanceMethod yX8_more ∈ gw := gw_of (i := 1107) (by decide +kernel) (by decide +kernel)
theorem se_X8_more : Cond.selects RX8 yX8_more yX8_more ∈ gw := gw_of (i := 58) (by decide +kernel) (by decide +kernel)
theorem co_X8_now : Cond.code yX8_now cX8_now 4 (some .int) ∈ gw := gw_of (i := 1104) (by decide +kernel) (by decide +kernel)
theorem im_X8_now : Cond.instanceMethod yX8_now ∈ gw := gw_of (i := 1102) (by decide +kernel) (by decide +kernel)
theorem se_X8_now : Cond.selects RX8 yX8_now yX8_now ∈ gw := gw_of (i := 1103) (by decide +kernel) (by decide +kernel)
theorem co_X8_ahead : Cond.code yX8_ahead cX8_ahead 8 (some .int) ∈ gw := gw_of (i := 1112) (by decide +kernel) (by decide +kernel)
theorem im_X8_ahead : Cond.instanceMethod yX8_ahead ∈ gw := gw_of (i := 1110) (by decide +kernel) (by decide +kernel)
theorem se_X8_ahead : Cond.selects RX8 yX8_ahead yX8_ahead ∈ gw := gw_of (i := 1111) (by decide +kernel) (by decide +kernel)
theorem co_X8_count : Cond.code yX8_count cX8_count 2 (some .int) ∈ gw := gw_of (i := 1116) (by decide +kernel) (by decide +kernel)
theorem im_X8_count : Cond.instanceMethod yX8_count ∈ gw := gw_of (i := 1114) (by decide +kernel) (by decide +kernel)
theorem se_X8_count : Cond.selects RX8 yX8_count yX8_count ∈ gw := gw_of (i := 1115) (by decide +kernel) (by decide +kernel)
theorem co_J6_bitCount_0f7a4 : Cond.code yJ6_bitCount_0f7a4 cJ6_bitCount_0f7a4 1 (some .int) ∈ gw := gw_of (i := 568) (by decide +kernel) (by decide +kernel)
theorem sm_J6_bitCount_0f7a4 : Cond.static yJ6_bitCount_0f7a4 ∈ gw := gw_of (i := 567) (by decide +kernel) (by decide +kernel)
theorem co_J9_floorMod_7cf53 : Cond.code yJ9_floorMod_7cf53 cJ9_floorMod_7cf53 3 (some .int) ∈ gw := gw_of (i := 689) (by decide +kernel) (by decide +kernel)
theorem sm_J9_floorMod_7cf53 : Cond.static yJ9_floorMod_7cf53 ∈ gw := gw_of (i := 688) (by decide +kernel) (by decide +kernel)
theorem co_J0_length_8abf5 : Cond.code yJ0_length_8abf5 cJ0_length_8abf5 1 (some .int) ∈ gw := gw_of (i := 364) (by decide +kernel) (by decide +kernel)
theorem im_J0_length_8abf5 : Cond.instanceMethod yJ0_length_8abf5 ∈ gw := gw_of (i := 362) (by decide +kernel) (by decide +kernel)
theorem se_J0_length_8abf5 : Cond.selects RJ0 yJ0_length_8abf5 yJ0_length_8abf5 ∈ gw := gw_of (i := 363) (by decide +kernel) (by decide +kernel)
theorem co_J0_charAt_5068e : Cond.code yJ0_charAt_5068e cJ0_charAt_5068e 2 (some .char) ∈ gw := gw_of (i := 374) (by decide +kernel) (by decide +kernel)
theorem im_J0_charAt_5068e : Cond.instanceMethod yJ0_charAt_5068e ∈ gw := gw_of (i := 372) (by decide +kernel) (by decide +kernel)
theorem se_J0_charAt_5068e : Cond.selects RJ0 yJ0_charAt_5068e yJ0_charAt_5068e ∈ gw := gw_of (i := 373) (by decide +kernel) (by decide +kernel)
theorem co_J0_coder_7d493 : Cond.code yJ0_coder_7d493 cJ0_coder_7d493 1 (some .byte) ∈ gw := gw_of (i := 368) (by decide +kernel) (by decide +kernel)
theorem im_J0_coder_7d493 : Cond.instanceMethod yJ0_coder_7d493 ∈ gw := gw_of (i := 366) (by decide +kernel) (by decide +kernel)
theorem se_J0_coder_7d493 : Cond.selects RJ0 yJ0_coder_7d493 yJ0_coder_7d493 ∈ gw := gw_of (i := 367) (by decide +kernel) (by decide +kernel)
theorem co_J0_isLatin1_aae02 : Cond.code yJ0_isLatin1_aae02 cJ0_isLatin1_aae02 1 (some .boolean) ∈ gw := gw_of (i := 378) (by decide +kernel) (by decide +kernel)
theorem im_J0_isLatin1_aae02 : Cond.instanceMethod yJ0_isLatin1_aae02 ∈ gw := gw_of (i := 376) (by decide +kernel) (by decide +kernel)
theorem se_J0_isLatin1_aae02 : Cond.selects RJ0 yJ0_isLatin1_aae02 yJ0_isLatin1_aae02 ∈ gw := gw_of (i := 377) (by decide +kernel) (by decide +kernel)
theorem co_J0_checkIndex_df160 : Cond.code yJ0_checkIndex_df160 cJ0_checkIndex_df160 2 none ∈ gw := gw_of (i := 384) (by decide +kernel) (by decide +kernel)
theorem sm_J0_checkIndex_df160 : Cond.static yJ0_checkIndex_df160 ∈ gw := gw_of (i := 383) (by decide +kernel) (by decide +kernel)
theorem co_J1_charAt_3b067 : Cond.code yJ1_charAt_3b067 cJ1_charAt_3b067 2 (some .char) ∈ gw := gw_of (i := 381) (by decide +kernel) (by decide +kernel)
theorem sm_J1_charAt_3b067 : Cond.static yJ1_charAt_3b067 ∈ gw := gw_of (i := 380) (by decide +kernel) (by decide +kernel)
theorem co_J7_fill_53178 : Cond.code yJ7_fill_53178 cJ7_fill_53178 4 none ∈ gw := gw_of (i := 195) (by decide +kernel) (by decide +kernel)
theorem sm_J7_fill_53178 : Cond.static yJ7_fill_53178 ∈ gw := gw_of (i := 194) (by decide +kernel) (by decide +kernel)
theorem co_J3_checkIndex_8e157 : Cond.code yJ3_checkIndex_8e157 cJ3_checkIndex_8e157 3 (some .int) ∈ gw := gw_of (i := 389) (by decide +kernel) (by decide +kernel)
theorem sm_J3_checkIndex_8e157 : Cond.static yJ3_checkIndex_8e157 ∈ gw := gw_of (i := 388) (by decide +kernel) (by decide +kernel)
theorem ini_ColdHouseLaw : Cond.initialized "ColdHouseLaw" ∈ gw := gw_of (i := 59) (by decide +kernel) (by decide +kernel)
theorem ini_X7 : Cond.initialized "ColdHouse" ∈ gw := gw_of (i := 60) (by decide +kernel) (by decide +kernel)
theorem ini_X3 : Cond.initialized "ColdHouse$Script" ∈ gw := gw_of (i := 61) (by decide +kernel) (by decide +kernel)
theorem ini_X2 : Cond.initialized "ColdHouse$Plant" ∈ gw := gw_of (i := 62) (by decide +kernel) (by decide +kernel)
theorem ini_X6 : Cond.initialized "ColdHouse$State" ∈ gw := gw_of (i := 63) (by decide +kernel) (by decide +kernel)
theorem ini_javalangSystem : Cond.initialized "java/lang/System" ∈ gw := gw_of (i := 64) (by decide +kernel) (by decide +kernel)
theorem ini_J7 : Cond.initialized "java/util/Arrays" ∈ gw := gw_of (i := 65) (by decide +kernel) (by decide +kernel)
theorem ini_X1 : Cond.initialized "ColdHouse$Past" ∈ gw := gw_of (i := 66) (by decide +kernel) (by decide +kernel)
theorem ini_X5 : Cond.initialized "ColdHouse$Staging" ∈ gw := gw_of (i := 67) (by decide +kernel) (by decide +kernel)
theorem ini_X4 : Cond.initialized "ColdHouse$Sharing" ∈ gw := gw_of (i := 68) (by decide +kernel) (by decide +kernel)
theorem ini_X0 : Cond.initialized "ColdHouse$BestSets" ∈ gw := gw_of (i := 69) (by decide +kernel) (by decide +kernel)
theorem ini_J0 : Cond.initialized "java/lang/String" ∈ gw := gw_of (i := 70) (by decide +kernel) (by decide +kernel)
theorem ini_J1 : Cond.initialized "java/lang/StringLatin1" ∈ gw := gw_of (i := 71) (by decide +kernel) (by decide +kernel)
theorem ini_J3 : Cond.initialized "jdk/internal/util/Preconditions" ∈ gw := gw_of (i := 72) (by decide +kernel) (by decide +kernel)
theorem ini_javalangStringUTF16 : Cond.initialized "java/lang/StringUTF16" ∈ gw := gw_of (i := 73) (by decide +kernel) (by decide +kernel)
theorem ini_J9 : Cond.initialized "java/lang/Math" ∈ gw := gw_of (i := 74) (by decide +kernel) (by decide +kernel)
theorem ini_X8 : Cond.initialized "ColdHouseModel" ∈ gw := gw_of (i := 75) (by decide +kernel) (by decide +kernel)
theorem ini_J6 : Cond.initialized "java/lang/Integer" ∈ gw := gw_of (i := 76) (by decide +kernel) (by decide +kernel)
theorem cl_L_7 : Cond.classLink "ColdHouseLaw" 7 "ColdHouse" ∈ gw := gw_of (i := 77) (by decide +kernel) (by decide +kernel)
theorem inst_X7 : Cond.instantiable "ColdHouse" 8 ∈ gw := gw_of (i := 78) (by decide +kernel) (by decide +kernel)
theorem cl_X7_7 : Cond.classLink "ColdHouse" 7 "ColdHouse$Script" ∈ gw := gw_of (i := 85) (by decide +kernel) (by decide +kernel)
theorem inst_X3 : Cond.instantiable "ColdHouse$Script" 3 ∈ gw := gw_of (i := 86) (by decide +kernel) (by decide +kernel)
theorem cl_X7_16 : Cond.classLink "ColdHouse" 16 "ColdHouse$Plant" ∈ gw := gw_of (i := 106) (by decide +kernel) (by decide +kernel)
theorem inst_X2 : Cond.instantiable "ColdHouse$Plant" 14 ∈ gw := gw_of (i := 107) (by decide +kernel) (by decide +kernel)
theorem cl_X7_23 : Cond.classLink "ColdHouse" 23 "ColdHouse$State" ∈ gw := gw_of (i := 177) (by decide +kernel) (by decide +kernel)
theorem inst_X6 : Cond.instantiable "ColdHouse$State" 15 ∈ gw := gw_of (i := 178) (by decide +kernel) (by decide +kernel)
theorem cst_X6_64 : Cond.constant "ColdHouse$State" 64 (-100000) ∈ gw := gw_of (i := 192) (by decide +kernel) (by decide +kernel)
theorem cl_X7_33 : Cond.classLink "ColdHouse" 33 "ColdHouse$Past" ∈ gw := gw_of (i := 264) (by decide +kernel) (by decide +kernel)
theorem inst_X1 : Cond.instantiable "ColdHouse$Past" 3 ∈ gw := gw_of (i := 265) (by decide +kernel) (by decide +kernel)
theorem cl_X1_9 : Cond.classLink "ColdHouse$Past" 9 "ColdHouse$State" ∈ gw := gw_of (i := 270) (by decide +kernel) (by decide +kernel)
theorem cl_X7_40 : Cond.classLink "ColdHouse" 40 "ColdHouse$Staging" ∈ gw := gw_of (i := 284) (by decide +kernel) (by decide +kernel)
theorem inst_X5 : Cond.instantiable "ColdHouse$Staging" 2 ∈ gw := gw_of (i := 285) (by decide +kernel) (by decide +kernel)
theorem cl_X5_15 : Cond.classLink "ColdHouse$Staging" 15 "ColdHouse$Sharing" ∈ gw := gw_of (i := 290) (by decide +kernel) (by decide +kernel)
theorem inst_X4 : Cond.instantiable "ColdHouse$Sharing" 9 ∈ gw := gw_of (i := 291) (by decide +kernel) (by decide +kernel)
theorem cl_X7_49 : Cond.classLink "ColdHouse" 49 "ColdHouse$Sharing" ∈ gw := gw_of (i := 333) (by decide +kernel) (by decide +kernel)
theorem cl_X7_56 : Cond.classLink "ColdHouse" 56 "ColdHouse$BestSets" ∈ gw := gw_of (i := 335) (by decide +kernel) (by decide +kernel)
theorem inst_X0 : Cond.instantiable "ColdHouse$BestSets" 6 ∈ gw := gw_of (i := 336) (by decide +kernel) (by decide +kernel)
theorem cst_J6_265 : Cond.constant "java/lang/Integer" 265 (1431655765) ∈ gw := gw_of (i := 569) (by decide +kernel) (by decide +kernel)
theorem cst_J6_266 : Cond.constant "java/lang/Integer" 266 (858993459) ∈ gw := gw_of (i := 570) (by decide +kernel) (by decide +kernel)
theorem cst_J6_267 : Cond.constant "java/lang/Integer" 267 (252645135) ∈ gw := gw_of (i := 571) (by decide +kernel) (by decide +kernel)
theorem cst_X4_98 : Cond.constantLong "ColdHouse$Sharing" 98 (9223372036854775807) ∈ gw := gw_of (i := 667) (by decide +kernel) (by decide +kernel)
theorem cst_X0_33 : Cond.constant "ColdHouse$BestSets" 33 (1073741824) ∈ gw := gw_of (i := 786) (by decide +kernel) (by decide +kernel)
theorem cl_L_10 : Cond.classLink "ColdHouseLaw" 10 "ColdHouseModel" ∈ gw := gw_of (i := 840) (by decide +kernel) (by decide +kernel)
theorem inst_X8 : Cond.instantiable "ColdHouseModel" 15 ∈ gw := gw_of (i := 841) (by decide +kernel) (by decide +kernel)
theorem cst_X8_94 : Cond.constant "ColdHouseModel" 94 (1000000000) ∈ gw := gw_of (i := 1022) (by decide +kernel) (by decide +kernel)
theorem acp_nat : Cond.native ⟨"java/lang/System", "arraycopy", "(Ljava/lang/Object;ILjava/lang/Object;II)V"⟩ ∈ gw := gw_of (i := 191) (by decide +kernel) (by decide +kernel)
theorem acp_st : Cond.static ⟨"java/lang/System", "arraycopy", "(Ljava/lang/Object;ILjava/lang/Object;II)V"⟩ ∈ gw := gw_of (i := 190) (by decide +kernel) (by decide +kernel)
theorem mmax_st : Cond.static ⟨"java/lang/Math", "max", "(II)I"⟩ ∈ gw := gw_of (i := 626) (by decide +kernel) (by decide +kernel)
theorem mmax_co : Cond.code ⟨"java/lang/Math", "max", "(II)I"⟩ prog_12_method_65_code 2 (some .int) ∈ gw := gw_of (i := 627) (by decide +kernel) (by decide +kernel)
theorem mmin_st : Cond.static ⟨"java/lang/Math", "min", "(II)I"⟩ ∈ gw := gw_of (i := 436) (by decide +kernel) (by decide +kernel)
theorem mmin_co : Cond.code ⟨"java/lang/Math", "min", "(II)I"⟩ prog_12_method_69_code 2 (some .int) ∈ gw := gw_of (i := 437) (by decide +kernel) (by decide +kernel)
theorem oi_im : Cond.instanceMethod ⟨"java/lang/Object", "<init>", "()V"⟩ ∈ gw := gw_of (i := 83) (by decide +kernel) (by decide +kernel)
end
section
theorem dX0_init_0 : decode cX0_init 0 = .ok (.aload_n 0, 1) := by decide +kernel
theorem dX0_init_1 : decode cX0_init 1 = .ok (.invokespecial 5, 3) := by decide +kernel
theorem dX0_init_4 : decode cX0_init 4 = .ok (.aload_n 0, 1) := by decide +kernel
theorem dX0_init_5 : decode cX0_init 5 = .ok (.sipush 481, 3) := by decide +kernel
theorem dX0_init_8 : decode cX0_init 8 = .ok (.newarray .int, 2) := by decide +kernel
theorem dX0_init_10 : decode cX0_init 10 = .ok (.putfield 11, 3) := by decide +kernel
theorem dX0_init_13 : decode cX0_init 13 = .ok (.aload_n 0, 1) := by decide +kernel
theorem dX0_init_14 : decode cX0_init 14 = .ok (.bipush 81, 2) := by decide +kernel
theorem dX0_init_16 : decode cX0_init 16 = .ok (.newarray .int, 2) := by decide +kernel
theorem dX0_init_18 : decode cX0_init 18 = .ok (.putfield 15, 3) := by decide +kernel
theorem dX0_init_21 : decode cX0_init 21 = .ok (.aload_n 0, 1) := by decide +kernel
theorem dX0_init_22 : decode cX0_init 22 = .ok (.aload_n 1, 1) := by decide +kernel
theorem dX0_init_23 : decode cX0_init 23 = .ok (.putfield 18, 3) := by decide +kernel
theorem dX0_init_26 : decode cX0_init 26 = .ok (.return_, 1) := by decide +kernel
theorem dX0_forget_0 : decode cX0_forget 0 = .ok (.aload_n 0, 1) := by decide +kernel
theorem dX0_forget_1 : decode cX0_forget 1 = .ok (.iconst 0, 1) := by decide +kernel
theorem dX0_forget_2 : decode cX0_forget 2 = .ok (.putfield 22, 3) := by decide +kernel
theorem dX0_forget_5 : decode cX0_forget 5 = .ok (.return_, 1) := by decide +kernel
theorem dX0_reckon_0 : decode cX0_reckon 0 = .ok (.aload_n 0, 1) := by decide +kernel
theorem dX0_reckon_1 : decode cX0_reckon 1 = .ok (.getfield 22, 3) := by decide +kernel
theorem dX0_reckon_4 : decode cX0_reckon 4 = .ok (.ifCond .eq 20, 3) := by decide +kernel
theorem dX0_reckon_7 : decode cX0_reckon 7 = .ok (.aload_n 0, 1) := by decide +kernel
theorem dX0_reckon_8 : decode cX0_reckon 8 = .ok (.getfield 26, 3) := by decide +kernel
theorem dX0_reckon_11 : decode cX0_reckon 11 = .ok (.iload_n 1, 1) := by decide +kernel
theorem dX0_reckon_12 : decode cX0_reckon 12 = .ok (.if_icmp .ne 12, 3) := by decide +kernel
theorem dX0_reckon_15 : decode cX0_reckon 15 = .ok (.aload_n 0, 1) := by decide +kernel
theorem dX0_reckon_16 : decode cX0_reckon 16 = .ok (.getfield 30, 3) := by decide +kernel
theorem dX0_reckon_19 : decode cX0_reckon 19 = .ok (.iload_n 2, 1) := by decide +kernel
theorem dX0_reckon_20 : decode cX0_reckon 20 = .ok (.if_icmp .ne 4, 3) := by decide +kernel
theorem dX0_reckon_23 : decode cX0_reckon 23 = .ok (.return_, 1) := by decide +kernel
theorem dX0_reckon_24 : decode cX0_reckon 24 = .ok (.aload_n 0, 1) := by decide +kernel
theorem dX0_reckon_25 : decode cX0_reckon 25 = .ok (.iconst 1, 1) := by decide +kernel
theorem dX0_reckon_26 : decode cX0_reckon 26 = .ok (.putfield 22, 3) := by decide +kernel
theorem dX0_reckon_29 : decode cX0_reckon 29 = .ok (.aload_n 0, 1) := by decide +kernel
theorem dX0_reckon_30 : decode cX0_reckon 30 = .ok (.iload_n 1, 1) := by decide +kernel
theorem dX0_reckon_31 : decode cX0_reckon 31 = .ok (.putfield 26, 3) := by decide +kernel
theorem dX0_reckon_34 : decode cX0_reckon 34 = .ok (.aload_n 0, 1) := by decide +kernel
theorem dX0_reckon_35 : decode cX0_reckon 35 = .ok (.iload_n 2, 1) := by decide +kernel
theorem dX0_reckon_36 : decode cX0_reckon 36 = .ok (.putfield 30, 3) := by decide +kernel
theorem dX0_reckon_39 : decode cX0_reckon 39 = .ok (.aload_n 0, 1) := by decide +kernel
theorem dX0_reckon_40 : decode cX0_reckon 40 = .ok (.getfield 11, 3) := by decide +kernel
theorem dX0_reckon_43 : decode cX0_reckon 43 = .ok (.ldc 33, 2) := by decide +kernel
theorem dX0_reckon_45 : decode cX0_reckon 45 = .ok (.invokestatic 34, 3) := by decide +kernel
theorem dX0_reckon_48 : decode cX0_reckon 48 = .ok (.aload_n 0, 1) := by decide +kernel
theorem dX0_reckon_49 : decode cX0_reckon 49 = .ok (.getfield 11, 3) := by decide +kernel
theorem dX0_reckon_52 : decode cX0_reckon 52 = .ok (.iconst 0, 1) := by decide +kernel
theorem dX0_reckon_53 : decode cX0_reckon 53 = .ok (.iconst 0, 1) := by decide +kernel
theorem dX0_reckon_54 : decode cX0_reckon 54 = .ok (.iastore, 1) := by decide +kernel
theorem dX0_reckon_55 : decode cX0_reckon 55 = .ok (.iconst 0, 1) := by decide +kernel
theorem dX0_reckon_56 : decode cX0_reckon 56 = .ok (.istore_n 3, 1) := by decide +kernel
theorem dX0_reckon_57 : decode cX0_reckon 57 = .ok (.iload_n 3, 1) := by decide +kernel
theorem dX0_reckon_58 : decode cX0_reckon 58 = .ok (.aload_n 0, 1) := by decide +kernel
theorem dX0_reckon_59 : decode cX0_reckon 59 = .ok (.getfield 18, 3) := by decide +kernel
theorem dX0_reckon_62 : decode cX0_reckon 62 = .ok (.getfield 40, 3) := by decide +kernel
theorem dX0_reckon_65 : decode cX0_reckon 65 = .ok (.if_icmp .ge 26, 3) := by decide +kernel
theorem dX0_reckon_68 : decode cX0_reckon 68 = .ok (.aload_n 0, 1) := by decide +kernel
theorem dX0_reckon_69 : decode cX0_reckon 69 = .ok (.getfield 26, 3) := by decide +kernel
theorem dX0_reckon_72 : decode cX0_reckon 72 = .ok (.iload_n 3, 1) := by decide +kernel
theorem dX0_reckon_73 : decode cX0_reckon 73 = .ok (.invokestatic 45, 3) := by decide +kernel
theorem dX0_reckon_76 : decode cX0_reckon 76 = .ok (.iconst 1, 1) := by decide +kernel
theorem dX0_reckon_77 : decode cX0_reckon 77 = .ok (.if_icmp .ne 8, 3) := by decide +kernel
theorem dX0_reckon_80 : decode cX0_reckon 80 = .ok (.aload_n 0, 1) := by decide +kernel
theorem dX0_reckon_81 : decode cX0_reckon 81 = .ok (.iload_n 3, 1) := by decide +kernel
theorem dX0_reckon_82 : decode cX0_reckon 82 = .ok (.invokevirtual 49, 3) := by decide +kernel
theorem dX0_reckon_85 : decode cX0_reckon 85 = .ok (.iinc 3 1, 3) := by decide +kernel
theorem dX0_reckon_88 : decode cX0_reckon 88 = .ok (.goto (-31), 3) := by decide +kernel
theorem dX0_reckon_91 : decode cX0_reckon 91 = .ok (.return_, 1) := by decide +kernel
theorem dX0_has_0 : decode cX0_has 0 = .ok (.aload_n 0, 1) := by decide +kernel
theorem dX0_has_1 : decode cX0_has 1 = .ok (.getfield 11, 3) := by decide +kernel
theorem dX0_has_4 : decode cX0_has 4 = .ok (.iload_n 1, 1) := by decide +kernel
theorem dX0_has_5 : decode cX0_has 5 = .ok (.iaload, 1) := by decide +kernel
theorem dX0_has_6 : decode cX0_has 6 = .ok (.ldc 33, 2) := by decide +kernel
theorem dX0_has_8 : decode cX0_has 8 = .ok (.if_icmp .ge 7, 3) := by decide +kernel
theorem dX0_has_11 : decode cX0_has 11 = .ok (.iconst 1, 1) := by decide +kernel
theorem dX0_has_12 : decode cX0_has 12 = .ok (.goto 4, 3) := by decide +kernel
theorem dX0_has_15 : decode cX0_has 15 = .ok (.iconst 0, 1) := by decide +kernel
theorem dX0_has_16 : decode cX0_has 16 = .ok (.ireturn, 1) := by decide +kernel
theorem dX0_setFor_0 : decode cX0_setFor 0 = .ok (.aload_n 0, 1) := by decide +kernel
theorem dX0_setFor_1 : decode cX0_setFor 1 = .ok (.getfield 11, 3) := by decide +kernel
theorem dX0_setFor_4 : decode cX0_setFor 4 = .ok (.iload_n 1, 1) := by decide +kernel
theorem dX0_setFor_5 : decode cX0_setFor 5 = .ok (.iaload, 1) := by decide +kernel
theorem dX0_setFor_6 : decode cX0_setFor 6 = .ok (.bipush 63, 2) := by decide +kernel
theorem dX0_setFor_8 : decode cX0_setFor 8 = .ok (.iand, 1) := by decide +kernel
theorem dX0_setFor_9 : decode cX0_setFor 9 = .ok (.ireturn, 1) := by decide +kernel
theorem dX0_leastPower_0 : decode cX0_leastPower 0 = .ok (.aload_n 0, 1) := by decide +kernel
theorem dX0_leastPower_1 : decode cX0_leastPower 1 = .ok (.getfield 11, 3) := by decide +kernel
theorem dX0_leastPower_4 : decode cX0_leastPower 4 = .ok (.iload_n 1, 1) := by decide +kernel
theorem dX0_leastPower_5 : decode cX0_leastPower 5 = .ok (.iaload, 1) := by decide +kernel
theorem dX0_leastPower_6 : decode cX0_leastPower 6 = .ok (.bipush 9, 2) := by decide +kernel
theorem dX0_leastPower_8 : decode cX0_leastPower 8 = .ok (.ishr, 1) := by decide +kernel
theorem dX0_leastPower_9 : decode cX0_leastPower 9 = .ok (.ireturn, 1) := by decide +kernel
theorem dX0_addMachine_0 : decode cX0_addMachine 0 = .ok (.aload_n 0, 1) := by decide +kernel
theorem dX0_addMachine_1 : decode cX0_addMachine 1 = .ok (.iload_n 1, 1) := by decide +kernel
theorem dX0_addMachine_2 : decode cX0_addMachine 2 = .ok (.invokevirtual 53, 3) := by decide +kernel
theorem dX0_addMachine_5 : decode cX0_addMachine 5 = .ok (.aload_n 0, 1) := by decide +kernel
theorem dX0_addMachine_6 : decode cX0_addMachine 6 = .ok (.getfield 26, 3) := by decide +kernel
theorem dX0_addMachine_9 : decode cX0_addMachine 9 = .ok (.iconst 2, 1) := by decide +kernel
theorem dX0_addMachine_10 : decode cX0_addMachine 10 = .ok (.iload_n 1, 1) := by decide +kernel
theorem dX0_addMachine_11 : decode cX0_addMachine 11 = .ok (.ishl, 1) := by decide +kernel
theorem dX0_addMachine_12 : decode cX0_addMachine 12 = .ok (.iconst 1, 1) := by decide +kernel
theorem dX0_addMachine_13 : decode cX0_addMachine 13 = .ok (.isub, 1) := by decide +kernel
theorem dX0_addMachine_14 : decode cX0_addMachine 14 = .ok (.iand, 1) := by decide +kernel
theorem dX0_addMachine_15 : decode cX0_addMachine 15 = .ok (.istore_n 2, 1) := by decide +kernel
theorem dX0_addMachine_16 : decode cX0_addMachine 16 = .ok (.sipush 480, 3) := by decide +kernel
theorem dX0_addMachine_19 : decode cX0_addMachine 19 = .ok (.aload_n 0, 1) := by decide +kernel
theorem dX0_addMachine_20 : decode cX0_addMachine 20 = .ok (.getfield 18, 3) := by decide +kernel
theorem dX0_addMachine_23 : decode cX0_addMachine 23 = .ok (.iload_n 2, 1) := by decide +kernel
theorem dX0_addMachine_24 : decode cX0_addMachine 24 = .ok (.invokevirtual 56, 3) := by decide +kernel
theorem dX0_addMachine_27 : decode cX0_addMachine 27 = .ok (.invokestatic 60, 3) := by decide +kernel
theorem dX0_addMachine_30 : decode cX0_addMachine 30 = .ok (.istore_n 3, 1) := by decide +kernel
theorem dX0_addMachine_31 : decode cX0_addMachine 31 = .ok (.iload_n 3, 1) := by decide +kernel
theorem dX0_addMachine_32 : decode cX0_addMachine 32 = .ok (.aload_n 0, 1) := by decide +kernel
theorem dX0_addMachine_33 : decode cX0_addMachine 33 = .ok (.getfield 18, 3) := by decide +kernel
theorem dX0_addMachine_36 : decode cX0_addMachine 36 = .ok (.getfield 65, 3) := by decide +kernel
theorem dX0_addMachine_39 : decode cX0_addMachine 39 = .ok (.iload_n 1, 1) := by decide +kernel
theorem dX0_addMachine_40 : decode cX0_addMachine 40 = .ok (.iaload, 1) := by decide +kernel
theorem dX0_addMachine_41 : decode cX0_addMachine 41 = .ok (.if_icmp .lt 30, 3) := by decide +kernel
theorem dX0_addMachine_44 : decode cX0_addMachine 44 = .ok (.aload_n 0, 1) := by decide +kernel
theorem dX0_addMachine_45 : decode cX0_addMachine 45 = .ok (.getfield 11, 3) := by decide +kernel
theorem dX0_addMachine_48 : decode cX0_addMachine 48 = .ok (.iload_n 3, 1) := by decide +kernel
theorem dX0_addMachine_49 : decode cX0_addMachine 49 = .ok (.aload_n 0, 1) := by decide +kernel
theorem dX0_addMachine_50 : decode cX0_addMachine 50 = .ok (.getfield 11, 3) := by decide +kernel
theorem dX0_addMachine_53 : decode cX0_addMachine 53 = .ok (.iload_n 3, 1) := by decide +kernel
theorem dX0_addMachine_54 : decode cX0_addMachine 54 = .ok (.iaload, 1) := by decide +kernel
theorem dX0_addMachine_55 : decode cX0_addMachine 55 = .ok (.aload_n 0, 1) := by decide +kernel
theorem dX0_addMachine_56 : decode cX0_addMachine 56 = .ok (.iload_n 1, 1) := by decide +kernel
theorem dX0_addMachine_57 : decode cX0_addMachine 57 = .ok (.iload_n 3, 1) := by decide +kernel
theorem dX0_addMachine_58 : decode cX0_addMachine 58 = .ok (.invokevirtual 68, 3) := by decide +kernel
theorem dX0_addMachine_61 : decode cX0_addMachine 61 = .ok (.invokestatic 60, 3) := by decide +kernel
theorem dX0_addMachine_64 : decode cX0_addMachine 64 = .ok (.iastore, 1) := by decide +kernel
theorem dX0_addMachine_65 : decode cX0_addMachine 65 = .ok (.iinc 3 (-1), 3) := by decide +kernel
theorem dX0_addMachine_68 : decode cX0_addMachine 68 = .ok (.goto (-37), 3) := by decide +kernel
theorem dX0_addMachine_71 : decode cX0_addMachine 71 = .ok (.return_, 1) := by decide +kernel
theorem dX0_fillRow_0 : decode cX0_fillRow 0 = .ok (.aload_n 0, 1) := by decide +kernel
theorem dX0_fillRow_1 : decode cX0_fillRow 1 = .ok (.getfield 18, 3) := by decide +kernel
theorem dX0_fillRow_4 : decode cX0_fillRow 4 = .ok (.getfield 65, 3) := by decide +kernel
theorem dX0_fillRow_7 : decode cX0_fillRow 7 = .ok (.iload_n 1, 1) := by decide +kernel
theorem dX0_fillRow_8 : decode cX0_fillRow 8 = .ok (.iaload, 1) := by decide +kernel
theorem dX0_fillRow_9 : decode cX0_fillRow 9 = .ok (.istore_n 2, 1) := by decide +kernel
theorem dX0_fillRow_10 : decode cX0_fillRow 10 = .ok (.iload_n 2, 1) := by decide +kernel
theorem dX0_fillRow_11 : decode cX0_fillRow 11 = .ok (.aload_n 0, 1) := by decide +kernel
theorem dX0_fillRow_12 : decode cX0_fillRow 12 = .ok (.getfield 18, 3) := by decide +kernel
theorem dX0_fillRow_15 : decode cX0_fillRow 15 = .ok (.getfield 71, 3) := by decide +kernel
theorem dX0_fillRow_18 : decode cX0_fillRow 18 = .ok (.iload_n 1, 1) := by decide +kernel
theorem dX0_fillRow_19 : decode cX0_fillRow 19 = .ok (.iaload, 1) := by decide +kernel
theorem dX0_fillRow_20 : decode cX0_fillRow 20 = .ok (.if_icmp .gt 38, 3) := by decide +kernel
theorem dX0_fillRow_23 : decode cX0_fillRow 23 = .ok (.aload_n 0, 1) := by decide +kernel
theorem dX0_fillRow_24 : decode cX0_fillRow 24 = .ok (.getfield 15, 3) := by decide +kernel
theorem dX0_fillRow_27 : decode cX0_fillRow 27 = .ok (.iload_n 2, 1) := by decide +kernel
theorem dX0_fillRow_28 : decode cX0_fillRow 28 = .ok (.aload_n 0, 1) := by decide +kernel
theorem dX0_fillRow_29 : decode cX0_fillRow 29 = .ok (.getfield 18, 3) := by decide +kernel
theorem dX0_fillRow_32 : decode cX0_fillRow 32 = .ok (.iload_n 1, 1) := by decide +kernel
theorem dX0_fillRow_33 : decode cX0_fillRow 33 = .ok (.iload_n 2, 1) := by decide +kernel
theorem dX0_fillRow_34 : decode cX0_fillRow 34 = .ok (.aload_n 0, 1) := by decide +kernel
theorem dX0_fillRow_35 : decode cX0_fillRow 35 = .ok (.getfield 30, 3) := by decide +kernel
theorem dX0_fillRow_38 : decode cX0_fillRow 38 = .ok (.invokevirtual 74, 3) := by decide +kernel
theorem dX0_fillRow_41 : decode cX0_fillRow 41 = .ok (.bipush 9, 2) := by decide +kernel
theorem dX0_fillRow_43 : decode cX0_fillRow 43 = .ok (.ishl, 1) := by decide +kernel
theorem dX0_fillRow_44 : decode cX0_fillRow 44 = .ok (.bipush 64, 2) := by decide +kernel
theorem dX0_fillRow_46 : decode cX0_fillRow 46 = .ok (.iadd, 1) := by decide +kernel
theorem dX0_fillRow_47 : decode cX0_fillRow 47 = .ok (.iconst 1, 1) := by decide +kernel
theorem dX0_fillRow_48 : decode cX0_fillRow 48 = .ok (.iload_n 1, 1) := by decide +kernel
theorem dX0_fillRow_49 : decode cX0_fillRow 49 = .ok (.ishl, 1) := by decide +kernel
theorem dX0_fillRow_50 : decode cX0_fillRow 50 = .ok (.iadd, 1) := by decide +kernel
theorem dX0_fillRow_51 : decode cX0_fillRow 51 = .ok (.iastore, 1) := by decide +kernel
theorem dX0_fillRow_52 : decode cX0_fillRow 52 = .ok (.iinc 2 1, 3) := by decide +kernel
theorem dX0_fillRow_55 : decode cX0_fillRow 55 = .ok (.goto (-45), 3) := by decide +kernel
theorem dX0_fillRow_58 : decode cX0_fillRow 58 = .ok (.return_, 1) := by decide +kernel
theorem dX0_leastWith_0 : decode cX0_leastWith 0 = .ok (.aload_n 0, 1) := by decide +kernel
theorem dX0_leastWith_1 : decode cX0_leastWith 1 = .ok (.getfield 18, 3) := by decide +kernel
theorem dX0_leastWith_4 : decode cX0_leastWith 4 = .ok (.getfield 71, 3) := by decide +kernel
theorem dX0_leastWith_7 : decode cX0_leastWith 7 = .ok (.iload_n 1, 1) := by decide +kernel
theorem dX0_leastWith_8 : decode cX0_leastWith 8 = .ok (.iaload, 1) := by decide +kernel
theorem dX0_leastWith_9 : decode cX0_leastWith 9 = .ok (.iload_n 2, 1) := by decide +kernel
theorem dX0_leastWith_10 : decode cX0_leastWith 10 = .ok (.invokestatic 60, 3) := by decide +kernel
theorem dX0_leastWith_13 : decode cX0_leastWith 13 = .ok (.istore_n 3, 1) := by decide +kernel
theorem dX0_leastWith_14 : decode cX0_leastWith 14 = .ok (.ldc 33, 2) := by decide +kernel
theorem dX0_leastWith_16 : decode cX0_leastWith 16 = .ok (.istore 4, 2) := by decide +kernel
theorem dX0_leastWith_18 : decode cX0_leastWith 18 = .ok (.aload_n 0, 1) := by decide +kernel
theorem dX0_leastWith_19 : decode cX0_leastWith 19 = .ok (.getfield 18, 3) := by decide +kernel
theorem dX0_leastWith_22 : decode cX0_leastWith 22 = .ok (.getfield 65, 3) := by decide +kernel
theorem dX0_leastWith_25 : decode cX0_leastWith 25 = .ok (.iload_n 1, 1) := by decide +kernel
theorem dX0_leastWith_26 : decode cX0_leastWith 26 = .ok (.iaload, 1) := by decide +kernel
theorem dX0_leastWith_27 : decode cX0_leastWith 27 = .ok (.istore 5, 2) := by decide +kernel
theorem dX0_leastWith_29 : decode cX0_leastWith 29 = .ok (.iload 5, 2) := by decide +kernel
theorem dX0_leastWith_31 : decode cX0_leastWith 31 = .ok (.iload_n 3, 1) := by decide +kernel
theorem dX0_leastWith_32 : decode cX0_leastWith 32 = .ok (.if_icmp .gt 39, 3) := by decide +kernel
theorem dX0_leastWith_35 : decode cX0_leastWith 35 = .ok (.aload_n 0, 1) := by decide +kernel
theorem dX0_leastWith_36 : decode cX0_leastWith 36 = .ok (.getfield 11, 3) := by decide +kernel
theorem dX0_leastWith_39 : decode cX0_leastWith 39 = .ok (.iload_n 2, 1) := by decide +kernel
theorem dX0_leastWith_40 : decode cX0_leastWith 40 = .ok (.iload 5, 2) := by decide +kernel
theorem dX0_leastWith_42 : decode cX0_leastWith 42 = .ok (.isub, 1) := by decide +kernel
theorem dX0_leastWith_43 : decode cX0_leastWith 43 = .ok (.iaload, 1) := by decide +kernel
theorem dX0_leastWith_44 : decode cX0_leastWith 44 = .ok (.aload_n 0, 1) := by decide +kernel
theorem dX0_leastWith_45 : decode cX0_leastWith 45 = .ok (.getfield 15, 3) := by decide +kernel
theorem dX0_leastWith_48 : decode cX0_leastWith 48 = .ok (.iload 5, 2) := by decide +kernel
theorem dX0_leastWith_50 : decode cX0_leastWith 50 = .ok (.iaload, 1) := by decide +kernel
theorem dX0_leastWith_51 : decode cX0_leastWith 51 = .ok (.iadd, 1) := by decide +kernel
theorem dX0_leastWith_52 : decode cX0_leastWith 52 = .ok (.istore 6, 2) := by decide +kernel
theorem dX0_leastWith_54 : decode cX0_leastWith 54 = .ok (.iload 6, 2) := by decide +kernel
theorem dX0_leastWith_56 : decode cX0_leastWith 56 = .ok (.iload 4, 2) := by decide +kernel
theorem dX0_leastWith_58 : decode cX0_leastWith 58 = .ok (.if_icmp .ge 7, 3) := by decide +kernel
theorem dX0_leastWith_61 : decode cX0_leastWith 61 = .ok (.iload 6, 2) := by decide +kernel
theorem dX0_leastWith_63 : decode cX0_leastWith 63 = .ok (.istore 4, 2) := by decide +kernel
theorem dX0_leastWith_65 : decode cX0_leastWith 65 = .ok (.iinc 5 1, 3) := by decide +kernel
theorem dX0_leastWith_68 : decode cX0_leastWith 68 = .ok (.goto (-39), 3) := by decide +kernel
theorem dX0_leastWith_71 : decode cX0_leastWith 71 = .ok (.iload 4, 2) := by decide +kernel
theorem dX0_leastWith_73 : decode cX0_leastWith 73 = .ok (.ireturn, 1) := by decide +kernel
theorem dX1_init_0 : decode cX1_init 0 = .ok (.aload_n 0, 1) := by decide +kernel
theorem dX1_init_1 : decode cX1_init 1 = .ok (.invokespecial 3, 3) := by decide +kernel
theorem dX1_init_4 : decode cX1_init 4 = .ok (.aload_n 0, 1) := by decide +kernel
theorem dX1_init_5 : decode cX1_init 5 = .ok (.iconst 4, 1) := by decide +kernel
theorem dX1_init_6 : decode cX1_init 6 = .ok (.anewarray 9, 3) := by decide +kernel
theorem dX1_init_9 : decode cX1_init 9 = .ok (.putfield 11, 3) := by decide +kernel
theorem dX1_init_12 : decode cX1_init 12 = .ok (.iconst 0, 1) := by decide +kernel
theorem dX1_init_13 : decode cX1_init 13 = .ok (.istore_n 1, 1) := by decide +kernel
theorem dX1_init_14 : decode cX1_init 14 = .ok (.iload_n 1, 1) := by decide +kernel
theorem dX1_init_15 : decode cX1_init 15 = .ok (.iconst 4, 1) := by decide +kernel
theorem dX1_init_16 : decode cX1_init 16 = .ok (.if_icmp .ge 22, 3) := by decide +kernel
theorem dX1_init_19 : decode cX1_init 19 = .ok (.aload_n 0, 1) := by decide +kernel
theorem dX1_init_20 : decode cX1_init 20 = .ok (.getfield 11, 3) := by decide +kernel
theorem dX1_init_23 : decode cX1_init 23 = .ok (.iload_n 1, 1) := by decide +kernel
theorem dX1_init_24 : decode cX1_init 24 = .ok (.new 9, 3) := by decide +kernel
theorem dX1_init_27 : decode cX1_init 27 = .ok (.dup, 1) := by decide +kernel
theorem dX1_init_28 : decode cX1_init 28 = .ok (.invokespecial 17, 3) := by decide +kernel
theorem dX1_init_31 : decode cX1_init 31 = .ok (.aastore, 1) := by decide +kernel
theorem dX1_init_32 : decode cX1_init 32 = .ok (.iinc 1 1, 3) := by decide +kernel
theorem dX1_init_35 : decode cX1_init 35 = .ok (.goto (-21), 3) := by decide +kernel
theorem dX1_init_38 : decode cX1_init 38 = .ok (.return_, 1) := by decide +kernel
theorem dX1_forget_0 : decode cX1_forget 0 = .ok (.aload_n 0, 1) := by decide +kernel
theorem dX1_forget_1 : decode cX1_forget 1 = .ok (.iconst 0, 1) := by decide +kernel
theorem dX1_forget_2 : decode cX1_forget 2 = .ok (.putfield 18, 3) := by decide +kernel
theorem dX1_forget_5 : decode cX1_forget 5 = .ok (.return_, 1) := by decide +kernel
theorem dX1_keep_0 : decode cX1_keep 0 = .ok (.aload_n 0, 1) := by decide +kernel
theorem dX1_keep_1 : decode cX1_keep 1 = .ok (.getfield 11, 3) := by decide +kernel
theorem dX1_keep_4 : decode cX1_keep 4 = .ok (.aload_n 0, 1) := by decide +kernel
theorem dX1_keep_5 : decode cX1_keep 5 = .ok (.getfield 22, 3) := by decide +kernel
theorem dX1_keep_8 : decode cX1_keep 8 = .ok (.aaload, 1) := by decide +kernel
theorem dX1_keep_9 : decode cX1_keep 9 = .ok (.aload_n 1, 1) := by decide +kernel
theorem dX1_keep_10 : decode cX1_keep 10 = .ok (.invokevirtual 25, 3) := by decide +kernel
theorem dX1_keep_13 : decode cX1_keep 13 = .ok (.aload_n 0, 1) := by decide +kernel
theorem dX1_keep_14 : decode cX1_keep 14 = .ok (.aload_n 0, 1) := by decide +kernel
theorem dX1_keep_15 : decode cX1_keep 15 = .ok (.getfield 22, 3) := by decide +kernel
theorem dX1_keep_18 : decode cX1_keep 18 = .ok (.iconst 1, 1) := by decide +kernel
theorem dX1_keep_19 : decode cX1_keep 19 = .ok (.iadd, 1) := by decide +kernel
theorem dX1_keep_20 : decode cX1_keep 20 = .ok (.iconst 4, 1) := by decide +kernel
theorem dX1_keep_21 : decode cX1_keep 21 = .ok (.irem, 1) := by decide +kernel
theorem dX1_keep_22 : decode cX1_keep 22 = .ok (.putfield 22, 3) := by decide +kernel
theorem dX1_keep_25 : decode cX1_keep 25 = .ok (.aload_n 0, 1) := by decide +kernel
theorem dX1_keep_26 : decode cX1_keep 26 = .ok (.iconst 4, 1) := by decide +kernel
theorem dX1_keep_27 : decode cX1_keep 27 = .ok (.aload_n 0, 1) := by decide +kernel
theorem dX1_keep_28 : decode cX1_keep 28 = .ok (.getfield 18, 3) := by decide +kernel
theorem dX1_keep_31 : decode cX1_keep 31 = .ok (.iconst 1, 1) := by decide +kernel
theorem dX1_keep_32 : decode cX1_keep 32 = .ok (.iadd, 1) := by decide +kernel
theorem dX1_keep_33 : decode cX1_keep 33 = .ok (.invokestatic 29, 3) := by decide +kernel
theorem dX1_keep_36 : decode cX1_keep 36 = .ok (.putfield 18, 3) := by decide +kernel
theorem dX1_keep_39 : decode cX1_keep 39 = .ok (.return_, 1) := by decide +kernel
theorem dX1_giveBack_0 : decode cX1_giveBack 0 = .ok (.aload_n 0, 1) := by decide +kernel
theorem dX1_giveBack_1 : decode cX1_giveBack 1 = .ok (.getfield 18, 3) := by decide +kernel
theorem dX1_giveBack_4 : decode cX1_giveBack 4 = .ok (.ifCond .ne 5, 3) := by decide +kernel
theorem dX1_giveBack_7 : decode cX1_giveBack 7 = .ok (.iconst 0, 1) := by decide +kernel
theorem dX1_giveBack_8 : decode cX1_giveBack 8 = .ok (.ireturn, 1) := by decide +kernel
theorem dX1_giveBack_9 : decode cX1_giveBack 9 = .ok (.aload_n 0, 1) := by decide +kernel
theorem dX1_giveBack_10 : decode cX1_giveBack 10 = .ok (.aload_n 0, 1) := by decide +kernel
theorem dX1_giveBack_11 : decode cX1_giveBack 11 = .ok (.getfield 22, 3) := by decide +kernel
theorem dX1_giveBack_14 : decode cX1_giveBack 14 = .ok (.iconst 4, 1) := by decide +kernel
theorem dX1_giveBack_15 : decode cX1_giveBack 15 = .ok (.iadd, 1) := by decide +kernel
theorem dX1_giveBack_16 : decode cX1_giveBack 16 = .ok (.iconst 1, 1) := by decide +kernel
theorem dX1_giveBack_17 : decode cX1_giveBack 17 = .ok (.isub, 1) := by decide +kernel
theorem dX1_giveBack_18 : decode cX1_giveBack 18 = .ok (.iconst 4, 1) := by decide +kernel
theorem dX1_giveBack_19 : decode cX1_giveBack 19 = .ok (.irem, 1) := by decide +kernel
theorem dX1_giveBack_20 : decode cX1_giveBack 20 = .ok (.putfield 22, 3) := by decide +kernel
theorem dX1_giveBack_23 : decode cX1_giveBack 23 = .ok (.aload_n 0, 1) := by decide +kernel
theorem dX1_giveBack_24 : decode cX1_giveBack 24 = .ok (.dup, 1) := by decide +kernel
theorem dX1_giveBack_25 : decode cX1_giveBack 25 = .ok (.getfield 18, 3) := by decide +kernel
theorem dX1_giveBack_28 : decode cX1_giveBack 28 = .ok (.iconst 1, 1) := by decide +kernel
theorem dX1_giveBack_29 : decode cX1_giveBack 29 = .ok (.isub, 1) := by decide +kernel
theorem dX1_giveBack_30 : decode cX1_giveBack 30 = .ok (.putfield 18, 3) := by decide +kernel
theorem dX1_giveBack_33 : decode cX1_giveBack 33 = .ok (.aload_n 1, 1) := by decide +kernel
theorem dX1_giveBack_34 : decode cX1_giveBack 34 = .ok (.aload_n 0, 1) := by decide +kernel
theorem dX1_giveBack_35 : decode cX1_giveBack 35 = .ok (.getfield 11, 3) := by decide +kernel
theorem dX1_giveBack_38 : decode cX1_giveBack 38 = .ok (.aload_n 0, 1) := by decide +kernel
theorem dX1_giveBack_39 : decode cX1_giveBack 39 = .ok (.getfield 22, 3) := by decide +kernel
theorem dX1_giveBack_42 : decode cX1_giveBack 42 = .ok (.aaload, 1) := by decide +kernel
theorem dX1_giveBack_43 : decode cX1_giveBack 43 = .ok (.invokevirtual 25, 3) := by decide +kernel
theorem dX1_giveBack_46 : decode cX1_giveBack 46 = .ok (.iconst 1, 1) := by decide +kernel
theorem dX1_giveBack_47 : decode cX1_giveBack 47 = .ok (.ireturn, 1) := by decide +kernel
theorem dX2_init_0 : decode cX2_init 0 = .ok (.aload_n 0, 1) := by decide +kernel
theorem dX2_init_1 : decode cX2_init 1 = .ok (.invokespecial 3, 3) := by decide +kernel
theorem dX2_init_4 : decode cX2_init 4 = .ok (.aload_n 0, 1) := by decide +kernel
theorem dX2_init_5 : decode cX2_init 5 = .ok (.bipush 6, 2) := by decide +kernel
theorem dX2_init_7 : decode cX2_init 7 = .ok (.newarray .int, 2) := by decide +kernel
theorem dX2_init_9 : decode cX2_init 9 = .ok (.putfield 9, 3) := by decide +kernel
theorem dX2_init_12 : decode cX2_init 12 = .ok (.aload_n 0, 1) := by decide +kernel
theorem dX2_init_13 : decode cX2_init 13 = .ok (.bipush 6, 2) := by decide +kernel
theorem dX2_init_15 : decode cX2_init 15 = .ok (.newarray .int, 2) := by decide +kernel
theorem dX2_init_17 : decode cX2_init 17 = .ok (.putfield 15, 3) := by decide +kernel
theorem dX2_init_20 : decode cX2_init 20 = .ok (.aload_n 0, 1) := by decide +kernel
theorem dX2_init_21 : decode cX2_init 21 = .ok (.bipush 6, 2) := by decide +kernel
theorem dX2_init_23 : decode cX2_init 23 = .ok (.newarray .int, 2) := by decide +kernel
theorem dX2_init_25 : decode cX2_init 25 = .ok (.putfield 18, 3) := by decide +kernel
theorem dX2_init_28 : decode cX2_init 28 = .ok (.aload_n 0, 1) := by decide +kernel
theorem dX2_init_29 : decode cX2_init 29 = .ok (.bipush 6, 2) := by decide +kernel
theorem dX2_init_31 : decode cX2_init 31 = .ok (.newarray .int, 2) := by decide +kernel
theorem dX2_init_33 : decode cX2_init 33 = .ok (.putfield 21, 3) := by decide +kernel
theorem dX2_init_36 : decode cX2_init 36 = .ok (.aload_n 0, 1) := by decide +kernel
theorem dX2_init_37 : decode cX2_init 37 = .ok (.bipush 6, 2) := by decide +kernel
theorem dX2_init_39 : decode cX2_init 39 = .ok (.newarray .int, 2) := by decide +kernel
theorem dX2_init_41 : decode cX2_init 41 = .ok (.putfield 24, 3) := by decide +kernel
theorem dX2_init_44 : decode cX2_init 44 = .ok (.aload_n 0, 1) := by decide +kernel
theorem dX2_init_45 : decode cX2_init 45 = .ok (.bipush 6, 2) := by decide +kernel
theorem dX2_init_47 : decode cX2_init 47 = .ok (.newarray .int, 2) := by decide +kernel
theorem dX2_init_49 : decode cX2_init 49 = .ok (.putfield 27, 3) := by decide +kernel
theorem dX2_init_52 : decode cX2_init 52 = .ok (.return_, 1) := by decide +kernel
theorem dX2_reset_0 : decode cX2_reset 0 = .ok (.aload_n 0, 1) := by decide +kernel
theorem dX2_reset_1 : decode cX2_reset 1 = .ok (.iconst 0, 1) := by decide +kernel
theorem dX2_reset_2 : decode cX2_reset 2 = .ok (.putfield 30, 3) := by decide +kernel
theorem dX2_reset_5 : decode cX2_reset 5 = .ok (.aload_n 0, 1) := by decide +kernel
theorem dX2_reset_6 : decode cX2_reset 6 = .ok (.iconst 5, 1) := by decide +kernel
theorem dX2_reset_7 : decode cX2_reset 7 = .ok (.putfield 34, 3) := by decide +kernel
theorem dX2_reset_10 : decode cX2_reset 10 = .ok (.aload_n 0, 1) := by decide +kernel
theorem dX2_reset_11 : decode cX2_reset 11 = .ok (.iconst 3, 1) := by decide +kernel
theorem dX2_reset_12 : decode cX2_reset 12 = .ok (.putfield 37, 3) := by decide +kernel
theorem dX2_reset_15 : decode cX2_reset 15 = .ok (.aload_n 0, 1) := by decide +kernel
theorem dX2_reset_16 : decode cX2_reset 16 = .ok (.iconst 3, 1) := by decide +kernel
theorem dX2_reset_17 : decode cX2_reset 17 = .ok (.putfield 40, 3) := by decide +kernel
theorem dX2_reset_20 : decode cX2_reset 20 = .ok (.aload_n 0, 1) := by decide +kernel
theorem dX2_reset_21 : decode cX2_reset 21 = .ok (.iconst 1, 1) := by decide +kernel
theorem dX2_reset_22 : decode cX2_reset 22 = .ok (.putfield 43, 3) := by decide +kernel
theorem dX2_reset_25 : decode cX2_reset 25 = .ok (.aload_n 0, 1) := by decide +kernel
theorem dX2_reset_26 : decode cX2_reset 26 = .ok (.bipush 90, 2) := by decide +kernel
theorem dX2_reset_28 : decode cX2_reset 28 = .ok (.putfield 46, 3) := by decide +kernel
theorem dX2_reset_31 : decode cX2_reset 31 = .ok (.aload_n 0, 1) := by decide +kernel
theorem dX2_reset_32 : decode cX2_reset 32 = .ok (.bipush 60, 2) := by decide +kernel
theorem dX2_reset_34 : decode cX2_reset 34 = .ok (.putfield 49, 3) := by decide +kernel
theorem dX2_reset_37 : decode cX2_reset 37 = .ok (.aload_n 0, 1) := by decide +kernel
theorem dX2_reset_38 : decode cX2_reset 38 = .ok (.iconst 2, 1) := by decide +kernel
theorem dX2_reset_39 : decode cX2_reset 39 = .ok (.putfield 52, 3) := by decide +kernel
theorem dX2_reset_42 : decode cX2_reset 42 = .ok (.return_, 1) := by decide +kernel
theorem dX2_take_0 : decode cX2_take 0 = .ok (.aload_n 2, 1) := by decide +kernel
theorem dX2_take_1 : decode cX2_take 1 = .ok (.arraylength, 1) := by decide +kernel
theorem dX2_take_2 : decode cX2_take 2 = .ok (.getstatic 55, 3) := by decide +kernel
theorem dX2_take_5 : decode cX2_take 5 = .ok (.arraylength, 1) := by decide +kernel
theorem dX2_take_6 : decode cX2_take 6 = .ok (.if_icmp .ge 4, 3) := by decide +kernel
theorem dX2_take_9 : decode cX2_take 9 = .ok (.return_, 1) := by decide +kernel
theorem dX2_take_10 : decode cX2_take 10 = .ok (.iload_n 1, 1) := by decide +kernel
theorem dX2_take_11 : decode cX2_take 11 = .ok (.bipush 99, 2) := by decide +kernel
theorem dX2_take_13 : decode cX2_take 13 = .ok (.if_icmp .ne 11, 3) := by decide +kernel
theorem dX2_take_16 : decode cX2_take 16 = .ok (.aload_n 0, 1) := by decide +kernel
theorem dX2_take_17 : decode cX2_take 17 = .ok (.aload_n 2, 1) := by decide +kernel
theorem dX2_take_18 : decode cX2_take 18 = .ok (.invokevirtual 58, 3) := by decide +kernel
theorem dX2_take_21 : decode cX2_take 21 = .ok (.goto 67, 3) := by decide +kernel
theorem dX2_take_24 : decode cX2_take 24 = .ok (.iload_n 1, 1) := by decide +kernel
theorem dX2_take_25 : decode cX2_take 25 = .ok (.bipush 114, 2) := by decide +kernel
theorem dX2_take_27 : decode cX2_take 27 = .ok (.if_icmp .ne 34, 3) := by decide +kernel
theorem dX2_take_30 : decode cX2_take 30 = .ok (.aload_n 0, 1) := by decide +kernel
theorem dX2_take_31 : decode cX2_take 31 = .ok (.aload_n 2, 1) := by decide +kernel
theorem dX2_take_32 : decode cX2_take 32 = .ok (.iconst 0, 1) := by decide +kernel
theorem dX2_take_33 : decode cX2_take 33 = .ok (.iaload, 1) := by decide +kernel
theorem dX2_take_34 : decode cX2_take 34 = .ok (.putfield 34, 3) := by decide +kernel
theorem dX2_take_37 : decode cX2_take 37 = .ok (.aload_n 0, 1) := by decide +kernel
theorem dX2_take_38 : decode cX2_take 38 = .ok (.aload_n 2, 1) := by decide +kernel
theorem dX2_take_39 : decode cX2_take 39 = .ok (.iconst 1, 1) := by decide +kernel
theorem dX2_take_40 : decode cX2_take 40 = .ok (.iaload, 1) := by decide +kernel
theorem dX2_take_41 : decode cX2_take 41 = .ok (.putfield 37, 3) := by decide +kernel
theorem dX2_take_44 : decode cX2_take 44 = .ok (.aload_n 0, 1) := by decide +kernel
theorem dX2_take_45 : decode cX2_take 45 = .ok (.aload_n 2, 1) := by decide +kernel
theorem dX2_take_46 : decode cX2_take 46 = .ok (.iconst 2, 1) := by decide +kernel
theorem dX2_take_47 : decode cX2_take 47 = .ok (.iaload, 1) := by decide +kernel
theorem dX2_take_48 : decode cX2_take 48 = .ok (.putfield 40, 3) := by decide +kernel
theorem dX2_take_51 : decode cX2_take 51 = .ok (.aload_n 0, 1) := by decide +kernel
theorem dX2_take_52 : decode cX2_take 52 = .ok (.aload_n 2, 1) := by decide +kernel
theorem dX2_take_53 : decode cX2_take 53 = .ok (.iconst 3, 1) := by decide +kernel
theorem dX2_take_54 : decode cX2_take 54 = .ok (.iaload, 1) := by decide +kernel
theorem dX2_take_55 : decode cX2_take 55 = .ok (.putfield 43, 3) := by decide +kernel
theorem dX2_take_58 : decode cX2_take 58 = .ok (.goto 30, 3) := by decide +kernel
theorem dX2_take_61 : decode cX2_take 61 = .ok (.iload_n 1, 1) := by decide +kernel
theorem dX2_take_62 : decode cX2_take 62 = .ok (.bipush 104, 2) := by decide +kernel
theorem dX2_take_64 : decode cX2_take 64 = .ok (.if_icmp .ne 24, 3) := by decide +kernel
theorem dX2_take_67 : decode cX2_take 67 = .ok (.aload_n 0, 1) := by decide +kernel
theorem dX2_take_68 : decode cX2_take 68 = .ok (.aload_n 2, 1) := by decide +kernel
theorem dX2_take_69 : decode cX2_take 69 = .ok (.iconst 0, 1) := by decide +kernel
theorem dX2_take_70 : decode cX2_take 70 = .ok (.iaload, 1) := by decide +kernel
theorem dX2_take_71 : decode cX2_take 71 = .ok (.putfield 46, 3) := by decide +kernel
theorem dX2_take_74 : decode cX2_take 74 = .ok (.aload_n 0, 1) := by decide +kernel
theorem dX2_take_75 : decode cX2_take 75 = .ok (.aload_n 2, 1) := by decide +kernel
theorem dX2_take_76 : decode cX2_take 76 = .ok (.iconst 1, 1) := by decide +kernel
theorem dX2_take_77 : decode cX2_take 77 = .ok (.iaload, 1) := by decide +kernel
theorem dX2_take_78 : decode cX2_take 78 = .ok (.putfield 49, 3) := by decide +kernel
theorem dX2_take_81 : decode cX2_take 81 = .ok (.aload_n 0, 1) := by decide +kernel
theorem dX2_take_82 : decode cX2_take 82 = .ok (.aload_n 2, 1) := by decide +kernel
theorem dX2_take_83 : decode cX2_take 83 = .ok (.iconst 2, 1) := by decide +kernel
theorem dX2_take_84 : decode cX2_take 84 = .ok (.iaload, 1) := by decide +kernel
theorem dX2_take_85 : decode cX2_take 85 = .ok (.putfield 52, 3) := by decide +kernel
theorem dX2_take_88 : decode cX2_take 88 = .ok (.return_, 1) := by decide +kernel
theorem dX2_takeMachine_0 : decode cX2_takeMachine 0 = .ok (.aload_n 0, 1) := by decide +kernel
theorem dX2_takeMachine_1 : decode cX2_takeMachine 1 = .ok (.getfield 30, 3) := by decide +kernel
theorem dX2_takeMachine_4 : decode cX2_takeMachine 4 = .ok (.bipush 6, 2) := by decide +kernel
theorem dX2_takeMachine_6 : decode cX2_takeMachine 6 = .ok (.if_icmp .lt 4, 3) := by decide +kernel
theorem dX2_takeMachine_9 : decode cX2_takeMachine 9 = .ok (.return_, 1) := by decide +kernel
theorem dX2_takeMachine_10 : decode cX2_takeMachine 10 = .ok (.aload_n 0, 1) := by decide +kernel
theorem dX2_takeMachine_11 : decode cX2_takeMachine 11 = .ok (.getfield 9, 3) := by decide +kernel
theorem dX2_takeMachine_14 : decode cX2_takeMachine 14 = .ok (.aload_n 0, 1) := by decide +kernel
theorem dX2_takeMachine_15 : decode cX2_takeMachine 15 = .ok (.getfield 30, 3) := by decide +kernel
theorem dX2_takeMachine_18 : decode cX2_takeMachine 18 = .ok (.aload_n 1, 1) := by decide +kernel
theorem dX2_takeMachine_19 : decode cX2_takeMachine 19 = .ok (.iconst 0, 1) := by decide +kernel
theorem dX2_takeMachine_20 : decode cX2_takeMachine 20 = .ok (.iaload, 1) := by decide +kernel
theorem dX2_takeMachine_21 : decode cX2_takeMachine 21 = .ok (.iastore, 1) := by decide +kernel
theorem dX2_takeMachine_22 : decode cX2_takeMachine 22 = .ok (.aload_n 0, 1) := by decide +kernel
theorem dX2_takeMachine_23 : decode cX2_takeMachine 23 = .ok (.getfield 15, 3) := by decide +kernel
theorem dX2_takeMachine_26 : decode cX2_takeMachine 26 = .ok (.aload_n 0, 1) := by decide +kernel
theorem dX2_takeMachine_27 : decode cX2_takeMachine 27 = .ok (.getfield 30, 3) := by decide +kernel
theorem dX2_takeMachine_30 : decode cX2_takeMachine 30 = .ok (.aload_n 1, 1) := by decide +kernel
theorem dX2_takeMachine_31 : decode cX2_takeMachine 31 = .ok (.iconst 1, 1) := by decide +kernel
theorem dX2_takeMachine_32 : decode cX2_takeMachine 32 = .ok (.iaload, 1) := by decide +kernel
theorem dX2_takeMachine_33 : decode cX2_takeMachine 33 = .ok (.iastore, 1) := by decide +kernel
theorem dX2_takeMachine_34 : decode cX2_takeMachine 34 = .ok (.aload_n 0, 1) := by decide +kernel
theorem dX2_takeMachine_35 : decode cX2_takeMachine 35 = .ok (.getfield 18, 3) := by decide +kernel
theorem dX2_takeMachine_38 : decode cX2_takeMachine 38 = .ok (.aload_n 0, 1) := by decide +kernel
theorem dX2_takeMachine_39 : decode cX2_takeMachine 39 = .ok (.getfield 30, 3) := by decide +kernel
theorem dX2_takeMachine_42 : decode cX2_takeMachine 42 = .ok (.aload_n 1, 1) := by decide +kernel
theorem dX2_takeMachine_43 : decode cX2_takeMachine 43 = .ok (.iconst 2, 1) := by decide +kernel
theorem dX2_takeMachine_44 : decode cX2_takeMachine 44 = .ok (.iaload, 1) := by decide +kernel
theorem dX2_takeMachine_45 : decode cX2_takeMachine 45 = .ok (.iastore, 1) := by decide +kernel
theorem dX2_takeMachine_46 : decode cX2_takeMachine 46 = .ok (.aload_n 0, 1) := by decide +kernel
theorem dX2_takeMachine_47 : decode cX2_takeMachine 47 = .ok (.getfield 21, 3) := by decide +kernel
theorem dX2_takeMachine_50 : decode cX2_takeMachine 50 = .ok (.aload_n 0, 1) := by decide +kernel
theorem dX2_takeMachine_51 : decode cX2_takeMachine 51 = .ok (.getfield 30, 3) := by decide +kernel
theorem dX2_takeMachine_54 : decode cX2_takeMachine 54 = .ok (.aload_n 1, 1) := by decide +kernel
theorem dX2_takeMachine_55 : decode cX2_takeMachine 55 = .ok (.iconst 3, 1) := by decide +kernel
theorem dX2_takeMachine_56 : decode cX2_takeMachine 56 = .ok (.iaload, 1) := by decide +kernel
theorem dX2_takeMachine_57 : decode cX2_takeMachine 57 = .ok (.iastore, 1) := by decide +kernel
theorem dX2_takeMachine_58 : decode cX2_takeMachine 58 = .ok (.aload_n 0, 1) := by decide +kernel
theorem dX2_takeMachine_59 : decode cX2_takeMachine 59 = .ok (.getfield 24, 3) := by decide +kernel
theorem dX2_takeMachine_62 : decode cX2_takeMachine 62 = .ok (.aload_n 0, 1) := by decide +kernel
theorem dX2_takeMachine_63 : decode cX2_takeMachine 63 = .ok (.getfield 30, 3) := by decide +kernel
theorem dX2_takeMachine_66 : decode cX2_takeMachine 66 = .ok (.aload_n 1, 1) := by decide +kernel
theorem dX2_takeMachine_67 : decode cX2_takeMachine 67 = .ok (.iconst 4, 1) := by decide +kernel
theorem dX2_takeMachine_68 : decode cX2_takeMachine 68 = .ok (.iaload, 1) := by decide +kernel
theorem dX2_takeMachine_69 : decode cX2_takeMachine 69 = .ok (.iastore, 1) := by decide +kernel
theorem dX2_takeMachine_70 : decode cX2_takeMachine 70 = .ok (.aload_n 0, 1) := by decide +kernel
theorem dX2_takeMachine_71 : decode cX2_takeMachine 71 = .ok (.getfield 27, 3) := by decide +kernel
theorem dX2_takeMachine_74 : decode cX2_takeMachine 74 = .ok (.aload_n 0, 1) := by decide +kernel
theorem dX2_takeMachine_75 : decode cX2_takeMachine 75 = .ok (.getfield 30, 3) := by decide +kernel
theorem dX2_takeMachine_78 : decode cX2_takeMachine 78 = .ok (.aload_n 1, 1) := by decide +kernel
theorem dX2_takeMachine_79 : decode cX2_takeMachine 79 = .ok (.iconst 5, 1) := by decide +kernel
theorem dX2_takeMachine_80 : decode cX2_takeMachine 80 = .ok (.iaload, 1) := by decide +kernel
theorem dX2_takeMachine_81 : decode cX2_takeMachine 81 = .ok (.iastore, 1) := by decide +kernel
theorem dX2_takeMachine_82 : decode cX2_takeMachine 82 = .ok (.aload_n 0, 1) := by decide +kernel
theorem dX2_takeMachine_83 : decode cX2_takeMachine 83 = .ok (.dup, 1) := by decide +kernel
theorem dX2_takeMachine_84 : decode cX2_takeMachine 84 = .ok (.getfield 30, 3) := by decide +kernel
theorem dX2_takeMachine_87 : decode cX2_takeMachine 87 = .ok (.iconst 1, 1) := by decide +kernel
theorem dX2_takeMachine_88 : decode cX2_takeMachine 88 = .ok (.iadd, 1) := by decide +kernel
theorem dX2_takeMachine_89 : decode cX2_takeMachine 89 = .ok (.putfield 30, 3) := by decide +kernel
theorem dX2_takeMachine_92 : decode cX2_takeMachine 92 = .ok (.return_, 1) := by decide +kernel
theorem dX2_all_0 : decode cX2_all 0 = .ok (.iconst 1, 1) := by decide +kernel
theorem dX2_all_1 : decode cX2_all 1 = .ok (.aload_n 0, 1) := by decide +kernel
theorem dX2_all_2 : decode cX2_all 2 = .ok (.getfield 30, 3) := by decide +kernel
theorem dX2_all_5 : decode cX2_all 5 = .ok (.ishl, 1) := by decide +kernel
theorem dX2_all_6 : decode cX2_all 6 = .ok (.iconst 1, 1) := by decide +kernel
theorem dX2_all_7 : decode cX2_all 7 = .ok (.isub, 1) := by decide +kernel
theorem dX2_all_8 : decode cX2_all 8 = .ok (.ireturn, 1) := by decide +kernel
theorem dX2_powerAt_0 : decode cX2_powerAt 0 = .ok (.aload_n 0, 1) := by decide +kernel
theorem dX2_powerAt_1 : decode cX2_powerAt 1 = .ok (.getfield 18, 3) := by decide +kernel
theorem dX2_powerAt_4 : decode cX2_powerAt 4 = .ok (.iload_n 1, 1) := by decide +kernel
theorem dX2_powerAt_5 : decode cX2_powerAt 5 = .ok (.iaload, 1) := by decide +kernel
theorem dX2_powerAt_6 : decode cX2_powerAt 6 = .ok (.bipush 100, 2) := by decide +kernel
theorem dX2_powerAt_8 : decode cX2_powerAt 8 = .ok (.aload_n 0, 1) := by decide +kernel
theorem dX2_powerAt_9 : decode cX2_powerAt 9 = .ok (.getfield 21, 3) := by decide +kernel
theorem dX2_powerAt_12 : decode cX2_powerAt 12 = .ok (.iload_n 1, 1) := by decide +kernel
theorem dX2_powerAt_13 : decode cX2_powerAt 13 = .ok (.iaload, 1) := by decide +kernel
theorem dX2_powerAt_14 : decode cX2_powerAt 14 = .ok (.imul, 1) := by decide +kernel
theorem dX2_powerAt_15 : decode cX2_powerAt 15 = .ok (.aload_n 0, 1) := by decide +kernel
theorem dX2_powerAt_16 : decode cX2_powerAt 16 = .ok (.getfield 24, 3) := by decide +kernel
theorem dX2_powerAt_19 : decode cX2_powerAt 19 = .ok (.iload_n 1, 1) := by decide +kernel
theorem dX2_powerAt_20 : decode cX2_powerAt 20 = .ok (.iaload, 1) := by decide +kernel
theorem dX2_powerAt_21 : decode cX2_powerAt 21 = .ok (.iload_n 2, 1) := by decide +kernel
theorem dX2_powerAt_22 : decode cX2_powerAt 22 = .ok (.imul, 1) := by decide +kernel
theorem dX2_powerAt_23 : decode cX2_powerAt 23 = .ok (.iadd, 1) := by decide +kernel
theorem dX2_powerAt_24 : decode cX2_powerAt 24 = .ok (.iload_n 2, 1) := by decide +kernel
theorem dX2_powerAt_25 : decode cX2_powerAt 25 = .ok (.imul, 1) := by decide +kernel
theorem dX2_powerAt_26 : decode cX2_powerAt 26 = .ok (.bipush 60, 2) := by decide +kernel
theorem dX2_powerAt_28 : decode cX2_powerAt 28 = .ok (.iload_n 3, 1) := by decide +kernel
theorem dX2_powerAt_29 : decode cX2_powerAt 29 = .ok (.iadd, 1) := by decide +kernel
theorem dX2_powerAt_30 : decode cX2_powerAt 30 = .ok (.imul, 1) := by decide +kernel
theorem dX2_powerAt_31 : decode cX2_powerAt 31 = .ok (.sipush 10000, 3) := by decide +kernel
theorem dX2_powerAt_34 : decode cX2_powerAt 34 = .ok (.idiv, 1) := by decide +kernel
theorem dX2_powerAt_35 : decode cX2_powerAt 35 = .ok (.iadd, 1) := by decide +kernel
theorem dX2_powerAt_36 : decode cX2_powerAt 36 = .ok (.ireturn, 1) := by decide +kernel
theorem dX2_can_0 : decode cX2_can 0 = .ok (.aload_n 0, 1) := by decide +kernel
theorem dX2_can_1 : decode cX2_can 1 = .ok (.iload_n 1, 1) := by decide +kernel
theorem dX2_can_2 : decode cX2_can 2 = .ok (.invokevirtual 62, 3) := by decide +kernel
theorem dX2_can_5 : decode cX2_can 5 = .ok (.iload_n 2, 1) := by decide +kernel
theorem dX2_can_6 : decode cX2_can 6 = .ok (.if_icmp .gt 16, 3) := by decide +kernel
theorem dX2_can_9 : decode cX2_can 9 = .ok (.iload_n 2, 1) := by decide +kernel
theorem dX2_can_10 : decode cX2_can 10 = .ok (.aload_n 0, 1) := by decide +kernel
theorem dX2_can_11 : decode cX2_can 11 = .ok (.iload_n 1, 1) := by decide +kernel
theorem dX2_can_12 : decode cX2_can 12 = .ok (.invokevirtual 66, 3) := by decide +kernel
theorem dX2_can_15 : decode cX2_can 15 = .ok (.if_icmp .gt 7, 3) := by decide +kernel
theorem dX2_can_18 : decode cX2_can 18 = .ok (.iconst 1, 1) := by decide +kernel
theorem dX2_can_19 : decode cX2_can 19 = .ok (.goto 4, 3) := by decide +kernel
theorem dX2_can_22 : decode cX2_can 22 = .ok (.iconst 0, 1) := by decide +kernel
theorem dX2_can_23 : decode cX2_can 23 = .ok (.ireturn, 1) := by decide +kernel
theorem dX2_leasts_0 : decode cX2_leasts 0 = .ok (.aload_n 0, 1) := by decide +kernel
theorem dX2_leasts_1 : decode cX2_leasts 1 = .ok (.iload_n 1, 1) := by decide +kernel
theorem dX2_leasts_2 : decode cX2_leasts 2 = .ok (.aload_n 0, 1) := by decide +kernel
theorem dX2_leasts_3 : decode cX2_leasts 3 = .ok (.getfield 9, 3) := by decide +kernel
theorem dX2_leasts_6 : decode cX2_leasts 6 = .ok (.invokevirtual 69, 3) := by decide +kernel
theorem dX2_leasts_9 : decode cX2_leasts 9 = .ok (.ireturn, 1) := by decide +kernel
theorem dX2_mosts_0 : decode cX2_mosts 0 = .ok (.aload_n 0, 1) := by decide +kernel
theorem dX2_mosts_1 : decode cX2_mosts 1 = .ok (.iload_n 1, 1) := by decide +kernel
theorem dX2_mosts_2 : decode cX2_mosts 2 = .ok (.aload_n 0, 1) := by decide +kernel
theorem dX2_mosts_3 : decode cX2_mosts 3 = .ok (.getfield 15, 3) := by decide +kernel
theorem dX2_mosts_6 : decode cX2_mosts 6 = .ok (.invokevirtual 69, 3) := by decide +kernel
theorem dX2_mosts_9 : decode cX2_mosts 9 = .ok (.ireturn, 1) := by decide +kernel
theorem dX2_flows_0 : decode cX2_flows 0 = .ok (.aload_n 0, 1) := by decide +kernel
theorem dX2_flows_1 : decode cX2_flows 1 = .ok (.iload_n 1, 1) := by decide +kernel
theorem dX2_flows_2 : decode cX2_flows 2 = .ok (.aload_n 0, 1) := by decide +kernel
theorem dX2_flows_3 : decode cX2_flows 3 = .ok (.getfield 27, 3) := by decide +kernel
theorem dX2_flows_6 : decode cX2_flows 6 = .ok (.invokevirtual 69, 3) := by decide +kernel
theorem dX2_flows_9 : decode cX2_flows 9 = .ok (.ireturn, 1) := by decide +kernel
theorem dX2_sumOver_0 : decode cX2_sumOver 0 = .ok (.iconst 0, 1) := by decide +kernel
theorem dX2_sumOver_1 : decode cX2_sumOver 1 = .ok (.istore_n 3, 1) := by decide +kernel
theorem dX2_sumOver_2 : decode cX2_sumOver 2 = .ok (.iconst 0, 1) := by decide +kernel
theorem dX2_sumOver_3 : decode cX2_sumOver 3 = .ok (.istore 4, 2) := by decide +kernel
theorem dX2_sumOver_5 : decode cX2_sumOver 5 = .ok (.iload 4, 2) := by decide +kernel
theorem dX2_sumOver_7 : decode cX2_sumOver 7 = .ok (.aload_n 0, 1) := by decide +kernel
theorem dX2_sumOver_8 : decode cX2_sumOver 8 = .ok (.getfield 30, 3) := by decide +kernel
theorem dX2_sumOver_11 : decode cX2_sumOver 11 = .ok (.if_icmp .ge 32, 3) := by decide +kernel
theorem dX2_sumOver_14 : decode cX2_sumOver 14 = .ok (.iload 4, 2) := by decide +kernel
theorem dX2_sumOver_16 : decode cX2_sumOver 16 = .ok (.aload_n 2, 1) := by decide +kernel
theorem dX2_sumOver_17 : decode cX2_sumOver 17 = .ok (.arraylength, 1) := by decide +kernel
theorem dX2_sumOver_18 : decode cX2_sumOver 18 = .ok (.if_icmp .ge 25, 3) := by decide +kernel
theorem dX2_sumOver_21 : decode cX2_sumOver 21 = .ok (.iload_n 1, 1) := by decide +kernel
theorem dX2_sumOver_22 : decode cX2_sumOver 22 = .ok (.iconst 1, 1) := by decide +kernel
theorem dX2_sumOver_23 : decode cX2_sumOver 23 = .ok (.iload 4, 2) := by decide +kernel
theorem dX2_sumOver_25 : decode cX2_sumOver 25 = .ok (.ishl, 1) := by decide +kernel
theorem dX2_sumOver_26 : decode cX2_sumOver 26 = .ok (.iand, 1) := by decide +kernel
theorem dX2_sumOver_27 : decode cX2_sumOver 27 = .ok (.ifCond .eq 10, 3) := by decide +kernel
theorem dX2_sumOver_30 : decode cX2_sumOver 30 = .ok (.iload_n 3, 1) := by decide +kernel
theorem dX2_sumOver_31 : decode cX2_sumOver 31 = .ok (.aload_n 2, 1) := by decide +kernel
theorem dX2_sumOver_32 : decode cX2_sumOver 32 = .ok (.iload 4, 2) := by decide +kernel
theorem dX2_sumOver_34 : decode cX2_sumOver 34 = .ok (.iaload, 1) := by decide +kernel
theorem dX2_sumOver_35 : decode cX2_sumOver 35 = .ok (.iadd, 1) := by decide +kernel
theorem dX2_sumOver_36 : decode cX2_sumOver 36 = .ok (.istore_n 3, 1) := by decide +kernel
theorem dX2_sumOver_37 : decode cX2_sumOver 37 = .ok (.iinc 4 1, 3) := by decide +kernel
theorem dX2_sumOver_40 : decode cX2_sumOver 40 = .ok (.goto (-35), 3) := by decide +kernel
theorem dX2_sumOver_43 : decode cX2_sumOver 43 = .ok (.iload_n 3, 1) := by decide +kernel
theorem dX2_sumOver_44 : decode cX2_sumOver 44 = .ok (.ireturn, 1) := by decide +kernel
theorem dX3_init_0 : decode cX3_init 0 = .ok (.aload_n 0, 1) := by decide +kernel
theorem dX3_init_1 : decode cX3_init 1 = .ok (.invokespecial 3, 3) := by decide +kernel
theorem dX3_init_4 : decode cX3_init 4 = .ok (.aload_n 0, 1) := by decide +kernel
theorem dX3_init_5 : decode cX3_init 5 = .ok (.sipush 200, 3) := by decide +kernel
theorem dX3_init_8 : decode cX3_init 8 = .ok (.newarray .char, 2) := by decide +kernel
theorem dX3_init_10 : decode cX3_init 10 = .ok (.putfield 9, 3) := by decide +kernel
theorem dX3_init_13 : decode cX3_init 13 = .ok (.aload_n 0, 1) := by decide +kernel
theorem dX3_init_14 : decode cX3_init 14 = .ok (.getstatic 15, 3) := by decide +kernel
theorem dX3_init_17 : decode cX3_init 17 = .ok (.arraylength, 1) := by decide +kernel
theorem dX3_init_18 : decode cX3_init 18 = .ok (.newarray .int, 2) := by decide +kernel
theorem dX3_init_20 : decode cX3_init 20 = .ok (.putfield 19, 3) := by decide +kernel
theorem dX3_init_23 : decode cX3_init 23 = .ok (.return_, 1) := by decide +kernel
theorem dX3_add_0 : decode cX3_add 0 = .ok (.aload_n 0, 1) := by decide +kernel
theorem dX3_add_1 : decode cX3_add 1 = .ok (.getfield 22, 3) := by decide +kernel
theorem dX3_add_4 : decode cX3_add 4 = .ok (.sipush 200, 3) := by decide +kernel
theorem dX3_add_7 : decode cX3_add 7 = .ok (.if_icmp .lt 5, 3) := by decide +kernel
theorem dX3_add_10 : decode cX3_add 10 = .ok (.iconst 0, 1) := by decide +kernel
theorem dX3_add_11 : decode cX3_add 11 = .ok (.ireturn, 1) := by decide +kernel
theorem dX3_add_12 : decode cX3_add 12 = .ok (.aload_n 0, 1) := by decide +kernel
theorem dX3_add_13 : decode cX3_add 13 = .ok (.getfield 9, 3) := by decide +kernel
theorem dX3_add_16 : decode cX3_add 16 = .ok (.aload_n 0, 1) := by decide +kernel
theorem dX3_add_17 : decode cX3_add 17 = .ok (.getfield 22, 3) := by decide +kernel
theorem dX3_add_20 : decode cX3_add 20 = .ok (.iload_n 1, 1) := by decide +kernel
theorem dX3_add_21 : decode cX3_add 21 = .ok (.castore, 1) := by decide +kernel
theorem dX3_add_22 : decode cX3_add 22 = .ok (.aload_n 0, 1) := by decide +kernel
theorem dX3_add_23 : decode cX3_add 23 = .ok (.dup, 1) := by decide +kernel
theorem dX3_add_24 : decode cX3_add 24 = .ok (.getfield 22, 3) := by decide +kernel
theorem dX3_add_27 : decode cX3_add 27 = .ok (.iconst 1, 1) := by decide +kernel
theorem dX3_add_28 : decode cX3_add 28 = .ok (.iadd, 1) := by decide +kernel
theorem dX3_add_29 : decode cX3_add 29 = .ok (.putfield 22, 3) := by decide +kernel
theorem dX3_add_32 : decode cX3_add 32 = .ok (.iconst 1, 1) := by decide +kernel
theorem dX3_add_33 : decode cX3_add 33 = .ok (.ireturn, 1) := by decide +kernel
theorem dX3_empty_0 : decode cX3_empty 0 = .ok (.aload_n 0, 1) := by decide +kernel
theorem dX3_empty_1 : decode cX3_empty 1 = .ok (.iconst 0, 1) := by decide +kernel
theorem dX3_empty_2 : decode cX3_empty 2 = .ok (.putfield 22, 3) := by decide +kernel
theorem dX3_empty_5 : decode cX3_empty 5 = .ok (.return_, 1) := by decide +kernel
theorem dX3_firstFault_0 : decode cX3_firstFault 0 = .ok (.iconst 0, 1) := by decide +kernel
theorem dX3_firstFault_1 : decode cX3_firstFault 1 = .ok (.istore_n 1, 1) := by decide +kernel
theorem dX3_firstFault_2 : decode cX3_firstFault 2 = .ok (.iconst 0, 1) := by decide +kernel
theorem dX3_firstFault_3 : decode cX3_firstFault 3 = .ok (.istore_n 2, 1) := by decide +kernel
theorem dX3_firstFault_4 : decode cX3_firstFault 4 = .ok (.iconst 0, 1) := by decide +kernel
theorem dX3_firstFault_5 : decode cX3_firstFault 5 = .ok (.istore_n 3, 1) := by decide +kernel
theorem dX3_firstFault_6 : decode cX3_firstFault 6 = .ok (.iload_n 3, 1) := by decide +kernel
theorem dX3_firstFault_7 : decode cX3_firstFault 7 = .ok (.sipush 200, 3) := by decide +kernel
theorem dX3_firstFault_10 : decode cX3_firstFault 10 = .ok (.if_icmp .ge 58, 3) := by decide +kernel
theorem dX3_firstFault_13 : decode cX3_firstFault 13 = .ok (.iload_n 1, 1) := by decide +kernel
theorem dX3_firstFault_14 : decode cX3_firstFault 14 = .ok (.aload_n 0, 1) := by decide +kernel
theorem dX3_firstFault_15 : decode cX3_firstFault 15 = .ok (.getfield 22, 3) := by decide +kernel
theorem dX3_firstFault_18 : decode cX3_firstFault 18 = .ok (.if_icmp .ge 50, 3) := by decide +kernel
theorem dX3_firstFault_21 : decode cX3_firstFault 21 = .ok (.aload_n 0, 1) := by decide +kernel
theorem dX3_firstFault_22 : decode cX3_firstFault 22 = .ok (.iload_n 1, 1) := by decide +kernel
theorem dX3_firstFault_23 : decode cX3_firstFault 23 = .ok (.invokevirtual 26, 3) := by decide +kernel
theorem dX3_firstFault_26 : decode cX3_firstFault 26 = .ok (.istore 4, 2) := by decide +kernel
theorem dX3_firstFault_28 : decode cX3_firstFault 28 = .ok (.iload 4, 2) := by decide +kernel
theorem dX3_firstFault_30 : decode cX3_firstFault 30 = .ok (.bipush (-4), 2) := by decide +kernel
theorem dX3_firstFault_32 : decode cX3_firstFault 32 = .ok (.if_icmp .ne 5, 3) := by decide +kernel
theorem dX3_firstFault_35 : decode cX3_firstFault 35 = .ok (.iload_n 1, 1) := by decide +kernel
theorem dX3_firstFault_36 : decode cX3_firstFault 36 = .ok (.ireturn, 1) := by decide +kernel
theorem dX3_firstFault_37 : decode cX3_firstFault 37 = .ok (.aload_n 0, 1) := by decide +kernel
theorem dX3_firstFault_38 : decode cX3_firstFault 38 = .ok (.getfield 9, 3) := by decide +kernel
theorem dX3_firstFault_41 : decode cX3_firstFault 41 = .ok (.iload_n 1, 1) := by decide +kernel
theorem dX3_firstFault_42 : decode cX3_firstFault 42 = .ok (.caload, 1) := by decide +kernel
theorem dX3_firstFault_43 : decode cX3_firstFault 43 = .ok (.bipush 99, 2) := by decide +kernel
theorem dX3_firstFault_45 : decode cX3_firstFault 45 = .ok (.if_icmp .ne 6, 3) := by decide +kernel
theorem dX3_firstFault_48 : decode cX3_firstFault 48 = .ok (.iinc 2 1, 3) := by decide +kernel
theorem dX3_firstFault_51 : decode cX3_firstFault 51 = .ok (.iload_n 2, 1) := by decide +kernel
theorem dX3_firstFault_52 : decode cX3_firstFault 52 = .ok (.bipush 6, 2) := by decide +kernel
theorem dX3_firstFault_54 : decode cX3_firstFault 54 = .ok (.if_icmp .le 5, 3) := by decide +kernel
theorem dX3_firstFault_57 : decode cX3_firstFault 57 = .ok (.iload_n 1, 1) := by decide +kernel
theorem dX3_firstFault_58 : decode cX3_firstFault 58 = .ok (.ireturn, 1) := by decide +kernel
theorem dX3_firstFault_59 : decode cX3_firstFault 59 = .ok (.iload 4, 2) := by decide +kernel
theorem dX3_firstFault_61 : decode cX3_firstFault 61 = .ok (.istore_n 1, 1) := by decide +kernel
theorem dX3_firstFault_62 : decode cX3_firstFault 62 = .ok (.iinc 3 1, 3) := by decide +kernel
theorem dX3_firstFault_65 : decode cX3_firstFault 65 = .ok (.goto (-59), 3) := by decide +kernel
theorem dX3_firstFault_68 : decode cX3_firstFault 68 = .ok (.bipush (-4), 2) := by decide +kernel
theorem dX3_firstFault_70 : decode cX3_firstFault 70 = .ok (.ireturn, 1) := by decide +kernel
theorem dX3_machines_0 : decode cX3_machines 0 = .ok (.iconst 0, 1) := by decide +kernel
theorem dX3_machines_1 : decode cX3_machines 1 = .ok (.istore_n 1, 1) := by decide +kernel
theorem dX3_machines_2 : decode cX3_machines 2 = .ok (.iconst 0, 1) := by decide +kernel
theorem dX3_machines_3 : decode cX3_machines 3 = .ok (.istore_n 2, 1) := by decide +kernel
theorem dX3_machines_4 : decode cX3_machines 4 = .ok (.iload_n 2, 1) := by decide +kernel
theorem dX3_machines_5 : decode cX3_machines 5 = .ok (.aload_n 0, 1) := by decide +kernel
theorem dX3_machines_6 : decode cX3_machines 6 = .ok (.getfield 22, 3) := by decide +kernel
theorem dX3_machines_9 : decode cX3_machines 9 = .ok (.if_icmp .ge 23, 3) := by decide +kernel
theorem dX3_machines_12 : decode cX3_machines 12 = .ok (.aload_n 0, 1) := by decide +kernel
theorem dX3_machines_13 : decode cX3_machines 13 = .ok (.getfield 9, 3) := by decide +kernel
theorem dX3_machines_16 : decode cX3_machines 16 = .ok (.iload_n 2, 1) := by decide +kernel
theorem dX3_machines_17 : decode cX3_machines 17 = .ok (.caload, 1) := by decide +kernel
theorem dX3_machines_18 : decode cX3_machines 18 = .ok (.bipush 99, 2) := by decide +kernel
theorem dX3_machines_20 : decode cX3_machines 20 = .ok (.if_icmp .ne 6, 3) := by decide +kernel
theorem dX3_machines_23 : decode cX3_machines 23 = .ok (.iinc 1 1, 3) := by decide +kernel
theorem dX3_machines_26 : decode cX3_machines 26 = .ok (.iinc 2 1, 3) := by decide +kernel
theorem dX3_machines_29 : decode cX3_machines 29 = .ok (.goto (-25), 3) := by decide +kernel
theorem dX3_machines_32 : decode cX3_machines 32 = .ok (.iload_n 1, 1) := by decide +kernel
theorem dX3_machines_33 : decode cX3_machines 33 = .ok (.ireturn, 1) := by decide +kernel
theorem dX3_layInto_0 : decode cX3_layInto 0 = .ok (.aload_n 1, 1) := by decide +kernel
theorem dX3_layInto_1 : decode cX3_layInto 1 = .ok (.invokevirtual 30, 3) := by decide +kernel
theorem dX3_layInto_4 : decode cX3_layInto 4 = .ok (.iconst 0, 1) := by decide +kernel
theorem dX3_layInto_5 : decode cX3_layInto 5 = .ok (.istore_n 2, 1) := by decide +kernel
theorem dX3_layInto_6 : decode cX3_layInto 6 = .ok (.iconst 0, 1) := by decide +kernel
theorem dX3_layInto_7 : decode cX3_layInto 7 = .ok (.istore_n 3, 1) := by decide +kernel
theorem dX3_layInto_8 : decode cX3_layInto 8 = .ok (.iload_n 3, 1) := by decide +kernel
theorem dX3_layInto_9 : decode cX3_layInto 9 = .ok (.sipush 200, 3) := by decide +kernel
theorem dX3_layInto_12 : decode cX3_layInto 12 = .ok (.if_icmp .ge 49, 3) := by decide +kernel
theorem dX3_layInto_15 : decode cX3_layInto 15 = .ok (.iload_n 2, 1) := by decide +kernel
theorem dX3_layInto_16 : decode cX3_layInto 16 = .ok (.aload_n 0, 1) := by decide +kernel
theorem dX3_layInto_17 : decode cX3_layInto 17 = .ok (.getfield 22, 3) := by decide +kernel
theorem dX3_layInto_20 : decode cX3_layInto 20 = .ok (.if_icmp .ge 41, 3) := by decide +kernel
theorem dX3_layInto_23 : decode cX3_layInto 23 = .ok (.aload_n 0, 1) := by decide +kernel
theorem dX3_layInto_24 : decode cX3_layInto 24 = .ok (.iload_n 2, 1) := by decide +kernel
theorem dX3_layInto_25 : decode cX3_layInto 25 = .ok (.invokevirtual 26, 3) := by decide +kernel
theorem dX3_layInto_28 : decode cX3_layInto 28 = .ok (.istore 4, 2) := by decide +kernel
theorem dX3_layInto_30 : decode cX3_layInto 30 = .ok (.iload 4, 2) := by decide +kernel
theorem dX3_layInto_32 : decode cX3_layInto 32 = .ok (.bipush (-4), 2) := by decide +kernel
theorem dX3_layInto_34 : decode cX3_layInto 34 = .ok (.if_icmp .ne 4, 3) := by decide +kernel
theorem dX3_layInto_37 : decode cX3_layInto 37 = .ok (.return_, 1) := by decide +kernel
theorem dX3_layInto_38 : decode cX3_layInto 38 = .ok (.aload_n 1, 1) := by decide +kernel
theorem dX3_layInto_39 : decode cX3_layInto 39 = .ok (.aload_n 0, 1) := by decide +kernel
theorem dX3_layInto_40 : decode cX3_layInto 40 = .ok (.getfield 9, 3) := by decide +kernel
theorem dX3_layInto_43 : decode cX3_layInto 43 = .ok (.iload_n 2, 1) := by decide +kernel
theorem dX3_layInto_44 : decode cX3_layInto 44 = .ok (.caload, 1) := by decide +kernel
theorem dX3_layInto_45 : decode cX3_layInto 45 = .ok (.aload_n 0, 1) := by decide +kernel
theorem dX3_layInto_46 : decode cX3_layInto 46 = .ok (.getfield 19, 3) := by decide +kernel
theorem dX3_layInto_49 : decode cX3_layInto 49 = .ok (.invokevirtual 35, 3) := by decide +kernel
theorem dX3_layInto_52 : decode cX3_layInto 52 = .ok (.iload 4, 2) := by decide +kernel
theorem dX3_layInto_54 : decode cX3_layInto 54 = .ok (.istore_n 2, 1) := by decide +kernel
theorem dX3_layInto_55 : decode cX3_layInto 55 = .ok (.iinc 3 1, 3) := by decide +kernel
theorem dX3_layInto_58 : decode cX3_layInto 58 = .ok (.goto (-50), 3) := by decide +kernel
theorem dX3_layInto_61 : decode cX3_layInto 61 = .ok (.return_, 1) := by decide +kernel
theorem dX3_readItem_0 : decode cX3_readItem 0 = .ok (.aload_n 0, 1) := by decide +kernel
theorem dX3_readItem_1 : decode cX3_readItem 1 = .ok (.iload_n 1, 1) := by decide +kernel
theorem dX3_readItem_2 : decode cX3_readItem 2 = .ok (.invokevirtual 39, 3) := by decide +kernel
theorem dX3_readItem_5 : decode cX3_readItem 5 = .ok (.istore_n 2, 1) := by decide +kernel
theorem dX3_readItem_6 : decode cX3_readItem 6 = .ok (.iload_n 2, 1) := by decide +kernel
theorem dX3_readItem_7 : decode cX3_readItem 7 = .ok (.bipush 99, 2) := by decide +kernel
theorem dX3_readItem_9 : decode cX3_readItem 9 = .ok (.if_icmp .ne 39, 3) := by decide +kernel
theorem dX3_readItem_12 : decode cX3_readItem 12 = .ok (.aload_n 0, 1) := by decide +kernel
theorem dX3_readItem_13 : decode cX3_readItem 13 = .ok (.iload_n 1, 1) := by decide +kernel
theorem dX3_readItem_14 : decode cX3_readItem 14 = .ok (.iconst 1, 1) := by decide +kernel
theorem dX3_readItem_15 : decode cX3_readItem 15 = .ok (.iadd, 1) := by decide +kernel
theorem dX3_readItem_16 : decode cX3_readItem 16 = .ok (.getstatic 43, 3) := by decide +kernel
theorem dX3_readItem_19 : decode cX3_readItem 19 = .ok (.getstatic 15, 3) := by decide +kernel
theorem dX3_readItem_22 : decode cX3_readItem 22 = .ok (.invokevirtual 46, 3) := by decide +kernel
theorem dX3_readItem_25 : decode cX3_readItem 25 = .ok (.istore_n 3, 1) := by decide +kernel
theorem dX3_readItem_26 : decode cX3_readItem 26 = .ok (.aload_n 0, 1) := by decide +kernel
theorem dX3_readItem_27 : decode cX3_readItem 27 = .ok (.getfield 19, 3) := by decide +kernel
theorem dX3_readItem_30 : decode cX3_readItem 30 = .ok (.iconst 0, 1) := by decide +kernel
theorem dX3_readItem_31 : decode cX3_readItem 31 = .ok (.iaload, 1) := by decide +kernel
theorem dX3_readItem_32 : decode cX3_readItem 32 = .ok (.aload_n 0, 1) := by decide +kernel
theorem dX3_readItem_33 : decode cX3_readItem 33 = .ok (.getfield 19, 3) := by decide +kernel
theorem dX3_readItem_36 : decode cX3_readItem 36 = .ok (.iconst 1, 1) := by decide +kernel
theorem dX3_readItem_37 : decode cX3_readItem 37 = .ok (.iaload, 1) := by decide +kernel
theorem dX3_readItem_38 : decode cX3_readItem 38 = .ok (.if_icmp .gt 7, 3) := by decide +kernel
theorem dX3_readItem_41 : decode cX3_readItem 41 = .ok (.iload_n 3, 1) := by decide +kernel
theorem dX3_readItem_42 : decode cX3_readItem 42 = .ok (.goto 5, 3) := by decide +kernel
theorem dX3_readItem_45 : decode cX3_readItem 45 = .ok (.bipush (-4), 2) := by decide +kernel
theorem dX3_readItem_47 : decode cX3_readItem 47 = .ok (.ireturn, 1) := by decide +kernel
theorem dX3_readItem_48 : decode cX3_readItem 48 = .ok (.iload_n 2, 1) := by decide +kernel
theorem dX3_readItem_49 : decode cX3_readItem 49 = .ok (.bipush 114, 2) := by decide +kernel
theorem dX3_readItem_51 : decode cX3_readItem 51 = .ok (.if_icmp .ne 17, 3) := by decide +kernel
theorem dX3_readItem_54 : decode cX3_readItem 54 = .ok (.aload_n 0, 1) := by decide +kernel
theorem dX3_readItem_55 : decode cX3_readItem 55 = .ok (.iload_n 1, 1) := by decide +kernel
theorem dX3_readItem_56 : decode cX3_readItem 56 = .ok (.iconst 1, 1) := by decide +kernel
theorem dX3_readItem_57 : decode cX3_readItem 57 = .ok (.iadd, 1) := by decide +kernel
theorem dX3_readItem_58 : decode cX3_readItem 58 = .ok (.getstatic 50, 3) := by decide +kernel
theorem dX3_readItem_61 : decode cX3_readItem 61 = .ok (.getstatic 53, 3) := by decide +kernel
theorem dX3_readItem_64 : decode cX3_readItem 64 = .ok (.invokevirtual 46, 3) := by decide +kernel
theorem dX3_readItem_67 : decode cX3_readItem 67 = .ok (.ireturn, 1) := by decide +kernel
theorem dX3_readItem_68 : decode cX3_readItem 68 = .ok (.iload_n 2, 1) := by decide +kernel
theorem dX3_readItem_69 : decode cX3_readItem 69 = .ok (.bipush 104, 2) := by decide +kernel
theorem dX3_readItem_71 : decode cX3_readItem 71 = .ok (.if_icmp .ne 17, 3) := by decide +kernel
theorem dX3_readItem_74 : decode cX3_readItem 74 = .ok (.aload_n 0, 1) := by decide +kernel
theorem dX3_readItem_75 : decode cX3_readItem 75 = .ok (.iload_n 1, 1) := by decide +kernel
theorem dX3_readItem_76 : decode cX3_readItem 76 = .ok (.iconst 1, 1) := by decide +kernel
theorem dX3_readItem_77 : decode cX3_readItem 77 = .ok (.iadd, 1) := by decide +kernel
theorem dX3_readItem_78 : decode cX3_readItem 78 = .ok (.getstatic 56, 3) := by decide +kernel
theorem dX3_readItem_81 : decode cX3_readItem 81 = .ok (.getstatic 59, 3) := by decide +kernel
theorem dX3_readItem_84 : decode cX3_readItem 84 = .ok (.invokevirtual 46, 3) := by decide +kernel
theorem dX3_readItem_87 : decode cX3_readItem 87 = .ok (.ireturn, 1) := by decide +kernel
theorem dX3_readItem_88 : decode cX3_readItem 88 = .ok (.bipush (-4), 2) := by decide +kernel
theorem dX3_readItem_90 : decode cX3_readItem 90 = .ok (.ireturn, 1) := by decide +kernel
theorem dX3_readNumbers_0 : decode cX3_readNumbers 0 = .ok (.iload_n 1, 1) := by decide +kernel
theorem dX3_readNumbers_1 : decode cX3_readNumbers 1 = .ok (.istore 4, 2) := by decide +kernel
theorem dX3_readNumbers_3 : decode cX3_readNumbers 3 = .ok (.aload_n 0, 1) := by decide +kernel
theorem dX3_readNumbers_4 : decode cX3_readNumbers 4 = .ok (.getfield 19, 3) := by decide +kernel
theorem dX3_readNumbers_7 : decode cX3_readNumbers 7 = .ok (.arraylength, 1) := by decide +kernel
theorem dX3_readNumbers_8 : decode cX3_readNumbers 8 = .ok (.aload_n 2, 1) := by decide +kernel
theorem dX3_readNumbers_9 : decode cX3_readNumbers 9 = .ok (.arraylength, 1) := by decide +kernel
theorem dX3_readNumbers_10 : decode cX3_readNumbers 10 = .ok (.aload_n 3, 1) := by decide +kernel
theorem dX3_readNumbers_11 : decode cX3_readNumbers 11 = .ok (.arraylength, 1) := by decide +kernel
theorem dX3_readNumbers_12 : decode cX3_readNumbers 12 = .ok (.invokestatic 62, 3) := by decide +kernel
theorem dX3_readNumbers_15 : decode cX3_readNumbers 15 = .ok (.invokestatic 62, 3) := by decide +kernel
theorem dX3_readNumbers_18 : decode cX3_readNumbers 18 = .ok (.istore 5, 2) := by decide +kernel
theorem dX3_readNumbers_20 : decode cX3_readNumbers 20 = .ok (.iconst 0, 1) := by decide +kernel
theorem dX3_readNumbers_21 : decode cX3_readNumbers 21 = .ok (.istore 6, 2) := by decide +kernel
theorem dX3_readNumbers_23 : decode cX3_readNumbers 23 = .ok (.iload 6, 2) := by decide +kernel
theorem dX3_readNumbers_25 : decode cX3_readNumbers 25 = .ok (.iload 5, 2) := by decide +kernel
theorem dX3_readNumbers_27 : decode cX3_readNumbers 27 = .ok (.if_icmp .ge 126, 3) := by decide +kernel
theorem dX3_readNumbers_30 : decode cX3_readNumbers 30 = .ok (.aload_n 0, 1) := by decide +kernel
theorem dX3_readNumbers_31 : decode cX3_readNumbers 31 = .ok (.iload 4, 2) := by decide +kernel
theorem dX3_readNumbers_33 : decode cX3_readNumbers 33 = .ok (.invokevirtual 68, 3) := by decide +kernel
theorem dX3_readNumbers_36 : decode cX3_readNumbers 36 = .ok (.ifCond .ne 6, 3) := by decide +kernel
theorem dX3_readNumbers_39 : decode cX3_readNumbers 39 = .ok (.bipush (-4), 2) := by decide +kernel
theorem dX3_readNumbers_41 : decode cX3_readNumbers 41 = .ok (.ireturn, 1) := by decide +kernel
theorem dX3_readNumbers_42 : decode cX3_readNumbers 42 = .ok (.aload_n 0, 1) := by decide +kernel
theorem dX3_readNumbers_43 : decode cX3_readNumbers 43 = .ok (.iload 4, 2) := by decide +kernel
theorem dX3_readNumbers_45 : decode cX3_readNumbers 45 = .ok (.invokevirtual 39, 3) := by decide +kernel
theorem dX3_readNumbers_48 : decode cX3_readNumbers 48 = .ok (.bipush 48, 2) := by decide +kernel
theorem dX3_readNumbers_50 : decode cX3_readNumbers 50 = .ok (.isub, 1) := by decide +kernel
theorem dX3_readNumbers_51 : decode cX3_readNumbers 51 = .ok (.istore 7, 2) := by decide +kernel
theorem dX3_readNumbers_53 : decode cX3_readNumbers 53 = .ok (.iinc 4 1, 3) := by decide +kernel
theorem dX3_readNumbers_56 : decode cX3_readNumbers 56 = .ok (.aload_n 0, 1) := by decide +kernel
theorem dX3_readNumbers_57 : decode cX3_readNumbers 57 = .ok (.iload 4, 2) := by decide +kernel
theorem dX3_readNumbers_59 : decode cX3_readNumbers 59 = .ok (.invokevirtual 68, 3) := by decide +kernel
theorem dX3_readNumbers_62 : decode cX3_readNumbers 62 = .ok (.ifCond .eq 23, 3) := by decide +kernel
theorem dX3_readNumbers_65 : decode cX3_readNumbers 65 = .ok (.iload 7, 2) := by decide +kernel
theorem dX3_readNumbers_67 : decode cX3_readNumbers 67 = .ok (.bipush 10, 2) := by decide +kernel
theorem dX3_readNumbers_69 : decode cX3_readNumbers 69 = .ok (.imul, 1) := by decide +kernel
theorem dX3_readNumbers_70 : decode cX3_readNumbers 70 = .ok (.aload_n 0, 1) := by decide +kernel
theorem dX3_readNumbers_71 : decode cX3_readNumbers 71 = .ok (.iload 4, 2) := by decide +kernel
theorem dX3_readNumbers_73 : decode cX3_readNumbers 73 = .ok (.invokevirtual 39, 3) := by decide +kernel
theorem dX3_readNumbers_76 : decode cX3_readNumbers 76 = .ok (.iadd, 1) := by decide +kernel
theorem dX3_readNumbers_77 : decode cX3_readNumbers 77 = .ok (.bipush 48, 2) := by decide +kernel
theorem dX3_readNumbers_79 : decode cX3_readNumbers 79 = .ok (.isub, 1) := by decide +kernel
theorem dX3_readNumbers_80 : decode cX3_readNumbers 80 = .ok (.istore 7, 2) := by decide +kernel
theorem dX3_readNumbers_82 : decode cX3_readNumbers 82 = .ok (.iinc 4 1, 3) := by decide +kernel
theorem dX3_readNumbers_85 : decode cX3_readNumbers 85 = .ok (.iload 6, 2) := by decide +kernel
theorem dX3_readNumbers_87 : decode cX3_readNumbers 87 = .ok (.iload 5, 2) := by decide +kernel
theorem dX3_readNumbers_89 : decode cX3_readNumbers 89 = .ok (.iconst 1, 1) := by decide +kernel
theorem dX3_readNumbers_90 : decode cX3_readNumbers 90 = .ok (.isub, 1) := by decide +kernel
theorem dX3_readNumbers_91 : decode cX3_readNumbers 91 = .ok (.if_icmp .ge 8, 3) := by decide +kernel
theorem dX3_readNumbers_94 : decode cX3_readNumbers 94 = .ok (.bipush 44, 2) := by decide +kernel
theorem dX3_readNumbers_96 : decode cX3_readNumbers 96 = .ok (.goto 5, 3) := by decide +kernel
theorem dX3_readNumbers_99 : decode cX3_readNumbers 99 = .ok (.bipush 59, 2) := by decide +kernel
theorem dX3_readNumbers_101 : decode cX3_readNumbers 101 = .ok (.istore 8, 2) := by decide +kernel
theorem dX3_readNumbers_103 : decode cX3_readNumbers 103 = .ok (.aload_n 0, 1) := by decide +kernel
theorem dX3_readNumbers_104 : decode cX3_readNumbers 104 = .ok (.iload 4, 2) := by decide +kernel
theorem dX3_readNumbers_106 : decode cX3_readNumbers 106 = .ok (.invokevirtual 39, 3) := by decide +kernel
theorem dX3_readNumbers_109 : decode cX3_readNumbers 109 = .ok (.iload 8, 2) := by decide +kernel
theorem dX3_readNumbers_111 : decode cX3_readNumbers 111 = .ok (.if_icmp .ne 21, 3) := by decide +kernel
theorem dX3_readNumbers_114 : decode cX3_readNumbers 114 = .ok (.iload 7, 2) := by decide +kernel
theorem dX3_readNumbers_116 : decode cX3_readNumbers 116 = .ok (.aload_n 2, 1) := by decide +kernel
theorem dX3_readNumbers_117 : decode cX3_readNumbers 117 = .ok (.iload 6, 2) := by decide +kernel
theorem dX3_readNumbers_119 : decode cX3_readNumbers 119 = .ok (.iaload, 1) := by decide +kernel
theorem dX3_readNumbers_120 : decode cX3_readNumbers 120 = .ok (.if_icmp .lt 12, 3) := by decide +kernel
theorem dX3_readNumbers_123 : decode cX3_readNumbers 123 = .ok (.iload 7, 2) := by decide +kernel
theorem dX3_readNumbers_125 : decode cX3_readNumbers 125 = .ok (.aload_n 3, 1) := by decide +kernel
theorem dX3_readNumbers_126 : decode cX3_readNumbers 126 = .ok (.iload 6, 2) := by decide +kernel
theorem dX3_readNumbers_128 : decode cX3_readNumbers 128 = .ok (.iaload, 1) := by decide +kernel
theorem dX3_readNumbers_129 : decode cX3_readNumbers 129 = .ok (.if_icmp .le 6, 3) := by decide +kernel
theorem dX3_readNumbers_132 : decode cX3_readNumbers 132 = .ok (.bipush (-4), 2) := by decide +kernel
theorem dX3_readNumbers_134 : decode cX3_readNumbers 134 = .ok (.ireturn, 1) := by decide +kernel
theorem dX3_readNumbers_135 : decode cX3_readNumbers 135 = .ok (.aload_n 0, 1) := by decide +kernel
theorem dX3_readNumbers_136 : decode cX3_readNumbers 136 = .ok (.getfield 19, 3) := by decide +kernel
theorem dX3_readNumbers_139 : decode cX3_readNumbers 139 = .ok (.iload 6, 2) := by decide +kernel
theorem dX3_readNumbers_141 : decode cX3_readNumbers 141 = .ok (.iload 7, 2) := by decide +kernel
theorem dX3_readNumbers_143 : decode cX3_readNumbers 143 = .ok (.iastore, 1) := by decide +kernel
theorem dX3_readNumbers_144 : decode cX3_readNumbers 144 = .ok (.iinc 4 1, 3) := by decide +kernel
theorem dX3_readNumbers_147 : decode cX3_readNumbers 147 = .ok (.iinc 6 1, 3) := by decide +kernel
theorem dX3_readNumbers_150 : decode cX3_readNumbers 150 = .ok (.goto (-127), 3) := by decide +kernel
theorem dX3_readNumbers_153 : decode cX3_readNumbers 153 = .ok (.iload 4, 2) := by decide +kernel
theorem dX3_readNumbers_155 : decode cX3_readNumbers 155 = .ok (.ireturn, 1) := by decide +kernel
theorem dX3_isFigure_0 : decode cX3_isFigure 0 = .ok (.aload_n 0, 1) := by decide +kernel
theorem dX3_isFigure_1 : decode cX3_isFigure 1 = .ok (.iload_n 1, 1) := by decide +kernel
theorem dX3_isFigure_2 : decode cX3_isFigure 2 = .ok (.invokevirtual 39, 3) := by decide +kernel
theorem dX3_isFigure_5 : decode cX3_isFigure 5 = .ok (.istore_n 2, 1) := by decide +kernel
theorem dX3_isFigure_6 : decode cX3_isFigure 6 = .ok (.iload_n 2, 1) := by decide +kernel
theorem dX3_isFigure_7 : decode cX3_isFigure 7 = .ok (.bipush 48, 2) := by decide +kernel
theorem dX3_isFigure_9 : decode cX3_isFigure 9 = .ok (.if_icmp .lt 13, 3) := by decide +kernel
theorem dX3_isFigure_12 : decode cX3_isFigure 12 = .ok (.iload_n 2, 1) := by decide +kernel
theorem dX3_isFigure_13 : decode cX3_isFigure 13 = .ok (.bipush 57, 2) := by decide +kernel
theorem dX3_isFigure_15 : decode cX3_isFigure 15 = .ok (.if_icmp .gt 7, 3) := by decide +kernel
theorem dX3_isFigure_18 : decode cX3_isFigure 18 = .ok (.iconst 1, 1) := by decide +kernel
theorem dX3_isFigure_19 : decode cX3_isFigure 19 = .ok (.goto 4, 3) := by decide +kernel
theorem dX3_isFigure_22 : decode cX3_isFigure 22 = .ok (.iconst 0, 1) := by decide +kernel
theorem dX3_isFigure_23 : decode cX3_isFigure 23 = .ok (.ireturn, 1) := by decide +kernel
theorem dX3_letterAt_0 : decode cX3_letterAt 0 = .ok (.iload_n 1, 1) := by decide +kernel
theorem dX3_letterAt_1 : decode cX3_letterAt 1 = .ok (.ifCond .lt 27, 3) := by decide +kernel
theorem dX3_letterAt_4 : decode cX3_letterAt 4 = .ok (.iload_n 1, 1) := by decide +kernel
theorem dX3_letterAt_5 : decode cX3_letterAt 5 = .ok (.aload_n 0, 1) := by decide +kernel
theorem dX3_letterAt_6 : decode cX3_letterAt 6 = .ok (.getfield 22, 3) := by decide +kernel
theorem dX3_letterAt_9 : decode cX3_letterAt 9 = .ok (.if_icmp .ge 19, 3) := by decide +kernel
theorem dX3_letterAt_12 : decode cX3_letterAt 12 = .ok (.iload_n 1, 1) := by decide +kernel
theorem dX3_letterAt_13 : decode cX3_letterAt 13 = .ok (.sipush 200, 3) := by decide +kernel
theorem dX3_letterAt_16 : decode cX3_letterAt 16 = .ok (.if_icmp .ge 12, 3) := by decide +kernel
theorem dX3_letterAt_19 : decode cX3_letterAt 19 = .ok (.aload_n 0, 1) := by decide +kernel
theorem dX3_letterAt_20 : decode cX3_letterAt 20 = .ok (.getfield 9, 3) := by decide +kernel
theorem dX3_letterAt_23 : decode cX3_letterAt 23 = .ok (.iload_n 1, 1) := by decide +kernel
theorem dX3_letterAt_24 : decode cX3_letterAt 24 = .ok (.caload, 1) := by decide +kernel
theorem dX3_letterAt_25 : decode cX3_letterAt 25 = .ok (.goto 5, 3) := by decide +kernel
theorem dX3_letterAt_28 : decode cX3_letterAt 28 = .ok (.bipush 32, 2) := by decide +kernel
theorem dX3_letterAt_30 : decode cX3_letterAt 30 = .ok (.ireturn, 1) := by decide +kernel
theorem dX4_init_0 : decode cX4_init 0 = .ok (.aload_n 0, 1) := by decide +kernel
theorem dX4_init_1 : decode cX4_init 1 = .ok (.invokespecial 5, 3) := by decide +kernel
theorem dX4_init_4 : decode cX4_init 4 = .ok (.aload_n 0, 1) := by decide +kernel
theorem dX4_init_5 : decode cX4_init 5 = .ok (.sipush 481, 3) := by decide +kernel
theorem dX4_init_8 : decode cX4_init 8 = .ok (.newarray .long, 2) := by decide +kernel
theorem dX4_init_10 : decode cX4_init 10 = .ok (.putfield 11, 3) := by decide +kernel
theorem dX4_init_13 : decode cX4_init 13 = .ok (.aload_n 0, 1) := by decide +kernel
theorem dX4_init_14 : decode cX4_init 14 = .ok (.bipush 81, 2) := by decide +kernel
theorem dX4_init_16 : decode cX4_init 16 = .ok (.newarray .long, 2) := by decide +kernel
theorem dX4_init_18 : decode cX4_init 18 = .ok (.putfield 15, 3) := by decide +kernel
theorem dX4_init_21 : decode cX4_init 21 = .ok (.aload_n 0, 1) := by decide +kernel
theorem dX4_init_22 : decode cX4_init 22 = .ok (.aload_n 1, 1) := by decide +kernel
theorem dX4_init_23 : decode cX4_init 23 = .ok (.putfield 18, 3) := by decide +kernel
theorem dX4_init_26 : decode cX4_init 26 = .ok (.return_, 1) := by decide +kernel
theorem dX4_forget_0 : decode cX4_forget 0 = .ok (.aload_n 0, 1) := by decide +kernel
theorem dX4_forget_1 : decode cX4_forget 1 = .ok (.iconst 0, 1) := by decide +kernel
theorem dX4_forget_2 : decode cX4_forget 2 = .ok (.putfield 22, 3) := by decide +kernel
theorem dX4_forget_5 : decode cX4_forget 5 = .ok (.return_, 1) := by decide +kernel
theorem dX4_find_0 : decode cX4_find 0 = .ok (.aload_n 0, 1) := by decide +kernel
theorem dX4_find_1 : decode cX4_find 1 = .ok (.getfield 22, 3) := by decide +kernel
theorem dX4_find_4 : decode cX4_find 4 = .ok (.ifCond .eq 29, 3) := by decide +kernel
theorem dX4_find_7 : decode cX4_find 7 = .ok (.aload_n 0, 1) := by decide +kernel
theorem dX4_find_8 : decode cX4_find 8 = .ok (.getfield 26, 3) := by decide +kernel
theorem dX4_find_11 : decode cX4_find 11 = .ok (.iload_n 1, 1) := by decide +kernel
theorem dX4_find_12 : decode cX4_find 12 = .ok (.if_icmp .ne 21, 3) := by decide +kernel
theorem dX4_find_15 : decode cX4_find 15 = .ok (.aload_n 0, 1) := by decide +kernel
theorem dX4_find_16 : decode cX4_find 16 = .ok (.getfield 30, 3) := by decide +kernel
theorem dX4_find_19 : decode cX4_find 19 = .ok (.iload_n 2, 1) := by decide +kernel
theorem dX4_find_20 : decode cX4_find 20 = .ok (.if_icmp .ne 13, 3) := by decide +kernel
theorem dX4_find_23 : decode cX4_find 23 = .ok (.aload_n 0, 1) := by decide +kernel
theorem dX4_find_24 : decode cX4_find 24 = .ok (.getfield 33, 3) := by decide +kernel
theorem dX4_find_27 : decode cX4_find 27 = .ok (.iload_n 3, 1) := by decide +kernel
theorem dX4_find_28 : decode cX4_find 28 = .ok (.if_icmp .ne 5, 3) := by decide +kernel
theorem dX4_find_31 : decode cX4_find 31 = .ok (.iconst 1, 1) := by decide +kernel
theorem dX4_find_32 : decode cX4_find 32 = .ok (.ireturn, 1) := by decide +kernel
theorem dX4_find_33 : decode cX4_find 33 = .ok (.iload_n 2, 1) := by decide +kernel
theorem dX4_find_34 : decode cX4_find 34 = .ok (.ifCond .lt 22, 3) := by decide +kernel
theorem dX4_find_37 : decode cX4_find 37 = .ok (.iload_n 2, 1) := by decide +kernel
theorem dX4_find_38 : decode cX4_find 38 = .ok (.sipush 480, 3) := by decide +kernel
theorem dX4_find_41 : decode cX4_find 41 = .ok (.if_icmp .gt 15, 3) := by decide +kernel
theorem dX4_find_44 : decode cX4_find 44 = .ok (.aload_n 0, 1) := by decide +kernel
theorem dX4_find_45 : decode cX4_find 45 = .ok (.getfield 18, 3) := by decide +kernel
theorem dX4_find_48 : decode cX4_find 48 = .ok (.iload_n 1, 1) := by decide +kernel
theorem dX4_find_49 : decode cX4_find 49 = .ok (.iload_n 2, 1) := by decide +kernel
theorem dX4_find_50 : decode cX4_find 50 = .ok (.invokevirtual 36, 3) := by decide +kernel
theorem dX4_find_53 : decode cX4_find 53 = .ok (.ifCond .ne 5, 3) := by decide +kernel
theorem dX4_find_56 : decode cX4_find 56 = .ok (.iconst 0, 1) := by decide +kernel
theorem dX4_find_57 : decode cX4_find 57 = .ok (.ireturn, 1) := by decide +kernel
theorem dX4_find_58 : decode cX4_find 58 = .ok (.aload_n 0, 1) := by decide +kernel
theorem dX4_find_59 : decode cX4_find 59 = .ok (.iconst 1, 1) := by decide +kernel
theorem dX4_find_60 : decode cX4_find 60 = .ok (.putfield 22, 3) := by decide +kernel
theorem dX4_find_63 : decode cX4_find 63 = .ok (.aload_n 0, 1) := by decide +kernel
theorem dX4_find_64 : decode cX4_find 64 = .ok (.iload_n 1, 1) := by decide +kernel
theorem dX4_find_65 : decode cX4_find 65 = .ok (.putfield 26, 3) := by decide +kernel
theorem dX4_find_68 : decode cX4_find 68 = .ok (.aload_n 0, 1) := by decide +kernel
theorem dX4_find_69 : decode cX4_find 69 = .ok (.iload_n 2, 1) := by decide +kernel
theorem dX4_find_70 : decode cX4_find 70 = .ok (.putfield 30, 3) := by decide +kernel
theorem dX4_find_73 : decode cX4_find 73 = .ok (.aload_n 0, 1) := by decide +kernel
theorem dX4_find_74 : decode cX4_find 74 = .ok (.iload_n 3, 1) := by decide +kernel
theorem dX4_find_75 : decode cX4_find 75 = .ok (.putfield 33, 3) := by decide +kernel
theorem dX4_find_78 : decode cX4_find 78 = .ok (.aload_n 0, 1) := by decide +kernel
theorem dX4_find_79 : decode cX4_find 79 = .ok (.iconst 0, 1) := by decide +kernel
theorem dX4_find_80 : decode cX4_find 80 = .ok (.putfield 42, 3) := by decide +kernel
theorem dX4_find_83 : decode cX4_find 83 = .ok (.aload_n 0, 1) := by decide +kernel
theorem dX4_find_84 : decode cX4_find 84 = .ok (.iconst 0, 1) := by decide +kernel
theorem dX4_find_85 : decode cX4_find 85 = .ok (.putfield 45, 3) := by decide +kernel
theorem dX4_find_88 : decode cX4_find 88 = .ok (.aload_n 0, 1) := by decide +kernel
theorem dX4_find_89 : decode cX4_find 89 = .ok (.getfield 11, 3) := by decide +kernel
theorem dX4_find_92 : decode cX4_find 92 = .ok (.iconst 0, 1) := by decide +kernel
theorem dX4_find_93 : decode cX4_find 93 = .ok (.lconst 0, 1) := by decide +kernel
theorem dX4_find_94 : decode cX4_find 94 = .ok (.lastore, 1) := by decide +kernel
theorem dX4_find_95 : decode cX4_find 95 = .ok (.iconst 0, 1) := by decide +kernel
theorem dX4_find_96 : decode cX4_find 96 = .ok (.istore 4, 2) := by decide +kernel
theorem dX4_find_98 : decode cX4_find 98 = .ok (.iload 4, 2) := by decide +kernel
theorem dX4_find_100 : decode cX4_find 100 = .ok (.aload_n 0, 1) := by decide +kernel
theorem dX4_find_101 : decode cX4_find 101 = .ok (.getfield 18, 3) := by decide +kernel
theorem dX4_find_104 : decode cX4_find 104 = .ok (.getfield 48, 3) := by decide +kernel
theorem dX4_find_107 : decode cX4_find 107 = .ok (.if_icmp .ge 38, 3) := by decide +kernel
theorem dX4_find_110 : decode cX4_find 110 = .ok (.aload_n 0, 1) := by decide +kernel
theorem dX4_find_111 : decode cX4_find 111 = .ok (.getfield 26, 3) := by decide +kernel
theorem dX4_find_114 : decode cX4_find 114 = .ok (.iload 4, 2) := by decide +kernel
theorem dX4_find_116 : decode cX4_find 116 = .ok (.invokestatic 51, 3) := by decide +kernel
theorem dX4_find_119 : decode cX4_find 119 = .ok (.iconst 1, 1) := by decide +kernel
theorem dX4_find_120 : decode cX4_find 120 = .ok (.if_icmp .ne 19, 3) := by decide +kernel
theorem dX4_find_123 : decode cX4_find 123 = .ok (.aload_n 0, 1) := by decide +kernel
theorem dX4_find_124 : decode cX4_find 124 = .ok (.iload 4, 2) := by decide +kernel
theorem dX4_find_126 : decode cX4_find 126 = .ok (.aload_n 0, 1) := by decide +kernel
theorem dX4_find_127 : decode cX4_find 127 = .ok (.getfield 26, 3) := by decide +kernel
theorem dX4_find_130 : decode cX4_find 130 = .ok (.iconst 2, 1) := by decide +kernel
theorem dX4_find_131 : decode cX4_find 131 = .ok (.iload 4, 2) := by decide +kernel
theorem dX4_find_133 : decode cX4_find 133 = .ok (.ishl, 1) := by decide +kernel
theorem dX4_find_134 : decode cX4_find 134 = .ok (.ineg, 1) := by decide +kernel
theorem dX4_find_135 : decode cX4_find 135 = .ok (.iand, 1) := by decide +kernel
theorem dX4_find_136 : decode cX4_find 136 = .ok (.invokevirtual 55, 3) := by decide +kernel
theorem dX4_find_139 : decode cX4_find 139 = .ok (.iinc 4 1, 3) := by decide +kernel
theorem dX4_find_142 : decode cX4_find 142 = .ok (.goto (-44), 3) := by decide +kernel
theorem dX4_find_145 : decode cX4_find 145 = .ok (.iconst 1, 1) := by decide +kernel
theorem dX4_find_146 : decode cX4_find 146 = .ok (.ireturn, 1) := by decide +kernel
theorem dX4_leastPower_0 : decode cX4_leastPower 0 = .ok (.aload_n 0, 1) := by decide +kernel
theorem dX4_leastPower_1 : decode cX4_leastPower 1 = .ok (.getfield 11, 3) := by decide +kernel
theorem dX4_leastPower_4 : decode cX4_leastPower 4 = .ok (.aload_n 0, 1) := by decide +kernel
theorem dX4_leastPower_5 : decode cX4_leastPower 5 = .ok (.getfield 30, 3) := by decide +kernel
theorem dX4_leastPower_8 : decode cX4_leastPower 8 = .ok (.laload, 1) := by decide +kernel
theorem dX4_leastPower_9 : decode cX4_leastPower 9 = .ok (.bipush 42, 2) := by decide +kernel
theorem dX4_leastPower_11 : decode cX4_leastPower 11 = .ok (.lshr, 1) := by decide +kernel
theorem dX4_leastPower_12 : decode cX4_leastPower 12 = .ok (.l2i, 1) := by decide +kernel
theorem dX4_leastPower_13 : decode cX4_leastPower 13 = .ok (.ireturn, 1) := by decide +kernel
theorem dX4_part_0 : decode cX4_part 0 = .ok (.aload_n 0, 1) := by decide +kernel
theorem dX4_part_1 : decode cX4_part 1 = .ok (.getfield 11, 3) := by decide +kernel
theorem dX4_part_4 : decode cX4_part 4 = .ok (.aload_n 0, 1) := by decide +kernel
theorem dX4_part_5 : decode cX4_part 5 = .ok (.getfield 30, 3) := by decide +kernel
theorem dX4_part_8 : decode cX4_part 8 = .ok (.laload, 1) := by decide +kernel
theorem dX4_part_9 : decode cX4_part 9 = .ok (.iload_n 1, 1) := by decide +kernel
theorem dX4_part_10 : decode cX4_part 10 = .ok (.invokestatic 59, 3) := by decide +kernel
theorem dX4_part_13 : decode cX4_part 13 = .ok (.lshr, 1) := by decide +kernel
theorem dX4_part_14 : decode cX4_part 14 = .ok (.l2i, 1) := by decide +kernel
theorem dX4_part_15 : decode cX4_part 15 = .ok (.bipush 127, 2) := by decide +kernel
theorem dX4_part_17 : decode cX4_part 17 = .ok (.iand, 1) := by decide +kernel
theorem dX4_part_18 : decode cX4_part 18 = .ok (.ireturn, 1) := by decide +kernel
theorem dX4_shiftOf_0 : decode cX4_shiftOf 0 = .ok (.bipush 7, 2) := by decide +kernel
theorem dX4_shiftOf_2 : decode cX4_shiftOf 2 = .ok (.iconst 5, 1) := by decide +kernel
theorem dX4_shiftOf_3 : decode cX4_shiftOf 3 = .ok (.iload_n 0, 1) := by decide +kernel
theorem dX4_shiftOf_4 : decode cX4_shiftOf 4 = .ok (.isub, 1) := by decide +kernel
theorem dX4_shiftOf_5 : decode cX4_shiftOf 5 = .ok (.imul, 1) := by decide +kernel
theorem dX4_shiftOf_6 : decode cX4_shiftOf 6 = .ok (.ireturn, 1) := by decide +kernel
theorem dX4_addMachine_0 : decode cX4_addMachine 0 = .ok (.aload_n 0, 1) := by decide +kernel
theorem dX4_addMachine_1 : decode cX4_addMachine 1 = .ok (.iload_n 1, 1) := by decide +kernel
theorem dX4_addMachine_2 : decode cX4_addMachine 2 = .ok (.invokevirtual 63, 3) := by decide +kernel
theorem dX4_addMachine_5 : decode cX4_addMachine 5 = .ok (.aload_n 0, 1) := by decide +kernel
theorem dX4_addMachine_6 : decode cX4_addMachine 6 = .ok (.getfield 42, 3) := by decide +kernel
theorem dX4_addMachine_9 : decode cX4_addMachine 9 = .ok (.aload_n 0, 1) := by decide +kernel
theorem dX4_addMachine_10 : decode cX4_addMachine 10 = .ok (.getfield 18, 3) := by decide +kernel
theorem dX4_addMachine_13 : decode cX4_addMachine 13 = .ok (.getfield 67, 3) := by decide +kernel
theorem dX4_addMachine_16 : decode cX4_addMachine 16 = .ok (.iload_n 1, 1) := by decide +kernel
theorem dX4_addMachine_17 : decode cX4_addMachine 17 = .ok (.iaload, 1) := by decide +kernel
theorem dX4_addMachine_18 : decode cX4_addMachine 18 = .ok (.iadd, 1) := by decide +kernel
theorem dX4_addMachine_19 : decode cX4_addMachine 19 = .ok (.aload_n 0, 1) := by decide +kernel
theorem dX4_addMachine_20 : decode cX4_addMachine 20 = .ok (.getfield 30, 3) := by decide +kernel
theorem dX4_addMachine_23 : decode cX4_addMachine 23 = .ok (.aload_n 0, 1) := by decide +kernel
theorem dX4_addMachine_24 : decode cX4_addMachine 24 = .ok (.getfield 18, 3) := by decide +kernel
theorem dX4_addMachine_27 : decode cX4_addMachine 27 = .ok (.iload_n 2, 1) := by decide +kernel
theorem dX4_addMachine_28 : decode cX4_addMachine 28 = .ok (.invokevirtual 71, 3) := by decide +kernel
theorem dX4_addMachine_31 : decode cX4_addMachine 31 = .ok (.isub, 1) := by decide +kernel
theorem dX4_addMachine_32 : decode cX4_addMachine 32 = .ok (.invokestatic 74, 3) := by decide +kernel
theorem dX4_addMachine_35 : decode cX4_addMachine 35 = .ok (.istore_n 3, 1) := by decide +kernel
theorem dX4_addMachine_36 : decode cX4_addMachine 36 = .ok (.aload_n 0, 1) := by decide +kernel
theorem dX4_addMachine_37 : decode cX4_addMachine 37 = .ok (.getfield 45, 3) := by decide +kernel
theorem dX4_addMachine_40 : decode cX4_addMachine 40 = .ok (.aload_n 0, 1) := by decide +kernel
theorem dX4_addMachine_41 : decode cX4_addMachine 41 = .ok (.getfield 18, 3) := by decide +kernel
theorem dX4_addMachine_44 : decode cX4_addMachine 44 = .ok (.getfield 79, 3) := by decide +kernel
theorem dX4_addMachine_47 : decode cX4_addMachine 47 = .ok (.iload_n 1, 1) := by decide +kernel
theorem dX4_addMachine_48 : decode cX4_addMachine 48 = .ok (.iaload, 1) := by decide +kernel
theorem dX4_addMachine_49 : decode cX4_addMachine 49 = .ok (.iadd, 1) := by decide +kernel
theorem dX4_addMachine_50 : decode cX4_addMachine 50 = .ok (.aload_n 0, 1) := by decide +kernel
theorem dX4_addMachine_51 : decode cX4_addMachine 51 = .ok (.getfield 30, 3) := by decide +kernel
theorem dX4_addMachine_54 : decode cX4_addMachine 54 = .ok (.aload_n 0, 1) := by decide +kernel
theorem dX4_addMachine_55 : decode cX4_addMachine 55 = .ok (.getfield 18, 3) := by decide +kernel
theorem dX4_addMachine_58 : decode cX4_addMachine 58 = .ok (.iload_n 2, 1) := by decide +kernel
theorem dX4_addMachine_59 : decode cX4_addMachine 59 = .ok (.invokevirtual 82, 3) := by decide +kernel
theorem dX4_addMachine_62 : decode cX4_addMachine 62 = .ok (.isub, 1) := by decide +kernel
theorem dX4_addMachine_63 : decode cX4_addMachine 63 = .ok (.invokestatic 85, 3) := by decide +kernel
theorem dX4_addMachine_66 : decode cX4_addMachine 66 = .ok (.istore 4, 2) := by decide +kernel
theorem dX4_addMachine_68 : decode cX4_addMachine 68 = .ok (.iload 4, 2) := by decide +kernel
theorem dX4_addMachine_70 : decode cX4_addMachine 70 = .ok (.istore 5, 2) := by decide +kernel
theorem dX4_addMachine_72 : decode cX4_addMachine 72 = .ok (.iload 5, 2) := by decide +kernel
theorem dX4_addMachine_74 : decode cX4_addMachine 74 = .ok (.iload_n 3, 1) := by decide +kernel
theorem dX4_addMachine_75 : decode cX4_addMachine 75 = .ok (.if_icmp .lt 23, 3) := by decide +kernel
theorem dX4_addMachine_78 : decode cX4_addMachine 78 = .ok (.aload_n 0, 1) := by decide +kernel
theorem dX4_addMachine_79 : decode cX4_addMachine 79 = .ok (.getfield 11, 3) := by decide +kernel
theorem dX4_addMachine_82 : decode cX4_addMachine 82 = .ok (.iload 5, 2) := by decide +kernel
theorem dX4_addMachine_84 : decode cX4_addMachine 84 = .ok (.aload_n 0, 1) := by decide +kernel
theorem dX4_addMachine_85 : decode cX4_addMachine 85 = .ok (.iload_n 1, 1) := by decide +kernel
theorem dX4_addMachine_86 : decode cX4_addMachine 86 = .ok (.iload 5, 2) := by decide +kernel
theorem dX4_addMachine_88 : decode cX4_addMachine 88 = .ok (.invokevirtual 88, 3) := by decide +kernel
theorem dX4_addMachine_91 : decode cX4_addMachine 91 = .ok (.lastore, 1) := by decide +kernel
theorem dX4_addMachine_92 : decode cX4_addMachine 92 = .ok (.iinc 5 (-1), 3) := by decide +kernel
theorem dX4_addMachine_95 : decode cX4_addMachine 95 = .ok (.goto (-23), 3) := by decide +kernel
theorem dX4_addMachine_98 : decode cX4_addMachine 98 = .ok (.aload_n 0, 1) := by decide +kernel
theorem dX4_addMachine_99 : decode cX4_addMachine 99 = .ok (.iload_n 3, 1) := by decide +kernel
theorem dX4_addMachine_100 : decode cX4_addMachine 100 = .ok (.putfield 42, 3) := by decide +kernel
theorem dX4_addMachine_103 : decode cX4_addMachine 103 = .ok (.aload_n 0, 1) := by decide +kernel
theorem dX4_addMachine_104 : decode cX4_addMachine 104 = .ok (.iload 4, 2) := by decide +kernel
theorem dX4_addMachine_106 : decode cX4_addMachine 106 = .ok (.putfield 45, 3) := by decide +kernel
theorem dX4_addMachine_109 : decode cX4_addMachine 109 = .ok (.return_, 1) := by decide +kernel
theorem dX4_fillRow_0 : decode cX4_fillRow 0 = .ok (.aload_n 0, 1) := by decide +kernel
theorem dX4_fillRow_1 : decode cX4_fillRow 1 = .ok (.getfield 18, 3) := by decide +kernel
theorem dX4_fillRow_4 : decode cX4_fillRow 4 = .ok (.getfield 67, 3) := by decide +kernel
theorem dX4_fillRow_7 : decode cX4_fillRow 7 = .ok (.iload_n 1, 1) := by decide +kernel
theorem dX4_fillRow_8 : decode cX4_fillRow 8 = .ok (.iaload, 1) := by decide +kernel
theorem dX4_fillRow_9 : decode cX4_fillRow 9 = .ok (.istore_n 2, 1) := by decide +kernel
theorem dX4_fillRow_10 : decode cX4_fillRow 10 = .ok (.iload_n 2, 1) := by decide +kernel
theorem dX4_fillRow_11 : decode cX4_fillRow 11 = .ok (.aload_n 0, 1) := by decide +kernel
theorem dX4_fillRow_12 : decode cX4_fillRow 12 = .ok (.getfield 18, 3) := by decide +kernel
theorem dX4_fillRow_15 : decode cX4_fillRow 15 = .ok (.getfield 79, 3) := by decide +kernel
theorem dX4_fillRow_18 : decode cX4_fillRow 18 = .ok (.iload_n 1, 1) := by decide +kernel
theorem dX4_fillRow_19 : decode cX4_fillRow 19 = .ok (.iaload, 1) := by decide +kernel
theorem dX4_fillRow_20 : decode cX4_fillRow 20 = .ok (.if_icmp .gt 40, 3) := by decide +kernel
theorem dX4_fillRow_23 : decode cX4_fillRow 23 = .ok (.aload_n 0, 1) := by decide +kernel
theorem dX4_fillRow_24 : decode cX4_fillRow 24 = .ok (.getfield 15, 3) := by decide +kernel
theorem dX4_fillRow_27 : decode cX4_fillRow 27 = .ok (.iload_n 2, 1) := by decide +kernel
theorem dX4_fillRow_28 : decode cX4_fillRow 28 = .ok (.aload_n 0, 1) := by decide +kernel
theorem dX4_fillRow_29 : decode cX4_fillRow 29 = .ok (.getfield 18, 3) := by decide +kernel
theorem dX4_fillRow_32 : decode cX4_fillRow 32 = .ok (.iload_n 1, 1) := by decide +kernel
theorem dX4_fillRow_33 : decode cX4_fillRow 33 = .ok (.iload_n 2, 1) := by decide +kernel
theorem dX4_fillRow_34 : decode cX4_fillRow 34 = .ok (.aload_n 0, 1) := by decide +kernel
theorem dX4_fillRow_35 : decode cX4_fillRow 35 = .ok (.getfield 33, 3) := by decide +kernel
theorem dX4_fillRow_38 : decode cX4_fillRow 38 = .ok (.invokevirtual 92, 3) := by decide +kernel
theorem dX4_fillRow_41 : decode cX4_fillRow 41 = .ok (.i2l, 1) := by decide +kernel
theorem dX4_fillRow_42 : decode cX4_fillRow 42 = .ok (.bipush 42, 2) := by decide +kernel
theorem dX4_fillRow_44 : decode cX4_fillRow 44 = .ok (.lshl, 1) := by decide +kernel
theorem dX4_fillRow_45 : decode cX4_fillRow 45 = .ok (.iload_n 2, 1) := by decide +kernel
theorem dX4_fillRow_46 : decode cX4_fillRow 46 = .ok (.i2l, 1) := by decide +kernel
theorem dX4_fillRow_47 : decode cX4_fillRow 47 = .ok (.iload_n 1, 1) := by decide +kernel
theorem dX4_fillRow_48 : decode cX4_fillRow 48 = .ok (.invokestatic 59, 3) := by decide +kernel
theorem dX4_fillRow_51 : decode cX4_fillRow 51 = .ok (.lshl, 1) := by decide +kernel
theorem dX4_fillRow_52 : decode cX4_fillRow 52 = .ok (.ladd, 1) := by decide +kernel
theorem dX4_fillRow_53 : decode cX4_fillRow 53 = .ok (.lastore, 1) := by decide +kernel
theorem dX4_fillRow_54 : decode cX4_fillRow 54 = .ok (.iinc 2 1, 3) := by decide +kernel
theorem dX4_fillRow_57 : decode cX4_fillRow 57 = .ok (.goto (-47), 3) := by decide +kernel
theorem dX4_fillRow_60 : decode cX4_fillRow 60 = .ok (.return_, 1) := by decide +kernel
theorem dX4_leastWith_0 : decode cX4_leastWith 0 = .ok (.aload_n 0, 1) := by decide +kernel
theorem dX4_leastWith_1 : decode cX4_leastWith 1 = .ok (.getfield 18, 3) := by decide +kernel
theorem dX4_leastWith_4 : decode cX4_leastWith 4 = .ok (.getfield 79, 3) := by decide +kernel
theorem dX4_leastWith_7 : decode cX4_leastWith 7 = .ok (.iload_n 1, 1) := by decide +kernel
theorem dX4_leastWith_8 : decode cX4_leastWith 8 = .ok (.iaload, 1) := by decide +kernel
theorem dX4_leastWith_9 : decode cX4_leastWith 9 = .ok (.iload_n 2, 1) := by decide +kernel
theorem dX4_leastWith_10 : decode cX4_leastWith 10 = .ok (.aload_n 0, 1) := by decide +kernel
theorem dX4_leastWith_11 : decode cX4_leastWith 11 = .ok (.getfield 42, 3) := by decide +kernel
theorem dX4_leastWith_14 : decode cX4_leastWith 14 = .ok (.isub, 1) := by decide +kernel
theorem dX4_leastWith_15 : decode cX4_leastWith 15 = .ok (.invokestatic 85, 3) := by decide +kernel
theorem dX4_leastWith_18 : decode cX4_leastWith 18 = .ok (.istore_n 3, 1) := by decide +kernel
theorem dX4_leastWith_19 : decode cX4_leastWith 19 = .ok (.ldc2_w 98, 3) := by decide +kernel
theorem dX4_leastWith_22 : decode cX4_leastWith 22 = .ok (.lstore 4, 2) := by decide +kernel
theorem dX4_leastWith_24 : decode cX4_leastWith 24 = .ok (.aload_n 0, 1) := by decide +kernel
theorem dX4_leastWith_25 : decode cX4_leastWith 25 = .ok (.getfield 18, 3) := by decide +kernel
theorem dX4_leastWith_28 : decode cX4_leastWith 28 = .ok (.getfield 67, 3) := by decide +kernel
theorem dX4_leastWith_31 : decode cX4_leastWith 31 = .ok (.iload_n 1, 1) := by decide +kernel
theorem dX4_leastWith_32 : decode cX4_leastWith 32 = .ok (.iaload, 1) := by decide +kernel
theorem dX4_leastWith_33 : decode cX4_leastWith 33 = .ok (.iload_n 2, 1) := by decide +kernel
theorem dX4_leastWith_34 : decode cX4_leastWith 34 = .ok (.aload_n 0, 1) := by decide +kernel
theorem dX4_leastWith_35 : decode cX4_leastWith 35 = .ok (.getfield 45, 3) := by decide +kernel
theorem dX4_leastWith_38 : decode cX4_leastWith 38 = .ok (.isub, 1) := by decide +kernel
theorem dX4_leastWith_39 : decode cX4_leastWith 39 = .ok (.invokestatic 74, 3) := by decide +kernel
theorem dX4_leastWith_42 : decode cX4_leastWith 42 = .ok (.istore 6, 2) := by decide +kernel
theorem dX4_leastWith_44 : decode cX4_leastWith 44 = .ok (.iload 6, 2) := by decide +kernel
theorem dX4_leastWith_46 : decode cX4_leastWith 46 = .ok (.iload_n 3, 1) := by decide +kernel
theorem dX4_leastWith_47 : decode cX4_leastWith 47 = .ok (.if_icmp .gt 40, 3) := by decide +kernel
theorem dX4_leastWith_50 : decode cX4_leastWith 50 = .ok (.aload_n 0, 1) := by decide +kernel
theorem dX4_leastWith_51 : decode cX4_leastWith 51 = .ok (.getfield 11, 3) := by decide +kernel
theorem dX4_leastWith_54 : decode cX4_leastWith 54 = .ok (.iload_n 2, 1) := by decide +kernel
theorem dX4_leastWith_55 : decode cX4_leastWith 55 = .ok (.iload 6, 2) := by decide +kernel
theorem dX4_leastWith_57 : decode cX4_leastWith 57 = .ok (.isub, 1) := by decide +kernel
theorem dX4_leastWith_58 : decode cX4_leastWith 58 = .ok (.laload, 1) := by decide +kernel
theorem dX4_leastWith_59 : decode cX4_leastWith 59 = .ok (.aload_n 0, 1) := by decide +kernel
theorem dX4_leastWith_60 : decode cX4_leastWith 60 = .ok (.getfield 15, 3) := by decide +kernel
theorem dX4_leastWith_63 : decode cX4_leastWith 63 = .ok (.iload 6, 2) := by decide +kernel
theorem dX4_leastWith_65 : decode cX4_leastWith 65 = .ok (.laload, 1) := by decide +kernel
theorem dX4_leastWith_66 : decode cX4_leastWith 66 = .ok (.ladd, 1) := by decide +kernel
theorem dX4_leastWith_67 : decode cX4_leastWith 67 = .ok (.lstore 7, 2) := by decide +kernel
theorem dX4_leastWith_69 : decode cX4_leastWith 69 = .ok (.lload 7, 2) := by decide +kernel
theorem dX4_leastWith_71 : decode cX4_leastWith 71 = .ok (.lload 4, 2) := by decide +kernel
theorem dX4_leastWith_73 : decode cX4_leastWith 73 = .ok (.lcmp, 1) := by decide +kernel
theorem dX4_leastWith_74 : decode cX4_leastWith 74 = .ok (.ifCond .ge 7, 3) := by decide +kernel
theorem dX4_leastWith_77 : decode cX4_leastWith 77 = .ok (.lload 7, 2) := by decide +kernel
theorem dX4_leastWith_79 : decode cX4_leastWith 79 = .ok (.lstore 4, 2) := by decide +kernel
theorem dX4_leastWith_81 : decode cX4_leastWith 81 = .ok (.iinc 6 1, 3) := by decide +kernel
theorem dX4_leastWith_84 : decode cX4_leastWith 84 = .ok (.goto (-40), 3) := by decide +kernel
theorem dX4_leastWith_87 : decode cX4_leastWith 87 = .ok (.lload 4, 2) := by decide +kernel
theorem dX4_leastWith_89 : decode cX4_leastWith 89 = .ok (.lreturn, 1) := by decide +kernel
theorem dX5_init_0 : decode cX5_init 0 = .ok (.aload_n 0, 1) := by decide +kernel
theorem dX5_init_1 : decode cX5_init 1 = .ok (.invokespecial 3, 3) := by decide +kernel
theorem dX5_init_4 : decode cX5_init 4 = .ok (.aload_n 0, 1) := by decide +kernel
theorem dX5_init_5 : decode cX5_init 5 = .ok (.aload_n 1, 1) := by decide +kernel
theorem dX5_init_6 : decode cX5_init 6 = .ok (.putfield 9, 3) := by decide +kernel
theorem dX5_init_9 : decode cX5_init 9 = .ok (.aload_n 0, 1) := by decide +kernel
theorem dX5_init_10 : decode cX5_init 10 = .ok (.new 15, 3) := by decide +kernel
theorem dX5_init_13 : decode cX5_init 13 = .ok (.dup, 1) := by decide +kernel
theorem dX5_init_14 : decode cX5_init 14 = .ok (.aload_n 1, 1) := by decide +kernel
theorem dX5_init_15 : decode cX5_init 15 = .ok (.invokespecial 17, 3) := by decide +kernel
theorem dX5_init_18 : decode cX5_init 18 = .ok (.putfield 20, 3) := by decide +kernel
theorem dX5_init_21 : decode cX5_init 21 = .ok (.return_, 1) := by decide +kernel
theorem dX5_made_0 : decode cX5_made 0 = .ok (.aload_n 0, 1) := by decide +kernel
theorem dX5_made_1 : decode cX5_made 1 = .ok (.getfield 9, 3) := by decide +kernel
theorem dX5_made_4 : decode cX5_made 4 = .ok (.aload_n 1, 1) := by decide +kernel
theorem dX5_made_5 : decode cX5_made 5 = .ok (.getfield 24, 3) := by decide +kernel
theorem dX5_made_8 : decode cX5_made 8 = .ok (.invokevirtual 30, 3) := by decide +kernel
theorem dX5_made_11 : decode cX5_made 11 = .ok (.aload_n 0, 1) := by decide +kernel
theorem dX5_made_12 : decode cX5_made 12 = .ok (.getfield 9, 3) := by decide +kernel
theorem dX5_made_15 : decode cX5_made 15 = .ok (.aload_n 1, 1) := by decide +kernel
theorem dX5_made_16 : decode cX5_made 16 = .ok (.getfield 24, 3) := by decide +kernel
theorem dX5_made_19 : decode cX5_made 19 = .ok (.invokevirtual 36, 3) := by decide +kernel
theorem dX5_made_22 : decode cX5_made 22 = .ok (.aload_n 1, 1) := by decide +kernel
theorem dX5_made_23 : decode cX5_made 23 = .ok (.getfield 39, 3) := by decide +kernel
theorem dX5_made_26 : decode cX5_made 26 = .ok (.iconst 0, 1) := by decide +kernel
theorem dX5_made_27 : decode cX5_made 27 = .ok (.iaload, 1) := by decide +kernel
theorem dX5_made_28 : decode cX5_made 28 = .ok (.invokestatic 43, 3) := by decide +kernel
theorem dX5_made_31 : decode cX5_made 31 = .ok (.invokestatic 49, 3) := by decide +kernel
theorem dX5_made_34 : decode cX5_made 34 = .ok (.ireturn, 1) := by decide +kernel
theorem dX5_powerNow_0 : decode cX5_powerNow 0 = .ok (.aload_n 0, 1) := by decide +kernel
theorem dX5_powerNow_1 : decode cX5_powerNow 1 = .ok (.getfield 20, 3) := by decide +kernel
theorem dX5_powerNow_4 : decode cX5_powerNow 4 = .ok (.aload_n 1, 1) := by decide +kernel
theorem dX5_powerNow_5 : decode cX5_powerNow 5 = .ok (.getfield 24, 3) := by decide +kernel
theorem dX5_powerNow_8 : decode cX5_powerNow 8 = .ok (.aload_n 0, 1) := by decide +kernel
theorem dX5_powerNow_9 : decode cX5_powerNow 9 = .ok (.aload_n 1, 1) := by decide +kernel
theorem dX5_powerNow_10 : decode cX5_powerNow 10 = .ok (.invokevirtual 52, 3) := by decide +kernel
theorem dX5_powerNow_13 : decode cX5_powerNow 13 = .ok (.aload_n 1, 1) := by decide +kernel
theorem dX5_powerNow_14 : decode cX5_powerNow 14 = .ok (.invokevirtual 56, 3) := by decide +kernel
theorem dX5_powerNow_17 : decode cX5_powerNow 17 = .ok (.invokevirtual 60, 3) := by decide +kernel
theorem dX5_powerNow_20 : decode cX5_powerNow 20 = .ok (.ifCond .eq 13, 3) := by decide +kernel
theorem dX5_powerNow_23 : decode cX5_powerNow 23 = .ok (.aload_n 0, 1) := by decide +kernel
theorem dX5_powerNow_24 : decode cX5_powerNow 24 = .ok (.getfield 20, 3) := by decide +kernel
theorem dX5_powerNow_27 : decode cX5_powerNow 27 = .ok (.invokevirtual 64, 3) := by decide +kernel
theorem dX5_powerNow_30 : decode cX5_powerNow 30 = .ok (.goto 4, 3) := by decide +kernel
theorem dX5_powerNow_33 : decode cX5_powerNow 33 = .ok (.iconst 0, 1) := by decide +kernel
theorem dX5_powerNow_34 : decode cX5_powerNow 34 = .ok (.ireturn, 1) := by decide +kernel
theorem dX5_madeBy_0 : decode cX5_madeBy 0 = .ok (.aload_n 0, 1) := by decide +kernel
theorem dX5_madeBy_1 : decode cX5_madeBy 1 = .ok (.getfield 20, 3) := by decide +kernel
theorem dX5_madeBy_4 : decode cX5_madeBy 4 = .ok (.aload_n 1, 1) := by decide +kernel
theorem dX5_madeBy_5 : decode cX5_madeBy 5 = .ok (.getfield 24, 3) := by decide +kernel
theorem dX5_madeBy_8 : decode cX5_madeBy 8 = .ok (.aload_n 0, 1) := by decide +kernel
theorem dX5_madeBy_9 : decode cX5_madeBy 9 = .ok (.aload_n 1, 1) := by decide +kernel
theorem dX5_madeBy_10 : decode cX5_madeBy 10 = .ok (.invokevirtual 52, 3) := by decide +kernel
theorem dX5_madeBy_13 : decode cX5_madeBy 13 = .ok (.aload_n 1, 1) := by decide +kernel
theorem dX5_madeBy_14 : decode cX5_madeBy 14 = .ok (.invokevirtual 56, 3) := by decide +kernel
theorem dX5_madeBy_17 : decode cX5_madeBy 17 = .ok (.invokevirtual 60, 3) := by decide +kernel
theorem dX5_madeBy_20 : decode cX5_madeBy 20 = .ok (.ifCond .eq 14, 3) := by decide +kernel
theorem dX5_madeBy_23 : decode cX5_madeBy 23 = .ok (.aload_n 0, 1) := by decide +kernel
theorem dX5_madeBy_24 : decode cX5_madeBy 24 = .ok (.getfield 20, 3) := by decide +kernel
theorem dX5_madeBy_27 : decode cX5_madeBy 27 = .ok (.iload_n 2, 1) := by decide +kernel
theorem dX5_madeBy_28 : decode cX5_madeBy 28 = .ok (.invokevirtual 67, 3) := by decide +kernel
theorem dX5_madeBy_31 : decode cX5_madeBy 31 = .ok (.goto 4, 3) := by decide +kernel
theorem dX5_madeBy_34 : decode cX5_madeBy 34 = .ok (.iconst 0, 1) := by decide +kernel
theorem dX5_madeBy_35 : decode cX5_madeBy 35 = .ok (.ireturn, 1) := by decide +kernel
theorem dX5_pass_0 : decode cX5_pass 0 = .ok (.aload_n 1, 1) := by decide +kernel
theorem dX5_pass_1 : decode cX5_pass 1 = .ok (.dup, 1) := by decide +kernel
theorem dX5_pass_2 : decode cX5_pass 2 = .ok (.getfield 70, 3) := by decide +kernel
theorem dX5_pass_5 : decode cX5_pass 5 = .ok (.aload_n 0, 1) := by decide +kernel
theorem dX5_pass_6 : decode cX5_pass 6 = .ok (.aload_n 1, 1) := by decide +kernel
theorem dX5_pass_7 : decode cX5_pass 7 = .ok (.invokevirtual 73, 3) := by decide +kernel
theorem dX5_pass_10 : decode cX5_pass 10 = .ok (.iadd, 1) := by decide +kernel
theorem dX5_pass_11 : decode cX5_pass 11 = .ok (.putfield 70, 3) := by decide +kernel
theorem dX5_pass_14 : decode cX5_pass 14 = .ok (.aload_n 1, 1) := by decide +kernel
theorem dX5_pass_15 : decode cX5_pass 15 = .ok (.dup, 1) := by decide +kernel
theorem dX5_pass_16 : decode cX5_pass 16 = .ok (.getfield 76, 3) := by decide +kernel
theorem dX5_pass_19 : decode cX5_pass 19 = .ok (.iconst 1, 1) := by decide +kernel
theorem dX5_pass_20 : decode cX5_pass 20 = .ok (.iadd, 1) := by decide +kernel
theorem dX5_pass_21 : decode cX5_pass 21 = .ok (.putfield 76, 3) := by decide +kernel
theorem dX5_pass_24 : decode cX5_pass 24 = .ok (.iconst 0, 1) := by decide +kernel
theorem dX5_pass_25 : decode cX5_pass 25 = .ok (.istore_n 2, 1) := by decide +kernel
theorem dX5_pass_26 : decode cX5_pass 26 = .ok (.iload_n 2, 1) := by decide +kernel
theorem dX5_pass_27 : decode cX5_pass 27 = .ok (.aload_n 0, 1) := by decide +kernel
theorem dX5_pass_28 : decode cX5_pass 28 = .ok (.getfield 9, 3) := by decide +kernel
theorem dX5_pass_31 : decode cX5_pass 31 = .ok (.getfield 79, 3) := by decide +kernel
theorem dX5_pass_34 : decode cX5_pass 34 = .ok (.if_icmp .ge 32, 3) := by decide +kernel
theorem dX5_pass_37 : decode cX5_pass 37 = .ok (.aload_n 1, 1) := by decide +kernel
theorem dX5_pass_38 : decode cX5_pass 38 = .ok (.getfield 82, 3) := by decide +kernel
theorem dX5_pass_41 : decode cX5_pass 41 = .ok (.iload_n 2, 1) := by decide +kernel
theorem dX5_pass_42 : decode cX5_pass 42 = .ok (.dup2, 1) := by decide +kernel
theorem dX5_pass_43 : decode cX5_pass 43 = .ok (.iaload, 1) := by decide +kernel
theorem dX5_pass_44 : decode cX5_pass 44 = .ok (.aload_n 1, 1) := by decide +kernel
theorem dX5_pass_45 : decode cX5_pass 45 = .ok (.invokevirtual 85, 3) := by decide +kernel
theorem dX5_pass_48 : decode cX5_pass 48 = .ok (.iload_n 2, 1) := by decide +kernel
theorem dX5_pass_49 : decode cX5_pass 49 = .ok (.invokestatic 88, 3) := by decide +kernel
theorem dX5_pass_52 : decode cX5_pass 52 = .ok (.iadd, 1) := by decide +kernel
theorem dX5_pass_53 : decode cX5_pass 53 = .ok (.iastore, 1) := by decide +kernel
theorem dX5_pass_54 : decode cX5_pass 54 = .ok (.aload_n 0, 1) := by decide +kernel
theorem dX5_pass_55 : decode cX5_pass 55 = .ok (.aload_n 1, 1) := by decide +kernel
theorem dX5_pass_56 : decode cX5_pass 56 = .ok (.iload_n 2, 1) := by decide +kernel
theorem dX5_pass_57 : decode cX5_pass 57 = .ok (.invokevirtual 91, 3) := by decide +kernel
theorem dX5_pass_60 : decode cX5_pass 60 = .ok (.iinc 2 1, 3) := by decide +kernel
theorem dX5_pass_63 : decode cX5_pass 63 = .ok (.goto (-37), 3) := by decide +kernel
theorem dX5_pass_66 : decode cX5_pass 66 = .ok (.aload_n 1, 1) := by decide +kernel
theorem dX5_pass_67 : decode cX5_pass 67 = .ok (.getfield 95, 3) := by decide +kernel
theorem dX5_pass_70 : decode cX5_pass 70 = .ok (.ifCond .le 11, 3) := by decide +kernel
theorem dX5_pass_73 : decode cX5_pass 73 = .ok (.aload_n 0, 1) := by decide +kernel
theorem dX5_pass_74 : decode cX5_pass 74 = .ok (.aload_n 1, 1) := by decide +kernel
theorem dX5_pass_75 : decode cX5_pass 75 = .ok (.invokevirtual 98, 3) := by decide +kernel
theorem dX5_pass_78 : decode cX5_pass 78 = .ok (.goto 47, 3) := by decide +kernel
theorem dX5_pass_81 : decode cX5_pass 81 = .ok (.bipush 100, 2) := by decide +kernel
theorem dX5_pass_83 : decode cX5_pass 83 = .ok (.aload_n 1, 1) := by decide +kernel
theorem dX5_pass_84 : decode cX5_pass 84 = .ok (.getfield 39, 3) := by decide +kernel
theorem dX5_pass_87 : decode cX5_pass 87 = .ok (.iconst 0, 1) := by decide +kernel
theorem dX5_pass_88 : decode cX5_pass 88 = .ok (.iaload, 1) := by decide +kernel
theorem dX5_pass_89 : decode cX5_pass 89 = .ok (.imul, 1) := by decide +kernel
theorem dX5_pass_90 : decode cX5_pass 90 = .ok (.aload_n 0, 1) := by decide +kernel
theorem dX5_pass_91 : decode cX5_pass 91 = .ok (.getfield 9, 3) := by decide +kernel
theorem dX5_pass_94 : decode cX5_pass 94 = .ok (.getfield 102, 3) := by decide +kernel
theorem dX5_pass_97 : decode cX5_pass 97 = .ok (.aload_n 0, 1) := by decide +kernel
theorem dX5_pass_98 : decode cX5_pass 98 = .ok (.getfield 9, 3) := by decide +kernel
theorem dX5_pass_101 : decode cX5_pass 101 = .ok (.aload_n 1, 1) := by decide +kernel
theorem dX5_pass_102 : decode cX5_pass 102 = .ok (.invokevirtual 85, 3) := by decide +kernel
theorem dX5_pass_105 : decode cX5_pass 105 = .ok (.invokevirtual 36, 3) := by decide +kernel
theorem dX5_pass_108 : decode cX5_pass 108 = .ok (.imul, 1) := by decide +kernel
theorem dX5_pass_109 : decode cX5_pass 109 = .ok (.if_icmp .le 11, 3) := by decide +kernel
theorem dX5_pass_112 : decode cX5_pass 112 = .ok (.aload_n 0, 1) := by decide +kernel
theorem dX5_pass_113 : decode cX5_pass 113 = .ok (.aload_n 1, 1) := by decide +kernel
theorem dX5_pass_114 : decode cX5_pass 114 = .ok (.invokevirtual 105, 3) := by decide +kernel
theorem dX5_pass_117 : decode cX5_pass 117 = .ok (.goto 8, 3) := by decide +kernel
theorem dX5_pass_120 : decode cX5_pass 120 = .ok (.aload_n 0, 1) := by decide +kernel
theorem dX5_pass_121 : decode cX5_pass 121 = .ok (.aload_n 1, 1) := by decide +kernel
theorem dX5_pass_122 : decode cX5_pass 122 = .ok (.invokevirtual 108, 3) := by decide +kernel
theorem dX5_pass_125 : decode cX5_pass 125 = .ok (.return_, 1) := by decide +kernel
theorem dX5_comeOn_0 : decode cX5_comeOn 0 = .ok (.aload_n 1, 1) := by decide +kernel
theorem dX5_comeOn_1 : decode cX5_comeOn 1 = .ok (.getfield 111, 3) := by decide +kernel
theorem dX5_comeOn_4 : decode cX5_comeOn 4 = .ok (.iload_n 2, 1) := by decide +kernel
theorem dX5_comeOn_5 : decode cX5_comeOn 5 = .ok (.invokestatic 88, 3) := by decide +kernel
theorem dX5_comeOn_8 : decode cX5_comeOn 8 = .ok (.iconst 1, 1) := by decide +kernel
theorem dX5_comeOn_9 : decode cX5_comeOn 9 = .ok (.if_icmp .ne 42, 3) := by decide +kernel
theorem dX5_comeOn_12 : decode cX5_comeOn 12 = .ok (.aload_n 1, 1) := by decide +kernel
theorem dX5_comeOn_13 : decode cX5_comeOn 13 = .ok (.iload_n 2, 1) := by decide +kernel
theorem dX5_comeOn_14 : decode cX5_comeOn 14 = .ok (.aload_n 1, 1) := by decide +kernel
theorem dX5_comeOn_15 : decode cX5_comeOn 15 = .ok (.getfield 76, 3) := by decide +kernel
theorem dX5_comeOn_18 : decode cX5_comeOn 18 = .ok (.invokevirtual 114, 3) := by decide +kernel
theorem dX5_comeOn_21 : decode cX5_comeOn 21 = .ok (.iconst 3, 1) := by decide +kernel
theorem dX5_comeOn_22 : decode cX5_comeOn 22 = .ok (.if_icmp .lt 29, 3) := by decide +kernel
theorem dX5_comeOn_25 : decode cX5_comeOn 25 = .ok (.aload_n 1, 1) := by decide +kernel
theorem dX5_comeOn_26 : decode cX5_comeOn 26 = .ok (.dup, 1) := by decide +kernel
theorem dX5_comeOn_27 : decode cX5_comeOn 27 = .ok (.getfield 111, 3) := by decide +kernel
theorem dX5_comeOn_30 : decode cX5_comeOn 30 = .ok (.iconst 1, 1) := by decide +kernel
theorem dX5_comeOn_31 : decode cX5_comeOn 31 = .ok (.iload_n 2, 1) := by decide +kernel
theorem dX5_comeOn_32 : decode cX5_comeOn 32 = .ok (.ishl, 1) := by decide +kernel
theorem dX5_comeOn_33 : decode cX5_comeOn 33 = .ok (.iconst (-1), 1) := by decide +kernel
theorem dX5_comeOn_34 : decode cX5_comeOn 34 = .ok (.ixor, 1) := by decide +kernel
theorem dX5_comeOn_35 : decode cX5_comeOn 35 = .ok (.iand, 1) := by decide +kernel
theorem dX5_comeOn_36 : decode cX5_comeOn 36 = .ok (.putfield 111, 3) := by decide +kernel
theorem dX5_comeOn_39 : decode cX5_comeOn 39 = .ok (.aload_n 1, 1) := by decide +kernel
theorem dX5_comeOn_40 : decode cX5_comeOn 40 = .ok (.dup, 1) := by decide +kernel
theorem dX5_comeOn_41 : decode cX5_comeOn 41 = .ok (.getfield 24, 3) := by decide +kernel
theorem dX5_comeOn_44 : decode cX5_comeOn 44 = .ok (.iconst 1, 1) := by decide +kernel
theorem dX5_comeOn_45 : decode cX5_comeOn 45 = .ok (.iload_n 2, 1) := by decide +kernel
theorem dX5_comeOn_46 : decode cX5_comeOn 46 = .ok (.ishl, 1) := by decide +kernel
theorem dX5_comeOn_47 : decode cX5_comeOn 47 = .ok (.ior, 1) := by decide +kernel
theorem dX5_comeOn_48 : decode cX5_comeOn 48 = .ok (.putfield 24, 3) := by decide +kernel
theorem dX5_comeOn_51 : decode cX5_comeOn 51 = .ok (.return_, 1) := by decide +kernel
theorem dX5_comeBack_0 : decode cX5_comeBack 0 = .ok (.aload_n 0, 1) := by decide +kernel
theorem dX5_comeBack_1 : decode cX5_comeBack 1 = .ok (.aload_n 1, 1) := by decide +kernel
theorem dX5_comeBack_2 : decode cX5_comeBack 2 = .ok (.aload_n 1, 1) := by decide +kernel
theorem dX5_comeBack_3 : decode cX5_comeBack 3 = .ok (.getfield 76, 3) := by decide +kernel
theorem dX5_comeBack_6 : decode cX5_comeBack 6 = .ok (.invokevirtual 117, 3) := by decide +kernel
theorem dX5_comeBack_9 : decode cX5_comeBack 9 = .ok (.ifCond .eq 18, 3) := by decide +kernel
theorem dX5_comeBack_12 : decode cX5_comeBack 12 = .ok (.aload_n 1, 1) := by decide +kernel
theorem dX5_comeBack_13 : decode cX5_comeBack 13 = .ok (.invokevirtual 121, 3) := by decide +kernel
theorem dX5_comeBack_16 : decode cX5_comeBack 16 = .ok (.istore_n 2, 1) := by decide +kernel
theorem dX5_comeBack_17 : decode cX5_comeBack 17 = .ok (.aload_n 1, 1) := by decide +kernel
theorem dX5_comeBack_18 : decode cX5_comeBack 18 = .ok (.iload_n 2, 1) := by decide +kernel
theorem dX5_comeBack_19 : decode cX5_comeBack 19 = .ok (.invokevirtual 124, 3) := by decide +kernel
theorem dX5_comeBack_22 : decode cX5_comeBack 22 = .ok (.aload_n 1, 1) := by decide +kernel
theorem dX5_comeBack_23 : decode cX5_comeBack 23 = .ok (.iload_n 2, 1) := by decide +kernel
theorem dX5_comeBack_24 : decode cX5_comeBack 24 = .ok (.invokevirtual 128, 3) := by decide +kernel
theorem dX5_comeBack_27 : decode cX5_comeBack 27 = .ok (.return_, 1) := by decide +kernel
theorem dX5_stageUp_0 : decode cX5_stageUp 0 = .ok (.aload_n 1, 1) := by decide +kernel
theorem dX5_stageUp_1 : decode cX5_stageUp 1 = .ok (.dup, 1) := by decide +kernel
theorem dX5_stageUp_2 : decode cX5_stageUp 2 = .ok (.getfield 131, 3) := by decide +kernel
theorem dX5_stageUp_5 : decode cX5_stageUp 5 = .ok (.iconst 1, 1) := by decide +kernel
theorem dX5_stageUp_6 : decode cX5_stageUp 6 = .ok (.iadd, 1) := by decide +kernel
theorem dX5_stageUp_7 : decode cX5_stageUp 7 = .ok (.putfield 131, 3) := by decide +kernel
theorem dX5_stageUp_10 : decode cX5_stageUp 10 = .ok (.aload_n 1, 1) := by decide +kernel
theorem dX5_stageUp_11 : decode cX5_stageUp 11 = .ok (.iconst 0, 1) := by decide +kernel
theorem dX5_stageUp_12 : decode cX5_stageUp 12 = .ok (.putfield 134, 3) := by decide +kernel
theorem dX5_stageUp_15 : decode cX5_stageUp 15 = .ok (.aload_n 1, 1) := by decide +kernel
theorem dX5_stageUp_16 : decode cX5_stageUp 16 = .ok (.getfield 131, 3) := by decide +kernel
theorem dX5_stageUp_19 : decode cX5_stageUp 19 = .ok (.aload_n 0, 1) := by decide +kernel
theorem dX5_stageUp_20 : decode cX5_stageUp 20 = .ok (.getfield 9, 3) := by decide +kernel
theorem dX5_stageUp_23 : decode cX5_stageUp 23 = .ok (.getfield 137, 3) := by decide +kernel
theorem dX5_stageUp_26 : decode cX5_stageUp 26 = .ok (.if_icmp .le 11, 3) := by decide +kernel
theorem dX5_stageUp_29 : decode cX5_stageUp 29 = .ok (.aload_n 0, 1) := by decide +kernel
theorem dX5_stageUp_30 : decode cX5_stageUp 30 = .ok (.aload_n 1, 1) := by decide +kernel
theorem dX5_stageUp_31 : decode cX5_stageUp 31 = .ok (.invokevirtual 140, 3) := by decide +kernel
theorem dX5_stageUp_34 : decode cX5_stageUp 34 = .ok (.goto 5, 3) := by decide +kernel
theorem dX5_stageUp_37 : decode cX5_stageUp 37 = .ok (.bipush (-4), 2) := by decide +kernel
theorem dX5_stageUp_39 : decode cX5_stageUp 39 = .ok (.istore_n 2, 1) := by decide +kernel
theorem dX5_stageUp_40 : decode cX5_stageUp 40 = .ok (.iload_n 2, 1) := by decide +kernel
theorem dX5_stageUp_41 : decode cX5_stageUp 41 = .ok (.bipush (-4), 2) := by decide +kernel
theorem dX5_stageUp_43 : decode cX5_stageUp 43 = .ok (.if_icmp .eq 13, 3) := by decide +kernel
theorem dX5_stageUp_46 : decode cX5_stageUp 46 = .ok (.aload_n 1, 1) := by decide +kernel
theorem dX5_stageUp_47 : decode cX5_stageUp 47 = .ok (.iload_n 2, 1) := by decide +kernel
theorem dX5_stageUp_48 : decode cX5_stageUp 48 = .ok (.invokevirtual 128, 3) := by decide +kernel
theorem dX5_stageUp_51 : decode cX5_stageUp 51 = .ok (.aload_n 1, 1) := by decide +kernel
theorem dX5_stageUp_52 : decode cX5_stageUp 52 = .ok (.iconst 0, 1) := by decide +kernel
theorem dX5_stageUp_53 : decode cX5_stageUp 53 = .ok (.putfield 131, 3) := by decide +kernel
theorem dX5_stageUp_56 : decode cX5_stageUp 56 = .ok (.return_, 1) := by decide +kernel
theorem dX5_stageDown_0 : decode cX5_stageDown 0 = .ok (.aload_n 0, 1) := by decide +kernel
theorem dX5_stageDown_1 : decode cX5_stageDown 1 = .ok (.aload_n 1, 1) := by decide +kernel
theorem dX5_stageDown_2 : decode cX5_stageDown 2 = .ok (.invokevirtual 143, 3) := by decide +kernel
theorem dX5_stageDown_5 : decode cX5_stageDown 5 = .ok (.istore_n 2, 1) := by decide +kernel
theorem dX5_stageDown_6 : decode cX5_stageDown 6 = .ok (.aload_n 1, 1) := by decide +kernel
theorem dX5_stageDown_7 : decode cX5_stageDown 7 = .ok (.iconst 0, 1) := by decide +kernel
theorem dX5_stageDown_8 : decode cX5_stageDown 8 = .ok (.putfield 131, 3) := by decide +kernel
theorem dX5_stageDown_11 : decode cX5_stageDown 11 = .ok (.iload_n 2, 1) := by decide +kernel
theorem dX5_stageDown_12 : decode cX5_stageDown 12 = .ok (.bipush (-4), 2) := by decide +kernel
theorem dX5_stageDown_14 : decode cX5_stageDown 14 = .ok (.if_icmp .eq 40, 3) := by decide +kernel
theorem dX5_stageDown_17 : decode cX5_stageDown 17 = .ok (.bipush 100, 2) := by decide +kernel
theorem dX5_stageDown_19 : decode cX5_stageDown 19 = .ok (.aload_n 1, 1) := by decide +kernel
theorem dX5_stageDown_20 : decode cX5_stageDown 20 = .ok (.getfield 39, 3) := by decide +kernel
theorem dX5_stageDown_23 : decode cX5_stageDown 23 = .ok (.iconst 0, 1) := by decide +kernel
theorem dX5_stageDown_24 : decode cX5_stageDown 24 = .ok (.iaload, 1) := by decide +kernel
theorem dX5_stageDown_25 : decode cX5_stageDown 25 = .ok (.imul, 1) := by decide +kernel
theorem dX5_stageDown_26 : decode cX5_stageDown 26 = .ok (.aload_n 0, 1) := by decide +kernel
theorem dX5_stageDown_27 : decode cX5_stageDown 27 = .ok (.getfield 9, 3) := by decide +kernel
theorem dX5_stageDown_30 : decode cX5_stageDown 30 = .ok (.getfield 146, 3) := by decide +kernel
theorem dX5_stageDown_33 : decode cX5_stageDown 33 = .ok (.aload_n 0, 1) := by decide +kernel
theorem dX5_stageDown_34 : decode cX5_stageDown 34 = .ok (.getfield 9, 3) := by decide +kernel
theorem dX5_stageDown_37 : decode cX5_stageDown 37 = .ok (.aload_n 1, 1) := by decide +kernel
theorem dX5_stageDown_38 : decode cX5_stageDown 38 = .ok (.invokevirtual 85, 3) := by decide +kernel
theorem dX5_stageDown_41 : decode cX5_stageDown 41 = .ok (.iconst 1, 1) := by decide +kernel
theorem dX5_stageDown_42 : decode cX5_stageDown 42 = .ok (.iload_n 2, 1) := by decide +kernel
theorem dX5_stageDown_43 : decode cX5_stageDown 43 = .ok (.ishl, 1) := by decide +kernel
theorem dX5_stageDown_44 : decode cX5_stageDown 44 = .ok (.iconst (-1), 1) := by decide +kernel
theorem dX5_stageDown_45 : decode cX5_stageDown 45 = .ok (.ixor, 1) := by decide +kernel
theorem dX5_stageDown_46 : decode cX5_stageDown 46 = .ok (.iand, 1) := by decide +kernel
theorem dX5_stageDown_47 : decode cX5_stageDown 47 = .ok (.invokevirtual 36, 3) := by decide +kernel
theorem dX5_stageDown_50 : decode cX5_stageDown 50 = .ok (.imul, 1) := by decide +kernel
theorem dX5_stageDown_51 : decode cX5_stageDown 51 = .ok (.if_icmp .lt 9, 3) := by decide +kernel
theorem dX5_stageDown_54 : decode cX5_stageDown 54 = .ok (.aload_n 1, 1) := by decide +kernel
theorem dX5_stageDown_55 : decode cX5_stageDown 55 = .ok (.iconst 0, 1) := by decide +kernel
theorem dX5_stageDown_56 : decode cX5_stageDown 56 = .ok (.putfield 134, 3) := by decide +kernel
theorem dX5_stageDown_59 : decode cX5_stageDown 59 = .ok (.return_, 1) := by decide +kernel
theorem dX5_stageDown_60 : decode cX5_stageDown 60 = .ok (.aload_n 1, 1) := by decide +kernel
theorem dX5_stageDown_61 : decode cX5_stageDown 61 = .ok (.dup, 1) := by decide +kernel
theorem dX5_stageDown_62 : decode cX5_stageDown 62 = .ok (.getfield 134, 3) := by decide +kernel
theorem dX5_stageDown_65 : decode cX5_stageDown 65 = .ok (.iconst 1, 1) := by decide +kernel
theorem dX5_stageDown_66 : decode cX5_stageDown 66 = .ok (.iadd, 1) := by decide +kernel
theorem dX5_stageDown_67 : decode cX5_stageDown 67 = .ok (.putfield 134, 3) := by decide +kernel
theorem dX5_stageDown_70 : decode cX5_stageDown 70 = .ok (.aload_n 1, 1) := by decide +kernel
theorem dX5_stageDown_71 : decode cX5_stageDown 71 = .ok (.getfield 134, 3) := by decide +kernel
theorem dX5_stageDown_74 : decode cX5_stageDown 74 = .ok (.aload_n 0, 1) := by decide +kernel
theorem dX5_stageDown_75 : decode cX5_stageDown 75 = .ok (.getfield 9, 3) := by decide +kernel
theorem dX5_stageDown_78 : decode cX5_stageDown 78 = .ok (.getfield 137, 3) := by decide +kernel
theorem dX5_stageDown_81 : decode cX5_stageDown 81 = .ok (.if_icmp .le 13, 3) := by decide +kernel
theorem dX5_stageDown_84 : decode cX5_stageDown 84 = .ok (.aload_n 1, 1) := by decide +kernel
theorem dX5_stageDown_85 : decode cX5_stageDown 85 = .ok (.iload_n 2, 1) := by decide +kernel
theorem dX5_stageDown_86 : decode cX5_stageDown 86 = .ok (.invokevirtual 149, 3) := by decide +kernel
theorem dX5_stageDown_89 : decode cX5_stageDown 89 = .ok (.aload_n 1, 1) := by decide +kernel
theorem dX5_stageDown_90 : decode cX5_stageDown 90 = .ok (.iconst 0, 1) := by decide +kernel
theorem dX5_stageDown_91 : decode cX5_stageDown 91 = .ok (.putfield 134, 3) := by decide +kernel
theorem dX5_stageDown_94 : decode cX5_stageDown 94 = .ok (.return_, 1) := by decide +kernel
theorem dX5_gapIsOver_0 : decode cX5_gapIsOver 0 = .ok (.iload_n 2, 1) := by decide +kernel
theorem dX5_gapIsOver_1 : decode cX5_gapIsOver 1 = .ok (.aload_n 1, 1) := by decide +kernel
theorem dX5_gapIsOver_2 : decode cX5_gapIsOver 2 = .ok (.getfield 152, 3) := by decide +kernel
theorem dX5_gapIsOver_5 : decode cX5_gapIsOver 5 = .ok (.isub, 1) := by decide +kernel
theorem dX5_gapIsOver_6 : decode cX5_gapIsOver 6 = .ok (.aload_n 0, 1) := by decide +kernel
theorem dX5_gapIsOver_7 : decode cX5_gapIsOver 7 = .ok (.getfield 9, 3) := by decide +kernel
theorem dX5_gapIsOver_10 : decode cX5_gapIsOver 10 = .ok (.getfield 155, 3) := by decide +kernel
theorem dX5_gapIsOver_13 : decode cX5_gapIsOver 13 = .ok (.if_icmp .le 7, 3) := by decide +kernel
theorem dX5_gapIsOver_16 : decode cX5_gapIsOver 16 = .ok (.iconst 1, 1) := by decide +kernel
theorem dX5_gapIsOver_17 : decode cX5_gapIsOver 17 = .ok (.goto 4, 3) := by decide +kernel
theorem dX5_gapIsOver_20 : decode cX5_gapIsOver 20 = .ok (.iconst 0, 1) := by decide +kernel
theorem dX5_gapIsOver_21 : decode cX5_gapIsOver 21 = .ok (.ireturn, 1) := by decide +kernel
theorem dX5_mayStart_0 : decode cX5_mayStart 0 = .ok (.aload_n 1, 1) := by decide +kernel
theorem dX5_mayStart_1 : decode cX5_mayStart 1 = .ok (.invokevirtual 85, 3) := by decide +kernel
theorem dX5_mayStart_4 : decode cX5_mayStart 4 = .ok (.aload_n 1, 1) := by decide +kernel
theorem dX5_mayStart_5 : decode cX5_mayStart 5 = .ok (.getfield 158, 3) := by decide +kernel
theorem dX5_mayStart_8 : decode cX5_mayStart 8 = .ok (.ior, 1) := by decide +kernel
theorem dX5_mayStart_9 : decode cX5_mayStart 9 = .ok (.iload_n 2, 1) := by decide +kernel
theorem dX5_mayStart_10 : decode cX5_mayStart 10 = .ok (.invokestatic 88, 3) := by decide +kernel
theorem dX5_mayStart_13 : decode cX5_mayStart 13 = .ok (.ifCond .ne 51, 3) := by decide +kernel
theorem dX5_mayStart_16 : decode cX5_mayStart 16 = .ok (.aload_n 1, 1) := by decide +kernel
theorem dX5_mayStart_17 : decode cX5_mayStart 17 = .ok (.iload_n 2, 1) := by decide +kernel
theorem dX5_mayStart_18 : decode cX5_mayStart 18 = .ok (.iload_n 3, 1) := by decide +kernel
theorem dX5_mayStart_19 : decode cX5_mayStart 19 = .ok (.invokevirtual 161, 3) := by decide +kernel
theorem dX5_mayStart_22 : decode cX5_mayStart 22 = .ok (.aload_n 0, 1) := by decide +kernel
theorem dX5_mayStart_23 : decode cX5_mayStart 23 = .ok (.getfield 9, 3) := by decide +kernel
theorem dX5_mayStart_26 : decode cX5_mayStart 26 = .ok (.getfield 164, 3) := by decide +kernel
theorem dX5_mayStart_29 : decode cX5_mayStart 29 = .ok (.if_icmp .le 35, 3) := by decide +kernel
theorem dX5_mayStart_32 : decode cX5_mayStart 32 = .ok (.iload_n 3, 1) := by decide +kernel
theorem dX5_mayStart_33 : decode cX5_mayStart 33 = .ok (.aload_n 1, 1) := by decide +kernel
theorem dX5_mayStart_34 : decode cX5_mayStart 34 = .ok (.iload_n 2, 1) := by decide +kernel
theorem dX5_mayStart_35 : decode cX5_mayStart 35 = .ok (.aload_n 0, 1) := by decide +kernel
theorem dX5_mayStart_36 : decode cX5_mayStart 36 = .ok (.getfield 9, 3) := by decide +kernel
theorem dX5_mayStart_39 : decode cX5_mayStart 39 = .ok (.getfield 167, 3) := by decide +kernel
theorem dX5_mayStart_42 : decode cX5_mayStart 42 = .ok (.invokevirtual 170, 3) := by decide +kernel
theorem dX5_mayStart_45 : decode cX5_mayStart 45 = .ok (.isub, 1) := by decide +kernel
theorem dX5_mayStart_46 : decode cX5_mayStart 46 = .ok (.bipush 60, 2) := by decide +kernel
theorem dX5_mayStart_48 : decode cX5_mayStart 48 = .ok (.if_icmp .lt 16, 3) := by decide +kernel
theorem dX5_mayStart_51 : decode cX5_mayStart 51 = .ok (.aload_n 0, 1) := by decide +kernel
theorem dX5_mayStart_52 : decode cX5_mayStart 52 = .ok (.aload_n 1, 1) := by decide +kernel
theorem dX5_mayStart_53 : decode cX5_mayStart 53 = .ok (.iload_n 3, 1) := by decide +kernel
theorem dX5_mayStart_54 : decode cX5_mayStart 54 = .ok (.invokevirtual 117, 3) := by decide +kernel
theorem dX5_mayStart_57 : decode cX5_mayStart 57 = .ok (.ifCond .eq 7, 3) := by decide +kernel
theorem dX5_mayStart_60 : decode cX5_mayStart 60 = .ok (.iconst 1, 1) := by decide +kernel
theorem dX5_mayStart_61 : decode cX5_mayStart 61 = .ok (.goto 4, 3) := by decide +kernel
theorem dX5_mayStart_64 : decode cX5_mayStart 64 = .ok (.iconst 0, 1) := by decide +kernel
theorem dX5_mayStart_65 : decode cX5_mayStart 65 = .ok (.ireturn, 1) := by decide +kernel
theorem dX5_nextToStart_0 : decode cX5_nextToStart 0 = .ok (.bipush (-4), 2) := by decide +kernel
theorem dX5_nextToStart_2 : decode cX5_nextToStart 2 = .ok (.istore_n 2, 1) := by decide +kernel
theorem dX5_nextToStart_3 : decode cX5_nextToStart 3 = .ok (.iconst 0, 1) := by decide +kernel
theorem dX5_nextToStart_4 : decode cX5_nextToStart 4 = .ok (.istore_n 3, 1) := by decide +kernel
theorem dX5_nextToStart_5 : decode cX5_nextToStart 5 = .ok (.iload_n 3, 1) := by decide +kernel
theorem dX5_nextToStart_6 : decode cX5_nextToStart 6 = .ok (.aload_n 0, 1) := by decide +kernel
theorem dX5_nextToStart_7 : decode cX5_nextToStart 7 = .ok (.getfield 9, 3) := by decide +kernel
theorem dX5_nextToStart_10 : decode cX5_nextToStart 10 = .ok (.getfield 79, 3) := by decide +kernel
theorem dX5_nextToStart_13 : decode cX5_nextToStart 13 = .ok (.if_icmp .ge 45, 3) := by decide +kernel
theorem dX5_nextToStart_16 : decode cX5_nextToStart 16 = .ok (.aload_n 0, 1) := by decide +kernel
theorem dX5_nextToStart_17 : decode cX5_nextToStart 17 = .ok (.aload_n 1, 1) := by decide +kernel
theorem dX5_nextToStart_18 : decode cX5_nextToStart 18 = .ok (.iload_n 3, 1) := by decide +kernel
theorem dX5_nextToStart_19 : decode cX5_nextToStart 19 = .ok (.aload_n 1, 1) := by decide +kernel
theorem dX5_nextToStart_20 : decode cX5_nextToStart 20 = .ok (.getfield 76, 3) := by decide +kernel
theorem dX5_nextToStart_23 : decode cX5_nextToStart 23 = .ok (.invokevirtual 173, 3) := by decide +kernel
theorem dX5_nextToStart_26 : decode cX5_nextToStart 26 = .ok (.ifCond .eq 26, 3) := by decide +kernel
theorem dX5_nextToStart_29 : decode cX5_nextToStart 29 = .ok (.iload_n 2, 1) := by decide +kernel
theorem dX5_nextToStart_30 : decode cX5_nextToStart 30 = .ok (.bipush (-4), 2) := by decide +kernel
theorem dX5_nextToStart_32 : decode cX5_nextToStart 32 = .ok (.if_icmp .eq 18, 3) := by decide +kernel
theorem dX5_nextToStart_35 : decode cX5_nextToStart 35 = .ok (.aload_n 1, 1) := by decide +kernel
theorem dX5_nextToStart_36 : decode cX5_nextToStart 36 = .ok (.getfield 82, 3) := by decide +kernel
theorem dX5_nextToStart_39 : decode cX5_nextToStart 39 = .ok (.iload_n 3, 1) := by decide +kernel
theorem dX5_nextToStart_40 : decode cX5_nextToStart 40 = .ok (.iaload, 1) := by decide +kernel
theorem dX5_nextToStart_41 : decode cX5_nextToStart 41 = .ok (.aload_n 1, 1) := by decide +kernel
theorem dX5_nextToStart_42 : decode cX5_nextToStart 42 = .ok (.getfield 82, 3) := by decide +kernel
theorem dX5_nextToStart_45 : decode cX5_nextToStart 45 = .ok (.iload_n 2, 1) := by decide +kernel
theorem dX5_nextToStart_46 : decode cX5_nextToStart 46 = .ok (.iaload, 1) := by decide +kernel
theorem dX5_nextToStart_47 : decode cX5_nextToStart 47 = .ok (.if_icmp .ge 5, 3) := by decide +kernel
theorem dX5_nextToStart_50 : decode cX5_nextToStart 50 = .ok (.iload_n 3, 1) := by decide +kernel
theorem dX5_nextToStart_51 : decode cX5_nextToStart 51 = .ok (.istore_n 2, 1) := by decide +kernel
theorem dX5_nextToStart_52 : decode cX5_nextToStart 52 = .ok (.iinc 3 1, 3) := by decide +kernel
theorem dX5_nextToStart_55 : decode cX5_nextToStart 55 = .ok (.goto (-50), 3) := by decide +kernel
theorem dX5_nextToStart_58 : decode cX5_nextToStart 58 = .ok (.iload_n 2, 1) := by decide +kernel
theorem dX5_nextToStart_59 : decode cX5_nextToStart 59 = .ok (.ireturn, 1) := by decide +kernel
theorem dX5_nextToStop_0 : decode cX5_nextToStop 0 = .ok (.bipush (-4), 2) := by decide +kernel
theorem dX5_nextToStop_2 : decode cX5_nextToStop 2 = .ok (.istore_n 2, 1) := by decide +kernel
theorem dX5_nextToStop_3 : decode cX5_nextToStop 3 = .ok (.iconst 0, 1) := by decide +kernel
theorem dX5_nextToStop_4 : decode cX5_nextToStop 4 = .ok (.istore_n 3, 1) := by decide +kernel
theorem dX5_nextToStop_5 : decode cX5_nextToStop 5 = .ok (.iload_n 3, 1) := by decide +kernel
theorem dX5_nextToStop_6 : decode cX5_nextToStop 6 = .ok (.aload_n 0, 1) := by decide +kernel
theorem dX5_nextToStop_7 : decode cX5_nextToStop 7 = .ok (.getfield 9, 3) := by decide +kernel
theorem dX5_nextToStop_10 : decode cX5_nextToStop 10 = .ok (.getfield 79, 3) := by decide +kernel
theorem dX5_nextToStop_13 : decode cX5_nextToStop 13 = .ok (.if_icmp .ge 63, 3) := by decide +kernel
theorem dX5_nextToStop_16 : decode cX5_nextToStop 16 = .ok (.aload_n 1, 1) := by decide +kernel
theorem dX5_nextToStop_17 : decode cX5_nextToStop 17 = .ok (.getfield 24, 3) := by decide +kernel
theorem dX5_nextToStop_20 : decode cX5_nextToStop 20 = .ok (.iload_n 3, 1) := by decide +kernel
theorem dX5_nextToStop_21 : decode cX5_nextToStop 21 = .ok (.invokestatic 88, 3) := by decide +kernel
theorem dX5_nextToStop_24 : decode cX5_nextToStop 24 = .ok (.iconst 1, 1) := by decide +kernel
theorem dX5_nextToStop_25 : decode cX5_nextToStop 25 = .ok (.if_icmp .ne 45, 3) := by decide +kernel
theorem dX5_nextToStop_28 : decode cX5_nextToStop 28 = .ok (.aload_n 1, 1) := by decide +kernel
theorem dX5_nextToStop_29 : decode cX5_nextToStop 29 = .ok (.iload_n 3, 1) := by decide +kernel
theorem dX5_nextToStop_30 : decode cX5_nextToStop 30 = .ok (.aload_n 1, 1) := by decide +kernel
theorem dX5_nextToStop_31 : decode cX5_nextToStop 31 = .ok (.getfield 76, 3) := by decide +kernel
theorem dX5_nextToStop_34 : decode cX5_nextToStop 34 = .ok (.invokevirtual 114, 3) := by decide +kernel
theorem dX5_nextToStop_37 : decode cX5_nextToStop 37 = .ok (.aload_n 0, 1) := by decide +kernel
theorem dX5_nextToStop_38 : decode cX5_nextToStop 38 = .ok (.getfield 9, 3) := by decide +kernel
theorem dX5_nextToStop_41 : decode cX5_nextToStop 41 = .ok (.getfield 177, 3) := by decide +kernel
theorem dX5_nextToStop_44 : decode cX5_nextToStop 44 = .ok (.if_icmp .le 26, 3) := by decide +kernel
theorem dX5_nextToStop_47 : decode cX5_nextToStop 47 = .ok (.iload_n 2, 1) := by decide +kernel
theorem dX5_nextToStop_48 : decode cX5_nextToStop 48 = .ok (.bipush (-4), 2) := by decide +kernel
theorem dX5_nextToStop_50 : decode cX5_nextToStop 50 = .ok (.if_icmp .eq 18, 3) := by decide +kernel
theorem dX5_nextToStop_53 : decode cX5_nextToStop 53 = .ok (.aload_n 1, 1) := by decide +kernel
theorem dX5_nextToStop_54 : decode cX5_nextToStop 54 = .ok (.getfield 82, 3) := by decide +kernel
theorem dX5_nextToStop_57 : decode cX5_nextToStop 57 = .ok (.iload_n 3, 1) := by decide +kernel
theorem dX5_nextToStop_58 : decode cX5_nextToStop 58 = .ok (.iaload, 1) := by decide +kernel
theorem dX5_nextToStop_59 : decode cX5_nextToStop 59 = .ok (.aload_n 1, 1) := by decide +kernel
theorem dX5_nextToStop_60 : decode cX5_nextToStop 60 = .ok (.getfield 82, 3) := by decide +kernel
theorem dX5_nextToStop_63 : decode cX5_nextToStop 63 = .ok (.iload_n 2, 1) := by decide +kernel
theorem dX5_nextToStop_64 : decode cX5_nextToStop 64 = .ok (.iaload, 1) := by decide +kernel
theorem dX5_nextToStop_65 : decode cX5_nextToStop 65 = .ok (.if_icmp .lt 5, 3) := by decide +kernel
theorem dX5_nextToStop_68 : decode cX5_nextToStop 68 = .ok (.iload_n 3, 1) := by decide +kernel
theorem dX5_nextToStop_69 : decode cX5_nextToStop 69 = .ok (.istore_n 2, 1) := by decide +kernel
theorem dX5_nextToStop_70 : decode cX5_nextToStop 70 = .ok (.iinc 3 1, 3) := by decide +kernel
theorem dX5_nextToStop_73 : decode cX5_nextToStop 73 = .ok (.goto (-68), 3) := by decide +kernel
theorem dX5_nextToStop_76 : decode cX5_nextToStop 76 = .ok (.iload_n 2, 1) := by decide +kernel
theorem dX5_nextToStop_77 : decode cX5_nextToStop 77 = .ok (.ireturn, 1) := by decide +kernel
theorem dX5_fall_0 : decode cX5_fall 0 = .ok (.aload_n 1, 1) := by decide +kernel
theorem dX5_fall_1 : decode cX5_fall 1 = .ok (.invokevirtual 85, 3) := by decide +kernel
theorem dX5_fall_4 : decode cX5_fall 4 = .ok (.istore_n 2, 1) := by decide +kernel
theorem dX5_fall_5 : decode cX5_fall 5 = .ok (.iconst 0, 1) := by decide +kernel
theorem dX5_fall_6 : decode cX5_fall 6 = .ok (.istore_n 3, 1) := by decide +kernel
theorem dX5_fall_7 : decode cX5_fall 7 = .ok (.iload_n 3, 1) := by decide +kernel
theorem dX5_fall_8 : decode cX5_fall 8 = .ok (.bipush 6, 2) := by decide +kernel
theorem dX5_fall_10 : decode cX5_fall 10 = .ok (.if_icmp .ge 41, 3) := by decide +kernel
theorem dX5_fall_13 : decode cX5_fall 13 = .ok (.iload_n 2, 1) := by decide +kernel
theorem dX5_fall_14 : decode cX5_fall 14 = .ok (.ifCond .eq 37, 3) := by decide +kernel
theorem dX5_fall_17 : decode cX5_fall 17 = .ok (.aload_n 0, 1) := by decide +kernel
theorem dX5_fall_18 : decode cX5_fall 18 = .ok (.iload_n 2, 1) := by decide +kernel
theorem dX5_fall_19 : decode cX5_fall 19 = .ok (.invokevirtual 180, 3) := by decide +kernel
theorem dX5_fall_22 : decode cX5_fall 22 = .ok (.istore 4, 2) := by decide +kernel
theorem dX5_fall_24 : decode cX5_fall 24 = .ok (.iload_n 2, 1) := by decide +kernel
theorem dX5_fall_25 : decode cX5_fall 25 = .ok (.iconst 1, 1) := by decide +kernel
theorem dX5_fall_26 : decode cX5_fall 26 = .ok (.iload 4, 2) := by decide +kernel
theorem dX5_fall_28 : decode cX5_fall 28 = .ok (.ishl, 1) := by decide +kernel
theorem dX5_fall_29 : decode cX5_fall 29 = .ok (.iconst (-1), 1) := by decide +kernel
theorem dX5_fall_30 : decode cX5_fall 30 = .ok (.ixor, 1) := by decide +kernel
theorem dX5_fall_31 : decode cX5_fall 31 = .ok (.iand, 1) := by decide +kernel
theorem dX5_fall_32 : decode cX5_fall 32 = .ok (.istore_n 2, 1) := by decide +kernel
theorem dX5_fall_33 : decode cX5_fall 33 = .ok (.aload_n 1, 1) := by decide +kernel
theorem dX5_fall_34 : decode cX5_fall 34 = .ok (.iload 4, 2) := by decide +kernel
theorem dX5_fall_36 : decode cX5_fall 36 = .ok (.invokevirtual 149, 3) := by decide +kernel
theorem dX5_fall_39 : decode cX5_fall 39 = .ok (.aload_n 1, 1) := by decide +kernel
theorem dX5_fall_40 : decode cX5_fall 40 = .ok (.iload 4, 2) := by decide +kernel
theorem dX5_fall_42 : decode cX5_fall 42 = .ok (.invokevirtual 183, 3) := by decide +kernel
theorem dX5_fall_45 : decode cX5_fall 45 = .ok (.iinc 3 1, 3) := by decide +kernel
theorem dX5_fall_48 : decode cX5_fall 48 = .ok (.goto (-41), 3) := by decide +kernel
theorem dX5_fall_51 : decode cX5_fall 51 = .ok (.aload_n 1, 1) := by decide +kernel
theorem dX5_fall_52 : decode cX5_fall 52 = .ok (.iconst 0, 1) := by decide +kernel
theorem dX5_fall_53 : decode cX5_fall 53 = .ok (.putfield 131, 3) := by decide +kernel
theorem dX5_fall_56 : decode cX5_fall 56 = .ok (.aload_n 1, 1) := by decide +kernel
theorem dX5_fall_57 : decode cX5_fall 57 = .ok (.iconst 0, 1) := by decide +kernel
theorem dX5_fall_58 : decode cX5_fall 58 = .ok (.putfield 134, 3) := by decide +kernel
theorem dX5_fall_61 : decode cX5_fall 61 = .ok (.return_, 1) := by decide +kernel
theorem dX5_greatestOf_0 : decode cX5_greatestOf 0 = .ok (.iconst 0, 1) := by decide +kernel
theorem dX5_greatestOf_1 : decode cX5_greatestOf 1 = .ok (.istore_n 2, 1) := by decide +kernel
theorem dX5_greatestOf_2 : decode cX5_greatestOf 2 = .ok (.iconst 0, 1) := by decide +kernel
theorem dX5_greatestOf_3 : decode cX5_greatestOf 3 = .ok (.istore_n 3, 1) := by decide +kernel
theorem dX5_greatestOf_4 : decode cX5_greatestOf 4 = .ok (.iconst 0, 1) := by decide +kernel
theorem dX5_greatestOf_5 : decode cX5_greatestOf 5 = .ok (.istore 4, 2) := by decide +kernel
theorem dX5_greatestOf_7 : decode cX5_greatestOf 7 = .ok (.iload 4, 2) := by decide +kernel
theorem dX5_greatestOf_9 : decode cX5_greatestOf 9 = .ok (.aload_n 0, 1) := by decide +kernel
theorem dX5_greatestOf_10 : decode cX5_greatestOf 10 = .ok (.getfield 9, 3) := by decide +kernel
theorem dX5_greatestOf_13 : decode cX5_greatestOf 13 = .ok (.getfield 79, 3) := by decide +kernel
theorem dX5_greatestOf_16 : decode cX5_greatestOf 16 = .ok (.if_icmp .ge 47, 3) := by decide +kernel
theorem dX5_greatestOf_19 : decode cX5_greatestOf 19 = .ok (.iload_n 1, 1) := by decide +kernel
theorem dX5_greatestOf_20 : decode cX5_greatestOf 20 = .ok (.iload 4, 2) := by decide +kernel
theorem dX5_greatestOf_22 : decode cX5_greatestOf 22 = .ok (.invokestatic 88, 3) := by decide +kernel
theorem dX5_greatestOf_25 : decode cX5_greatestOf 25 = .ok (.iconst 1, 1) := by decide +kernel
theorem dX5_greatestOf_26 : decode cX5_greatestOf 26 = .ok (.if_icmp .ne 31, 3) := by decide +kernel
theorem dX5_greatestOf_29 : decode cX5_greatestOf 29 = .ok (.aload_n 0, 1) := by decide +kernel
theorem dX5_greatestOf_30 : decode cX5_greatestOf 30 = .ok (.getfield 9, 3) := by decide +kernel
theorem dX5_greatestOf_33 : decode cX5_greatestOf 33 = .ok (.getfield 186, 3) := by decide +kernel
theorem dX5_greatestOf_36 : decode cX5_greatestOf 36 = .ok (.iload 4, 2) := by decide +kernel
theorem dX5_greatestOf_38 : decode cX5_greatestOf 38 = .ok (.iaload, 1) := by decide +kernel
theorem dX5_greatestOf_39 : decode cX5_greatestOf 39 = .ok (.iload_n 3, 1) := by decide +kernel
theorem dX5_greatestOf_40 : decode cX5_greatestOf 40 = .ok (.if_icmp .le 17, 3) := by decide +kernel
theorem dX5_greatestOf_43 : decode cX5_greatestOf 43 = .ok (.iload 4, 2) := by decide +kernel
theorem dX5_greatestOf_45 : decode cX5_greatestOf 45 = .ok (.istore_n 2, 1) := by decide +kernel
theorem dX5_greatestOf_46 : decode cX5_greatestOf 46 = .ok (.aload_n 0, 1) := by decide +kernel
theorem dX5_greatestOf_47 : decode cX5_greatestOf 47 = .ok (.getfield 9, 3) := by decide +kernel
theorem dX5_greatestOf_50 : decode cX5_greatestOf 50 = .ok (.getfield 186, 3) := by decide +kernel
theorem dX5_greatestOf_53 : decode cX5_greatestOf 53 = .ok (.iload 4, 2) := by decide +kernel
theorem dX5_greatestOf_55 : decode cX5_greatestOf 55 = .ok (.iaload, 1) := by decide +kernel
theorem dX5_greatestOf_56 : decode cX5_greatestOf 56 = .ok (.istore_n 3, 1) := by decide +kernel
theorem dX5_greatestOf_57 : decode cX5_greatestOf 57 = .ok (.iinc 4 1, 3) := by decide +kernel
theorem dX5_greatestOf_60 : decode cX5_greatestOf 60 = .ok (.goto (-53), 3) := by decide +kernel
theorem dX5_greatestOf_63 : decode cX5_greatestOf 63 = .ok (.iload_n 2, 1) := by decide +kernel
theorem dX5_greatestOf_64 : decode cX5_greatestOf 64 = .ok (.ireturn, 1) := by decide +kernel
theorem dX6_init_0 : decode cX6_init 0 = .ok (.aload_n 0, 1) := by decide +kernel
theorem dX6_init_1 : decode cX6_init 1 = .ok (.invokespecial 3, 3) := by decide +kernel
theorem dX6_init_4 : decode cX6_init 4 = .ok (.aload_n 0, 1) := by decide +kernel
theorem dX6_init_5 : decode cX6_init 5 = .ok (.iconst 4, 1) := by decide +kernel
theorem dX6_init_6 : decode cX6_init 6 = .ok (.newarray .int, 2) := by decide +kernel
theorem dX6_init_8 : decode cX6_init 8 = .ok (.putfield 9, 3) := by decide +kernel
theorem dX6_init_11 : decode cX6_init 11 = .ok (.aload_n 0, 1) := by decide +kernel
theorem dX6_init_12 : decode cX6_init 12 = .ok (.bipush 6, 2) := by decide +kernel
theorem dX6_init_14 : decode cX6_init 14 = .ok (.newarray .int, 2) := by decide +kernel
theorem dX6_init_16 : decode cX6_init 16 = .ok (.putfield 15, 3) := by decide +kernel
theorem dX6_init_19 : decode cX6_init 19 = .ok (.aload_n 0, 1) := by decide +kernel
theorem dX6_init_20 : decode cX6_init 20 = .ok (.bipush 6, 2) := by decide +kernel
theorem dX6_init_22 : decode cX6_init 22 = .ok (.newarray .int, 2) := by decide +kernel
theorem dX6_init_24 : decode cX6_init 24 = .ok (.putfield 18, 3) := by decide +kernel
theorem dX6_init_27 : decode cX6_init 27 = .ok (.aload_n 0, 1) := by decide +kernel
theorem dX6_init_28 : decode cX6_init 28 = .ok (.bipush 6, 2) := by decide +kernel
theorem dX6_init_30 : decode cX6_init 30 = .ok (.newarray .int, 2) := by decide +kernel
theorem dX6_init_32 : decode cX6_init 32 = .ok (.putfield 21, 3) := by decide +kernel
theorem dX6_init_35 : decode cX6_init 35 = .ok (.aload_n 0, 1) := by decide +kernel
theorem dX6_init_36 : decode cX6_init 36 = .ok (.bipush 54, 2) := by decide +kernel
theorem dX6_init_38 : decode cX6_init 38 = .ok (.newarray .int, 2) := by decide +kernel
theorem dX6_init_40 : decode cX6_init 40 = .ok (.putfield 24, 3) := by decide +kernel
theorem dX6_init_43 : decode cX6_init 43 = .ok (.aload_n 0, 1) := by decide +kernel
theorem dX6_init_44 : decode cX6_init 44 = .ok (.bipush 6, 2) := by decide +kernel
theorem dX6_init_46 : decode cX6_init 46 = .ok (.newarray .int, 2) := by decide +kernel
theorem dX6_init_48 : decode cX6_init 48 = .ok (.putfield 27, 3) := by decide +kernel
theorem dX6_init_51 : decode cX6_init 51 = .ok (.aload_n 0, 1) := by decide +kernel
theorem dX6_init_52 : decode cX6_init 52 = .ok (.invokevirtual 30, 3) := by decide +kernel
theorem dX6_init_55 : decode cX6_init 55 = .ok (.return_, 1) := by decide +kernel
theorem dX6_reset_0 : decode cX6_reset 0 = .ok (.getstatic 33, 3) := by decide +kernel
theorem dX6_reset_3 : decode cX6_reset 3 = .ok (.iconst 0, 1) := by decide +kernel
theorem dX6_reset_4 : decode cX6_reset 4 = .ok (.aload_n 0, 1) := by decide +kernel
theorem dX6_reset_5 : decode cX6_reset 5 = .ok (.getfield 9, 3) := by decide +kernel
theorem dX6_reset_8 : decode cX6_reset 8 = .ok (.iconst 0, 1) := by decide +kernel
theorem dX6_reset_9 : decode cX6_reset 9 = .ok (.iconst 4, 1) := by decide +kernel
theorem dX6_reset_10 : decode cX6_reset 10 = .ok (.invokestatic 36, 3) := by decide +kernel
theorem dX6_reset_13 : decode cX6_reset 13 = .ok (.aload_n 0, 1) := by decide +kernel
theorem dX6_reset_14 : decode cX6_reset 14 = .ok (.iconst 0, 1) := by decide +kernel
theorem dX6_reset_15 : decode cX6_reset 15 = .ok (.putfield 42, 3) := by decide +kernel
theorem dX6_reset_18 : decode cX6_reset 18 = .ok (.aload_n 0, 1) := by decide +kernel
theorem dX6_reset_19 : decode cX6_reset 19 = .ok (.iconst 0, 1) := by decide +kernel
theorem dX6_reset_20 : decode cX6_reset 20 = .ok (.putfield 46, 3) := by decide +kernel
theorem dX6_reset_23 : decode cX6_reset 23 = .ok (.aload_n 0, 1) := by decide +kernel
theorem dX6_reset_24 : decode cX6_reset 24 = .ok (.iconst 0, 1) := by decide +kernel
theorem dX6_reset_25 : decode cX6_reset 25 = .ok (.putfield 49, 3) := by decide +kernel
theorem dX6_reset_28 : decode cX6_reset 28 = .ok (.aload_n 0, 1) := by decide +kernel
theorem dX6_reset_29 : decode cX6_reset 29 = .ok (.iconst 0, 1) := by decide +kernel
theorem dX6_reset_30 : decode cX6_reset 30 = .ok (.putfield 52, 3) := by decide +kernel
theorem dX6_reset_33 : decode cX6_reset 33 = .ok (.aload_n 0, 1) := by decide +kernel
theorem dX6_reset_34 : decode cX6_reset 34 = .ok (.iconst 0, 1) := by decide +kernel
theorem dX6_reset_35 : decode cX6_reset 35 = .ok (.putfield 55, 3) := by decide +kernel
theorem dX6_reset_38 : decode cX6_reset 38 = .ok (.aload_n 0, 1) := by decide +kernel
theorem dX6_reset_39 : decode cX6_reset 39 = .ok (.iconst 0, 1) := by decide +kernel
theorem dX6_reset_40 : decode cX6_reset 40 = .ok (.putfield 58, 3) := by decide +kernel
theorem dX6_reset_43 : decode cX6_reset 43 = .ok (.aload_n 0, 1) := by decide +kernel
theorem dX6_reset_44 : decode cX6_reset 44 = .ok (.iconst 0, 1) := by decide +kernel
theorem dX6_reset_45 : decode cX6_reset 45 = .ok (.putfield 61, 3) := by decide +kernel
theorem dX6_reset_48 : decode cX6_reset 48 = .ok (.aload_n 0, 1) := by decide +kernel
theorem dX6_reset_49 : decode cX6_reset 49 = .ok (.ldc 64, 2) := by decide +kernel
theorem dX6_reset_51 : decode cX6_reset 51 = .ok (.putfield 65, 3) := by decide +kernel
theorem dX6_reset_54 : decode cX6_reset 54 = .ok (.aload_n 0, 1) := by decide +kernel
theorem dX6_reset_55 : decode cX6_reset 55 = .ok (.iconst 0, 1) := by decide +kernel
theorem dX6_reset_56 : decode cX6_reset 56 = .ok (.putfield 68, 3) := by decide +kernel
theorem dX6_reset_59 : decode cX6_reset 59 = .ok (.aload_n 0, 1) := by decide +kernel
theorem dX6_reset_60 : decode cX6_reset 60 = .ok (.getfield 18, 3) := by decide +kernel
theorem dX6_reset_63 : decode cX6_reset 63 = .ok (.iconst 0, 1) := by decide +kernel
theorem dX6_reset_64 : decode cX6_reset 64 = .ok (.invokestatic 71, 3) := by decide +kernel
theorem dX6_reset_67 : decode cX6_reset 67 = .ok (.aload_n 0, 1) := by decide +kernel
theorem dX6_reset_68 : decode cX6_reset 68 = .ok (.getfield 21, 3) := by decide +kernel
theorem dX6_reset_71 : decode cX6_reset 71 = .ok (.iconst 0, 1) := by decide +kernel
theorem dX6_reset_72 : decode cX6_reset 72 = .ok (.invokestatic 71, 3) := by decide +kernel
theorem dX6_reset_75 : decode cX6_reset 75 = .ok (.aload_n 0, 1) := by decide +kernel
theorem dX6_reset_76 : decode cX6_reset 76 = .ok (.getfield 27, 3) := by decide +kernel
theorem dX6_reset_79 : decode cX6_reset 79 = .ok (.ldc 64, 2) := by decide +kernel
theorem dX6_reset_81 : decode cX6_reset 81 = .ok (.invokestatic 71, 3) := by decide +kernel
theorem dX6_reset_84 : decode cX6_reset 84 = .ok (.return_, 1) := by decide +kernel
theorem dX6_copyFrom_0 : decode cX6_copyFrom 0 = .ok (.aload_n 1, 1) := by decide +kernel
theorem dX6_copyFrom_1 : decode cX6_copyFrom 1 = .ok (.getfield 9, 3) := by decide +kernel
theorem dX6_copyFrom_4 : decode cX6_copyFrom 4 = .ok (.iconst 0, 1) := by decide +kernel
theorem dX6_copyFrom_5 : decode cX6_copyFrom 5 = .ok (.aload_n 0, 1) := by decide +kernel
theorem dX6_copyFrom_6 : decode cX6_copyFrom 6 = .ok (.getfield 9, 3) := by decide +kernel
theorem dX6_copyFrom_9 : decode cX6_copyFrom 9 = .ok (.iconst 0, 1) := by decide +kernel
theorem dX6_copyFrom_10 : decode cX6_copyFrom 10 = .ok (.iconst 4, 1) := by decide +kernel
theorem dX6_copyFrom_11 : decode cX6_copyFrom 11 = .ok (.invokestatic 36, 3) := by decide +kernel
theorem dX6_copyFrom_14 : decode cX6_copyFrom 14 = .ok (.aload_n 0, 1) := by decide +kernel
theorem dX6_copyFrom_15 : decode cX6_copyFrom 15 = .ok (.aload_n 1, 1) := by decide +kernel
theorem dX6_copyFrom_16 : decode cX6_copyFrom 16 = .ok (.getfield 42, 3) := by decide +kernel
theorem dX6_copyFrom_19 : decode cX6_copyFrom 19 = .ok (.putfield 42, 3) := by decide +kernel
theorem dX6_copyFrom_22 : decode cX6_copyFrom 22 = .ok (.aload_n 0, 1) := by decide +kernel
theorem dX6_copyFrom_23 : decode cX6_copyFrom 23 = .ok (.aload_n 1, 1) := by decide +kernel
theorem dX6_copyFrom_24 : decode cX6_copyFrom 24 = .ok (.getfield 46, 3) := by decide +kernel
theorem dX6_copyFrom_27 : decode cX6_copyFrom 27 = .ok (.putfield 46, 3) := by decide +kernel
theorem dX6_copyFrom_30 : decode cX6_copyFrom 30 = .ok (.aload_n 0, 1) := by decide +kernel
theorem dX6_copyFrom_31 : decode cX6_copyFrom 31 = .ok (.aload_n 1, 1) := by decide +kernel
theorem dX6_copyFrom_32 : decode cX6_copyFrom 32 = .ok (.getfield 49, 3) := by decide +kernel
theorem dX6_copyFrom_35 : decode cX6_copyFrom 35 = .ok (.putfield 49, 3) := by decide +kernel
theorem dX6_copyFrom_38 : decode cX6_copyFrom 38 = .ok (.aload_n 0, 1) := by decide +kernel
theorem dX6_copyFrom_39 : decode cX6_copyFrom 39 = .ok (.aload_n 1, 1) := by decide +kernel
theorem dX6_copyFrom_40 : decode cX6_copyFrom 40 = .ok (.getfield 52, 3) := by decide +kernel
theorem dX6_copyFrom_43 : decode cX6_copyFrom 43 = .ok (.putfield 52, 3) := by decide +kernel
theorem dX6_copyFrom_46 : decode cX6_copyFrom 46 = .ok (.aload_n 0, 1) := by decide +kernel
theorem dX6_copyFrom_47 : decode cX6_copyFrom 47 = .ok (.aload_n 1, 1) := by decide +kernel
theorem dX6_copyFrom_48 : decode cX6_copyFrom 48 = .ok (.getfield 55, 3) := by decide +kernel
theorem dX6_copyFrom_51 : decode cX6_copyFrom 51 = .ok (.putfield 55, 3) := by decide +kernel
theorem dX6_copyFrom_54 : decode cX6_copyFrom 54 = .ok (.aload_n 0, 1) := by decide +kernel
theorem dX6_copyFrom_55 : decode cX6_copyFrom 55 = .ok (.aload_n 1, 1) := by decide +kernel
theorem dX6_copyFrom_56 : decode cX6_copyFrom 56 = .ok (.getfield 58, 3) := by decide +kernel
theorem dX6_copyFrom_59 : decode cX6_copyFrom 59 = .ok (.putfield 58, 3) := by decide +kernel
theorem dX6_copyFrom_62 : decode cX6_copyFrom 62 = .ok (.aload_n 0, 1) := by decide +kernel
theorem dX6_copyFrom_63 : decode cX6_copyFrom 63 = .ok (.aload_n 1, 1) := by decide +kernel
theorem dX6_copyFrom_64 : decode cX6_copyFrom 64 = .ok (.getfield 61, 3) := by decide +kernel
theorem dX6_copyFrom_67 : decode cX6_copyFrom 67 = .ok (.putfield 61, 3) := by decide +kernel
theorem dX6_copyFrom_70 : decode cX6_copyFrom 70 = .ok (.aload_n 0, 1) := by decide +kernel
theorem dX6_copyFrom_71 : decode cX6_copyFrom 71 = .ok (.aload_n 1, 1) := by decide +kernel
theorem dX6_copyFrom_72 : decode cX6_copyFrom 72 = .ok (.getfield 65, 3) := by decide +kernel
theorem dX6_copyFrom_75 : decode cX6_copyFrom 75 = .ok (.putfield 65, 3) := by decide +kernel
theorem dX6_copyFrom_78 : decode cX6_copyFrom 78 = .ok (.aload_n 0, 1) := by decide +kernel
theorem dX6_copyFrom_79 : decode cX6_copyFrom 79 = .ok (.aload_n 1, 1) := by decide +kernel
theorem dX6_copyFrom_80 : decode cX6_copyFrom 80 = .ok (.getfield 68, 3) := by decide +kernel
theorem dX6_copyFrom_83 : decode cX6_copyFrom 83 = .ok (.putfield 68, 3) := by decide +kernel
theorem dX6_copyFrom_86 : decode cX6_copyFrom 86 = .ok (.aload_n 1, 1) := by decide +kernel
theorem dX6_copyFrom_87 : decode cX6_copyFrom 87 = .ok (.getfield 15, 3) := by decide +kernel
theorem dX6_copyFrom_90 : decode cX6_copyFrom 90 = .ok (.iconst 0, 1) := by decide +kernel
theorem dX6_copyFrom_91 : decode cX6_copyFrom 91 = .ok (.aload_n 0, 1) := by decide +kernel
theorem dX6_copyFrom_92 : decode cX6_copyFrom 92 = .ok (.getfield 15, 3) := by decide +kernel
theorem dX6_copyFrom_95 : decode cX6_copyFrom 95 = .ok (.iconst 0, 1) := by decide +kernel
theorem dX6_copyFrom_96 : decode cX6_copyFrom 96 = .ok (.bipush 6, 2) := by decide +kernel
theorem dX6_copyFrom_98 : decode cX6_copyFrom 98 = .ok (.invokestatic 36, 3) := by decide +kernel
theorem dX6_copyFrom_101 : decode cX6_copyFrom 101 = .ok (.aload_n 1, 1) := by decide +kernel
theorem dX6_copyFrom_102 : decode cX6_copyFrom 102 = .ok (.getfield 18, 3) := by decide +kernel
theorem dX6_copyFrom_105 : decode cX6_copyFrom 105 = .ok (.iconst 0, 1) := by decide +kernel
theorem dX6_copyFrom_106 : decode cX6_copyFrom 106 = .ok (.aload_n 0, 1) := by decide +kernel
theorem dX6_copyFrom_107 : decode cX6_copyFrom 107 = .ok (.getfield 18, 3) := by decide +kernel
theorem dX6_copyFrom_110 : decode cX6_copyFrom 110 = .ok (.iconst 0, 1) := by decide +kernel
theorem dX6_copyFrom_111 : decode cX6_copyFrom 111 = .ok (.bipush 6, 2) := by decide +kernel
theorem dX6_copyFrom_113 : decode cX6_copyFrom 113 = .ok (.invokestatic 36, 3) := by decide +kernel
theorem dX6_copyFrom_116 : decode cX6_copyFrom 116 = .ok (.aload_n 1, 1) := by decide +kernel
theorem dX6_copyFrom_117 : decode cX6_copyFrom 117 = .ok (.getfield 21, 3) := by decide +kernel
theorem dX6_copyFrom_120 : decode cX6_copyFrom 120 = .ok (.iconst 0, 1) := by decide +kernel
theorem dX6_copyFrom_121 : decode cX6_copyFrom 121 = .ok (.aload_n 0, 1) := by decide +kernel
theorem dX6_copyFrom_122 : decode cX6_copyFrom 122 = .ok (.getfield 21, 3) := by decide +kernel
theorem dX6_copyFrom_125 : decode cX6_copyFrom 125 = .ok (.iconst 0, 1) := by decide +kernel
theorem dX6_copyFrom_126 : decode cX6_copyFrom 126 = .ok (.bipush 6, 2) := by decide +kernel
theorem dX6_copyFrom_128 : decode cX6_copyFrom 128 = .ok (.invokestatic 36, 3) := by decide +kernel
theorem dX6_copyFrom_131 : decode cX6_copyFrom 131 = .ok (.aload_n 1, 1) := by decide +kernel
theorem dX6_copyFrom_132 : decode cX6_copyFrom 132 = .ok (.getfield 24, 3) := by decide +kernel
theorem dX6_copyFrom_135 : decode cX6_copyFrom 135 = .ok (.iconst 0, 1) := by decide +kernel
theorem dX6_copyFrom_136 : decode cX6_copyFrom 136 = .ok (.aload_n 0, 1) := by decide +kernel
theorem dX6_copyFrom_137 : decode cX6_copyFrom 137 = .ok (.getfield 24, 3) := by decide +kernel
theorem dX6_copyFrom_140 : decode cX6_copyFrom 140 = .ok (.iconst 0, 1) := by decide +kernel
theorem dX6_copyFrom_141 : decode cX6_copyFrom 141 = .ok (.bipush 54, 2) := by decide +kernel
theorem dX6_copyFrom_143 : decode cX6_copyFrom 143 = .ok (.invokestatic 36, 3) := by decide +kernel
theorem dX6_copyFrom_146 : decode cX6_copyFrom 146 = .ok (.aload_n 1, 1) := by decide +kernel
theorem dX6_copyFrom_147 : decode cX6_copyFrom 147 = .ok (.getfield 27, 3) := by decide +kernel
theorem dX6_copyFrom_150 : decode cX6_copyFrom 150 = .ok (.iconst 0, 1) := by decide +kernel
theorem dX6_copyFrom_151 : decode cX6_copyFrom 151 = .ok (.aload_n 0, 1) := by decide +kernel
theorem dX6_copyFrom_152 : decode cX6_copyFrom 152 = .ok (.getfield 27, 3) := by decide +kernel
theorem dX6_copyFrom_155 : decode cX6_copyFrom 155 = .ok (.iconst 0, 1) := by decide +kernel
theorem dX6_copyFrom_156 : decode cX6_copyFrom 156 = .ok (.bipush 6, 2) := by decide +kernel
theorem dX6_copyFrom_158 : decode cX6_copyFrom 158 = .ok (.invokestatic 36, 3) := by decide +kernel
theorem dX6_copyFrom_161 : decode cX6_copyFrom 161 = .ok (.return_, 1) := by decide +kernel
theorem dX6_running_0 : decode cX6_running 0 = .ok (.aload_n 0, 1) := by decide +kernel
theorem dX6_running_1 : decode cX6_running 1 = .ok (.getfield 58, 3) := by decide +kernel
theorem dX6_running_4 : decode cX6_running 4 = .ok (.aload_n 0, 1) := by decide +kernel
theorem dX6_running_5 : decode cX6_running 5 = .ok (.getfield 61, 3) := by decide +kernel
theorem dX6_running_8 : decode cX6_running 8 = .ok (.ior, 1) := by decide +kernel
theorem dX6_running_9 : decode cX6_running 9 = .ok (.ireturn, 1) := by decide +kernel
theorem dX6_lift_0 : decode cX6_lift 0 = .ok (.iconst 0, 1) := by decide +kernel
theorem dX6_lift_1 : decode cX6_lift 1 = .ok (.aload_n 0, 1) := by decide +kernel
theorem dX6_lift_2 : decode cX6_lift 2 = .ok (.getfield 9, 3) := by decide +kernel
theorem dX6_lift_5 : decode cX6_lift 5 = .ok (.iconst 2, 1) := by decide +kernel
theorem dX6_lift_6 : decode cX6_lift 6 = .ok (.iaload, 1) := by decide +kernel
theorem dX6_lift_7 : decode cX6_lift 7 = .ok (.aload_n 0, 1) := by decide +kernel
theorem dX6_lift_8 : decode cX6_lift 8 = .ok (.getfield 9, 3) := by decide +kernel
theorem dX6_lift_11 : decode cX6_lift 11 = .ok (.iconst 3, 1) := by decide +kernel
theorem dX6_lift_12 : decode cX6_lift 12 = .ok (.iaload, 1) := by decide +kernel
theorem dX6_lift_13 : decode cX6_lift 13 = .ok (.isub, 1) := by decide +kernel
theorem dX6_lift_14 : decode cX6_lift 14 = .ok (.invokestatic 77, 3) := by decide +kernel
theorem dX6_lift_17 : decode cX6_lift 17 = .ok (.ireturn, 1) := by decide +kernel
theorem dX6_startedSoFar_0 : decode cX6_startedSoFar 0 = .ok (.iconst 0, 1) := by decide +kernel
theorem dX6_startedSoFar_1 : decode cX6_startedSoFar 1 = .ok (.istore_n 1, 1) := by decide +kernel
theorem dX6_startedSoFar_2 : decode cX6_startedSoFar 2 = .ok (.iconst 0, 1) := by decide +kernel
theorem dX6_startedSoFar_3 : decode cX6_startedSoFar 3 = .ok (.istore_n 2, 1) := by decide +kernel
theorem dX6_startedSoFar_4 : decode cX6_startedSoFar 4 = .ok (.iload_n 2, 1) := by decide +kernel
theorem dX6_startedSoFar_5 : decode cX6_startedSoFar 5 = .ok (.bipush 6, 2) := by decide +kernel
theorem dX6_startedSoFar_7 : decode cX6_startedSoFar 7 = .ok (.if_icmp .ge 18, 3) := by decide +kernel
theorem dX6_startedSoFar_10 : decode cX6_startedSoFar 10 = .ok (.iload_n 1, 1) := by decide +kernel
theorem dX6_startedSoFar_11 : decode cX6_startedSoFar 11 = .ok (.aload_n 0, 1) := by decide +kernel
theorem dX6_startedSoFar_12 : decode cX6_startedSoFar 12 = .ok (.getfield 21, 3) := by decide +kernel
theorem dX6_startedSoFar_15 : decode cX6_startedSoFar 15 = .ok (.iload_n 2, 1) := by decide +kernel
theorem dX6_startedSoFar_16 : decode cX6_startedSoFar 16 = .ok (.iaload, 1) := by decide +kernel
theorem dX6_startedSoFar_17 : decode cX6_startedSoFar 17 = .ok (.iadd, 1) := by decide +kernel
theorem dX6_startedSoFar_18 : decode cX6_startedSoFar 18 = .ok (.istore_n 1, 1) := by decide +kernel
theorem dX6_startedSoFar_19 : decode cX6_startedSoFar 19 = .ok (.iinc 2 1, 3) := by decide +kernel
theorem dX6_startedSoFar_22 : decode cX6_startedSoFar 22 = .ok (.goto (-18), 3) := by decide +kernel
theorem dX6_startedSoFar_25 : decode cX6_startedSoFar 25 = .ok (.iload_n 1, 1) := by decide +kernel
theorem dX6_startedSoFar_26 : decode cX6_startedSoFar 26 = .ok (.ireturn, 1) := by decide +kernel
theorem dX6_start_0 : decode cX6_start 0 = .ok (.aload_n 0, 1) := by decide +kernel
theorem dX6_start_1 : decode cX6_start 1 = .ok (.dup, 1) := by decide +kernel
theorem dX6_start_2 : decode cX6_start 2 = .ok (.getfield 58, 3) := by decide +kernel
theorem dX6_start_5 : decode cX6_start 5 = .ok (.iconst 1, 1) := by decide +kernel
theorem dX6_start_6 : decode cX6_start 6 = .ok (.iload_n 1, 1) := by decide +kernel
theorem dX6_start_7 : decode cX6_start 7 = .ok (.ishl, 1) := by decide +kernel
theorem dX6_start_8 : decode cX6_start 8 = .ok (.ior, 1) := by decide +kernel
theorem dX6_start_9 : decode cX6_start 9 = .ok (.putfield 58, 3) := by decide +kernel
theorem dX6_start_12 : decode cX6_start 12 = .ok (.aload_n 0, 1) := by decide +kernel
theorem dX6_start_13 : decode cX6_start 13 = .ok (.getfield 24, 3) := by decide +kernel
theorem dX6_start_16 : decode cX6_start 16 = .ok (.iload_n 1, 1) := by decide +kernel
theorem dX6_start_17 : decode cX6_start 17 = .ok (.aload_n 0, 1) := by decide +kernel
theorem dX6_start_18 : decode cX6_start 18 = .ok (.getfield 21, 3) := by decide +kernel
theorem dX6_start_21 : decode cX6_start 21 = .ok (.iload_n 1, 1) := by decide +kernel
theorem dX6_start_22 : decode cX6_start 22 = .ok (.iaload, 1) := by decide +kernel
theorem dX6_start_23 : decode cX6_start 23 = .ok (.invokestatic 83, 3) := by decide +kernel
theorem dX6_start_26 : decode cX6_start 26 = .ok (.aload_n 0, 1) := by decide +kernel
theorem dX6_start_27 : decode cX6_start 27 = .ok (.getfield 42, 3) := by decide +kernel
theorem dX6_start_30 : decode cX6_start 30 = .ok (.iastore, 1) := by decide +kernel
theorem dX6_start_31 : decode cX6_start 31 = .ok (.aload_n 0, 1) := by decide +kernel
theorem dX6_start_32 : decode cX6_start 32 = .ok (.getfield 21, 3) := by decide +kernel
theorem dX6_start_35 : decode cX6_start 35 = .ok (.iload_n 1, 1) := by decide +kernel
theorem dX6_start_36 : decode cX6_start 36 = .ok (.dup2, 1) := by decide +kernel
theorem dX6_start_37 : decode cX6_start 37 = .ok (.iaload, 1) := by decide +kernel
theorem dX6_start_38 : decode cX6_start 38 = .ok (.iconst 1, 1) := by decide +kernel
theorem dX6_start_39 : decode cX6_start 39 = .ok (.iadd, 1) := by decide +kernel
theorem dX6_start_40 : decode cX6_start 40 = .ok (.iastore, 1) := by decide +kernel
theorem dX6_start_41 : decode cX6_start 41 = .ok (.aload_n 0, 1) := by decide +kernel
theorem dX6_start_42 : decode cX6_start 42 = .ok (.aload_n 0, 1) := by decide +kernel
theorem dX6_start_43 : decode cX6_start 43 = .ok (.getfield 42, 3) := by decide +kernel
theorem dX6_start_46 : decode cX6_start 46 = .ok (.putfield 65, 3) := by decide +kernel
theorem dX6_start_49 : decode cX6_start 49 = .ok (.return_, 1) := by decide +kernel
theorem dX6_stop_0 : decode cX6_stop 0 = .ok (.aload_n 0, 1) := by decide +kernel
theorem dX6_stop_1 : decode cX6_stop 1 = .ok (.invokevirtual 86, 3) := by decide +kernel
theorem dX6_stop_4 : decode cX6_stop 4 = .ok (.iload_n 1, 1) := by decide +kernel
theorem dX6_stop_5 : decode cX6_stop 5 = .ok (.invokestatic 90, 3) := by decide +kernel
theorem dX6_stop_8 : decode cX6_stop 8 = .ok (.iconst 1, 1) := by decide +kernel
theorem dX6_stop_9 : decode cX6_stop 9 = .ok (.if_icmp .ne 41, 3) := by decide +kernel
theorem dX6_stop_12 : decode cX6_stop 12 = .ok (.aload_n 0, 1) := by decide +kernel
theorem dX6_stop_13 : decode cX6_stop 13 = .ok (.dup, 1) := by decide +kernel
theorem dX6_stop_14 : decode cX6_stop 14 = .ok (.getfield 58, 3) := by decide +kernel
theorem dX6_stop_17 : decode cX6_stop 17 = .ok (.iconst 1, 1) := by decide +kernel
theorem dX6_stop_18 : decode cX6_stop 18 = .ok (.iload_n 1, 1) := by decide +kernel
theorem dX6_stop_19 : decode cX6_stop 19 = .ok (.ishl, 1) := by decide +kernel
theorem dX6_stop_20 : decode cX6_stop 20 = .ok (.iconst (-1), 1) := by decide +kernel
theorem dX6_stop_21 : decode cX6_stop 21 = .ok (.ixor, 1) := by decide +kernel
theorem dX6_stop_22 : decode cX6_stop 22 = .ok (.iand, 1) := by decide +kernel
theorem dX6_stop_23 : decode cX6_stop 23 = .ok (.putfield 58, 3) := by decide +kernel
theorem dX6_stop_26 : decode cX6_stop 26 = .ok (.aload_n 0, 1) := by decide +kernel
theorem dX6_stop_27 : decode cX6_stop 27 = .ok (.dup, 1) := by decide +kernel
theorem dX6_stop_28 : decode cX6_stop 28 = .ok (.getfield 61, 3) := by decide +kernel
theorem dX6_stop_31 : decode cX6_stop 31 = .ok (.iconst 1, 1) := by decide +kernel
theorem dX6_stop_32 : decode cX6_stop 32 = .ok (.iload_n 1, 1) := by decide +kernel
theorem dX6_stop_33 : decode cX6_stop 33 = .ok (.ishl, 1) := by decide +kernel
theorem dX6_stop_34 : decode cX6_stop 34 = .ok (.iconst (-1), 1) := by decide +kernel
theorem dX6_stop_35 : decode cX6_stop 35 = .ok (.ixor, 1) := by decide +kernel
theorem dX6_stop_36 : decode cX6_stop 36 = .ok (.iand, 1) := by decide +kernel
theorem dX6_stop_37 : decode cX6_stop 37 = .ok (.putfield 61, 3) := by decide +kernel
theorem dX6_stop_40 : decode cX6_stop 40 = .ok (.aload_n 0, 1) := by decide +kernel
theorem dX6_stop_41 : decode cX6_stop 41 = .ok (.getfield 27, 3) := by decide +kernel
theorem dX6_stop_44 : decode cX6_stop 44 = .ok (.iload_n 1, 1) := by decide +kernel
theorem dX6_stop_45 : decode cX6_stop 45 = .ok (.aload_n 0, 1) := by decide +kernel
theorem dX6_stop_46 : decode cX6_stop 46 = .ok (.getfield 42, 3) := by decide +kernel
theorem dX6_stop_49 : decode cX6_stop 49 = .ok (.iastore, 1) := by decide +kernel
theorem dX6_stop_50 : decode cX6_stop 50 = .ok (.return_, 1) := by decide +kernel
theorem dX6_ticksSinceStart_0 : decode cX6_ticksSinceStart 0 = .ok (.iload_n 2, 1) := by decide +kernel
theorem dX6_ticksSinceStart_1 : decode cX6_ticksSinceStart 1 = .ok (.aload_n 0, 1) := by decide +kernel
theorem dX6_ticksSinceStart_2 : decode cX6_ticksSinceStart 2 = .ok (.iload_n 1, 1) := by decide +kernel
theorem dX6_ticksSinceStart_3 : decode cX6_ticksSinceStart 3 = .ok (.iconst 1, 1) := by decide +kernel
theorem dX6_ticksSinceStart_4 : decode cX6_ticksSinceStart 4 = .ok (.invokevirtual 93, 3) := by decide +kernel
theorem dX6_ticksSinceStart_7 : decode cX6_ticksSinceStart 7 = .ok (.isub, 1) := by decide +kernel
theorem dX6_ticksSinceStart_8 : decode cX6_ticksSinceStart 8 = .ok (.ireturn, 1) := by decide +kernel
theorem dX6_ticksSinceStop_0 : decode cX6_ticksSinceStop 0 = .ok (.iload_n 2, 1) := by decide +kernel
theorem dX6_ticksSinceStop_1 : decode cX6_ticksSinceStop 1 = .ok (.aload_n 0, 1) := by decide +kernel
theorem dX6_ticksSinceStop_2 : decode cX6_ticksSinceStop 2 = .ok (.getfield 27, 3) := by decide +kernel
theorem dX6_ticksSinceStop_5 : decode cX6_ticksSinceStop 5 = .ok (.iload_n 1, 1) := by decide +kernel
theorem dX6_ticksSinceStop_6 : decode cX6_ticksSinceStop 6 = .ok (.iaload, 1) := by decide +kernel
theorem dX6_ticksSinceStop_7 : decode cX6_ticksSinceStop 7 = .ok (.isub, 1) := by decide +kernel
theorem dX6_ticksSinceStop_8 : decode cX6_ticksSinceStop 8 = .ok (.ireturn, 1) := by decide +kernel
theorem dX6_startBack_0 : decode cX6_startBack 0 = .ok (.aload_n 0, 1) := by decide +kernel
theorem dX6_startBack_1 : decode cX6_startBack 1 = .ok (.getfield 21, 3) := by decide +kernel
theorem dX6_startBack_4 : decode cX6_startBack 4 = .ok (.iload_n 1, 1) := by decide +kernel
theorem dX6_startBack_5 : decode cX6_startBack 5 = .ok (.iaload, 1) := by decide +kernel
theorem dX6_startBack_6 : decode cX6_startBack 6 = .ok (.iload_n 2, 1) := by decide +kernel
theorem dX6_startBack_7 : decode cX6_startBack 7 = .ok (.if_icmp .ge 8, 3) := by decide +kernel
theorem dX6_startBack_10 : decode cX6_startBack 10 = .ok (.ldc 64, 2) := by decide +kernel
theorem dX6_startBack_12 : decode cX6_startBack 12 = .ok (.goto 20, 3) := by decide +kernel
theorem dX6_startBack_15 : decode cX6_startBack 15 = .ok (.aload_n 0, 1) := by decide +kernel
theorem dX6_startBack_16 : decode cX6_startBack 16 = .ok (.getfield 24, 3) := by decide +kernel
theorem dX6_startBack_19 : decode cX6_startBack 19 = .ok (.iload_n 1, 1) := by decide +kernel
theorem dX6_startBack_20 : decode cX6_startBack 20 = .ok (.aload_n 0, 1) := by decide +kernel
theorem dX6_startBack_21 : decode cX6_startBack 21 = .ok (.getfield 21, 3) := by decide +kernel
theorem dX6_startBack_24 : decode cX6_startBack 24 = .ok (.iload_n 1, 1) := by decide +kernel
theorem dX6_startBack_25 : decode cX6_startBack 25 = .ok (.iaload, 1) := by decide +kernel
theorem dX6_startBack_26 : decode cX6_startBack 26 = .ok (.iload_n 2, 1) := by decide +kernel
theorem dX6_startBack_27 : decode cX6_startBack 27 = .ok (.isub, 1) := by decide +kernel
theorem dX6_startBack_28 : decode cX6_startBack 28 = .ok (.invokestatic 83, 3) := by decide +kernel
theorem dX6_startBack_31 : decode cX6_startBack 31 = .ok (.iaload, 1) := by decide +kernel
theorem dX6_startBack_32 : decode cX6_startBack 32 = .ok (.ireturn, 1) := by decide +kernel
theorem dX6_ringPlace_0 : decode cX6_ringPlace 0 = .ok (.iload_n 0, 1) := by decide +kernel
theorem dX6_ringPlace_1 : decode cX6_ringPlace 1 = .ok (.bipush 9, 2) := by decide +kernel
theorem dX6_ringPlace_3 : decode cX6_ringPlace 3 = .ok (.imul, 1) := by decide +kernel
theorem dX6_ringPlace_4 : decode cX6_ringPlace 4 = .ok (.iload_n 1, 1) := by decide +kernel
theorem dX6_ringPlace_5 : decode cX6_ringPlace 5 = .ok (.bipush 9, 2) := by decide +kernel
theorem dX6_ringPlace_7 : decode cX6_ringPlace 7 = .ok (.invokestatic 96, 3) := by decide +kernel
theorem dX6_ringPlace_10 : decode cX6_ringPlace 10 = .ok (.iadd, 1) := by decide +kernel
theorem dX6_ringPlace_11 : decode cX6_ringPlace 11 = .ok (.ireturn, 1) := by decide +kernel
theorem dX6_putOnList_0 : decode cX6_putOnList 0 = .ok (.aload_n 0, 1) := by decide +kernel
theorem dX6_putOnList_1 : decode cX6_putOnList 1 = .ok (.getfield 68, 3) := by decide +kernel
theorem dX6_putOnList_4 : decode cX6_putOnList 4 = .ok (.bipush 6, 2) := by decide +kernel
theorem dX6_putOnList_6 : decode cX6_putOnList 6 = .ok (.if_icmp .ge 23, 3) := by decide +kernel
theorem dX6_putOnList_9 : decode cX6_putOnList 9 = .ok (.aload_n 0, 1) := by decide +kernel
theorem dX6_putOnList_10 : decode cX6_putOnList 10 = .ok (.getfield 15, 3) := by decide +kernel
theorem dX6_putOnList_13 : decode cX6_putOnList 13 = .ok (.aload_n 0, 1) := by decide +kernel
theorem dX6_putOnList_14 : decode cX6_putOnList 14 = .ok (.getfield 68, 3) := by decide +kernel
theorem dX6_putOnList_17 : decode cX6_putOnList 17 = .ok (.iload_n 1, 1) := by decide +kernel
theorem dX6_putOnList_18 : decode cX6_putOnList 18 = .ok (.iastore, 1) := by decide +kernel
theorem dX6_putOnList_19 : decode cX6_putOnList 19 = .ok (.aload_n 0, 1) := by decide +kernel
theorem dX6_putOnList_20 : decode cX6_putOnList 20 = .ok (.dup, 1) := by decide +kernel
theorem dX6_putOnList_21 : decode cX6_putOnList 21 = .ok (.getfield 68, 3) := by decide +kernel
theorem dX6_putOnList_24 : decode cX6_putOnList 24 = .ok (.iconst 1, 1) := by decide +kernel
theorem dX6_putOnList_25 : decode cX6_putOnList 25 = .ok (.iadd, 1) := by decide +kernel
theorem dX6_putOnList_26 : decode cX6_putOnList 26 = .ok (.putfield 68, 3) := by decide +kernel
theorem dX6_putOnList_29 : decode cX6_putOnList 29 = .ok (.return_, 1) := by decide +kernel
theorem dX6_firstOfList_0 : decode cX6_firstOfList 0 = .ok (.aload_n 0, 1) := by decide +kernel
theorem dX6_firstOfList_1 : decode cX6_firstOfList 1 = .ok (.getfield 15, 3) := by decide +kernel
theorem dX6_firstOfList_4 : decode cX6_firstOfList 4 = .ok (.iconst 0, 1) := by decide +kernel
theorem dX6_firstOfList_5 : decode cX6_firstOfList 5 = .ok (.iaload, 1) := by decide +kernel
theorem dX6_firstOfList_6 : decode cX6_firstOfList 6 = .ok (.ireturn, 1) := by decide +kernel
theorem dX6_takeOffList_0 : decode cX6_takeOffList 0 = .ok (.iconst 0, 1) := by decide +kernel
theorem dX6_takeOffList_1 : decode cX6_takeOffList 1 = .ok (.istore_n 2, 1) := by decide +kernel
theorem dX6_takeOffList_2 : decode cX6_takeOffList 2 = .ok (.iconst 0, 1) := by decide +kernel
theorem dX6_takeOffList_3 : decode cX6_takeOffList 3 = .ok (.istore_n 3, 1) := by decide +kernel
theorem dX6_takeOffList_4 : decode cX6_takeOffList 4 = .ok (.iload_n 3, 1) := by decide +kernel
theorem dX6_takeOffList_5 : decode cX6_takeOffList 5 = .ok (.aload_n 0, 1) := by decide +kernel
theorem dX6_takeOffList_6 : decode cX6_takeOffList 6 = .ok (.getfield 68, 3) := by decide +kernel
theorem dX6_takeOffList_9 : decode cX6_takeOffList 9 = .ok (.if_icmp .ge 40, 3) := by decide +kernel
theorem dX6_takeOffList_12 : decode cX6_takeOffList 12 = .ok (.iload_n 3, 1) := by decide +kernel
theorem dX6_takeOffList_13 : decode cX6_takeOffList 13 = .ok (.bipush 6, 2) := by decide +kernel
theorem dX6_takeOffList_15 : decode cX6_takeOffList 15 = .ok (.if_icmp .ge 34, 3) := by decide +kernel
theorem dX6_takeOffList_18 : decode cX6_takeOffList 18 = .ok (.aload_n 0, 1) := by decide +kernel
theorem dX6_takeOffList_19 : decode cX6_takeOffList 19 = .ok (.getfield 15, 3) := by decide +kernel
theorem dX6_takeOffList_22 : decode cX6_takeOffList 22 = .ok (.iload_n 3, 1) := by decide +kernel
theorem dX6_takeOffList_23 : decode cX6_takeOffList 23 = .ok (.iaload, 1) := by decide +kernel
theorem dX6_takeOffList_24 : decode cX6_takeOffList 24 = .ok (.iload_n 1, 1) := by decide +kernel
theorem dX6_takeOffList_25 : decode cX6_takeOffList 25 = .ok (.if_icmp .eq 18, 3) := by decide +kernel
theorem dX6_takeOffList_28 : decode cX6_takeOffList 28 = .ok (.aload_n 0, 1) := by decide +kernel
theorem dX6_takeOffList_29 : decode cX6_takeOffList 29 = .ok (.getfield 15, 3) := by decide +kernel
theorem dX6_takeOffList_32 : decode cX6_takeOffList 32 = .ok (.iload_n 2, 1) := by decide +kernel
theorem dX6_takeOffList_33 : decode cX6_takeOffList 33 = .ok (.aload_n 0, 1) := by decide +kernel
theorem dX6_takeOffList_34 : decode cX6_takeOffList 34 = .ok (.getfield 15, 3) := by decide +kernel
theorem dX6_takeOffList_37 : decode cX6_takeOffList 37 = .ok (.iload_n 3, 1) := by decide +kernel
theorem dX6_takeOffList_38 : decode cX6_takeOffList 38 = .ok (.iaload, 1) := by decide +kernel
theorem dX6_takeOffList_39 : decode cX6_takeOffList 39 = .ok (.iastore, 1) := by decide +kernel
theorem dX6_takeOffList_40 : decode cX6_takeOffList 40 = .ok (.iinc 2 1, 3) := by decide +kernel
theorem dX6_takeOffList_43 : decode cX6_takeOffList 43 = .ok (.iinc 3 1, 3) := by decide +kernel
theorem dX6_takeOffList_46 : decode cX6_takeOffList 46 = .ok (.goto (-42), 3) := by decide +kernel
theorem dX6_takeOffList_49 : decode cX6_takeOffList 49 = .ok (.aload_n 0, 1) := by decide +kernel
theorem dX6_takeOffList_50 : decode cX6_takeOffList 50 = .ok (.iload_n 2, 1) := by decide +kernel
theorem dX6_takeOffList_51 : decode cX6_takeOffList 51 = .ok (.putfield 68, 3) := by decide +kernel
theorem dX6_takeOffList_54 : decode cX6_takeOffList 54 = .ok (.return_, 1) := by decide +kernel
theorem dX6_placeInList_0 : decode cX6_placeInList 0 = .ok (.iconst 0, 1) := by decide +kernel
theorem dX6_placeInList_1 : decode cX6_placeInList 1 = .ok (.istore_n 2, 1) := by decide +kernel
theorem dX6_placeInList_2 : decode cX6_placeInList 2 = .ok (.iload_n 2, 1) := by decide +kernel
theorem dX6_placeInList_3 : decode cX6_placeInList 3 = .ok (.aload_n 0, 1) := by decide +kernel
theorem dX6_placeInList_4 : decode cX6_placeInList 4 = .ok (.getfield 68, 3) := by decide +kernel
theorem dX6_placeInList_7 : decode cX6_placeInList 7 = .ok (.if_icmp .ge 27, 3) := by decide +kernel
theorem dX6_placeInList_10 : decode cX6_placeInList 10 = .ok (.iload_n 2, 1) := by decide +kernel
theorem dX6_placeInList_11 : decode cX6_placeInList 11 = .ok (.bipush 6, 2) := by decide +kernel
theorem dX6_placeInList_13 : decode cX6_placeInList 13 = .ok (.if_icmp .ge 21, 3) := by decide +kernel
theorem dX6_placeInList_16 : decode cX6_placeInList 16 = .ok (.aload_n 0, 1) := by decide +kernel
theorem dX6_placeInList_17 : decode cX6_placeInList 17 = .ok (.getfield 15, 3) := by decide +kernel
theorem dX6_placeInList_20 : decode cX6_placeInList 20 = .ok (.iload_n 2, 1) := by decide +kernel
theorem dX6_placeInList_21 : decode cX6_placeInList 21 = .ok (.iaload, 1) := by decide +kernel
theorem dX6_placeInList_22 : decode cX6_placeInList 22 = .ok (.iload_n 1, 1) := by decide +kernel
theorem dX6_placeInList_23 : decode cX6_placeInList 23 = .ok (.if_icmp .ne 5, 3) := by decide +kernel
theorem dX6_placeInList_26 : decode cX6_placeInList 26 = .ok (.iload_n 2, 1) := by decide +kernel
theorem dX6_placeInList_27 : decode cX6_placeInList 27 = .ok (.ireturn, 1) := by decide +kernel
theorem dX6_placeInList_28 : decode cX6_placeInList 28 = .ok (.iinc 2 1, 3) := by decide +kernel
theorem dX6_placeInList_31 : decode cX6_placeInList 31 = .ok (.goto (-29), 3) := by decide +kernel
theorem dX6_placeInList_34 : decode cX6_placeInList 34 = .ok (.bipush (-4), 2) := by decide +kernel
theorem dX6_placeInList_36 : decode cX6_placeInList 36 = .ok (.ireturn, 1) := by decide +kernel
theorem dX7_init_0 : decode cX7_init 0 = .ok (.aload_n 0, 1) := by decide +kernel
theorem dX7_init_1 : decode cX7_init 1 = .ok (.invokespecial 1, 3) := by decide +kernel
theorem dX7_init_4 : decode cX7_init 4 = .ok (.aload_n 0, 1) := by decide +kernel
theorem dX7_init_5 : decode cX7_init 5 = .ok (.new 7, 3) := by decide +kernel
theorem dX7_init_8 : decode cX7_init 8 = .ok (.dup, 1) := by decide +kernel
theorem dX7_init_9 : decode cX7_init 9 = .ok (.invokespecial 9, 3) := by decide +kernel
theorem dX7_init_12 : decode cX7_init 12 = .ok (.putfield 10, 3) := by decide +kernel
theorem dX7_init_15 : decode cX7_init 15 = .ok (.aload_n 0, 1) := by decide +kernel
theorem dX7_init_16 : decode cX7_init 16 = .ok (.new 16, 3) := by decide +kernel
theorem dX7_init_19 : decode cX7_init 19 = .ok (.dup, 1) := by decide +kernel
theorem dX7_init_20 : decode cX7_init 20 = .ok (.invokespecial 18, 3) := by decide +kernel
theorem dX7_init_23 : decode cX7_init 23 = .ok (.putfield 19, 3) := by decide +kernel
theorem dX7_init_26 : decode cX7_init 26 = .ok (.aload_n 0, 1) := by decide +kernel
theorem dX7_init_27 : decode cX7_init 27 = .ok (.new 23, 3) := by decide +kernel
theorem dX7_init_30 : decode cX7_init 30 = .ok (.dup, 1) := by decide +kernel
theorem dX7_init_31 : decode cX7_init 31 = .ok (.invokespecial 25, 3) := by decide +kernel
theorem dX7_init_34 : decode cX7_init 34 = .ok (.putfield 26, 3) := by decide +kernel
theorem dX7_init_37 : decode cX7_init 37 = .ok (.aload_n 0, 1) := by decide +kernel
theorem dX7_init_38 : decode cX7_init 38 = .ok (.new 23, 3) := by decide +kernel
theorem dX7_init_41 : decode cX7_init 41 = .ok (.dup, 1) := by decide +kernel
theorem dX7_init_42 : decode cX7_init 42 = .ok (.invokespecial 25, 3) := by decide +kernel
theorem dX7_init_45 : decode cX7_init 45 = .ok (.putfield 30, 3) := by decide +kernel
theorem dX7_init_48 : decode cX7_init 48 = .ok (.aload_n 0, 1) := by decide +kernel
theorem dX7_init_49 : decode cX7_init 49 = .ok (.new 33, 3) := by decide +kernel
theorem dX7_init_52 : decode cX7_init 52 = .ok (.dup, 1) := by decide +kernel
theorem dX7_init_53 : decode cX7_init 53 = .ok (.invokespecial 35, 3) := by decide +kernel
theorem dX7_init_56 : decode cX7_init 56 = .ok (.putfield 36, 3) := by decide +kernel
theorem dX7_init_59 : decode cX7_init 59 = .ok (.aload_n 0, 1) := by decide +kernel
theorem dX7_init_60 : decode cX7_init 60 = .ok (.new 40, 3) := by decide +kernel
theorem dX7_init_63 : decode cX7_init 63 = .ok (.dup, 1) := by decide +kernel
theorem dX7_init_64 : decode cX7_init 64 = .ok (.aload_n 0, 1) := by decide +kernel
theorem dX7_init_65 : decode cX7_init 65 = .ok (.getfield 19, 3) := by decide +kernel
theorem dX7_init_68 : decode cX7_init 68 = .ok (.invokespecial 42, 3) := by decide +kernel
theorem dX7_init_71 : decode cX7_init 71 = .ok (.putfield 45, 3) := by decide +kernel
theorem dX7_init_74 : decode cX7_init 74 = .ok (.aload_n 0, 1) := by decide +kernel
theorem dX7_init_75 : decode cX7_init 75 = .ok (.new 49, 3) := by decide +kernel
theorem dX7_init_78 : decode cX7_init 78 = .ok (.dup, 1) := by decide +kernel
theorem dX7_init_79 : decode cX7_init 79 = .ok (.aload_n 0, 1) := by decide +kernel
theorem dX7_init_80 : decode cX7_init 80 = .ok (.getfield 19, 3) := by decide +kernel
theorem dX7_init_83 : decode cX7_init 83 = .ok (.invokespecial 51, 3) := by decide +kernel
theorem dX7_init_86 : decode cX7_init 86 = .ok (.putfield 52, 3) := by decide +kernel
theorem dX7_init_89 : decode cX7_init 89 = .ok (.aload_n 0, 1) := by decide +kernel
theorem dX7_init_90 : decode cX7_init 90 = .ok (.new 56, 3) := by decide +kernel
theorem dX7_init_93 : decode cX7_init 93 = .ok (.dup, 1) := by decide +kernel
theorem dX7_init_94 : decode cX7_init 94 = .ok (.aload_n 0, 1) := by decide +kernel
theorem dX7_init_95 : decode cX7_init 95 = .ok (.getfield 19, 3) := by decide +kernel
theorem dX7_init_98 : decode cX7_init 98 = .ok (.invokespecial 58, 3) := by decide +kernel
theorem dX7_init_101 : decode cX7_init 101 = .ok (.putfield 59, 3) := by decide +kernel
theorem dX7_init_104 : decode cX7_init 104 = .ok (.iconst 0, 1) := by decide +kernel
theorem dX7_init_105 : decode cX7_init 105 = .ok (.istore_n 1, 1) := by decide +kernel
theorem dX7_init_106 : decode cX7_init 106 = .ok (.iload_n 1, 1) := by decide +kernel
theorem dX7_init_107 : decode cX7_init 107 = .ok (.ldc 63, 2) := by decide +kernel
theorem dX7_init_109 : decode cX7_init 109 = .ok (.invokevirtual 65, 3) := by decide +kernel
theorem dX7_init_112 : decode cX7_init 112 = .ok (.if_icmp .ge 23, 3) := by decide +kernel
theorem dX7_init_115 : decode cX7_init 115 = .ok (.aload_n 0, 1) := by decide +kernel
theorem dX7_init_116 : decode cX7_init 116 = .ok (.getfield 10, 3) := by decide +kernel
theorem dX7_init_119 : decode cX7_init 119 = .ok (.ldc 63, 2) := by decide +kernel
theorem dX7_init_121 : decode cX7_init 121 = .ok (.iload_n 1, 1) := by decide +kernel
theorem dX7_init_122 : decode cX7_init 122 = .ok (.invokevirtual 71, 3) := by decide +kernel
theorem dX7_init_125 : decode cX7_init 125 = .ok (.invokevirtual 75, 3) := by decide +kernel
theorem dX7_init_128 : decode cX7_init 128 = .ok (.pop, 1) := by decide +kernel
theorem dX7_init_129 : decode cX7_init 129 = .ok (.iinc 1 1, 3) := by decide +kernel
theorem dX7_init_132 : decode cX7_init 132 = .ok (.goto (-26), 3) := by decide +kernel
theorem dX7_init_135 : decode cX7_init 135 = .ok (.aload_n 0, 1) := by decide +kernel
theorem dX7_init_136 : decode cX7_init 136 = .ok (.getfield 10, 3) := by decide +kernel
theorem dX7_init_139 : decode cX7_init 139 = .ok (.aload_n 0, 1) := by decide +kernel
theorem dX7_init_140 : decode cX7_init 140 = .ok (.getfield 19, 3) := by decide +kernel
theorem dX7_init_143 : decode cX7_init 143 = .ok (.invokevirtual 79, 3) := by decide +kernel
theorem dX7_init_146 : decode cX7_init 146 = .ok (.aload_n 0, 1) := by decide +kernel
theorem dX7_init_147 : decode cX7_init 147 = .ok (.getfield 10, 3) := by decide +kernel
theorem dX7_init_150 : decode cX7_init 150 = .ok (.invokevirtual 82, 3) := by decide +kernel
theorem dX7_init_153 : decode cX7_init 153 = .ok (.return_, 1) := by decide +kernel
theorem dX7_write_0 : decode cX7_write 0 = .ok (.iload_n 1, 1) := by decide +kernel
theorem dX7_write_1 : decode cX7_write 1 = .ok (.bipush 32, 2) := by decide +kernel
theorem dX7_write_3 : decode cX7_write 3 = .ok (.if_icmp .lt 9, 3) := by decide +kernel
theorem dX7_write_6 : decode cX7_write 6 = .ok (.iload_n 1, 1) := by decide +kernel
theorem dX7_write_7 : decode cX7_write 7 = .ok (.bipush 126, 2) := by decide +kernel
theorem dX7_write_9 : decode cX7_write 9 = .ok (.if_icmp .le 5, 3) := by decide +kernel
theorem dX7_write_12 : decode cX7_write 12 = .ok (.iconst (-1), 1) := by decide +kernel
theorem dX7_write_13 : decode cX7_write 13 = .ok (.ireturn, 1) := by decide +kernel
theorem dX7_write_14 : decode cX7_write 14 = .ok (.aload_n 0, 1) := by decide +kernel
theorem dX7_write_15 : decode cX7_write 15 = .ok (.getfield 10, 3) := by decide +kernel
theorem dX7_write_18 : decode cX7_write 18 = .ok (.iload_n 1, 1) := by decide +kernel
theorem dX7_write_19 : decode cX7_write 19 = .ok (.i2c, 1) := by decide +kernel
theorem dX7_write_20 : decode cX7_write 20 = .ok (.invokevirtual 75, 3) := by decide +kernel
theorem dX7_write_23 : decode cX7_write 23 = .ok (.ifCond .eq 13, 3) := by decide +kernel
theorem dX7_write_26 : decode cX7_write 26 = .ok (.aload_n 0, 1) := by decide +kernel
theorem dX7_write_27 : decode cX7_write 27 = .ok (.getfield 10, 3) := by decide +kernel
theorem dX7_write_30 : decode cX7_write 30 = .ok (.getfield 85, 3) := by decide +kernel
theorem dX7_write_33 : decode cX7_write 33 = .ok (.goto 5, 3) := by decide +kernel
theorem dX7_write_36 : decode cX7_write 36 = .ok (.bipush (-3), 2) := by decide +kernel
theorem dX7_write_38 : decode cX7_write 38 = .ok (.ireturn, 1) := by decide +kernel
theorem dX7_wipe_0 : decode cX7_wipe 0 = .ok (.aload_n 0, 1) := by decide +kernel
theorem dX7_wipe_1 : decode cX7_wipe 1 = .ok (.getfield 10, 3) := by decide +kernel
theorem dX7_wipe_4 : decode cX7_wipe 4 = .ok (.getfield 85, 3) := by decide +kernel
theorem dX7_wipe_7 : decode cX7_wipe 7 = .ok (.istore_n 1, 1) := by decide +kernel
theorem dX7_wipe_8 : decode cX7_wipe 8 = .ok (.aload_n 0, 1) := by decide +kernel
theorem dX7_wipe_9 : decode cX7_wipe 9 = .ok (.getfield 10, 3) := by decide +kernel
theorem dX7_wipe_12 : decode cX7_wipe 12 = .ok (.invokevirtual 82, 3) := by decide +kernel
theorem dX7_wipe_15 : decode cX7_wipe 15 = .ok (.iload_n 1, 1) := by decide +kernel
theorem dX7_wipe_16 : decode cX7_wipe 16 = .ok (.ireturn, 1) := by decide +kernel
theorem dX7_fault_0 : decode cX7_fault 0 = .ok (.aload_n 0, 1) := by decide +kernel
theorem dX7_fault_1 : decode cX7_fault 1 = .ok (.getfield 10, 3) := by decide +kernel
theorem dX7_fault_4 : decode cX7_fault 4 = .ok (.invokevirtual 88, 3) := by decide +kernel
theorem dX7_fault_7 : decode cX7_fault 7 = .ok (.ireturn, 1) := by decide +kernel
theorem dX7_lay_0 : decode cX7_lay 0 = .ok (.aload_n 0, 1) := by decide +kernel
theorem dX7_lay_1 : decode cX7_lay 1 = .ok (.getfield 10, 3) := by decide +kernel
theorem dX7_lay_4 : decode cX7_lay 4 = .ok (.invokevirtual 88, 3) := by decide +kernel
theorem dX7_lay_7 : decode cX7_lay 7 = .ok (.bipush (-4), 2) := by decide +kernel
theorem dX7_lay_9 : decode cX7_lay 9 = .ok (.if_icmp .ne 13, 3) := by decide +kernel
theorem dX7_lay_12 : decode cX7_lay 12 = .ok (.aload_n 0, 1) := by decide +kernel
theorem dX7_lay_13 : decode cX7_lay 13 = .ok (.getfield 10, 3) := by decide +kernel
theorem dX7_lay_16 : decode cX7_lay 16 = .ok (.invokevirtual 91, 3) := by decide +kernel
theorem dX7_lay_19 : decode cX7_lay 19 = .ok (.ifCond .ne 6, 3) := by decide +kernel
theorem dX7_lay_22 : decode cX7_lay 22 = .ok (.bipush (-2), 2) := by decide +kernel
theorem dX7_lay_24 : decode cX7_lay 24 = .ok (.ireturn, 1) := by decide +kernel
theorem dX7_lay_25 : decode cX7_lay 25 = .ok (.aload_n 0, 1) := by decide +kernel
theorem dX7_lay_26 : decode cX7_lay 26 = .ok (.getfield 10, 3) := by decide +kernel
theorem dX7_lay_29 : decode cX7_lay 29 = .ok (.aload_n 0, 1) := by decide +kernel
theorem dX7_lay_30 : decode cX7_lay 30 = .ok (.getfield 19, 3) := by decide +kernel
theorem dX7_lay_33 : decode cX7_lay 33 = .ok (.invokevirtual 79, 3) := by decide +kernel
theorem dX7_lay_36 : decode cX7_lay 36 = .ok (.aload_n 0, 1) := by decide +kernel
theorem dX7_lay_37 : decode cX7_lay 37 = .ok (.getfield 26, 3) := by decide +kernel
theorem dX7_lay_40 : decode cX7_lay 40 = .ok (.invokevirtual 94, 3) := by decide +kernel
theorem dX7_lay_43 : decode cX7_lay 43 = .ok (.aload_n 0, 1) := by decide +kernel
theorem dX7_lay_44 : decode cX7_lay 44 = .ok (.getfield 36, 3) := by decide +kernel
theorem dX7_lay_47 : decode cX7_lay 47 = .ok (.invokevirtual 97, 3) := by decide +kernel
theorem dX7_lay_50 : decode cX7_lay 50 = .ok (.aload_n 0, 1) := by decide +kernel
theorem dX7_lay_51 : decode cX7_lay 51 = .ok (.getfield 45, 3) := by decide +kernel
theorem dX7_lay_54 : decode cX7_lay 54 = .ok (.getfield 100, 3) := by decide +kernel
theorem dX7_lay_57 : decode cX7_lay 57 = .ok (.invokevirtual 103, 3) := by decide +kernel
theorem dX7_lay_60 : decode cX7_lay 60 = .ok (.aload_n 0, 1) := by decide +kernel
theorem dX7_lay_61 : decode cX7_lay 61 = .ok (.getfield 52, 3) := by decide +kernel
theorem dX7_lay_64 : decode cX7_lay 64 = .ok (.invokevirtual 103, 3) := by decide +kernel
theorem dX7_lay_67 : decode cX7_lay 67 = .ok (.aload_n 0, 1) := by decide +kernel
theorem dX7_lay_68 : decode cX7_lay 68 = .ok (.getfield 59, 3) := by decide +kernel
theorem dX7_lay_71 : decode cX7_lay 71 = .ok (.invokevirtual 104, 3) := by decide +kernel
theorem dX7_lay_74 : decode cX7_lay 74 = .ok (.aload_n 0, 1) := by decide +kernel
theorem dX7_lay_75 : decode cX7_lay 75 = .ok (.getfield 19, 3) := by decide +kernel
theorem dX7_lay_78 : decode cX7_lay 78 = .ok (.getfield 105, 3) := by decide +kernel
theorem dX7_lay_81 : decode cX7_lay 81 = .ok (.ireturn, 1) := by decide +kernel
theorem dX7_tell_0 : decode cX7_tell 0 = .ok (.iload_n 1, 1) := by decide +kernel
theorem dX7_tell_1 : decode cX7_tell 1 = .ok (.ifCond .lt 26, 3) := by decide +kernel
theorem dX7_tell_4 : decode cX7_tell 4 = .ok (.iload_n 1, 1) := by decide +kernel
theorem dX7_tell_5 : decode cX7_tell 5 = .ok (.iconst 4, 1) := by decide +kernel
theorem dX7_tell_6 : decode cX7_tell 6 = .ok (.if_icmp .ge 21, 3) := by decide +kernel
theorem dX7_tell_9 : decode cX7_tell 9 = .ok (.iload_n 2, 1) := by decide +kernel
theorem dX7_tell_10 : decode cX7_tell 10 = .ok (.getstatic 107, 3) := by decide +kernel
theorem dX7_tell_13 : decode cX7_tell 13 = .ok (.iload_n 1, 1) := by decide +kernel
theorem dX7_tell_14 : decode cX7_tell 14 = .ok (.iaload, 1) := by decide +kernel
theorem dX7_tell_15 : decode cX7_tell 15 = .ok (.if_icmp .lt 12, 3) := by decide +kernel
theorem dX7_tell_18 : decode cX7_tell 18 = .ok (.iload_n 2, 1) := by decide +kernel
theorem dX7_tell_19 : decode cX7_tell 19 = .ok (.getstatic 111, 3) := by decide +kernel
theorem dX7_tell_22 : decode cX7_tell 22 = .ok (.iload_n 1, 1) := by decide +kernel
theorem dX7_tell_23 : decode cX7_tell 23 = .ok (.iaload, 1) := by decide +kernel
theorem dX7_tell_24 : decode cX7_tell 24 = .ok (.if_icmp .le 5, 3) := by decide +kernel
theorem dX7_tell_27 : decode cX7_tell 27 = .ok (.iconst (-1), 1) := by decide +kernel
theorem dX7_tell_28 : decode cX7_tell 28 = .ok (.ireturn, 1) := by decide +kernel
theorem dX7_tell_29 : decode cX7_tell 29 = .ok (.aload_n 0, 1) := by decide +kernel
theorem dX7_tell_30 : decode cX7_tell 30 = .ok (.getfield 26, 3) := by decide +kernel
theorem dX7_tell_33 : decode cX7_tell 33 = .ok (.getfield 114, 3) := by decide +kernel
theorem dX7_tell_36 : decode cX7_tell 36 = .ok (.iload_n 1, 1) := by decide +kernel
theorem dX7_tell_37 : decode cX7_tell 37 = .ok (.iaload, 1) := by decide +kernel
theorem dX7_tell_38 : decode cX7_tell 38 = .ok (.istore_n 3, 1) := by decide +kernel
theorem dX7_tell_39 : decode cX7_tell 39 = .ok (.iload_n 3, 1) := by decide +kernel
theorem dX7_tell_40 : decode cX7_tell 40 = .ok (.iload_n 2, 1) := by decide +kernel
theorem dX7_tell_41 : decode cX7_tell 41 = .ok (.if_icmp .ne 6, 3) := by decide +kernel
theorem dX7_tell_44 : decode cX7_tell 44 = .ok (.bipush (-2), 2) := by decide +kernel
theorem dX7_tell_46 : decode cX7_tell 46 = .ok (.ireturn, 1) := by decide +kernel
theorem dX7_tell_47 : decode cX7_tell 47 = .ok (.aload_n 0, 1) := by decide +kernel
theorem dX7_tell_48 : decode cX7_tell 48 = .ok (.getfield 36, 3) := by decide +kernel
theorem dX7_tell_51 : decode cX7_tell 51 = .ok (.aload_n 0, 1) := by decide +kernel
theorem dX7_tell_52 : decode cX7_tell 52 = .ok (.getfield 26, 3) := by decide +kernel
theorem dX7_tell_55 : decode cX7_tell 55 = .ok (.invokevirtual 117, 3) := by decide +kernel
theorem dX7_tell_58 : decode cX7_tell 58 = .ok (.aload_n 0, 1) := by decide +kernel
theorem dX7_tell_59 : decode cX7_tell 59 = .ok (.getfield 26, 3) := by decide +kernel
theorem dX7_tell_62 : decode cX7_tell 62 = .ok (.getfield 114, 3) := by decide +kernel
theorem dX7_tell_65 : decode cX7_tell 65 = .ok (.iload_n 1, 1) := by decide +kernel
theorem dX7_tell_66 : decode cX7_tell 66 = .ok (.iload_n 2, 1) := by decide +kernel
theorem dX7_tell_67 : decode cX7_tell 67 = .ok (.iastore, 1) := by decide +kernel
theorem dX7_tell_68 : decode cX7_tell 68 = .ok (.iload_n 3, 1) := by decide +kernel
theorem dX7_tell_69 : decode cX7_tell 69 = .ok (.ireturn, 1) := by decide +kernel
theorem dX7_lock_0 : decode cX7_lock 0 = .ok (.aload_n 0, 1) := by decide +kernel
theorem dX7_lock_1 : decode cX7_lock 1 = .ok (.iload_n 1, 1) := by decide +kernel
theorem dX7_lock_2 : decode cX7_lock 2 = .ok (.invokevirtual 121, 3) := by decide +kernel
theorem dX7_lock_5 : decode cX7_lock 5 = .ok (.ifCond .eq 12, 3) := by decide +kernel
theorem dX7_lock_8 : decode cX7_lock 8 = .ok (.iload_n 2, 1) := by decide +kernel
theorem dX7_lock_9 : decode cX7_lock 9 = .ok (.ifCond .lt 8, 3) := by decide +kernel
theorem dX7_lock_12 : decode cX7_lock 12 = .ok (.iload_n 2, 1) := by decide +kernel
theorem dX7_lock_13 : decode cX7_lock 13 = .ok (.iconst 1, 1) := by decide +kernel
theorem dX7_lock_14 : decode cX7_lock 14 = .ok (.if_icmp .le 5, 3) := by decide +kernel
theorem dX7_lock_17 : decode cX7_lock 17 = .ok (.iconst (-1), 1) := by decide +kernel
theorem dX7_lock_18 : decode cX7_lock 18 = .ok (.ireturn, 1) := by decide +kernel
theorem dX7_lock_19 : decode cX7_lock 19 = .ok (.iconst 1, 1) := by decide +kernel
theorem dX7_lock_20 : decode cX7_lock 20 = .ok (.iload_n 1, 1) := by decide +kernel
theorem dX7_lock_21 : decode cX7_lock 21 = .ok (.ishl, 1) := by decide +kernel
theorem dX7_lock_22 : decode cX7_lock 22 = .ok (.istore_n 3, 1) := by decide +kernel
theorem dX7_lock_23 : decode cX7_lock 23 = .ok (.aload_n 0, 1) := by decide +kernel
theorem dX7_lock_24 : decode cX7_lock 24 = .ok (.getfield 26, 3) := by decide +kernel
theorem dX7_lock_27 : decode cX7_lock 27 = .ok (.getfield 125, 3) := by decide +kernel
theorem dX7_lock_30 : decode cX7_lock 30 = .ok (.iload_n 3, 1) := by decide +kernel
theorem dX7_lock_31 : decode cX7_lock 31 = .ok (.iand, 1) := by decide +kernel
theorem dX7_lock_32 : decode cX7_lock 32 = .ok (.ifCond .eq 7, 3) := by decide +kernel
theorem dX7_lock_35 : decode cX7_lock 35 = .ok (.iconst 1, 1) := by decide +kernel
theorem dX7_lock_36 : decode cX7_lock 36 = .ok (.goto 4, 3) := by decide +kernel
theorem dX7_lock_39 : decode cX7_lock 39 = .ok (.iconst 0, 1) := by decide +kernel
theorem dX7_lock_40 : decode cX7_lock 40 = .ok (.iload_n 2, 1) := by decide +kernel
theorem dX7_lock_41 : decode cX7_lock 41 = .ok (.iconst 1, 1) := by decide +kernel
theorem dX7_lock_42 : decode cX7_lock 42 = .ok (.if_icmp .ne 7, 3) := by decide +kernel
theorem dX7_lock_45 : decode cX7_lock 45 = .ok (.iconst 1, 1) := by decide +kernel
theorem dX7_lock_46 : decode cX7_lock 46 = .ok (.goto 4, 3) := by decide +kernel
theorem dX7_lock_49 : decode cX7_lock 49 = .ok (.iconst 0, 1) := by decide +kernel
theorem dX7_lock_50 : decode cX7_lock 50 = .ok (.if_icmp .ne 6, 3) := by decide +kernel
theorem dX7_lock_53 : decode cX7_lock 53 = .ok (.bipush (-2), 2) := by decide +kernel
theorem dX7_lock_55 : decode cX7_lock 55 = .ok (.ireturn, 1) := by decide +kernel
theorem dX7_lock_56 : decode cX7_lock 56 = .ok (.aload_n 0, 1) := by decide +kernel
theorem dX7_lock_57 : decode cX7_lock 57 = .ok (.getfield 36, 3) := by decide +kernel
theorem dX7_lock_60 : decode cX7_lock 60 = .ok (.aload_n 0, 1) := by decide +kernel
theorem dX7_lock_61 : decode cX7_lock 61 = .ok (.getfield 26, 3) := by decide +kernel
theorem dX7_lock_64 : decode cX7_lock 64 = .ok (.invokevirtual 117, 3) := by decide +kernel
theorem dX7_lock_67 : decode cX7_lock 67 = .ok (.iload_n 2, 1) := by decide +kernel
theorem dX7_lock_68 : decode cX7_lock 68 = .ok (.iconst 1, 1) := by decide +kernel
theorem dX7_lock_69 : decode cX7_lock 69 = .ok (.if_icmp .ne 35, 3) := by decide +kernel
theorem dX7_lock_72 : decode cX7_lock 72 = .ok (.aload_n 0, 1) := by decide +kernel
theorem dX7_lock_73 : decode cX7_lock 73 = .ok (.getfield 26, 3) := by decide +kernel
theorem dX7_lock_76 : decode cX7_lock 76 = .ok (.dup, 1) := by decide +kernel
theorem dX7_lock_77 : decode cX7_lock 77 = .ok (.getfield 125, 3) := by decide +kernel
theorem dX7_lock_80 : decode cX7_lock 80 = .ok (.iload_n 3, 1) := by decide +kernel
theorem dX7_lock_81 : decode cX7_lock 81 = .ok (.ior, 1) := by decide +kernel
theorem dX7_lock_82 : decode cX7_lock 82 = .ok (.putfield 125, 3) := by decide +kernel
theorem dX7_lock_85 : decode cX7_lock 85 = .ok (.aload_n 0, 1) := by decide +kernel
theorem dX7_lock_86 : decode cX7_lock 86 = .ok (.getfield 26, 3) := by decide +kernel
theorem dX7_lock_89 : decode cX7_lock 89 = .ok (.iload_n 1, 1) := by decide +kernel
theorem dX7_lock_90 : decode cX7_lock 90 = .ok (.invokevirtual 128, 3) := by decide +kernel
theorem dX7_lock_93 : decode cX7_lock 93 = .ok (.aload_n 0, 1) := by decide +kernel
theorem dX7_lock_94 : decode cX7_lock 94 = .ok (.getfield 26, 3) := by decide +kernel
theorem dX7_lock_97 : decode cX7_lock 97 = .ok (.iload_n 1, 1) := by decide +kernel
theorem dX7_lock_98 : decode cX7_lock 98 = .ok (.invokevirtual 132, 3) := by decide +kernel
theorem dX7_lock_101 : decode cX7_lock 101 = .ok (.goto 18, 3) := by decide +kernel
theorem dX7_lock_104 : decode cX7_lock 104 = .ok (.aload_n 0, 1) := by decide +kernel
theorem dX7_lock_105 : decode cX7_lock 105 = .ok (.getfield 26, 3) := by decide +kernel
theorem dX7_lock_108 : decode cX7_lock 108 = .ok (.dup, 1) := by decide +kernel
theorem dX7_lock_109 : decode cX7_lock 109 = .ok (.getfield 125, 3) := by decide +kernel
theorem dX7_lock_112 : decode cX7_lock 112 = .ok (.iload_n 3, 1) := by decide +kernel
theorem dX7_lock_113 : decode cX7_lock 113 = .ok (.iconst (-1), 1) := by decide +kernel
theorem dX7_lock_114 : decode cX7_lock 114 = .ok (.ixor, 1) := by decide +kernel
theorem dX7_lock_115 : decode cX7_lock 115 = .ok (.iand, 1) := by decide +kernel
theorem dX7_lock_116 : decode cX7_lock 116 = .ok (.putfield 125, 3) := by decide +kernel
theorem dX7_lock_119 : decode cX7_lock 119 = .ok (.aload_n 0, 1) := by decide +kernel
theorem dX7_lock_120 : decode cX7_lock 120 = .ok (.getfield 26, 3) := by decide +kernel
theorem dX7_lock_123 : decode cX7_lock 123 = .ok (.getfield 125, 3) := by decide +kernel
theorem dX7_lock_126 : decode cX7_lock 126 = .ok (.invokestatic 135, 3) := by decide +kernel
theorem dX7_lock_129 : decode cX7_lock 129 = .ok (.ireturn, 1) := by decide +kernel
theorem dX7_dip_0 : decode cX7_dip 0 = .ok (.aload_n 0, 1) := by decide +kernel
theorem dX7_dip_1 : decode cX7_dip 1 = .ok (.getfield 26, 3) := by decide +kernel
theorem dX7_dip_4 : decode cX7_dip 4 = .ok (.invokevirtual 141, 3) := by decide +kernel
theorem dX7_dip_7 : decode cX7_dip 7 = .ok (.invokestatic 135, 3) := by decide +kernel
theorem dX7_dip_10 : decode cX7_dip 10 = .ok (.istore_n 1, 1) := by decide +kernel
theorem dX7_dip_11 : decode cX7_dip 11 = .ok (.aload_n 0, 1) := by decide +kernel
theorem dX7_dip_12 : decode cX7_dip 12 = .ok (.getfield 36, 3) := by decide +kernel
theorem dX7_dip_15 : decode cX7_dip 15 = .ok (.aload_n 0, 1) := by decide +kernel
theorem dX7_dip_16 : decode cX7_dip 16 = .ok (.getfield 26, 3) := by decide +kernel
theorem dX7_dip_19 : decode cX7_dip 19 = .ok (.invokevirtual 117, 3) := by decide +kernel
theorem dX7_dip_22 : decode cX7_dip 22 = .ok (.aload_n 0, 1) := by decide +kernel
theorem dX7_dip_23 : decode cX7_dip 23 = .ok (.getfield 45, 3) := by decide +kernel
theorem dX7_dip_26 : decode cX7_dip 26 = .ok (.aload_n 0, 1) := by decide +kernel
theorem dX7_dip_27 : decode cX7_dip 27 = .ok (.getfield 26, 3) := by decide +kernel
theorem dX7_dip_30 : decode cX7_dip 30 = .ok (.invokevirtual 144, 3) := by decide +kernel
theorem dX7_dip_33 : decode cX7_dip 33 = .ok (.iload_n 1, 1) := by decide +kernel
theorem dX7_dip_34 : decode cX7_dip 34 = .ok (.ireturn, 1) := by decide +kernel
theorem dX7_tick_0 : decode cX7_tick 0 = .ok (.iload_n 1, 1) := by decide +kernel
theorem dX7_tick_1 : decode cX7_tick 1 = .ok (.iconst 1, 1) := by decide +kernel
theorem dX7_tick_2 : decode cX7_tick 2 = .ok (.if_icmp .lt 9, 3) := by decide +kernel
theorem dX7_tick_5 : decode cX7_tick 5 = .ok (.iload_n 1, 1) := by decide +kernel
theorem dX7_tick_6 : decode cX7_tick 6 = .ok (.bipush 60, 2) := by decide +kernel
theorem dX7_tick_8 : decode cX7_tick 8 = .ok (.if_icmp .le 5, 3) := by decide +kernel
theorem dX7_tick_11 : decode cX7_tick 11 = .ok (.iconst (-1), 1) := by decide +kernel
theorem dX7_tick_12 : decode cX7_tick 12 = .ok (.ireturn, 1) := by decide +kernel
theorem dX7_tick_13 : decode cX7_tick 13 = .ok (.aload_n 0, 1) := by decide +kernel
theorem dX7_tick_14 : decode cX7_tick 14 = .ok (.getfield 26, 3) := by decide +kernel
theorem dX7_tick_17 : decode cX7_tick 17 = .ok (.getfield 147, 3) := by decide +kernel
theorem dX7_tick_20 : decode cX7_tick 20 = .ok (.iload_n 1, 1) := by decide +kernel
theorem dX7_tick_21 : decode cX7_tick 21 = .ok (.iadd, 1) := by decide +kernel
theorem dX7_tick_22 : decode cX7_tick 22 = .ok (.sipush 9999, 3) := by decide +kernel
theorem dX7_tick_25 : decode cX7_tick 25 = .ok (.if_icmp .le 6, 3) := by decide +kernel
theorem dX7_tick_28 : decode cX7_tick 28 = .ok (.bipush (-2), 2) := by decide +kernel
theorem dX7_tick_30 : decode cX7_tick 30 = .ok (.ireturn, 1) := by decide +kernel
theorem dX7_tick_31 : decode cX7_tick 31 = .ok (.aload_n 0, 1) := by decide +kernel
theorem dX7_tick_32 : decode cX7_tick 32 = .ok (.getfield 36, 3) := by decide +kernel
theorem dX7_tick_35 : decode cX7_tick 35 = .ok (.aload_n 0, 1) := by decide +kernel
theorem dX7_tick_36 : decode cX7_tick 36 = .ok (.getfield 26, 3) := by decide +kernel
theorem dX7_tick_39 : decode cX7_tick 39 = .ok (.invokevirtual 117, 3) := by decide +kernel
theorem dX7_tick_42 : decode cX7_tick 42 = .ok (.aload_n 0, 1) := by decide +kernel
theorem dX7_tick_43 : decode cX7_tick 43 = .ok (.getfield 26, 3) := by decide +kernel
theorem dX7_tick_46 : decode cX7_tick 46 = .ok (.invokevirtual 150, 3) := by decide +kernel
theorem dX7_tick_49 : decode cX7_tick 49 = .ok (.istore_n 2, 1) := by decide +kernel
theorem dX7_tick_50 : decode cX7_tick 50 = .ok (.iconst 0, 1) := by decide +kernel
theorem dX7_tick_51 : decode cX7_tick 51 = .ok (.istore_n 3, 1) := by decide +kernel
theorem dX7_tick_52 : decode cX7_tick 52 = .ok (.iload_n 3, 1) := by decide +kernel
theorem dX7_tick_53 : decode cX7_tick 53 = .ok (.iload_n 1, 1) := by decide +kernel
theorem dX7_tick_54 : decode cX7_tick 54 = .ok (.if_icmp .ge 20, 3) := by decide +kernel
theorem dX7_tick_57 : decode cX7_tick 57 = .ok (.aload_n 0, 1) := by decide +kernel
theorem dX7_tick_58 : decode cX7_tick 58 = .ok (.getfield 45, 3) := by decide +kernel
theorem dX7_tick_61 : decode cX7_tick 61 = .ok (.aload_n 0, 1) := by decide +kernel
theorem dX7_tick_62 : decode cX7_tick 62 = .ok (.getfield 26, 3) := by decide +kernel
theorem dX7_tick_65 : decode cX7_tick 65 = .ok (.invokevirtual 153, 3) := by decide +kernel
theorem dX7_tick_68 : decode cX7_tick 68 = .ok (.iinc 3 1, 3) := by decide +kernel
theorem dX7_tick_71 : decode cX7_tick 71 = .ok (.goto (-19), 3) := by decide +kernel
theorem dX7_tick_74 : decode cX7_tick 74 = .ok (.aload_n 0, 1) := by decide +kernel
theorem dX7_tick_75 : decode cX7_tick 75 = .ok (.getfield 26, 3) := by decide +kernel
theorem dX7_tick_78 : decode cX7_tick 78 = .ok (.invokevirtual 150, 3) := by decide +kernel
theorem dX7_tick_81 : decode cX7_tick 81 = .ok (.iload_n 2, 1) := by decide +kernel
theorem dX7_tick_82 : decode cX7_tick 82 = .ok (.isub, 1) := by decide +kernel
theorem dX7_tick_83 : decode cX7_tick 83 = .ok (.ireturn, 1) := by decide +kernel
theorem dX7_undo_0 : decode cX7_undo 0 = .ok (.aload_n 0, 1) := by decide +kernel
theorem dX7_undo_1 : decode cX7_undo 1 = .ok (.getfield 36, 3) := by decide +kernel
theorem dX7_undo_4 : decode cX7_undo 4 = .ok (.aload_n 0, 1) := by decide +kernel
theorem dX7_undo_5 : decode cX7_undo 5 = .ok (.getfield 26, 3) := by decide +kernel
theorem dX7_undo_8 : decode cX7_undo 8 = .ok (.invokevirtual 156, 3) := by decide +kernel
theorem dX7_undo_11 : decode cX7_undo 11 = .ok (.ifCond .eq 13, 3) := by decide +kernel
theorem dX7_undo_14 : decode cX7_undo 14 = .ok (.aload_n 0, 1) := by decide +kernel
theorem dX7_undo_15 : decode cX7_undo 15 = .ok (.getfield 36, 3) := by decide +kernel
theorem dX7_undo_18 : decode cX7_undo 18 = .ok (.getfield 160, 3) := by decide +kernel
theorem dX7_undo_21 : decode cX7_undo 21 = .ok (.goto 5, 3) := by decide +kernel
theorem dX7_undo_24 : decode cX7_undo 24 = .ok (.bipush (-2), 2) := by decide +kernel
theorem dX7_undo_26 : decode cX7_undo 26 = .ok (.ireturn, 1) := by decide +kernel
theorem dX7_machine_0 : decode cX7_machine 0 = .ok (.aload_n 0, 1) := by decide +kernel
theorem dX7_machine_1 : decode cX7_machine 1 = .ok (.iload_n 1, 1) := by decide +kernel
theorem dX7_machine_2 : decode cX7_machine 2 = .ok (.invokevirtual 121, 3) := by decide +kernel
theorem dX7_machine_5 : decode cX7_machine 5 = .ok (.ifCond .ne 5, 3) := by decide +kernel
theorem dX7_machine_8 : decode cX7_machine 8 = .ok (.iconst (-1), 1) := by decide +kernel
theorem dX7_machine_9 : decode cX7_machine 9 = .ok (.ireturn, 1) := by decide +kernel
theorem dX7_machine_10 : decode cX7_machine 10 = .ok (.iload_n 2, 1) := by decide +kernel
theorem dX7_machine_11 : decode cX7_machine 11 = .ok (.tableswitch 235 0 12 #[65, 75, 85, 95, 105, 115, 125, 151, 161, 171, 183, 213, 226], 65) := by decide +kernel
theorem dX7_machine_76 : decode cX7_machine 76 = .ok (.aload_n 0, 1) := by decide +kernel
theorem dX7_machine_77 : decode cX7_machine 77 = .ok (.getfield 19, 3) := by decide +kernel
theorem dX7_machine_80 : decode cX7_machine 80 = .ok (.getfield 163, 3) := by decide +kernel
theorem dX7_machine_83 : decode cX7_machine 83 = .ok (.iload_n 1, 1) := by decide +kernel
theorem dX7_machine_84 : decode cX7_machine 84 = .ok (.iaload, 1) := by decide +kernel
theorem dX7_machine_85 : decode cX7_machine 85 = .ok (.ireturn, 1) := by decide +kernel
theorem dX7_machine_86 : decode cX7_machine 86 = .ok (.aload_n 0, 1) := by decide +kernel
theorem dX7_machine_87 : decode cX7_machine 87 = .ok (.getfield 19, 3) := by decide +kernel
theorem dX7_machine_90 : decode cX7_machine 90 = .ok (.getfield 166, 3) := by decide +kernel
theorem dX7_machine_93 : decode cX7_machine 93 = .ok (.iload_n 1, 1) := by decide +kernel
theorem dX7_machine_94 : decode cX7_machine 94 = .ok (.iaload, 1) := by decide +kernel
theorem dX7_machine_95 : decode cX7_machine 95 = .ok (.ireturn, 1) := by decide +kernel
theorem dX7_machine_96 : decode cX7_machine 96 = .ok (.aload_n 0, 1) := by decide +kernel
theorem dX7_machine_97 : decode cX7_machine 97 = .ok (.getfield 19, 3) := by decide +kernel
theorem dX7_machine_100 : decode cX7_machine 100 = .ok (.getfield 169, 3) := by decide +kernel
theorem dX7_machine_103 : decode cX7_machine 103 = .ok (.iload_n 1, 1) := by decide +kernel
theorem dX7_machine_104 : decode cX7_machine 104 = .ok (.iaload, 1) := by decide +kernel
theorem dX7_machine_105 : decode cX7_machine 105 = .ok (.ireturn, 1) := by decide +kernel
theorem dX7_machine_106 : decode cX7_machine 106 = .ok (.aload_n 0, 1) := by decide +kernel
theorem dX7_machine_107 : decode cX7_machine 107 = .ok (.getfield 19, 3) := by decide +kernel
theorem dX7_machine_110 : decode cX7_machine 110 = .ok (.getfield 172, 3) := by decide +kernel
theorem dX7_machine_113 : decode cX7_machine 113 = .ok (.iload_n 1, 1) := by decide +kernel
theorem dX7_machine_114 : decode cX7_machine 114 = .ok (.iaload, 1) := by decide +kernel
theorem dX7_machine_115 : decode cX7_machine 115 = .ok (.ireturn, 1) := by decide +kernel
theorem dX7_machine_116 : decode cX7_machine 116 = .ok (.aload_n 0, 1) := by decide +kernel
theorem dX7_machine_117 : decode cX7_machine 117 = .ok (.getfield 19, 3) := by decide +kernel
theorem dX7_machine_120 : decode cX7_machine 120 = .ok (.getfield 175, 3) := by decide +kernel
theorem dX7_machine_123 : decode cX7_machine 123 = .ok (.iload_n 1, 1) := by decide +kernel
theorem dX7_machine_124 : decode cX7_machine 124 = .ok (.iaload, 1) := by decide +kernel
theorem dX7_machine_125 : decode cX7_machine 125 = .ok (.ireturn, 1) := by decide +kernel
theorem dX7_machine_126 : decode cX7_machine 126 = .ok (.aload_n 0, 1) := by decide +kernel
theorem dX7_machine_127 : decode cX7_machine 127 = .ok (.getfield 19, 3) := by decide +kernel
theorem dX7_machine_130 : decode cX7_machine 130 = .ok (.getfield 178, 3) := by decide +kernel
theorem dX7_machine_133 : decode cX7_machine 133 = .ok (.iload_n 1, 1) := by decide +kernel
theorem dX7_machine_134 : decode cX7_machine 134 = .ok (.iaload, 1) := by decide +kernel
theorem dX7_machine_135 : decode cX7_machine 135 = .ok (.ireturn, 1) := by decide +kernel
theorem dX7_machine_136 : decode cX7_machine 136 = .ok (.aload_n 0, 1) := by decide +kernel
theorem dX7_machine_137 : decode cX7_machine 137 = .ok (.getfield 26, 3) := by decide +kernel
theorem dX7_machine_140 : decode cX7_machine 140 = .ok (.getfield 181, 3) := by decide +kernel
theorem dX7_machine_143 : decode cX7_machine 143 = .ok (.iload_n 1, 1) := by decide +kernel
theorem dX7_machine_144 : decode cX7_machine 144 = .ok (.invokestatic 184, 3) := by decide +kernel
theorem dX7_machine_147 : decode cX7_machine 147 = .ok (.iconst 2, 1) := by decide +kernel
theorem dX7_machine_148 : decode cX7_machine 148 = .ok (.aload_n 0, 1) := by decide +kernel
theorem dX7_machine_149 : decode cX7_machine 149 = .ok (.getfield 26, 3) := by decide +kernel
theorem dX7_machine_152 : decode cX7_machine 152 = .ok (.getfield 188, 3) := by decide +kernel
theorem dX7_machine_155 : decode cX7_machine 155 = .ok (.iload_n 1, 1) := by decide +kernel
theorem dX7_machine_156 : decode cX7_machine 156 = .ok (.invokestatic 184, 3) := by decide +kernel
theorem dX7_machine_159 : decode cX7_machine 159 = .ok (.imul, 1) := by decide +kernel
theorem dX7_machine_160 : decode cX7_machine 160 = .ok (.iadd, 1) := by decide +kernel
theorem dX7_machine_161 : decode cX7_machine 161 = .ok (.ireturn, 1) := by decide +kernel
theorem dX7_machine_162 : decode cX7_machine 162 = .ok (.aload_n 0, 1) := by decide +kernel
theorem dX7_machine_163 : decode cX7_machine 163 = .ok (.getfield 26, 3) := by decide +kernel
theorem dX7_machine_166 : decode cX7_machine 166 = .ok (.getfield 191, 3) := by decide +kernel
theorem dX7_machine_169 : decode cX7_machine 169 = .ok (.iload_n 1, 1) := by decide +kernel
theorem dX7_machine_170 : decode cX7_machine 170 = .ok (.iaload, 1) := by decide +kernel
theorem dX7_machine_171 : decode cX7_machine 171 = .ok (.ireturn, 1) := by decide +kernel
theorem dX7_machine_172 : decode cX7_machine 172 = .ok (.aload_n 0, 1) := by decide +kernel
theorem dX7_machine_173 : decode cX7_machine 173 = .ok (.getfield 26, 3) := by decide +kernel
theorem dX7_machine_176 : decode cX7_machine 176 = .ok (.getfield 194, 3) := by decide +kernel
theorem dX7_machine_179 : decode cX7_machine 179 = .ok (.iload_n 1, 1) := by decide +kernel
theorem dX7_machine_180 : decode cX7_machine 180 = .ok (.iaload, 1) := by decide +kernel
theorem dX7_machine_181 : decode cX7_machine 181 = .ok (.ireturn, 1) := by decide +kernel
theorem dX7_machine_182 : decode cX7_machine 182 = .ok (.aload_n 0, 1) := by decide +kernel
theorem dX7_machine_183 : decode cX7_machine 183 = .ok (.getfield 26, 3) := by decide +kernel
theorem dX7_machine_186 : decode cX7_machine 186 = .ok (.getfield 125, 3) := by decide +kernel
theorem dX7_machine_189 : decode cX7_machine 189 = .ok (.iload_n 1, 1) := by decide +kernel
theorem dX7_machine_190 : decode cX7_machine 190 = .ok (.invokestatic 184, 3) := by decide +kernel
theorem dX7_machine_193 : decode cX7_machine 193 = .ok (.ireturn, 1) := by decide +kernel
theorem dX7_machine_194 : decode cX7_machine 194 = .ok (.aload_n 0, 1) := by decide +kernel
theorem dX7_machine_195 : decode cX7_machine 195 = .ok (.getfield 45, 3) := by decide +kernel
theorem dX7_machine_198 : decode cX7_machine 198 = .ok (.aload_n 0, 1) := by decide +kernel
theorem dX7_machine_199 : decode cX7_machine 199 = .ok (.getfield 26, 3) := by decide +kernel
theorem dX7_machine_202 : decode cX7_machine 202 = .ok (.iload_n 1, 1) := by decide +kernel
theorem dX7_machine_203 : decode cX7_machine 203 = .ok (.aload_n 0, 1) := by decide +kernel
theorem dX7_machine_204 : decode cX7_machine 204 = .ok (.getfield 26, 3) := by decide +kernel
theorem dX7_machine_207 : decode cX7_machine 207 = .ok (.getfield 147, 3) := by decide +kernel
theorem dX7_machine_210 : decode cX7_machine 210 = .ok (.iconst 1, 1) := by decide +kernel
theorem dX7_machine_211 : decode cX7_machine 211 = .ok (.iadd, 1) := by decide +kernel
theorem dX7_machine_212 : decode cX7_machine 212 = .ok (.invokevirtual 197, 3) := by decide +kernel
theorem dX7_machine_215 : decode cX7_machine 215 = .ok (.ifCond .eq 7, 3) := by decide +kernel
theorem dX7_machine_218 : decode cX7_machine 218 = .ok (.iconst 1, 1) := by decide +kernel
theorem dX7_machine_219 : decode cX7_machine 219 = .ok (.goto 4, 3) := by decide +kernel
theorem dX7_machine_222 : decode cX7_machine 222 = .ok (.iconst 0, 1) := by decide +kernel
theorem dX7_machine_223 : decode cX7_machine 223 = .ok (.ireturn, 1) := by decide +kernel
theorem dX7_machine_224 : decode cX7_machine 224 = .ok (.aload_n 0, 1) := by decide +kernel
theorem dX7_machine_225 : decode cX7_machine 225 = .ok (.getfield 45, 3) := by decide +kernel
theorem dX7_machine_228 : decode cX7_machine 228 = .ok (.aload_n 0, 1) := by decide +kernel
theorem dX7_machine_229 : decode cX7_machine 229 = .ok (.getfield 26, 3) := by decide +kernel
theorem dX7_machine_232 : decode cX7_machine 232 = .ok (.iload_n 1, 1) := by decide +kernel
theorem dX7_machine_233 : decode cX7_machine 233 = .ok (.invokevirtual 201, 3) := by decide +kernel
theorem dX7_machine_236 : decode cX7_machine 236 = .ok (.ireturn, 1) := by decide +kernel
theorem dX7_machine_237 : decode cX7_machine 237 = .ok (.aload_n 0, 1) := by decide +kernel
theorem dX7_machine_238 : decode cX7_machine 238 = .ok (.getfield 26, 3) := by decide +kernel
theorem dX7_machine_241 : decode cX7_machine 241 = .ok (.iload_n 1, 1) := by decide +kernel
theorem dX7_machine_242 : decode cX7_machine 242 = .ok (.invokevirtual 205, 3) := by decide +kernel
theorem dX7_machine_245 : decode cX7_machine 245 = .ok (.ireturn, 1) := by decide +kernel
theorem dX7_machine_246 : decode cX7_machine 246 = .ok (.iconst (-1), 1) := by decide +kernel
theorem dX7_machine_247 : decode cX7_machine 247 = .ok (.ireturn, 1) := by decide +kernel
theorem dX7_power_0 : decode cX7_power 0 = .ok (.aload_n 0, 1) := by decide +kernel
theorem dX7_power_1 : decode cX7_power 1 = .ok (.iload_n 1, 1) := by decide +kernel
theorem dX7_power_2 : decode cX7_power 2 = .ok (.invokevirtual 121, 3) := by decide +kernel
theorem dX7_power_5 : decode cX7_power 5 = .ok (.ifCond .eq 23, 3) := by decide +kernel
theorem dX7_power_8 : decode cX7_power 8 = .ok (.iload_n 2, 1) := by decide +kernel
theorem dX7_power_9 : decode cX7_power 9 = .ok (.ifCond .lt 19, 3) := by decide +kernel
theorem dX7_power_12 : decode cX7_power 12 = .ok (.iload_n 2, 1) := by decide +kernel
theorem dX7_power_13 : decode cX7_power 13 = .ok (.bipush 99, 2) := by decide +kernel
theorem dX7_power_15 : decode cX7_power 15 = .ok (.if_icmp .gt 13, 3) := by decide +kernel
theorem dX7_power_18 : decode cX7_power 18 = .ok (.iload_n 3, 1) := by decide +kernel
theorem dX7_power_19 : decode cX7_power 19 = .ok (.ifCond .lt 9, 3) := by decide +kernel
theorem dX7_power_22 : decode cX7_power 22 = .ok (.iload_n 3, 1) := by decide +kernel
theorem dX7_power_23 : decode cX7_power 23 = .ok (.bipush 45, 2) := by decide +kernel
theorem dX7_power_25 : decode cX7_power 25 = .ok (.if_icmp .le 5, 3) := by decide +kernel
theorem dX7_power_28 : decode cX7_power 28 = .ok (.iconst (-1), 1) := by decide +kernel
theorem dX7_power_29 : decode cX7_power 29 = .ok (.ireturn, 1) := by decide +kernel
theorem dX7_power_30 : decode cX7_power 30 = .ok (.aload_n 0, 1) := by decide +kernel
theorem dX7_power_31 : decode cX7_power 31 = .ok (.getfield 19, 3) := by decide +kernel
theorem dX7_power_34 : decode cX7_power 34 = .ok (.iload_n 1, 1) := by decide +kernel
theorem dX7_power_35 : decode cX7_power 35 = .ok (.iload_n 2, 1) := by decide +kernel
theorem dX7_power_36 : decode cX7_power 36 = .ok (.iload_n 3, 1) := by decide +kernel
theorem dX7_power_37 : decode cX7_power 37 = .ok (.invokevirtual 208, 3) := by decide +kernel
theorem dX7_power_40 : decode cX7_power 40 = .ok (.ireturn, 1) := by decide +kernel
theorem dX7_share_0 : decode cX7_share 0 = .ok (.iload_n 1, 1) := by decide +kernel
theorem dX7_share_1 : decode cX7_share 1 = .ok (.ifCond .lt 34, 3) := by decide +kernel
theorem dX7_share_4 : decode cX7_share 4 = .ok (.iload_n 1, 1) := by decide +kernel
theorem dX7_share_5 : decode cX7_share 5 = .ok (.aload_n 0, 1) := by decide +kernel
theorem dX7_share_6 : decode cX7_share 6 = .ok (.getfield 19, 3) := by decide +kernel
theorem dX7_share_9 : decode cX7_share 9 = .ok (.invokevirtual 212, 3) := by decide +kernel
theorem dX7_share_12 : decode cX7_share 12 = .ok (.if_icmp .gt 23, 3) := by decide +kernel
theorem dX7_share_15 : decode cX7_share 15 = .ok (.iload_n 2, 1) := by decide +kernel
theorem dX7_share_16 : decode cX7_share 16 = .ok (.invokestatic 215, 3) := by decide +kernel
theorem dX7_share_19 : decode cX7_share 19 = .ok (.ifCond .eq 16, 3) := by decide +kernel
theorem dX7_share_22 : decode cX7_share 22 = .ok (.iload_n 3, 1) := by decide +kernel
theorem dX7_share_23 : decode cX7_share 23 = .ok (.iconst (-1), 1) := by decide +kernel
theorem dX7_share_24 : decode cX7_share 24 = .ok (.if_icmp .eq 13, 3) := by decide +kernel
theorem dX7_share_27 : decode cX7_share 27 = .ok (.aload_n 0, 1) := by decide +kernel
theorem dX7_share_28 : decode cX7_share 28 = .ok (.iload_n 3, 1) := by decide +kernel
theorem dX7_share_29 : decode cX7_share 29 = .ok (.invokevirtual 121, 3) := by decide +kernel
theorem dX7_share_32 : decode cX7_share 32 = .ok (.ifCond .ne 5, 3) := by decide +kernel
theorem dX7_share_35 : decode cX7_share 35 = .ok (.iconst (-1), 1) := by decide +kernel
theorem dX7_share_36 : decode cX7_share 36 = .ok (.ireturn, 1) := by decide +kernel
theorem dX7_share_37 : decode cX7_share 37 = .ok (.aload_n 0, 1) := by decide +kernel
theorem dX7_share_38 : decode cX7_share 38 = .ok (.getfield 52, 3) := by decide +kernel
theorem dX7_share_41 : decode cX7_share 41 = .ok (.iload_n 1, 1) := by decide +kernel
theorem dX7_share_42 : decode cX7_share 42 = .ok (.iload_n 2, 1) := by decide +kernel
theorem dX7_share_43 : decode cX7_share 43 = .ok (.aload_n 0, 1) := by decide +kernel
theorem dX7_share_44 : decode cX7_share 44 = .ok (.getfield 26, 3) := by decide +kernel
theorem dX7_share_47 : decode cX7_share 47 = .ok (.invokevirtual 218, 3) := by decide +kernel
theorem dX7_share_50 : decode cX7_share 50 = .ok (.invokevirtual 221, 3) := by decide +kernel
theorem dX7_share_53 : decode cX7_share 53 = .ok (.ifCond .ne 6, 3) := by decide +kernel
theorem dX7_share_56 : decode cX7_share 56 = .ok (.bipush (-4), 2) := by decide +kernel
theorem dX7_share_58 : decode cX7_share 58 = .ok (.ireturn, 1) := by decide +kernel
theorem dX7_share_59 : decode cX7_share 59 = .ok (.iload_n 3, 1) := by decide +kernel
theorem dX7_share_60 : decode cX7_share 60 = .ok (.iconst (-1), 1) := by decide +kernel
theorem dX7_share_61 : decode cX7_share 61 = .ok (.if_icmp .ne 13, 3) := by decide +kernel
theorem dX7_share_64 : decode cX7_share 64 = .ok (.aload_n 0, 1) := by decide +kernel
theorem dX7_share_65 : decode cX7_share 65 = .ok (.getfield 52, 3) := by decide +kernel
theorem dX7_share_68 : decode cX7_share 68 = .ok (.invokevirtual 225, 3) := by decide +kernel
theorem dX7_share_71 : decode cX7_share 71 = .ok (.goto 11, 3) := by decide +kernel
theorem dX7_share_74 : decode cX7_share 74 = .ok (.aload_n 0, 1) := by decide +kernel
theorem dX7_share_75 : decode cX7_share 75 = .ok (.getfield 52, 3) := by decide +kernel
theorem dX7_share_78 : decode cX7_share 78 = .ok (.iload_n 3, 1) := by decide +kernel
theorem dX7_share_79 : decode cX7_share 79 = .ok (.invokevirtual 228, 3) := by decide +kernel
theorem dX7_share_82 : decode cX7_share 82 = .ok (.ireturn, 1) := by decide +kernel
theorem dX7_best_0 : decode cX7_best 0 = .ok (.iload_n 1, 1) := by decide +kernel
theorem dX7_best_1 : decode cX7_best 1 = .ok (.invokestatic 215, 3) := by decide +kernel
theorem dX7_best_4 : decode cX7_best 4 = .ok (.ifCond .eq 12, 3) := by decide +kernel
theorem dX7_best_7 : decode cX7_best 7 = .ok (.iload_n 2, 1) := by decide +kernel
theorem dX7_best_8 : decode cX7_best 8 = .ok (.ifCond .lt 8, 3) := by decide +kernel
theorem dX7_best_11 : decode cX7_best 11 = .ok (.iload_n 2, 1) := by decide +kernel
theorem dX7_best_12 : decode cX7_best 12 = .ok (.iconst 1, 1) := by decide +kernel
theorem dX7_best_13 : decode cX7_best 13 = .ok (.if_icmp .le 5, 3) := by decide +kernel
theorem dX7_best_16 : decode cX7_best 16 = .ok (.iconst (-1), 1) := by decide +kernel
theorem dX7_best_17 : decode cX7_best 17 = .ok (.ireturn, 1) := by decide +kernel
theorem dX7_best_18 : decode cX7_best 18 = .ok (.aload_n 0, 1) := by decide +kernel
theorem dX7_best_19 : decode cX7_best 19 = .ok (.getfield 59, 3) := by decide +kernel
theorem dX7_best_22 : decode cX7_best 22 = .ok (.aload_n 0, 1) := by decide +kernel
theorem dX7_best_23 : decode cX7_best 23 = .ok (.getfield 19, 3) := by decide +kernel
theorem dX7_best_26 : decode cX7_best 26 = .ok (.invokevirtual 212, 3) := by decide +kernel
theorem dX7_best_29 : decode cX7_best 29 = .ok (.aload_n 0, 1) := by decide +kernel
theorem dX7_best_30 : decode cX7_best 30 = .ok (.getfield 26, 3) := by decide +kernel
theorem dX7_best_33 : decode cX7_best 33 = .ok (.getfield 125, 3) := by decide +kernel
theorem dX7_best_36 : decode cX7_best 36 = .ok (.iconst (-1), 1) := by decide +kernel
theorem dX7_best_37 : decode cX7_best 37 = .ok (.ixor, 1) := by decide +kernel
theorem dX7_best_38 : decode cX7_best 38 = .ok (.iand, 1) := by decide +kernel
theorem dX7_best_39 : decode cX7_best 39 = .ok (.aload_n 0, 1) := by decide +kernel
theorem dX7_best_40 : decode cX7_best 40 = .ok (.getfield 26, 3) := by decide +kernel
theorem dX7_best_43 : decode cX7_best 43 = .ok (.invokevirtual 218, 3) := by decide +kernel
theorem dX7_best_46 : decode cX7_best 46 = .ok (.invokevirtual 231, 3) := by decide +kernel
theorem dX7_best_49 : decode cX7_best 49 = .ok (.aload_n 0, 1) := by decide +kernel
theorem dX7_best_50 : decode cX7_best 50 = .ok (.getfield 59, 3) := by decide +kernel
theorem dX7_best_53 : decode cX7_best 53 = .ok (.iload_n 1, 1) := by decide +kernel
theorem dX7_best_54 : decode cX7_best 54 = .ok (.invokevirtual 235, 3) := by decide +kernel
theorem dX7_best_57 : decode cX7_best 57 = .ok (.ifCond .ne 6, 3) := by decide +kernel
theorem dX7_best_60 : decode cX7_best 60 = .ok (.bipush (-4), 2) := by decide +kernel
theorem dX7_best_62 : decode cX7_best 62 = .ok (.ireturn, 1) := by decide +kernel
theorem dX7_best_63 : decode cX7_best 63 = .ok (.iload_n 2, 1) := by decide +kernel
theorem dX7_best_64 : decode cX7_best 64 = .ok (.ifCond .ne 14, 3) := by decide +kernel
theorem dX7_best_67 : decode cX7_best 67 = .ok (.aload_n 0, 1) := by decide +kernel
theorem dX7_best_68 : decode cX7_best 68 = .ok (.getfield 59, 3) := by decide +kernel
theorem dX7_best_71 : decode cX7_best 71 = .ok (.iload_n 1, 1) := by decide +kernel
theorem dX7_best_72 : decode cX7_best 72 = .ok (.invokevirtual 238, 3) := by decide +kernel
theorem dX7_best_75 : decode cX7_best 75 = .ok (.goto 11, 3) := by decide +kernel
theorem dX7_best_78 : decode cX7_best 78 = .ok (.aload_n 0, 1) := by decide +kernel
theorem dX7_best_79 : decode cX7_best 79 = .ok (.getfield 59, 3) := by decide +kernel
theorem dX7_best_82 : decode cX7_best 82 = .ok (.iload_n 1, 1) := by decide +kernel
theorem dX7_best_83 : decode cX7_best 83 = .ok (.invokevirtual 241, 3) := by decide +kernel
theorem dX7_best_86 : decode cX7_best 86 = .ok (.ireturn, 1) := by decide +kernel
theorem dX7_now_0 : decode cX7_now 0 = .ok (.aload_n 0, 1) := by decide +kernel
theorem dX7_now_1 : decode cX7_now 1 = .ok (.getfield 26, 3) := by decide +kernel
theorem dX7_now_4 : decode cX7_now 4 = .ok (.getfield 114, 3) := by decide +kernel
theorem dX7_now_7 : decode cX7_now 7 = .ok (.iconst 0, 1) := by decide +kernel
theorem dX7_now_8 : decode cX7_now 8 = .ok (.iaload, 1) := by decide +kernel
theorem dX7_now_9 : decode cX7_now 9 = .ok (.istore_n 2, 1) := by decide +kernel
theorem dX7_now_10 : decode cX7_now 10 = .ok (.aload_n 0, 1) := by decide +kernel
theorem dX7_now_11 : decode cX7_now 11 = .ok (.getfield 45, 3) := by decide +kernel
theorem dX7_now_14 : decode cX7_now 14 = .ok (.aload_n 0, 1) := by decide +kernel
theorem dX7_now_15 : decode cX7_now 15 = .ok (.getfield 26, 3) := by decide +kernel
theorem dX7_now_18 : decode cX7_now 18 = .ok (.invokevirtual 243, 3) := by decide +kernel
theorem dX7_now_21 : decode cX7_now 21 = .ok (.istore_n 3, 1) := by decide +kernel
theorem dX7_now_22 : decode cX7_now 22 = .ok (.iload_n 1, 1) := by decide +kernel
theorem dX7_now_23 : decode cX7_now 23 = .ok (.tableswitch 124 0 6 #[41, 43, 51, 59, 71, 100, 108], 41) := by decide +kernel
theorem dX7_now_64 : decode cX7_now 64 = .ok (.iload_n 3, 1) := by decide +kernel
theorem dX7_now_65 : decode cX7_now 65 = .ok (.ireturn, 1) := by decide +kernel
theorem dX7_now_66 : decode cX7_now 66 = .ok (.iconst 0, 1) := by decide +kernel
theorem dX7_now_67 : decode cX7_now 67 = .ok (.iload_n 2, 1) := by decide +kernel
theorem dX7_now_68 : decode cX7_now 68 = .ok (.iload_n 3, 1) := by decide +kernel
theorem dX7_now_69 : decode cX7_now 69 = .ok (.isub, 1) := by decide +kernel
theorem dX7_now_70 : decode cX7_now 70 = .ok (.invokestatic 247, 3) := by decide +kernel
theorem dX7_now_73 : decode cX7_now 73 = .ok (.ireturn, 1) := by decide +kernel
theorem dX7_now_74 : decode cX7_now 74 = .ok (.iconst 0, 1) := by decide +kernel
theorem dX7_now_75 : decode cX7_now 75 = .ok (.iload_n 3, 1) := by decide +kernel
theorem dX7_now_76 : decode cX7_now 76 = .ok (.iload_n 2, 1) := by decide +kernel
theorem dX7_now_77 : decode cX7_now 77 = .ok (.isub, 1) := by decide +kernel
theorem dX7_now_78 : decode cX7_now 78 = .ok (.invokestatic 247, 3) := by decide +kernel
theorem dX7_now_81 : decode cX7_now 81 = .ok (.ireturn, 1) := by decide +kernel
theorem dX7_now_82 : decode cX7_now 82 = .ok (.aload_n 0, 1) := by decide +kernel
theorem dX7_now_83 : decode cX7_now 83 = .ok (.getfield 45, 3) := by decide +kernel
theorem dX7_now_86 : decode cX7_now 86 = .ok (.aload_n 0, 1) := by decide +kernel
theorem dX7_now_87 : decode cX7_now 87 = .ok (.getfield 26, 3) := by decide +kernel
theorem dX7_now_90 : decode cX7_now 90 = .ok (.invokevirtual 252, 3) := by decide +kernel
theorem dX7_now_93 : decode cX7_now 93 = .ok (.ireturn, 1) := by decide +kernel
theorem dX7_now_94 : decode cX7_now 94 = .ok (.iconst 0, 1) := by decide +kernel
theorem dX7_now_95 : decode cX7_now 95 = .ok (.aload_n 0, 1) := by decide +kernel
theorem dX7_now_96 : decode cX7_now 96 = .ok (.getfield 19, 3) := by decide +kernel
theorem dX7_now_99 : decode cX7_now 99 = .ok (.aload_n 0, 1) := by decide +kernel
theorem dX7_now_100 : decode cX7_now 100 = .ok (.getfield 26, 3) := by decide +kernel
theorem dX7_now_103 : decode cX7_now 103 = .ok (.invokevirtual 141, 3) := by decide +kernel
theorem dX7_now_106 : decode cX7_now 106 = .ok (.invokevirtual 255, 3) := by decide +kernel
theorem dX7_now_109 : decode cX7_now 109 = .ok (.aload_n 0, 1) := by decide +kernel
theorem dX7_now_110 : decode cX7_now 110 = .ok (.getfield 26, 3) := by decide +kernel
theorem dX7_now_113 : decode cX7_now 113 = .ok (.getfield 114, 3) := by decide +kernel
theorem dX7_now_116 : decode cX7_now 116 = .ok (.iconst 1, 1) := by decide +kernel
theorem dX7_now_117 : decode cX7_now 117 = .ok (.iaload, 1) := by decide +kernel
theorem dX7_now_118 : decode cX7_now 118 = .ok (.isub, 1) := by decide +kernel
theorem dX7_now_119 : decode cX7_now 119 = .ok (.invokestatic 247, 3) := by decide +kernel
theorem dX7_now_122 : decode cX7_now 122 = .ok (.ireturn, 1) := by decide +kernel
theorem dX7_now_123 : decode cX7_now 123 = .ok (.aload_n 0, 1) := by decide +kernel
theorem dX7_now_124 : decode cX7_now 124 = .ok (.getfield 26, 3) := by decide +kernel
theorem dX7_now_127 : decode cX7_now 127 = .ok (.invokevirtual 218, 3) := by decide +kernel
theorem dX7_now_130 : decode cX7_now 130 = .ok (.ireturn, 1) := by decide +kernel
theorem dX7_now_131 : decode cX7_now 131 = .ok (.iload_n 3, 1) := by decide +kernel
theorem dX7_now_132 : decode cX7_now 132 = .ok (.iload_n 2, 1) := by decide +kernel
theorem dX7_now_133 : decode cX7_now 133 = .ok (.if_icmp .ne 11, 3) := by decide +kernel
theorem dX7_now_136 : decode cX7_now 136 = .ok (.aload_n 0, 1) := by decide +kernel
theorem dX7_now_137 : decode cX7_now 137 = .ok (.iload_n 2, 1) := by decide +kernel
theorem dX7_now_138 : decode cX7_now 138 = .ok (.invokevirtual 258, 3) := by decide +kernel
theorem dX7_now_141 : decode cX7_now 141 = .ok (.goto 5, 3) := by decide +kernel
theorem dX7_now_144 : decode cX7_now 144 = .ok (.bipush (-4), 2) := by decide +kernel
theorem dX7_now_146 : decode cX7_now 146 = .ok (.ireturn, 1) := by decide +kernel
theorem dX7_now_147 : decode cX7_now 147 = .ok (.iconst (-1), 1) := by decide +kernel
theorem dX7_now_148 : decode cX7_now 148 = .ok (.ireturn, 1) := by decide +kernel
theorem dX7_ahead_0 : decode cX7_ahead 0 = .ok (.iload_n 1, 1) := by decide +kernel
theorem dX7_ahead_1 : decode cX7_ahead 1 = .ok (.iconst 1, 1) := by decide +kernel
theorem dX7_ahead_2 : decode cX7_ahead 2 = .ok (.if_icmp .lt 18, 3) := by decide +kernel
theorem dX7_ahead_5 : decode cX7_ahead 5 = .ok (.iload_n 1, 1) := by decide +kernel
theorem dX7_ahead_6 : decode cX7_ahead 6 = .ok (.bipush 60, 2) := by decide +kernel
theorem dX7_ahead_8 : decode cX7_ahead 8 = .ok (.if_icmp .gt 12, 3) := by decide +kernel
theorem dX7_ahead_11 : decode cX7_ahead 11 = .ok (.iload_n 2, 1) := by decide +kernel
theorem dX7_ahead_12 : decode cX7_ahead 12 = .ok (.ifCond .lt 8, 3) := by decide +kernel
theorem dX7_ahead_15 : decode cX7_ahead 15 = .ok (.iload_n 2, 1) := by decide +kernel
theorem dX7_ahead_16 : decode cX7_ahead 16 = .ok (.iconst 3, 1) := by decide +kernel
theorem dX7_ahead_17 : decode cX7_ahead 17 = .ok (.if_icmp .le 5, 3) := by decide +kernel
theorem dX7_ahead_20 : decode cX7_ahead 20 = .ok (.iconst (-1), 1) := by decide +kernel
theorem dX7_ahead_21 : decode cX7_ahead 21 = .ok (.ireturn, 1) := by decide +kernel
theorem dX7_ahead_22 : decode cX7_ahead 22 = .ok (.aload_n 0, 1) := by decide +kernel
theorem dX7_ahead_23 : decode cX7_ahead 23 = .ok (.getfield 30, 3) := by decide +kernel
theorem dX7_ahead_26 : decode cX7_ahead 26 = .ok (.aload_n 0, 1) := by decide +kernel
theorem dX7_ahead_27 : decode cX7_ahead 27 = .ok (.getfield 26, 3) := by decide +kernel
theorem dX7_ahead_30 : decode cX7_ahead 30 = .ok (.invokevirtual 261, 3) := by decide +kernel
theorem dX7_ahead_33 : decode cX7_ahead 33 = .ok (.iconst 0, 1) := by decide +kernel
theorem dX7_ahead_34 : decode cX7_ahead 34 = .ok (.istore_n 3, 1) := by decide +kernel
theorem dX7_ahead_35 : decode cX7_ahead 35 = .ok (.iconst 0, 1) := by decide +kernel
theorem dX7_ahead_36 : decode cX7_ahead 36 = .ok (.istore 4, 2) := by decide +kernel
theorem dX7_ahead_38 : decode cX7_ahead 38 = .ok (.iload 4, 2) := by decide +kernel
theorem dX7_ahead_40 : decode cX7_ahead 40 = .ok (.iload_n 1, 1) := by decide +kernel
theorem dX7_ahead_41 : decode cX7_ahead 41 = .ok (.if_icmp .ge 46, 3) := by decide +kernel
theorem dX7_ahead_44 : decode cX7_ahead 44 = .ok (.aload_n 0, 1) := by decide +kernel
theorem dX7_ahead_45 : decode cX7_ahead 45 = .ok (.getfield 45, 3) := by decide +kernel
theorem dX7_ahead_48 : decode cX7_ahead 48 = .ok (.aload_n 0, 1) := by decide +kernel
theorem dX7_ahead_49 : decode cX7_ahead 49 = .ok (.getfield 30, 3) := by decide +kernel
theorem dX7_ahead_52 : decode cX7_ahead 52 = .ok (.invokevirtual 153, 3) := by decide +kernel
theorem dX7_ahead_55 : decode cX7_ahead 55 = .ok (.aload_n 0, 1) := by decide +kernel
theorem dX7_ahead_56 : decode cX7_ahead 56 = .ok (.getfield 45, 3) := by decide +kernel
theorem dX7_ahead_59 : decode cX7_ahead 59 = .ok (.aload_n 0, 1) := by decide +kernel
theorem dX7_ahead_60 : decode cX7_ahead 60 = .ok (.getfield 30, 3) := by decide +kernel
theorem dX7_ahead_63 : decode cX7_ahead 63 = .ok (.invokevirtual 243, 3) := by decide +kernel
theorem dX7_ahead_66 : decode cX7_ahead 66 = .ok (.aload_n 0, 1) := by decide +kernel
theorem dX7_ahead_67 : decode cX7_ahead 67 = .ok (.getfield 30, 3) := by decide +kernel
theorem dX7_ahead_70 : decode cX7_ahead 70 = .ok (.getfield 114, 3) := by decide +kernel
theorem dX7_ahead_73 : decode cX7_ahead 73 = .ok (.iconst 0, 1) := by decide +kernel
theorem dX7_ahead_74 : decode cX7_ahead 74 = .ok (.iaload, 1) := by decide +kernel
theorem dX7_ahead_75 : decode cX7_ahead 75 = .ok (.if_icmp .ge 6, 3) := by decide +kernel
theorem dX7_ahead_78 : decode cX7_ahead 78 = .ok (.iinc 3 1, 3) := by decide +kernel
theorem dX7_ahead_81 : decode cX7_ahead 81 = .ok (.iinc 4 1, 3) := by decide +kernel
theorem dX7_ahead_84 : decode cX7_ahead 84 = .ok (.goto (-46), 3) := by decide +kernel
theorem dX7_ahead_87 : decode cX7_ahead 87 = .ok (.iload_n 2, 1) := by decide +kernel
theorem dX7_ahead_88 : decode cX7_ahead 88 = .ok (.tableswitch 71 0 2 #[28, 39, 55], 28) := by decide +kernel
theorem dX7_ahead_116 : decode cX7_ahead 116 = .ok (.aload_n 0, 1) := by decide +kernel
theorem dX7_ahead_117 : decode cX7_ahead 117 = .ok (.getfield 30, 3) := by decide +kernel
theorem dX7_ahead_120 : decode cX7_ahead 120 = .ok (.invokevirtual 141, 3) := by decide +kernel
theorem dX7_ahead_123 : decode cX7_ahead 123 = .ok (.invokestatic 135, 3) := by decide +kernel
theorem dX7_ahead_126 : decode cX7_ahead 126 = .ok (.ireturn, 1) := by decide +kernel
theorem dX7_ahead_127 : decode cX7_ahead 127 = .ok (.aload_n 0, 1) := by decide +kernel
theorem dX7_ahead_128 : decode cX7_ahead 128 = .ok (.getfield 30, 3) := by decide +kernel
theorem dX7_ahead_131 : decode cX7_ahead 131 = .ok (.invokevirtual 150, 3) := by decide +kernel
theorem dX7_ahead_134 : decode cX7_ahead 134 = .ok (.aload_n 0, 1) := by decide +kernel
theorem dX7_ahead_135 : decode cX7_ahead 135 = .ok (.getfield 26, 3) := by decide +kernel
theorem dX7_ahead_138 : decode cX7_ahead 138 = .ok (.invokevirtual 150, 3) := by decide +kernel
theorem dX7_ahead_141 : decode cX7_ahead 141 = .ok (.isub, 1) := by decide +kernel
theorem dX7_ahead_142 : decode cX7_ahead 142 = .ok (.ireturn, 1) := by decide +kernel
theorem dX7_ahead_143 : decode cX7_ahead 143 = .ok (.aload_n 0, 1) := by decide +kernel
theorem dX7_ahead_144 : decode cX7_ahead 144 = .ok (.getfield 30, 3) := by decide +kernel
theorem dX7_ahead_147 : decode cX7_ahead 147 = .ok (.getfield 264, 3) := by decide +kernel
theorem dX7_ahead_150 : decode cX7_ahead 150 = .ok (.aload_n 0, 1) := by decide +kernel
theorem dX7_ahead_151 : decode cX7_ahead 151 = .ok (.getfield 26, 3) := by decide +kernel
theorem dX7_ahead_154 : decode cX7_ahead 154 = .ok (.getfield 264, 3) := by decide +kernel
theorem dX7_ahead_157 : decode cX7_ahead 157 = .ok (.isub, 1) := by decide +kernel
theorem dX7_ahead_158 : decode cX7_ahead 158 = .ok (.ireturn, 1) := by decide +kernel
theorem dX7_ahead_159 : decode cX7_ahead 159 = .ok (.iload_n 3, 1) := by decide +kernel
theorem dX7_ahead_160 : decode cX7_ahead 160 = .ok (.ireturn, 1) := by decide +kernel
theorem dX7_count_0 : decode cX7_count 0 = .ok (.iload_n 1, 1) := by decide +kernel
theorem dX7_count_1 : decode cX7_count 1 = .ok (.tableswitch 224 0 15 #[79, 87, 98, 109, 120, 128, 136, 144, 152, 160, 168, 178, 188, 198, 208, 216], 79) := by decide +kernel
theorem dX7_count_80 : decode cX7_count 80 = .ok (.aload_n 0, 1) := by decide +kernel
theorem dX7_count_81 : decode cX7_count 81 = .ok (.getfield 19, 3) := by decide +kernel
theorem dX7_count_84 : decode cX7_count 84 = .ok (.getfield 105, 3) := by decide +kernel
theorem dX7_count_87 : decode cX7_count 87 = .ok (.ireturn, 1) := by decide +kernel
theorem dX7_count_88 : decode cX7_count 88 = .ok (.aload_n 0, 1) := by decide +kernel
theorem dX7_count_89 : decode cX7_count 89 = .ok (.getfield 26, 3) := by decide +kernel
theorem dX7_count_92 : decode cX7_count 92 = .ok (.invokevirtual 141, 3) := by decide +kernel
theorem dX7_count_95 : decode cX7_count 95 = .ok (.invokestatic 135, 3) := by decide +kernel
theorem dX7_count_98 : decode cX7_count 98 = .ok (.ireturn, 1) := by decide +kernel
theorem dX7_count_99 : decode cX7_count 99 = .ok (.aload_n 0, 1) := by decide +kernel
theorem dX7_count_100 : decode cX7_count 100 = .ok (.getfield 26, 3) := by decide +kernel
theorem dX7_count_103 : decode cX7_count 103 = .ok (.getfield 188, 3) := by decide +kernel
theorem dX7_count_106 : decode cX7_count 106 = .ok (.invokestatic 135, 3) := by decide +kernel
theorem dX7_count_109 : decode cX7_count 109 = .ok (.ireturn, 1) := by decide +kernel
theorem dX7_count_110 : decode cX7_count 110 = .ok (.aload_n 0, 1) := by decide +kernel
theorem dX7_count_111 : decode cX7_count 111 = .ok (.getfield 26, 3) := by decide +kernel
theorem dX7_count_114 : decode cX7_count 114 = .ok (.getfield 125, 3) := by decide +kernel
theorem dX7_count_117 : decode cX7_count 117 = .ok (.invokestatic 135, 3) := by decide +kernel
theorem dX7_count_120 : decode cX7_count 120 = .ok (.ireturn, 1) := by decide +kernel
theorem dX7_count_121 : decode cX7_count 121 = .ok (.aload_n 0, 1) := by decide +kernel
theorem dX7_count_122 : decode cX7_count 122 = .ok (.getfield 26, 3) := by decide +kernel
theorem dX7_count_125 : decode cX7_count 125 = .ok (.getfield 267, 3) := by decide +kernel
theorem dX7_count_128 : decode cX7_count 128 = .ok (.ireturn, 1) := by decide +kernel
theorem dX7_count_129 : decode cX7_count 129 = .ok (.aload_n 0, 1) := by decide +kernel
theorem dX7_count_130 : decode cX7_count 130 = .ok (.getfield 26, 3) := by decide +kernel
theorem dX7_count_133 : decode cX7_count 133 = .ok (.getfield 147, 3) := by decide +kernel
theorem dX7_count_136 : decode cX7_count 136 = .ok (.ireturn, 1) := by decide +kernel
theorem dX7_count_137 : decode cX7_count 137 = .ok (.aload_n 0, 1) := by decide +kernel
theorem dX7_count_138 : decode cX7_count 138 = .ok (.getfield 26, 3) := by decide +kernel
theorem dX7_count_141 : decode cX7_count 141 = .ok (.getfield 270, 3) := by decide +kernel
theorem dX7_count_144 : decode cX7_count 144 = .ok (.ireturn, 1) := by decide +kernel
theorem dX7_count_145 : decode cX7_count 145 = .ok (.aload_n 0, 1) := by decide +kernel
theorem dX7_count_146 : decode cX7_count 146 = .ok (.getfield 26, 3) := by decide +kernel
theorem dX7_count_149 : decode cX7_count 149 = .ok (.getfield 273, 3) := by decide +kernel
theorem dX7_count_152 : decode cX7_count 152 = .ok (.ireturn, 1) := by decide +kernel
theorem dX7_count_153 : decode cX7_count 153 = .ok (.aload_n 0, 1) := by decide +kernel
theorem dX7_count_154 : decode cX7_count 154 = .ok (.getfield 26, 3) := by decide +kernel
theorem dX7_count_157 : decode cX7_count 157 = .ok (.invokevirtual 150, 3) := by decide +kernel
theorem dX7_count_160 : decode cX7_count 160 = .ok (.ireturn, 1) := by decide +kernel
theorem dX7_count_161 : decode cX7_count 161 = .ok (.aload_n 0, 1) := by decide +kernel
theorem dX7_count_162 : decode cX7_count 162 = .ok (.getfield 26, 3) := by decide +kernel
theorem dX7_count_165 : decode cX7_count 165 = .ok (.getfield 264, 3) := by decide +kernel
theorem dX7_count_168 : decode cX7_count 168 = .ok (.ireturn, 1) := by decide +kernel
theorem dX7_count_169 : decode cX7_count 169 = .ok (.aload_n 0, 1) := by decide +kernel
theorem dX7_count_170 : decode cX7_count 170 = .ok (.getfield 26, 3) := by decide +kernel
theorem dX7_count_173 : decode cX7_count 173 = .ok (.getfield 114, 3) := by decide +kernel
theorem dX7_count_176 : decode cX7_count 176 = .ok (.iconst 0, 1) := by decide +kernel
theorem dX7_count_177 : decode cX7_count 177 = .ok (.iaload, 1) := by decide +kernel
theorem dX7_count_178 : decode cX7_count 178 = .ok (.ireturn, 1) := by decide +kernel
theorem dX7_count_179 : decode cX7_count 179 = .ok (.aload_n 0, 1) := by decide +kernel
theorem dX7_count_180 : decode cX7_count 180 = .ok (.getfield 26, 3) := by decide +kernel
theorem dX7_count_183 : decode cX7_count 183 = .ok (.getfield 114, 3) := by decide +kernel
theorem dX7_count_186 : decode cX7_count 186 = .ok (.iconst 1, 1) := by decide +kernel
theorem dX7_count_187 : decode cX7_count 187 = .ok (.iaload, 1) := by decide +kernel
theorem dX7_count_188 : decode cX7_count 188 = .ok (.ireturn, 1) := by decide +kernel
theorem dX7_count_189 : decode cX7_count 189 = .ok (.aload_n 0, 1) := by decide +kernel
theorem dX7_count_190 : decode cX7_count 190 = .ok (.getfield 26, 3) := by decide +kernel
theorem dX7_count_193 : decode cX7_count 193 = .ok (.getfield 114, 3) := by decide +kernel
theorem dX7_count_196 : decode cX7_count 196 = .ok (.iconst 2, 1) := by decide +kernel
theorem dX7_count_197 : decode cX7_count 197 = .ok (.iaload, 1) := by decide +kernel
theorem dX7_count_198 : decode cX7_count 198 = .ok (.ireturn, 1) := by decide +kernel
theorem dX7_count_199 : decode cX7_count 199 = .ok (.aload_n 0, 1) := by decide +kernel
theorem dX7_count_200 : decode cX7_count 200 = .ok (.getfield 26, 3) := by decide +kernel
theorem dX7_count_203 : decode cX7_count 203 = .ok (.getfield 114, 3) := by decide +kernel
theorem dX7_count_206 : decode cX7_count 206 = .ok (.iconst 3, 1) := by decide +kernel
theorem dX7_count_207 : decode cX7_count 207 = .ok (.iaload, 1) := by decide +kernel
theorem dX7_count_208 : decode cX7_count 208 = .ok (.ireturn, 1) := by decide +kernel
theorem dX7_count_209 : decode cX7_count 209 = .ok (.aload_n 0, 1) := by decide +kernel
theorem dX7_count_210 : decode cX7_count 210 = .ok (.getfield 36, 3) := by decide +kernel
theorem dX7_count_213 : decode cX7_count 213 = .ok (.getfield 160, 3) := by decide +kernel
theorem dX7_count_216 : decode cX7_count 216 = .ok (.ireturn, 1) := by decide +kernel
theorem dX7_count_217 : decode cX7_count 217 = .ok (.aload_n 0, 1) := by decide +kernel
theorem dX7_count_218 : decode cX7_count 218 = .ok (.getfield 10, 3) := by decide +kernel
theorem dX7_count_221 : decode cX7_count 221 = .ok (.getfield 85, 3) := by decide +kernel
theorem dX7_count_224 : decode cX7_count 224 = .ok (.ireturn, 1) := by decide +kernel
theorem dX7_count_225 : decode cX7_count 225 = .ok (.iconst (-1), 1) := by decide +kernel
theorem dX7_count_226 : decode cX7_count 226 = .ok (.ireturn, 1) := by decide +kernel
theorem dX7_isMachine_0 : decode cX7_isMachine 0 = .ok (.iload_n 1, 1) := by decide +kernel
theorem dX7_isMachine_1 : decode cX7_isMachine 1 = .ok (.ifCond .lt 18, 3) := by decide +kernel
theorem dX7_isMachine_4 : decode cX7_isMachine 4 = .ok (.iload_n 1, 1) := by decide +kernel
theorem dX7_isMachine_5 : decode cX7_isMachine 5 = .ok (.aload_n 0, 1) := by decide +kernel
theorem dX7_isMachine_6 : decode cX7_isMachine 6 = .ok (.getfield 19, 3) := by decide +kernel
theorem dX7_isMachine_9 : decode cX7_isMachine 9 = .ok (.getfield 105, 3) := by decide +kernel
theorem dX7_isMachine_12 : decode cX7_isMachine 12 = .ok (.if_icmp .ge 7, 3) := by decide +kernel
theorem dX7_isMachine_15 : decode cX7_isMachine 15 = .ok (.iconst 1, 1) := by decide +kernel
theorem dX7_isMachine_16 : decode cX7_isMachine 16 = .ok (.goto 4, 3) := by decide +kernel
theorem dX7_isMachine_19 : decode cX7_isMachine 19 = .ok (.iconst 0, 1) := by decide +kernel
theorem dX7_isMachine_20 : decode cX7_isMachine 20 = .ok (.ireturn, 1) := by decide +kernel
theorem dX7_isLoad_0 : decode cX7_isLoad 0 = .ok (.iload_n 0, 1) := by decide +kernel
theorem dX7_isLoad_1 : decode cX7_isLoad 1 = .ok (.ifCond .lt 14, 3) := by decide +kernel
theorem dX7_isLoad_4 : decode cX7_isLoad 4 = .ok (.iload_n 0, 1) := by decide +kernel
theorem dX7_isLoad_5 : decode cX7_isLoad 5 = .ok (.sipush 480, 3) := by decide +kernel
theorem dX7_isLoad_8 : decode cX7_isLoad 8 = .ok (.if_icmp .gt 7, 3) := by decide +kernel
theorem dX7_isLoad_11 : decode cX7_isLoad 11 = .ok (.iconst 1, 1) := by decide +kernel
theorem dX7_isLoad_12 : decode cX7_isLoad 12 = .ok (.goto 4, 3) := by decide +kernel
theorem dX7_isLoad_15 : decode cX7_isLoad 15 = .ok (.iconst 0, 1) := by decide +kernel
theorem dX7_isLoad_16 : decode cX7_isLoad 16 = .ok (.ireturn, 1) := by decide +kernel
theorem dX7_bitOf_0 : decode cX7_bitOf 0 = .ok (.iload_n 0, 1) := by decide +kernel
theorem dX7_bitOf_1 : decode cX7_bitOf 1 = .ok (.iload_n 1, 1) := by decide +kernel
theorem dX7_bitOf_2 : decode cX7_bitOf 2 = .ok (.ishr, 1) := by decide +kernel
theorem dX7_bitOf_3 : decode cX7_bitOf 3 = .ok (.iconst 1, 1) := by decide +kernel
theorem dX7_bitOf_4 : decode cX7_bitOf 4 = .ok (.iand, 1) := by decide +kernel
theorem dX7_bitOf_5 : decode cX7_bitOf 5 = .ok (.ireturn, 1) := by decide +kernel
theorem dX7_aboveBest_0 : decode cX7_aboveBest 0 = .ok (.aload_n 0, 1) := by decide +kernel
theorem dX7_aboveBest_1 : decode cX7_aboveBest 1 = .ok (.getfield 59, 3) := by decide +kernel
theorem dX7_aboveBest_4 : decode cX7_aboveBest 4 = .ok (.aload_n 0, 1) := by decide +kernel
theorem dX7_aboveBest_5 : decode cX7_aboveBest 5 = .ok (.getfield 19, 3) := by decide +kernel
theorem dX7_aboveBest_8 : decode cX7_aboveBest 8 = .ok (.invokevirtual 212, 3) := by decide +kernel
theorem dX7_aboveBest_11 : decode cX7_aboveBest 11 = .ok (.aload_n 0, 1) := by decide +kernel
theorem dX7_aboveBest_12 : decode cX7_aboveBest 12 = .ok (.getfield 26, 3) := by decide +kernel
theorem dX7_aboveBest_15 : decode cX7_aboveBest 15 = .ok (.getfield 125, 3) := by decide +kernel
theorem dX7_aboveBest_18 : decode cX7_aboveBest 18 = .ok (.iconst (-1), 1) := by decide +kernel
theorem dX7_aboveBest_19 : decode cX7_aboveBest 19 = .ok (.ixor, 1) := by decide +kernel
theorem dX7_aboveBest_20 : decode cX7_aboveBest 20 = .ok (.iand, 1) := by decide +kernel
theorem dX7_aboveBest_21 : decode cX7_aboveBest 21 = .ok (.aload_n 0, 1) := by decide +kernel
theorem dX7_aboveBest_22 : decode cX7_aboveBest 22 = .ok (.getfield 26, 3) := by decide +kernel
theorem dX7_aboveBest_25 : decode cX7_aboveBest 25 = .ok (.invokevirtual 218, 3) := by decide +kernel
theorem dX7_aboveBest_28 : decode cX7_aboveBest 28 = .ok (.invokevirtual 231, 3) := by decide +kernel
theorem dX7_aboveBest_31 : decode cX7_aboveBest 31 = .ok (.aload_n 0, 1) := by decide +kernel
theorem dX7_aboveBest_32 : decode cX7_aboveBest 32 = .ok (.getfield 59, 3) := by decide +kernel
theorem dX7_aboveBest_35 : decode cX7_aboveBest 35 = .ok (.iload_n 1, 1) := by decide +kernel
theorem dX7_aboveBest_36 : decode cX7_aboveBest 36 = .ok (.invokevirtual 235, 3) := by decide +kernel
theorem dX7_aboveBest_39 : decode cX7_aboveBest 39 = .ok (.ifCond .eq 26, 3) := by decide +kernel
theorem dX7_aboveBest_42 : decode cX7_aboveBest 42 = .ok (.aload_n 0, 1) := by decide +kernel
theorem dX7_aboveBest_43 : decode cX7_aboveBest 43 = .ok (.getfield 45, 3) := by decide +kernel
theorem dX7_aboveBest_46 : decode cX7_aboveBest 46 = .ok (.aload_n 0, 1) := by decide +kernel
theorem dX7_aboveBest_47 : decode cX7_aboveBest 47 = .ok (.getfield 26, 3) := by decide +kernel
theorem dX7_aboveBest_50 : decode cX7_aboveBest 50 = .ok (.invokevirtual 252, 3) := by decide +kernel
theorem dX7_aboveBest_53 : decode cX7_aboveBest 53 = .ok (.aload_n 0, 1) := by decide +kernel
theorem dX7_aboveBest_54 : decode cX7_aboveBest 54 = .ok (.getfield 59, 3) := by decide +kernel
theorem dX7_aboveBest_57 : decode cX7_aboveBest 57 = .ok (.iload_n 1, 1) := by decide +kernel
theorem dX7_aboveBest_58 : decode cX7_aboveBest 58 = .ok (.invokevirtual 241, 3) := by decide +kernel
theorem dX7_aboveBest_61 : decode cX7_aboveBest 61 = .ok (.isub, 1) := by decide +kernel
theorem dX7_aboveBest_62 : decode cX7_aboveBest 62 = .ok (.goto 5, 3) := by decide +kernel
theorem dX7_aboveBest_65 : decode cX7_aboveBest 65 = .ok (.bipush (-4), 2) := by decide +kernel
theorem dX7_aboveBest_67 : decode cX7_aboveBest 67 = .ok (.ireturn, 1) := by decide +kernel
theorem dJ6_bitCount_0f7a4_0 : decode cJ6_bitCount_0f7a4 0 = .ok (.iload_n 0, 1) := by decide +kernel
theorem dJ6_bitCount_0f7a4_1 : decode cJ6_bitCount_0f7a4 1 = .ok (.iload_n 0, 1) := by decide +kernel
theorem dJ6_bitCount_0f7a4_2 : decode cJ6_bitCount_0f7a4 2 = .ok (.iconst 1, 1) := by decide +kernel
theorem dJ6_bitCount_0f7a4_3 : decode cJ6_bitCount_0f7a4 3 = .ok (.iushr, 1) := by decide +kernel
theorem dJ6_bitCount_0f7a4_4 : decode cJ6_bitCount_0f7a4 4 = .ok (.ldc_w 265, 3) := by decide +kernel
theorem dJ6_bitCount_0f7a4_7 : decode cJ6_bitCount_0f7a4 7 = .ok (.iand, 1) := by decide +kernel
theorem dJ6_bitCount_0f7a4_8 : decode cJ6_bitCount_0f7a4 8 = .ok (.isub, 1) := by decide +kernel
theorem dJ6_bitCount_0f7a4_9 : decode cJ6_bitCount_0f7a4 9 = .ok (.istore_n 0, 1) := by decide +kernel
theorem dJ6_bitCount_0f7a4_10 : decode cJ6_bitCount_0f7a4 10 = .ok (.iload_n 0, 1) := by decide +kernel
theorem dJ6_bitCount_0f7a4_11 : decode cJ6_bitCount_0f7a4 11 = .ok (.ldc_w 266, 3) := by decide +kernel
theorem dJ6_bitCount_0f7a4_14 : decode cJ6_bitCount_0f7a4 14 = .ok (.iand, 1) := by decide +kernel
theorem dJ6_bitCount_0f7a4_15 : decode cJ6_bitCount_0f7a4 15 = .ok (.iload_n 0, 1) := by decide +kernel
theorem dJ6_bitCount_0f7a4_16 : decode cJ6_bitCount_0f7a4 16 = .ok (.iconst 2, 1) := by decide +kernel
theorem dJ6_bitCount_0f7a4_17 : decode cJ6_bitCount_0f7a4 17 = .ok (.iushr, 1) := by decide +kernel
theorem dJ6_bitCount_0f7a4_18 : decode cJ6_bitCount_0f7a4 18 = .ok (.ldc_w 266, 3) := by decide +kernel
theorem dJ6_bitCount_0f7a4_21 : decode cJ6_bitCount_0f7a4 21 = .ok (.iand, 1) := by decide +kernel
theorem dJ6_bitCount_0f7a4_22 : decode cJ6_bitCount_0f7a4 22 = .ok (.iadd, 1) := by decide +kernel
theorem dJ6_bitCount_0f7a4_23 : decode cJ6_bitCount_0f7a4 23 = .ok (.istore_n 0, 1) := by decide +kernel
theorem dJ6_bitCount_0f7a4_24 : decode cJ6_bitCount_0f7a4 24 = .ok (.iload_n 0, 1) := by decide +kernel
theorem dJ6_bitCount_0f7a4_25 : decode cJ6_bitCount_0f7a4 25 = .ok (.iload_n 0, 1) := by decide +kernel
theorem dJ6_bitCount_0f7a4_26 : decode cJ6_bitCount_0f7a4 26 = .ok (.iconst 4, 1) := by decide +kernel
theorem dJ6_bitCount_0f7a4_27 : decode cJ6_bitCount_0f7a4 27 = .ok (.iushr, 1) := by decide +kernel
theorem dJ6_bitCount_0f7a4_28 : decode cJ6_bitCount_0f7a4 28 = .ok (.iadd, 1) := by decide +kernel
theorem dJ6_bitCount_0f7a4_29 : decode cJ6_bitCount_0f7a4 29 = .ok (.ldc_w 267, 3) := by decide +kernel
theorem dJ6_bitCount_0f7a4_32 : decode cJ6_bitCount_0f7a4 32 = .ok (.iand, 1) := by decide +kernel
theorem dJ6_bitCount_0f7a4_33 : decode cJ6_bitCount_0f7a4 33 = .ok (.istore_n 0, 1) := by decide +kernel
theorem dJ6_bitCount_0f7a4_34 : decode cJ6_bitCount_0f7a4 34 = .ok (.iload_n 0, 1) := by decide +kernel
theorem dJ6_bitCount_0f7a4_35 : decode cJ6_bitCount_0f7a4 35 = .ok (.iload_n 0, 1) := by decide +kernel
theorem dJ6_bitCount_0f7a4_36 : decode cJ6_bitCount_0f7a4 36 = .ok (.bipush 8, 2) := by decide +kernel
theorem dJ6_bitCount_0f7a4_38 : decode cJ6_bitCount_0f7a4 38 = .ok (.iushr, 1) := by decide +kernel
theorem dJ6_bitCount_0f7a4_39 : decode cJ6_bitCount_0f7a4 39 = .ok (.iadd, 1) := by decide +kernel
theorem dJ6_bitCount_0f7a4_40 : decode cJ6_bitCount_0f7a4 40 = .ok (.istore_n 0, 1) := by decide +kernel
theorem dJ6_bitCount_0f7a4_41 : decode cJ6_bitCount_0f7a4 41 = .ok (.iload_n 0, 1) := by decide +kernel
theorem dJ6_bitCount_0f7a4_42 : decode cJ6_bitCount_0f7a4 42 = .ok (.iload_n 0, 1) := by decide +kernel
theorem dJ6_bitCount_0f7a4_43 : decode cJ6_bitCount_0f7a4 43 = .ok (.bipush 16, 2) := by decide +kernel
theorem dJ6_bitCount_0f7a4_45 : decode cJ6_bitCount_0f7a4 45 = .ok (.iushr, 1) := by decide +kernel
theorem dJ6_bitCount_0f7a4_46 : decode cJ6_bitCount_0f7a4 46 = .ok (.iadd, 1) := by decide +kernel
theorem dJ6_bitCount_0f7a4_47 : decode cJ6_bitCount_0f7a4 47 = .ok (.istore_n 0, 1) := by decide +kernel
theorem dJ6_bitCount_0f7a4_48 : decode cJ6_bitCount_0f7a4 48 = .ok (.iload_n 0, 1) := by decide +kernel
theorem dJ6_bitCount_0f7a4_49 : decode cJ6_bitCount_0f7a4 49 = .ok (.bipush 63, 2) := by decide +kernel
theorem dJ6_bitCount_0f7a4_51 : decode cJ6_bitCount_0f7a4 51 = .ok (.iand, 1) := by decide +kernel
theorem dJ6_bitCount_0f7a4_52 : decode cJ6_bitCount_0f7a4 52 = .ok (.ireturn, 1) := by decide +kernel
theorem dJ9_floorMod_7cf53_0 : decode cJ9_floorMod_7cf53 0 = .ok (.iload_n 0, 1) := by decide +kernel
theorem dJ9_floorMod_7cf53_1 : decode cJ9_floorMod_7cf53 1 = .ok (.iload_n 1, 1) := by decide +kernel
theorem dJ9_floorMod_7cf53_2 : decode cJ9_floorMod_7cf53 2 = .ok (.irem, 1) := by decide +kernel
theorem dJ9_floorMod_7cf53_3 : decode cJ9_floorMod_7cf53 3 = .ok (.istore_n 2, 1) := by decide +kernel
theorem dJ9_floorMod_7cf53_4 : decode cJ9_floorMod_7cf53 4 = .ok (.iload_n 0, 1) := by decide +kernel
theorem dJ9_floorMod_7cf53_5 : decode cJ9_floorMod_7cf53 5 = .ok (.iload_n 1, 1) := by decide +kernel
theorem dJ9_floorMod_7cf53_6 : decode cJ9_floorMod_7cf53 6 = .ok (.ixor, 1) := by decide +kernel
theorem dJ9_floorMod_7cf53_7 : decode cJ9_floorMod_7cf53 7 = .ok (.ifCond .ge 11, 3) := by decide +kernel
theorem dJ9_floorMod_7cf53_10 : decode cJ9_floorMod_7cf53 10 = .ok (.iload_n 2, 1) := by decide +kernel
theorem dJ9_floorMod_7cf53_11 : decode cJ9_floorMod_7cf53 11 = .ok (.ifCond .eq 7, 3) := by decide +kernel
theorem dJ9_floorMod_7cf53_14 : decode cJ9_floorMod_7cf53 14 = .ok (.iload_n 2, 1) := by decide +kernel
theorem dJ9_floorMod_7cf53_15 : decode cJ9_floorMod_7cf53 15 = .ok (.iload_n 1, 1) := by decide +kernel
theorem dJ9_floorMod_7cf53_16 : decode cJ9_floorMod_7cf53 16 = .ok (.iadd, 1) := by decide +kernel
theorem dJ9_floorMod_7cf53_17 : decode cJ9_floorMod_7cf53 17 = .ok (.ireturn, 1) := by decide +kernel
theorem dJ9_floorMod_7cf53_18 : decode cJ9_floorMod_7cf53 18 = .ok (.iload_n 2, 1) := by decide +kernel
theorem dJ9_floorMod_7cf53_19 : decode cJ9_floorMod_7cf53 19 = .ok (.ireturn, 1) := by decide +kernel
theorem dJ7_fill_53178_0 : decode cJ7_fill_53178 0 = .ok (.iconst 0, 1) := by decide +kernel
theorem dJ7_fill_53178_1 : decode cJ7_fill_53178 1 = .ok (.istore_n 2, 1) := by decide +kernel
theorem dJ7_fill_53178_2 : decode cJ7_fill_53178 2 = .ok (.aload_n 0, 1) := by decide +kernel
theorem dJ7_fill_53178_3 : decode cJ7_fill_53178 3 = .ok (.arraylength, 1) := by decide +kernel
theorem dJ7_fill_53178_4 : decode cJ7_fill_53178 4 = .ok (.istore_n 3, 1) := by decide +kernel
theorem dJ7_fill_53178_5 : decode cJ7_fill_53178 5 = .ok (.iload_n 2, 1) := by decide +kernel
theorem dJ7_fill_53178_6 : decode cJ7_fill_53178 6 = .ok (.iload_n 3, 1) := by decide +kernel
theorem dJ7_fill_53178_7 : decode cJ7_fill_53178 7 = .ok (.if_icmp .ge 13, 3) := by decide +kernel
theorem dJ7_fill_53178_10 : decode cJ7_fill_53178 10 = .ok (.aload_n 0, 1) := by decide +kernel
theorem dJ7_fill_53178_11 : decode cJ7_fill_53178 11 = .ok (.iload_n 2, 1) := by decide +kernel
theorem dJ7_fill_53178_12 : decode cJ7_fill_53178 12 = .ok (.iload_n 1, 1) := by decide +kernel
theorem dJ7_fill_53178_13 : decode cJ7_fill_53178 13 = .ok (.iastore, 1) := by decide +kernel
theorem dJ7_fill_53178_14 : decode cJ7_fill_53178 14 = .ok (.iinc 2 1, 3) := by decide +kernel
theorem dJ7_fill_53178_17 : decode cJ7_fill_53178 17 = .ok (.goto (-12), 3) := by decide +kernel
theorem dJ7_fill_53178_20 : decode cJ7_fill_53178 20 = .ok (.return_, 1) := by decide +kernel
theorem dJ0_length_8abf5_0 : decode cJ0_length_8abf5 0 = .ok (.aload_n 0, 1) := by decide +kernel
theorem dJ0_length_8abf5_1 : decode cJ0_length_8abf5 1 = .ok (.getfield 9, 3) := by decide +kernel
theorem dJ0_length_8abf5_4 : decode cJ0_length_8abf5 4 = .ok (.arraylength, 1) := by decide +kernel
theorem dJ0_length_8abf5_5 : decode cJ0_length_8abf5 5 = .ok (.aload_n 0, 1) := by decide +kernel
theorem dJ0_length_8abf5_6 : decode cJ0_length_8abf5 6 = .ok (.invokevirtual 335, 3) := by decide +kernel
theorem dJ0_length_8abf5_9 : decode cJ0_length_8abf5 9 = .ok (.ishr, 1) := by decide +kernel
theorem dJ0_length_8abf5_10 : decode cJ0_length_8abf5 10 = .ok (.ireturn, 1) := by decide +kernel
theorem dJ0_charAt_5068e_0 : decode cJ0_charAt_5068e 0 = .ok (.aload_n 0, 1) := by decide +kernel
theorem dJ0_charAt_5068e_1 : decode cJ0_charAt_5068e 1 = .ok (.invokevirtual 492, 3) := by decide +kernel
theorem dJ0_charAt_5068e_4 : decode cJ0_charAt_5068e 4 = .ok (.ifCond .eq 12, 3) := by decide +kernel
theorem dJ0_charAt_5068e_7 : decode cJ0_charAt_5068e 7 = .ok (.aload_n 0, 1) := by decide +kernel
theorem dJ0_charAt_5068e_8 : decode cJ0_charAt_5068e 8 = .ok (.getfield 9, 3) := by decide +kernel
theorem dJ0_charAt_5068e_11 : decode cJ0_charAt_5068e 11 = .ok (.iload_n 1, 1) := by decide +kernel
theorem dJ0_charAt_5068e_12 : decode cJ0_charAt_5068e 12 = .ok (.invokestatic 495, 3) := by decide +kernel
theorem dJ0_charAt_5068e_15 : decode cJ0_charAt_5068e 15 = .ok (.ireturn, 1) := by decide +kernel
theorem dJ0_charAt_5068e_16 : decode cJ0_charAt_5068e 16 = .ok (.aload_n 0, 1) := by decide +kernel
theorem dJ0_charAt_5068e_17 : decode cJ0_charAt_5068e 17 = .ok (.getfield 9, 3) := by decide +kernel
theorem dJ0_charAt_5068e_20 : decode cJ0_charAt_5068e 20 = .ok (.iload_n 1, 1) := by decide +kernel
theorem dJ0_charAt_5068e_21 : decode cJ0_charAt_5068e 21 = .ok (.invokestatic 498, 3) := by decide +kernel
theorem dJ0_charAt_5068e_24 : decode cJ0_charAt_5068e 24 = .ok (.ireturn, 1) := by decide +kernel
theorem dJ0_coder_7d493_0 : decode cJ0_coder_7d493 0 = .ok (.getstatic 38, 3) := by decide +kernel
theorem dJ0_coder_7d493_3 : decode cJ0_coder_7d493 3 = .ok (.ifCond .eq 10, 3) := by decide +kernel
theorem dJ0_coder_7d493_6 : decode cJ0_coder_7d493 6 = .ok (.aload_n 0, 1) := by decide +kernel
theorem dJ0_coder_7d493_7 : decode cJ0_coder_7d493 7 = .ok (.getfield 15, 3) := by decide +kernel
theorem dJ0_coder_7d493_10 : decode cJ0_coder_7d493 10 = .ok (.goto 4, 3) := by decide +kernel
theorem dJ0_coder_7d493_13 : decode cJ0_coder_7d493 13 = .ok (.iconst 1, 1) := by decide +kernel
theorem dJ0_coder_7d493_14 : decode cJ0_coder_7d493 14 = .ok (.ireturn, 1) := by decide +kernel
theorem dJ0_isLatin1_aae02_0 : decode cJ0_isLatin1_aae02 0 = .ok (.getstatic 38, 3) := by decide +kernel
theorem dJ0_isLatin1_aae02_3 : decode cJ0_isLatin1_aae02 3 = .ok (.ifCond .eq 14, 3) := by decide +kernel
theorem dJ0_isLatin1_aae02_6 : decode cJ0_isLatin1_aae02 6 = .ok (.aload_n 0, 1) := by decide +kernel
theorem dJ0_isLatin1_aae02_7 : decode cJ0_isLatin1_aae02 7 = .ok (.getfield 15, 3) := by decide +kernel
theorem dJ0_isLatin1_aae02_10 : decode cJ0_isLatin1_aae02 10 = .ok (.ifCond .ne 7, 3) := by decide +kernel
theorem dJ0_isLatin1_aae02_13 : decode cJ0_isLatin1_aae02 13 = .ok (.iconst 1, 1) := by decide +kernel
theorem dJ0_isLatin1_aae02_14 : decode cJ0_isLatin1_aae02 14 = .ok (.goto 4, 3) := by decide +kernel
theorem dJ0_isLatin1_aae02_17 : decode cJ0_isLatin1_aae02 17 = .ok (.iconst 0, 1) := by decide +kernel
theorem dJ0_isLatin1_aae02_18 : decode cJ0_isLatin1_aae02 18 = .ok (.ireturn, 1) := by decide +kernel
theorem dJ0_checkIndex_df160_0 : decode cJ0_checkIndex_df160 0 = .ok (.iload_n 0, 1) := by decide +kernel
theorem dJ0_checkIndex_df160_1 : decode cJ0_checkIndex_df160 1 = .ok (.iload_n 1, 1) := by decide +kernel
theorem dJ0_checkIndex_df160_2 : decode cJ0_checkIndex_df160 2 = .ok (.getstatic 1053, 3) := by decide +kernel
theorem dJ0_checkIndex_df160_5 : decode cJ0_checkIndex_df160 5 = .ok (.invokestatic 1059, 3) := by decide +kernel
theorem dJ0_checkIndex_df160_8 : decode cJ0_checkIndex_df160 8 = .ok (.pop, 1) := by decide +kernel
theorem dJ0_checkIndex_df160_9 : decode cJ0_checkIndex_df160 9 = .ok (.return_, 1) := by decide +kernel
theorem dJ1_charAt_3b067_0 : decode cJ1_charAt_3b067 0 = .ok (.iload_n 1, 1) := by decide +kernel
theorem dJ1_charAt_3b067_1 : decode cJ1_charAt_3b067 1 = .ok (.aload_n 0, 1) := by decide +kernel
theorem dJ1_charAt_3b067_2 : decode cJ1_charAt_3b067 2 = .ok (.arraylength, 1) := by decide +kernel
theorem dJ1_charAt_3b067_3 : decode cJ1_charAt_3b067 3 = .ok (.invokestatic 9, 3) := by decide +kernel
theorem dJ1_charAt_3b067_6 : decode cJ1_charAt_3b067 6 = .ok (.aload_n 0, 1) := by decide +kernel
theorem dJ1_charAt_3b067_7 : decode cJ1_charAt_3b067 7 = .ok (.iload_n 1, 1) := by decide +kernel
theorem dJ1_charAt_3b067_8 : decode cJ1_charAt_3b067 8 = .ok (.baload, 1) := by decide +kernel
theorem dJ1_charAt_3b067_9 : decode cJ1_charAt_3b067 9 = .ok (.sipush 255, 3) := by decide +kernel
theorem dJ1_charAt_3b067_12 : decode cJ1_charAt_3b067 12 = .ok (.iand, 1) := by decide +kernel
theorem dJ1_charAt_3b067_13 : decode cJ1_charAt_3b067 13 = .ok (.i2c, 1) := by decide +kernel
theorem dJ1_charAt_3b067_14 : decode cJ1_charAt_3b067 14 = .ok (.ireturn, 1) := by decide +kernel
theorem dJ3_checkIndex_8e157_0 : decode cJ3_checkIndex_8e157 0 = .ok (.iload_n 0, 1) := by decide +kernel
theorem dJ3_checkIndex_8e157_1 : decode cJ3_checkIndex_8e157 1 = .ok (.ifCond .lt 8, 3) := by decide +kernel
theorem dJ3_checkIndex_8e157_4 : decode cJ3_checkIndex_8e157 4 = .ok (.iload_n 0, 1) := by decide +kernel
theorem dJ3_checkIndex_8e157_5 : decode cJ3_checkIndex_8e157 5 = .ok (.iload_n 1, 1) := by decide +kernel
theorem dJ3_checkIndex_8e157_6 : decode cJ3_checkIndex_8e157 6 = .ok (.if_icmp .lt 10, 3) := by decide +kernel
theorem dJ3_checkIndex_8e157_9 : decode cJ3_checkIndex_8e157 9 = .ok (.aload_n 2, 1) := by decide +kernel
theorem dJ3_checkIndex_8e157_10 : decode cJ3_checkIndex_8e157 10 = .ok (.iload_n 0, 1) := by decide +kernel
theorem dJ3_checkIndex_8e157_11 : decode cJ3_checkIndex_8e157 11 = .ok (.iload_n 1, 1) := by decide +kernel
theorem dJ3_checkIndex_8e157_12 : decode cJ3_checkIndex_8e157 12 = .ok (.invokestatic 95, 3) := by decide +kernel
theorem dJ3_checkIndex_8e157_15 : decode cJ3_checkIndex_8e157 15 = .ok (.athrow, 1) := by decide +kernel
theorem dJ3_checkIndex_8e157_16 : decode cJ3_checkIndex_8e157 16 = .ok (.iload_n 0, 1) := by decide +kernel
theorem dJ3_checkIndex_8e157_17 : decode cJ3_checkIndex_8e157 17 = .ok (.ireturn, 1) := by decide +kernel
end
section
theorem dX8_init_0 : decode cX8_init 0 = .ok (.aload_n 0, 1) := by decide +kernel
theorem dX8_init_1 : decode cX8_init 1 = .ok (.invokespecial 1, 3) := by decide +kernel
theorem dX8_init_4 : decode cX8_init 4 = .ok (.aload_n 0, 1) := by decide +kernel
theorem dX8_init_5 : decode cX8_init 5 = .ok (.sipush 200, 3) := by decide +kernel
theorem dX8_init_8 : decode cX8_init 8 = .ok (.newarray .int, 2) := by decide +kernel
theorem dX8_init_10 : decode cX8_init 10 = .ok (.putfield 7, 3) := by decide +kernel
theorem dX8_init_13 : decode cX8_init 13 = .ok (.aload_n 0, 1) := by decide +kernel
theorem dX8_init_14 : decode cX8_init 14 = .ok (.bipush 44, 2) := by decide +kernel
theorem dX8_init_16 : decode cX8_init 16 = .ok (.newarray .int, 2) := by decide +kernel
theorem dX8_init_18 : decode cX8_init 18 = .ok (.putfield 13, 3) := by decide +kernel
theorem dX8_init_21 : decode cX8_init 21 = .ok (.aload_n 0, 1) := by decide +kernel
theorem dX8_init_22 : decode cX8_init 22 = .ok (.bipush 44, 2) := by decide +kernel
theorem dX8_init_24 : decode cX8_init 24 = .ok (.newarray .int, 2) := by decide +kernel
theorem dX8_init_26 : decode cX8_init 26 = .ok (.putfield 16, 3) := by decide +kernel
theorem dX8_init_29 : decode cX8_init 29 = .ok (.aload_n 0, 1) := by decide +kernel
theorem dX8_init_30 : decode cX8_init 30 = .ok (.bipush 101, 2) := by decide +kernel
theorem dX8_init_32 : decode cX8_init 32 = .ok (.newarray .int, 2) := by decide +kernel
theorem dX8_init_34 : decode cX8_init 34 = .ok (.putfield 19, 3) := by decide +kernel
theorem dX8_init_37 : decode cX8_init 37 = .ok (.aload_n 0, 1) := by decide +kernel
theorem dX8_init_38 : decode cX8_init 38 = .ok (.bipush 101, 2) := by decide +kernel
theorem dX8_init_40 : decode cX8_init 40 = .ok (.newarray .int, 2) := by decide +kernel
theorem dX8_init_42 : decode cX8_init 42 = .ok (.putfield 22, 3) := by decide +kernel
theorem dX8_init_45 : decode cX8_init 45 = .ok (.aload_n 0, 1) := by decide +kernel
theorem dX8_init_46 : decode cX8_init 46 = .ok (.sipush 404, 3) := by decide +kernel
theorem dX8_init_49 : decode cX8_init 49 = .ok (.newarray .int, 2) := by decide +kernel
theorem dX8_init_51 : decode cX8_init 51 = .ok (.putfield 25, 3) := by decide +kernel
theorem dX8_init_54 : decode cX8_init 54 = .ok (.aload_n 0, 1) := by decide +kernel
theorem dX8_init_55 : decode cX8_init 55 = .ok (.bipush 6, 2) := by decide +kernel
theorem dX8_init_57 : decode cX8_init 57 = .ok (.newarray .int, 2) := by decide +kernel
theorem dX8_init_59 : decode cX8_init 59 = .ok (.putfield 28, 3) := by decide +kernel
theorem dX8_init_62 : decode cX8_init 62 = .ok (.aload_n 0, 1) := by decide +kernel
theorem dX8_init_63 : decode cX8_init 63 = .ok (.sipush 15392, 3) := by decide +kernel
theorem dX8_init_66 : decode cX8_init 66 = .ok (.newarray .int, 2) := by decide +kernel
theorem dX8_init_68 : decode cX8_init 68 = .ok (.putfield 31, 3) := by decide +kernel
theorem dX8_init_71 : decode cX8_init 71 = .ok (.aload_n 0, 1) := by decide +kernel
theorem dX8_init_72 : decode cX8_init 72 = .ok (.bipush 6, 2) := by decide +kernel
theorem dX8_init_74 : decode cX8_init 74 = .ok (.newarray .int, 2) := by decide +kernel
theorem dX8_init_76 : decode cX8_init 76 = .ok (.putfield 34, 3) := by decide +kernel
theorem dX8_init_79 : decode cX8_init 79 = .ok (.aload_n 0, 1) := by decide +kernel
theorem dX8_init_80 : decode cX8_init 80 = .ok (.invokevirtual 37, 3) := by decide +kernel
theorem dX8_init_83 : decode cX8_init 83 = .ok (.aload_n 0, 1) := by decide +kernel
theorem dX8_init_84 : decode cX8_init 84 = .ok (.bipush 10, 2) := by decide +kernel
theorem dX8_init_86 : decode cX8_init 86 = .ok (.bipush 40, 2) := by decide +kernel
theorem dX8_init_88 : decode cX8_init 88 = .ok (.bipush 20, 2) := by decide +kernel
theorem dX8_init_90 : decode cX8_init 90 = .ok (.bipush 9, 2) := by decide +kernel
theorem dX8_init_92 : decode cX8_init 92 = .ok (.bipush 30, 2) := by decide +kernel
theorem dX8_init_94 : decode cX8_init 94 = .ok (.bipush 12, 2) := by decide +kernel
theorem dX8_init_96 : decode cX8_init 96 = .ok (.invokevirtual 40, 3) := by decide +kernel
theorem dX8_init_99 : decode cX8_init 99 = .ok (.aload_n 0, 1) := by decide +kernel
theorem dX8_init_100 : decode cX8_init 100 = .ok (.bipush 10, 2) := by decide +kernel
theorem dX8_init_102 : decode cX8_init 102 = .ok (.bipush 40, 2) := by decide +kernel
theorem dX8_init_104 : decode cX8_init 104 = .ok (.bipush 25, 2) := by decide +kernel
theorem dX8_init_106 : decode cX8_init 106 = .ok (.bipush 8, 2) := by decide +kernel
theorem dX8_init_108 : decode cX8_init 108 = .ok (.bipush 20, 2) := by decide +kernel
theorem dX8_init_110 : decode cX8_init 110 = .ok (.bipush 12, 2) := by decide +kernel
theorem dX8_init_112 : decode cX8_init 112 = .ok (.invokevirtual 40, 3) := by decide +kernel
theorem dX8_init_115 : decode cX8_init 115 = .ok (.aload_n 0, 1) := by decide +kernel
theorem dX8_init_116 : decode cX8_init 116 = .ok (.iconst 5, 1) := by decide +kernel
theorem dX8_init_117 : decode cX8_init 117 = .ok (.bipush 20, 2) := by decide +kernel
theorem dX8_init_119 : decode cX8_init 119 = .ok (.bipush 8, 2) := by decide +kernel
theorem dX8_init_121 : decode cX8_init 121 = .ok (.bipush 12, 2) := by decide +kernel
theorem dX8_init_123 : decode cX8_init 123 = .ok (.bipush 40, 2) := by decide +kernel
theorem dX8_init_125 : decode cX8_init 125 = .ok (.bipush 6, 2) := by decide +kernel
theorem dX8_init_127 : decode cX8_init 127 = .ok (.invokevirtual 40, 3) := by decide +kernel
theorem dX8_init_130 : decode cX8_init 130 = .ok (.aload_n 0, 1) := by decide +kernel
theorem dX8_init_131 : decode cX8_init 131 = .ok (.bipush 20, 2) := by decide +kernel
theorem dX8_init_133 : decode cX8_init 133 = .ok (.bipush 60, 2) := by decide +kernel
theorem dX8_init_135 : decode cX8_init 135 = .ok (.bipush 40, 2) := by decide +kernel
theorem dX8_init_137 : decode cX8_init 137 = .ok (.bipush 7, 2) := by decide +kernel
theorem dX8_init_139 : decode cX8_init 139 = .ok (.bipush 15, 2) := by decide +kernel
theorem dX8_init_141 : decode cX8_init 141 = .ok (.bipush 20, 2) := by decide +kernel
theorem dX8_init_143 : decode cX8_init 143 = .ok (.invokevirtual 40, 3) := by decide +kernel
theorem dX8_init_146 : decode cX8_init 146 = .ok (.aload_n 0, 1) := by decide +kernel
theorem dX8_init_147 : decode cX8_init 147 = .ok (.invokevirtual 44, 3) := by decide +kernel
theorem dX8_init_150 : decode cX8_init 150 = .ok (.return_, 1) := by decide +kernel
theorem dX8_in_0 : decode cX8_in 0 = .ok (.iload_n 0, 1) := by decide +kernel
theorem dX8_in_1 : decode cX8_in 1 = .ok (.iload_n 1, 1) := by decide +kernel
theorem dX8_in_2 : decode cX8_in 2 = .ok (.if_icmp .lt 12, 3) := by decide +kernel
theorem dX8_in_5 : decode cX8_in 5 = .ok (.iload_n 0, 1) := by decide +kernel
theorem dX8_in_6 : decode cX8_in 6 = .ok (.iload_n 2, 1) := by decide +kernel
theorem dX8_in_7 : decode cX8_in 7 = .ok (.if_icmp .gt 7, 3) := by decide +kernel
theorem dX8_in_10 : decode cX8_in 10 = .ok (.iconst 1, 1) := by decide +kernel
theorem dX8_in_11 : decode cX8_in 11 = .ok (.goto 4, 3) := by decide +kernel
theorem dX8_in_14 : decode cX8_in 14 = .ok (.iconst 0, 1) := by decide +kernel
theorem dX8_in_15 : decode cX8_in 15 = .ok (.ireturn, 1) := by decide +kernel
theorem dX8_beginRead_0 : decode cX8_beginRead 0 = .ok (.iconst 0, 1) := by decide +kernel
theorem dX8_beginRead_1 : decode cX8_beginRead 1 = .ok (.istore_n 1, 1) := by decide +kernel
theorem dX8_beginRead_2 : decode cX8_beginRead 2 = .ok (.iload_n 1, 1) := by decide +kernel
theorem dX8_beginRead_3 : decode cX8_beginRead 3 = .ok (.bipush 44, 2) := by decide +kernel
theorem dX8_beginRead_5 : decode cX8_beginRead 5 = .ok (.if_icmp .ge 16, 3) := by decide +kernel
theorem dX8_beginRead_8 : decode cX8_beginRead 8 = .ok (.aload_n 0, 1) := by decide +kernel
theorem dX8_beginRead_9 : decode cX8_beginRead 9 = .ok (.getfield 13, 3) := by decide +kernel
theorem dX8_beginRead_12 : decode cX8_beginRead 12 = .ok (.iload_n 1, 1) := by decide +kernel
theorem dX8_beginRead_13 : decode cX8_beginRead 13 = .ok (.iconst 0, 1) := by decide +kernel
theorem dX8_beginRead_14 : decode cX8_beginRead 14 = .ok (.iastore, 1) := by decide +kernel
theorem dX8_beginRead_15 : decode cX8_beginRead 15 = .ok (.iinc 1 1, 3) := by decide +kernel
theorem dX8_beginRead_18 : decode cX8_beginRead 18 = .ok (.goto (-16), 3) := by decide +kernel
theorem dX8_beginRead_21 : decode cX8_beginRead 21 = .ok (.aload_n 0, 1) := by decide +kernel
theorem dX8_beginRead_22 : decode cX8_beginRead 22 = .ok (.getfield 13, 3) := by decide +kernel
theorem dX8_beginRead_25 : decode cX8_beginRead 25 = .ok (.bipush 37, 2) := by decide +kernel
theorem dX8_beginRead_27 : decode cX8_beginRead 27 = .ok (.iconst 5, 1) := by decide +kernel
theorem dX8_beginRead_28 : decode cX8_beginRead 28 = .ok (.iastore, 1) := by decide +kernel
theorem dX8_beginRead_29 : decode cX8_beginRead 29 = .ok (.aload_n 0, 1) := by decide +kernel
theorem dX8_beginRead_30 : decode cX8_beginRead 30 = .ok (.getfield 13, 3) := by decide +kernel
theorem dX8_beginRead_33 : decode cX8_beginRead 33 = .ok (.bipush 38, 2) := by decide +kernel
theorem dX8_beginRead_35 : decode cX8_beginRead 35 = .ok (.iconst 3, 1) := by decide +kernel
theorem dX8_beginRead_36 : decode cX8_beginRead 36 = .ok (.iastore, 1) := by decide +kernel
theorem dX8_beginRead_37 : decode cX8_beginRead 37 = .ok (.aload_n 0, 1) := by decide +kernel
theorem dX8_beginRead_38 : decode cX8_beginRead 38 = .ok (.getfield 13, 3) := by decide +kernel
theorem dX8_beginRead_41 : decode cX8_beginRead 41 = .ok (.bipush 39, 2) := by decide +kernel
theorem dX8_beginRead_43 : decode cX8_beginRead 43 = .ok (.iconst 3, 1) := by decide +kernel
theorem dX8_beginRead_44 : decode cX8_beginRead 44 = .ok (.iastore, 1) := by decide +kernel
theorem dX8_beginRead_45 : decode cX8_beginRead 45 = .ok (.aload_n 0, 1) := by decide +kernel
theorem dX8_beginRead_46 : decode cX8_beginRead 46 = .ok (.getfield 13, 3) := by decide +kernel
theorem dX8_beginRead_49 : decode cX8_beginRead 49 = .ok (.bipush 40, 2) := by decide +kernel
theorem dX8_beginRead_51 : decode cX8_beginRead 51 = .ok (.iconst 1, 1) := by decide +kernel
theorem dX8_beginRead_52 : decode cX8_beginRead 52 = .ok (.iastore, 1) := by decide +kernel
theorem dX8_beginRead_53 : decode cX8_beginRead 53 = .ok (.aload_n 0, 1) := by decide +kernel
theorem dX8_beginRead_54 : decode cX8_beginRead 54 = .ok (.getfield 13, 3) := by decide +kernel
theorem dX8_beginRead_57 : decode cX8_beginRead 57 = .ok (.bipush 41, 2) := by decide +kernel
theorem dX8_beginRead_59 : decode cX8_beginRead 59 = .ok (.bipush 90, 2) := by decide +kernel
theorem dX8_beginRead_61 : decode cX8_beginRead 61 = .ok (.iastore, 1) := by decide +kernel
theorem dX8_beginRead_62 : decode cX8_beginRead 62 = .ok (.aload_n 0, 1) := by decide +kernel
theorem dX8_beginRead_63 : decode cX8_beginRead 63 = .ok (.getfield 13, 3) := by decide +kernel
theorem dX8_beginRead_66 : decode cX8_beginRead 66 = .ok (.bipush 42, 2) := by decide +kernel
theorem dX8_beginRead_68 : decode cX8_beginRead 68 = .ok (.bipush 60, 2) := by decide +kernel
theorem dX8_beginRead_70 : decode cX8_beginRead 70 = .ok (.iastore, 1) := by decide +kernel
theorem dX8_beginRead_71 : decode cX8_beginRead 71 = .ok (.aload_n 0, 1) := by decide +kernel
theorem dX8_beginRead_72 : decode cX8_beginRead 72 = .ok (.getfield 13, 3) := by decide +kernel
theorem dX8_beginRead_75 : decode cX8_beginRead 75 = .ok (.bipush 43, 2) := by decide +kernel
theorem dX8_beginRead_77 : decode cX8_beginRead 77 = .ok (.iconst 2, 1) := by decide +kernel
theorem dX8_beginRead_78 : decode cX8_beginRead 78 = .ok (.iastore, 1) := by decide +kernel
theorem dX8_beginRead_79 : decode cX8_beginRead 79 = .ok (.return_, 1) := by decide +kernel
theorem dX8_putMachine_0 : decode cX8_putMachine 0 = .ok (.bipush 6, 2) := by decide +kernel
theorem dX8_putMachine_2 : decode cX8_putMachine 2 = .ok (.aload_n 0, 1) := by decide +kernel
theorem dX8_putMachine_3 : decode cX8_putMachine 3 = .ok (.getfield 13, 3) := by decide +kernel
theorem dX8_putMachine_6 : decode cX8_putMachine 6 = .ok (.bipush 36, 2) := by decide +kernel
theorem dX8_putMachine_8 : decode cX8_putMachine 8 = .ok (.iaload, 1) := by decide +kernel
theorem dX8_putMachine_9 : decode cX8_putMachine 9 = .ok (.imul, 1) := by decide +kernel
theorem dX8_putMachine_10 : decode cX8_putMachine 10 = .ok (.istore 7, 2) := by decide +kernel
theorem dX8_putMachine_12 : decode cX8_putMachine 12 = .ok (.aload_n 0, 1) := by decide +kernel
theorem dX8_putMachine_13 : decode cX8_putMachine 13 = .ok (.getfield 13, 3) := by decide +kernel
theorem dX8_putMachine_16 : decode cX8_putMachine 16 = .ok (.iload 7, 2) := by decide +kernel
theorem dX8_putMachine_18 : decode cX8_putMachine 18 = .ok (.iload_n 1, 1) := by decide +kernel
theorem dX8_putMachine_19 : decode cX8_putMachine 19 = .ok (.iastore, 1) := by decide +kernel
theorem dX8_putMachine_20 : decode cX8_putMachine 20 = .ok (.aload_n 0, 1) := by decide +kernel
theorem dX8_putMachine_21 : decode cX8_putMachine 21 = .ok (.getfield 13, 3) := by decide +kernel
theorem dX8_putMachine_24 : decode cX8_putMachine 24 = .ok (.iload 7, 2) := by decide +kernel
theorem dX8_putMachine_26 : decode cX8_putMachine 26 = .ok (.iconst 1, 1) := by decide +kernel
theorem dX8_putMachine_27 : decode cX8_putMachine 27 = .ok (.iadd, 1) := by decide +kernel
theorem dX8_putMachine_28 : decode cX8_putMachine 28 = .ok (.iload_n 2, 1) := by decide +kernel
theorem dX8_putMachine_29 : decode cX8_putMachine 29 = .ok (.iastore, 1) := by decide +kernel
theorem dX8_putMachine_30 : decode cX8_putMachine 30 = .ok (.aload_n 0, 1) := by decide +kernel
theorem dX8_putMachine_31 : decode cX8_putMachine 31 = .ok (.getfield 13, 3) := by decide +kernel
theorem dX8_putMachine_34 : decode cX8_putMachine 34 = .ok (.iload 7, 2) := by decide +kernel
theorem dX8_putMachine_36 : decode cX8_putMachine 36 = .ok (.iconst 2, 1) := by decide +kernel
theorem dX8_putMachine_37 : decode cX8_putMachine 37 = .ok (.iadd, 1) := by decide +kernel
theorem dX8_putMachine_38 : decode cX8_putMachine 38 = .ok (.iload_n 3, 1) := by decide +kernel
theorem dX8_putMachine_39 : decode cX8_putMachine 39 = .ok (.iastore, 1) := by decide +kernel
theorem dX8_putMachine_40 : decode cX8_putMachine 40 = .ok (.aload_n 0, 1) := by decide +kernel
theorem dX8_putMachine_41 : decode cX8_putMachine 41 = .ok (.getfield 13, 3) := by decide +kernel
theorem dX8_putMachine_44 : decode cX8_putMachine 44 = .ok (.iload 7, 2) := by decide +kernel
theorem dX8_putMachine_46 : decode cX8_putMachine 46 = .ok (.iconst 3, 1) := by decide +kernel
theorem dX8_putMachine_47 : decode cX8_putMachine 47 = .ok (.iadd, 1) := by decide +kernel
theorem dX8_putMachine_48 : decode cX8_putMachine 48 = .ok (.iload 4, 2) := by decide +kernel
theorem dX8_putMachine_50 : decode cX8_putMachine 50 = .ok (.iastore, 1) := by decide +kernel
theorem dX8_putMachine_51 : decode cX8_putMachine 51 = .ok (.aload_n 0, 1) := by decide +kernel
theorem dX8_putMachine_52 : decode cX8_putMachine 52 = .ok (.getfield 13, 3) := by decide +kernel
theorem dX8_putMachine_55 : decode cX8_putMachine 55 = .ok (.iload 7, 2) := by decide +kernel
theorem dX8_putMachine_57 : decode cX8_putMachine 57 = .ok (.iconst 4, 1) := by decide +kernel
theorem dX8_putMachine_58 : decode cX8_putMachine 58 = .ok (.iadd, 1) := by decide +kernel
theorem dX8_putMachine_59 : decode cX8_putMachine 59 = .ok (.iload 5, 2) := by decide +kernel
theorem dX8_putMachine_61 : decode cX8_putMachine 61 = .ok (.iastore, 1) := by decide +kernel
theorem dX8_putMachine_62 : decode cX8_putMachine 62 = .ok (.aload_n 0, 1) := by decide +kernel
theorem dX8_putMachine_63 : decode cX8_putMachine 63 = .ok (.getfield 13, 3) := by decide +kernel
theorem dX8_putMachine_66 : decode cX8_putMachine 66 = .ok (.iload 7, 2) := by decide +kernel
theorem dX8_putMachine_68 : decode cX8_putMachine 68 = .ok (.iconst 5, 1) := by decide +kernel
theorem dX8_putMachine_69 : decode cX8_putMachine 69 = .ok (.iadd, 1) := by decide +kernel
theorem dX8_putMachine_70 : decode cX8_putMachine 70 = .ok (.iload 6, 2) := by decide +kernel
theorem dX8_putMachine_72 : decode cX8_putMachine 72 = .ok (.iastore, 1) := by decide +kernel
theorem dX8_putMachine_73 : decode cX8_putMachine 73 = .ok (.aload_n 0, 1) := by decide +kernel
theorem dX8_putMachine_74 : decode cX8_putMachine 74 = .ok (.getfield 13, 3) := by decide +kernel
theorem dX8_putMachine_77 : decode cX8_putMachine 77 = .ok (.bipush 36, 2) := by decide +kernel
theorem dX8_putMachine_79 : decode cX8_putMachine 79 = .ok (.dup2, 1) := by decide +kernel
theorem dX8_putMachine_80 : decode cX8_putMachine 80 = .ok (.iaload, 1) := by decide +kernel
theorem dX8_putMachine_81 : decode cX8_putMachine 81 = .ok (.iconst 1, 1) := by decide +kernel
theorem dX8_putMachine_82 : decode cX8_putMachine 82 = .ok (.iadd, 1) := by decide +kernel
theorem dX8_putMachine_83 : decode cX8_putMachine 83 = .ok (.iastore, 1) := by decide +kernel
theorem dX8_putMachine_84 : decode cX8_putMachine 84 = .ok (.return_, 1) := by decide +kernel
theorem dX8_takeRead_0 : decode cX8_takeRead 0 = .ok (.iconst 0, 1) := by decide +kernel
theorem dX8_takeRead_1 : decode cX8_takeRead 1 = .ok (.istore_n 1, 1) := by decide +kernel
theorem dX8_takeRead_2 : decode cX8_takeRead 2 = .ok (.iload_n 1, 1) := by decide +kernel
theorem dX8_takeRead_3 : decode cX8_takeRead 3 = .ok (.bipush 44, 2) := by decide +kernel
theorem dX8_takeRead_5 : decode cX8_takeRead 5 = .ok (.if_icmp .ge 21, 3) := by decide +kernel
theorem dX8_takeRead_8 : decode cX8_takeRead 8 = .ok (.aload_n 0, 1) := by decide +kernel
theorem dX8_takeRead_9 : decode cX8_takeRead 9 = .ok (.getfield 16, 3) := by decide +kernel
theorem dX8_takeRead_12 : decode cX8_takeRead 12 = .ok (.iload_n 1, 1) := by decide +kernel
theorem dX8_takeRead_13 : decode cX8_takeRead 13 = .ok (.aload_n 0, 1) := by decide +kernel
theorem dX8_takeRead_14 : decode cX8_takeRead 14 = .ok (.getfield 13, 3) := by decide +kernel
theorem dX8_takeRead_17 : decode cX8_takeRead 17 = .ok (.iload_n 1, 1) := by decide +kernel
theorem dX8_takeRead_18 : decode cX8_takeRead 18 = .ok (.iaload, 1) := by decide +kernel
theorem dX8_takeRead_19 : decode cX8_takeRead 19 = .ok (.iastore, 1) := by decide +kernel
theorem dX8_takeRead_20 : decode cX8_takeRead 20 = .ok (.iinc 1 1, 3) := by decide +kernel
theorem dX8_takeRead_23 : decode cX8_takeRead 23 = .ok (.goto (-21), 3) := by decide +kernel
theorem dX8_takeRead_26 : decode cX8_takeRead 26 = .ok (.iconst 0, 1) := by decide +kernel
theorem dX8_takeRead_27 : decode cX8_takeRead 27 = .ok (.istore_n 1, 1) := by decide +kernel
theorem dX8_takeRead_28 : decode cX8_takeRead 28 = .ok (.iload_n 1, 1) := by decide +kernel
theorem dX8_takeRead_29 : decode cX8_takeRead 29 = .ok (.bipush 101, 2) := by decide +kernel
theorem dX8_takeRead_31 : decode cX8_takeRead 31 = .ok (.if_icmp .ge 16, 3) := by decide +kernel
theorem dX8_takeRead_34 : decode cX8_takeRead 34 = .ok (.aload_n 0, 1) := by decide +kernel
theorem dX8_takeRead_35 : decode cX8_takeRead 35 = .ok (.getfield 19, 3) := by decide +kernel
theorem dX8_takeRead_38 : decode cX8_takeRead 38 = .ok (.iload_n 1, 1) := by decide +kernel
theorem dX8_takeRead_39 : decode cX8_takeRead 39 = .ok (.iconst 0, 1) := by decide +kernel
theorem dX8_takeRead_40 : decode cX8_takeRead 40 = .ok (.iastore, 1) := by decide +kernel
theorem dX8_takeRead_41 : decode cX8_takeRead 41 = .ok (.iinc 1 1, 3) := by decide +kernel
theorem dX8_takeRead_44 : decode cX8_takeRead 44 = .ok (.goto (-16), 3) := by decide +kernel
theorem dX8_takeRead_47 : decode cX8_takeRead 47 = .ok (.aload_n 0, 1) := by decide +kernel
theorem dX8_takeRead_48 : decode cX8_takeRead 48 = .ok (.getfield 19, 3) := by decide +kernel
theorem dX8_takeRead_51 : decode cX8_takeRead 51 = .ok (.iconst 2, 1) := by decide +kernel
theorem dX8_takeRead_52 : decode cX8_takeRead 52 = .ok (.bipush 25, 2) := by decide +kernel
theorem dX8_takeRead_54 : decode cX8_takeRead 54 = .ok (.iastore, 1) := by decide +kernel
theorem dX8_takeRead_55 : decode cX8_takeRead 55 = .ok (.aload_n 0, 1) := by decide +kernel
theorem dX8_takeRead_56 : decode cX8_takeRead 56 = .ok (.getfield 19, 3) := by decide +kernel
theorem dX8_takeRead_59 : decode cX8_takeRead 59 = .ok (.iconst 3, 1) := by decide +kernel
theorem dX8_takeRead_60 : decode cX8_takeRead 60 = .ok (.bipush 7, 2) := by decide +kernel
theorem dX8_takeRead_62 : decode cX8_takeRead 62 = .ok (.iastore, 1) := by decide +kernel
theorem dX8_takeRead_63 : decode cX8_takeRead 63 = .ok (.aload_n 0, 1) := by decide +kernel
theorem dX8_takeRead_64 : decode cX8_takeRead 64 = .ok (.getfield 19, 3) := by decide +kernel
theorem dX8_takeRead_67 : decode cX8_takeRead 67 = .ok (.bipush 9, 2) := by decide +kernel
theorem dX8_takeRead_69 : decode cX8_takeRead 69 = .ok (.sipush (-1000), 3) := by decide +kernel
theorem dX8_takeRead_72 : decode cX8_takeRead 72 = .ok (.iastore, 1) := by decide +kernel
theorem dX8_takeRead_73 : decode cX8_takeRead 73 = .ok (.iconst 0, 1) := by decide +kernel
theorem dX8_takeRead_74 : decode cX8_takeRead 74 = .ok (.istore_n 1, 1) := by decide +kernel
theorem dX8_takeRead_75 : decode cX8_takeRead 75 = .ok (.iload_n 1, 1) := by decide +kernel
theorem dX8_takeRead_76 : decode cX8_takeRead 76 = .ok (.bipush 6, 2) := by decide +kernel
theorem dX8_takeRead_78 : decode cX8_takeRead 78 = .ok (.if_icmp .ge 40, 3) := by decide +kernel
theorem dX8_takeRead_81 : decode cX8_takeRead 81 = .ok (.iconst 4, 1) := by decide +kernel
theorem dX8_takeRead_82 : decode cX8_takeRead 82 = .ok (.istore_n 2, 1) := by decide +kernel
theorem dX8_takeRead_83 : decode cX8_takeRead 83 = .ok (.iload_n 2, 1) := by decide +kernel
theorem dX8_takeRead_84 : decode cX8_takeRead 84 = .ok (.bipush 14, 2) := by decide +kernel
theorem dX8_takeRead_86 : decode cX8_takeRead 86 = .ok (.if_icmp .ge 26, 3) := by decide +kernel
theorem dX8_takeRead_89 : decode cX8_takeRead 89 = .ok (.aload_n 0, 1) := by decide +kernel
theorem dX8_takeRead_90 : decode cX8_takeRead 90 = .ok (.getfield 19, 3) := by decide +kernel
theorem dX8_takeRead_93 : decode cX8_takeRead 93 = .ok (.bipush 17, 2) := by decide +kernel
theorem dX8_takeRead_95 : decode cX8_takeRead 95 = .ok (.bipush 14, 2) := by decide +kernel
theorem dX8_takeRead_97 : decode cX8_takeRead 97 = .ok (.iload_n 1, 1) := by decide +kernel
theorem dX8_takeRead_98 : decode cX8_takeRead 98 = .ok (.imul, 1) := by decide +kernel
theorem dX8_takeRead_99 : decode cX8_takeRead 99 = .ok (.iadd, 1) := by decide +kernel
theorem dX8_takeRead_100 : decode cX8_takeRead 100 = .ok (.iload_n 2, 1) := by decide +kernel
theorem dX8_takeRead_101 : decode cX8_takeRead 101 = .ok (.iadd, 1) := by decide +kernel
theorem dX8_takeRead_102 : decode cX8_takeRead 102 = .ok (.sipush (-1000), 3) := by decide +kernel
theorem dX8_takeRead_105 : decode cX8_takeRead 105 = .ok (.iastore, 1) := by decide +kernel
theorem dX8_takeRead_106 : decode cX8_takeRead 106 = .ok (.iinc 2 1, 3) := by decide +kernel
theorem dX8_takeRead_109 : decode cX8_takeRead 109 = .ok (.goto (-26), 3) := by decide +kernel
theorem dX8_takeRead_112 : decode cX8_takeRead 112 = .ok (.iinc 1 1, 3) := by decide +kernel
theorem dX8_takeRead_115 : decode cX8_takeRead 115 = .ok (.goto (-40), 3) := by decide +kernel
theorem dX8_takeRead_118 : decode cX8_takeRead 118 = .ok (.aload_n 0, 1) := by decide +kernel
theorem dX8_takeRead_119 : decode cX8_takeRead 119 = .ok (.iconst 0, 1) := by decide +kernel
theorem dX8_takeRead_120 : decode cX8_takeRead 120 = .ok (.putfield 47, 3) := by decide +kernel
theorem dX8_takeRead_123 : decode cX8_takeRead 123 = .ok (.aload_n 0, 1) := by decide +kernel
theorem dX8_takeRead_124 : decode cX8_takeRead 124 = .ok (.iconst 0, 1) := by decide +kernel
theorem dX8_takeRead_125 : decode cX8_takeRead 125 = .ok (.putfield 51, 3) := by decide +kernel
theorem dX8_takeRead_128 : decode cX8_takeRead 128 = .ok (.return_, 1) := by decide +kernel
theorem dX8_isFigure_0 : decode cX8_isFigure 0 = .ok (.aload_n 0, 1) := by decide +kernel
theorem dX8_isFigure_1 : decode cX8_isFigure 1 = .ok (.getfield 55, 3) := by decide +kernel
theorem dX8_isFigure_4 : decode cX8_isFigure 4 = .ok (.aload_n 0, 1) := by decide +kernel
theorem dX8_isFigure_5 : decode cX8_isFigure 5 = .ok (.getfield 58, 3) := by decide +kernel
theorem dX8_isFigure_8 : decode cX8_isFigure 8 = .ok (.if_icmp .ge 26, 3) := by decide +kernel
theorem dX8_isFigure_11 : decode cX8_isFigure 11 = .ok (.aload_n 0, 1) := by decide +kernel
theorem dX8_isFigure_12 : decode cX8_isFigure 12 = .ok (.getfield 7, 3) := by decide +kernel
theorem dX8_isFigure_15 : decode cX8_isFigure 15 = .ok (.aload_n 0, 1) := by decide +kernel
theorem dX8_isFigure_16 : decode cX8_isFigure 16 = .ok (.getfield 55, 3) := by decide +kernel
theorem dX8_isFigure_19 : decode cX8_isFigure 19 = .ok (.iaload, 1) := by decide +kernel
theorem dX8_isFigure_20 : decode cX8_isFigure 20 = .ok (.bipush 48, 2) := by decide +kernel
theorem dX8_isFigure_22 : decode cX8_isFigure 22 = .ok (.bipush 57, 2) := by decide +kernel
theorem dX8_isFigure_24 : decode cX8_isFigure 24 = .ok (.invokestatic 61, 3) := by decide +kernel
theorem dX8_isFigure_27 : decode cX8_isFigure 27 = .ok (.ifCond .eq 7, 3) := by decide +kernel
theorem dX8_isFigure_30 : decode cX8_isFigure 30 = .ok (.iconst 1, 1) := by decide +kernel
theorem dX8_isFigure_31 : decode cX8_isFigure 31 = .ok (.goto 4, 3) := by decide +kernel
theorem dX8_isFigure_34 : decode cX8_isFigure 34 = .ok (.iconst 0, 1) := by decide +kernel
theorem dX8_isFigure_35 : decode cX8_isFigure 35 = .ok (.ireturn, 1) := by decide +kernel
theorem dX8_readNumbers_0 : decode cX8_readNumbers 0 = .ok (.iconst 0, 1) := by decide +kernel
theorem dX8_readNumbers_1 : decode cX8_readNumbers 1 = .ok (.istore_n 2, 1) := by decide +kernel
theorem dX8_readNumbers_2 : decode cX8_readNumbers 2 = .ok (.iload_n 2, 1) := by decide +kernel
theorem dX8_readNumbers_3 : decode cX8_readNumbers 3 = .ok (.iload_n 1, 1) := by decide +kernel
theorem dX8_readNumbers_4 : decode cX8_readNumbers 4 = .ok (.if_icmp .ge 132, 3) := by decide +kernel
theorem dX8_readNumbers_7 : decode cX8_readNumbers 7 = .ok (.aload_n 0, 1) := by decide +kernel
theorem dX8_readNumbers_8 : decode cX8_readNumbers 8 = .ok (.getfield 55, 3) := by decide +kernel
theorem dX8_readNumbers_11 : decode cX8_readNumbers 11 = .ok (.istore_n 3, 1) := by decide +kernel
theorem dX8_readNumbers_12 : decode cX8_readNumbers 12 = .ok (.iconst 0, 1) := by decide +kernel
theorem dX8_readNumbers_13 : decode cX8_readNumbers 13 = .ok (.istore 4, 2) := by decide +kernel
theorem dX8_readNumbers_15 : decode cX8_readNumbers 15 = .ok (.aload_n 0, 1) := by decide +kernel
theorem dX8_readNumbers_16 : decode cX8_readNumbers 16 = .ok (.invokevirtual 65, 3) := by decide +kernel
theorem dX8_readNumbers_19 : decode cX8_readNumbers 19 = .ok (.ifCond .eq 46, 3) := by decide +kernel
theorem dX8_readNumbers_22 : decode cX8_readNumbers 22 = .ok (.aload_n 0, 1) := by decide +kernel
theorem dX8_readNumbers_23 : decode cX8_readNumbers 23 = .ok (.getfield 55, 3) := by decide +kernel
theorem dX8_readNumbers_26 : decode cX8_readNumbers 26 = .ok (.iload_n 3, 1) := by decide +kernel
theorem dX8_readNumbers_27 : decode cX8_readNumbers 27 = .ok (.iconst 2, 1) := by decide +kernel
theorem dX8_readNumbers_28 : decode cX8_readNumbers 28 = .ok (.iadd, 1) := by decide +kernel
theorem dX8_readNumbers_29 : decode cX8_readNumbers 29 = .ok (.if_icmp .ge 36, 3) := by decide +kernel
theorem dX8_readNumbers_32 : decode cX8_readNumbers 32 = .ok (.bipush 10, 2) := by decide +kernel
theorem dX8_readNumbers_34 : decode cX8_readNumbers 34 = .ok (.iload 4, 2) := by decide +kernel
theorem dX8_readNumbers_36 : decode cX8_readNumbers 36 = .ok (.imul, 1) := by decide +kernel
theorem dX8_readNumbers_37 : decode cX8_readNumbers 37 = .ok (.aload_n 0, 1) := by decide +kernel
theorem dX8_readNumbers_38 : decode cX8_readNumbers 38 = .ok (.getfield 7, 3) := by decide +kernel
theorem dX8_readNumbers_41 : decode cX8_readNumbers 41 = .ok (.aload_n 0, 1) := by decide +kernel
theorem dX8_readNumbers_42 : decode cX8_readNumbers 42 = .ok (.getfield 55, 3) := by decide +kernel
theorem dX8_readNumbers_45 : decode cX8_readNumbers 45 = .ok (.iaload, 1) := by decide +kernel
theorem dX8_readNumbers_46 : decode cX8_readNumbers 46 = .ok (.iadd, 1) := by decide +kernel
theorem dX8_readNumbers_47 : decode cX8_readNumbers 47 = .ok (.bipush 48, 2) := by decide +kernel
theorem dX8_readNumbers_49 : decode cX8_readNumbers 49 = .ok (.isub, 1) := by decide +kernel
theorem dX8_readNumbers_50 : decode cX8_readNumbers 50 = .ok (.istore 4, 2) := by decide +kernel
theorem dX8_readNumbers_52 : decode cX8_readNumbers 52 = .ok (.aload_n 0, 1) := by decide +kernel
theorem dX8_readNumbers_53 : decode cX8_readNumbers 53 = .ok (.dup, 1) := by decide +kernel
theorem dX8_readNumbers_54 : decode cX8_readNumbers 54 = .ok (.getfield 55, 3) := by decide +kernel
theorem dX8_readNumbers_57 : decode cX8_readNumbers 57 = .ok (.iconst 1, 1) := by decide +kernel
theorem dX8_readNumbers_58 : decode cX8_readNumbers 58 = .ok (.iadd, 1) := by decide +kernel
theorem dX8_readNumbers_59 : decode cX8_readNumbers 59 = .ok (.putfield 55, 3) := by decide +kernel
theorem dX8_readNumbers_62 : decode cX8_readNumbers 62 = .ok (.goto (-47), 3) := by decide +kernel
theorem dX8_readNumbers_65 : decode cX8_readNumbers 65 = .ok (.aload_n 0, 1) := by decide +kernel
theorem dX8_readNumbers_66 : decode cX8_readNumbers 66 = .ok (.getfield 55, 3) := by decide +kernel
theorem dX8_readNumbers_69 : decode cX8_readNumbers 69 = .ok (.iload_n 3, 1) := by decide +kernel
theorem dX8_readNumbers_70 : decode cX8_readNumbers 70 = .ok (.if_icmp .eq 40, 3) := by decide +kernel
theorem dX8_readNumbers_73 : decode cX8_readNumbers 73 = .ok (.aload_n 0, 1) := by decide +kernel
theorem dX8_readNumbers_74 : decode cX8_readNumbers 74 = .ok (.getfield 55, 3) := by decide +kernel
theorem dX8_readNumbers_77 : decode cX8_readNumbers 77 = .ok (.aload_n 0, 1) := by decide +kernel
theorem dX8_readNumbers_78 : decode cX8_readNumbers 78 = .ok (.getfield 58, 3) := by decide +kernel
theorem dX8_readNumbers_81 : decode cX8_readNumbers 81 = .ok (.if_icmp .eq 29, 3) := by decide +kernel
theorem dX8_readNumbers_84 : decode cX8_readNumbers 84 = .ok (.aload_n 0, 1) := by decide +kernel
theorem dX8_readNumbers_85 : decode cX8_readNumbers 85 = .ok (.getfield 7, 3) := by decide +kernel
theorem dX8_readNumbers_88 : decode cX8_readNumbers 88 = .ok (.aload_n 0, 1) := by decide +kernel
theorem dX8_readNumbers_89 : decode cX8_readNumbers 89 = .ok (.getfield 55, 3) := by decide +kernel
theorem dX8_readNumbers_92 : decode cX8_readNumbers 92 = .ok (.iaload, 1) := by decide +kernel
theorem dX8_readNumbers_93 : decode cX8_readNumbers 93 = .ok (.iload_n 2, 1) := by decide +kernel
theorem dX8_readNumbers_94 : decode cX8_readNumbers 94 = .ok (.iconst 1, 1) := by decide +kernel
theorem dX8_readNumbers_95 : decode cX8_readNumbers 95 = .ok (.iadd, 1) := by decide +kernel
theorem dX8_readNumbers_96 : decode cX8_readNumbers 96 = .ok (.iload_n 1, 1) := by decide +kernel
theorem dX8_readNumbers_97 : decode cX8_readNumbers 97 = .ok (.if_icmp .ne 8, 3) := by decide +kernel
theorem dX8_readNumbers_100 : decode cX8_readNumbers 100 = .ok (.bipush 59, 2) := by decide +kernel
theorem dX8_readNumbers_102 : decode cX8_readNumbers 102 = .ok (.goto 5, 3) := by decide +kernel
theorem dX8_readNumbers_105 : decode cX8_readNumbers 105 = .ok (.bipush 44, 2) := by decide +kernel
theorem dX8_readNumbers_107 : decode cX8_readNumbers 107 = .ok (.if_icmp .eq 5, 3) := by decide +kernel
theorem dX8_readNumbers_110 : decode cX8_readNumbers 110 = .ok (.iconst 0, 1) := by decide +kernel
theorem dX8_readNumbers_111 : decode cX8_readNumbers 111 = .ok (.ireturn, 1) := by decide +kernel
theorem dX8_readNumbers_112 : decode cX8_readNumbers 112 = .ok (.aload_n 0, 1) := by decide +kernel
theorem dX8_readNumbers_113 : decode cX8_readNumbers 113 = .ok (.getfield 28, 3) := by decide +kernel
theorem dX8_readNumbers_116 : decode cX8_readNumbers 116 = .ok (.iload_n 2, 1) := by decide +kernel
theorem dX8_readNumbers_117 : decode cX8_readNumbers 117 = .ok (.iload 4, 2) := by decide +kernel
theorem dX8_readNumbers_119 : decode cX8_readNumbers 119 = .ok (.iastore, 1) := by decide +kernel
theorem dX8_readNumbers_120 : decode cX8_readNumbers 120 = .ok (.aload_n 0, 1) := by decide +kernel
theorem dX8_readNumbers_121 : decode cX8_readNumbers 121 = .ok (.dup, 1) := by decide +kernel
theorem dX8_readNumbers_122 : decode cX8_readNumbers 122 = .ok (.getfield 55, 3) := by decide +kernel
theorem dX8_readNumbers_125 : decode cX8_readNumbers 125 = .ok (.iconst 1, 1) := by decide +kernel
theorem dX8_readNumbers_126 : decode cX8_readNumbers 126 = .ok (.iadd, 1) := by decide +kernel
theorem dX8_readNumbers_127 : decode cX8_readNumbers 127 = .ok (.putfield 55, 3) := by decide +kernel
theorem dX8_readNumbers_130 : decode cX8_readNumbers 130 = .ok (.iinc 2 1, 3) := by decide +kernel
theorem dX8_readNumbers_133 : decode cX8_readNumbers 133 = .ok (.goto (-131), 3) := by decide +kernel
theorem dX8_readNumbers_136 : decode cX8_readNumbers 136 = .ok (.iconst 1, 1) := by decide +kernel
theorem dX8_readNumbers_137 : decode cX8_readNumbers 137 = .ok (.ireturn, 1) := by decide +kernel
theorem dX8_isNumber_0 : decode cX8_isNumber 0 = .ok (.aload_n 0, 1) := by decide +kernel
theorem dX8_isNumber_1 : decode cX8_isNumber 1 = .ok (.getfield 28, 3) := by decide +kernel
theorem dX8_isNumber_4 : decode cX8_isNumber 4 = .ok (.iload_n 1, 1) := by decide +kernel
theorem dX8_isNumber_5 : decode cX8_isNumber 5 = .ok (.iaload, 1) := by decide +kernel
theorem dX8_isNumber_6 : decode cX8_isNumber 6 = .ok (.iload_n 2, 1) := by decide +kernel
theorem dX8_isNumber_7 : decode cX8_isNumber 7 = .ok (.iload_n 3, 1) := by decide +kernel
theorem dX8_isNumber_8 : decode cX8_isNumber 8 = .ok (.invokestatic 61, 3) := by decide +kernel
theorem dX8_isNumber_11 : decode cX8_isNumber 11 = .ok (.ireturn, 1) := by decide +kernel
theorem dX8_readMachine_0 : decode cX8_readMachine 0 = .ok (.aload_n 0, 1) := by decide +kernel
theorem dX8_readMachine_1 : decode cX8_readMachine 1 = .ok (.getfield 13, 3) := by decide +kernel
theorem dX8_readMachine_4 : decode cX8_readMachine 4 = .ok (.bipush 36, 2) := by decide +kernel
theorem dX8_readMachine_6 : decode cX8_readMachine 6 = .ok (.iaload, 1) := by decide +kernel
theorem dX8_readMachine_7 : decode cX8_readMachine 7 = .ok (.bipush 6, 2) := by decide +kernel
theorem dX8_readMachine_9 : decode cX8_readMachine 9 = .ok (.if_icmp .eq 50, 3) := by decide +kernel
theorem dX8_readMachine_12 : decode cX8_readMachine 12 = .ok (.aload_n 0, 1) := by decide +kernel
theorem dX8_readMachine_13 : decode cX8_readMachine 13 = .ok (.bipush 6, 2) := by decide +kernel
theorem dX8_readMachine_15 : decode cX8_readMachine 15 = .ok (.invokevirtual 69, 3) := by decide +kernel
theorem dX8_readMachine_18 : decode cX8_readMachine 18 = .ok (.ifCond .eq 41, 3) := by decide +kernel
theorem dX8_readMachine_21 : decode cX8_readMachine 21 = .ok (.aload_n 0, 1) := by decide +kernel
theorem dX8_readMachine_22 : decode cX8_readMachine 22 = .ok (.iconst 0, 1) := by decide +kernel
theorem dX8_readMachine_23 : decode cX8_readMachine 23 = .ok (.iconst 1, 1) := by decide +kernel
theorem dX8_readMachine_24 : decode cX8_readMachine 24 = .ok (.bipush 40, 2) := by decide +kernel
theorem dX8_readMachine_26 : decode cX8_readMachine 26 = .ok (.invokevirtual 73, 3) := by decide +kernel
theorem dX8_readMachine_29 : decode cX8_readMachine 29 = .ok (.ifCond .eq 30, 3) := by decide +kernel
theorem dX8_readMachine_32 : decode cX8_readMachine 32 = .ok (.aload_n 0, 1) := by decide +kernel
theorem dX8_readMachine_33 : decode cX8_readMachine 33 = .ok (.iconst 1, 1) := by decide +kernel
theorem dX8_readMachine_34 : decode cX8_readMachine 34 = .ok (.aload_n 0, 1) := by decide +kernel
theorem dX8_readMachine_35 : decode cX8_readMachine 35 = .ok (.getfield 28, 3) := by decide +kernel
theorem dX8_readMachine_38 : decode cX8_readMachine 38 = .ok (.iconst 0, 1) := by decide +kernel
theorem dX8_readMachine_39 : decode cX8_readMachine 39 = .ok (.iaload, 1) := by decide +kernel
theorem dX8_readMachine_40 : decode cX8_readMachine 40 = .ok (.bipush 80, 2) := by decide +kernel
theorem dX8_readMachine_42 : decode cX8_readMachine 42 = .ok (.invokevirtual 73, 3) := by decide +kernel
theorem dX8_readMachine_45 : decode cX8_readMachine 45 = .ok (.ifCond .eq 14, 3) := by decide +kernel
theorem dX8_readMachine_48 : decode cX8_readMachine 48 = .ok (.aload_n 0, 1) := by decide +kernel
theorem dX8_readMachine_49 : decode cX8_readMachine 49 = .ok (.iconst 5, 1) := by decide +kernel
theorem dX8_readMachine_50 : decode cX8_readMachine 50 = .ok (.iconst 1, 1) := by decide +kernel
theorem dX8_readMachine_51 : decode cX8_readMachine 51 = .ok (.bipush 40, 2) := by decide +kernel
theorem dX8_readMachine_53 : decode cX8_readMachine 53 = .ok (.invokevirtual 73, 3) := by decide +kernel
theorem dX8_readMachine_56 : decode cX8_readMachine 56 = .ok (.ifCond .ne 5, 3) := by decide +kernel
theorem dX8_readMachine_59 : decode cX8_readMachine 59 = .ok (.iconst 0, 1) := by decide +kernel
theorem dX8_readMachine_60 : decode cX8_readMachine 60 = .ok (.ireturn, 1) := by decide +kernel
theorem dX8_readMachine_61 : decode cX8_readMachine 61 = .ok (.aload_n 0, 1) := by decide +kernel
theorem dX8_readMachine_62 : decode cX8_readMachine 62 = .ok (.aload_n 0, 1) := by decide +kernel
theorem dX8_readMachine_63 : decode cX8_readMachine 63 = .ok (.getfield 28, 3) := by decide +kernel
theorem dX8_readMachine_66 : decode cX8_readMachine 66 = .ok (.iconst 0, 1) := by decide +kernel
theorem dX8_readMachine_67 : decode cX8_readMachine 67 = .ok (.iaload, 1) := by decide +kernel
theorem dX8_readMachine_68 : decode cX8_readMachine 68 = .ok (.aload_n 0, 1) := by decide +kernel
theorem dX8_readMachine_69 : decode cX8_readMachine 69 = .ok (.getfield 28, 3) := by decide +kernel
theorem dX8_readMachine_72 : decode cX8_readMachine 72 = .ok (.iconst 1, 1) := by decide +kernel
theorem dX8_readMachine_73 : decode cX8_readMachine 73 = .ok (.iaload, 1) := by decide +kernel
theorem dX8_readMachine_74 : decode cX8_readMachine 74 = .ok (.aload_n 0, 1) := by decide +kernel
theorem dX8_readMachine_75 : decode cX8_readMachine 75 = .ok (.getfield 28, 3) := by decide +kernel
theorem dX8_readMachine_78 : decode cX8_readMachine 78 = .ok (.iconst 2, 1) := by decide +kernel
theorem dX8_readMachine_79 : decode cX8_readMachine 79 = .ok (.iaload, 1) := by decide +kernel
theorem dX8_readMachine_80 : decode cX8_readMachine 80 = .ok (.aload_n 0, 1) := by decide +kernel
theorem dX8_readMachine_81 : decode cX8_readMachine 81 = .ok (.getfield 28, 3) := by decide +kernel
theorem dX8_readMachine_84 : decode cX8_readMachine 84 = .ok (.iconst 3, 1) := by decide +kernel
theorem dX8_readMachine_85 : decode cX8_readMachine 85 = .ok (.iaload, 1) := by decide +kernel
theorem dX8_readMachine_86 : decode cX8_readMachine 86 = .ok (.aload_n 0, 1) := by decide +kernel
theorem dX8_readMachine_87 : decode cX8_readMachine 87 = .ok (.getfield 28, 3) := by decide +kernel
theorem dX8_readMachine_90 : decode cX8_readMachine 90 = .ok (.iconst 4, 1) := by decide +kernel
theorem dX8_readMachine_91 : decode cX8_readMachine 91 = .ok (.iaload, 1) := by decide +kernel
theorem dX8_readMachine_92 : decode cX8_readMachine 92 = .ok (.aload_n 0, 1) := by decide +kernel
theorem dX8_readMachine_93 : decode cX8_readMachine 93 = .ok (.getfield 28, 3) := by decide +kernel
theorem dX8_readMachine_96 : decode cX8_readMachine 96 = .ok (.iconst 5, 1) := by decide +kernel
theorem dX8_readMachine_97 : decode cX8_readMachine 97 = .ok (.iaload, 1) := by decide +kernel
theorem dX8_readMachine_98 : decode cX8_readMachine 98 = .ok (.invokevirtual 40, 3) := by decide +kernel
theorem dX8_readMachine_101 : decode cX8_readMachine 101 = .ok (.iconst 1, 1) := by decide +kernel
theorem dX8_readMachine_102 : decode cX8_readMachine 102 = .ok (.ireturn, 1) := by decide +kernel
theorem dX8_readOther_0 : decode cX8_readOther 0 = .ok (.iconst 0, 1) := by decide +kernel
theorem dX8_readOther_1 : decode cX8_readOther 1 = .ok (.istore_n 2, 1) := by decide +kernel
theorem dX8_readOther_2 : decode cX8_readOther 2 = .ok (.iload_n 1, 1) := by decide +kernel
theorem dX8_readOther_3 : decode cX8_readOther 3 = .ok (.bipush 114, 2) := by decide +kernel
theorem dX8_readOther_5 : decode cX8_readOther 5 = .ok (.if_icmp .ne 8, 3) := by decide +kernel
theorem dX8_readOther_8 : decode cX8_readOther 8 = .ok (.bipush 37, 2) := by decide +kernel
theorem dX8_readOther_10 : decode cX8_readOther 10 = .ok (.goto 5, 3) := by decide +kernel
theorem dX8_readOther_13 : decode cX8_readOther 13 = .ok (.bipush 41, 2) := by decide +kernel
theorem dX8_readOther_15 : decode cX8_readOther 15 = .ok (.istore_n 3, 1) := by decide +kernel
theorem dX8_readOther_16 : decode cX8_readOther 16 = .ok (.iload_n 1, 1) := by decide +kernel
theorem dX8_readOther_17 : decode cX8_readOther 17 = .ok (.bipush 114, 2) := by decide +kernel
theorem dX8_readOther_19 : decode cX8_readOther 19 = .ok (.if_icmp .ne 7, 3) := by decide +kernel
theorem dX8_readOther_22 : decode cX8_readOther 22 = .ok (.iconst 4, 1) := by decide +kernel
theorem dX8_readOther_23 : decode cX8_readOther 23 = .ok (.goto 4, 3) := by decide +kernel
theorem dX8_readOther_26 : decode cX8_readOther 26 = .ok (.iconst 3, 1) := by decide +kernel
theorem dX8_readOther_27 : decode cX8_readOther 27 = .ok (.istore 4, 2) := by decide +kernel
theorem dX8_readOther_29 : decode cX8_readOther 29 = .ok (.iload_n 1, 1) := by decide +kernel
theorem dX8_readOther_30 : decode cX8_readOther 30 = .ok (.bipush 114, 2) := by decide +kernel
theorem dX8_readOther_32 : decode cX8_readOther 32 = .ok (.if_icmp .ne 64, 3) := by decide +kernel
theorem dX8_readOther_35 : decode cX8_readOther 35 = .ok (.aload_n 0, 1) := by decide +kernel
theorem dX8_readOther_36 : decode cX8_readOther 36 = .ok (.iconst 4, 1) := by decide +kernel
theorem dX8_readOther_37 : decode cX8_readOther 37 = .ok (.invokevirtual 69, 3) := by decide +kernel
theorem dX8_readOther_40 : decode cX8_readOther 40 = .ok (.ifCond .eq 51, 3) := by decide +kernel
theorem dX8_readOther_43 : decode cX8_readOther 43 = .ok (.aload_n 0, 1) := by decide +kernel
theorem dX8_readOther_44 : decode cX8_readOther 44 = .ok (.iconst 0, 1) := by decide +kernel
theorem dX8_readOther_45 : decode cX8_readOther 45 = .ok (.iconst 0, 1) := by decide +kernel
theorem dX8_readOther_46 : decode cX8_readOther 46 = .ok (.bipush 30, 2) := by decide +kernel
theorem dX8_readOther_48 : decode cX8_readOther 48 = .ok (.invokevirtual 73, 3) := by decide +kernel
theorem dX8_readOther_51 : decode cX8_readOther 51 = .ok (.ifCond .eq 40, 3) := by decide +kernel
theorem dX8_readOther_54 : decode cX8_readOther 54 = .ok (.aload_n 0, 1) := by decide +kernel
theorem dX8_readOther_55 : decode cX8_readOther 55 = .ok (.iconst 1, 1) := by decide +kernel
theorem dX8_readOther_56 : decode cX8_readOther 56 = .ok (.iconst 0, 1) := by decide +kernel
theorem dX8_readOther_57 : decode cX8_readOther 57 = .ok (.bipush 30, 2) := by decide +kernel
theorem dX8_readOther_59 : decode cX8_readOther 59 = .ok (.invokevirtual 73, 3) := by decide +kernel
theorem dX8_readOther_62 : decode cX8_readOther 62 = .ok (.ifCond .eq 29, 3) := by decide +kernel
theorem dX8_readOther_65 : decode cX8_readOther 65 = .ok (.aload_n 0, 1) := by decide +kernel
theorem dX8_readOther_66 : decode cX8_readOther 66 = .ok (.iconst 2, 1) := by decide +kernel
theorem dX8_readOther_67 : decode cX8_readOther 67 = .ok (.iconst 1, 1) := by decide +kernel
theorem dX8_readOther_68 : decode cX8_readOther 68 = .ok (.bipush 9, 2) := by decide +kernel
theorem dX8_readOther_70 : decode cX8_readOther 70 = .ok (.invokevirtual 73, 3) := by decide +kernel
theorem dX8_readOther_73 : decode cX8_readOther 73 = .ok (.ifCond .eq 18, 3) := by decide +kernel
theorem dX8_readOther_76 : decode cX8_readOther 76 = .ok (.aload_n 0, 1) := by decide +kernel
theorem dX8_readOther_77 : decode cX8_readOther 77 = .ok (.iconst 3, 1) := by decide +kernel
theorem dX8_readOther_78 : decode cX8_readOther 78 = .ok (.iconst 0, 1) := by decide +kernel
theorem dX8_readOther_79 : decode cX8_readOther 79 = .ok (.bipush 9, 2) := by decide +kernel
theorem dX8_readOther_81 : decode cX8_readOther 81 = .ok (.invokevirtual 73, 3) := by decide +kernel
theorem dX8_readOther_84 : decode cX8_readOther 84 = .ok (.ifCond .eq 7, 3) := by decide +kernel
theorem dX8_readOther_87 : decode cX8_readOther 87 = .ok (.iconst 1, 1) := by decide +kernel
theorem dX8_readOther_88 : decode cX8_readOther 88 = .ok (.goto 4, 3) := by decide +kernel
theorem dX8_readOther_91 : decode cX8_readOther 91 = .ok (.iconst 0, 1) := by decide +kernel
theorem dX8_readOther_92 : decode cX8_readOther 92 = .ok (.istore_n 2, 1) := by decide +kernel
theorem dX8_readOther_93 : decode cX8_readOther 93 = .ok (.goto 57, 3) := by decide +kernel
theorem dX8_readOther_96 : decode cX8_readOther 96 = .ok (.iload_n 1, 1) := by decide +kernel
theorem dX8_readOther_97 : decode cX8_readOther 97 = .ok (.bipush 104, 2) := by decide +kernel
theorem dX8_readOther_99 : decode cX8_readOther 99 = .ok (.if_icmp .ne 51, 3) := by decide +kernel
theorem dX8_readOther_102 : decode cX8_readOther 102 = .ok (.aload_n 0, 1) := by decide +kernel
theorem dX8_readOther_103 : decode cX8_readOther 103 = .ok (.iconst 3, 1) := by decide +kernel
theorem dX8_readOther_104 : decode cX8_readOther 104 = .ok (.invokevirtual 69, 3) := by decide +kernel
theorem dX8_readOther_107 : decode cX8_readOther 107 = .ok (.ifCond .eq 41, 3) := by decide +kernel
theorem dX8_readOther_110 : decode cX8_readOther 110 = .ok (.aload_n 0, 1) := by decide +kernel
theorem dX8_readOther_111 : decode cX8_readOther 111 = .ok (.iconst 0, 1) := by decide +kernel
theorem dX8_readOther_112 : decode cX8_readOther 112 = .ok (.bipush 50, 2) := by decide +kernel
theorem dX8_readOther_114 : decode cX8_readOther 114 = .ok (.bipush 99, 2) := by decide +kernel
theorem dX8_readOther_116 : decode cX8_readOther 116 = .ok (.invokevirtual 73, 3) := by decide +kernel
theorem dX8_readOther_119 : decode cX8_readOther 119 = .ok (.ifCond .eq 29, 3) := by decide +kernel
theorem dX8_readOther_122 : decode cX8_readOther 122 = .ok (.aload_n 0, 1) := by decide +kernel
theorem dX8_readOther_123 : decode cX8_readOther 123 = .ok (.iconst 1, 1) := by decide +kernel
theorem dX8_readOther_124 : decode cX8_readOther 124 = .ok (.iconst 1, 1) := by decide +kernel
theorem dX8_readOther_125 : decode cX8_readOther 125 = .ok (.bipush 99, 2) := by decide +kernel
theorem dX8_readOther_127 : decode cX8_readOther 127 = .ok (.invokevirtual 73, 3) := by decide +kernel
theorem dX8_readOther_130 : decode cX8_readOther 130 = .ok (.ifCond .eq 18, 3) := by decide +kernel
theorem dX8_readOther_133 : decode cX8_readOther 133 = .ok (.aload_n 0, 1) := by decide +kernel
theorem dX8_readOther_134 : decode cX8_readOther 134 = .ok (.iconst 2, 1) := by decide +kernel
theorem dX8_readOther_135 : decode cX8_readOther 135 = .ok (.iconst 0, 1) := by decide +kernel
theorem dX8_readOther_136 : decode cX8_readOther 136 = .ok (.bipush 9, 2) := by decide +kernel
theorem dX8_readOther_138 : decode cX8_readOther 138 = .ok (.invokevirtual 73, 3) := by decide +kernel
theorem dX8_readOther_141 : decode cX8_readOther 141 = .ok (.ifCond .eq 7, 3) := by decide +kernel
theorem dX8_readOther_144 : decode cX8_readOther 144 = .ok (.iconst 1, 1) := by decide +kernel
theorem dX8_readOther_145 : decode cX8_readOther 145 = .ok (.goto 4, 3) := by decide +kernel
theorem dX8_readOther_148 : decode cX8_readOther 148 = .ok (.iconst 0, 1) := by decide +kernel
theorem dX8_readOther_149 : decode cX8_readOther 149 = .ok (.istore_n 2, 1) := by decide +kernel
theorem dX8_readOther_150 : decode cX8_readOther 150 = .ok (.iconst 0, 1) := by decide +kernel
theorem dX8_readOther_151 : decode cX8_readOther 151 = .ok (.istore 5, 2) := by decide +kernel
theorem dX8_readOther_153 : decode cX8_readOther 153 = .ok (.iload 5, 2) := by decide +kernel
theorem dX8_readOther_155 : decode cX8_readOther 155 = .ok (.iload 4, 2) := by decide +kernel
theorem dX8_readOther_157 : decode cX8_readOther 157 = .ok (.if_icmp .ge 29, 3) := by decide +kernel
theorem dX8_readOther_160 : decode cX8_readOther 160 = .ok (.iload_n 2, 1) := by decide +kernel
theorem dX8_readOther_161 : decode cX8_readOther 161 = .ok (.ifCond .eq 25, 3) := by decide +kernel
theorem dX8_readOther_164 : decode cX8_readOther 164 = .ok (.aload_n 0, 1) := by decide +kernel
theorem dX8_readOther_165 : decode cX8_readOther 165 = .ok (.getfield 13, 3) := by decide +kernel
theorem dX8_readOther_168 : decode cX8_readOther 168 = .ok (.iload_n 3, 1) := by decide +kernel
theorem dX8_readOther_169 : decode cX8_readOther 169 = .ok (.iload 5, 2) := by decide +kernel
theorem dX8_readOther_171 : decode cX8_readOther 171 = .ok (.iadd, 1) := by decide +kernel
theorem dX8_readOther_172 : decode cX8_readOther 172 = .ok (.aload_n 0, 1) := by decide +kernel
theorem dX8_readOther_173 : decode cX8_readOther 173 = .ok (.getfield 28, 3) := by decide +kernel
theorem dX8_readOther_176 : decode cX8_readOther 176 = .ok (.iload 5, 2) := by decide +kernel
theorem dX8_readOther_178 : decode cX8_readOther 178 = .ok (.iaload, 1) := by decide +kernel
theorem dX8_readOther_179 : decode cX8_readOther 179 = .ok (.iastore, 1) := by decide +kernel
theorem dX8_readOther_180 : decode cX8_readOther 180 = .ok (.iinc 5 1, 3) := by decide +kernel
theorem dX8_readOther_183 : decode cX8_readOther 183 = .ok (.goto (-30), 3) := by decide +kernel
theorem dX8_readOther_186 : decode cX8_readOther 186 = .ok (.iload_n 2, 1) := by decide +kernel
theorem dX8_readOther_187 : decode cX8_readOther 187 = .ok (.ireturn, 1) := by decide +kernel
theorem dX8_readText_0 : decode cX8_readText 0 = .ok (.aload_n 0, 1) := by decide +kernel
theorem dX8_readText_1 : decode cX8_readText 1 = .ok (.invokevirtual 37, 3) := by decide +kernel
theorem dX8_readText_4 : decode cX8_readText 4 = .ok (.aload_n 0, 1) := by decide +kernel
theorem dX8_readText_5 : decode cX8_readText 5 = .ok (.iconst 0, 1) := by decide +kernel
theorem dX8_readText_6 : decode cX8_readText 6 = .ok (.putfield 55, 3) := by decide +kernel
theorem dX8_readText_9 : decode cX8_readText 9 = .ok (.aload_n 0, 1) := by decide +kernel
theorem dX8_readText_10 : decode cX8_readText 10 = .ok (.getfield 55, 3) := by decide +kernel
theorem dX8_readText_13 : decode cX8_readText 13 = .ok (.aload_n 0, 1) := by decide +kernel
theorem dX8_readText_14 : decode cX8_readText 14 = .ok (.getfield 58, 3) := by decide +kernel
theorem dX8_readText_17 : decode cX8_readText 17 = .ok (.if_icmp .ge 56, 3) := by decide +kernel
theorem dX8_readText_20 : decode cX8_readText 20 = .ok (.aload_n 0, 1) := by decide +kernel
theorem dX8_readText_21 : decode cX8_readText 21 = .ok (.getfield 55, 3) := by decide +kernel
theorem dX8_readText_24 : decode cX8_readText 24 = .ok (.istore_n 1, 1) := by decide +kernel
theorem dX8_readText_25 : decode cX8_readText 25 = .ok (.aload_n 0, 1) := by decide +kernel
theorem dX8_readText_26 : decode cX8_readText 26 = .ok (.getfield 7, 3) := by decide +kernel
theorem dX8_readText_29 : decode cX8_readText 29 = .ok (.aload_n 0, 1) := by decide +kernel
theorem dX8_readText_30 : decode cX8_readText 30 = .ok (.getfield 55, 3) := by decide +kernel
theorem dX8_readText_33 : decode cX8_readText 33 = .ok (.iaload, 1) := by decide +kernel
theorem dX8_readText_34 : decode cX8_readText 34 = .ok (.istore_n 2, 1) := by decide +kernel
theorem dX8_readText_35 : decode cX8_readText 35 = .ok (.aload_n 0, 1) := by decide +kernel
theorem dX8_readText_36 : decode cX8_readText 36 = .ok (.dup, 1) := by decide +kernel
theorem dX8_readText_37 : decode cX8_readText 37 = .ok (.getfield 55, 3) := by decide +kernel
theorem dX8_readText_40 : decode cX8_readText 40 = .ok (.iconst 1, 1) := by decide +kernel
theorem dX8_readText_41 : decode cX8_readText 41 = .ok (.iadd, 1) := by decide +kernel
theorem dX8_readText_42 : decode cX8_readText 42 = .ok (.putfield 55, 3) := by decide +kernel
theorem dX8_readText_45 : decode cX8_readText 45 = .ok (.iload_n 2, 1) := by decide +kernel
theorem dX8_readText_46 : decode cX8_readText 46 = .ok (.bipush 99, 2) := by decide +kernel
theorem dX8_readText_48 : decode cX8_readText 48 = .ok (.if_icmp .ne 10, 3) := by decide +kernel
theorem dX8_readText_51 : decode cX8_readText 51 = .ok (.aload_n 0, 1) := by decide +kernel
theorem dX8_readText_52 : decode cX8_readText 52 = .ok (.invokevirtual 76, 3) := by decide +kernel
theorem dX8_readText_55 : decode cX8_readText 55 = .ok (.goto 8, 3) := by decide +kernel
theorem dX8_readText_58 : decode cX8_readText 58 = .ok (.aload_n 0, 1) := by decide +kernel
theorem dX8_readText_59 : decode cX8_readText 59 = .ok (.iload_n 2, 1) := by decide +kernel
theorem dX8_readText_60 : decode cX8_readText 60 = .ok (.invokevirtual 79, 3) := by decide +kernel
theorem dX8_readText_63 : decode cX8_readText 63 = .ok (.istore_n 3, 1) := by decide +kernel
theorem dX8_readText_64 : decode cX8_readText 64 = .ok (.iload_n 3, 1) := by decide +kernel
theorem dX8_readText_65 : decode cX8_readText 65 = .ok (.ifCond .ne 5, 3) := by decide +kernel
theorem dX8_readText_68 : decode cX8_readText 68 = .ok (.iload_n 1, 1) := by decide +kernel
theorem dX8_readText_69 : decode cX8_readText 69 = .ok (.ireturn, 1) := by decide +kernel
theorem dX8_readText_70 : decode cX8_readText 70 = .ok (.goto (-61), 3) := by decide +kernel
theorem dX8_readText_73 : decode cX8_readText 73 = .ok (.bipush (-4), 2) := by decide +kernel
theorem dX8_readText_75 : decode cX8_readText 75 = .ok (.ireturn, 1) := by decide +kernel
theorem dX8_write_0 : decode cX8_write 0 = .ok (.iload_n 1, 1) := by decide +kernel
theorem dX8_write_1 : decode cX8_write 1 = .ok (.bipush 32, 2) := by decide +kernel
theorem dX8_write_3 : decode cX8_write 3 = .ok (.bipush 126, 2) := by decide +kernel
theorem dX8_write_5 : decode cX8_write 5 = .ok (.invokestatic 61, 3) := by decide +kernel
theorem dX8_write_8 : decode cX8_write 8 = .ok (.ifCond .ne 5, 3) := by decide +kernel
theorem dX8_write_11 : decode cX8_write 11 = .ok (.iconst (-1), 1) := by decide +kernel
theorem dX8_write_12 : decode cX8_write 12 = .ok (.ireturn, 1) := by decide +kernel
theorem dX8_write_13 : decode cX8_write 13 = .ok (.aload_n 0, 1) := by decide +kernel
theorem dX8_write_14 : decode cX8_write 14 = .ok (.getfield 58, 3) := by decide +kernel
theorem dX8_write_17 : decode cX8_write 17 = .ok (.sipush 200, 3) := by decide +kernel
theorem dX8_write_20 : decode cX8_write 20 = .ok (.if_icmp .ne 6, 3) := by decide +kernel
theorem dX8_write_23 : decode cX8_write 23 = .ok (.bipush (-3), 2) := by decide +kernel
theorem dX8_write_25 : decode cX8_write 25 = .ok (.ireturn, 1) := by decide +kernel
theorem dX8_write_26 : decode cX8_write 26 = .ok (.aload_n 0, 1) := by decide +kernel
theorem dX8_write_27 : decode cX8_write 27 = .ok (.getfield 7, 3) := by decide +kernel
theorem dX8_write_30 : decode cX8_write 30 = .ok (.aload_n 0, 1) := by decide +kernel
theorem dX8_write_31 : decode cX8_write 31 = .ok (.getfield 58, 3) := by decide +kernel
theorem dX8_write_34 : decode cX8_write 34 = .ok (.iload_n 1, 1) := by decide +kernel
theorem dX8_write_35 : decode cX8_write 35 = .ok (.iastore, 1) := by decide +kernel
theorem dX8_write_36 : decode cX8_write 36 = .ok (.aload_n 0, 1) := by decide +kernel
theorem dX8_write_37 : decode cX8_write 37 = .ok (.dup, 1) := by decide +kernel
theorem dX8_write_38 : decode cX8_write 38 = .ok (.getfield 58, 3) := by decide +kernel
theorem dX8_write_41 : decode cX8_write 41 = .ok (.iconst 1, 1) := by decide +kernel
theorem dX8_write_42 : decode cX8_write 42 = .ok (.iadd, 1) := by decide +kernel
theorem dX8_write_43 : decode cX8_write 43 = .ok (.putfield 58, 3) := by decide +kernel
theorem dX8_write_46 : decode cX8_write 46 = .ok (.aload_n 0, 1) := by decide +kernel
theorem dX8_write_47 : decode cX8_write 47 = .ok (.getfield 58, 3) := by decide +kernel
theorem dX8_write_50 : decode cX8_write 50 = .ok (.ireturn, 1) := by decide +kernel
theorem dX8_wipe_0 : decode cX8_wipe 0 = .ok (.aload_n 0, 1) := by decide +kernel
theorem dX8_wipe_1 : decode cX8_wipe 1 = .ok (.getfield 58, 3) := by decide +kernel
theorem dX8_wipe_4 : decode cX8_wipe 4 = .ok (.istore_n 1, 1) := by decide +kernel
theorem dX8_wipe_5 : decode cX8_wipe 5 = .ok (.aload_n 0, 1) := by decide +kernel
theorem dX8_wipe_6 : decode cX8_wipe 6 = .ok (.iconst 0, 1) := by decide +kernel
theorem dX8_wipe_7 : decode cX8_wipe 7 = .ok (.putfield 58, 3) := by decide +kernel
theorem dX8_wipe_10 : decode cX8_wipe 10 = .ok (.iload_n 1, 1) := by decide +kernel
theorem dX8_wipe_11 : decode cX8_wipe 11 = .ok (.ireturn, 1) := by decide +kernel
theorem dX8_fault_0 : decode cX8_fault 0 = .ok (.aload_n 0, 1) := by decide +kernel
theorem dX8_fault_1 : decode cX8_fault 1 = .ok (.invokevirtual 82, 3) := by decide +kernel
theorem dX8_fault_4 : decode cX8_fault 4 = .ok (.ireturn, 1) := by decide +kernel
theorem dX8_lay_0 : decode cX8_lay 0 = .ok (.aload_n 0, 1) := by decide +kernel
theorem dX8_lay_1 : decode cX8_lay 1 = .ok (.invokevirtual 82, 3) := by decide +kernel
theorem dX8_lay_4 : decode cX8_lay 4 = .ok (.bipush (-4), 2) := by decide +kernel
theorem dX8_lay_6 : decode cX8_lay 6 = .ok (.if_icmp .ne 13, 3) := by decide +kernel
theorem dX8_lay_9 : decode cX8_lay 9 = .ok (.aload_n 0, 1) := by decide +kernel
theorem dX8_lay_10 : decode cX8_lay 10 = .ok (.getfield 13, 3) := by decide +kernel
theorem dX8_lay_13 : decode cX8_lay 13 = .ok (.bipush 36, 2) := by decide +kernel
theorem dX8_lay_15 : decode cX8_lay 15 = .ok (.iaload, 1) := by decide +kernel
theorem dX8_lay_16 : decode cX8_lay 16 = .ok (.ifCond .ne 6, 3) := by decide +kernel
theorem dX8_lay_19 : decode cX8_lay 19 = .ok (.bipush (-2), 2) := by decide +kernel
theorem dX8_lay_21 : decode cX8_lay 21 = .ok (.ireturn, 1) := by decide +kernel
theorem dX8_lay_22 : decode cX8_lay 22 = .ok (.aload_n 0, 1) := by decide +kernel
theorem dX8_lay_23 : decode cX8_lay 23 = .ok (.invokevirtual 44, 3) := by decide +kernel
theorem dX8_lay_26 : decode cX8_lay 26 = .ok (.aload_n 0, 1) := by decide +kernel
theorem dX8_lay_27 : decode cX8_lay 27 = .ok (.getfield 16, 3) := by decide +kernel
theorem dX8_lay_30 : decode cX8_lay 30 = .ok (.bipush 36, 2) := by decide +kernel
theorem dX8_lay_32 : decode cX8_lay 32 = .ok (.iaload, 1) := by decide +kernel
theorem dX8_lay_33 : decode cX8_lay 33 = .ok (.ireturn, 1) := by decide +kernel
theorem dX8_leastOf_0 : decode cX8_leastOf 0 = .ok (.aload_n 0, 1) := by decide +kernel
theorem dX8_leastOf_1 : decode cX8_leastOf 1 = .ok (.getfield 16, 3) := by decide +kernel
theorem dX8_leastOf_4 : decode cX8_leastOf 4 = .ok (.bipush 6, 2) := by decide +kernel
theorem dX8_leastOf_6 : decode cX8_leastOf 6 = .ok (.iload_n 1, 1) := by decide +kernel
theorem dX8_leastOf_7 : decode cX8_leastOf 7 = .ok (.imul, 1) := by decide +kernel
theorem dX8_leastOf_8 : decode cX8_leastOf 8 = .ok (.iaload, 1) := by decide +kernel
theorem dX8_leastOf_9 : decode cX8_leastOf 9 = .ok (.ireturn, 1) := by decide +kernel
theorem dX8_mostOf_0 : decode cX8_mostOf 0 = .ok (.aload_n 0, 1) := by decide +kernel
theorem dX8_mostOf_1 : decode cX8_mostOf 1 = .ok (.getfield 16, 3) := by decide +kernel
theorem dX8_mostOf_4 : decode cX8_mostOf 4 = .ok (.bipush 6, 2) := by decide +kernel
theorem dX8_mostOf_6 : decode cX8_mostOf 6 = .ok (.iload_n 1, 1) := by decide +kernel
theorem dX8_mostOf_7 : decode cX8_mostOf 7 = .ok (.imul, 1) := by decide +kernel
theorem dX8_mostOf_8 : decode cX8_mostOf 8 = .ok (.iconst 1, 1) := by decide +kernel
theorem dX8_mostOf_9 : decode cX8_mostOf 9 = .ok (.iadd, 1) := by decide +kernel
theorem dX8_mostOf_10 : decode cX8_mostOf 10 = .ok (.iaload, 1) := by decide +kernel
theorem dX8_mostOf_11 : decode cX8_mostOf 11 = .ok (.ireturn, 1) := by decide +kernel
theorem dX8_powerOf_0 : decode cX8_powerOf 0 = .ok (.bipush 100, 2) := by decide +kernel
theorem dX8_powerOf_2 : decode cX8_powerOf 2 = .ok (.aload_n 0, 1) := by decide +kernel
theorem dX8_powerOf_3 : decode cX8_powerOf 3 = .ok (.getfield 16, 3) := by decide +kernel
theorem dX8_powerOf_6 : decode cX8_powerOf 6 = .ok (.bipush 6, 2) := by decide +kernel
theorem dX8_powerOf_8 : decode cX8_powerOf 8 = .ok (.iload_n 1, 1) := by decide +kernel
theorem dX8_powerOf_9 : decode cX8_powerOf 9 = .ok (.imul, 1) := by decide +kernel
theorem dX8_powerOf_10 : decode cX8_powerOf 10 = .ok (.iconst 3, 1) := by decide +kernel
theorem dX8_powerOf_11 : decode cX8_powerOf 11 = .ok (.iadd, 1) := by decide +kernel
theorem dX8_powerOf_12 : decode cX8_powerOf 12 = .ok (.iaload, 1) := by decide +kernel
theorem dX8_powerOf_13 : decode cX8_powerOf 13 = .ok (.imul, 1) := by decide +kernel
theorem dX8_powerOf_14 : decode cX8_powerOf 14 = .ok (.iload_n 2, 1) := by decide +kernel
theorem dX8_powerOf_15 : decode cX8_powerOf 15 = .ok (.imul, 1) := by decide +kernel
theorem dX8_powerOf_16 : decode cX8_powerOf 16 = .ok (.aload_n 0, 1) := by decide +kernel
theorem dX8_powerOf_17 : decode cX8_powerOf 17 = .ok (.getfield 16, 3) := by decide +kernel
theorem dX8_powerOf_20 : decode cX8_powerOf 20 = .ok (.bipush 6, 2) := by decide +kernel
theorem dX8_powerOf_22 : decode cX8_powerOf 22 = .ok (.iload_n 1, 1) := by decide +kernel
theorem dX8_powerOf_23 : decode cX8_powerOf 23 = .ok (.imul, 1) := by decide +kernel
theorem dX8_powerOf_24 : decode cX8_powerOf 24 = .ok (.iconst 4, 1) := by decide +kernel
theorem dX8_powerOf_25 : decode cX8_powerOf 25 = .ok (.iadd, 1) := by decide +kernel
theorem dX8_powerOf_26 : decode cX8_powerOf 26 = .ok (.iaload, 1) := by decide +kernel
theorem dX8_powerOf_27 : decode cX8_powerOf 27 = .ok (.iload_n 2, 1) := by decide +kernel
theorem dX8_powerOf_28 : decode cX8_powerOf 28 = .ok (.imul, 1) := by decide +kernel
theorem dX8_powerOf_29 : decode cX8_powerOf 29 = .ok (.iload_n 2, 1) := by decide +kernel
theorem dX8_powerOf_30 : decode cX8_powerOf 30 = .ok (.imul, 1) := by decide +kernel
theorem dX8_powerOf_31 : decode cX8_powerOf 31 = .ok (.iadd, 1) := by decide +kernel
theorem dX8_powerOf_32 : decode cX8_powerOf 32 = .ok (.istore 4, 2) := by decide +kernel
theorem dX8_powerOf_34 : decode cX8_powerOf 34 = .ok (.aload_n 0, 1) := by decide +kernel
theorem dX8_powerOf_35 : decode cX8_powerOf 35 = .ok (.getfield 16, 3) := by decide +kernel
theorem dX8_powerOf_38 : decode cX8_powerOf 38 = .ok (.bipush 6, 2) := by decide +kernel
theorem dX8_powerOf_40 : decode cX8_powerOf 40 = .ok (.iload_n 1, 1) := by decide +kernel
theorem dX8_powerOf_41 : decode cX8_powerOf 41 = .ok (.imul, 1) := by decide +kernel
theorem dX8_powerOf_42 : decode cX8_powerOf 42 = .ok (.iconst 2, 1) := by decide +kernel
theorem dX8_powerOf_43 : decode cX8_powerOf 43 = .ok (.iadd, 1) := by decide +kernel
theorem dX8_powerOf_44 : decode cX8_powerOf 44 = .ok (.iaload, 1) := by decide +kernel
theorem dX8_powerOf_45 : decode cX8_powerOf 45 = .ok (.iload 4, 2) := by decide +kernel
theorem dX8_powerOf_47 : decode cX8_powerOf 47 = .ok (.bipush 60, 2) := by decide +kernel
theorem dX8_powerOf_49 : decode cX8_powerOf 49 = .ok (.iload_n 3, 1) := by decide +kernel
theorem dX8_powerOf_50 : decode cX8_powerOf 50 = .ok (.iadd, 1) := by decide +kernel
theorem dX8_powerOf_51 : decode cX8_powerOf 51 = .ok (.imul, 1) := by decide +kernel
theorem dX8_powerOf_52 : decode cX8_powerOf 52 = .ok (.sipush 10000, 3) := by decide +kernel
theorem dX8_powerOf_55 : decode cX8_powerOf 55 = .ok (.idiv, 1) := by decide +kernel
theorem dX8_powerOf_56 : decode cX8_powerOf 56 = .ok (.iadd, 1) := by decide +kernel
theorem dX8_powerOf_57 : decode cX8_powerOf 57 = .ok (.ireturn, 1) := by decide +kernel
theorem dX8_lift_0 : decode cX8_lift 0 = .ok (.aload_n 0, 1) := by decide +kernel
theorem dX8_lift_1 : decode cX8_lift 1 = .ok (.getfield 19, 3) := by decide +kernel
theorem dX8_lift_4 : decode cX8_lift 4 = .ok (.iconst 2, 1) := by decide +kernel
theorem dX8_lift_5 : decode cX8_lift 5 = .ok (.iaload, 1) := by decide +kernel
theorem dX8_lift_6 : decode cX8_lift 6 = .ok (.aload_n 0, 1) := by decide +kernel
theorem dX8_lift_7 : decode cX8_lift 7 = .ok (.getfield 19, 3) := by decide +kernel
theorem dX8_lift_10 : decode cX8_lift 10 = .ok (.iconst 3, 1) := by decide +kernel
theorem dX8_lift_11 : decode cX8_lift 11 = .ok (.iaload, 1) := by decide +kernel
theorem dX8_lift_12 : decode cX8_lift 12 = .ok (.if_icmp .le 19, 3) := by decide +kernel
theorem dX8_lift_15 : decode cX8_lift 15 = .ok (.aload_n 0, 1) := by decide +kernel
theorem dX8_lift_16 : decode cX8_lift 16 = .ok (.getfield 19, 3) := by decide +kernel
theorem dX8_lift_19 : decode cX8_lift 19 = .ok (.iconst 2, 1) := by decide +kernel
theorem dX8_lift_20 : decode cX8_lift 20 = .ok (.iaload, 1) := by decide +kernel
theorem dX8_lift_21 : decode cX8_lift 21 = .ok (.aload_n 0, 1) := by decide +kernel
theorem dX8_lift_22 : decode cX8_lift 22 = .ok (.getfield 19, 3) := by decide +kernel
theorem dX8_lift_25 : decode cX8_lift 25 = .ok (.iconst 3, 1) := by decide +kernel
theorem dX8_lift_26 : decode cX8_lift 26 = .ok (.iaload, 1) := by decide +kernel
theorem dX8_lift_27 : decode cX8_lift 27 = .ok (.isub, 1) := by decide +kernel
theorem dX8_lift_28 : decode cX8_lift 28 = .ok (.goto 4, 3) := by decide +kernel
theorem dX8_lift_31 : decode cX8_lift 31 = .ok (.iconst 0, 1) := by decide +kernel
theorem dX8_lift_32 : decode cX8_lift 32 = .ok (.ireturn, 1) := by decide +kernel
theorem dX8_has_0 : decode cX8_has 0 = .ok (.iload_n 0, 1) := by decide +kernel
theorem dX8_has_1 : decode cX8_has 1 = .ok (.iload_n 1, 1) := by decide +kernel
theorem dX8_has_2 : decode cX8_has 2 = .ok (.ishr, 1) := by decide +kernel
theorem dX8_has_3 : decode cX8_has 3 = .ok (.iconst 1, 1) := by decide +kernel
theorem dX8_has_4 : decode cX8_has 4 = .ok (.iand, 1) := by decide +kernel
theorem dX8_has_5 : decode cX8_has 5 = .ok (.iconst 1, 1) := by decide +kernel
theorem dX8_has_6 : decode cX8_has 6 = .ok (.if_icmp .ne 7, 3) := by decide +kernel
theorem dX8_has_9 : decode cX8_has 9 = .ok (.iconst 1, 1) := by decide +kernel
theorem dX8_has_10 : decode cX8_has 10 = .ok (.goto 4, 3) := by decide +kernel
theorem dX8_has_13 : decode cX8_has 13 = .ok (.iconst 0, 1) := by decide +kernel
theorem dX8_has_14 : decode cX8_has 14 = .ok (.ireturn, 1) := by decide +kernel
theorem dX8_sumOf_0 : decode cX8_sumOf 0 = .ok (.iconst 0, 1) := by decide +kernel
theorem dX8_sumOf_1 : decode cX8_sumOf 1 = .ok (.istore_n 3, 1) := by decide +kernel
theorem dX8_sumOf_2 : decode cX8_sumOf 2 = .ok (.iconst 0, 1) := by decide +kernel
theorem dX8_sumOf_3 : decode cX8_sumOf 3 = .ok (.istore 4, 2) := by decide +kernel
theorem dX8_sumOf_5 : decode cX8_sumOf 5 = .ok (.iload 4, 2) := by decide +kernel
theorem dX8_sumOf_7 : decode cX8_sumOf 7 = .ok (.aload_n 0, 1) := by decide +kernel
theorem dX8_sumOf_8 : decode cX8_sumOf 8 = .ok (.getfield 16, 3) := by decide +kernel
theorem dX8_sumOf_11 : decode cX8_sumOf 11 = .ok (.bipush 36, 2) := by decide +kernel
theorem dX8_sumOf_13 : decode cX8_sumOf 13 = .ok (.iaload, 1) := by decide +kernel
theorem dX8_sumOf_14 : decode cX8_sumOf 14 = .ok (.if_icmp .ge 37, 3) := by decide +kernel
theorem dX8_sumOf_17 : decode cX8_sumOf 17 = .ok (.iload_n 3, 1) := by decide +kernel
theorem dX8_sumOf_18 : decode cX8_sumOf 18 = .ok (.iload_n 1, 1) := by decide +kernel
theorem dX8_sumOf_19 : decode cX8_sumOf 19 = .ok (.iload 4, 2) := by decide +kernel
theorem dX8_sumOf_21 : decode cX8_sumOf 21 = .ok (.invokestatic 86, 3) := by decide +kernel
theorem dX8_sumOf_24 : decode cX8_sumOf 24 = .ok (.ifCond .eq 18, 3) := by decide +kernel
theorem dX8_sumOf_27 : decode cX8_sumOf 27 = .ok (.aload_n 0, 1) := by decide +kernel
theorem dX8_sumOf_28 : decode cX8_sumOf 28 = .ok (.getfield 16, 3) := by decide +kernel
theorem dX8_sumOf_31 : decode cX8_sumOf 31 = .ok (.bipush 6, 2) := by decide +kernel
theorem dX8_sumOf_33 : decode cX8_sumOf 33 = .ok (.iload 4, 2) := by decide +kernel
theorem dX8_sumOf_35 : decode cX8_sumOf 35 = .ok (.imul, 1) := by decide +kernel
theorem dX8_sumOf_36 : decode cX8_sumOf 36 = .ok (.iload_n 2, 1) := by decide +kernel
theorem dX8_sumOf_37 : decode cX8_sumOf 37 = .ok (.iadd, 1) := by decide +kernel
theorem dX8_sumOf_38 : decode cX8_sumOf 38 = .ok (.iaload, 1) := by decide +kernel
theorem dX8_sumOf_39 : decode cX8_sumOf 39 = .ok (.goto 4, 3) := by decide +kernel
theorem dX8_sumOf_42 : decode cX8_sumOf 42 = .ok (.iconst 0, 1) := by decide +kernel
theorem dX8_sumOf_43 : decode cX8_sumOf 43 = .ok (.iadd, 1) := by decide +kernel
theorem dX8_sumOf_44 : decode cX8_sumOf 44 = .ok (.istore_n 3, 1) := by decide +kernel
theorem dX8_sumOf_45 : decode cX8_sumOf 45 = .ok (.iinc 4 1, 3) := by decide +kernel
theorem dX8_sumOf_48 : decode cX8_sumOf 48 = .ok (.goto (-43), 3) := by decide +kernel
theorem dX8_sumOf_51 : decode cX8_sumOf 51 = .ok (.iload_n 3, 1) := by decide +kernel
theorem dX8_sumOf_52 : decode cX8_sumOf 52 = .ok (.ireturn, 1) := by decide +kernel
theorem dX8_can_0 : decode cX8_can 0 = .ok (.iload_n 2, 1) := by decide +kernel
theorem dX8_can_1 : decode cX8_can 1 = .ok (.aload_n 0, 1) := by decide +kernel
theorem dX8_can_2 : decode cX8_can 2 = .ok (.iload_n 1, 1) := by decide +kernel
theorem dX8_can_3 : decode cX8_can 3 = .ok (.iconst 0, 1) := by decide +kernel
theorem dX8_can_4 : decode cX8_can 4 = .ok (.invokevirtual 90, 3) := by decide +kernel
theorem dX8_can_7 : decode cX8_can 7 = .ok (.aload_n 0, 1) := by decide +kernel
theorem dX8_can_8 : decode cX8_can 8 = .ok (.iload_n 1, 1) := by decide +kernel
theorem dX8_can_9 : decode cX8_can 9 = .ok (.iconst 1, 1) := by decide +kernel
theorem dX8_can_10 : decode cX8_can 10 = .ok (.invokevirtual 90, 3) := by decide +kernel
theorem dX8_can_13 : decode cX8_can 13 = .ok (.invokestatic 61, 3) := by decide +kernel
theorem dX8_can_16 : decode cX8_can 16 = .ok (.ireturn, 1) := by decide +kernel
theorem dX8_lowest_0 : decode cX8_lowest 0 = .ok (.iconst 0, 1) := by decide +kernel
theorem dX8_lowest_1 : decode cX8_lowest 1 = .ok (.istore_n 1, 1) := by decide +kernel
theorem dX8_lowest_2 : decode cX8_lowest 2 = .ok (.iload_n 0, 1) := by decide +kernel
theorem dX8_lowest_3 : decode cX8_lowest 3 = .ok (.iload_n 1, 1) := by decide +kernel
theorem dX8_lowest_4 : decode cX8_lowest 4 = .ok (.invokestatic 86, 3) := by decide +kernel
theorem dX8_lowest_7 : decode cX8_lowest 7 = .ok (.ifCond .ne 9, 3) := by decide +kernel
theorem dX8_lowest_10 : decode cX8_lowest 10 = .ok (.iinc 1 1, 3) := by decide +kernel
theorem dX8_lowest_13 : decode cX8_lowest 13 = .ok (.goto (-11), 3) := by decide +kernel
theorem dX8_lowest_16 : decode cX8_lowest 16 = .ok (.iload_n 1, 1) := by decide +kernel
theorem dX8_lowest_17 : decode cX8_lowest 17 = .ok (.ireturn, 1) := by decide +kernel
theorem dX8_leastBy_0 : decode cX8_leastBy 0 = .ok (.ldc 94, 2) := by decide +kernel
theorem dX8_leastBy_2 : decode cX8_leastBy 2 = .ok (.istore 5, 2) := by decide +kernel
theorem dX8_leastBy_4 : decode cX8_leastBy 4 = .ok (.aload_n 0, 1) := by decide +kernel
theorem dX8_leastBy_5 : decode cX8_leastBy 5 = .ok (.iload_n 1, 1) := by decide +kernel
theorem dX8_leastBy_6 : decode cX8_leastBy 6 = .ok (.invokevirtual 95, 3) := by decide +kernel
theorem dX8_leastBy_9 : decode cX8_leastBy 9 = .ok (.istore 6, 2) := by decide +kernel
theorem dX8_leastBy_11 : decode cX8_leastBy 11 = .ok (.iload 6, 2) := by decide +kernel
theorem dX8_leastBy_13 : decode cX8_leastBy 13 = .ok (.aload_n 0, 1) := by decide +kernel
theorem dX8_leastBy_14 : decode cX8_leastBy 14 = .ok (.iload_n 1, 1) := by decide +kernel
theorem dX8_leastBy_15 : decode cX8_leastBy 15 = .ok (.invokevirtual 99, 3) := by decide +kernel
theorem dX8_leastBy_18 : decode cX8_leastBy 18 = .ok (.if_icmp .gt 71, 3) := by decide +kernel
theorem dX8_leastBy_21 : decode cX8_leastBy 21 = .ok (.iload 6, 2) := by decide +kernel
theorem dX8_leastBy_23 : decode cX8_leastBy 23 = .ok (.iload_n 3, 1) := by decide +kernel
theorem dX8_leastBy_24 : decode cX8_leastBy 24 = .ok (.if_icmp .gt 65, 3) := by decide +kernel
theorem dX8_leastBy_27 : decode cX8_leastBy 27 = .ok (.aload_n 0, 1) := by decide +kernel
theorem dX8_leastBy_28 : decode cX8_leastBy 28 = .ok (.getfield 31, 3) := by decide +kernel
theorem dX8_leastBy_31 : decode cX8_leastBy 31 = .ok (.sipush 481, 3) := by decide +kernel
theorem dX8_leastBy_34 : decode cX8_leastBy 34 = .ok (.iload_n 2, 1) := by decide +kernel
theorem dX8_leastBy_35 : decode cX8_leastBy 35 = .ok (.iconst 2, 1) := by decide +kernel
theorem dX8_leastBy_36 : decode cX8_leastBy 36 = .ok (.idiv, 1) := by decide +kernel
theorem dX8_leastBy_37 : decode cX8_leastBy 37 = .ok (.imul, 1) := by decide +kernel
theorem dX8_leastBy_38 : decode cX8_leastBy 38 = .ok (.iload_n 3, 1) := by decide +kernel
theorem dX8_leastBy_39 : decode cX8_leastBy 39 = .ok (.iadd, 1) := by decide +kernel
theorem dX8_leastBy_40 : decode cX8_leastBy 40 = .ok (.iload 6, 2) := by decide +kernel
theorem dX8_leastBy_42 : decode cX8_leastBy 42 = .ok (.isub, 1) := by decide +kernel
theorem dX8_leastBy_43 : decode cX8_leastBy 43 = .ok (.iaload, 1) := by decide +kernel
theorem dX8_leastBy_44 : decode cX8_leastBy 44 = .ok (.istore 7, 2) := by decide +kernel
theorem dX8_leastBy_46 : decode cX8_leastBy 46 = .ok (.iload 7, 2) := by decide +kernel
theorem dX8_leastBy_48 : decode cX8_leastBy 48 = .ok (.ldc 94, 2) := by decide +kernel
theorem dX8_leastBy_50 : decode cX8_leastBy 50 = .ok (.if_icmp .ge 33, 3) := by decide +kernel
theorem dX8_leastBy_53 : decode cX8_leastBy 53 = .ok (.iload 7, 2) := by decide +kernel
theorem dX8_leastBy_55 : decode cX8_leastBy 55 = .ok (.aload_n 0, 1) := by decide +kernel
theorem dX8_leastBy_56 : decode cX8_leastBy 56 = .ok (.iload_n 1, 1) := by decide +kernel
theorem dX8_leastBy_57 : decode cX8_leastBy 57 = .ok (.iload 6, 2) := by decide +kernel
theorem dX8_leastBy_59 : decode cX8_leastBy 59 = .ok (.iload 4, 2) := by decide +kernel
theorem dX8_leastBy_61 : decode cX8_leastBy 61 = .ok (.invokevirtual 102, 3) := by decide +kernel
theorem dX8_leastBy_64 : decode cX8_leastBy 64 = .ok (.iadd, 1) := by decide +kernel
theorem dX8_leastBy_65 : decode cX8_leastBy 65 = .ok (.istore 8, 2) := by decide +kernel
theorem dX8_leastBy_67 : decode cX8_leastBy 67 = .ok (.iload 8, 2) := by decide +kernel
theorem dX8_leastBy_69 : decode cX8_leastBy 69 = .ok (.iload 5, 2) := by decide +kernel
theorem dX8_leastBy_71 : decode cX8_leastBy 71 = .ok (.if_icmp .ge 8, 3) := by decide +kernel
theorem dX8_leastBy_74 : decode cX8_leastBy 74 = .ok (.iload 8, 2) := by decide +kernel
theorem dX8_leastBy_76 : decode cX8_leastBy 76 = .ok (.goto 5, 3) := by decide +kernel
theorem dX8_leastBy_79 : decode cX8_leastBy 79 = .ok (.iload 5, 2) := by decide +kernel
theorem dX8_leastBy_81 : decode cX8_leastBy 81 = .ok (.istore 5, 2) := by decide +kernel
theorem dX8_leastBy_83 : decode cX8_leastBy 83 = .ok (.iinc 6 1, 3) := by decide +kernel
theorem dX8_leastBy_86 : decode cX8_leastBy 86 = .ok (.goto (-75), 3) := by decide +kernel
theorem dX8_leastBy_89 : decode cX8_leastBy 89 = .ok (.iload 5, 2) := by decide +kernel
theorem dX8_leastBy_91 : decode cX8_leastBy 91 = .ok (.ireturn, 1) := by decide +kernel
theorem dX8_layTable_0 : decode cX8_layTable 0 = .ok (.aload_n 0, 1) := by decide +kernel
theorem dX8_layTable_1 : decode cX8_layTable 1 = .ok (.invokevirtual 106, 3) := by decide +kernel
theorem dX8_layTable_4 : decode cX8_layTable 4 = .ok (.istore_n 1, 1) := by decide +kernel
theorem dX8_layTable_5 : decode cX8_layTable 5 = .ok (.aload_n 0, 1) := by decide +kernel
theorem dX8_layTable_6 : decode cX8_layTable 6 = .ok (.getfield 51, 3) := by decide +kernel
theorem dX8_layTable_9 : decode cX8_layTable 9 = .ok (.ifCond .eq 12, 3) := by decide +kernel
theorem dX8_layTable_12 : decode cX8_layTable 12 = .ok (.aload_n 0, 1) := by decide +kernel
theorem dX8_layTable_13 : decode cX8_layTable 13 = .ok (.getfield 109, 3) := by decide +kernel
theorem dX8_layTable_16 : decode cX8_layTable 16 = .ok (.iload_n 1, 1) := by decide +kernel
theorem dX8_layTable_17 : decode cX8_layTable 17 = .ok (.if_icmp .ne 4, 3) := by decide +kernel
theorem dX8_layTable_20 : decode cX8_layTable 20 = .ok (.return_, 1) := by decide +kernel
theorem dX8_layTable_21 : decode cX8_layTable 21 = .ok (.aload_n 0, 1) := by decide +kernel
theorem dX8_layTable_22 : decode cX8_layTable 22 = .ok (.iconst 1, 1) := by decide +kernel
theorem dX8_layTable_23 : decode cX8_layTable 23 = .ok (.putfield 51, 3) := by decide +kernel
theorem dX8_layTable_26 : decode cX8_layTable 26 = .ok (.aload_n 0, 1) := by decide +kernel
theorem dX8_layTable_27 : decode cX8_layTable 27 = .ok (.iload_n 1, 1) := by decide +kernel
theorem dX8_layTable_28 : decode cX8_layTable 28 = .ok (.putfield 109, 3) := by decide +kernel
theorem dX8_layTable_31 : decode cX8_layTable 31 = .ok (.iconst 0, 1) := by decide +kernel
theorem dX8_layTable_32 : decode cX8_layTable 32 = .ok (.istore_n 2, 1) := by decide +kernel
theorem dX8_layTable_33 : decode cX8_layTable 33 = .ok (.iload_n 2, 1) := by decide +kernel
theorem dX8_layTable_34 : decode cX8_layTable 34 = .ok (.sipush 481, 3) := by decide +kernel
theorem dX8_layTable_37 : decode cX8_layTable 37 = .ok (.if_icmp .ge 25, 3) := by decide +kernel
theorem dX8_layTable_40 : decode cX8_layTable 40 = .ok (.aload_n 0, 1) := by decide +kernel
theorem dX8_layTable_41 : decode cX8_layTable 41 = .ok (.getfield 31, 3) := by decide +kernel
theorem dX8_layTable_44 : decode cX8_layTable 44 = .ok (.iload_n 2, 1) := by decide +kernel
theorem dX8_layTable_45 : decode cX8_layTable 45 = .ok (.iload_n 2, 1) := by decide +kernel
theorem dX8_layTable_46 : decode cX8_layTable 46 = .ok (.ifCond .ne 7, 3) := by decide +kernel
theorem dX8_layTable_49 : decode cX8_layTable 49 = .ok (.iconst 0, 1) := by decide +kernel
theorem dX8_layTable_50 : decode cX8_layTable 50 = .ok (.goto 5, 3) := by decide +kernel
theorem dX8_layTable_53 : decode cX8_layTable 53 = .ok (.ldc 94, 2) := by decide +kernel
theorem dX8_layTable_55 : decode cX8_layTable 55 = .ok (.iastore, 1) := by decide +kernel
theorem dX8_layTable_56 : decode cX8_layTable 56 = .ok (.iinc 2 1, 3) := by decide +kernel
theorem dX8_layTable_59 : decode cX8_layTable 59 = .ok (.goto (-26), 3) := by decide +kernel
theorem dX8_layTable_62 : decode cX8_layTable 62 = .ok (.iconst 2, 1) := by decide +kernel
theorem dX8_layTable_63 : decode cX8_layTable 63 = .ok (.istore_n 2, 1) := by decide +kernel
theorem dX8_layTable_64 : decode cX8_layTable 64 = .ok (.iload_n 2, 1) := by decide +kernel
theorem dX8_layTable_65 : decode cX8_layTable 65 = .ok (.iconst 1, 1) := by decide +kernel
theorem dX8_layTable_66 : decode cX8_layTable 66 = .ok (.aload_n 0, 1) := by decide +kernel
theorem dX8_layTable_67 : decode cX8_layTable 67 = .ok (.getfield 16, 3) := by decide +kernel
theorem dX8_layTable_70 : decode cX8_layTable 70 = .ok (.bipush 36, 2) := by decide +kernel
theorem dX8_layTable_72 : decode cX8_layTable 72 = .ok (.iaload, 1) := by decide +kernel
theorem dX8_layTable_73 : decode cX8_layTable 73 = .ok (.ishl, 1) := by decide +kernel
theorem dX8_layTable_74 : decode cX8_layTable 74 = .ok (.if_icmp .ge 59, 3) := by decide +kernel
theorem dX8_layTable_77 : decode cX8_layTable 77 = .ok (.iload_n 2, 1) := by decide +kernel
theorem dX8_layTable_78 : decode cX8_layTable 78 = .ok (.invokestatic 112, 3) := by decide +kernel
theorem dX8_layTable_81 : decode cX8_layTable 81 = .ok (.istore_n 3, 1) := by decide +kernel
theorem dX8_layTable_82 : decode cX8_layTable 82 = .ok (.iconst 0, 1) := by decide +kernel
theorem dX8_layTable_83 : decode cX8_layTable 83 = .ok (.istore 4, 2) := by decide +kernel
theorem dX8_layTable_85 : decode cX8_layTable 85 = .ok (.iload 4, 2) := by decide +kernel
theorem dX8_layTable_87 : decode cX8_layTable 87 = .ok (.sipush 481, 3) := by decide +kernel
theorem dX8_layTable_90 : decode cX8_layTable 90 = .ok (.if_icmp .ge 37, 3) := by decide +kernel
theorem dX8_layTable_93 : decode cX8_layTable 93 = .ok (.aload_n 0, 1) := by decide +kernel
theorem dX8_layTable_94 : decode cX8_layTable 94 = .ok (.getfield 31, 3) := by decide +kernel
theorem dX8_layTable_97 : decode cX8_layTable 97 = .ok (.sipush 481, 3) := by decide +kernel
theorem dX8_layTable_100 : decode cX8_layTable 100 = .ok (.iload_n 2, 1) := by decide +kernel
theorem dX8_layTable_101 : decode cX8_layTable 101 = .ok (.iconst 2, 1) := by decide +kernel
theorem dX8_layTable_102 : decode cX8_layTable 102 = .ok (.idiv, 1) := by decide +kernel
theorem dX8_layTable_103 : decode cX8_layTable 103 = .ok (.imul, 1) := by decide +kernel
theorem dX8_layTable_104 : decode cX8_layTable 104 = .ok (.iload 4, 2) := by decide +kernel
theorem dX8_layTable_106 : decode cX8_layTable 106 = .ok (.iadd, 1) := by decide +kernel
theorem dX8_layTable_107 : decode cX8_layTable 107 = .ok (.aload_n 0, 1) := by decide +kernel
theorem dX8_layTable_108 : decode cX8_layTable 108 = .ok (.iload_n 3, 1) := by decide +kernel
theorem dX8_layTable_109 : decode cX8_layTable 109 = .ok (.iload_n 2, 1) := by decide +kernel
theorem dX8_layTable_110 : decode cX8_layTable 110 = .ok (.iload_n 2, 1) := by decide +kernel
theorem dX8_layTable_111 : decode cX8_layTable 111 = .ok (.iconst 1, 1) := by decide +kernel
theorem dX8_layTable_112 : decode cX8_layTable 112 = .ok (.isub, 1) := by decide +kernel
theorem dX8_layTable_113 : decode cX8_layTable 113 = .ok (.iand, 1) := by decide +kernel
theorem dX8_layTable_114 : decode cX8_layTable 114 = .ok (.iload 4, 2) := by decide +kernel
theorem dX8_layTable_116 : decode cX8_layTable 116 = .ok (.iload_n 1, 1) := by decide +kernel
theorem dX8_layTable_117 : decode cX8_layTable 117 = .ok (.invokevirtual 115, 3) := by decide +kernel
theorem dX8_layTable_120 : decode cX8_layTable 120 = .ok (.iastore, 1) := by decide +kernel
theorem dX8_layTable_121 : decode cX8_layTable 121 = .ok (.iinc 4 1, 3) := by decide +kernel
theorem dX8_layTable_124 : decode cX8_layTable 124 = .ok (.goto (-39), 3) := by decide +kernel
theorem dX8_layTable_127 : decode cX8_layTable 127 = .ok (.iinc 2 2, 3) := by decide +kernel
theorem dX8_layTable_130 : decode cX8_layTable 130 = .ok (.goto (-66), 3) := by decide +kernel
theorem dX8_layTable_133 : decode cX8_layTable 133 = .ok (.return_, 1) := by decide +kernel
theorem dX8_leastPower_0 : decode cX8_leastPower 0 = .ok (.iload_n 1, 1) := by decide +kernel
theorem dX8_leastPower_1 : decode cX8_leastPower 1 = .ok (.iconst 2, 1) := by decide +kernel
theorem dX8_leastPower_2 : decode cX8_leastPower 2 = .ok (.irem, 1) := by decide +kernel
theorem dX8_leastPower_3 : decode cX8_leastPower 3 = .ok (.ifCond .ne 20, 3) := by decide +kernel
theorem dX8_leastPower_6 : decode cX8_leastPower 6 = .ok (.aload_n 0, 1) := by decide +kernel
theorem dX8_leastPower_7 : decode cX8_leastPower 7 = .ok (.getfield 31, 3) := by decide +kernel
theorem dX8_leastPower_10 : decode cX8_leastPower 10 = .ok (.sipush 481, 3) := by decide +kernel
theorem dX8_leastPower_13 : decode cX8_leastPower 13 = .ok (.iload_n 1, 1) := by decide +kernel
theorem dX8_leastPower_14 : decode cX8_leastPower 14 = .ok (.iconst 2, 1) := by decide +kernel
theorem dX8_leastPower_15 : decode cX8_leastPower 15 = .ok (.idiv, 1) := by decide +kernel
theorem dX8_leastPower_16 : decode cX8_leastPower 16 = .ok (.imul, 1) := by decide +kernel
theorem dX8_leastPower_17 : decode cX8_leastPower 17 = .ok (.iload_n 2, 1) := by decide +kernel
theorem dX8_leastPower_18 : decode cX8_leastPower 18 = .ok (.iadd, 1) := by decide +kernel
theorem dX8_leastPower_19 : decode cX8_leastPower 19 = .ok (.iaload, 1) := by decide +kernel
theorem dX8_leastPower_20 : decode cX8_leastPower 20 = .ok (.goto 16, 3) := by decide +kernel
theorem dX8_leastPower_23 : decode cX8_leastPower 23 = .ok (.aload_n 0, 1) := by decide +kernel
theorem dX8_leastPower_24 : decode cX8_leastPower 24 = .ok (.iconst 0, 1) := by decide +kernel
theorem dX8_leastPower_25 : decode cX8_leastPower 25 = .ok (.iload_n 1, 1) := by decide +kernel
theorem dX8_leastPower_26 : decode cX8_leastPower 26 = .ok (.iconst 1, 1) := by decide +kernel
theorem dX8_leastPower_27 : decode cX8_leastPower 27 = .ok (.isub, 1) := by decide +kernel
theorem dX8_leastPower_28 : decode cX8_leastPower 28 = .ok (.iload_n 2, 1) := by decide +kernel
theorem dX8_leastPower_29 : decode cX8_leastPower 29 = .ok (.aload_n 0, 1) := by decide +kernel
theorem dX8_leastPower_30 : decode cX8_leastPower 30 = .ok (.getfield 109, 3) := by decide +kernel
theorem dX8_leastPower_33 : decode cX8_leastPower 33 = .ok (.invokevirtual 115, 3) := by decide +kernel
theorem dX8_leastPower_36 : decode cX8_leastPower 36 = .ok (.ireturn, 1) := by decide +kernel
theorem dX8_layShare_0 : decode cX8_layShare 0 = .ok (.iload_n 1, 1) := by decide +kernel
theorem dX8_layShare_1 : decode cX8_layShare 1 = .ok (.istore_n 3, 1) := by decide +kernel
theorem dX8_layShare_2 : decode cX8_layShare 2 = .ok (.iload_n 2, 1) := by decide +kernel
theorem dX8_layShare_3 : decode cX8_layShare 3 = .ok (.istore 4, 2) := by decide +kernel
theorem dX8_layShare_5 : decode cX8_layShare 5 = .ok (.iconst 0, 1) := by decide +kernel
theorem dX8_layShare_6 : decode cX8_layShare 6 = .ok (.istore 5, 2) := by decide +kernel
theorem dX8_layShare_8 : decode cX8_layShare 8 = .ok (.iload 5, 2) := by decide +kernel
theorem dX8_layShare_10 : decode cX8_layShare 10 = .ok (.aload_n 0, 1) := by decide +kernel
theorem dX8_layShare_11 : decode cX8_layShare 11 = .ok (.getfield 16, 3) := by decide +kernel
theorem dX8_layShare_14 : decode cX8_layShare 14 = .ok (.bipush 36, 2) := by decide +kernel
theorem dX8_layShare_16 : decode cX8_layShare 16 = .ok (.iaload, 1) := by decide +kernel
theorem dX8_layShare_17 : decode cX8_layShare 17 = .ok (.if_icmp .ge 138, 3) := by decide +kernel
theorem dX8_layShare_20 : decode cX8_layShare 20 = .ok (.aload_n 0, 1) := by decide +kernel
theorem dX8_layShare_21 : decode cX8_layShare 21 = .ok (.getfield 34, 3) := by decide +kernel
theorem dX8_layShare_24 : decode cX8_layShare 24 = .ok (.iload 5, 2) := by decide +kernel
theorem dX8_layShare_26 : decode cX8_layShare 26 = .ok (.iconst 0, 1) := by decide +kernel
theorem dX8_layShare_27 : decode cX8_layShare 27 = .ok (.iastore, 1) := by decide +kernel
theorem dX8_layShare_28 : decode cX8_layShare 28 = .ok (.iload_n 1, 1) := by decide +kernel
theorem dX8_layShare_29 : decode cX8_layShare 29 = .ok (.iload 5, 2) := by decide +kernel
theorem dX8_layShare_31 : decode cX8_layShare 31 = .ok (.invokestatic 86, 3) := by decide +kernel
theorem dX8_layShare_34 : decode cX8_layShare 34 = .ok (.ifCond .eq 115, 3) := by decide +kernel
theorem dX8_layShare_37 : decode cX8_layShare 37 = .ok (.aload_n 0, 1) := by decide +kernel
theorem dX8_layShare_38 : decode cX8_layShare 38 = .ok (.iload_n 3, 1) := by decide +kernel
theorem dX8_layShare_39 : decode cX8_layShare 39 = .ok (.iload 4, 2) := by decide +kernel
theorem dX8_layShare_41 : decode cX8_layShare 41 = .ok (.invokevirtual 119, 3) := by decide +kernel
theorem dX8_layShare_44 : decode cX8_layShare 44 = .ok (.istore 6, 2) := by decide +kernel
theorem dX8_layShare_46 : decode cX8_layShare 46 = .ok (.iload_n 3, 1) := by decide +kernel
theorem dX8_layShare_47 : decode cX8_layShare 47 = .ok (.iconst 1, 1) := by decide +kernel
theorem dX8_layShare_48 : decode cX8_layShare 48 = .ok (.iload 5, 2) := by decide +kernel
theorem dX8_layShare_50 : decode cX8_layShare 50 = .ok (.ishl, 1) := by decide +kernel
theorem dX8_layShare_51 : decode cX8_layShare 51 = .ok (.isub, 1) := by decide +kernel
theorem dX8_layShare_52 : decode cX8_layShare 52 = .ok (.istore_n 3, 1) := by decide +kernel
theorem dX8_layShare_53 : decode cX8_layShare 53 = .ok (.aload_n 0, 1) := by decide +kernel
theorem dX8_layShare_54 : decode cX8_layShare 54 = .ok (.iload 5, 2) := by decide +kernel
theorem dX8_layShare_56 : decode cX8_layShare 56 = .ok (.invokevirtual 95, 3) := by decide +kernel
theorem dX8_layShare_59 : decode cX8_layShare 59 = .ok (.istore 7, 2) := by decide +kernel
theorem dX8_layShare_61 : decode cX8_layShare 61 = .ok (.iload 7, 2) := by decide +kernel
theorem dX8_layShare_63 : decode cX8_layShare 63 = .ok (.iload 4, 2) := by decide +kernel
theorem dX8_layShare_65 : decode cX8_layShare 65 = .ok (.if_icmp .gt 62, 3) := by decide +kernel
theorem dX8_layShare_68 : decode cX8_layShare 68 = .ok (.aload_n 0, 1) := by decide +kernel
theorem dX8_layShare_69 : decode cX8_layShare 69 = .ok (.getfield 31, 3) := by decide +kernel
theorem dX8_layShare_72 : decode cX8_layShare 72 = .ok (.sipush 481, 3) := by decide +kernel
theorem dX8_layShare_75 : decode cX8_layShare 75 = .ok (.iload_n 3, 1) := by decide +kernel
theorem dX8_layShare_76 : decode cX8_layShare 76 = .ok (.iconst 2, 1) := by decide +kernel
theorem dX8_layShare_77 : decode cX8_layShare 77 = .ok (.idiv, 1) := by decide +kernel
theorem dX8_layShare_78 : decode cX8_layShare 78 = .ok (.imul, 1) := by decide +kernel
theorem dX8_layShare_79 : decode cX8_layShare 79 = .ok (.iload 4, 2) := by decide +kernel
theorem dX8_layShare_81 : decode cX8_layShare 81 = .ok (.iadd, 1) := by decide +kernel
theorem dX8_layShare_82 : decode cX8_layShare 82 = .ok (.iload 7, 2) := by decide +kernel
theorem dX8_layShare_84 : decode cX8_layShare 84 = .ok (.isub, 1) := by decide +kernel
theorem dX8_layShare_85 : decode cX8_layShare 85 = .ok (.iaload, 1) := by decide +kernel
theorem dX8_layShare_86 : decode cX8_layShare 86 = .ok (.ldc 94, 2) := by decide +kernel
theorem dX8_layShare_88 : decode cX8_layShare 88 = .ok (.if_icmp .ge 39, 3) := by decide +kernel
theorem dX8_layShare_91 : decode cX8_layShare 91 = .ok (.aload_n 0, 1) := by decide +kernel
theorem dX8_layShare_92 : decode cX8_layShare 92 = .ok (.iload 5, 2) := by decide +kernel
theorem dX8_layShare_94 : decode cX8_layShare 94 = .ok (.iload 7, 2) := by decide +kernel
theorem dX8_layShare_96 : decode cX8_layShare 96 = .ok (.aload_n 0, 1) := by decide +kernel
theorem dX8_layShare_97 : decode cX8_layShare 97 = .ok (.getfield 109, 3) := by decide +kernel
theorem dX8_layShare_100 : decode cX8_layShare 100 = .ok (.invokevirtual 102, 3) := by decide +kernel
theorem dX8_layShare_103 : decode cX8_layShare 103 = .ok (.aload_n 0, 1) := by decide +kernel
theorem dX8_layShare_104 : decode cX8_layShare 104 = .ok (.getfield 31, 3) := by decide +kernel
theorem dX8_layShare_107 : decode cX8_layShare 107 = .ok (.sipush 481, 3) := by decide +kernel
theorem dX8_layShare_110 : decode cX8_layShare 110 = .ok (.iload_n 3, 1) := by decide +kernel
theorem dX8_layShare_111 : decode cX8_layShare 111 = .ok (.iconst 2, 1) := by decide +kernel
theorem dX8_layShare_112 : decode cX8_layShare 112 = .ok (.idiv, 1) := by decide +kernel
theorem dX8_layShare_113 : decode cX8_layShare 113 = .ok (.imul, 1) := by decide +kernel
theorem dX8_layShare_114 : decode cX8_layShare 114 = .ok (.iload 4, 2) := by decide +kernel
theorem dX8_layShare_116 : decode cX8_layShare 116 = .ok (.iadd, 1) := by decide +kernel
theorem dX8_layShare_117 : decode cX8_layShare 117 = .ok (.iload 7, 2) := by decide +kernel
theorem dX8_layShare_119 : decode cX8_layShare 119 = .ok (.isub, 1) := by decide +kernel
theorem dX8_layShare_120 : decode cX8_layShare 120 = .ok (.iaload, 1) := by decide +kernel
theorem dX8_layShare_121 : decode cX8_layShare 121 = .ok (.iadd, 1) := by decide +kernel
theorem dX8_layShare_122 : decode cX8_layShare 122 = .ok (.iload 6, 2) := by decide +kernel
theorem dX8_layShare_124 : decode cX8_layShare 124 = .ok (.if_icmp .eq 9, 3) := by decide +kernel
theorem dX8_layShare_127 : decode cX8_layShare 127 = .ok (.iinc 7 1, 3) := by decide +kernel
theorem dX8_layShare_130 : decode cX8_layShare 130 = .ok (.goto (-69), 3) := by decide +kernel
theorem dX8_layShare_133 : decode cX8_layShare 133 = .ok (.aload_n 0, 1) := by decide +kernel
theorem dX8_layShare_134 : decode cX8_layShare 134 = .ok (.getfield 34, 3) := by decide +kernel
theorem dX8_layShare_137 : decode cX8_layShare 137 = .ok (.iload 5, 2) := by decide +kernel
theorem dX8_layShare_139 : decode cX8_layShare 139 = .ok (.iload 7, 2) := by decide +kernel
theorem dX8_layShare_141 : decode cX8_layShare 141 = .ok (.iastore, 1) := by decide +kernel
theorem dX8_layShare_142 : decode cX8_layShare 142 = .ok (.iload 4, 2) := by decide +kernel
theorem dX8_layShare_144 : decode cX8_layShare 144 = .ok (.iload 7, 2) := by decide +kernel
theorem dX8_layShare_146 : decode cX8_layShare 146 = .ok (.isub, 1) := by decide +kernel
theorem dX8_layShare_147 : decode cX8_layShare 147 = .ok (.istore 4, 2) := by decide +kernel
theorem dX8_layShare_149 : decode cX8_layShare 149 = .ok (.iinc 5 1, 3) := by decide +kernel
theorem dX8_layShare_152 : decode cX8_layShare 152 = .ok (.goto (-144), 3) := by decide +kernel
theorem dX8_layShare_155 : decode cX8_layShare 155 = .ok (.return_, 1) := by decide +kernel
theorem dX8_lockedOnes_0 : decode cX8_lockedOnes 0 = .ok (.iconst 0, 1) := by decide +kernel
theorem dX8_lockedOnes_1 : decode cX8_lockedOnes 1 = .ok (.istore_n 1, 1) := by decide +kernel
theorem dX8_lockedOnes_2 : decode cX8_lockedOnes 2 = .ok (.iconst 0, 1) := by decide +kernel
theorem dX8_lockedOnes_3 : decode cX8_lockedOnes 3 = .ok (.istore_n 2, 1) := by decide +kernel
theorem dX8_lockedOnes_4 : decode cX8_lockedOnes 4 = .ok (.iload_n 2, 1) := by decide +kernel
theorem dX8_lockedOnes_5 : decode cX8_lockedOnes 5 = .ok (.aload_n 0, 1) := by decide +kernel
theorem dX8_lockedOnes_6 : decode cX8_lockedOnes 6 = .ok (.getfield 16, 3) := by decide +kernel
theorem dX8_lockedOnes_9 : decode cX8_lockedOnes 9 = .ok (.bipush 36, 2) := by decide +kernel
theorem dX8_lockedOnes_11 : decode cX8_lockedOnes 11 = .ok (.iaload, 1) := by decide +kernel
theorem dX8_lockedOnes_12 : decode cX8_lockedOnes 12 = .ok (.if_icmp .ge 29, 3) := by decide +kernel
theorem dX8_lockedOnes_15 : decode cX8_lockedOnes 15 = .ok (.iload_n 1, 1) := by decide +kernel
theorem dX8_lockedOnes_16 : decode cX8_lockedOnes 16 = .ok (.aload_n 0, 1) := by decide +kernel
theorem dX8_lockedOnes_17 : decode cX8_lockedOnes 17 = .ok (.iload_n 2, 1) := by decide +kernel
theorem dX8_lockedOnes_18 : decode cX8_lockedOnes 18 = .ok (.iconst 3, 1) := by decide +kernel
theorem dX8_lockedOnes_19 : decode cX8_lockedOnes 19 = .ok (.invokevirtual 122, 3) := by decide +kernel
theorem dX8_lockedOnes_22 : decode cX8_lockedOnes 22 = .ok (.iconst 1, 1) := by decide +kernel
theorem dX8_lockedOnes_23 : decode cX8_lockedOnes 23 = .ok (.if_icmp .ne 9, 3) := by decide +kernel
theorem dX8_lockedOnes_26 : decode cX8_lockedOnes 26 = .ok (.iconst 1, 1) := by decide +kernel
theorem dX8_lockedOnes_27 : decode cX8_lockedOnes 27 = .ok (.iload_n 2, 1) := by decide +kernel
theorem dX8_lockedOnes_28 : decode cX8_lockedOnes 28 = .ok (.ishl, 1) := by decide +kernel
theorem dX8_lockedOnes_29 : decode cX8_lockedOnes 29 = .ok (.goto 4, 3) := by decide +kernel
theorem dX8_lockedOnes_32 : decode cX8_lockedOnes 32 = .ok (.iconst 0, 1) := by decide +kernel
theorem dX8_lockedOnes_33 : decode cX8_lockedOnes 33 = .ok (.ior, 1) := by decide +kernel
theorem dX8_lockedOnes_34 : decode cX8_lockedOnes 34 = .ok (.istore_n 1, 1) := by decide +kernel
theorem dX8_lockedOnes_35 : decode cX8_lockedOnes 35 = .ok (.iinc 2 1, 3) := by decide +kernel
theorem dX8_lockedOnes_38 : decode cX8_lockedOnes 38 = .ok (.goto (-34), 3) := by decide +kernel
theorem dX8_lockedOnes_41 : decode cX8_lockedOnes 41 = .ok (.iload_n 1, 1) := by decide +kernel
theorem dX8_lockedOnes_42 : decode cX8_lockedOnes 42 = .ok (.ireturn, 1) := by decide +kernel
theorem dX8_ones_0 : decode cX8_ones 0 = .ok (.iconst 0, 1) := by decide +kernel
theorem dX8_ones_1 : decode cX8_ones 1 = .ok (.istore_n 1, 1) := by decide +kernel
theorem dX8_ones_2 : decode cX8_ones 2 = .ok (.iconst 0, 1) := by decide +kernel
theorem dX8_ones_3 : decode cX8_ones 3 = .ok (.istore_n 2, 1) := by decide +kernel
theorem dX8_ones_4 : decode cX8_ones 4 = .ok (.iload_n 2, 1) := by decide +kernel
theorem dX8_ones_5 : decode cX8_ones 5 = .ok (.bipush 6, 2) := by decide +kernel
theorem dX8_ones_7 : decode cX8_ones 7 = .ok (.if_icmp .ge 17, 3) := by decide +kernel
theorem dX8_ones_10 : decode cX8_ones 10 = .ok (.iload_n 1, 1) := by decide +kernel
theorem dX8_ones_11 : decode cX8_ones 11 = .ok (.iload_n 0, 1) := by decide +kernel
theorem dX8_ones_12 : decode cX8_ones 12 = .ok (.iload_n 2, 1) := by decide +kernel
theorem dX8_ones_13 : decode cX8_ones 13 = .ok (.ishr, 1) := by decide +kernel
theorem dX8_ones_14 : decode cX8_ones 14 = .ok (.iconst 1, 1) := by decide +kernel
theorem dX8_ones_15 : decode cX8_ones 15 = .ok (.iand, 1) := by decide +kernel
theorem dX8_ones_16 : decode cX8_ones 16 = .ok (.iadd, 1) := by decide +kernel
theorem dX8_ones_17 : decode cX8_ones 17 = .ok (.istore_n 1, 1) := by decide +kernel
theorem dX8_ones_18 : decode cX8_ones 18 = .ok (.iinc 2 1, 3) := by decide +kernel
theorem dX8_ones_21 : decode cX8_ones 21 = .ok (.goto (-17), 3) := by decide +kernel
theorem dX8_ones_24 : decode cX8_ones 24 = .ok (.iload_n 1, 1) := by decide +kernel
theorem dX8_ones_25 : decode cX8_ones 25 = .ok (.ireturn, 1) := by decide +kernel
theorem dX8_findBest_0 : decode cX8_findBest 0 = .ok (.aload_n 0, 1) := by decide +kernel
theorem dX8_findBest_1 : decode cX8_findBest 1 = .ok (.invokevirtual 125, 3) := by decide +kernel
theorem dX8_findBest_4 : decode cX8_findBest 4 = .ok (.aload_n 0, 1) := by decide +kernel
theorem dX8_findBest_5 : decode cX8_findBest 5 = .ok (.invokevirtual 128, 3) := by decide +kernel
theorem dX8_findBest_8 : decode cX8_findBest 8 = .ok (.istore_n 2, 1) := by decide +kernel
theorem dX8_findBest_9 : decode cX8_findBest 9 = .ok (.bipush (-4), 2) := by decide +kernel
theorem dX8_findBest_11 : decode cX8_findBest 11 = .ok (.istore_n 3, 1) := by decide +kernel
theorem dX8_findBest_12 : decode cX8_findBest 12 = .ok (.aload_n 0, 1) := by decide +kernel
theorem dX8_findBest_13 : decode cX8_findBest 13 = .ok (.ldc 94, 2) := by decide +kernel
theorem dX8_findBest_15 : decode cX8_findBest 15 = .ok (.putfield 131, 3) := by decide +kernel
theorem dX8_findBest_18 : decode cX8_findBest 18 = .ok (.iconst 0, 1) := by decide +kernel
theorem dX8_findBest_19 : decode cX8_findBest 19 = .ok (.istore 4, 2) := by decide +kernel
theorem dX8_findBest_21 : decode cX8_findBest 21 = .ok (.iload 4, 2) := by decide +kernel
theorem dX8_findBest_23 : decode cX8_findBest 23 = .ok (.iconst 1, 1) := by decide +kernel
theorem dX8_findBest_24 : decode cX8_findBest 24 = .ok (.aload_n 0, 1) := by decide +kernel
theorem dX8_findBest_25 : decode cX8_findBest 25 = .ok (.getfield 16, 3) := by decide +kernel
theorem dX8_findBest_28 : decode cX8_findBest 28 = .ok (.bipush 36, 2) := by decide +kernel
theorem dX8_findBest_30 : decode cX8_findBest 30 = .ok (.iaload, 1) := by decide +kernel
theorem dX8_findBest_31 : decode cX8_findBest 31 = .ok (.ishl, 1) := by decide +kernel
theorem dX8_findBest_32 : decode cX8_findBest 32 = .ok (.if_icmp .ge 102, 3) := by decide +kernel
theorem dX8_findBest_35 : decode cX8_findBest 35 = .ok (.iload 4, 2) := by decide +kernel
theorem dX8_findBest_37 : decode cX8_findBest 37 = .ok (.iload_n 2, 1) := by decide +kernel
theorem dX8_findBest_38 : decode cX8_findBest 38 = .ok (.iand, 1) := by decide +kernel
theorem dX8_findBest_39 : decode cX8_findBest 39 = .ok (.ifCond .ne 89, 3) := by decide +kernel
theorem dX8_findBest_42 : decode cX8_findBest 42 = .ok (.aload_n 0, 1) := by decide +kernel
theorem dX8_findBest_43 : decode cX8_findBest 43 = .ok (.iload 4, 2) := by decide +kernel
theorem dX8_findBest_45 : decode cX8_findBest 45 = .ok (.iload_n 1, 1) := by decide +kernel
theorem dX8_findBest_46 : decode cX8_findBest 46 = .ok (.invokevirtual 134, 3) := by decide +kernel
theorem dX8_findBest_49 : decode cX8_findBest 49 = .ok (.ifCond .eq 79, 3) := by decide +kernel
theorem dX8_findBest_52 : decode cX8_findBest 52 = .ok (.aload_n 0, 1) := by decide +kernel
theorem dX8_findBest_53 : decode cX8_findBest 53 = .ok (.iload 4, 2) := by decide +kernel
theorem dX8_findBest_55 : decode cX8_findBest 55 = .ok (.iload_n 1, 1) := by decide +kernel
theorem dX8_findBest_56 : decode cX8_findBest 56 = .ok (.invokevirtual 119, 3) := by decide +kernel
theorem dX8_findBest_59 : decode cX8_findBest 59 = .ok (.istore 5, 2) := by decide +kernel
theorem dX8_findBest_61 : decode cX8_findBest 61 = .ok (.iload 5, 2) := by decide +kernel
theorem dX8_findBest_63 : decode cX8_findBest 63 = .ok (.aload_n 0, 1) := by decide +kernel
theorem dX8_findBest_64 : decode cX8_findBest 64 = .ok (.getfield 131, 3) := by decide +kernel
theorem dX8_findBest_67 : decode cX8_findBest 67 = .ok (.if_icmp .lt 24, 3) := by decide +kernel
theorem dX8_findBest_70 : decode cX8_findBest 70 = .ok (.iload 5, 2) := by decide +kernel
theorem dX8_findBest_72 : decode cX8_findBest 72 = .ok (.aload_n 0, 1) := by decide +kernel
theorem dX8_findBest_73 : decode cX8_findBest 73 = .ok (.getfield 131, 3) := by decide +kernel
theorem dX8_findBest_76 : decode cX8_findBest 76 = .ok (.if_icmp .ne 19, 3) := by decide +kernel
theorem dX8_findBest_79 : decode cX8_findBest 79 = .ok (.iload 4, 2) := by decide +kernel
theorem dX8_findBest_81 : decode cX8_findBest 81 = .ok (.invokestatic 137, 3) := by decide +kernel
theorem dX8_findBest_84 : decode cX8_findBest 84 = .ok (.iload_n 3, 1) := by decide +kernel
theorem dX8_findBest_85 : decode cX8_findBest 85 = .ok (.invokestatic 137, 3) := by decide +kernel
theorem dX8_findBest_88 : decode cX8_findBest 88 = .ok (.if_icmp .ge 7, 3) := by decide +kernel
theorem dX8_findBest_91 : decode cX8_findBest 91 = .ok (.iconst 1, 1) := by decide +kernel
theorem dX8_findBest_92 : decode cX8_findBest 92 = .ok (.goto 4, 3) := by decide +kernel
theorem dX8_findBest_95 : decode cX8_findBest 95 = .ok (.iconst 0, 1) := by decide +kernel
theorem dX8_findBest_96 : decode cX8_findBest 96 = .ok (.istore 6, 2) := by decide +kernel
theorem dX8_findBest_98 : decode cX8_findBest 98 = .ok (.iload 6, 2) := by decide +kernel
theorem dX8_findBest_100 : decode cX8_findBest 100 = .ok (.ifCond .eq 8, 3) := by decide +kernel
theorem dX8_findBest_103 : decode cX8_findBest 103 = .ok (.iload 4, 2) := by decide +kernel
theorem dX8_findBest_105 : decode cX8_findBest 105 = .ok (.goto 4, 3) := by decide +kernel
theorem dX8_findBest_108 : decode cX8_findBest 108 = .ok (.iload_n 3, 1) := by decide +kernel
theorem dX8_findBest_109 : decode cX8_findBest 109 = .ok (.istore_n 3, 1) := by decide +kernel
theorem dX8_findBest_110 : decode cX8_findBest 110 = .ok (.aload_n 0, 1) := by decide +kernel
theorem dX8_findBest_111 : decode cX8_findBest 111 = .ok (.iload 6, 2) := by decide +kernel
theorem dX8_findBest_113 : decode cX8_findBest 113 = .ok (.ifCond .eq 8, 3) := by decide +kernel
theorem dX8_findBest_116 : decode cX8_findBest 116 = .ok (.iload 5, 2) := by decide +kernel
theorem dX8_findBest_118 : decode cX8_findBest 118 = .ok (.goto 7, 3) := by decide +kernel
theorem dX8_findBest_121 : decode cX8_findBest 121 = .ok (.aload_n 0, 1) := by decide +kernel
theorem dX8_findBest_122 : decode cX8_findBest 122 = .ok (.getfield 131, 3) := by decide +kernel
theorem dX8_findBest_125 : decode cX8_findBest 125 = .ok (.putfield 131, 3) := by decide +kernel
theorem dX8_findBest_128 : decode cX8_findBest 128 = .ok (.iinc 4 1, 3) := by decide +kernel
theorem dX8_findBest_131 : decode cX8_findBest 131 = .ok (.goto (-110), 3) := by decide +kernel
theorem dX8_findBest_134 : decode cX8_findBest 134 = .ok (.iload_n 3, 1) := by decide +kernel
theorem dX8_findBest_135 : decode cX8_findBest 135 = .ok (.ireturn, 1) := by decide +kernel
theorem dX8_own_0 : decode cX8_own 0 = .ok (.aload_n 0, 1) := by decide +kernel
theorem dX8_own_1 : decode cX8_own 1 = .ok (.getfield 19, 3) := by decide +kernel
theorem dX8_own_4 : decode cX8_own 4 = .ok (.bipush 17, 2) := by decide +kernel
theorem dX8_own_6 : decode cX8_own 6 = .ok (.bipush 14, 2) := by decide +kernel
theorem dX8_own_8 : decode cX8_own 8 = .ok (.iload_n 1, 1) := by decide +kernel
theorem dX8_own_9 : decode cX8_own 9 = .ok (.imul, 1) := by decide +kernel
theorem dX8_own_10 : decode cX8_own 10 = .ok (.iadd, 1) := by decide +kernel
theorem dX8_own_11 : decode cX8_own 11 = .ok (.iload_n 2, 1) := by decide +kernel
theorem dX8_own_12 : decode cX8_own 12 = .ok (.iadd, 1) := by decide +kernel
theorem dX8_own_13 : decode cX8_own 13 = .ok (.iaload, 1) := by decide +kernel
theorem dX8_own_14 : decode cX8_own 14 = .ok (.ireturn, 1) := by decide +kernel
theorem dX8_standing_0 : decode cX8_standing 0 = .ok (.iconst 0, 1) := by decide +kernel
theorem dX8_standing_1 : decode cX8_standing 1 = .ok (.istore_n 2, 1) := by decide +kernel
theorem dX8_standing_2 : decode cX8_standing 2 = .ok (.iconst 0, 1) := by decide +kernel
theorem dX8_standing_3 : decode cX8_standing 3 = .ok (.istore_n 3, 1) := by decide +kernel
theorem dX8_standing_4 : decode cX8_standing 4 = .ok (.iload_n 3, 1) := by decide +kernel
theorem dX8_standing_5 : decode cX8_standing 5 = .ok (.aload_n 0, 1) := by decide +kernel
theorem dX8_standing_6 : decode cX8_standing 6 = .ok (.getfield 16, 3) := by decide +kernel
theorem dX8_standing_9 : decode cX8_standing 9 = .ok (.bipush 36, 2) := by decide +kernel
theorem dX8_standing_11 : decode cX8_standing 11 = .ok (.iaload, 1) := by decide +kernel
theorem dX8_standing_12 : decode cX8_standing 12 = .ok (.if_icmp .ge 29, 3) := by decide +kernel
theorem dX8_standing_15 : decode cX8_standing 15 = .ok (.iload_n 2, 1) := by decide +kernel
theorem dX8_standing_16 : decode cX8_standing 16 = .ok (.aload_n 0, 1) := by decide +kernel
theorem dX8_standing_17 : decode cX8_standing 17 = .ok (.iload_n 3, 1) := by decide +kernel
theorem dX8_standing_18 : decode cX8_standing 18 = .ok (.iconst 0, 1) := by decide +kernel
theorem dX8_standing_19 : decode cX8_standing 19 = .ok (.invokevirtual 122, 3) := by decide +kernel
theorem dX8_standing_22 : decode cX8_standing 22 = .ok (.iload_n 1, 1) := by decide +kernel
theorem dX8_standing_23 : decode cX8_standing 23 = .ok (.if_icmp .lt 9, 3) := by decide +kernel
theorem dX8_standing_26 : decode cX8_standing 26 = .ok (.iconst 1, 1) := by decide +kernel
theorem dX8_standing_27 : decode cX8_standing 27 = .ok (.iload_n 3, 1) := by decide +kernel
theorem dX8_standing_28 : decode cX8_standing 28 = .ok (.ishl, 1) := by decide +kernel
theorem dX8_standing_29 : decode cX8_standing 29 = .ok (.goto 4, 3) := by decide +kernel
theorem dX8_standing_32 : decode cX8_standing 32 = .ok (.iconst 0, 1) := by decide +kernel
theorem dX8_standing_33 : decode cX8_standing 33 = .ok (.ior, 1) := by decide +kernel
theorem dX8_standing_34 : decode cX8_standing 34 = .ok (.istore_n 2, 1) := by decide +kernel
theorem dX8_standing_35 : decode cX8_standing 35 = .ok (.iinc 3 1, 3) := by decide +kernel
theorem dX8_standing_38 : decode cX8_standing 38 = .ok (.goto (-34), 3) := by decide +kernel
theorem dX8_standing_41 : decode cX8_standing 41 = .ok (.iload_n 2, 1) := by decide +kernel
theorem dX8_standing_42 : decode cX8_standing 42 = .ok (.ireturn, 1) := by decide +kernel
theorem dX8_made_0 : decode cX8_made 0 = .ok (.aload_n 0, 1) := by decide +kernel
theorem dX8_made_1 : decode cX8_made 1 = .ok (.iconst 2, 1) := by decide +kernel
theorem dX8_made_2 : decode cX8_made 2 = .ok (.invokevirtual 140, 3) := by decide +kernel
theorem dX8_made_5 : decode cX8_made 5 = .ok (.istore_n 1, 1) := by decide +kernel
theorem dX8_made_6 : decode cX8_made 6 = .ok (.aload_n 0, 1) := by decide +kernel
theorem dX8_made_7 : decode cX8_made 7 = .ok (.getfield 19, 3) := by decide +kernel
theorem dX8_made_10 : decode cX8_made 10 = .ok (.iconst 0, 1) := by decide +kernel
theorem dX8_made_11 : decode cX8_made 11 = .ok (.iaload, 1) := by decide +kernel
theorem dX8_made_12 : decode cX8_made 12 = .ok (.istore_n 2, 1) := by decide +kernel
theorem dX8_made_13 : decode cX8_made 13 = .ok (.aload_n 0, 1) := by decide +kernel
theorem dX8_made_14 : decode cX8_made 14 = .ok (.invokevirtual 125, 3) := by decide +kernel
theorem dX8_made_17 : decode cX8_made 17 = .ok (.aload_n 0, 1) := by decide +kernel
theorem dX8_made_18 : decode cX8_made 18 = .ok (.iload_n 1, 1) := by decide +kernel
theorem dX8_made_19 : decode cX8_made 19 = .ok (.iload_n 2, 1) := by decide +kernel
theorem dX8_made_20 : decode cX8_made 20 = .ok (.invokevirtual 134, 3) := by decide +kernel
theorem dX8_made_23 : decode cX8_made 23 = .ok (.ifCond .eq 11, 3) := by decide +kernel
theorem dX8_made_26 : decode cX8_made 26 = .ok (.aload_n 0, 1) := by decide +kernel
theorem dX8_made_27 : decode cX8_made 27 = .ok (.iload_n 1, 1) := by decide +kernel
theorem dX8_made_28 : decode cX8_made 28 = .ok (.iload_n 2, 1) := by decide +kernel
theorem dX8_made_29 : decode cX8_made 29 = .ok (.invokevirtual 143, 3) := by decide +kernel
theorem dX8_made_32 : decode cX8_made 32 = .ok (.iload_n 2, 1) := by decide +kernel
theorem dX8_made_33 : decode cX8_made 33 = .ok (.ireturn, 1) := by decide +kernel
theorem dX8_made_34 : decode cX8_made 34 = .ok (.iload_n 2, 1) := by decide +kernel
theorem dX8_made_35 : decode cX8_made 35 = .ok (.aload_n 0, 1) := by decide +kernel
theorem dX8_made_36 : decode cX8_made 36 = .ok (.iload_n 1, 1) := by decide +kernel
theorem dX8_made_37 : decode cX8_made 37 = .ok (.iconst 0, 1) := by decide +kernel
theorem dX8_made_38 : decode cX8_made 38 = .ok (.invokevirtual 90, 3) := by decide +kernel
theorem dX8_made_41 : decode cX8_made 41 = .ok (.if_icmp .ge 7, 3) := by decide +kernel
theorem dX8_made_44 : decode cX8_made 44 = .ok (.iconst 1, 1) := by decide +kernel
theorem dX8_made_45 : decode cX8_made 45 = .ok (.goto 4, 3) := by decide +kernel
theorem dX8_made_48 : decode cX8_made 48 = .ok (.iconst 0, 1) := by decide +kernel
theorem dX8_made_49 : decode cX8_made 49 = .ok (.istore_n 3, 1) := by decide +kernel
theorem dX8_made_50 : decode cX8_made 50 = .ok (.iconst 0, 1) := by decide +kernel
theorem dX8_made_51 : decode cX8_made 51 = .ok (.istore 4, 2) := by decide +kernel
theorem dX8_made_53 : decode cX8_made 53 = .ok (.iload 4, 2) := by decide +kernel
theorem dX8_made_55 : decode cX8_made 55 = .ok (.aload_n 0, 1) := by decide +kernel
theorem dX8_made_56 : decode cX8_made 56 = .ok (.getfield 16, 3) := by decide +kernel
theorem dX8_made_59 : decode cX8_made 59 = .ok (.bipush 36, 2) := by decide +kernel
theorem dX8_made_61 : decode cX8_made 61 = .ok (.iaload, 1) := by decide +kernel
theorem dX8_made_62 : decode cX8_made 62 = .ok (.if_icmp .ge 48, 3) := by decide +kernel
theorem dX8_made_65 : decode cX8_made 65 = .ok (.aload_n 0, 1) := by decide +kernel
theorem dX8_made_66 : decode cX8_made 66 = .ok (.getfield 34, 3) := by decide +kernel
theorem dX8_made_69 : decode cX8_made 69 = .ok (.iload 4, 2) := by decide +kernel
theorem dX8_made_71 : decode cX8_made 71 = .ok (.iload_n 1, 1) := by decide +kernel
theorem dX8_made_72 : decode cX8_made 72 = .ok (.iload 4, 2) := by decide +kernel
theorem dX8_made_74 : decode cX8_made 74 = .ok (.invokestatic 86, 3) := by decide +kernel
theorem dX8_made_77 : decode cX8_made 77 = .ok (.ifCond .ne 7, 3) := by decide +kernel
theorem dX8_made_80 : decode cX8_made 80 = .ok (.iconst 0, 1) := by decide +kernel
theorem dX8_made_81 : decode cX8_made 81 = .ok (.goto 22, 3) := by decide +kernel
theorem dX8_made_84 : decode cX8_made 84 = .ok (.iload_n 3, 1) := by decide +kernel
theorem dX8_made_85 : decode cX8_made 85 = .ok (.ifCond .eq 12, 3) := by decide +kernel
theorem dX8_made_88 : decode cX8_made 88 = .ok (.aload_n 0, 1) := by decide +kernel
theorem dX8_made_89 : decode cX8_made 89 = .ok (.iload 4, 2) := by decide +kernel
theorem dX8_made_91 : decode cX8_made 91 = .ok (.invokevirtual 95, 3) := by decide +kernel
theorem dX8_made_94 : decode cX8_made 94 = .ok (.goto 9, 3) := by decide +kernel
theorem dX8_made_97 : decode cX8_made 97 = .ok (.aload_n 0, 1) := by decide +kernel
theorem dX8_made_98 : decode cX8_made 98 = .ok (.iload 4, 2) := by decide +kernel
theorem dX8_made_100 : decode cX8_made 100 = .ok (.invokevirtual 99, 3) := by decide +kernel
theorem dX8_made_103 : decode cX8_made 103 = .ok (.iastore, 1) := by decide +kernel
theorem dX8_made_104 : decode cX8_made 104 = .ok (.iinc 4 1, 3) := by decide +kernel
theorem dX8_made_107 : decode cX8_made 107 = .ok (.goto (-54), 3) := by decide +kernel
theorem dX8_made_110 : decode cX8_made 110 = .ok (.aload_n 0, 1) := by decide +kernel
theorem dX8_made_111 : decode cX8_made 111 = .ok (.iload_n 1, 1) := by decide +kernel
theorem dX8_made_112 : decode cX8_made 112 = .ok (.iload_n 3, 1) := by decide +kernel
theorem dX8_made_113 : decode cX8_made 113 = .ok (.ifCond .eq 7, 3) := by decide +kernel
theorem dX8_made_116 : decode cX8_made 116 = .ok (.iconst 0, 1) := by decide +kernel
theorem dX8_made_117 : decode cX8_made 117 = .ok (.goto 4, 3) := by decide +kernel
theorem dX8_made_120 : decode cX8_made 120 = .ok (.iconst 1, 1) := by decide +kernel
theorem dX8_made_121 : decode cX8_made 121 = .ok (.invokevirtual 90, 3) := by decide +kernel
theorem dX8_made_124 : decode cX8_made 124 = .ok (.ireturn, 1) := by decide +kernel
theorem dX8_powerNow_0 : decode cX8_powerNow 0 = .ok (.aload_n 0, 1) := by decide +kernel
theorem dX8_powerNow_1 : decode cX8_powerNow 1 = .ok (.invokevirtual 147, 3) := by decide +kernel
theorem dX8_powerNow_4 : decode cX8_powerNow 4 = .ok (.pop, 1) := by decide +kernel
theorem dX8_powerNow_5 : decode cX8_powerNow 5 = .ok (.iconst 0, 1) := by decide +kernel
theorem dX8_powerNow_6 : decode cX8_powerNow 6 = .ok (.istore_n 1, 1) := by decide +kernel
theorem dX8_powerNow_7 : decode cX8_powerNow 7 = .ok (.iconst 0, 1) := by decide +kernel
theorem dX8_powerNow_8 : decode cX8_powerNow 8 = .ok (.istore_n 2, 1) := by decide +kernel
theorem dX8_powerNow_9 : decode cX8_powerNow 9 = .ok (.iload_n 2, 1) := by decide +kernel
theorem dX8_powerNow_10 : decode cX8_powerNow 10 = .ok (.aload_n 0, 1) := by decide +kernel
theorem dX8_powerNow_11 : decode cX8_powerNow 11 = .ok (.getfield 16, 3) := by decide +kernel
theorem dX8_powerNow_14 : decode cX8_powerNow 14 = .ok (.bipush 36, 2) := by decide +kernel
theorem dX8_powerNow_16 : decode cX8_powerNow 16 = .ok (.iaload, 1) := by decide +kernel
theorem dX8_powerNow_17 : decode cX8_powerNow 17 = .ok (.if_icmp .ge 41, 3) := by decide +kernel
theorem dX8_powerNow_20 : decode cX8_powerNow 20 = .ok (.iload_n 1, 1) := by decide +kernel
theorem dX8_powerNow_21 : decode cX8_powerNow 21 = .ok (.aload_n 0, 1) := by decide +kernel
theorem dX8_powerNow_22 : decode cX8_powerNow 22 = .ok (.iload_n 2, 1) := by decide +kernel
theorem dX8_powerNow_23 : decode cX8_powerNow 23 = .ok (.iconst 0, 1) := by decide +kernel
theorem dX8_powerNow_24 : decode cX8_powerNow 24 = .ok (.invokevirtual 122, 3) := by decide +kernel
theorem dX8_powerNow_27 : decode cX8_powerNow 27 = .ok (.iconst 2, 1) := by decide +kernel
theorem dX8_powerNow_28 : decode cX8_powerNow 28 = .ok (.if_icmp .ne 21, 3) := by decide +kernel
theorem dX8_powerNow_31 : decode cX8_powerNow 31 = .ok (.aload_n 0, 1) := by decide +kernel
theorem dX8_powerNow_32 : decode cX8_powerNow 32 = .ok (.iload_n 2, 1) := by decide +kernel
theorem dX8_powerNow_33 : decode cX8_powerNow 33 = .ok (.aload_n 0, 1) := by decide +kernel
theorem dX8_powerNow_34 : decode cX8_powerNow 34 = .ok (.getfield 34, 3) := by decide +kernel
theorem dX8_powerNow_37 : decode cX8_powerNow 37 = .ok (.iload_n 2, 1) := by decide +kernel
theorem dX8_powerNow_38 : decode cX8_powerNow 38 = .ok (.iaload, 1) := by decide +kernel
theorem dX8_powerNow_39 : decode cX8_powerNow 39 = .ok (.aload_n 0, 1) := by decide +kernel
theorem dX8_powerNow_40 : decode cX8_powerNow 40 = .ok (.invokevirtual 106, 3) := by decide +kernel
theorem dX8_powerNow_43 : decode cX8_powerNow 43 = .ok (.invokevirtual 102, 3) := by decide +kernel
theorem dX8_powerNow_46 : decode cX8_powerNow 46 = .ok (.goto 4, 3) := by decide +kernel
theorem dX8_powerNow_49 : decode cX8_powerNow 49 = .ok (.iconst 0, 1) := by decide +kernel
theorem dX8_powerNow_50 : decode cX8_powerNow 50 = .ok (.iadd, 1) := by decide +kernel
theorem dX8_powerNow_51 : decode cX8_powerNow 51 = .ok (.istore_n 1, 1) := by decide +kernel
theorem dX8_powerNow_52 : decode cX8_powerNow 52 = .ok (.iinc 2 1, 3) := by decide +kernel
theorem dX8_powerNow_55 : decode cX8_powerNow 55 = .ok (.goto (-46), 3) := by decide +kernel
theorem dX8_powerNow_58 : decode cX8_powerNow 58 = .ok (.iload_n 1, 1) := by decide +kernel
theorem dX8_powerNow_59 : decode cX8_powerNow 59 = .ok (.ireturn, 1) := by decide +kernel
theorem dX8_isGapOver_0 : decode cX8_isGapOver 0 = .ok (.iload_n 1, 1) := by decide +kernel
theorem dX8_isGapOver_1 : decode cX8_isGapOver 1 = .ok (.aload_n 0, 1) := by decide +kernel
theorem dX8_isGapOver_2 : decode cX8_isGapOver 2 = .ok (.getfield 19, 3) := by decide +kernel
theorem dX8_isGapOver_5 : decode cX8_isGapOver 5 = .ok (.bipush 9, 2) := by decide +kernel
theorem dX8_isGapOver_7 : decode cX8_isGapOver 7 = .ok (.iaload, 1) := by decide +kernel
theorem dX8_isGapOver_8 : decode cX8_isGapOver 8 = .ok (.isub, 1) := by decide +kernel
theorem dX8_isGapOver_9 : decode cX8_isGapOver 9 = .ok (.aload_n 0, 1) := by decide +kernel
theorem dX8_isGapOver_10 : decode cX8_isGapOver 10 = .ok (.getfield 16, 3) := by decide +kernel
theorem dX8_isGapOver_13 : decode cX8_isGapOver 13 = .ok (.bipush 40, 2) := by decide +kernel
theorem dX8_isGapOver_15 : decode cX8_isGapOver 15 = .ok (.iaload, 1) := by decide +kernel
theorem dX8_isGapOver_16 : decode cX8_isGapOver 16 = .ok (.if_icmp .le 7, 3) := by decide +kernel
theorem dX8_isGapOver_19 : decode cX8_isGapOver 19 = .ok (.iconst 1, 1) := by decide +kernel
theorem dX8_isGapOver_20 : decode cX8_isGapOver 20 = .ok (.goto 4, 3) := by decide +kernel
theorem dX8_isGapOver_23 : decode cX8_isGapOver 23 = .ok (.iconst 0, 1) := by decide +kernel
theorem dX8_isGapOver_24 : decode cX8_isGapOver 24 = .ok (.ireturn, 1) := by decide +kernel
theorem dX8_mayStart_0 : decode cX8_mayStart 0 = .ok (.iconst 0, 1) := by decide +kernel
theorem dX8_mayStart_1 : decode cX8_mayStart 1 = .ok (.istore_n 3, 1) := by decide +kernel
theorem dX8_mayStart_2 : decode cX8_mayStart 2 = .ok (.iconst 5, 1) := by decide +kernel
theorem dX8_mayStart_3 : decode cX8_mayStart 3 = .ok (.istore 4, 2) := by decide +kernel
theorem dX8_mayStart_5 : decode cX8_mayStart 5 = .ok (.iload 4, 2) := by decide +kernel
theorem dX8_mayStart_7 : decode cX8_mayStart 7 = .ok (.bipush 14, 2) := by decide +kernel
theorem dX8_mayStart_9 : decode cX8_mayStart 9 = .ok (.if_icmp .ge 31, 3) := by decide +kernel
theorem dX8_mayStart_12 : decode cX8_mayStart 12 = .ok (.iload_n 3, 1) := by decide +kernel
theorem dX8_mayStart_13 : decode cX8_mayStart 13 = .ok (.aload_n 0, 1) := by decide +kernel
theorem dX8_mayStart_14 : decode cX8_mayStart 14 = .ok (.iload_n 1, 1) := by decide +kernel
theorem dX8_mayStart_15 : decode cX8_mayStart 15 = .ok (.iload 4, 2) := by decide +kernel
theorem dX8_mayStart_17 : decode cX8_mayStart 17 = .ok (.invokevirtual 122, 3) := by decide +kernel
theorem dX8_mayStart_20 : decode cX8_mayStart 20 = .ok (.iload_n 2, 1) := by decide +kernel
theorem dX8_mayStart_21 : decode cX8_mayStart 21 = .ok (.bipush 59, 2) := by decide +kernel
theorem dX8_mayStart_23 : decode cX8_mayStart 23 = .ok (.isub, 1) := by decide +kernel
theorem dX8_mayStart_24 : decode cX8_mayStart 24 = .ok (.if_icmp .lt 7, 3) := by decide +kernel
theorem dX8_mayStart_27 : decode cX8_mayStart 27 = .ok (.iconst 1, 1) := by decide +kernel
theorem dX8_mayStart_28 : decode cX8_mayStart 28 = .ok (.goto 4, 3) := by decide +kernel
theorem dX8_mayStart_31 : decode cX8_mayStart 31 = .ok (.iconst 0, 1) := by decide +kernel
theorem dX8_mayStart_32 : decode cX8_mayStart 32 = .ok (.iadd, 1) := by decide +kernel
theorem dX8_mayStart_33 : decode cX8_mayStart 33 = .ok (.istore_n 3, 1) := by decide +kernel
theorem dX8_mayStart_34 : decode cX8_mayStart 34 = .ok (.iinc 4 1, 3) := by decide +kernel
theorem dX8_mayStart_37 : decode cX8_mayStart 37 = .ok (.goto (-32), 3) := by decide +kernel
theorem dX8_mayStart_40 : decode cX8_mayStart 40 = .ok (.aload_n 0, 1) := by decide +kernel
theorem dX8_mayStart_41 : decode cX8_mayStart 41 = .ok (.iload_n 1, 1) := by decide +kernel
theorem dX8_mayStart_42 : decode cX8_mayStart 42 = .ok (.iconst 0, 1) := by decide +kernel
theorem dX8_mayStart_43 : decode cX8_mayStart 43 = .ok (.invokevirtual 122, 3) := by decide +kernel
theorem dX8_mayStart_46 : decode cX8_mayStart 46 = .ok (.ifCond .ne 53, 3) := by decide +kernel
theorem dX8_mayStart_49 : decode cX8_mayStart 49 = .ok (.aload_n 0, 1) := by decide +kernel
theorem dX8_mayStart_50 : decode cX8_mayStart 50 = .ok (.iload_n 1, 1) := by decide +kernel
theorem dX8_mayStart_51 : decode cX8_mayStart 51 = .ok (.iconst 3, 1) := by decide +kernel
theorem dX8_mayStart_52 : decode cX8_mayStart 52 = .ok (.invokevirtual 122, 3) := by decide +kernel
theorem dX8_mayStart_55 : decode cX8_mayStart 55 = .ok (.ifCond .ne 44, 3) := by decide +kernel
theorem dX8_mayStart_58 : decode cX8_mayStart 58 = .ok (.iload_n 2, 1) := by decide +kernel
theorem dX8_mayStart_59 : decode cX8_mayStart 59 = .ok (.aload_n 0, 1) := by decide +kernel
theorem dX8_mayStart_60 : decode cX8_mayStart 60 = .ok (.iload_n 1, 1) := by decide +kernel
theorem dX8_mayStart_61 : decode cX8_mayStart 61 = .ok (.iconst 4, 1) := by decide +kernel
theorem dX8_mayStart_62 : decode cX8_mayStart 62 = .ok (.invokevirtual 122, 3) := by decide +kernel
theorem dX8_mayStart_65 : decode cX8_mayStart 65 = .ok (.isub, 1) := by decide +kernel
theorem dX8_mayStart_66 : decode cX8_mayStart 66 = .ok (.aload_n 0, 1) := by decide +kernel
theorem dX8_mayStart_67 : decode cX8_mayStart 67 = .ok (.getfield 16, 3) := by decide +kernel
theorem dX8_mayStart_70 : decode cX8_mayStart 70 = .ok (.bipush 38, 2) := by decide +kernel
theorem dX8_mayStart_72 : decode cX8_mayStart 72 = .ok (.iaload, 1) := by decide +kernel
theorem dX8_mayStart_73 : decode cX8_mayStart 73 = .ok (.if_icmp .le 26, 3) := by decide +kernel
theorem dX8_mayStart_76 : decode cX8_mayStart 76 = .ok (.iload_n 3, 1) := by decide +kernel
theorem dX8_mayStart_77 : decode cX8_mayStart 77 = .ok (.aload_n 0, 1) := by decide +kernel
theorem dX8_mayStart_78 : decode cX8_mayStart 78 = .ok (.getfield 16, 3) := by decide +kernel
theorem dX8_mayStart_81 : decode cX8_mayStart 81 = .ok (.bipush 39, 2) := by decide +kernel
theorem dX8_mayStart_83 : decode cX8_mayStart 83 = .ok (.iaload, 1) := by decide +kernel
theorem dX8_mayStart_84 : decode cX8_mayStart 84 = .ok (.if_icmp .ge 15, 3) := by decide +kernel
theorem dX8_mayStart_87 : decode cX8_mayStart 87 = .ok (.aload_n 0, 1) := by decide +kernel
theorem dX8_mayStart_88 : decode cX8_mayStart 88 = .ok (.iload_n 2, 1) := by decide +kernel
theorem dX8_mayStart_89 : decode cX8_mayStart 89 = .ok (.invokevirtual 150, 3) := by decide +kernel
theorem dX8_mayStart_92 : decode cX8_mayStart 92 = .ok (.ifCond .eq 7, 3) := by decide +kernel
theorem dX8_mayStart_95 : decode cX8_mayStart 95 = .ok (.iconst 1, 1) := by decide +kernel
theorem dX8_mayStart_96 : decode cX8_mayStart 96 = .ok (.goto 4, 3) := by decide +kernel
theorem dX8_mayStart_99 : decode cX8_mayStart 99 = .ok (.iconst 0, 1) := by decide +kernel
theorem dX8_mayStart_100 : decode cX8_mayStart 100 = .ok (.ireturn, 1) := by decide +kernel
theorem dX8_start_0 : decode cX8_start 0 = .ok (.bipush 17, 2) := by decide +kernel
theorem dX8_start_2 : decode cX8_start 2 = .ok (.bipush 14, 2) := by decide +kernel
theorem dX8_start_4 : decode cX8_start 4 = .ok (.iload_n 1, 1) := by decide +kernel
theorem dX8_start_5 : decode cX8_start 5 = .ok (.imul, 1) := by decide +kernel
theorem dX8_start_6 : decode cX8_start 6 = .ok (.iadd, 1) := by decide +kernel
theorem dX8_start_7 : decode cX8_start 7 = .ok (.istore_n 3, 1) := by decide +kernel
theorem dX8_start_8 : decode cX8_start 8 = .ok (.aload_n 0, 1) := by decide +kernel
theorem dX8_start_9 : decode cX8_start 9 = .ok (.getfield 19, 3) := by decide +kernel
theorem dX8_start_12 : decode cX8_start 12 = .ok (.iload_n 3, 1) := by decide +kernel
theorem dX8_start_13 : decode cX8_start 13 = .ok (.iconst 1, 1) := by decide +kernel
theorem dX8_start_14 : decode cX8_start 14 = .ok (.iastore, 1) := by decide +kernel
theorem dX8_start_15 : decode cX8_start 15 = .ok (.aload_n 0, 1) := by decide +kernel
theorem dX8_start_16 : decode cX8_start 16 = .ok (.getfield 19, 3) := by decide +kernel
theorem dX8_start_19 : decode cX8_start 19 = .ok (.iload_n 3, 1) := by decide +kernel
theorem dX8_start_20 : decode cX8_start 20 = .ok (.iconst 2, 1) := by decide +kernel
theorem dX8_start_21 : decode cX8_start 21 = .ok (.iadd, 1) := by decide +kernel
theorem dX8_start_22 : decode cX8_start 22 = .ok (.dup2, 1) := by decide +kernel
theorem dX8_start_23 : decode cX8_start 23 = .ok (.iaload, 1) := by decide +kernel
theorem dX8_start_24 : decode cX8_start 24 = .ok (.iconst 1, 1) := by decide +kernel
theorem dX8_start_25 : decode cX8_start 25 = .ok (.iadd, 1) := by decide +kernel
theorem dX8_start_26 : decode cX8_start 26 = .ok (.iastore, 1) := by decide +kernel
theorem dX8_start_27 : decode cX8_start 27 = .ok (.bipush 13, 2) := by decide +kernel
theorem dX8_start_29 : decode cX8_start 29 = .ok (.istore 4, 2) := by decide +kernel
theorem dX8_start_31 : decode cX8_start 31 = .ok (.iload 4, 2) := by decide +kernel
theorem dX8_start_33 : decode cX8_start 33 = .ok (.iconst 5, 1) := by decide +kernel
theorem dX8_start_34 : decode cX8_start 34 = .ok (.if_icmp .le 29, 3) := by decide +kernel
theorem dX8_start_37 : decode cX8_start 37 = .ok (.aload_n 0, 1) := by decide +kernel
theorem dX8_start_38 : decode cX8_start 38 = .ok (.getfield 19, 3) := by decide +kernel
theorem dX8_start_41 : decode cX8_start 41 = .ok (.iload_n 3, 1) := by decide +kernel
theorem dX8_start_42 : decode cX8_start 42 = .ok (.iload 4, 2) := by decide +kernel
theorem dX8_start_44 : decode cX8_start 44 = .ok (.iadd, 1) := by decide +kernel
theorem dX8_start_45 : decode cX8_start 45 = .ok (.aload_n 0, 1) := by decide +kernel
theorem dX8_start_46 : decode cX8_start 46 = .ok (.getfield 19, 3) := by decide +kernel
theorem dX8_start_49 : decode cX8_start 49 = .ok (.iload_n 3, 1) := by decide +kernel
theorem dX8_start_50 : decode cX8_start 50 = .ok (.iload 4, 2) := by decide +kernel
theorem dX8_start_52 : decode cX8_start 52 = .ok (.iadd, 1) := by decide +kernel
theorem dX8_start_53 : decode cX8_start 53 = .ok (.iconst 1, 1) := by decide +kernel
theorem dX8_start_54 : decode cX8_start 54 = .ok (.isub, 1) := by decide +kernel
theorem dX8_start_55 : decode cX8_start 55 = .ok (.iaload, 1) := by decide +kernel
theorem dX8_start_56 : decode cX8_start 56 = .ok (.iastore, 1) := by decide +kernel
theorem dX8_start_57 : decode cX8_start 57 = .ok (.iinc 4 (-1), 3) := by decide +kernel
theorem dX8_start_60 : decode cX8_start 60 = .ok (.goto (-29), 3) := by decide +kernel
theorem dX8_start_63 : decode cX8_start 63 = .ok (.aload_n 0, 1) := by decide +kernel
theorem dX8_start_64 : decode cX8_start 64 = .ok (.getfield 19, 3) := by decide +kernel
theorem dX8_start_67 : decode cX8_start 67 = .ok (.iload_n 3, 1) := by decide +kernel
theorem dX8_start_68 : decode cX8_start 68 = .ok (.iconst 5, 1) := by decide +kernel
theorem dX8_start_69 : decode cX8_start 69 = .ok (.iadd, 1) := by decide +kernel
theorem dX8_start_70 : decode cX8_start 70 = .ok (.iload_n 2, 1) := by decide +kernel
theorem dX8_start_71 : decode cX8_start 71 = .ok (.iastore, 1) := by decide +kernel
theorem dX8_start_72 : decode cX8_start 72 = .ok (.aload_n 0, 1) := by decide +kernel
theorem dX8_start_73 : decode cX8_start 73 = .ok (.getfield 19, 3) := by decide +kernel
theorem dX8_start_76 : decode cX8_start 76 = .ok (.bipush 9, 2) := by decide +kernel
theorem dX8_start_78 : decode cX8_start 78 = .ok (.iload_n 2, 1) := by decide +kernel
theorem dX8_start_79 : decode cX8_start 79 = .ok (.iastore, 1) := by decide +kernel
theorem dX8_start_80 : decode cX8_start 80 = .ok (.aload_n 0, 1) := by decide +kernel
theorem dX8_start_81 : decode cX8_start 81 = .ok (.getfield 19, 3) := by decide +kernel
theorem dX8_start_84 : decode cX8_start 84 = .ok (.bipush 7, 2) := by decide +kernel
theorem dX8_start_86 : decode cX8_start 86 = .ok (.dup2, 1) := by decide +kernel
theorem dX8_start_87 : decode cX8_start 87 = .ok (.iaload, 1) := by decide +kernel
theorem dX8_start_88 : decode cX8_start 88 = .ok (.iconst 1, 1) := by decide +kernel
theorem dX8_start_89 : decode cX8_start 89 = .ok (.iadd, 1) := by decide +kernel
theorem dX8_start_90 : decode cX8_start 90 = .ok (.iastore, 1) := by decide +kernel
theorem dX8_start_91 : decode cX8_start 91 = .ok (.return_, 1) := by decide +kernel
theorem dX8_stop_0 : decode cX8_stop 0 = .ok (.aload_n 0, 1) := by decide +kernel
theorem dX8_stop_1 : decode cX8_stop 1 = .ok (.getfield 19, 3) := by decide +kernel
theorem dX8_stop_4 : decode cX8_stop 4 = .ok (.bipush 17, 2) := by decide +kernel
theorem dX8_stop_6 : decode cX8_stop 6 = .ok (.bipush 14, 2) := by decide +kernel
theorem dX8_stop_8 : decode cX8_stop 8 = .ok (.iload_n 1, 1) := by decide +kernel
theorem dX8_stop_9 : decode cX8_stop 9 = .ok (.imul, 1) := by decide +kernel
theorem dX8_stop_10 : decode cX8_stop 10 = .ok (.iadd, 1) := by decide +kernel
theorem dX8_stop_11 : decode cX8_stop 11 = .ok (.iconst 0, 1) := by decide +kernel
theorem dX8_stop_12 : decode cX8_stop 12 = .ok (.iastore, 1) := by decide +kernel
theorem dX8_stop_13 : decode cX8_stop 13 = .ok (.aload_n 0, 1) := by decide +kernel
theorem dX8_stop_14 : decode cX8_stop 14 = .ok (.getfield 19, 3) := by decide +kernel
theorem dX8_stop_17 : decode cX8_stop 17 = .ok (.bipush 17, 2) := by decide +kernel
theorem dX8_stop_19 : decode cX8_stop 19 = .ok (.bipush 14, 2) := by decide +kernel
theorem dX8_stop_21 : decode cX8_stop 21 = .ok (.iload_n 1, 1) := by decide +kernel
theorem dX8_stop_22 : decode cX8_stop 22 = .ok (.imul, 1) := by decide +kernel
theorem dX8_stop_23 : decode cX8_stop 23 = .ok (.iadd, 1) := by decide +kernel
theorem dX8_stop_24 : decode cX8_stop 24 = .ok (.iconst 4, 1) := by decide +kernel
theorem dX8_stop_25 : decode cX8_stop 25 = .ok (.iadd, 1) := by decide +kernel
theorem dX8_stop_26 : decode cX8_stop 26 = .ok (.iload_n 2, 1) := by decide +kernel
theorem dX8_stop_27 : decode cX8_stop 27 = .ok (.iastore, 1) := by decide +kernel
theorem dX8_stop_28 : decode cX8_stop 28 = .ok (.return_, 1) := by decide +kernel
theorem dX8_starter_0 : decode cX8_starter 0 = .ok (.bipush (-4), 2) := by decide +kernel
theorem dX8_starter_2 : decode cX8_starter 2 = .ok (.istore_n 2, 1) := by decide +kernel
theorem dX8_starter_3 : decode cX8_starter 3 = .ok (.aload_n 0, 1) := by decide +kernel
theorem dX8_starter_4 : decode cX8_starter 4 = .ok (.getfield 16, 3) := by decide +kernel
theorem dX8_starter_7 : decode cX8_starter 7 = .ok (.bipush 36, 2) := by decide +kernel
theorem dX8_starter_9 : decode cX8_starter 9 = .ok (.iaload, 1) := by decide +kernel
theorem dX8_starter_10 : decode cX8_starter 10 = .ok (.iconst 1, 1) := by decide +kernel
theorem dX8_starter_11 : decode cX8_starter 11 = .ok (.isub, 1) := by decide +kernel
theorem dX8_starter_12 : decode cX8_starter 12 = .ok (.istore_n 3, 1) := by decide +kernel
theorem dX8_starter_13 : decode cX8_starter 13 = .ok (.iload_n 3, 1) := by decide +kernel
theorem dX8_starter_14 : decode cX8_starter 14 = .ok (.ifCond .lt 45, 3) := by decide +kernel
theorem dX8_starter_17 : decode cX8_starter 17 = .ok (.aload_n 0, 1) := by decide +kernel
theorem dX8_starter_18 : decode cX8_starter 18 = .ok (.iload_n 3, 1) := by decide +kernel
theorem dX8_starter_19 : decode cX8_starter 19 = .ok (.iload_n 1, 1) := by decide +kernel
theorem dX8_starter_20 : decode cX8_starter 20 = .ok (.invokevirtual 153, 3) := by decide +kernel
theorem dX8_starter_23 : decode cX8_starter 23 = .ok (.ifCond .eq 28, 3) := by decide +kernel
theorem dX8_starter_26 : decode cX8_starter 26 = .ok (.iload_n 2, 1) := by decide +kernel
theorem dX8_starter_27 : decode cX8_starter 27 = .ok (.bipush (-4), 2) := by decide +kernel
theorem dX8_starter_29 : decode cX8_starter 29 = .ok (.if_icmp .eq 18, 3) := by decide +kernel
theorem dX8_starter_32 : decode cX8_starter 32 = .ok (.aload_n 0, 1) := by decide +kernel
theorem dX8_starter_33 : decode cX8_starter 33 = .ok (.iload_n 3, 1) := by decide +kernel
theorem dX8_starter_34 : decode cX8_starter 34 = .ok (.iconst 1, 1) := by decide +kernel
theorem dX8_starter_35 : decode cX8_starter 35 = .ok (.invokevirtual 122, 3) := by decide +kernel
theorem dX8_starter_38 : decode cX8_starter 38 = .ok (.aload_n 0, 1) := by decide +kernel
theorem dX8_starter_39 : decode cX8_starter 39 = .ok (.iload_n 2, 1) := by decide +kernel
theorem dX8_starter_40 : decode cX8_starter 40 = .ok (.iconst 1, 1) := by decide +kernel
theorem dX8_starter_41 : decode cX8_starter 41 = .ok (.invokevirtual 122, 3) := by decide +kernel
theorem dX8_starter_44 : decode cX8_starter 44 = .ok (.if_icmp .gt 7, 3) := by decide +kernel
theorem dX8_starter_47 : decode cX8_starter 47 = .ok (.iload_n 3, 1) := by decide +kernel
theorem dX8_starter_48 : decode cX8_starter 48 = .ok (.goto 4, 3) := by decide +kernel
theorem dX8_starter_51 : decode cX8_starter 51 = .ok (.iload_n 2, 1) := by decide +kernel
theorem dX8_starter_52 : decode cX8_starter 52 = .ok (.istore_n 2, 1) := by decide +kernel
theorem dX8_starter_53 : decode cX8_starter 53 = .ok (.iinc 3 (-1), 3) := by decide +kernel
theorem dX8_starter_56 : decode cX8_starter 56 = .ok (.goto (-43), 3) := by decide +kernel
theorem dX8_starter_59 : decode cX8_starter 59 = .ok (.iload_n 2, 1) := by decide +kernel
theorem dX8_starter_60 : decode cX8_starter 60 = .ok (.ireturn, 1) := by decide +kernel
theorem dX8_stopper_0 : decode cX8_stopper 0 = .ok (.bipush (-4), 2) := by decide +kernel
theorem dX8_stopper_2 : decode cX8_stopper 2 = .ok (.istore_n 2, 1) := by decide +kernel
theorem dX8_stopper_3 : decode cX8_stopper 3 = .ok (.iconst 0, 1) := by decide +kernel
theorem dX8_stopper_4 : decode cX8_stopper 4 = .ok (.istore_n 3, 1) := by decide +kernel
theorem dX8_stopper_5 : decode cX8_stopper 5 = .ok (.iload_n 3, 1) := by decide +kernel
theorem dX8_stopper_6 : decode cX8_stopper 6 = .ok (.aload_n 0, 1) := by decide +kernel
theorem dX8_stopper_7 : decode cX8_stopper 7 = .ok (.getfield 16, 3) := by decide +kernel
theorem dX8_stopper_10 : decode cX8_stopper 10 = .ok (.bipush 36, 2) := by decide +kernel
theorem dX8_stopper_12 : decode cX8_stopper 12 = .ok (.iaload, 1) := by decide +kernel
theorem dX8_stopper_13 : decode cX8_stopper 13 = .ok (.if_icmp .ge 76, 3) := by decide +kernel
theorem dX8_stopper_16 : decode cX8_stopper 16 = .ok (.aload_n 0, 1) := by decide +kernel
theorem dX8_stopper_17 : decode cX8_stopper 17 = .ok (.iload_n 3, 1) := by decide +kernel
theorem dX8_stopper_18 : decode cX8_stopper 18 = .ok (.iconst 0, 1) := by decide +kernel
theorem dX8_stopper_19 : decode cX8_stopper 19 = .ok (.invokevirtual 122, 3) := by decide +kernel
theorem dX8_stopper_22 : decode cX8_stopper 22 = .ok (.iconst 2, 1) := by decide +kernel
theorem dX8_stopper_23 : decode cX8_stopper 23 = .ok (.if_icmp .ne 25, 3) := by decide +kernel
theorem dX8_stopper_26 : decode cX8_stopper 26 = .ok (.iload_n 1, 1) := by decide +kernel
theorem dX8_stopper_27 : decode cX8_stopper 27 = .ok (.aload_n 0, 1) := by decide +kernel
theorem dX8_stopper_28 : decode cX8_stopper 28 = .ok (.iload_n 3, 1) := by decide +kernel
theorem dX8_stopper_29 : decode cX8_stopper 29 = .ok (.iconst 5, 1) := by decide +kernel
theorem dX8_stopper_30 : decode cX8_stopper 30 = .ok (.invokevirtual 122, 3) := by decide +kernel
theorem dX8_stopper_33 : decode cX8_stopper 33 = .ok (.isub, 1) := by decide +kernel
theorem dX8_stopper_34 : decode cX8_stopper 34 = .ok (.aload_n 0, 1) := by decide +kernel
theorem dX8_stopper_35 : decode cX8_stopper 35 = .ok (.getfield 16, 3) := by decide +kernel
theorem dX8_stopper_38 : decode cX8_stopper 38 = .ok (.bipush 37, 2) := by decide +kernel
theorem dX8_stopper_40 : decode cX8_stopper 40 = .ok (.iaload, 1) := by decide +kernel
theorem dX8_stopper_41 : decode cX8_stopper 41 = .ok (.if_icmp .le 7, 3) := by decide +kernel
theorem dX8_stopper_44 : decode cX8_stopper 44 = .ok (.iconst 1, 1) := by decide +kernel
theorem dX8_stopper_45 : decode cX8_stopper 45 = .ok (.goto 4, 3) := by decide +kernel
theorem dX8_stopper_48 : decode cX8_stopper 48 = .ok (.iconst 0, 1) := by decide +kernel
theorem dX8_stopper_49 : decode cX8_stopper 49 = .ok (.istore 4, 2) := by decide +kernel
theorem dX8_stopper_51 : decode cX8_stopper 51 = .ok (.iload 4, 2) := by decide +kernel
theorem dX8_stopper_53 : decode cX8_stopper 53 = .ok (.ifCond .eq 28, 3) := by decide +kernel
theorem dX8_stopper_56 : decode cX8_stopper 56 = .ok (.iload_n 2, 1) := by decide +kernel
theorem dX8_stopper_57 : decode cX8_stopper 57 = .ok (.bipush (-4), 2) := by decide +kernel
theorem dX8_stopper_59 : decode cX8_stopper 59 = .ok (.if_icmp .eq 18, 3) := by decide +kernel
theorem dX8_stopper_62 : decode cX8_stopper 62 = .ok (.aload_n 0, 1) := by decide +kernel
theorem dX8_stopper_63 : decode cX8_stopper 63 = .ok (.iload_n 3, 1) := by decide +kernel
theorem dX8_stopper_64 : decode cX8_stopper 64 = .ok (.iconst 1, 1) := by decide +kernel
theorem dX8_stopper_65 : decode cX8_stopper 65 = .ok (.invokevirtual 122, 3) := by decide +kernel
theorem dX8_stopper_68 : decode cX8_stopper 68 = .ok (.aload_n 0, 1) := by decide +kernel
theorem dX8_stopper_69 : decode cX8_stopper 69 = .ok (.iload_n 2, 1) := by decide +kernel
theorem dX8_stopper_70 : decode cX8_stopper 70 = .ok (.iconst 1, 1) := by decide +kernel
theorem dX8_stopper_71 : decode cX8_stopper 71 = .ok (.invokevirtual 122, 3) := by decide +kernel
theorem dX8_stopper_74 : decode cX8_stopper 74 = .ok (.if_icmp .lt 7, 3) := by decide +kernel
theorem dX8_stopper_77 : decode cX8_stopper 77 = .ok (.iload_n 3, 1) := by decide +kernel
theorem dX8_stopper_78 : decode cX8_stopper 78 = .ok (.goto 4, 3) := by decide +kernel
theorem dX8_stopper_81 : decode cX8_stopper 81 = .ok (.iload_n 2, 1) := by decide +kernel
theorem dX8_stopper_82 : decode cX8_stopper 82 = .ok (.istore_n 2, 1) := by decide +kernel
theorem dX8_stopper_83 : decode cX8_stopper 83 = .ok (.iinc 3 1, 3) := by decide +kernel
theorem dX8_stopper_86 : decode cX8_stopper 86 = .ok (.goto (-81), 3) := by decide +kernel
theorem dX8_stopper_89 : decode cX8_stopper 89 = .ok (.iload_n 2, 1) := by decide +kernel
theorem dX8_stopper_90 : decode cX8_stopper 90 = .ok (.ireturn, 1) := by decide +kernel
theorem dX8_unlist_0 : decode cX8_unlist 0 = .ok (.iconst 0, 1) := by decide +kernel
theorem dX8_unlist_1 : decode cX8_unlist 1 = .ok (.istore_n 2, 1) := by decide +kernel
theorem dX8_unlist_2 : decode cX8_unlist 2 = .ok (.iconst 0, 1) := by decide +kernel
theorem dX8_unlist_3 : decode cX8_unlist 3 = .ok (.istore_n 3, 1) := by decide +kernel
theorem dX8_unlist_4 : decode cX8_unlist 4 = .ok (.iload_n 3, 1) := by decide +kernel
theorem dX8_unlist_5 : decode cX8_unlist 5 = .ok (.aload_n 0, 1) := by decide +kernel
theorem dX8_unlist_6 : decode cX8_unlist 6 = .ok (.getfield 19, 3) := by decide +kernel
theorem dX8_unlist_9 : decode cX8_unlist 9 = .ok (.bipush 10, 2) := by decide +kernel
theorem dX8_unlist_11 : decode cX8_unlist 11 = .ok (.iaload, 1) := by decide +kernel
theorem dX8_unlist_12 : decode cX8_unlist 12 = .ok (.if_icmp .ge 43, 3) := by decide +kernel
theorem dX8_unlist_15 : decode cX8_unlist 15 = .ok (.aload_n 0, 1) := by decide +kernel
theorem dX8_unlist_16 : decode cX8_unlist 16 = .ok (.getfield 19, 3) := by decide +kernel
theorem dX8_unlist_19 : decode cX8_unlist 19 = .ok (.bipush 11, 2) := by decide +kernel
theorem dX8_unlist_21 : decode cX8_unlist 21 = .ok (.iload_n 3, 1) := by decide +kernel
theorem dX8_unlist_22 : decode cX8_unlist 22 = .ok (.iadd, 1) := by decide +kernel
theorem dX8_unlist_23 : decode cX8_unlist 23 = .ok (.iaload, 1) := by decide +kernel
theorem dX8_unlist_24 : decode cX8_unlist 24 = .ok (.iload_n 1, 1) := by decide +kernel
theorem dX8_unlist_25 : decode cX8_unlist 25 = .ok (.if_icmp .eq 24, 3) := by decide +kernel
theorem dX8_unlist_28 : decode cX8_unlist 28 = .ok (.aload_n 0, 1) := by decide +kernel
theorem dX8_unlist_29 : decode cX8_unlist 29 = .ok (.getfield 19, 3) := by decide +kernel
theorem dX8_unlist_32 : decode cX8_unlist 32 = .ok (.bipush 11, 2) := by decide +kernel
theorem dX8_unlist_34 : decode cX8_unlist 34 = .ok (.iload_n 2, 1) := by decide +kernel
theorem dX8_unlist_35 : decode cX8_unlist 35 = .ok (.iadd, 1) := by decide +kernel
theorem dX8_unlist_36 : decode cX8_unlist 36 = .ok (.aload_n 0, 1) := by decide +kernel
theorem dX8_unlist_37 : decode cX8_unlist 37 = .ok (.getfield 19, 3) := by decide +kernel
theorem dX8_unlist_40 : decode cX8_unlist 40 = .ok (.bipush 11, 2) := by decide +kernel
theorem dX8_unlist_42 : decode cX8_unlist 42 = .ok (.iload_n 3, 1) := by decide +kernel
theorem dX8_unlist_43 : decode cX8_unlist 43 = .ok (.iadd, 1) := by decide +kernel
theorem dX8_unlist_44 : decode cX8_unlist 44 = .ok (.iaload, 1) := by decide +kernel
theorem dX8_unlist_45 : decode cX8_unlist 45 = .ok (.iastore, 1) := by decide +kernel
theorem dX8_unlist_46 : decode cX8_unlist 46 = .ok (.iinc 2 1, 3) := by decide +kernel
theorem dX8_unlist_49 : decode cX8_unlist 49 = .ok (.iinc 3 1, 3) := by decide +kernel
theorem dX8_unlist_52 : decode cX8_unlist 52 = .ok (.goto (-48), 3) := by decide +kernel
theorem dX8_unlist_55 : decode cX8_unlist 55 = .ok (.aload_n 0, 1) := by decide +kernel
theorem dX8_unlist_56 : decode cX8_unlist 56 = .ok (.getfield 19, 3) := by decide +kernel
theorem dX8_unlist_59 : decode cX8_unlist 59 = .ok (.bipush 10, 2) := by decide +kernel
theorem dX8_unlist_61 : decode cX8_unlist 61 = .ok (.iload_n 2, 1) := by decide +kernel
theorem dX8_unlist_62 : decode cX8_unlist 62 = .ok (.iastore, 1) := by decide +kernel
theorem dX8_unlist_63 : decode cX8_unlist 63 = .ok (.return_, 1) := by decide +kernel
theorem dX8_tickOnce_0 : decode cX8_tickOnce 0 = .ok (.aload_n 0, 1) := by decide +kernel
theorem dX8_tickOnce_1 : decode cX8_tickOnce 1 = .ok (.getfield 19, 3) := by decide +kernel
theorem dX8_tickOnce_4 : decode cX8_tickOnce 4 = .ok (.bipush 8, 2) := by decide +kernel
theorem dX8_tickOnce_6 : decode cX8_tickOnce 6 = .ok (.dup2, 1) := by decide +kernel
theorem dX8_tickOnce_7 : decode cX8_tickOnce 7 = .ok (.iaload, 1) := by decide +kernel
theorem dX8_tickOnce_8 : decode cX8_tickOnce 8 = .ok (.aload_n 0, 1) := by decide +kernel
theorem dX8_tickOnce_9 : decode cX8_tickOnce 9 = .ok (.invokevirtual 156, 3) := by decide +kernel
theorem dX8_tickOnce_12 : decode cX8_tickOnce 12 = .ok (.iadd, 1) := by decide +kernel
theorem dX8_tickOnce_13 : decode cX8_tickOnce 13 = .ok (.iastore, 1) := by decide +kernel
theorem dX8_tickOnce_14 : decode cX8_tickOnce 14 = .ok (.aload_n 0, 1) := by decide +kernel
theorem dX8_tickOnce_15 : decode cX8_tickOnce 15 = .ok (.getfield 19, 3) := by decide +kernel
theorem dX8_tickOnce_18 : decode cX8_tickOnce 18 = .ok (.iconst 4, 1) := by decide +kernel
theorem dX8_tickOnce_19 : decode cX8_tickOnce 19 = .ok (.dup2, 1) := by decide +kernel
theorem dX8_tickOnce_20 : decode cX8_tickOnce 20 = .ok (.iaload, 1) := by decide +kernel
theorem dX8_tickOnce_21 : decode cX8_tickOnce 21 = .ok (.iconst 1, 1) := by decide +kernel
theorem dX8_tickOnce_22 : decode cX8_tickOnce 22 = .ok (.iadd, 1) := by decide +kernel
theorem dX8_tickOnce_23 : decode cX8_tickOnce 23 = .ok (.iastore, 1) := by decide +kernel
theorem dX8_tickOnce_24 : decode cX8_tickOnce 24 = .ok (.aload_n 0, 1) := by decide +kernel
theorem dX8_tickOnce_25 : decode cX8_tickOnce 25 = .ok (.getfield 19, 3) := by decide +kernel
theorem dX8_tickOnce_28 : decode cX8_tickOnce 28 = .ok (.iconst 4, 1) := by decide +kernel
theorem dX8_tickOnce_29 : decode cX8_tickOnce 29 = .ok (.iaload, 1) := by decide +kernel
theorem dX8_tickOnce_30 : decode cX8_tickOnce 30 = .ok (.istore_n 1, 1) := by decide +kernel
theorem dX8_tickOnce_31 : decode cX8_tickOnce 31 = .ok (.iconst 0, 1) := by decide +kernel
theorem dX8_tickOnce_32 : decode cX8_tickOnce 32 = .ok (.istore_n 2, 1) := by decide +kernel
theorem dX8_tickOnce_33 : decode cX8_tickOnce 33 = .ok (.iload_n 2, 1) := by decide +kernel
theorem dX8_tickOnce_34 : decode cX8_tickOnce 34 = .ok (.aload_n 0, 1) := by decide +kernel
theorem dX8_tickOnce_35 : decode cX8_tickOnce 35 = .ok (.getfield 16, 3) := by decide +kernel
theorem dX8_tickOnce_38 : decode cX8_tickOnce 38 = .ok (.bipush 36, 2) := by decide +kernel
theorem dX8_tickOnce_40 : decode cX8_tickOnce 40 = .ok (.iaload, 1) := by decide +kernel
theorem dX8_tickOnce_41 : decode cX8_tickOnce 41 = .ok (.if_icmp .ge 82, 3) := by decide +kernel
theorem dX8_tickOnce_44 : decode cX8_tickOnce 44 = .ok (.aload_n 0, 1) := by decide +kernel
theorem dX8_tickOnce_45 : decode cX8_tickOnce 45 = .ok (.getfield 19, 3) := by decide +kernel
theorem dX8_tickOnce_48 : decode cX8_tickOnce 48 = .ok (.bipush 17, 2) := by decide +kernel
theorem dX8_tickOnce_50 : decode cX8_tickOnce 50 = .ok (.bipush 14, 2) := by decide +kernel
theorem dX8_tickOnce_52 : decode cX8_tickOnce 52 = .ok (.iload_n 2, 1) := by decide +kernel
theorem dX8_tickOnce_53 : decode cX8_tickOnce 53 = .ok (.imul, 1) := by decide +kernel
theorem dX8_tickOnce_54 : decode cX8_tickOnce 54 = .ok (.iadd, 1) := by decide +kernel
theorem dX8_tickOnce_55 : decode cX8_tickOnce 55 = .ok (.iconst 1, 1) := by decide +kernel
theorem dX8_tickOnce_56 : decode cX8_tickOnce 56 = .ok (.iadd, 1) := by decide +kernel
theorem dX8_tickOnce_57 : decode cX8_tickOnce 57 = .ok (.dup2, 1) := by decide +kernel
theorem dX8_tickOnce_58 : decode cX8_tickOnce 58 = .ok (.iaload, 1) := by decide +kernel
theorem dX8_tickOnce_59 : decode cX8_tickOnce 59 = .ok (.aload_n 0, 1) := by decide +kernel
theorem dX8_tickOnce_60 : decode cX8_tickOnce 60 = .ok (.iload_n 2, 1) := by decide +kernel
theorem dX8_tickOnce_61 : decode cX8_tickOnce 61 = .ok (.iconst 0, 1) := by decide +kernel
theorem dX8_tickOnce_62 : decode cX8_tickOnce 62 = .ok (.invokevirtual 122, 3) := by decide +kernel
theorem dX8_tickOnce_65 : decode cX8_tickOnce 65 = .ok (.ifCond .le 7, 3) := by decide +kernel
theorem dX8_tickOnce_68 : decode cX8_tickOnce 68 = .ok (.iconst 1, 1) := by decide +kernel
theorem dX8_tickOnce_69 : decode cX8_tickOnce 69 = .ok (.goto 4, 3) := by decide +kernel
theorem dX8_tickOnce_72 : decode cX8_tickOnce 72 = .ok (.iconst 0, 1) := by decide +kernel
theorem dX8_tickOnce_73 : decode cX8_tickOnce 73 = .ok (.iadd, 1) := by decide +kernel
theorem dX8_tickOnce_74 : decode cX8_tickOnce 74 = .ok (.iastore, 1) := by decide +kernel
theorem dX8_tickOnce_75 : decode cX8_tickOnce 75 = .ok (.aload_n 0, 1) := by decide +kernel
theorem dX8_tickOnce_76 : decode cX8_tickOnce 76 = .ok (.getfield 19, 3) := by decide +kernel
theorem dX8_tickOnce_79 : decode cX8_tickOnce 79 = .ok (.bipush 17, 2) := by decide +kernel
theorem dX8_tickOnce_81 : decode cX8_tickOnce 81 = .ok (.bipush 14, 2) := by decide +kernel
theorem dX8_tickOnce_83 : decode cX8_tickOnce 83 = .ok (.iload_n 2, 1) := by decide +kernel
theorem dX8_tickOnce_84 : decode cX8_tickOnce 84 = .ok (.imul, 1) := by decide +kernel
theorem dX8_tickOnce_85 : decode cX8_tickOnce 85 = .ok (.iadd, 1) := by decide +kernel
theorem dX8_tickOnce_86 : decode cX8_tickOnce 86 = .ok (.dup2, 1) := by decide +kernel
theorem dX8_tickOnce_87 : decode cX8_tickOnce 87 = .ok (.iaload, 1) := by decide +kernel
theorem dX8_tickOnce_88 : decode cX8_tickOnce 88 = .ok (.aload_n 0, 1) := by decide +kernel
theorem dX8_tickOnce_89 : decode cX8_tickOnce 89 = .ok (.iload_n 2, 1) := by decide +kernel
theorem dX8_tickOnce_90 : decode cX8_tickOnce 90 = .ok (.iconst 0, 1) := by decide +kernel
theorem dX8_tickOnce_91 : decode cX8_tickOnce 91 = .ok (.invokevirtual 122, 3) := by decide +kernel
theorem dX8_tickOnce_94 : decode cX8_tickOnce 94 = .ok (.iconst 1, 1) := by decide +kernel
theorem dX8_tickOnce_95 : decode cX8_tickOnce 95 = .ok (.if_icmp .ne 19, 3) := by decide +kernel
theorem dX8_tickOnce_98 : decode cX8_tickOnce 98 = .ok (.iload_n 1, 1) := by decide +kernel
theorem dX8_tickOnce_99 : decode cX8_tickOnce 99 = .ok (.aload_n 0, 1) := by decide +kernel
theorem dX8_tickOnce_100 : decode cX8_tickOnce 100 = .ok (.iload_n 2, 1) := by decide +kernel
theorem dX8_tickOnce_101 : decode cX8_tickOnce 101 = .ok (.iconst 5, 1) := by decide +kernel
theorem dX8_tickOnce_102 : decode cX8_tickOnce 102 = .ok (.invokevirtual 122, 3) := by decide +kernel
theorem dX8_tickOnce_105 : decode cX8_tickOnce 105 = .ok (.isub, 1) := by decide +kernel
theorem dX8_tickOnce_106 : decode cX8_tickOnce 106 = .ok (.iconst 3, 1) := by decide +kernel
theorem dX8_tickOnce_107 : decode cX8_tickOnce 107 = .ok (.if_icmp .lt 7, 3) := by decide +kernel
theorem dX8_tickOnce_110 : decode cX8_tickOnce 110 = .ok (.iconst 1, 1) := by decide +kernel
theorem dX8_tickOnce_111 : decode cX8_tickOnce 111 = .ok (.goto 4, 3) := by decide +kernel
theorem dX8_tickOnce_114 : decode cX8_tickOnce 114 = .ok (.iconst 0, 1) := by decide +kernel
theorem dX8_tickOnce_115 : decode cX8_tickOnce 115 = .ok (.iadd, 1) := by decide +kernel
theorem dX8_tickOnce_116 : decode cX8_tickOnce 116 = .ok (.iastore, 1) := by decide +kernel
theorem dX8_tickOnce_117 : decode cX8_tickOnce 117 = .ok (.iinc 2 1, 3) := by decide +kernel
theorem dX8_tickOnce_120 : decode cX8_tickOnce 120 = .ok (.goto (-87), 3) := by decide +kernel
theorem dX8_tickOnce_123 : decode cX8_tickOnce 123 = .ok (.aload_n 0, 1) := by decide +kernel
theorem dX8_tickOnce_124 : decode cX8_tickOnce 124 = .ok (.getfield 19, 3) := by decide +kernel
theorem dX8_tickOnce_127 : decode cX8_tickOnce 127 = .ok (.bipush 10, 2) := by decide +kernel
theorem dX8_tickOnce_129 : decode cX8_tickOnce 129 = .ok (.iaload, 1) := by decide +kernel
theorem dX8_tickOnce_130 : decode cX8_tickOnce 130 = .ok (.ifCond .le 31, 3) := by decide +kernel
theorem dX8_tickOnce_133 : decode cX8_tickOnce 133 = .ok (.aload_n 0, 1) := by decide +kernel
theorem dX8_tickOnce_134 : decode cX8_tickOnce 134 = .ok (.iload_n 1, 1) := by decide +kernel
theorem dX8_tickOnce_135 : decode cX8_tickOnce 135 = .ok (.invokevirtual 150, 3) := by decide +kernel
theorem dX8_tickOnce_138 : decode cX8_tickOnce 138 = .ok (.ifCond .eq 22, 3) := by decide +kernel
theorem dX8_tickOnce_141 : decode cX8_tickOnce 141 = .ok (.aload_n 0, 1) := by decide +kernel
theorem dX8_tickOnce_142 : decode cX8_tickOnce 142 = .ok (.getfield 19, 3) := by decide +kernel
theorem dX8_tickOnce_145 : decode cX8_tickOnce 145 = .ok (.bipush 11, 2) := by decide +kernel
theorem dX8_tickOnce_147 : decode cX8_tickOnce 147 = .ok (.iaload, 1) := by decide +kernel
theorem dX8_tickOnce_148 : decode cX8_tickOnce 148 = .ok (.istore_n 2, 1) := by decide +kernel
theorem dX8_tickOnce_149 : decode cX8_tickOnce 149 = .ok (.aload_n 0, 1) := by decide +kernel
theorem dX8_tickOnce_150 : decode cX8_tickOnce 150 = .ok (.iload_n 2, 1) := by decide +kernel
theorem dX8_tickOnce_151 : decode cX8_tickOnce 151 = .ok (.invokevirtual 159, 3) := by decide +kernel
theorem dX8_tickOnce_154 : decode cX8_tickOnce 154 = .ok (.aload_n 0, 1) := by decide +kernel
theorem dX8_tickOnce_155 : decode cX8_tickOnce 155 = .ok (.iload_n 2, 1) := by decide +kernel
theorem dX8_tickOnce_156 : decode cX8_tickOnce 156 = .ok (.iload_n 1, 1) := by decide +kernel
theorem dX8_tickOnce_157 : decode cX8_tickOnce 157 = .ok (.invokevirtual 163, 3) := by decide +kernel
theorem dX8_tickOnce_160 : decode cX8_tickOnce 160 = .ok (.return_, 1) := by decide +kernel
theorem dX8_tickOnce_161 : decode cX8_tickOnce 161 = .ok (.aload_n 0, 1) := by decide +kernel
theorem dX8_tickOnce_162 : decode cX8_tickOnce 162 = .ok (.iconst 1, 1) := by decide +kernel
theorem dX8_tickOnce_163 : decode cX8_tickOnce 163 = .ok (.invokevirtual 140, 3) := by decide +kernel
theorem dX8_tickOnce_166 : decode cX8_tickOnce 166 = .ok (.istore_n 2, 1) := by decide +kernel
theorem dX8_tickOnce_167 : decode cX8_tickOnce 167 = .ok (.bipush 100, 2) := by decide +kernel
theorem dX8_tickOnce_169 : decode cX8_tickOnce 169 = .ok (.aload_n 0, 1) := by decide +kernel
theorem dX8_tickOnce_170 : decode cX8_tickOnce 170 = .ok (.getfield 19, 3) := by decide +kernel
theorem dX8_tickOnce_173 : decode cX8_tickOnce 173 = .ok (.iconst 0, 1) := by decide +kernel
theorem dX8_tickOnce_174 : decode cX8_tickOnce 174 = .ok (.iaload, 1) := by decide +kernel
theorem dX8_tickOnce_175 : decode cX8_tickOnce 175 = .ok (.imul, 1) := by decide +kernel
theorem dX8_tickOnce_176 : decode cX8_tickOnce 176 = .ok (.istore_n 3, 1) := by decide +kernel
theorem dX8_tickOnce_177 : decode cX8_tickOnce 177 = .ok (.aload_n 0, 1) := by decide +kernel
theorem dX8_tickOnce_178 : decode cX8_tickOnce 178 = .ok (.iload_n 1, 1) := by decide +kernel
theorem dX8_tickOnce_179 : decode cX8_tickOnce 179 = .ok (.invokevirtual 166, 3) := by decide +kernel
theorem dX8_tickOnce_182 : decode cX8_tickOnce 182 = .ok (.istore 4, 2) := by decide +kernel
theorem dX8_tickOnce_184 : decode cX8_tickOnce 184 = .ok (.iload_n 3, 1) := by decide +kernel
theorem dX8_tickOnce_185 : decode cX8_tickOnce 185 = .ok (.aload_n 0, 1) := by decide +kernel
theorem dX8_tickOnce_186 : decode cX8_tickOnce 186 = .ok (.getfield 16, 3) := by decide +kernel
theorem dX8_tickOnce_189 : decode cX8_tickOnce 189 = .ok (.bipush 41, 2) := by decide +kernel
theorem dX8_tickOnce_191 : decode cX8_tickOnce 191 = .ok (.iaload, 1) := by decide +kernel
theorem dX8_tickOnce_192 : decode cX8_tickOnce 192 = .ok (.aload_n 0, 1) := by decide +kernel
theorem dX8_tickOnce_193 : decode cX8_tickOnce 193 = .ok (.iload_n 2, 1) := by decide +kernel
theorem dX8_tickOnce_194 : decode cX8_tickOnce 194 = .ok (.iconst 1, 1) := by decide +kernel
theorem dX8_tickOnce_195 : decode cX8_tickOnce 195 = .ok (.invokevirtual 90, 3) := by decide +kernel
theorem dX8_tickOnce_198 : decode cX8_tickOnce 198 = .ok (.imul, 1) := by decide +kernel
theorem dX8_tickOnce_199 : decode cX8_tickOnce 199 = .ok (.if_icmp .le 68, 3) := by decide +kernel
theorem dX8_tickOnce_202 : decode cX8_tickOnce 202 = .ok (.aload_n 0, 1) := by decide +kernel
theorem dX8_tickOnce_203 : decode cX8_tickOnce 203 = .ok (.getfield 19, 3) := by decide +kernel
theorem dX8_tickOnce_206 : decode cX8_tickOnce 206 = .ok (.iconst 5, 1) := by decide +kernel
theorem dX8_tickOnce_207 : decode cX8_tickOnce 207 = .ok (.dup2, 1) := by decide +kernel
theorem dX8_tickOnce_208 : decode cX8_tickOnce 208 = .ok (.iaload, 1) := by decide +kernel
theorem dX8_tickOnce_209 : decode cX8_tickOnce 209 = .ok (.iconst 1, 1) := by decide +kernel
theorem dX8_tickOnce_210 : decode cX8_tickOnce 210 = .ok (.iadd, 1) := by decide +kernel
theorem dX8_tickOnce_211 : decode cX8_tickOnce 211 = .ok (.iastore, 1) := by decide +kernel
theorem dX8_tickOnce_212 : decode cX8_tickOnce 212 = .ok (.aload_n 0, 1) := by decide +kernel
theorem dX8_tickOnce_213 : decode cX8_tickOnce 213 = .ok (.getfield 19, 3) := by decide +kernel
theorem dX8_tickOnce_216 : decode cX8_tickOnce 216 = .ok (.bipush 6, 2) := by decide +kernel
theorem dX8_tickOnce_218 : decode cX8_tickOnce 218 = .ok (.iconst 0, 1) := by decide +kernel
theorem dX8_tickOnce_219 : decode cX8_tickOnce 219 = .ok (.iastore, 1) := by decide +kernel
theorem dX8_tickOnce_220 : decode cX8_tickOnce 220 = .ok (.aload_n 0, 1) := by decide +kernel
theorem dX8_tickOnce_221 : decode cX8_tickOnce 221 = .ok (.iload_n 1, 1) := by decide +kernel
theorem dX8_tickOnce_222 : decode cX8_tickOnce 222 = .ok (.invokevirtual 169, 3) := by decide +kernel
theorem dX8_tickOnce_225 : decode cX8_tickOnce 225 = .ok (.istore 5, 2) := by decide +kernel
theorem dX8_tickOnce_227 : decode cX8_tickOnce 227 = .ok (.aload_n 0, 1) := by decide +kernel
theorem dX8_tickOnce_228 : decode cX8_tickOnce 228 = .ok (.getfield 19, 3) := by decide +kernel
theorem dX8_tickOnce_231 : decode cX8_tickOnce 231 = .ok (.iconst 5, 1) := by decide +kernel
theorem dX8_tickOnce_232 : decode cX8_tickOnce 232 = .ok (.iaload, 1) := by decide +kernel
theorem dX8_tickOnce_233 : decode cX8_tickOnce 233 = .ok (.aload_n 0, 1) := by decide +kernel
theorem dX8_tickOnce_234 : decode cX8_tickOnce 234 = .ok (.getfield 16, 3) := by decide +kernel
theorem dX8_tickOnce_237 : decode cX8_tickOnce 237 = .ok (.bipush 43, 2) := by decide +kernel
theorem dX8_tickOnce_239 : decode cX8_tickOnce 239 = .ok (.iaload, 1) := by decide +kernel
theorem dX8_tickOnce_240 : decode cX8_tickOnce 240 = .ok (.if_icmp .le 24, 3) := by decide +kernel
theorem dX8_tickOnce_243 : decode cX8_tickOnce 243 = .ok (.iload 5, 2) := by decide +kernel
theorem dX8_tickOnce_245 : decode cX8_tickOnce 245 = .ok (.bipush (-4), 2) := by decide +kernel
theorem dX8_tickOnce_247 : decode cX8_tickOnce 247 = .ok (.if_icmp .eq 17, 3) := by decide +kernel
theorem dX8_tickOnce_250 : decode cX8_tickOnce 250 = .ok (.aload_n 0, 1) := by decide +kernel
theorem dX8_tickOnce_251 : decode cX8_tickOnce 251 = .ok (.iload 5, 2) := by decide +kernel
theorem dX8_tickOnce_253 : decode cX8_tickOnce 253 = .ok (.iload_n 1, 1) := by decide +kernel
theorem dX8_tickOnce_254 : decode cX8_tickOnce 254 = .ok (.invokevirtual 163, 3) := by decide +kernel
theorem dX8_tickOnce_257 : decode cX8_tickOnce 257 = .ok (.aload_n 0, 1) := by decide +kernel
theorem dX8_tickOnce_258 : decode cX8_tickOnce 258 = .ok (.getfield 19, 3) := by decide +kernel
theorem dX8_tickOnce_261 : decode cX8_tickOnce 261 = .ok (.iconst 5, 1) := by decide +kernel
theorem dX8_tickOnce_262 : decode cX8_tickOnce 262 = .ok (.iconst 0, 1) := by decide +kernel
theorem dX8_tickOnce_263 : decode cX8_tickOnce 263 = .ok (.iastore, 1) := by decide +kernel
theorem dX8_tickOnce_264 : decode cX8_tickOnce 264 = .ok (.goto 103, 3) := by decide +kernel
theorem dX8_tickOnce_267 : decode cX8_tickOnce 267 = .ok (.iload 4, 2) := by decide +kernel
theorem dX8_tickOnce_269 : decode cX8_tickOnce 269 = .ok (.bipush (-4), 2) := by decide +kernel
theorem dX8_tickOnce_271 : decode cX8_tickOnce 271 = .ok (.if_icmp .eq 81, 3) := by decide +kernel
theorem dX8_tickOnce_274 : decode cX8_tickOnce 274 = .ok (.iload_n 3, 1) := by decide +kernel
theorem dX8_tickOnce_275 : decode cX8_tickOnce 275 = .ok (.aload_n 0, 1) := by decide +kernel
theorem dX8_tickOnce_276 : decode cX8_tickOnce 276 = .ok (.getfield 16, 3) := by decide +kernel
theorem dX8_tickOnce_279 : decode cX8_tickOnce 279 = .ok (.bipush 42, 2) := by decide +kernel
theorem dX8_tickOnce_281 : decode cX8_tickOnce 281 = .ok (.iaload, 1) := by decide +kernel
theorem dX8_tickOnce_282 : decode cX8_tickOnce 282 = .ok (.aload_n 0, 1) := by decide +kernel
theorem dX8_tickOnce_283 : decode cX8_tickOnce 283 = .ok (.iload_n 2, 1) := by decide +kernel
theorem dX8_tickOnce_284 : decode cX8_tickOnce 284 = .ok (.iconst 1, 1) := by decide +kernel
theorem dX8_tickOnce_285 : decode cX8_tickOnce 285 = .ok (.invokevirtual 90, 3) := by decide +kernel
theorem dX8_tickOnce_288 : decode cX8_tickOnce 288 = .ok (.aload_n 0, 1) := by decide +kernel
theorem dX8_tickOnce_289 : decode cX8_tickOnce 289 = .ok (.iload 4, 2) := by decide +kernel
theorem dX8_tickOnce_291 : decode cX8_tickOnce 291 = .ok (.invokevirtual 99, 3) := by decide +kernel
theorem dX8_tickOnce_294 : decode cX8_tickOnce 294 = .ok (.isub, 1) := by decide +kernel
theorem dX8_tickOnce_295 : decode cX8_tickOnce 295 = .ok (.imul, 1) := by decide +kernel
theorem dX8_tickOnce_296 : decode cX8_tickOnce 296 = .ok (.if_icmp .ge 56, 3) := by decide +kernel
theorem dX8_tickOnce_299 : decode cX8_tickOnce 299 = .ok (.aload_n 0, 1) := by decide +kernel
theorem dX8_tickOnce_300 : decode cX8_tickOnce 300 = .ok (.getfield 19, 3) := by decide +kernel
theorem dX8_tickOnce_303 : decode cX8_tickOnce 303 = .ok (.bipush 6, 2) := by decide +kernel
theorem dX8_tickOnce_305 : decode cX8_tickOnce 305 = .ok (.dup2, 1) := by decide +kernel
theorem dX8_tickOnce_306 : decode cX8_tickOnce 306 = .ok (.iaload, 1) := by decide +kernel
theorem dX8_tickOnce_307 : decode cX8_tickOnce 307 = .ok (.iconst 1, 1) := by decide +kernel
theorem dX8_tickOnce_308 : decode cX8_tickOnce 308 = .ok (.iadd, 1) := by decide +kernel
theorem dX8_tickOnce_309 : decode cX8_tickOnce 309 = .ok (.iastore, 1) := by decide +kernel
theorem dX8_tickOnce_310 : decode cX8_tickOnce 310 = .ok (.aload_n 0, 1) := by decide +kernel
theorem dX8_tickOnce_311 : decode cX8_tickOnce 311 = .ok (.getfield 19, 3) := by decide +kernel
theorem dX8_tickOnce_314 : decode cX8_tickOnce 314 = .ok (.iconst 5, 1) := by decide +kernel
theorem dX8_tickOnce_315 : decode cX8_tickOnce 315 = .ok (.iconst 0, 1) := by decide +kernel
theorem dX8_tickOnce_316 : decode cX8_tickOnce 316 = .ok (.iastore, 1) := by decide +kernel
theorem dX8_tickOnce_317 : decode cX8_tickOnce 317 = .ok (.aload_n 0, 1) := by decide +kernel
theorem dX8_tickOnce_318 : decode cX8_tickOnce 318 = .ok (.getfield 19, 3) := by decide +kernel
theorem dX8_tickOnce_321 : decode cX8_tickOnce 321 = .ok (.bipush 6, 2) := by decide +kernel
theorem dX8_tickOnce_323 : decode cX8_tickOnce 323 = .ok (.iaload, 1) := by decide +kernel
theorem dX8_tickOnce_324 : decode cX8_tickOnce 324 = .ok (.aload_n 0, 1) := by decide +kernel
theorem dX8_tickOnce_325 : decode cX8_tickOnce 325 = .ok (.getfield 16, 3) := by decide +kernel
theorem dX8_tickOnce_328 : decode cX8_tickOnce 328 = .ok (.bipush 43, 2) := by decide +kernel
theorem dX8_tickOnce_330 : decode cX8_tickOnce 330 = .ok (.iaload, 1) := by decide +kernel
theorem dX8_tickOnce_331 : decode cX8_tickOnce 331 = .ok (.if_icmp .le 36, 3) := by decide +kernel
theorem dX8_tickOnce_334 : decode cX8_tickOnce 334 = .ok (.aload_n 0, 1) := by decide +kernel
theorem dX8_tickOnce_335 : decode cX8_tickOnce 335 = .ok (.iload 4, 2) := by decide +kernel
theorem dX8_tickOnce_337 : decode cX8_tickOnce 337 = .ok (.iload_n 1, 1) := by decide +kernel
theorem dX8_tickOnce_338 : decode cX8_tickOnce 338 = .ok (.invokevirtual 172, 3) := by decide +kernel
theorem dX8_tickOnce_341 : decode cX8_tickOnce 341 = .ok (.aload_n 0, 1) := by decide +kernel
theorem dX8_tickOnce_342 : decode cX8_tickOnce 342 = .ok (.getfield 19, 3) := by decide +kernel
theorem dX8_tickOnce_345 : decode cX8_tickOnce 345 = .ok (.bipush 6, 2) := by decide +kernel
theorem dX8_tickOnce_347 : decode cX8_tickOnce 347 = .ok (.iconst 0, 1) := by decide +kernel
theorem dX8_tickOnce_348 : decode cX8_tickOnce 348 = .ok (.iastore, 1) := by decide +kernel
theorem dX8_tickOnce_349 : decode cX8_tickOnce 349 = .ok (.goto 18, 3) := by decide +kernel
theorem dX8_tickOnce_352 : decode cX8_tickOnce 352 = .ok (.aload_n 0, 1) := by decide +kernel
theorem dX8_tickOnce_353 : decode cX8_tickOnce 353 = .ok (.getfield 19, 3) := by decide +kernel
theorem dX8_tickOnce_356 : decode cX8_tickOnce 356 = .ok (.iconst 5, 1) := by decide +kernel
theorem dX8_tickOnce_357 : decode cX8_tickOnce 357 = .ok (.iconst 0, 1) := by decide +kernel
theorem dX8_tickOnce_358 : decode cX8_tickOnce 358 = .ok (.iastore, 1) := by decide +kernel
theorem dX8_tickOnce_359 : decode cX8_tickOnce 359 = .ok (.aload_n 0, 1) := by decide +kernel
theorem dX8_tickOnce_360 : decode cX8_tickOnce 360 = .ok (.getfield 19, 3) := by decide +kernel
theorem dX8_tickOnce_363 : decode cX8_tickOnce 363 = .ok (.bipush 6, 2) := by decide +kernel
theorem dX8_tickOnce_365 : decode cX8_tickOnce 365 = .ok (.iconst 0, 1) := by decide +kernel
theorem dX8_tickOnce_366 : decode cX8_tickOnce 366 = .ok (.iastore, 1) := by decide +kernel
theorem dX8_tickOnce_367 : decode cX8_tickOnce 367 = .ok (.return_, 1) := by decide +kernel
theorem dX8_note_0 : decode cX8_note 0 = .ok (.aload_n 0, 1) := by decide +kernel
theorem dX8_note_1 : decode cX8_note 1 = .ok (.getfield 47, 3) := by decide +kernel
theorem dX8_note_4 : decode cX8_note 4 = .ok (.iconst 4, 1) := by decide +kernel
theorem dX8_note_5 : decode cX8_note 5 = .ok (.if_icmp .ne 43, 3) := by decide +kernel
theorem dX8_note_8 : decode cX8_note 8 = .ok (.iconst 0, 1) := by decide +kernel
theorem dX8_note_9 : decode cX8_note 9 = .ok (.istore_n 1, 1) := by decide +kernel
theorem dX8_note_10 : decode cX8_note 10 = .ok (.iload_n 1, 1) := by decide +kernel
theorem dX8_note_11 : decode cX8_note 11 = .ok (.sipush 303, 3) := by decide +kernel
theorem dX8_note_14 : decode cX8_note 14 = .ok (.if_icmp .ge 24, 3) := by decide +kernel
theorem dX8_note_17 : decode cX8_note 17 = .ok (.aload_n 0, 1) := by decide +kernel
theorem dX8_note_18 : decode cX8_note 18 = .ok (.getfield 25, 3) := by decide +kernel
theorem dX8_note_21 : decode cX8_note 21 = .ok (.iload_n 1, 1) := by decide +kernel
theorem dX8_note_22 : decode cX8_note 22 = .ok (.aload_n 0, 1) := by decide +kernel
theorem dX8_note_23 : decode cX8_note 23 = .ok (.getfield 25, 3) := by decide +kernel
theorem dX8_note_26 : decode cX8_note 26 = .ok (.iload_n 1, 1) := by decide +kernel
theorem dX8_note_27 : decode cX8_note 27 = .ok (.bipush 101, 2) := by decide +kernel
theorem dX8_note_29 : decode cX8_note 29 = .ok (.iadd, 1) := by decide +kernel
theorem dX8_note_30 : decode cX8_note 30 = .ok (.iaload, 1) := by decide +kernel
theorem dX8_note_31 : decode cX8_note 31 = .ok (.iastore, 1) := by decide +kernel
theorem dX8_note_32 : decode cX8_note 32 = .ok (.iinc 1 1, 3) := by decide +kernel
theorem dX8_note_35 : decode cX8_note 35 = .ok (.goto (-25), 3) := by decide +kernel
theorem dX8_note_38 : decode cX8_note 38 = .ok (.aload_n 0, 1) := by decide +kernel
theorem dX8_note_39 : decode cX8_note 39 = .ok (.dup, 1) := by decide +kernel
theorem dX8_note_40 : decode cX8_note 40 = .ok (.getfield 47, 3) := by decide +kernel
theorem dX8_note_43 : decode cX8_note 43 = .ok (.iconst 1, 1) := by decide +kernel
theorem dX8_note_44 : decode cX8_note 44 = .ok (.isub, 1) := by decide +kernel
theorem dX8_note_45 : decode cX8_note 45 = .ok (.putfield 47, 3) := by decide +kernel
theorem dX8_note_48 : decode cX8_note 48 = .ok (.iconst 0, 1) := by decide +kernel
theorem dX8_note_49 : decode cX8_note 49 = .ok (.istore_n 1, 1) := by decide +kernel
theorem dX8_note_50 : decode cX8_note 50 = .ok (.iload_n 1, 1) := by decide +kernel
theorem dX8_note_51 : decode cX8_note 51 = .ok (.bipush 101, 2) := by decide +kernel
theorem dX8_note_53 : decode cX8_note 53 = .ok (.if_icmp .ge 29, 3) := by decide +kernel
theorem dX8_note_56 : decode cX8_note 56 = .ok (.aload_n 0, 1) := by decide +kernel
theorem dX8_note_57 : decode cX8_note 57 = .ok (.getfield 25, 3) := by decide +kernel
theorem dX8_note_60 : decode cX8_note 60 = .ok (.bipush 101, 2) := by decide +kernel
theorem dX8_note_62 : decode cX8_note 62 = .ok (.aload_n 0, 1) := by decide +kernel
theorem dX8_note_63 : decode cX8_note 63 = .ok (.getfield 47, 3) := by decide +kernel
theorem dX8_note_66 : decode cX8_note 66 = .ok (.imul, 1) := by decide +kernel
theorem dX8_note_67 : decode cX8_note 67 = .ok (.iload_n 1, 1) := by decide +kernel
theorem dX8_note_68 : decode cX8_note 68 = .ok (.iadd, 1) := by decide +kernel
theorem dX8_note_69 : decode cX8_note 69 = .ok (.aload_n 0, 1) := by decide +kernel
theorem dX8_note_70 : decode cX8_note 70 = .ok (.getfield 19, 3) := by decide +kernel
theorem dX8_note_73 : decode cX8_note 73 = .ok (.iload_n 1, 1) := by decide +kernel
theorem dX8_note_74 : decode cX8_note 74 = .ok (.iaload, 1) := by decide +kernel
theorem dX8_note_75 : decode cX8_note 75 = .ok (.iastore, 1) := by decide +kernel
theorem dX8_note_76 : decode cX8_note 76 = .ok (.iinc 1 1, 3) := by decide +kernel
theorem dX8_note_79 : decode cX8_note 79 = .ok (.goto (-29), 3) := by decide +kernel
theorem dX8_note_82 : decode cX8_note 82 = .ok (.aload_n 0, 1) := by decide +kernel
theorem dX8_note_83 : decode cX8_note 83 = .ok (.dup, 1) := by decide +kernel
theorem dX8_note_84 : decode cX8_note 84 = .ok (.getfield 47, 3) := by decide +kernel
theorem dX8_note_87 : decode cX8_note 87 = .ok (.iconst 1, 1) := by decide +kernel
theorem dX8_note_88 : decode cX8_note 88 = .ok (.iadd, 1) := by decide +kernel
theorem dX8_note_89 : decode cX8_note 89 = .ok (.putfield 47, 3) := by decide +kernel
theorem dX8_note_92 : decode cX8_note 92 = .ok (.return_, 1) := by decide +kernel
theorem dX8_undo_0 : decode cX8_undo 0 = .ok (.aload_n 0, 1) := by decide +kernel
theorem dX8_undo_1 : decode cX8_undo 1 = .ok (.getfield 47, 3) := by decide +kernel
theorem dX8_undo_4 : decode cX8_undo 4 = .ok (.ifCond .ne 6, 3) := by decide +kernel
theorem dX8_undo_7 : decode cX8_undo 7 = .ok (.bipush (-2), 2) := by decide +kernel
theorem dX8_undo_9 : decode cX8_undo 9 = .ok (.ireturn, 1) := by decide +kernel
theorem dX8_undo_10 : decode cX8_undo 10 = .ok (.aload_n 0, 1) := by decide +kernel
theorem dX8_undo_11 : decode cX8_undo 11 = .ok (.dup, 1) := by decide +kernel
theorem dX8_undo_12 : decode cX8_undo 12 = .ok (.getfield 47, 3) := by decide +kernel
theorem dX8_undo_15 : decode cX8_undo 15 = .ok (.iconst 1, 1) := by decide +kernel
theorem dX8_undo_16 : decode cX8_undo 16 = .ok (.isub, 1) := by decide +kernel
theorem dX8_undo_17 : decode cX8_undo 17 = .ok (.putfield 47, 3) := by decide +kernel
theorem dX8_undo_20 : decode cX8_undo 20 = .ok (.iconst 0, 1) := by decide +kernel
theorem dX8_undo_21 : decode cX8_undo 21 = .ok (.istore_n 1, 1) := by decide +kernel
theorem dX8_undo_22 : decode cX8_undo 22 = .ok (.iload_n 1, 1) := by decide +kernel
theorem dX8_undo_23 : decode cX8_undo 23 = .ok (.bipush 101, 2) := by decide +kernel
theorem dX8_undo_25 : decode cX8_undo 25 = .ok (.if_icmp .ge 29, 3) := by decide +kernel
theorem dX8_undo_28 : decode cX8_undo 28 = .ok (.aload_n 0, 1) := by decide +kernel
theorem dX8_undo_29 : decode cX8_undo 29 = .ok (.getfield 19, 3) := by decide +kernel
theorem dX8_undo_32 : decode cX8_undo 32 = .ok (.iload_n 1, 1) := by decide +kernel
theorem dX8_undo_33 : decode cX8_undo 33 = .ok (.aload_n 0, 1) := by decide +kernel
theorem dX8_undo_34 : decode cX8_undo 34 = .ok (.getfield 25, 3) := by decide +kernel
theorem dX8_undo_37 : decode cX8_undo 37 = .ok (.bipush 101, 2) := by decide +kernel
theorem dX8_undo_39 : decode cX8_undo 39 = .ok (.aload_n 0, 1) := by decide +kernel
theorem dX8_undo_40 : decode cX8_undo 40 = .ok (.getfield 47, 3) := by decide +kernel
theorem dX8_undo_43 : decode cX8_undo 43 = .ok (.imul, 1) := by decide +kernel
theorem dX8_undo_44 : decode cX8_undo 44 = .ok (.iload_n 1, 1) := by decide +kernel
theorem dX8_undo_45 : decode cX8_undo 45 = .ok (.iadd, 1) := by decide +kernel
theorem dX8_undo_46 : decode cX8_undo 46 = .ok (.iaload, 1) := by decide +kernel
theorem dX8_undo_47 : decode cX8_undo 47 = .ok (.iastore, 1) := by decide +kernel
theorem dX8_undo_48 : decode cX8_undo 48 = .ok (.iinc 1 1, 3) := by decide +kernel
theorem dX8_undo_51 : decode cX8_undo 51 = .ok (.goto (-29), 3) := by decide +kernel
theorem dX8_undo_54 : decode cX8_undo 54 = .ok (.aload_n 0, 1) := by decide +kernel
theorem dX8_undo_55 : decode cX8_undo 55 = .ok (.getfield 47, 3) := by decide +kernel
theorem dX8_undo_58 : decode cX8_undo 58 = .ok (.ireturn, 1) := by decide +kernel
theorem dX8_tell_0 : decode cX8_tell 0 = .ok (.iload_n 1, 1) := by decide +kernel
theorem dX8_tell_1 : decode cX8_tell 1 = .ok (.ifCond .ne 14, 3) := by decide +kernel
theorem dX8_tell_4 : decode cX8_tell 4 = .ok (.iload_n 2, 1) := by decide +kernel
theorem dX8_tell_5 : decode cX8_tell 5 = .ok (.iconst 0, 1) := by decide +kernel
theorem dX8_tell_6 : decode cX8_tell 6 = .ok (.sipush 480, 3) := by decide +kernel
theorem dX8_tell_9 : decode cX8_tell 9 = .ok (.invokestatic 61, 3) := by decide +kernel
theorem dX8_tell_12 : decode cX8_tell 12 = .ok (.goto 54, 3) := by decide +kernel
theorem dX8_tell_15 : decode cX8_tell 15 = .ok (.iload_n 1, 1) := by decide +kernel
theorem dX8_tell_16 : decode cX8_tell 16 = .ok (.iconst 1, 1) := by decide +kernel
theorem dX8_tell_17 : decode cX8_tell 17 = .ok (.if_icmp .ne 14, 3) := by decide +kernel
theorem dX8_tell_20 : decode cX8_tell 20 = .ok (.iload_n 2, 1) := by decide +kernel
theorem dX8_tell_21 : decode cX8_tell 21 = .ok (.iconst 0, 1) := by decide +kernel
theorem dX8_tell_22 : decode cX8_tell 22 = .ok (.sipush 240, 3) := by decide +kernel
theorem dX8_tell_25 : decode cX8_tell 25 = .ok (.invokestatic 61, 3) := by decide +kernel
theorem dX8_tell_28 : decode cX8_tell 28 = .ok (.goto 38, 3) := by decide +kernel
theorem dX8_tell_31 : decode cX8_tell 31 = .ok (.iload_n 1, 1) := by decide +kernel
theorem dX8_tell_32 : decode cX8_tell 32 = .ok (.iconst 2, 1) := by decide +kernel
theorem dX8_tell_33 : decode cX8_tell 33 = .ok (.if_icmp .ne 13, 3) := by decide +kernel
theorem dX8_tell_36 : decode cX8_tell 36 = .ok (.iload_n 2, 1) := by decide +kernel
theorem dX8_tell_37 : decode cX8_tell 37 = .ok (.iconst 0, 1) := by decide +kernel
theorem dX8_tell_38 : decode cX8_tell 38 = .ok (.bipush 45, 2) := by decide +kernel
theorem dX8_tell_40 : decode cX8_tell 40 = .ok (.invokestatic 61, 3) := by decide +kernel
theorem dX8_tell_43 : decode cX8_tell 43 = .ok (.goto 23, 3) := by decide +kernel
theorem dX8_tell_46 : decode cX8_tell 46 = .ok (.iload_n 1, 1) := by decide +kernel
theorem dX8_tell_47 : decode cX8_tell 47 = .ok (.iconst 3, 1) := by decide +kernel
theorem dX8_tell_48 : decode cX8_tell 48 = .ok (.if_icmp .ne 17, 3) := by decide +kernel
theorem dX8_tell_51 : decode cX8_tell 51 = .ok (.iload_n 2, 1) := by decide +kernel
theorem dX8_tell_52 : decode cX8_tell 52 = .ok (.iconst 4, 1) := by decide +kernel
theorem dX8_tell_53 : decode cX8_tell 53 = .ok (.bipush 14, 2) := by decide +kernel
theorem dX8_tell_55 : decode cX8_tell 55 = .ok (.invokestatic 61, 3) := by decide +kernel
theorem dX8_tell_58 : decode cX8_tell 58 = .ok (.ifCond .eq 7, 3) := by decide +kernel
theorem dX8_tell_61 : decode cX8_tell 61 = .ok (.iconst 1, 1) := by decide +kernel
theorem dX8_tell_62 : decode cX8_tell 62 = .ok (.goto 4, 3) := by decide +kernel
theorem dX8_tell_65 : decode cX8_tell 65 = .ok (.iconst 0, 1) := by decide +kernel
theorem dX8_tell_66 : decode cX8_tell 66 = .ok (.istore_n 3, 1) := by decide +kernel
theorem dX8_tell_67 : decode cX8_tell 67 = .ok (.iload_n 3, 1) := by decide +kernel
theorem dX8_tell_68 : decode cX8_tell 68 = .ok (.ifCond .ne 5, 3) := by decide +kernel
theorem dX8_tell_71 : decode cX8_tell 71 = .ok (.iconst (-1), 1) := by decide +kernel
theorem dX8_tell_72 : decode cX8_tell 72 = .ok (.ireturn, 1) := by decide +kernel
theorem dX8_tell_73 : decode cX8_tell 73 = .ok (.aload_n 0, 1) := by decide +kernel
theorem dX8_tell_74 : decode cX8_tell 74 = .ok (.getfield 19, 3) := by decide +kernel
theorem dX8_tell_77 : decode cX8_tell 77 = .ok (.iload_n 1, 1) := by decide +kernel
theorem dX8_tell_78 : decode cX8_tell 78 = .ok (.iaload, 1) := by decide +kernel
theorem dX8_tell_79 : decode cX8_tell 79 = .ok (.istore 4, 2) := by decide +kernel
theorem dX8_tell_81 : decode cX8_tell 81 = .ok (.iload 4, 2) := by decide +kernel
theorem dX8_tell_83 : decode cX8_tell 83 = .ok (.iload_n 2, 1) := by decide +kernel
theorem dX8_tell_84 : decode cX8_tell 84 = .ok (.if_icmp .ne 6, 3) := by decide +kernel
theorem dX8_tell_87 : decode cX8_tell 87 = .ok (.bipush (-2), 2) := by decide +kernel
theorem dX8_tell_89 : decode cX8_tell 89 = .ok (.ireturn, 1) := by decide +kernel
theorem dX8_tell_90 : decode cX8_tell 90 = .ok (.aload_n 0, 1) := by decide +kernel
theorem dX8_tell_91 : decode cX8_tell 91 = .ok (.invokevirtual 175, 3) := by decide +kernel
theorem dX8_tell_94 : decode cX8_tell 94 = .ok (.aload_n 0, 1) := by decide +kernel
theorem dX8_tell_95 : decode cX8_tell 95 = .ok (.getfield 19, 3) := by decide +kernel
theorem dX8_tell_98 : decode cX8_tell 98 = .ok (.iload_n 1, 1) := by decide +kernel
theorem dX8_tell_99 : decode cX8_tell 99 = .ok (.iload_n 2, 1) := by decide +kernel
theorem dX8_tell_100 : decode cX8_tell 100 = .ok (.iastore, 1) := by decide +kernel
theorem dX8_tell_101 : decode cX8_tell 101 = .ok (.iload 4, 2) := by decide +kernel
theorem dX8_tell_103 : decode cX8_tell 103 = .ok (.ireturn, 1) := by decide +kernel
theorem dX8_isMachine_0 : decode cX8_isMachine 0 = .ok (.iload_n 1, 1) := by decide +kernel
theorem dX8_isMachine_1 : decode cX8_isMachine 1 = .ok (.iconst 0, 1) := by decide +kernel
theorem dX8_isMachine_2 : decode cX8_isMachine 2 = .ok (.aload_n 0, 1) := by decide +kernel
theorem dX8_isMachine_3 : decode cX8_isMachine 3 = .ok (.getfield 16, 3) := by decide +kernel
theorem dX8_isMachine_6 : decode cX8_isMachine 6 = .ok (.bipush 36, 2) := by decide +kernel
theorem dX8_isMachine_8 : decode cX8_isMachine 8 = .ok (.iaload, 1) := by decide +kernel
theorem dX8_isMachine_9 : decode cX8_isMachine 9 = .ok (.iconst 1, 1) := by decide +kernel
theorem dX8_isMachine_10 : decode cX8_isMachine 10 = .ok (.isub, 1) := by decide +kernel
theorem dX8_isMachine_11 : decode cX8_isMachine 11 = .ok (.invokestatic 61, 3) := by decide +kernel
theorem dX8_isMachine_14 : decode cX8_isMachine 14 = .ok (.ireturn, 1) := by decide +kernel
theorem dX8_lock_0 : decode cX8_lock 0 = .ok (.aload_n 0, 1) := by decide +kernel
theorem dX8_lock_1 : decode cX8_lock 1 = .ok (.iload_n 1, 1) := by decide +kernel
theorem dX8_lock_2 : decode cX8_lock 2 = .ok (.invokevirtual 178, 3) := by decide +kernel
theorem dX8_lock_5 : decode cX8_lock 5 = .ok (.ifCond .eq 12, 3) := by decide +kernel
theorem dX8_lock_8 : decode cX8_lock 8 = .ok (.iload_n 2, 1) := by decide +kernel
theorem dX8_lock_9 : decode cX8_lock 9 = .ok (.iconst 0, 1) := by decide +kernel
theorem dX8_lock_10 : decode cX8_lock 10 = .ok (.iconst 1, 1) := by decide +kernel
theorem dX8_lock_11 : decode cX8_lock 11 = .ok (.invokestatic 61, 3) := by decide +kernel
theorem dX8_lock_14 : decode cX8_lock 14 = .ok (.ifCond .ne 5, 3) := by decide +kernel
theorem dX8_lock_17 : decode cX8_lock 17 = .ok (.iconst (-1), 1) := by decide +kernel
theorem dX8_lock_18 : decode cX8_lock 18 = .ok (.ireturn, 1) := by decide +kernel
theorem dX8_lock_19 : decode cX8_lock 19 = .ok (.aload_n 0, 1) := by decide +kernel
theorem dX8_lock_20 : decode cX8_lock 20 = .ok (.iload_n 1, 1) := by decide +kernel
theorem dX8_lock_21 : decode cX8_lock 21 = .ok (.iconst 3, 1) := by decide +kernel
theorem dX8_lock_22 : decode cX8_lock 22 = .ok (.invokevirtual 122, 3) := by decide +kernel
theorem dX8_lock_25 : decode cX8_lock 25 = .ok (.iload_n 2, 1) := by decide +kernel
theorem dX8_lock_26 : decode cX8_lock 26 = .ok (.if_icmp .ne 6, 3) := by decide +kernel
theorem dX8_lock_29 : decode cX8_lock 29 = .ok (.bipush (-2), 2) := by decide +kernel
theorem dX8_lock_31 : decode cX8_lock 31 = .ok (.ireturn, 1) := by decide +kernel
theorem dX8_lock_32 : decode cX8_lock 32 = .ok (.aload_n 0, 1) := by decide +kernel
theorem dX8_lock_33 : decode cX8_lock 33 = .ok (.invokevirtual 175, 3) := by decide +kernel
theorem dX8_lock_36 : decode cX8_lock 36 = .ok (.aload_n 0, 1) := by decide +kernel
theorem dX8_lock_37 : decode cX8_lock 37 = .ok (.getfield 19, 3) := by decide +kernel
theorem dX8_lock_40 : decode cX8_lock 40 = .ok (.bipush 17, 2) := by decide +kernel
theorem dX8_lock_42 : decode cX8_lock 42 = .ok (.bipush 14, 2) := by decide +kernel
theorem dX8_lock_44 : decode cX8_lock 44 = .ok (.iload_n 1, 1) := by decide +kernel
theorem dX8_lock_45 : decode cX8_lock 45 = .ok (.imul, 1) := by decide +kernel
theorem dX8_lock_46 : decode cX8_lock 46 = .ok (.iadd, 1) := by decide +kernel
theorem dX8_lock_47 : decode cX8_lock 47 = .ok (.iconst 3, 1) := by decide +kernel
theorem dX8_lock_48 : decode cX8_lock 48 = .ok (.iadd, 1) := by decide +kernel
theorem dX8_lock_49 : decode cX8_lock 49 = .ok (.iload_n 2, 1) := by decide +kernel
theorem dX8_lock_50 : decode cX8_lock 50 = .ok (.iastore, 1) := by decide +kernel
theorem dX8_lock_51 : decode cX8_lock 51 = .ok (.iload_n 2, 1) := by decide +kernel
theorem dX8_lock_52 : decode cX8_lock 52 = .ok (.iconst 1, 1) := by decide +kernel
theorem dX8_lock_53 : decode cX8_lock 53 = .ok (.if_icmp .ne 28, 3) := by decide +kernel
theorem dX8_lock_56 : decode cX8_lock 56 = .ok (.aload_n 0, 1) := by decide +kernel
theorem dX8_lock_57 : decode cX8_lock 57 = .ok (.iload_n 1, 1) := by decide +kernel
theorem dX8_lock_58 : decode cX8_lock 58 = .ok (.invokevirtual 159, 3) := by decide +kernel
theorem dX8_lock_61 : decode cX8_lock 61 = .ok (.aload_n 0, 1) := by decide +kernel
theorem dX8_lock_62 : decode cX8_lock 62 = .ok (.iload_n 1, 1) := by decide +kernel
theorem dX8_lock_63 : decode cX8_lock 63 = .ok (.iconst 0, 1) := by decide +kernel
theorem dX8_lock_64 : decode cX8_lock 64 = .ok (.invokevirtual 122, 3) := by decide +kernel
theorem dX8_lock_67 : decode cX8_lock 67 = .ok (.ifCond .le 14, 3) := by decide +kernel
theorem dX8_lock_70 : decode cX8_lock 70 = .ok (.aload_n 0, 1) := by decide +kernel
theorem dX8_lock_71 : decode cX8_lock 71 = .ok (.iload_n 1, 1) := by decide +kernel
theorem dX8_lock_72 : decode cX8_lock 72 = .ok (.aload_n 0, 1) := by decide +kernel
theorem dX8_lock_73 : decode cX8_lock 73 = .ok (.getfield 19, 3) := by decide +kernel
theorem dX8_lock_76 : decode cX8_lock 76 = .ok (.iconst 4, 1) := by decide +kernel
theorem dX8_lock_77 : decode cX8_lock 77 = .ok (.iaload, 1) := by decide +kernel
theorem dX8_lock_78 : decode cX8_lock 78 = .ok (.invokevirtual 172, 3) := by decide +kernel
theorem dX8_lock_81 : decode cX8_lock 81 = .ok (.aload_n 0, 1) := by decide +kernel
theorem dX8_lock_82 : decode cX8_lock 82 = .ok (.invokevirtual 128, 3) := by decide +kernel
theorem dX8_lock_85 : decode cX8_lock 85 = .ok (.invokestatic 137, 3) := by decide +kernel
theorem dX8_lock_88 : decode cX8_lock 88 = .ok (.ireturn, 1) := by decide +kernel
theorem dX8_dip_0 : decode cX8_dip 0 = .ok (.aload_n 0, 1) := by decide +kernel
theorem dX8_dip_1 : decode cX8_dip 1 = .ok (.invokevirtual 175, 3) := by decide +kernel
theorem dX8_dip_4 : decode cX8_dip 4 = .ok (.iconst 0, 1) := by decide +kernel
theorem dX8_dip_5 : decode cX8_dip 5 = .ok (.istore_n 1, 1) := by decide +kernel
theorem dX8_dip_6 : decode cX8_dip 6 = .ok (.aload_n 0, 1) := by decide +kernel
theorem dX8_dip_7 : decode cX8_dip 7 = .ok (.iconst 1, 1) := by decide +kernel
theorem dX8_dip_8 : decode cX8_dip 8 = .ok (.invokevirtual 140, 3) := by decide +kernel
theorem dX8_dip_11 : decode cX8_dip 11 = .ok (.ifCond .eq 104, 3) := by decide +kernel
theorem dX8_dip_14 : decode cX8_dip 14 = .ok (.bipush (-4), 2) := by decide +kernel
theorem dX8_dip_16 : decode cX8_dip 16 = .ok (.istore_n 2, 1) := by decide +kernel
theorem dX8_dip_17 : decode cX8_dip 17 = .ok (.aload_n 0, 1) := by decide +kernel
theorem dX8_dip_18 : decode cX8_dip 18 = .ok (.getfield 16, 3) := by decide +kernel
theorem dX8_dip_21 : decode cX8_dip 21 = .ok (.bipush 36, 2) := by decide +kernel
theorem dX8_dip_23 : decode cX8_dip 23 = .ok (.iaload, 1) := by decide +kernel
theorem dX8_dip_24 : decode cX8_dip 24 = .ok (.iconst 1, 1) := by decide +kernel
theorem dX8_dip_25 : decode cX8_dip 25 = .ok (.isub, 1) := by decide +kernel
theorem dX8_dip_26 : decode cX8_dip 26 = .ok (.istore_n 3, 1) := by decide +kernel
theorem dX8_dip_27 : decode cX8_dip 27 = .ok (.iload_n 3, 1) := by decide +kernel
theorem dX8_dip_28 : decode cX8_dip 28 = .ok (.ifCond .lt 43, 3) := by decide +kernel
theorem dX8_dip_31 : decode cX8_dip 31 = .ok (.aload_n 0, 1) := by decide +kernel
theorem dX8_dip_32 : decode cX8_dip 32 = .ok (.iload_n 3, 1) := by decide +kernel
theorem dX8_dip_33 : decode cX8_dip 33 = .ok (.iconst 0, 1) := by decide +kernel
theorem dX8_dip_34 : decode cX8_dip 34 = .ok (.invokevirtual 122, 3) := by decide +kernel
theorem dX8_dip_37 : decode cX8_dip 37 = .ok (.ifCond .le 26, 3) := by decide +kernel
theorem dX8_dip_40 : decode cX8_dip 40 = .ok (.iload_n 2, 1) := by decide +kernel
theorem dX8_dip_41 : decode cX8_dip 41 = .ok (.bipush (-4), 2) := by decide +kernel
theorem dX8_dip_43 : decode cX8_dip 43 = .ok (.if_icmp .eq 16, 3) := by decide +kernel
theorem dX8_dip_46 : decode cX8_dip 46 = .ok (.aload_n 0, 1) := by decide +kernel
theorem dX8_dip_47 : decode cX8_dip 47 = .ok (.iload_n 3, 1) := by decide +kernel
theorem dX8_dip_48 : decode cX8_dip 48 = .ok (.invokevirtual 99, 3) := by decide +kernel
theorem dX8_dip_51 : decode cX8_dip 51 = .ok (.aload_n 0, 1) := by decide +kernel
theorem dX8_dip_52 : decode cX8_dip 52 = .ok (.iload_n 2, 1) := by decide +kernel
theorem dX8_dip_53 : decode cX8_dip 53 = .ok (.invokevirtual 99, 3) := by decide +kernel
theorem dX8_dip_56 : decode cX8_dip 56 = .ok (.if_icmp .lt 7, 3) := by decide +kernel
theorem dX8_dip_59 : decode cX8_dip 59 = .ok (.iload_n 3, 1) := by decide +kernel
theorem dX8_dip_60 : decode cX8_dip 60 = .ok (.goto 4, 3) := by decide +kernel
theorem dX8_dip_63 : decode cX8_dip 63 = .ok (.iload_n 2, 1) := by decide +kernel
theorem dX8_dip_64 : decode cX8_dip 64 = .ok (.istore_n 2, 1) := by decide +kernel
theorem dX8_dip_65 : decode cX8_dip 65 = .ok (.iinc 3 (-1), 3) := by decide +kernel
theorem dX8_dip_68 : decode cX8_dip 68 = .ok (.goto (-41), 3) := by decide +kernel
theorem dX8_dip_71 : decode cX8_dip 71 = .ok (.aload_n 0, 1) := by decide +kernel
theorem dX8_dip_72 : decode cX8_dip 72 = .ok (.iload_n 2, 1) := by decide +kernel
theorem dX8_dip_73 : decode cX8_dip 73 = .ok (.aload_n 0, 1) := by decide +kernel
theorem dX8_dip_74 : decode cX8_dip 74 = .ok (.getfield 19, 3) := by decide +kernel
theorem dX8_dip_77 : decode cX8_dip 77 = .ok (.iconst 4, 1) := by decide +kernel
theorem dX8_dip_78 : decode cX8_dip 78 = .ok (.iaload, 1) := by decide +kernel
theorem dX8_dip_79 : decode cX8_dip 79 = .ok (.invokevirtual 172, 3) := by decide +kernel
theorem dX8_dip_82 : decode cX8_dip 82 = .ok (.aload_n 0, 1) := by decide +kernel
theorem dX8_dip_83 : decode cX8_dip 83 = .ok (.getfield 19, 3) := by decide +kernel
theorem dX8_dip_86 : decode cX8_dip 86 = .ok (.bipush 11, 2) := by decide +kernel
theorem dX8_dip_88 : decode cX8_dip 88 = .ok (.aload_n 0, 1) := by decide +kernel
theorem dX8_dip_89 : decode cX8_dip 89 = .ok (.getfield 19, 3) := by decide +kernel
theorem dX8_dip_92 : decode cX8_dip 92 = .ok (.bipush 10, 2) := by decide +kernel
theorem dX8_dip_94 : decode cX8_dip 94 = .ok (.iaload, 1) := by decide +kernel
theorem dX8_dip_95 : decode cX8_dip 95 = .ok (.iadd, 1) := by decide +kernel
theorem dX8_dip_96 : decode cX8_dip 96 = .ok (.iload_n 2, 1) := by decide +kernel
theorem dX8_dip_97 : decode cX8_dip 97 = .ok (.iastore, 1) := by decide +kernel
theorem dX8_dip_98 : decode cX8_dip 98 = .ok (.aload_n 0, 1) := by decide +kernel
theorem dX8_dip_99 : decode cX8_dip 99 = .ok (.getfield 19, 3) := by decide +kernel
theorem dX8_dip_102 : decode cX8_dip 102 = .ok (.bipush 10, 2) := by decide +kernel
theorem dX8_dip_104 : decode cX8_dip 104 = .ok (.dup2, 1) := by decide +kernel
theorem dX8_dip_105 : decode cX8_dip 105 = .ok (.iaload, 1) := by decide +kernel
theorem dX8_dip_106 : decode cX8_dip 106 = .ok (.iconst 1, 1) := by decide +kernel
theorem dX8_dip_107 : decode cX8_dip 107 = .ok (.iadd, 1) := by decide +kernel
theorem dX8_dip_108 : decode cX8_dip 108 = .ok (.iastore, 1) := by decide +kernel
theorem dX8_dip_109 : decode cX8_dip 109 = .ok (.iinc 1 1, 3) := by decide +kernel
theorem dX8_dip_112 : decode cX8_dip 112 = .ok (.goto (-106), 3) := by decide +kernel
theorem dX8_dip_115 : decode cX8_dip 115 = .ok (.aload_n 0, 1) := by decide +kernel
theorem dX8_dip_116 : decode cX8_dip 116 = .ok (.getfield 19, 3) := by decide +kernel
theorem dX8_dip_119 : decode cX8_dip 119 = .ok (.iconst 5, 1) := by decide +kernel
theorem dX8_dip_120 : decode cX8_dip 120 = .ok (.iconst 0, 1) := by decide +kernel
theorem dX8_dip_121 : decode cX8_dip 121 = .ok (.iastore, 1) := by decide +kernel
theorem dX8_dip_122 : decode cX8_dip 122 = .ok (.aload_n 0, 1) := by decide +kernel
theorem dX8_dip_123 : decode cX8_dip 123 = .ok (.getfield 19, 3) := by decide +kernel
theorem dX8_dip_126 : decode cX8_dip 126 = .ok (.bipush 6, 2) := by decide +kernel
theorem dX8_dip_128 : decode cX8_dip 128 = .ok (.iconst 0, 1) := by decide +kernel
theorem dX8_dip_129 : decode cX8_dip 129 = .ok (.iastore, 1) := by decide +kernel
theorem dX8_dip_130 : decode cX8_dip 130 = .ok (.iload_n 1, 1) := by decide +kernel
theorem dX8_dip_131 : decode cX8_dip 131 = .ok (.ireturn, 1) := by decide +kernel
theorem dX8_tick_0 : decode cX8_tick 0 = .ok (.iload_n 1, 1) := by decide +kernel
theorem dX8_tick_1 : decode cX8_tick 1 = .ok (.iconst 1, 1) := by decide +kernel
theorem dX8_tick_2 : decode cX8_tick 2 = .ok (.bipush 60, 2) := by decide +kernel
theorem dX8_tick_4 : decode cX8_tick 4 = .ok (.invokestatic 61, 3) := by decide +kernel
theorem dX8_tick_7 : decode cX8_tick 7 = .ok (.ifCond .ne 5, 3) := by decide +kernel
theorem dX8_tick_10 : decode cX8_tick 10 = .ok (.iconst (-1), 1) := by decide +kernel
theorem dX8_tick_11 : decode cX8_tick 11 = .ok (.ireturn, 1) := by decide +kernel
theorem dX8_tick_12 : decode cX8_tick 12 = .ok (.aload_n 0, 1) := by decide +kernel
theorem dX8_tick_13 : decode cX8_tick 13 = .ok (.getfield 19, 3) := by decide +kernel
theorem dX8_tick_16 : decode cX8_tick 16 = .ok (.iconst 4, 1) := by decide +kernel
theorem dX8_tick_17 : decode cX8_tick 17 = .ok (.iaload, 1) := by decide +kernel
theorem dX8_tick_18 : decode cX8_tick 18 = .ok (.iload_n 1, 1) := by decide +kernel
theorem dX8_tick_19 : decode cX8_tick 19 = .ok (.iadd, 1) := by decide +kernel
theorem dX8_tick_20 : decode cX8_tick 20 = .ok (.sipush 9999, 3) := by decide +kernel
theorem dX8_tick_23 : decode cX8_tick 23 = .ok (.if_icmp .le 6, 3) := by decide +kernel
theorem dX8_tick_26 : decode cX8_tick 26 = .ok (.bipush (-2), 2) := by decide +kernel
theorem dX8_tick_28 : decode cX8_tick 28 = .ok (.ireturn, 1) := by decide +kernel
theorem dX8_tick_29 : decode cX8_tick 29 = .ok (.aload_n 0, 1) := by decide +kernel
theorem dX8_tick_30 : decode cX8_tick 30 = .ok (.invokevirtual 175, 3) := by decide +kernel
theorem dX8_tick_33 : decode cX8_tick 33 = .ok (.aload_n 0, 1) := by decide +kernel
theorem dX8_tick_34 : decode cX8_tick 34 = .ok (.getfield 19, 3) := by decide +kernel
theorem dX8_tick_37 : decode cX8_tick 37 = .ok (.bipush 7, 2) := by decide +kernel
theorem dX8_tick_39 : decode cX8_tick 39 = .ok (.iaload, 1) := by decide +kernel
theorem dX8_tick_40 : decode cX8_tick 40 = .ok (.istore_n 2, 1) := by decide +kernel
theorem dX8_tick_41 : decode cX8_tick 41 = .ok (.iconst 0, 1) := by decide +kernel
theorem dX8_tick_42 : decode cX8_tick 42 = .ok (.istore_n 3, 1) := by decide +kernel
theorem dX8_tick_43 : decode cX8_tick 43 = .ok (.iload_n 3, 1) := by decide +kernel
theorem dX8_tick_44 : decode cX8_tick 44 = .ok (.iload_n 1, 1) := by decide +kernel
theorem dX8_tick_45 : decode cX8_tick 45 = .ok (.if_icmp .ge 13, 3) := by decide +kernel
theorem dX8_tick_48 : decode cX8_tick 48 = .ok (.aload_n 0, 1) := by decide +kernel
theorem dX8_tick_49 : decode cX8_tick 49 = .ok (.invokevirtual 181, 3) := by decide +kernel
theorem dX8_tick_52 : decode cX8_tick 52 = .ok (.iinc 3 1, 3) := by decide +kernel
theorem dX8_tick_55 : decode cX8_tick 55 = .ok (.goto (-12), 3) := by decide +kernel
theorem dX8_tick_58 : decode cX8_tick 58 = .ok (.aload_n 0, 1) := by decide +kernel
theorem dX8_tick_59 : decode cX8_tick 59 = .ok (.getfield 19, 3) := by decide +kernel
theorem dX8_tick_62 : decode cX8_tick 62 = .ok (.bipush 7, 2) := by decide +kernel
theorem dX8_tick_64 : decode cX8_tick 64 = .ok (.iaload, 1) := by decide +kernel
theorem dX8_tick_65 : decode cX8_tick 65 = .ok (.iload_n 2, 1) := by decide +kernel
theorem dX8_tick_66 : decode cX8_tick 66 = .ok (.isub, 1) := by decide +kernel
theorem dX8_tick_67 : decode cX8_tick 67 = .ok (.ireturn, 1) := by decide +kernel
theorem dX8_placeInList_0 : decode cX8_placeInList 0 = .ok (.bipush (-4), 2) := by decide +kernel
theorem dX8_placeInList_2 : decode cX8_placeInList 2 = .ok (.istore_n 2, 1) := by decide +kernel
theorem dX8_placeInList_3 : decode cX8_placeInList 3 = .ok (.iconst 0, 1) := by decide +kernel
theorem dX8_placeInList_4 : decode cX8_placeInList 4 = .ok (.istore_n 3, 1) := by decide +kernel
theorem dX8_placeInList_5 : decode cX8_placeInList 5 = .ok (.iload_n 3, 1) := by decide +kernel
theorem dX8_placeInList_6 : decode cX8_placeInList 6 = .ok (.aload_n 0, 1) := by decide +kernel
theorem dX8_placeInList_7 : decode cX8_placeInList 7 = .ok (.getfield 19, 3) := by decide +kernel
theorem dX8_placeInList_10 : decode cX8_placeInList 10 = .ok (.bipush 10, 2) := by decide +kernel
theorem dX8_placeInList_12 : decode cX8_placeInList 12 = .ok (.iaload, 1) := by decide +kernel
theorem dX8_placeInList_13 : decode cX8_placeInList 13 = .ok (.if_icmp .ge 28, 3) := by decide +kernel
theorem dX8_placeInList_16 : decode cX8_placeInList 16 = .ok (.aload_n 0, 1) := by decide +kernel
theorem dX8_placeInList_17 : decode cX8_placeInList 17 = .ok (.getfield 19, 3) := by decide +kernel
theorem dX8_placeInList_20 : decode cX8_placeInList 20 = .ok (.bipush 11, 2) := by decide +kernel
theorem dX8_placeInList_22 : decode cX8_placeInList 22 = .ok (.iload_n 3, 1) := by decide +kernel
theorem dX8_placeInList_23 : decode cX8_placeInList 23 = .ok (.iadd, 1) := by decide +kernel
theorem dX8_placeInList_24 : decode cX8_placeInList 24 = .ok (.iaload, 1) := by decide +kernel
theorem dX8_placeInList_25 : decode cX8_placeInList 25 = .ok (.iload_n 1, 1) := by decide +kernel
theorem dX8_placeInList_26 : decode cX8_placeInList 26 = .ok (.if_icmp .ne 7, 3) := by decide +kernel
theorem dX8_placeInList_29 : decode cX8_placeInList 29 = .ok (.iload_n 3, 1) := by decide +kernel
theorem dX8_placeInList_30 : decode cX8_placeInList 30 = .ok (.goto 4, 3) := by decide +kernel
theorem dX8_placeInList_33 : decode cX8_placeInList 33 = .ok (.iload_n 2, 1) := by decide +kernel
theorem dX8_placeInList_34 : decode cX8_placeInList 34 = .ok (.istore_n 2, 1) := by decide +kernel
theorem dX8_placeInList_35 : decode cX8_placeInList 35 = .ok (.iinc 3 1, 3) := by decide +kernel
theorem dX8_placeInList_38 : decode cX8_placeInList 38 = .ok (.goto (-33), 3) := by decide +kernel
theorem dX8_placeInList_41 : decode cX8_placeInList 41 = .ok (.iload_n 2, 1) := by decide +kernel
theorem dX8_placeInList_42 : decode cX8_placeInList 42 = .ok (.ireturn, 1) := by decide +kernel
theorem dX8_machine_0 : decode cX8_machine 0 = .ok (.aload_n 0, 1) := by decide +kernel
theorem dX8_machine_1 : decode cX8_machine 1 = .ok (.iload_n 1, 1) := by decide +kernel
theorem dX8_machine_2 : decode cX8_machine 2 = .ok (.invokevirtual 178, 3) := by decide +kernel
theorem dX8_machine_5 : decode cX8_machine 5 = .ok (.ifCond .eq 13, 3) := by decide +kernel
theorem dX8_machine_8 : decode cX8_machine 8 = .ok (.iload_n 2, 1) := by decide +kernel
theorem dX8_machine_9 : decode cX8_machine 9 = .ok (.iconst 0, 1) := by decide +kernel
theorem dX8_machine_10 : decode cX8_machine 10 = .ok (.bipush 12, 2) := by decide +kernel
theorem dX8_machine_12 : decode cX8_machine 12 = .ok (.invokestatic 61, 3) := by decide +kernel
theorem dX8_machine_15 : decode cX8_machine 15 = .ok (.ifCond .ne 5, 3) := by decide +kernel
theorem dX8_machine_18 : decode cX8_machine 18 = .ok (.iconst (-1), 1) := by decide +kernel
theorem dX8_machine_19 : decode cX8_machine 19 = .ok (.ireturn, 1) := by decide +kernel
theorem dX8_machine_20 : decode cX8_machine 20 = .ok (.iload_n 2, 1) := by decide +kernel
theorem dX8_machine_21 : decode cX8_machine 21 = .ok (.bipush 6, 2) := by decide +kernel
theorem dX8_machine_23 : decode cX8_machine 23 = .ok (.if_icmp .ge 15, 3) := by decide +kernel
theorem dX8_machine_26 : decode cX8_machine 26 = .ok (.aload_n 0, 1) := by decide +kernel
theorem dX8_machine_27 : decode cX8_machine 27 = .ok (.getfield 16, 3) := by decide +kernel
theorem dX8_machine_30 : decode cX8_machine 30 = .ok (.bipush 6, 2) := by decide +kernel
theorem dX8_machine_32 : decode cX8_machine 32 = .ok (.iload_n 1, 1) := by decide +kernel
theorem dX8_machine_33 : decode cX8_machine 33 = .ok (.imul, 1) := by decide +kernel
theorem dX8_machine_34 : decode cX8_machine 34 = .ok (.iload_n 2, 1) := by decide +kernel
theorem dX8_machine_35 : decode cX8_machine 35 = .ok (.iadd, 1) := by decide +kernel
theorem dX8_machine_36 : decode cX8_machine 36 = .ok (.iaload, 1) := by decide +kernel
theorem dX8_machine_37 : decode cX8_machine 37 = .ok (.ireturn, 1) := by decide +kernel
theorem dX8_machine_38 : decode cX8_machine 38 = .ok (.iload_n 2, 1) := by decide +kernel
theorem dX8_machine_39 : decode cX8_machine 39 = .ok (.bipush 10, 2) := by decide +kernel
theorem dX8_machine_41 : decode cX8_machine 41 = .ok (.if_icmp .ge 13, 3) := by decide +kernel
theorem dX8_machine_44 : decode cX8_machine 44 = .ok (.aload_n 0, 1) := by decide +kernel
theorem dX8_machine_45 : decode cX8_machine 45 = .ok (.iload_n 1, 1) := by decide +kernel
theorem dX8_machine_46 : decode cX8_machine 46 = .ok (.iload_n 2, 1) := by decide +kernel
theorem dX8_machine_47 : decode cX8_machine 47 = .ok (.bipush 6, 2) := by decide +kernel
theorem dX8_machine_49 : decode cX8_machine 49 = .ok (.isub, 1) := by decide +kernel
theorem dX8_machine_50 : decode cX8_machine 50 = .ok (.invokevirtual 122, 3) := by decide +kernel
theorem dX8_machine_53 : decode cX8_machine 53 = .ok (.ireturn, 1) := by decide +kernel
theorem dX8_machine_54 : decode cX8_machine 54 = .ok (.iload_n 2, 1) := by decide +kernel
theorem dX8_machine_55 : decode cX8_machine 55 = .ok (.bipush 10, 2) := by decide +kernel
theorem dX8_machine_57 : decode cX8_machine 57 = .ok (.if_icmp .ne 25, 3) := by decide +kernel
theorem dX8_machine_60 : decode cX8_machine 60 = .ok (.aload_n 0, 1) := by decide +kernel
theorem dX8_machine_61 : decode cX8_machine 61 = .ok (.iload_n 1, 1) := by decide +kernel
theorem dX8_machine_62 : decode cX8_machine 62 = .ok (.aload_n 0, 1) := by decide +kernel
theorem dX8_machine_63 : decode cX8_machine 63 = .ok (.getfield 19, 3) := by decide +kernel
theorem dX8_machine_66 : decode cX8_machine 66 = .ok (.iconst 4, 1) := by decide +kernel
theorem dX8_machine_67 : decode cX8_machine 67 = .ok (.iaload, 1) := by decide +kernel
theorem dX8_machine_68 : decode cX8_machine 68 = .ok (.iconst 1, 1) := by decide +kernel
theorem dX8_machine_69 : decode cX8_machine 69 = .ok (.iadd, 1) := by decide +kernel
theorem dX8_machine_70 : decode cX8_machine 70 = .ok (.invokevirtual 153, 3) := by decide +kernel
theorem dX8_machine_73 : decode cX8_machine 73 = .ok (.ifCond .eq 7, 3) := by decide +kernel
theorem dX8_machine_76 : decode cX8_machine 76 = .ok (.iconst 1, 1) := by decide +kernel
theorem dX8_machine_77 : decode cX8_machine 77 = .ok (.goto 4, 3) := by decide +kernel
theorem dX8_machine_80 : decode cX8_machine 80 = .ok (.iconst 0, 1) := by decide +kernel
theorem dX8_machine_81 : decode cX8_machine 81 = .ok (.ireturn, 1) := by decide +kernel
theorem dX8_machine_82 : decode cX8_machine 82 = .ok (.iload_n 2, 1) := by decide +kernel
theorem dX8_machine_83 : decode cX8_machine 83 = .ok (.bipush 11, 2) := by decide +kernel
theorem dX8_machine_85 : decode cX8_machine 85 = .ok (.if_icmp .ne 15, 3) := by decide +kernel
theorem dX8_machine_88 : decode cX8_machine 88 = .ok (.aload_n 0, 1) := by decide +kernel
theorem dX8_machine_89 : decode cX8_machine 89 = .ok (.invokevirtual 147, 3) := by decide +kernel
theorem dX8_machine_92 : decode cX8_machine 92 = .ok (.pop, 1) := by decide +kernel
theorem dX8_machine_93 : decode cX8_machine 93 = .ok (.aload_n 0, 1) := by decide +kernel
theorem dX8_machine_94 : decode cX8_machine 94 = .ok (.getfield 34, 3) := by decide +kernel
theorem dX8_machine_97 : decode cX8_machine 97 = .ok (.iload_n 1, 1) := by decide +kernel
theorem dX8_machine_98 : decode cX8_machine 98 = .ok (.iaload, 1) := by decide +kernel
theorem dX8_machine_99 : decode cX8_machine 99 = .ok (.ireturn, 1) := by decide +kernel
theorem dX8_machine_100 : decode cX8_machine 100 = .ok (.aload_n 0, 1) := by decide +kernel
theorem dX8_machine_101 : decode cX8_machine 101 = .ok (.iload_n 1, 1) := by decide +kernel
theorem dX8_machine_102 : decode cX8_machine 102 = .ok (.invokevirtual 184, 3) := by decide +kernel
theorem dX8_machine_105 : decode cX8_machine 105 = .ok (.ireturn, 1) := by decide +kernel
theorem dX8_power_0 : decode cX8_power 0 = .ok (.aload_n 0, 1) := by decide +kernel
theorem dX8_power_1 : decode cX8_power 1 = .ok (.iload_n 1, 1) := by decide +kernel
theorem dX8_power_2 : decode cX8_power 2 = .ok (.invokevirtual 178, 3) := by decide +kernel
theorem dX8_power_5 : decode cX8_power 5 = .ok (.ifCond .eq 33, 3) := by decide +kernel
theorem dX8_power_8 : decode cX8_power 8 = .ok (.iload_n 2, 1) := by decide +kernel
theorem dX8_power_9 : decode cX8_power 9 = .ok (.iconst 0, 1) := by decide +kernel
theorem dX8_power_10 : decode cX8_power 10 = .ok (.bipush 99, 2) := by decide +kernel
theorem dX8_power_12 : decode cX8_power 12 = .ok (.invokestatic 61, 3) := by decide +kernel
theorem dX8_power_15 : decode cX8_power 15 = .ok (.ifCond .eq 23, 3) := by decide +kernel
theorem dX8_power_18 : decode cX8_power 18 = .ok (.iload_n 3, 1) := by decide +kernel
theorem dX8_power_19 : decode cX8_power 19 = .ok (.iconst 0, 1) := by decide +kernel
theorem dX8_power_20 : decode cX8_power 20 = .ok (.bipush 45, 2) := by decide +kernel
theorem dX8_power_22 : decode cX8_power 22 = .ok (.invokestatic 61, 3) := by decide +kernel
theorem dX8_power_25 : decode cX8_power 25 = .ok (.ifCond .eq 13, 3) := by decide +kernel
theorem dX8_power_28 : decode cX8_power 28 = .ok (.aload_n 0, 1) := by decide +kernel
theorem dX8_power_29 : decode cX8_power 29 = .ok (.iload_n 1, 1) := by decide +kernel
theorem dX8_power_30 : decode cX8_power 30 = .ok (.iload_n 2, 1) := by decide +kernel
theorem dX8_power_31 : decode cX8_power 31 = .ok (.iload_n 3, 1) := by decide +kernel
theorem dX8_power_32 : decode cX8_power 32 = .ok (.invokevirtual 102, 3) := by decide +kernel
theorem dX8_power_35 : decode cX8_power 35 = .ok (.goto 4, 3) := by decide +kernel
theorem dX8_power_38 : decode cX8_power 38 = .ok (.iconst (-1), 1) := by decide +kernel
theorem dX8_power_39 : decode cX8_power 39 = .ok (.ireturn, 1) := by decide +kernel
theorem dX8_share_0 : decode cX8_share 0 = .ok (.iload_n 1, 1) := by decide +kernel
theorem dX8_share_1 : decode cX8_share 1 = .ok (.iconst 0, 1) := by decide +kernel
theorem dX8_share_2 : decode cX8_share 2 = .ok (.iconst 1, 1) := by decide +kernel
theorem dX8_share_3 : decode cX8_share 3 = .ok (.aload_n 0, 1) := by decide +kernel
theorem dX8_share_4 : decode cX8_share 4 = .ok (.getfield 16, 3) := by decide +kernel
theorem dX8_share_7 : decode cX8_share 7 = .ok (.bipush 36, 2) := by decide +kernel
theorem dX8_share_9 : decode cX8_share 9 = .ok (.iaload, 1) := by decide +kernel
theorem dX8_share_10 : decode cX8_share 10 = .ok (.ishl, 1) := by decide +kernel
theorem dX8_share_11 : decode cX8_share 11 = .ok (.iconst 1, 1) := by decide +kernel
theorem dX8_share_12 : decode cX8_share 12 = .ok (.isub, 1) := by decide +kernel
theorem dX8_share_13 : decode cX8_share 13 = .ok (.invokestatic 61, 3) := by decide +kernel
theorem dX8_share_16 : decode cX8_share 16 = .ok (.ifCond .eq 27, 3) := by decide +kernel
theorem dX8_share_19 : decode cX8_share 19 = .ok (.iload_n 2, 1) := by decide +kernel
theorem dX8_share_20 : decode cX8_share 20 = .ok (.iconst 0, 1) := by decide +kernel
theorem dX8_share_21 : decode cX8_share 21 = .ok (.sipush 480, 3) := by decide +kernel
theorem dX8_share_24 : decode cX8_share 24 = .ok (.invokestatic 61, 3) := by decide +kernel
theorem dX8_share_27 : decode cX8_share 27 = .ok (.ifCond .eq 16, 3) := by decide +kernel
theorem dX8_share_30 : decode cX8_share 30 = .ok (.iload_n 3, 1) := by decide +kernel
theorem dX8_share_31 : decode cX8_share 31 = .ok (.iconst (-1), 1) := by decide +kernel
theorem dX8_share_32 : decode cX8_share 32 = .ok (.if_icmp .eq 13, 3) := by decide +kernel
theorem dX8_share_35 : decode cX8_share 35 = .ok (.aload_n 0, 1) := by decide +kernel
theorem dX8_share_36 : decode cX8_share 36 = .ok (.iload_n 3, 1) := by decide +kernel
theorem dX8_share_37 : decode cX8_share 37 = .ok (.invokevirtual 178, 3) := by decide +kernel
theorem dX8_share_40 : decode cX8_share 40 = .ok (.ifCond .ne 5, 3) := by decide +kernel
theorem dX8_share_43 : decode cX8_share 43 = .ok (.iconst (-1), 1) := by decide +kernel
theorem dX8_share_44 : decode cX8_share 44 = .ok (.ireturn, 1) := by decide +kernel
theorem dX8_share_45 : decode cX8_share 45 = .ok (.aload_n 0, 1) := by decide +kernel
theorem dX8_share_46 : decode cX8_share 46 = .ok (.iload_n 1, 1) := by decide +kernel
theorem dX8_share_47 : decode cX8_share 47 = .ok (.iload_n 2, 1) := by decide +kernel
theorem dX8_share_48 : decode cX8_share 48 = .ok (.invokevirtual 134, 3) := by decide +kernel
theorem dX8_share_51 : decode cX8_share 51 = .ok (.ifCond .ne 6, 3) := by decide +kernel
theorem dX8_share_54 : decode cX8_share 54 = .ok (.bipush (-4), 2) := by decide +kernel
theorem dX8_share_56 : decode cX8_share 56 = .ok (.ireturn, 1) := by decide +kernel
theorem dX8_share_57 : decode cX8_share 57 = .ok (.aload_n 0, 1) := by decide +kernel
theorem dX8_share_58 : decode cX8_share 58 = .ok (.invokevirtual 125, 3) := by decide +kernel
theorem dX8_share_61 : decode cX8_share 61 = .ok (.iload_n 3, 1) := by decide +kernel
theorem dX8_share_62 : decode cX8_share 62 = .ok (.iconst (-1), 1) := by decide +kernel
theorem dX8_share_63 : decode cX8_share 63 = .ok (.if_icmp .ne 10, 3) := by decide +kernel
theorem dX8_share_66 : decode cX8_share 66 = .ok (.aload_n 0, 1) := by decide +kernel
theorem dX8_share_67 : decode cX8_share 67 = .ok (.iload_n 1, 1) := by decide +kernel
theorem dX8_share_68 : decode cX8_share 68 = .ok (.iload_n 2, 1) := by decide +kernel
theorem dX8_share_69 : decode cX8_share 69 = .ok (.invokevirtual 119, 3) := by decide +kernel
theorem dX8_share_72 : decode cX8_share 72 = .ok (.ireturn, 1) := by decide +kernel
theorem dX8_share_73 : decode cX8_share 73 = .ok (.aload_n 0, 1) := by decide +kernel
theorem dX8_share_74 : decode cX8_share 74 = .ok (.iload_n 1, 1) := by decide +kernel
theorem dX8_share_75 : decode cX8_share 75 = .ok (.iload_n 2, 1) := by decide +kernel
theorem dX8_share_76 : decode cX8_share 76 = .ok (.invokevirtual 143, 3) := by decide +kernel
theorem dX8_share_79 : decode cX8_share 79 = .ok (.aload_n 0, 1) := by decide +kernel
theorem dX8_share_80 : decode cX8_share 80 = .ok (.getfield 34, 3) := by decide +kernel
theorem dX8_share_83 : decode cX8_share 83 = .ok (.iload_n 3, 1) := by decide +kernel
theorem dX8_share_84 : decode cX8_share 84 = .ok (.iaload, 1) := by decide +kernel
theorem dX8_share_85 : decode cX8_share 85 = .ok (.ireturn, 1) := by decide +kernel
theorem dX8_best_0 : decode cX8_best 0 = .ok (.iload_n 1, 1) := by decide +kernel
theorem dX8_best_1 : decode cX8_best 1 = .ok (.iconst 0, 1) := by decide +kernel
theorem dX8_best_2 : decode cX8_best 2 = .ok (.sipush 480, 3) := by decide +kernel
theorem dX8_best_5 : decode cX8_best 5 = .ok (.invokestatic 61, 3) := by decide +kernel
theorem dX8_best_8 : decode cX8_best 8 = .ok (.ifCond .eq 12, 3) := by decide +kernel
theorem dX8_best_11 : decode cX8_best 11 = .ok (.iload_n 2, 1) := by decide +kernel
theorem dX8_best_12 : decode cX8_best 12 = .ok (.iconst 0, 1) := by decide +kernel
theorem dX8_best_13 : decode cX8_best 13 = .ok (.iconst 1, 1) := by decide +kernel
theorem dX8_best_14 : decode cX8_best 14 = .ok (.invokestatic 61, 3) := by decide +kernel
theorem dX8_best_17 : decode cX8_best 17 = .ok (.ifCond .ne 5, 3) := by decide +kernel
theorem dX8_best_20 : decode cX8_best 20 = .ok (.iconst (-1), 1) := by decide +kernel
theorem dX8_best_21 : decode cX8_best 21 = .ok (.ireturn, 1) := by decide +kernel
theorem dX8_best_22 : decode cX8_best 22 = .ok (.aload_n 0, 1) := by decide +kernel
theorem dX8_best_23 : decode cX8_best 23 = .ok (.iload_n 1, 1) := by decide +kernel
theorem dX8_best_24 : decode cX8_best 24 = .ok (.invokevirtual 187, 3) := by decide +kernel
theorem dX8_best_27 : decode cX8_best 27 = .ok (.istore_n 3, 1) := by decide +kernel
theorem dX8_best_28 : decode cX8_best 28 = .ok (.iload_n 3, 1) := by decide +kernel
theorem dX8_best_29 : decode cX8_best 29 = .ok (.bipush (-4), 2) := by decide +kernel
theorem dX8_best_31 : decode cX8_best 31 = .ok (.if_icmp .ne 8, 3) := by decide +kernel
theorem dX8_best_34 : decode cX8_best 34 = .ok (.bipush (-4), 2) := by decide +kernel
theorem dX8_best_36 : decode cX8_best 36 = .ok (.goto 15, 3) := by decide +kernel
theorem dX8_best_39 : decode cX8_best 39 = .ok (.iload_n 2, 1) := by decide +kernel
theorem dX8_best_40 : decode cX8_best 40 = .ok (.ifCond .ne 7, 3) := by decide +kernel
theorem dX8_best_43 : decode cX8_best 43 = .ok (.iload_n 3, 1) := by decide +kernel
theorem dX8_best_44 : decode cX8_best 44 = .ok (.goto 7, 3) := by decide +kernel
theorem dX8_best_47 : decode cX8_best 47 = .ok (.aload_n 0, 1) := by decide +kernel
theorem dX8_best_48 : decode cX8_best 48 = .ok (.getfield 131, 3) := by decide +kernel
theorem dX8_best_51 : decode cX8_best 51 = .ok (.ireturn, 1) := by decide +kernel
theorem dX8_more_0 : decode cX8_more 0 = .ok (.aload_n 0, 1) := by decide +kernel
theorem dX8_more_1 : decode cX8_more 1 = .ok (.invokevirtual 147, 3) := by decide +kernel
theorem dX8_more_4 : decode cX8_more 4 = .ok (.istore_n 1, 1) := by decide +kernel
theorem dX8_more_5 : decode cX8_more 5 = .ok (.iload_n 1, 1) := by decide +kernel
theorem dX8_more_6 : decode cX8_more 6 = .ok (.aload_n 0, 1) := by decide +kernel
theorem dX8_more_7 : decode cX8_more 7 = .ok (.getfield 19, 3) := by decide +kernel
theorem dX8_more_10 : decode cX8_more 10 = .ok (.iconst 0, 1) := by decide +kernel
theorem dX8_more_11 : decode cX8_more 11 = .ok (.iaload, 1) := by decide +kernel
theorem dX8_more_12 : decode cX8_more 12 = .ok (.if_icmp .eq 6, 3) := by decide +kernel
theorem dX8_more_15 : decode cX8_more 15 = .ok (.bipush (-4), 2) := by decide +kernel
theorem dX8_more_17 : decode cX8_more 17 = .ok (.ireturn, 1) := by decide +kernel
theorem dX8_more_18 : decode cX8_more 18 = .ok (.aload_n 0, 1) := by decide +kernel
theorem dX8_more_19 : decode cX8_more 19 = .ok (.invokevirtual 156, 3) := by decide +kernel
theorem dX8_more_22 : decode cX8_more 22 = .ok (.istore_n 2, 1) := by decide +kernel
theorem dX8_more_23 : decode cX8_more 23 = .ok (.aload_n 0, 1) := by decide +kernel
theorem dX8_more_24 : decode cX8_more 24 = .ok (.aload_n 0, 1) := by decide +kernel
theorem dX8_more_25 : decode cX8_more 25 = .ok (.getfield 19, 3) := by decide +kernel
theorem dX8_more_28 : decode cX8_more 28 = .ok (.iconst 0, 1) := by decide +kernel
theorem dX8_more_29 : decode cX8_more 29 = .ok (.iaload, 1) := by decide +kernel
theorem dX8_more_30 : decode cX8_more 30 = .ok (.invokevirtual 187, 3) := by decide +kernel
theorem dX8_more_33 : decode cX8_more 33 = .ok (.bipush (-4), 2) := by decide +kernel
theorem dX8_more_35 : decode cX8_more 35 = .ok (.if_icmp .ne 8, 3) := by decide +kernel
theorem dX8_more_38 : decode cX8_more 38 = .ok (.bipush (-4), 2) := by decide +kernel
theorem dX8_more_40 : decode cX8_more 40 = .ok (.goto 9, 3) := by decide +kernel
theorem dX8_more_43 : decode cX8_more 43 = .ok (.iload_n 2, 1) := by decide +kernel
theorem dX8_more_44 : decode cX8_more 44 = .ok (.aload_n 0, 1) := by decide +kernel
theorem dX8_more_45 : decode cX8_more 45 = .ok (.getfield 131, 3) := by decide +kernel
theorem dX8_more_48 : decode cX8_more 48 = .ok (.isub, 1) := by decide +kernel
theorem dX8_more_49 : decode cX8_more 49 = .ok (.ireturn, 1) := by decide +kernel
theorem dX8_now_0 : decode cX8_now 0 = .ok (.iload_n 1, 1) := by decide +kernel
theorem dX8_now_1 : decode cX8_now 1 = .ok (.iconst 0, 1) := by decide +kernel
theorem dX8_now_2 : decode cX8_now 2 = .ok (.bipush 6, 2) := by decide +kernel
theorem dX8_now_4 : decode cX8_now 4 = .ok (.invokestatic 61, 3) := by decide +kernel
theorem dX8_now_7 : decode cX8_now 7 = .ok (.ifCond .ne 5, 3) := by decide +kernel
theorem dX8_now_10 : decode cX8_now 10 = .ok (.iconst (-1), 1) := by decide +kernel
theorem dX8_now_11 : decode cX8_now 11 = .ok (.ireturn, 1) := by decide +kernel
theorem dX8_now_12 : decode cX8_now 12 = .ok (.aload_n 0, 1) := by decide +kernel
theorem dX8_now_13 : decode cX8_now 13 = .ok (.getfield 19, 3) := by decide +kernel
theorem dX8_now_16 : decode cX8_now 16 = .ok (.iconst 0, 1) := by decide +kernel
theorem dX8_now_17 : decode cX8_now 17 = .ok (.iaload, 1) := by decide +kernel
theorem dX8_now_18 : decode cX8_now 18 = .ok (.aload_n 0, 1) := by decide +kernel
theorem dX8_now_19 : decode cX8_now 19 = .ok (.invokevirtual 147, 3) := by decide +kernel
theorem dX8_now_22 : decode cX8_now 22 = .ok (.isub, 1) := by decide +kernel
theorem dX8_now_23 : decode cX8_now 23 = .ok (.istore_n 2, 1) := by decide +kernel
theorem dX8_now_24 : decode cX8_now 24 = .ok (.aload_n 0, 1) := by decide +kernel
theorem dX8_now_25 : decode cX8_now 25 = .ok (.aload_n 0, 1) := by decide +kernel
theorem dX8_now_26 : decode cX8_now 26 = .ok (.iconst 1, 1) := by decide +kernel
theorem dX8_now_27 : decode cX8_now 27 = .ok (.invokevirtual 140, 3) := by decide +kernel
theorem dX8_now_30 : decode cX8_now 30 = .ok (.iconst 5, 1) := by decide +kernel
theorem dX8_now_31 : decode cX8_now 31 = .ok (.invokevirtual 90, 3) := by decide +kernel
theorem dX8_now_34 : decode cX8_now 34 = .ok (.aload_n 0, 1) := by decide +kernel
theorem dX8_now_35 : decode cX8_now 35 = .ok (.getfield 19, 3) := by decide +kernel
theorem dX8_now_38 : decode cX8_now 38 = .ok (.iconst 1, 1) := by decide +kernel
theorem dX8_now_39 : decode cX8_now 39 = .ok (.iaload, 1) := by decide +kernel
theorem dX8_now_40 : decode cX8_now 40 = .ok (.isub, 1) := by decide +kernel
theorem dX8_now_41 : decode cX8_now 41 = .ok (.istore_n 3, 1) := by decide +kernel
theorem dX8_now_42 : decode cX8_now 42 = .ok (.iload_n 1, 1) := by decide +kernel
theorem dX8_now_43 : decode cX8_now 43 = .ok (.tableswitch 83 0 5 #[37, 42, 52, 63, 68, 78], 37) := by decide +kernel
theorem dX8_now_80 : decode cX8_now 80 = .ok (.aload_n 0, 1) := by decide +kernel
theorem dX8_now_81 : decode cX8_now 81 = .ok (.invokevirtual 147, 3) := by decide +kernel
theorem dX8_now_84 : decode cX8_now 84 = .ok (.ireturn, 1) := by decide +kernel
theorem dX8_now_85 : decode cX8_now 85 = .ok (.iload_n 2, 1) := by decide +kernel
theorem dX8_now_86 : decode cX8_now 86 = .ok (.ifCond .le 7, 3) := by decide +kernel
theorem dX8_now_89 : decode cX8_now 89 = .ok (.iload_n 2, 1) := by decide +kernel
theorem dX8_now_90 : decode cX8_now 90 = .ok (.goto 4, 3) := by decide +kernel
theorem dX8_now_93 : decode cX8_now 93 = .ok (.iconst 0, 1) := by decide +kernel
theorem dX8_now_94 : decode cX8_now 94 = .ok (.ireturn, 1) := by decide +kernel
theorem dX8_now_95 : decode cX8_now 95 = .ok (.iload_n 2, 1) := by decide +kernel
theorem dX8_now_96 : decode cX8_now 96 = .ok (.ifCond .ge 8, 3) := by decide +kernel
theorem dX8_now_99 : decode cX8_now 99 = .ok (.iload_n 2, 1) := by decide +kernel
theorem dX8_now_100 : decode cX8_now 100 = .ok (.ineg, 1) := by decide +kernel
theorem dX8_now_101 : decode cX8_now 101 = .ok (.goto 4, 3) := by decide +kernel
theorem dX8_now_104 : decode cX8_now 104 = .ok (.iconst 0, 1) := by decide +kernel
theorem dX8_now_105 : decode cX8_now 105 = .ok (.ireturn, 1) := by decide +kernel
theorem dX8_now_106 : decode cX8_now 106 = .ok (.aload_n 0, 1) := by decide +kernel
theorem dX8_now_107 : decode cX8_now 107 = .ok (.invokevirtual 156, 3) := by decide +kernel
theorem dX8_now_110 : decode cX8_now 110 = .ok (.ireturn, 1) := by decide +kernel
theorem dX8_now_111 : decode cX8_now 111 = .ok (.iload_n 3, 1) := by decide +kernel
theorem dX8_now_112 : decode cX8_now 112 = .ok (.ifCond .le 7, 3) := by decide +kernel
theorem dX8_now_115 : decode cX8_now 115 = .ok (.iload_n 3, 1) := by decide +kernel
theorem dX8_now_116 : decode cX8_now 116 = .ok (.goto 4, 3) := by decide +kernel
theorem dX8_now_119 : decode cX8_now 119 = .ok (.iconst 0, 1) := by decide +kernel
theorem dX8_now_120 : decode cX8_now 120 = .ok (.ireturn, 1) := by decide +kernel
theorem dX8_now_121 : decode cX8_now 121 = .ok (.aload_n 0, 1) := by decide +kernel
theorem dX8_now_122 : decode cX8_now 122 = .ok (.invokevirtual 106, 3) := by decide +kernel
theorem dX8_now_125 : decode cX8_now 125 = .ok (.ireturn, 1) := by decide +kernel
theorem dX8_now_126 : decode cX8_now 126 = .ok (.aload_n 0, 1) := by decide +kernel
theorem dX8_now_127 : decode cX8_now 127 = .ok (.invokevirtual 190, 3) := by decide +kernel
theorem dX8_now_130 : decode cX8_now 130 = .ok (.ireturn, 1) := by decide +kernel
theorem dX8_ahead_0 : decode cX8_ahead 0 = .ok (.iload_n 1, 1) := by decide +kernel
theorem dX8_ahead_1 : decode cX8_ahead 1 = .ok (.iconst 1, 1) := by decide +kernel
theorem dX8_ahead_2 : decode cX8_ahead 2 = .ok (.bipush 60, 2) := by decide +kernel
theorem dX8_ahead_4 : decode cX8_ahead 4 = .ok (.invokestatic 61, 3) := by decide +kernel
theorem dX8_ahead_7 : decode cX8_ahead 7 = .ok (.ifCond .eq 12, 3) := by decide +kernel
theorem dX8_ahead_10 : decode cX8_ahead 10 = .ok (.iload_n 2, 1) := by decide +kernel
theorem dX8_ahead_11 : decode cX8_ahead 11 = .ok (.iconst 0, 1) := by decide +kernel
theorem dX8_ahead_12 : decode cX8_ahead 12 = .ok (.iconst 3, 1) := by decide +kernel
theorem dX8_ahead_13 : decode cX8_ahead 13 = .ok (.invokestatic 61, 3) := by decide +kernel
theorem dX8_ahead_16 : decode cX8_ahead 16 = .ok (.ifCond .ne 5, 3) := by decide +kernel
theorem dX8_ahead_19 : decode cX8_ahead 19 = .ok (.iconst (-1), 1) := by decide +kernel
theorem dX8_ahead_20 : decode cX8_ahead 20 = .ok (.ireturn, 1) := by decide +kernel
theorem dX8_ahead_21 : decode cX8_ahead 21 = .ok (.iconst 0, 1) := by decide +kernel
theorem dX8_ahead_22 : decode cX8_ahead 22 = .ok (.istore_n 3, 1) := by decide +kernel
theorem dX8_ahead_23 : decode cX8_ahead 23 = .ok (.iload_n 3, 1) := by decide +kernel
theorem dX8_ahead_24 : decode cX8_ahead 24 = .ok (.bipush 101, 2) := by decide +kernel
theorem dX8_ahead_26 : decode cX8_ahead 26 = .ok (.if_icmp .ge 21, 3) := by decide +kernel
theorem dX8_ahead_29 : decode cX8_ahead 29 = .ok (.aload_n 0, 1) := by decide +kernel
theorem dX8_ahead_30 : decode cX8_ahead 30 = .ok (.getfield 22, 3) := by decide +kernel
theorem dX8_ahead_33 : decode cX8_ahead 33 = .ok (.iload_n 3, 1) := by decide +kernel
theorem dX8_ahead_34 : decode cX8_ahead 34 = .ok (.aload_n 0, 1) := by decide +kernel
theorem dX8_ahead_35 : decode cX8_ahead 35 = .ok (.getfield 19, 3) := by decide +kernel
theorem dX8_ahead_38 : decode cX8_ahead 38 = .ok (.iload_n 3, 1) := by decide +kernel
theorem dX8_ahead_39 : decode cX8_ahead 39 = .ok (.iaload, 1) := by decide +kernel
theorem dX8_ahead_40 : decode cX8_ahead 40 = .ok (.iastore, 1) := by decide +kernel
theorem dX8_ahead_41 : decode cX8_ahead 41 = .ok (.iinc 3 1, 3) := by decide +kernel
theorem dX8_ahead_44 : decode cX8_ahead 44 = .ok (.goto (-21), 3) := by decide +kernel
theorem dX8_ahead_47 : decode cX8_ahead 47 = .ok (.iconst 0, 1) := by decide +kernel
theorem dX8_ahead_48 : decode cX8_ahead 48 = .ok (.istore_n 3, 1) := by decide +kernel
theorem dX8_ahead_49 : decode cX8_ahead 49 = .ok (.iconst 0, 1) := by decide +kernel
theorem dX8_ahead_50 : decode cX8_ahead 50 = .ok (.istore 4, 2) := by decide +kernel
theorem dX8_ahead_52 : decode cX8_ahead 52 = .ok (.iload 4, 2) := by decide +kernel
theorem dX8_ahead_54 : decode cX8_ahead 54 = .ok (.iload_n 1, 1) := by decide +kernel
theorem dX8_ahead_55 : decode cX8_ahead 55 = .ok (.if_icmp .ge 34, 3) := by decide +kernel
theorem dX8_ahead_58 : decode cX8_ahead 58 = .ok (.aload_n 0, 1) := by decide +kernel
theorem dX8_ahead_59 : decode cX8_ahead 59 = .ok (.invokevirtual 181, 3) := by decide +kernel
theorem dX8_ahead_62 : decode cX8_ahead 62 = .ok (.iload_n 3, 1) := by decide +kernel
theorem dX8_ahead_63 : decode cX8_ahead 63 = .ok (.aload_n 0, 1) := by decide +kernel
theorem dX8_ahead_64 : decode cX8_ahead 64 = .ok (.invokevirtual 147, 3) := by decide +kernel
theorem dX8_ahead_67 : decode cX8_ahead 67 = .ok (.aload_n 0, 1) := by decide +kernel
theorem dX8_ahead_68 : decode cX8_ahead 68 = .ok (.getfield 19, 3) := by decide +kernel
theorem dX8_ahead_71 : decode cX8_ahead 71 = .ok (.iconst 0, 1) := by decide +kernel
theorem dX8_ahead_72 : decode cX8_ahead 72 = .ok (.iaload, 1) := by decide +kernel
theorem dX8_ahead_73 : decode cX8_ahead 73 = .ok (.if_icmp .ge 7, 3) := by decide +kernel
theorem dX8_ahead_76 : decode cX8_ahead 76 = .ok (.iconst 1, 1) := by decide +kernel
theorem dX8_ahead_77 : decode cX8_ahead 77 = .ok (.goto 4, 3) := by decide +kernel
theorem dX8_ahead_80 : decode cX8_ahead 80 = .ok (.iconst 0, 1) := by decide +kernel
theorem dX8_ahead_81 : decode cX8_ahead 81 = .ok (.iadd, 1) := by decide +kernel
theorem dX8_ahead_82 : decode cX8_ahead 82 = .ok (.istore_n 3, 1) := by decide +kernel
theorem dX8_ahead_83 : decode cX8_ahead 83 = .ok (.iinc 4 1, 3) := by decide +kernel
theorem dX8_ahead_86 : decode cX8_ahead 86 = .ok (.goto (-34), 3) := by decide +kernel
theorem dX8_ahead_89 : decode cX8_ahead 89 = .ok (.aload_n 0, 1) := by decide +kernel
theorem dX8_ahead_90 : decode cX8_ahead 90 = .ok (.iconst 1, 1) := by decide +kernel
theorem dX8_ahead_91 : decode cX8_ahead 91 = .ok (.invokevirtual 140, 3) := by decide +kernel
theorem dX8_ahead_94 : decode cX8_ahead 94 = .ok (.invokestatic 137, 3) := by decide +kernel
theorem dX8_ahead_97 : decode cX8_ahead 97 = .ok (.istore 4, 2) := by decide +kernel
theorem dX8_ahead_99 : decode cX8_ahead 99 = .ok (.aload_n 0, 1) := by decide +kernel
theorem dX8_ahead_100 : decode cX8_ahead 100 = .ok (.getfield 19, 3) := by decide +kernel
theorem dX8_ahead_103 : decode cX8_ahead 103 = .ok (.bipush 7, 2) := by decide +kernel
theorem dX8_ahead_105 : decode cX8_ahead 105 = .ok (.iaload, 1) := by decide +kernel
theorem dX8_ahead_106 : decode cX8_ahead 106 = .ok (.aload_n 0, 1) := by decide +kernel
theorem dX8_ahead_107 : decode cX8_ahead 107 = .ok (.getfield 22, 3) := by decide +kernel
theorem dX8_ahead_110 : decode cX8_ahead 110 = .ok (.bipush 7, 2) := by decide +kernel
theorem dX8_ahead_112 : decode cX8_ahead 112 = .ok (.iaload, 1) := by decide +kernel
theorem dX8_ahead_113 : decode cX8_ahead 113 = .ok (.isub, 1) := by decide +kernel
theorem dX8_ahead_114 : decode cX8_ahead 114 = .ok (.istore 5, 2) := by decide +kernel
theorem dX8_ahead_116 : decode cX8_ahead 116 = .ok (.aload_n 0, 1) := by decide +kernel
theorem dX8_ahead_117 : decode cX8_ahead 117 = .ok (.getfield 19, 3) := by decide +kernel
theorem dX8_ahead_120 : decode cX8_ahead 120 = .ok (.bipush 8, 2) := by decide +kernel
theorem dX8_ahead_122 : decode cX8_ahead 122 = .ok (.iaload, 1) := by decide +kernel
theorem dX8_ahead_123 : decode cX8_ahead 123 = .ok (.aload_n 0, 1) := by decide +kernel
theorem dX8_ahead_124 : decode cX8_ahead 124 = .ok (.getfield 22, 3) := by decide +kernel
theorem dX8_ahead_127 : decode cX8_ahead 127 = .ok (.bipush 8, 2) := by decide +kernel
theorem dX8_ahead_129 : decode cX8_ahead 129 = .ok (.iaload, 1) := by decide +kernel
theorem dX8_ahead_130 : decode cX8_ahead 130 = .ok (.isub, 1) := by decide +kernel
theorem dX8_ahead_131 : decode cX8_ahead 131 = .ok (.istore 6, 2) := by decide +kernel
theorem dX8_ahead_133 : decode cX8_ahead 133 = .ok (.iconst 0, 1) := by decide +kernel
theorem dX8_ahead_134 : decode cX8_ahead 134 = .ok (.istore 7, 2) := by decide +kernel
theorem dX8_ahead_136 : decode cX8_ahead 136 = .ok (.iload 7, 2) := by decide +kernel
theorem dX8_ahead_138 : decode cX8_ahead 138 = .ok (.bipush 101, 2) := by decide +kernel
theorem dX8_ahead_140 : decode cX8_ahead 140 = .ok (.if_icmp .ge 23, 3) := by decide +kernel
theorem dX8_ahead_143 : decode cX8_ahead 143 = .ok (.aload_n 0, 1) := by decide +kernel
theorem dX8_ahead_144 : decode cX8_ahead 144 = .ok (.getfield 19, 3) := by decide +kernel
theorem dX8_ahead_147 : decode cX8_ahead 147 = .ok (.iload 7, 2) := by decide +kernel
theorem dX8_ahead_149 : decode cX8_ahead 149 = .ok (.aload_n 0, 1) := by decide +kernel
theorem dX8_ahead_150 : decode cX8_ahead 150 = .ok (.getfield 22, 3) := by decide +kernel
theorem dX8_ahead_153 : decode cX8_ahead 153 = .ok (.iload 7, 2) := by decide +kernel
theorem dX8_ahead_155 : decode cX8_ahead 155 = .ok (.iaload, 1) := by decide +kernel
theorem dX8_ahead_156 : decode cX8_ahead 156 = .ok (.iastore, 1) := by decide +kernel
theorem dX8_ahead_157 : decode cX8_ahead 157 = .ok (.iinc 7 1, 3) := by decide +kernel
theorem dX8_ahead_160 : decode cX8_ahead 160 = .ok (.goto (-24), 3) := by decide +kernel
theorem dX8_ahead_163 : decode cX8_ahead 163 = .ok (.iload_n 2, 1) := by decide +kernel
theorem dX8_ahead_164 : decode cX8_ahead 164 = .ok (.ifCond .ne 8, 3) := by decide +kernel
theorem dX8_ahead_167 : decode cX8_ahead 167 = .ok (.iload 4, 2) := by decide +kernel
theorem dX8_ahead_169 : decode cX8_ahead 169 = .ok (.goto 24, 3) := by decide +kernel
theorem dX8_ahead_172 : decode cX8_ahead 172 = .ok (.iload_n 2, 1) := by decide +kernel
theorem dX8_ahead_173 : decode cX8_ahead 173 = .ok (.iconst 1, 1) := by decide +kernel
theorem dX8_ahead_174 : decode cX8_ahead 174 = .ok (.if_icmp .ne 8, 3) := by decide +kernel
theorem dX8_ahead_177 : decode cX8_ahead 177 = .ok (.iload 5, 2) := by decide +kernel
theorem dX8_ahead_179 : decode cX8_ahead 179 = .ok (.goto 14, 3) := by decide +kernel
theorem dX8_ahead_182 : decode cX8_ahead 182 = .ok (.iload_n 2, 1) := by decide +kernel
theorem dX8_ahead_183 : decode cX8_ahead 183 = .ok (.iconst 2, 1) := by decide +kernel
theorem dX8_ahead_184 : decode cX8_ahead 184 = .ok (.if_icmp .ne 8, 3) := by decide +kernel
theorem dX8_ahead_187 : decode cX8_ahead 187 = .ok (.iload 6, 2) := by decide +kernel
theorem dX8_ahead_189 : decode cX8_ahead 189 = .ok (.goto 4, 3) := by decide +kernel
theorem dX8_ahead_192 : decode cX8_ahead 192 = .ok (.iload_n 3, 1) := by decide +kernel
theorem dX8_ahead_193 : decode cX8_ahead 193 = .ok (.ireturn, 1) := by decide +kernel
theorem dX8_count_0 : decode cX8_count 0 = .ok (.iload_n 1, 1) := by decide +kernel
theorem dX8_count_1 : decode cX8_count 1 = .ok (.tableswitch 152 0 15 #[79, 87, 96, 105, 113, 121, 121, 121, 121, 121, 132, 132, 132, 132, 142, 147], 79) := by decide +kernel
theorem dX8_count_80 : decode cX8_count 80 = .ok (.aload_n 0, 1) := by decide +kernel
theorem dX8_count_81 : decode cX8_count 81 = .ok (.getfield 16, 3) := by decide +kernel
theorem dX8_count_84 : decode cX8_count 84 = .ok (.bipush 36, 2) := by decide +kernel
theorem dX8_count_86 : decode cX8_count 86 = .ok (.iaload, 1) := by decide +kernel
theorem dX8_count_87 : decode cX8_count 87 = .ok (.ireturn, 1) := by decide +kernel
theorem dX8_count_88 : decode cX8_count 88 = .ok (.aload_n 0, 1) := by decide +kernel
theorem dX8_count_89 : decode cX8_count 89 = .ok (.iconst 1, 1) := by decide +kernel
theorem dX8_count_90 : decode cX8_count 90 = .ok (.invokevirtual 140, 3) := by decide +kernel
theorem dX8_count_93 : decode cX8_count 93 = .ok (.invokestatic 137, 3) := by decide +kernel
theorem dX8_count_96 : decode cX8_count 96 = .ok (.ireturn, 1) := by decide +kernel
theorem dX8_count_97 : decode cX8_count 97 = .ok (.aload_n 0, 1) := by decide +kernel
theorem dX8_count_98 : decode cX8_count 98 = .ok (.iconst 2, 1) := by decide +kernel
theorem dX8_count_99 : decode cX8_count 99 = .ok (.invokevirtual 140, 3) := by decide +kernel
theorem dX8_count_102 : decode cX8_count 102 = .ok (.invokestatic 137, 3) := by decide +kernel
theorem dX8_count_105 : decode cX8_count 105 = .ok (.ireturn, 1) := by decide +kernel
theorem dX8_count_106 : decode cX8_count 106 = .ok (.aload_n 0, 1) := by decide +kernel
theorem dX8_count_107 : decode cX8_count 107 = .ok (.invokevirtual 128, 3) := by decide +kernel
theorem dX8_count_110 : decode cX8_count 110 = .ok (.invokestatic 137, 3) := by decide +kernel
theorem dX8_count_113 : decode cX8_count 113 = .ok (.ireturn, 1) := by decide +kernel
theorem dX8_count_114 : decode cX8_count 114 = .ok (.aload_n 0, 1) := by decide +kernel
theorem dX8_count_115 : decode cX8_count 115 = .ok (.getfield 19, 3) := by decide +kernel
theorem dX8_count_118 : decode cX8_count 118 = .ok (.bipush 10, 2) := by decide +kernel
theorem dX8_count_120 : decode cX8_count 120 = .ok (.iaload, 1) := by decide +kernel
theorem dX8_count_121 : decode cX8_count 121 = .ok (.ireturn, 1) := by decide +kernel
theorem dX8_count_122 : decode cX8_count 122 = .ok (.aload_n 0, 1) := by decide +kernel
theorem dX8_count_123 : decode cX8_count 123 = .ok (.getfield 19, 3) := by decide +kernel
theorem dX8_count_126 : decode cX8_count 126 = .ok (.iconst 4, 1) := by decide +kernel
theorem dX8_count_127 : decode cX8_count 127 = .ok (.iload_n 1, 1) := by decide +kernel
theorem dX8_count_128 : decode cX8_count 128 = .ok (.iadd, 1) := by decide +kernel
theorem dX8_count_129 : decode cX8_count 129 = .ok (.iconst 5, 1) := by decide +kernel
theorem dX8_count_130 : decode cX8_count 130 = .ok (.isub, 1) := by decide +kernel
theorem dX8_count_131 : decode cX8_count 131 = .ok (.iaload, 1) := by decide +kernel
theorem dX8_count_132 : decode cX8_count 132 = .ok (.ireturn, 1) := by decide +kernel
theorem dX8_count_133 : decode cX8_count 133 = .ok (.aload_n 0, 1) := by decide +kernel
theorem dX8_count_134 : decode cX8_count 134 = .ok (.getfield 19, 3) := by decide +kernel
theorem dX8_count_137 : decode cX8_count 137 = .ok (.iload_n 1, 1) := by decide +kernel
theorem dX8_count_138 : decode cX8_count 138 = .ok (.bipush 10, 2) := by decide +kernel
theorem dX8_count_140 : decode cX8_count 140 = .ok (.isub, 1) := by decide +kernel
theorem dX8_count_141 : decode cX8_count 141 = .ok (.iaload, 1) := by decide +kernel
theorem dX8_count_142 : decode cX8_count 142 = .ok (.ireturn, 1) := by decide +kernel
theorem dX8_count_143 : decode cX8_count 143 = .ok (.aload_n 0, 1) := by decide +kernel
theorem dX8_count_144 : decode cX8_count 144 = .ok (.getfield 47, 3) := by decide +kernel
theorem dX8_count_147 : decode cX8_count 147 = .ok (.ireturn, 1) := by decide +kernel
theorem dX8_count_148 : decode cX8_count 148 = .ok (.aload_n 0, 1) := by decide +kernel
theorem dX8_count_149 : decode cX8_count 149 = .ok (.getfield 58, 3) := by decide +kernel
theorem dX8_count_152 : decode cX8_count 152 = .ok (.ireturn, 1) := by decide +kernel
theorem dX8_count_153 : decode cX8_count 153 = .ok (.iconst (-1), 1) := by decide +kernel
theorem dX8_count_154 : decode cX8_count 154 = .ok (.ireturn, 1) := by decide +kernel
theorem dL_law_0 : decode code 0 = .ok (.new 7, 3) := by decide +kernel
theorem dL_law_3 : decode code 3 = .ok (.dup, 1) := by decide +kernel
theorem dL_law_4 : decode code 4 = .ok (.invokespecial 9, 3) := by decide +kernel
theorem dL_law_7 : decode code 7 = .ok (.astore_n 1, 1) := by decide +kernel
theorem dL_law_8 : decode code 8 = .ok (.new 10, 3) := by decide +kernel
theorem dL_law_11 : decode code 11 = .ok (.dup, 1) := by decide +kernel
theorem dL_law_12 : decode code 12 = .ok (.invokespecial 12, 3) := by decide +kernel
theorem dL_law_15 : decode code 15 = .ok (.astore_n 2, 1) := by decide +kernel
theorem dL_law_16 : decode code 16 = .ok (.iconst 0, 1) := by decide +kernel
theorem dL_law_17 : decode code 17 = .ok (.istore_n 3, 1) := by decide +kernel
theorem dL_law_18 : decode code 18 = .ok (.iload_n 3, 1) := by decide +kernel
theorem dL_law_19 : decode code 19 = .ok (.aload_n 0, 1) := by decide +kernel
theorem dL_law_20 : decode code 20 = .ok (.arraylength, 1) := by decide +kernel
theorem dL_law_21 : decode code 21 = .ok (.iconst 4, 1) := by decide +kernel
theorem dL_law_22 : decode code 22 = .ok (.isub, 1) := by decide +kernel
theorem dL_law_23 : decode code 23 = .ok (.if_icmp .gt 503, 3) := by decide +kernel
theorem dL_law_26 : decode code 26 = .ok (.aload_n 0, 1) := by decide +kernel
theorem dL_law_27 : decode code 27 = .ok (.iload_n 3, 1) := by decide +kernel
theorem dL_law_28 : decode code 28 = .ok (.iaload, 1) := by decide +kernel
theorem dL_law_29 : decode code 29 = .ok (.bipush 15, 2) := by decide +kernel
theorem dL_law_31 : decode code 31 = .ok (.iand, 1) := by decide +kernel
theorem dL_law_32 : decode code 32 = .ok (.tableswitch 488 0 15 #[80, 103, 116, 129, 142, 175, 208, 221, 244, 257, 290, 333, 376, 409, 432, 465], 80) := by decide +kernel
theorem dL_law_112 : decode code 112 = .ok (.aload_n 1, 1) := by decide +kernel
theorem dL_law_113 : decode code 113 = .ok (.aload_n 0, 1) := by decide +kernel
theorem dL_law_114 : decode code 114 = .ok (.iload_n 3, 1) := by decide +kernel
theorem dL_law_115 : decode code 115 = .ok (.iconst 1, 1) := by decide +kernel
theorem dL_law_116 : decode code 116 = .ok (.iadd, 1) := by decide +kernel
theorem dL_law_117 : decode code 117 = .ok (.iaload, 1) := by decide +kernel
theorem dL_law_118 : decode code 118 = .ok (.invokevirtual 13, 3) := by decide +kernel
theorem dL_law_121 : decode code 121 = .ok (.aload_n 2, 1) := by decide +kernel
theorem dL_law_122 : decode code 122 = .ok (.aload_n 0, 1) := by decide +kernel
theorem dL_law_123 : decode code 123 = .ok (.iload_n 3, 1) := by decide +kernel
theorem dL_law_124 : decode code 124 = .ok (.iconst 1, 1) := by decide +kernel
theorem dL_law_125 : decode code 125 = .ok (.iadd, 1) := by decide +kernel
theorem dL_law_126 : decode code 126 = .ok (.iaload, 1) := by decide +kernel
theorem dL_law_127 : decode code 127 = .ok (.invokevirtual 17, 3) := by decide +kernel
theorem dL_law_130 : decode code 130 = .ok (.if_icmp .eq 390, 3) := by decide +kernel
theorem dL_law_133 : decode code 133 = .ok (.iconst 0, 1) := by decide +kernel
theorem dL_law_134 : decode code 134 = .ok (.ireturn, 1) := by decide +kernel
theorem dL_law_135 : decode code 135 = .ok (.aload_n 1, 1) := by decide +kernel
theorem dL_law_136 : decode code 136 = .ok (.invokevirtual 18, 3) := by decide +kernel
theorem dL_law_139 : decode code 139 = .ok (.aload_n 2, 1) := by decide +kernel
theorem dL_law_140 : decode code 140 = .ok (.invokevirtual 22, 3) := by decide +kernel
theorem dL_law_143 : decode code 143 = .ok (.if_icmp .eq 377, 3) := by decide +kernel
theorem dL_law_146 : decode code 146 = .ok (.iconst 0, 1) := by decide +kernel
theorem dL_law_147 : decode code 147 = .ok (.ireturn, 1) := by decide +kernel
theorem dL_law_148 : decode code 148 = .ok (.aload_n 1, 1) := by decide +kernel
theorem dL_law_149 : decode code 149 = .ok (.invokevirtual 23, 3) := by decide +kernel
theorem dL_law_152 : decode code 152 = .ok (.aload_n 2, 1) := by decide +kernel
theorem dL_law_153 : decode code 153 = .ok (.invokevirtual 26, 3) := by decide +kernel
theorem dL_law_156 : decode code 156 = .ok (.if_icmp .eq 364, 3) := by decide +kernel
theorem dL_law_159 : decode code 159 = .ok (.iconst 0, 1) := by decide +kernel
theorem dL_law_160 : decode code 160 = .ok (.ireturn, 1) := by decide +kernel
theorem dL_law_161 : decode code 161 = .ok (.aload_n 1, 1) := by decide +kernel
theorem dL_law_162 : decode code 162 = .ok (.invokevirtual 27, 3) := by decide +kernel
theorem dL_law_165 : decode code 165 = .ok (.aload_n 2, 1) := by decide +kernel
theorem dL_law_166 : decode code 166 = .ok (.invokevirtual 30, 3) := by decide +kernel
theorem dL_law_169 : decode code 169 = .ok (.if_icmp .eq 351, 3) := by decide +kernel
theorem dL_law_172 : decode code 172 = .ok (.iconst 0, 1) := by decide +kernel
theorem dL_law_173 : decode code 173 = .ok (.ireturn, 1) := by decide +kernel
theorem dL_law_174 : decode code 174 = .ok (.aload_n 1, 1) := by decide +kernel
theorem dL_law_175 : decode code 175 = .ok (.aload_n 0, 1) := by decide +kernel
theorem dL_law_176 : decode code 176 = .ok (.iload_n 3, 1) := by decide +kernel
theorem dL_law_177 : decode code 177 = .ok (.iconst 1, 1) := by decide +kernel
theorem dL_law_178 : decode code 178 = .ok (.iadd, 1) := by decide +kernel
theorem dL_law_179 : decode code 179 = .ok (.iaload, 1) := by decide +kernel
theorem dL_law_180 : decode code 180 = .ok (.aload_n 0, 1) := by decide +kernel
theorem dL_law_181 : decode code 181 = .ok (.iload_n 3, 1) := by decide +kernel
theorem dL_law_182 : decode code 182 = .ok (.iconst 2, 1) := by decide +kernel
theorem dL_law_183 : decode code 183 = .ok (.iadd, 1) := by decide +kernel
theorem dL_law_184 : decode code 184 = .ok (.iaload, 1) := by decide +kernel
theorem dL_law_185 : decode code 185 = .ok (.invokevirtual 31, 3) := by decide +kernel
theorem dL_law_188 : decode code 188 = .ok (.aload_n 2, 1) := by decide +kernel
theorem dL_law_189 : decode code 189 = .ok (.aload_n 0, 1) := by decide +kernel
theorem dL_law_190 : decode code 190 = .ok (.iload_n 3, 1) := by decide +kernel
theorem dL_law_191 : decode code 191 = .ok (.iconst 1, 1) := by decide +kernel
theorem dL_law_192 : decode code 192 = .ok (.iadd, 1) := by decide +kernel
theorem dL_law_193 : decode code 193 = .ok (.iaload, 1) := by decide +kernel
theorem dL_law_194 : decode code 194 = .ok (.aload_n 0, 1) := by decide +kernel
theorem dL_law_195 : decode code 195 = .ok (.iload_n 3, 1) := by decide +kernel
theorem dL_law_196 : decode code 196 = .ok (.iconst 2, 1) := by decide +kernel
theorem dL_law_197 : decode code 197 = .ok (.iadd, 1) := by decide +kernel
theorem dL_law_198 : decode code 198 = .ok (.iaload, 1) := by decide +kernel
theorem dL_law_199 : decode code 199 = .ok (.invokevirtual 35, 3) := by decide +kernel
theorem dL_law_202 : decode code 202 = .ok (.if_icmp .eq 318, 3) := by decide +kernel
theorem dL_law_205 : decode code 205 = .ok (.iconst 0, 1) := by decide +kernel
theorem dL_law_206 : decode code 206 = .ok (.ireturn, 1) := by decide +kernel
theorem dL_law_207 : decode code 207 = .ok (.aload_n 1, 1) := by decide +kernel
theorem dL_law_208 : decode code 208 = .ok (.aload_n 0, 1) := by decide +kernel
theorem dL_law_209 : decode code 209 = .ok (.iload_n 3, 1) := by decide +kernel
theorem dL_law_210 : decode code 210 = .ok (.iconst 1, 1) := by decide +kernel
theorem dL_law_211 : decode code 211 = .ok (.iadd, 1) := by decide +kernel
theorem dL_law_212 : decode code 212 = .ok (.iaload, 1) := by decide +kernel
theorem dL_law_213 : decode code 213 = .ok (.aload_n 0, 1) := by decide +kernel
theorem dL_law_214 : decode code 214 = .ok (.iload_n 3, 1) := by decide +kernel
theorem dL_law_215 : decode code 215 = .ok (.iconst 2, 1) := by decide +kernel
theorem dL_law_216 : decode code 216 = .ok (.iadd, 1) := by decide +kernel
theorem dL_law_217 : decode code 217 = .ok (.iaload, 1) := by decide +kernel
theorem dL_law_218 : decode code 218 = .ok (.invokevirtual 36, 3) := by decide +kernel
theorem dL_law_221 : decode code 221 = .ok (.aload_n 2, 1) := by decide +kernel
theorem dL_law_222 : decode code 222 = .ok (.aload_n 0, 1) := by decide +kernel
theorem dL_law_223 : decode code 223 = .ok (.iload_n 3, 1) := by decide +kernel
theorem dL_law_224 : decode code 224 = .ok (.iconst 1, 1) := by decide +kernel
theorem dL_law_225 : decode code 225 = .ok (.iadd, 1) := by decide +kernel
theorem dL_law_226 : decode code 226 = .ok (.iaload, 1) := by decide +kernel
theorem dL_law_227 : decode code 227 = .ok (.aload_n 0, 1) := by decide +kernel
theorem dL_law_228 : decode code 228 = .ok (.iload_n 3, 1) := by decide +kernel
theorem dL_law_229 : decode code 229 = .ok (.iconst 2, 1) := by decide +kernel
theorem dL_law_230 : decode code 230 = .ok (.iadd, 1) := by decide +kernel
theorem dL_law_231 : decode code 231 = .ok (.iaload, 1) := by decide +kernel
theorem dL_law_232 : decode code 232 = .ok (.invokevirtual 39, 3) := by decide +kernel
theorem dL_law_235 : decode code 235 = .ok (.if_icmp .eq 285, 3) := by decide +kernel
theorem dL_law_238 : decode code 238 = .ok (.iconst 0, 1) := by decide +kernel
theorem dL_law_239 : decode code 239 = .ok (.ireturn, 1) := by decide +kernel
theorem dL_law_240 : decode code 240 = .ok (.aload_n 1, 1) := by decide +kernel
theorem dL_law_241 : decode code 241 = .ok (.invokevirtual 40, 3) := by decide +kernel
theorem dL_law_244 : decode code 244 = .ok (.aload_n 2, 1) := by decide +kernel
theorem dL_law_245 : decode code 245 = .ok (.invokevirtual 43, 3) := by decide +kernel
theorem dL_law_248 : decode code 248 = .ok (.if_icmp .eq 272, 3) := by decide +kernel
theorem dL_law_251 : decode code 251 = .ok (.iconst 0, 1) := by decide +kernel
theorem dL_law_252 : decode code 252 = .ok (.ireturn, 1) := by decide +kernel
theorem dL_law_253 : decode code 253 = .ok (.aload_n 1, 1) := by decide +kernel
theorem dL_law_254 : decode code 254 = .ok (.aload_n 0, 1) := by decide +kernel
theorem dL_law_255 : decode code 255 = .ok (.iload_n 3, 1) := by decide +kernel
theorem dL_law_256 : decode code 256 = .ok (.iconst 1, 1) := by decide +kernel
theorem dL_law_257 : decode code 257 = .ok (.iadd, 1) := by decide +kernel
theorem dL_law_258 : decode code 258 = .ok (.iaload, 1) := by decide +kernel
theorem dL_law_259 : decode code 259 = .ok (.invokevirtual 44, 3) := by decide +kernel
theorem dL_law_262 : decode code 262 = .ok (.aload_n 2, 1) := by decide +kernel
theorem dL_law_263 : decode code 263 = .ok (.aload_n 0, 1) := by decide +kernel
theorem dL_law_264 : decode code 264 = .ok (.iload_n 3, 1) := by decide +kernel
theorem dL_law_265 : decode code 265 = .ok (.iconst 1, 1) := by decide +kernel
theorem dL_law_266 : decode code 266 = .ok (.iadd, 1) := by decide +kernel
theorem dL_law_267 : decode code 267 = .ok (.iaload, 1) := by decide +kernel
theorem dL_law_268 : decode code 268 = .ok (.invokevirtual 47, 3) := by decide +kernel
theorem dL_law_271 : decode code 271 = .ok (.if_icmp .eq 249, 3) := by decide +kernel
theorem dL_law_274 : decode code 274 = .ok (.iconst 0, 1) := by decide +kernel
theorem dL_law_275 : decode code 275 = .ok (.ireturn, 1) := by decide +kernel
theorem dL_law_276 : decode code 276 = .ok (.aload_n 1, 1) := by decide +kernel
theorem dL_law_277 : decode code 277 = .ok (.invokevirtual 48, 3) := by decide +kernel
theorem dL_law_280 : decode code 280 = .ok (.aload_n 2, 1) := by decide +kernel
theorem dL_law_281 : decode code 281 = .ok (.invokevirtual 51, 3) := by decide +kernel
theorem dL_law_284 : decode code 284 = .ok (.if_icmp .eq 236, 3) := by decide +kernel
theorem dL_law_287 : decode code 287 = .ok (.iconst 0, 1) := by decide +kernel
theorem dL_law_288 : decode code 288 = .ok (.ireturn, 1) := by decide +kernel
theorem dL_law_289 : decode code 289 = .ok (.aload_n 1, 1) := by decide +kernel
theorem dL_law_290 : decode code 290 = .ok (.aload_n 0, 1) := by decide +kernel
theorem dL_law_291 : decode code 291 = .ok (.iload_n 3, 1) := by decide +kernel
theorem dL_law_292 : decode code 292 = .ok (.iconst 1, 1) := by decide +kernel
theorem dL_law_293 : decode code 293 = .ok (.iadd, 1) := by decide +kernel
theorem dL_law_294 : decode code 294 = .ok (.iaload, 1) := by decide +kernel
theorem dL_law_295 : decode code 295 = .ok (.aload_n 0, 1) := by decide +kernel
theorem dL_law_296 : decode code 296 = .ok (.iload_n 3, 1) := by decide +kernel
theorem dL_law_297 : decode code 297 = .ok (.iconst 2, 1) := by decide +kernel
theorem dL_law_298 : decode code 298 = .ok (.iadd, 1) := by decide +kernel
theorem dL_law_299 : decode code 299 = .ok (.iaload, 1) := by decide +kernel
theorem dL_law_300 : decode code 300 = .ok (.invokevirtual 52, 3) := by decide +kernel
theorem dL_law_303 : decode code 303 = .ok (.aload_n 2, 1) := by decide +kernel
theorem dL_law_304 : decode code 304 = .ok (.aload_n 0, 1) := by decide +kernel
theorem dL_law_305 : decode code 305 = .ok (.iload_n 3, 1) := by decide +kernel
theorem dL_law_306 : decode code 306 = .ok (.iconst 1, 1) := by decide +kernel
theorem dL_law_307 : decode code 307 = .ok (.iadd, 1) := by decide +kernel
theorem dL_law_308 : decode code 308 = .ok (.iaload, 1) := by decide +kernel
theorem dL_law_309 : decode code 309 = .ok (.aload_n 0, 1) := by decide +kernel
theorem dL_law_310 : decode code 310 = .ok (.iload_n 3, 1) := by decide +kernel
theorem dL_law_311 : decode code 311 = .ok (.iconst 2, 1) := by decide +kernel
theorem dL_law_312 : decode code 312 = .ok (.iadd, 1) := by decide +kernel
theorem dL_law_313 : decode code 313 = .ok (.iaload, 1) := by decide +kernel
theorem dL_law_314 : decode code 314 = .ok (.invokevirtual 55, 3) := by decide +kernel
theorem dL_law_317 : decode code 317 = .ok (.if_icmp .eq 203, 3) := by decide +kernel
theorem dL_law_320 : decode code 320 = .ok (.iconst 0, 1) := by decide +kernel
theorem dL_law_321 : decode code 321 = .ok (.ireturn, 1) := by decide +kernel
theorem dL_law_322 : decode code 322 = .ok (.aload_n 1, 1) := by decide +kernel
theorem dL_law_323 : decode code 323 = .ok (.aload_n 0, 1) := by decide +kernel
theorem dL_law_324 : decode code 324 = .ok (.iload_n 3, 1) := by decide +kernel
theorem dL_law_325 : decode code 325 = .ok (.iconst 1, 1) := by decide +kernel
theorem dL_law_326 : decode code 326 = .ok (.iadd, 1) := by decide +kernel
theorem dL_law_327 : decode code 327 = .ok (.iaload, 1) := by decide +kernel
theorem dL_law_328 : decode code 328 = .ok (.aload_n 0, 1) := by decide +kernel
theorem dL_law_329 : decode code 329 = .ok (.iload_n 3, 1) := by decide +kernel
theorem dL_law_330 : decode code 330 = .ok (.iconst 2, 1) := by decide +kernel
theorem dL_law_331 : decode code 331 = .ok (.iadd, 1) := by decide +kernel
theorem dL_law_332 : decode code 332 = .ok (.iaload, 1) := by decide +kernel
theorem dL_law_333 : decode code 333 = .ok (.aload_n 0, 1) := by decide +kernel
theorem dL_law_334 : decode code 334 = .ok (.iload_n 3, 1) := by decide +kernel
theorem dL_law_335 : decode code 335 = .ok (.iconst 3, 1) := by decide +kernel
theorem dL_law_336 : decode code 336 = .ok (.iadd, 1) := by decide +kernel
theorem dL_law_337 : decode code 337 = .ok (.iaload, 1) := by decide +kernel
theorem dL_law_338 : decode code 338 = .ok (.invokevirtual 56, 3) := by decide +kernel
theorem dL_law_341 : decode code 341 = .ok (.aload_n 2, 1) := by decide +kernel
theorem dL_law_342 : decode code 342 = .ok (.aload_n 0, 1) := by decide +kernel
theorem dL_law_343 : decode code 343 = .ok (.iload_n 3, 1) := by decide +kernel
theorem dL_law_344 : decode code 344 = .ok (.iconst 1, 1) := by decide +kernel
theorem dL_law_345 : decode code 345 = .ok (.iadd, 1) := by decide +kernel
theorem dL_law_346 : decode code 346 = .ok (.iaload, 1) := by decide +kernel
theorem dL_law_347 : decode code 347 = .ok (.aload_n 0, 1) := by decide +kernel
theorem dL_law_348 : decode code 348 = .ok (.iload_n 3, 1) := by decide +kernel
theorem dL_law_349 : decode code 349 = .ok (.iconst 2, 1) := by decide +kernel
theorem dL_law_350 : decode code 350 = .ok (.iadd, 1) := by decide +kernel
theorem dL_law_351 : decode code 351 = .ok (.iaload, 1) := by decide +kernel
theorem dL_law_352 : decode code 352 = .ok (.aload_n 0, 1) := by decide +kernel
theorem dL_law_353 : decode code 353 = .ok (.iload_n 3, 1) := by decide +kernel
theorem dL_law_354 : decode code 354 = .ok (.iconst 3, 1) := by decide +kernel
theorem dL_law_355 : decode code 355 = .ok (.iadd, 1) := by decide +kernel
theorem dL_law_356 : decode code 356 = .ok (.iaload, 1) := by decide +kernel
theorem dL_law_357 : decode code 357 = .ok (.invokevirtual 60, 3) := by decide +kernel
theorem dL_law_360 : decode code 360 = .ok (.if_icmp .eq 160, 3) := by decide +kernel
theorem dL_law_363 : decode code 363 = .ok (.iconst 0, 1) := by decide +kernel
theorem dL_law_364 : decode code 364 = .ok (.ireturn, 1) := by decide +kernel
theorem dL_law_365 : decode code 365 = .ok (.aload_n 1, 1) := by decide +kernel
theorem dL_law_366 : decode code 366 = .ok (.aload_n 0, 1) := by decide +kernel
theorem dL_law_367 : decode code 367 = .ok (.iload_n 3, 1) := by decide +kernel
theorem dL_law_368 : decode code 368 = .ok (.iconst 1, 1) := by decide +kernel
theorem dL_law_369 : decode code 369 = .ok (.iadd, 1) := by decide +kernel
theorem dL_law_370 : decode code 370 = .ok (.iaload, 1) := by decide +kernel
theorem dL_law_371 : decode code 371 = .ok (.aload_n 0, 1) := by decide +kernel
theorem dL_law_372 : decode code 372 = .ok (.iload_n 3, 1) := by decide +kernel
theorem dL_law_373 : decode code 373 = .ok (.iconst 2, 1) := by decide +kernel
theorem dL_law_374 : decode code 374 = .ok (.iadd, 1) := by decide +kernel
theorem dL_law_375 : decode code 375 = .ok (.iaload, 1) := by decide +kernel
theorem dL_law_376 : decode code 376 = .ok (.aload_n 0, 1) := by decide +kernel
theorem dL_law_377 : decode code 377 = .ok (.iload_n 3, 1) := by decide +kernel
theorem dL_law_378 : decode code 378 = .ok (.iconst 3, 1) := by decide +kernel
theorem dL_law_379 : decode code 379 = .ok (.iadd, 1) := by decide +kernel
theorem dL_law_380 : decode code 380 = .ok (.iaload, 1) := by decide +kernel
theorem dL_law_381 : decode code 381 = .ok (.invokevirtual 61, 3) := by decide +kernel
theorem dL_law_384 : decode code 384 = .ok (.aload_n 2, 1) := by decide +kernel
theorem dL_law_385 : decode code 385 = .ok (.aload_n 0, 1) := by decide +kernel
theorem dL_law_386 : decode code 386 = .ok (.iload_n 3, 1) := by decide +kernel
theorem dL_law_387 : decode code 387 = .ok (.iconst 1, 1) := by decide +kernel
theorem dL_law_388 : decode code 388 = .ok (.iadd, 1) := by decide +kernel
theorem dL_law_389 : decode code 389 = .ok (.iaload, 1) := by decide +kernel
theorem dL_law_390 : decode code 390 = .ok (.aload_n 0, 1) := by decide +kernel
theorem dL_law_391 : decode code 391 = .ok (.iload_n 3, 1) := by decide +kernel
theorem dL_law_392 : decode code 392 = .ok (.iconst 2, 1) := by decide +kernel
theorem dL_law_393 : decode code 393 = .ok (.iadd, 1) := by decide +kernel
theorem dL_law_394 : decode code 394 = .ok (.iaload, 1) := by decide +kernel
theorem dL_law_395 : decode code 395 = .ok (.aload_n 0, 1) := by decide +kernel
theorem dL_law_396 : decode code 396 = .ok (.iload_n 3, 1) := by decide +kernel
theorem dL_law_397 : decode code 397 = .ok (.iconst 3, 1) := by decide +kernel
theorem dL_law_398 : decode code 398 = .ok (.iadd, 1) := by decide +kernel
theorem dL_law_399 : decode code 399 = .ok (.iaload, 1) := by decide +kernel
theorem dL_law_400 : decode code 400 = .ok (.invokevirtual 64, 3) := by decide +kernel
theorem dL_law_403 : decode code 403 = .ok (.if_icmp .eq 117, 3) := by decide +kernel
theorem dL_law_406 : decode code 406 = .ok (.iconst 0, 1) := by decide +kernel
theorem dL_law_407 : decode code 407 = .ok (.ireturn, 1) := by decide +kernel
theorem dL_law_408 : decode code 408 = .ok (.aload_n 1, 1) := by decide +kernel
theorem dL_law_409 : decode code 409 = .ok (.aload_n 0, 1) := by decide +kernel
theorem dL_law_410 : decode code 410 = .ok (.iload_n 3, 1) := by decide +kernel
theorem dL_law_411 : decode code 411 = .ok (.iconst 1, 1) := by decide +kernel
theorem dL_law_412 : decode code 412 = .ok (.iadd, 1) := by decide +kernel
theorem dL_law_413 : decode code 413 = .ok (.iaload, 1) := by decide +kernel
theorem dL_law_414 : decode code 414 = .ok (.aload_n 0, 1) := by decide +kernel
theorem dL_law_415 : decode code 415 = .ok (.iload_n 3, 1) := by decide +kernel
theorem dL_law_416 : decode code 416 = .ok (.iconst 2, 1) := by decide +kernel
theorem dL_law_417 : decode code 417 = .ok (.iadd, 1) := by decide +kernel
theorem dL_law_418 : decode code 418 = .ok (.iaload, 1) := by decide +kernel
theorem dL_law_419 : decode code 419 = .ok (.invokevirtual 65, 3) := by decide +kernel
theorem dL_law_422 : decode code 422 = .ok (.aload_n 2, 1) := by decide +kernel
theorem dL_law_423 : decode code 423 = .ok (.aload_n 0, 1) := by decide +kernel
theorem dL_law_424 : decode code 424 = .ok (.iload_n 3, 1) := by decide +kernel
theorem dL_law_425 : decode code 425 = .ok (.iconst 1, 1) := by decide +kernel
theorem dL_law_426 : decode code 426 = .ok (.iadd, 1) := by decide +kernel
theorem dL_law_427 : decode code 427 = .ok (.iaload, 1) := by decide +kernel
theorem dL_law_428 : decode code 428 = .ok (.aload_n 0, 1) := by decide +kernel
theorem dL_law_429 : decode code 429 = .ok (.iload_n 3, 1) := by decide +kernel
theorem dL_law_430 : decode code 430 = .ok (.iconst 2, 1) := by decide +kernel
theorem dL_law_431 : decode code 431 = .ok (.iadd, 1) := by decide +kernel
theorem dL_law_432 : decode code 432 = .ok (.iaload, 1) := by decide +kernel
theorem dL_law_433 : decode code 433 = .ok (.invokevirtual 68, 3) := by decide +kernel
theorem dL_law_436 : decode code 436 = .ok (.if_icmp .eq 84, 3) := by decide +kernel
theorem dL_law_439 : decode code 439 = .ok (.iconst 0, 1) := by decide +kernel
theorem dL_law_440 : decode code 440 = .ok (.ireturn, 1) := by decide +kernel
theorem dL_law_441 : decode code 441 = .ok (.aload_n 1, 1) := by decide +kernel
theorem dL_law_442 : decode code 442 = .ok (.aload_n 0, 1) := by decide +kernel
theorem dL_law_443 : decode code 443 = .ok (.iload_n 3, 1) := by decide +kernel
theorem dL_law_444 : decode code 444 = .ok (.iconst 1, 1) := by decide +kernel
theorem dL_law_445 : decode code 445 = .ok (.iadd, 1) := by decide +kernel
theorem dL_law_446 : decode code 446 = .ok (.iaload, 1) := by decide +kernel
theorem dL_law_447 : decode code 447 = .ok (.invokevirtual 69, 3) := by decide +kernel
theorem dL_law_450 : decode code 450 = .ok (.aload_n 2, 1) := by decide +kernel
theorem dL_law_451 : decode code 451 = .ok (.aload_n 0, 1) := by decide +kernel
theorem dL_law_452 : decode code 452 = .ok (.iload_n 3, 1) := by decide +kernel
theorem dL_law_453 : decode code 453 = .ok (.iconst 1, 1) := by decide +kernel
theorem dL_law_454 : decode code 454 = .ok (.iadd, 1) := by decide +kernel
theorem dL_law_455 : decode code 455 = .ok (.iaload, 1) := by decide +kernel
theorem dL_law_456 : decode code 456 = .ok (.invokevirtual 72, 3) := by decide +kernel
theorem dL_law_459 : decode code 459 = .ok (.if_icmp .eq 61, 3) := by decide +kernel
theorem dL_law_462 : decode code 462 = .ok (.iconst 0, 1) := by decide +kernel
theorem dL_law_463 : decode code 463 = .ok (.ireturn, 1) := by decide +kernel
theorem dL_law_464 : decode code 464 = .ok (.aload_n 1, 1) := by decide +kernel
theorem dL_law_465 : decode code 465 = .ok (.aload_n 0, 1) := by decide +kernel
theorem dL_law_466 : decode code 466 = .ok (.iload_n 3, 1) := by decide +kernel
theorem dL_law_467 : decode code 467 = .ok (.iconst 1, 1) := by decide +kernel
theorem dL_law_468 : decode code 468 = .ok (.iadd, 1) := by decide +kernel
theorem dL_law_469 : decode code 469 = .ok (.iaload, 1) := by decide +kernel
theorem dL_law_470 : decode code 470 = .ok (.aload_n 0, 1) := by decide +kernel
theorem dL_law_471 : decode code 471 = .ok (.iload_n 3, 1) := by decide +kernel
theorem dL_law_472 : decode code 472 = .ok (.iconst 2, 1) := by decide +kernel
theorem dL_law_473 : decode code 473 = .ok (.iadd, 1) := by decide +kernel
theorem dL_law_474 : decode code 474 = .ok (.iaload, 1) := by decide +kernel
theorem dL_law_475 : decode code 475 = .ok (.invokevirtual 73, 3) := by decide +kernel
theorem dL_law_478 : decode code 478 = .ok (.aload_n 2, 1) := by decide +kernel
theorem dL_law_479 : decode code 479 = .ok (.aload_n 0, 1) := by decide +kernel
theorem dL_law_480 : decode code 480 = .ok (.iload_n 3, 1) := by decide +kernel
theorem dL_law_481 : decode code 481 = .ok (.iconst 1, 1) := by decide +kernel
theorem dL_law_482 : decode code 482 = .ok (.iadd, 1) := by decide +kernel
theorem dL_law_483 : decode code 483 = .ok (.iaload, 1) := by decide +kernel
theorem dL_law_484 : decode code 484 = .ok (.aload_n 0, 1) := by decide +kernel
theorem dL_law_485 : decode code 485 = .ok (.iload_n 3, 1) := by decide +kernel
theorem dL_law_486 : decode code 486 = .ok (.iconst 2, 1) := by decide +kernel
theorem dL_law_487 : decode code 487 = .ok (.iadd, 1) := by decide +kernel
theorem dL_law_488 : decode code 488 = .ok (.iaload, 1) := by decide +kernel
theorem dL_law_489 : decode code 489 = .ok (.invokevirtual 76, 3) := by decide +kernel
theorem dL_law_492 : decode code 492 = .ok (.if_icmp .eq 28, 3) := by decide +kernel
theorem dL_law_495 : decode code 495 = .ok (.iconst 0, 1) := by decide +kernel
theorem dL_law_496 : decode code 496 = .ok (.ireturn, 1) := by decide +kernel
theorem dL_law_497 : decode code 497 = .ok (.aload_n 1, 1) := by decide +kernel
theorem dL_law_498 : decode code 498 = .ok (.aload_n 0, 1) := by decide +kernel
theorem dL_law_499 : decode code 499 = .ok (.iload_n 3, 1) := by decide +kernel
theorem dL_law_500 : decode code 500 = .ok (.iconst 1, 1) := by decide +kernel
theorem dL_law_501 : decode code 501 = .ok (.iadd, 1) := by decide +kernel
theorem dL_law_502 : decode code 502 = .ok (.iaload, 1) := by decide +kernel
theorem dL_law_503 : decode code 503 = .ok (.invokevirtual 77, 3) := by decide +kernel
theorem dL_law_506 : decode code 506 = .ok (.aload_n 2, 1) := by decide +kernel
theorem dL_law_507 : decode code 507 = .ok (.aload_n 0, 1) := by decide +kernel
theorem dL_law_508 : decode code 508 = .ok (.iload_n 3, 1) := by decide +kernel
theorem dL_law_509 : decode code 509 = .ok (.iconst 1, 1) := by decide +kernel
theorem dL_law_510 : decode code 510 = .ok (.iadd, 1) := by decide +kernel
theorem dL_law_511 : decode code 511 = .ok (.iaload, 1) := by decide +kernel
theorem dL_law_512 : decode code 512 = .ok (.invokevirtual 80, 3) := by decide +kernel
theorem dL_law_515 : decode code 515 = .ok (.if_icmp .eq 5, 3) := by decide +kernel
theorem dL_law_518 : decode code 518 = .ok (.iconst 0, 1) := by decide +kernel
theorem dL_law_519 : decode code 519 = .ok (.ireturn, 1) := by decide +kernel
theorem dL_law_520 : decode code 520 = .ok (.iinc 3 4, 3) := by decide +kernel
theorem dL_law_523 : decode code 523 = .ok (.goto (-505), 3) := by decide +kernel
theorem dL_law_526 : decode code 526 = .ok (.iconst 1, 1) := by decide +kernel
theorem dL_law_527 : decode code 527 = .ok (.ireturn, 1) := by decide +kernel
end
section
/-! THE WALK: what holds at a method's entry, the judgement, a row an instruction -/
abbrev tyG (G : Ly) : List (ClassId × FieldType) := [(gCa G 0, .int), (gCa G 1, .long), (gCa G 2, .char), (gCa G 3, .object "ColdHouse$State")]
/-- the static arrays: name, length, values -/
def snX (k : Nat) : String := match k with
  | 0 => "TOLD_LEAST" | 1 => "TOLD_MOST" | 2 => "TOLD_FIRST" | 3 => "MACHINE_LEAST" | 4 => "MACHINE_MOST" | 5 => "RUN_LEAST" | 6 => "RUN_MOST" | 7 => "STAGE_LEAST" | _ => "STAGE_MOST"
def slX (k : Nat) : List Int := match k with
  | 0 => [0, 0, 0, 4] | 1 => [480, 240, 45, 14] | 2 => [0, 0, 25, 7] | 3 => [1, 1, 0, 0, 0, 1] | 4 => [40, 80, 99, 99, 99, 40] | 5 => [0, 0, 1, 0] | 6 => [30, 30, 9, 9] | 7 => [50, 1, 0] | _ => [99, 99, 9]
def Stt (G : Ly) (U : State) (H : Heap) : Prop := ∀ k, k < 9 → va_Z "ColdHouse" (snX k) "[I" (.ref (gSa G k)) (gA G) U H ∧ va_T .int (gSa G k) (slX k).length (fun j => .int (iI ((slX k).getD j 0))) (gA G) U H
/-- what is known of classes, links and statics -/
def Sx (G : Ly) (U : State) (H : Heap) : Prop := Ap G ∧ va_K (gD G) classes (tyG G) U ∧ (∀ w ∈ nw, va_Nw w U) ∧ Stt G U H
theorem nw_warm {s U : State} (hW : s.WarmedH U.vm) {w : Cond} (hw : w ∈ nw) (h : va_Nw w s) : va_Nw w U := by
  have h1 := (List.mem_filter.mp hw).2
  cases w <;> first | exact va_Nw.warmF hW h | exact va_Nw.warmM hW h | (simp [isNest] at h1)
theorem Sx.go {G : Ly} {s U : State} {H : Heap} {locs : List Loc} (h : Sx G s s.heap) (hS : va_S (gA G) s.heap H locs) (hU : U.heap = H) (hW : s.WarmedH U.vm) : Sx G U U.heap := by
  obtain ⟨h1, h2, h3, h4⟩ := h
  refine ⟨h1, va_K.moved hW.alike h2, fun w hw => nw_warm hW hw (h3 w hw), fun k hk => ?_⟩
  obtain ⟨a, b⟩ := h4 k hk
  rw [hU]
  exact ⟨va_Z.moved hW.alike (a.kept fun q q1 q2 => hS.2.1 q q1 q2), va_T.moved hW.alike (b.kept fun q q1 q2 => hS.2.1 q q1 q2)⟩
theorem Sx.call {G : Ly} {U : State} {g : JFrame} {mk : MethodId} {a : Array Value} (h : Sx G U U.heap) : Sx G (U.calling g mk a) (U.calling g mk a).heap := by
  obtain ⟨h1, h2, h3, h4⟩ := h
  refine ⟨h1, va_K.moved (u := U) (U := U.calling g mk a) (Vm.Alike.refl U.vm) h2, fun w hw => ?_, fun k hk => ?_⟩
  · have h1 := (List.mem_filter.mp hw).2
    have h2 := h3 w hw
    refine va_Nw.same ?_ (u := U) rfl h2
    cases w <;> first | rfl | (simp [isNest] at h1)
  · obtain ⟨a1, b1⟩ := h4 k hk
    exact ⟨va_Z.moved (u := U) (U := U.calling g mk a) (Vm.Alike.refl U.vm) a1, va_T.moved (u := U) (U := U.calling g mk a) (Vm.Alike.refl U.vm) b1⟩
/-- the world at a state -/
def AtW (G : Ly) (w : Wd) (U : State) : Prop := Hold G w U.heap ∧ Sx G U U.heap
/-- contracts: an int, nothing, a long -/
abbrev rmX (f n : Nat) : Room := { frames := f, cells := 0, slots := 0, locals := n }
def Mi (l : Launch) (y : MethodName) (b : ByteArray) (n : Nat) (ret : Option FieldType) (rf rl : Nat) (G : Ly) (av : List Value) (w : Wd) (post : Int → Wd → Prop) : Prop :=
  Met l y (.code y b n ret :: gw) (rmX rf rl) (va_Pc av (AtW G w)) (va_Qi (fun (r : Int32) (w' : Wd) => ∃ z, r = iI z ∧ post z w') (fun w' t => Hold G w' t.heap) (gA G)) 0 0 (gA G)
def Mv (l : Launch) (y : MethodName) (b : ByteArray) (n : Nat) (ret : Option FieldType) (rf rl : Nat) (G : Ly) (av : List Value) (w : Wd) (post : Wd → Prop) : Prop :=
  Met l y (.code y b n ret :: gw) (rmX rf rl) (va_Pc av (AtW G w)) (va_Qv (fun (w' : Wd) => post w') (fun w' t => Hold G w' t.heap) (gA G)) 0 0 (gA G)
def Ml (l : Launch) (y : MethodName) (b : ByteArray) (n : Nat) (ret : Option FieldType) (rf rl : Nat) (G : Ly) (av : List Value) (w : Wd) (post : Int → Wd → Prop) : Prop :=
  Met l y (.code y b n ret :: gw) (rmX rf rl) (va_Pc av (AtW G w)) (va_Ql (fun (r : Int64) (w' : Wd) => ∃ z, r = lI z ∧ post z w') (fun w' t => Hold G w' t.heap) (gA G)) 0 0 (gA G)
/-- the context of a walk -/
def Cx (p : Program) (s : State) (m : MethodId) (args : Array Value) (meth : Method) (c : Code) (cc : ByteArray) (nL : Nat) (ret : Option FieldType) (own : String) (G : Ly) : Prop :=
  (p.tables.exec = Jvm.exec ∧ c.code = cc ∧ c.maxLocals = nL ∧ s.vm.findClass own = some m.cls ∧ (∀ w ∈ gw, w.before args s = true) ∧ meth.locks = false ∧ meth.sig.returnType = ret) ∧ Sx G s s.heap
/-- the judgement: from here, with these locals, this stack, this world, the method comes to Q -/
def Gj (p : Program) (l : Launch) (e : Env) (R : Room) (s : State) (m : MethodId) (args : Array Value) (below : List Frame) (meth : Method) (c : Code) (Q : State → Prop) (G : Ly) (nL : Nat) (pc : Nat) (lv : List (Nat × Value)) (st : List Value) (w : Wd) : Prop :=
  ∀ (H : Heap) (locs : List Loc) (ls : Array Slot), Hold G w H → va_S (gA G) s.heap H locs → lv_has ls nL lv → W p l e R s m args below meth c H locs 0 0 Q (F0 m pc ls st)
abbrev Qi (below : List Frame) (args : Array Value) (s : State) (G : Ly) (post : Int → Wd → Prop) : State → Prop := MQ below (va_Qi (fun (r : Int32) (w' : Wd) => ∃ z, r = iI z ∧ post z w') (fun w' t => Hold G w' t.heap) (gA G)) args s 0 0 (gA G)
abbrev Qv (below : List Frame) (args : Array Value) (s : State) (G : Ly) (post : Wd → Prop) : State → Prop := MQ below (va_Qv (fun (w' : Wd) => post w') (fun w' t => Hold G w' t.heap) (gA G)) args s 0 0 (gA G)
abbrev Ql (below : List Frame) (args : Array Value) (s : State) (G : Ly) (post : Int → Wd → Prop) : State → Prop := MQ below (va_Ql (fun (r : Int64) (w' : Wd) => ∃ z, r = lI z ∧ post z w') (fun w' t => Hold G w' t.heap) (gA G)) args s 0 0 (gA G)
theorem Cx.of {p : Program} {l : Launch} {y : MethodName} {b : ByteArray} {n : Nat} {ret : Option FieldType} {rm : Room} {e : Env} {s : State} {m : MethodId} {args : Array Value} {below : List Frame} {meth : Method} {c : Code} {s₁ : State} {G : Ly}
    (B : BodyLoose p l y (headSpec (.code y b n ret :: gw) rm) b n ret e s m args below meth c s₁) (hml : c.maxLocals = n) (hS : Sx G s s.heap) : Cx p s m args meth c b n ret y.cls G :=
  ⟨⟨B.exec, B.bytes, hml, findClass_of_methodNamed B.named, fun w hw => atoms_spec (ws := .code y b n ret :: gw) B.pre w (List.mem_cons_of_mem _ hw), B.notSynchronized, B.returns⟩, hS⟩
section MK
variable {l : Launch} {y : MethodName} {b : ByteArray} {n rf rl : Nat} {ret : Option FieldType} {G : Ly} {av : List Value} {w : Wd} {lv : List (Nat × Value)}
theorem mi_of {post : Int → Wd → Prop} (hy : plainName y.cls = true) (hn : (lg_sl av).length ≤ n) (hl : lv_args 0 av = lv)
    (h : ∀ p e s m below meth c, Cx p s m av.toArray meth c b n ret y.cls G → Gj p l e (rmX rf rl) s m av.toArray below meth c (Qi below av.toArray s G post) G n 0 lv [] w) : Mi l y b n ret rf rl G av w post := by
  refine Met.ofW (cc := b) (maxL := n) (ret := ret) hy rfl ?_
  intro p e s m args below meth c s₁ B hml hv
  obtain ⟨rfl, hH, hS⟩ := hv
  rw [lg_entry_eq]
  exact h p e s m below meth c (Cx.of B hml hS) s.heap [] _ hH va_S.rf (hl ▸ lv_entry av hn)
theorem mv_of {post : Wd → Prop} (hy : plainName y.cls = true) (hn : (lg_sl av).length ≤ n) (hl : lv_args 0 av = lv)
    (h : ∀ p e s m below meth c, Cx p s m av.toArray meth c b n ret y.cls G → Gj p l e (rmX rf rl) s m av.toArray below meth c (Qv below av.toArray s G post) G n 0 lv [] w) : Mv l y b n ret rf rl G av w post := by
  refine Met.ofW (cc := b) (maxL := n) (ret := ret) hy rfl ?_
  intro p e s m args below meth c s₁ B hml hv
  obtain ⟨rfl, hH, hS⟩ := hv
  rw [lg_entry_eq]
  exact h p e s m below meth c (Cx.of B hml hS) s.heap [] _ hH va_S.rf (hl ▸ lv_entry av hn)
theorem ml_of {post : Int → Wd → Prop} (hy : plainName y.cls = true) (hn : (lg_sl av).length ≤ n) (hl : lv_args 0 av = lv)
    (h : ∀ p e s m below meth c, Cx p s m av.toArray meth c b n ret y.cls G → Gj p l e (rmX rf rl) s m av.toArray below meth c (Ql below av.toArray s G post) G n 0 lv [] w) : Ml l y b n ret rf rl G av w post := by
  refine Met.ofW (cc := b) (maxL := n) (ret := ret) hy rfl ?_
  intro p e s m args below meth c s₁ B hml hv
  obtain ⟨rfl, hH, hS⟩ := hv
  rw [lg_entry_eq]
  exact h p e s m below meth c (Cx.of B hml hS) s.heap [] _ hH va_S.rf (hl ▸ lv_entry av hn)
end MK
section RW
variable {p : Program} {l : Launch} {e : Env} {R : Room} {s : State} {m : MethodId} {args : Array Value} {below : List Frame} {meth : Method} {c : Code} {Q : State → Prop} {cc : ByteArray} {nL : Nat} {ret : Option FieldType} {own : String} {G : Ly} {pc : Nat} {lv lv' : List (Nat × Value)} {st : List Value} {w : Wd}
theorem g_iconst (X : Cx p s m args meth c cc nL ret own G) {n : Int} (hd : decode cc pc = .ok (.iconst n, 1)) (k : Gj p l e R s m args below meth c Q G nL (pc + 1) lv (.int (iI n) :: st) w) : Gj p l e R s m args below meth c Q G nL pc lv st w :=
  fun H locs ls a b d => lv_iconst X.1.1 X.1.2.1 hd rfl (k H locs ls a b d)
theorem g_bipush (X : Cx p s m args meth c cc nL ret own G) {n : Int} (hd : decode cc pc = .ok (.bipush n, 2)) (hv : (Int8.ofInt n).toInt32 = iI n) (k : Gj p l e R s m args below meth c Q G nL (pc + 2) lv (.int (iI n) :: st) w) : Gj p l e R s m args below meth c Q G nL pc lv st w :=
  fun H locs ls a b d => lv_bipush X.1.1 X.1.2.1 hd hv (k H locs ls a b d)
theorem g_sipush (X : Cx p s m args meth c cc nL ret own G) {n : Int} (hd : decode cc pc = .ok (.sipush n, 3)) (hv : (Int16.ofInt n).toInt32 = iI n) (k : Gj p l e R s m args below meth c Q G nL (pc + 3) lv (.int (iI n) :: st) w) : Gj p l e R s m args below meth c Q G nL pc lv st w :=
  fun H locs ls a b d => lv_sipush X.1.1 X.1.2.1 hd hv (k H locs ls a b d)
theorem g_ldc (X : Cx p s m args meth c cc nL ret own G) {i : Nat} {v : Int32} {n : Int} (hc : Cond.constant own i v ∈ gw) (hv : v = iI n) (hd : decode cc pc = .ok (.ldc i, 2)) (k : Gj p l e R s m args below meth c Q G nL (pc + 2) lv (.int (iI n) :: st) w) : Gj p l e R s m args below meth c Q G nL pc lv st w :=
  fun H locs ls a b d => lv_ldc X.1.1 X.1.2.1 X.1.2.2.2.1 (X.1.2.2.2.2.1 _ hc) hd (hv ▸ k H locs ls a b d)
theorem g_ldcw (X : Cx p s m args meth c cc nL ret own G) {i : Nat} {v : Int32} {n : Int} (hc : Cond.constant own i v ∈ gw) (hv : v = iI n) (hd : decode cc pc = .ok (.ldc_w i, 3)) (k : Gj p l e R s m args below meth c Q G nL (pc + 3) lv (.int (iI n) :: st) w) : Gj p l e R s m args below meth c Q G nL pc lv st w :=
  fun H locs ls a b d => lv_ldcw X.1.1 X.1.2.1 X.1.2.2.2.1 (X.1.2.2.2.2.1 _ hc) hd (hv ▸ k H locs ls a b d)
theorem g_ldc2 (X : Cx p s m args meth c cc nL ret own G) {i : Nat} {v : Int64} {n : Int} (hc : Cond.constantLong own i v ∈ gw) (hv : v = lI n) (hd : decode cc pc = .ok (.ldc2_w i, 3)) (k : Gj p l e R s m args below meth c Q G nL (pc + 3) lv (.long (lI n) :: st) w) : Gj p l e R s m args below meth c Q G nL pc lv st w :=
  fun H locs ls a b d => lv_ldc2 X.1.1 X.1.2.1 X.1.2.2.2.1 (X.1.2.2.2.2.1 _ hc) hd (hv ▸ k H locs ls a b d)
theorem g_lconst (X : Cx p s m args meth c cc nL ret own G) {n : Fin 2} {z : Int} (hd : decode cc pc = .ok (.lconst n, 1)) (hv : Int64.ofNat (n : Nat) = lI z) (k : Gj p l e R s m args below meth c Q G nL (pc + 1) lv (.long (lI z) :: st) w) : Gj p l e R s m args below meth c Q G nL pc lv st w :=
  fun H locs ls a b d => lv_lconst X.1.1 X.1.2.1 hd hv (k H locs ls a b d)
theorem g_iload_n (X : Cx p s m args meth c cc nL ret own G) {k : Fin 4} {i : Nat} {x : Int32} (hd : decode cc pc = .ok (.iload_n k, 1)) (hi : (k : Nat) = i) (j : Nat) (hj : lv[j]? = some (i, .int x)) (kk : Gj p l e R s m args below meth c Q G nL (pc + 1) lv (.int x :: st) w) : Gj p l e R s m args below meth c Q G nL pc lv st w :=
  fun H locs ls a b d => lv_iload_n X.1.1 X.1.2.1 hd hi (lv_at d j hj) (kk H locs ls a b d)
theorem g_iload (X : Cx p s m args meth c cc nL ret own G) {i : Nat} {x : Int32} (hd : decode cc pc = .ok (.iload i, 2)) (j : Nat) (hj : lv[j]? = some (i, .int x)) (kk : Gj p l e R s m args below meth c Q G nL (pc + 2) lv (.int x :: st) w) : Gj p l e R s m args below meth c Q G nL pc lv st w :=
  fun H locs ls a b d => lv_iload X.1.1 X.1.2.1 hd (lv_at d j hj) (kk H locs ls a b d)
theorem g_lload (X : Cx p s m args meth c cc nL ret own G) {i : Nat} {x : Int64} (hd : decode cc pc = .ok (.lload i, 2)) (j : Nat) (hj : lv[j]? = some (i, .long x)) (kk : Gj p l e R s m args below meth c Q G nL (pc + 2) lv (.long x :: st) w) : Gj p l e R s m args below meth c Q G nL pc lv st w :=
  fun H locs ls a b d => lv_lload X.1.1 X.1.2.1 hd (lv_at d j hj) (kk H locs ls a b d)
theorem g_aload_n (X : Cx p s m args meth c cc nL ret own G) {k : Fin 4} {i : Nat} {x : Nat} (hd : decode cc pc = .ok (.aload_n k, 1)) (hi : (k : Nat) = i) (j : Nat) (hj : lv[j]? = some (i, .ref x)) (kk : Gj p l e R s m args below meth c Q G nL (pc + 1) lv (.ref x :: st) w) : Gj p l e R s m args below meth c Q G nL pc lv st w :=
  fun H locs ls a b d => lv_aload_n X.1.1 X.1.2.1 hd hi (lv_at d j hj) (kk H locs ls a b d)
theorem g_istore_n (X : Cx p s m args meth c cc nL ret own G) {k : Fin 4} {i : Nat} {x : Int32} (hd : decode cc pc = .ok (.istore_n k, 1)) (hi : (k : Nat) = i) (hn : i < nL) (hl : (i, Value.int x) :: lv.filter (fun q => !(q.1 == i) && !(q.1 + 1 == i && q.2.category == 2)) = lv') (kk : Gj p l e R s m args below meth c Q G nL (pc + 1) lv' st w) : Gj p l e R s m args below meth c Q G nL pc lv (.int x :: st) w :=
  fun H locs ls a b d => lv_istore_n X.1.1 X.1.2.1 hd hi d hn hl (fun ls' h' => kk H locs ls' a b h')
theorem g_istore (X : Cx p s m args meth c cc nL ret own G) {i : Nat} {x : Int32} (hd : decode cc pc = .ok (.istore i, 2)) (hn : i < nL) (hl : (i, Value.int x) :: lv.filter (fun q => !(q.1 == i) && !(q.1 + 1 == i && q.2.category == 2)) = lv') (kk : Gj p l e R s m args below meth c Q G nL (pc + 2) lv' st w) : Gj p l e R s m args below meth c Q G nL pc lv (.int x :: st) w :=
  fun H locs ls a b d => lv_istore X.1.1 X.1.2.1 hd d hn hl (fun ls' h' => kk H locs ls' a b h')
theorem g_lstore (X : Cx p s m args meth c cc nL ret own G) {i : Nat} {x : Int64} (hd : decode cc pc = .ok (.lstore i, 2)) (hn : i + 1 < nL) (hl : (i, Value.long x) :: lv.filter (fun q => !(q.1 == i) && (!(q.1 == i + 1) && !(q.1 + 1 == i && q.2.category == 2))) = lv') (kk : Gj p l e R s m args below meth c Q G nL (pc + 2) lv' st w) : Gj p l e R s m args below meth c Q G nL pc lv (.long x :: st) w :=
  fun H locs ls a b d => lv_lstore X.1.1 X.1.2.1 hd d hn hl (fun ls' h' => kk H locs ls' a b h')
theorem g_iinc (X : Cx p s m args meth c cc nL ret own G) {i j : Nat} {n x : Int} (hd : decode cc pc = .ok (.iinc i n, 3)) (hj : lv[j]? = some (i, .int (iI x))) (hn : i < nL) (hl : (i, Value.int (iI (x + n))) :: lv.filter (fun q => !(q.1 == i) && !(q.1 + 1 == i && q.2.category == 2)) = lv') (kk : Gj p l e R s m args below meth c Q G nL (pc + 3) lv' st w) : Gj p l e R s m args below meth c Q G nL pc lv st w :=
  fun H locs ls a b d => lv_iinc X.1.1 X.1.2.1 hd d hj (iI_add x n) hn hl (fun ls' h' => kk H locs ls' a b h')
theorem g_lv (ks : List Nat) (h : lv_pick lv ks = lv') (k : Gj p l e R s m args below meth c Q G nL pc lv' st w) : Gj p l e R s m args below meth c Q G nL pc lv st w :=
  fun H locs ls a b d => k H locs ls a b (lv_sub d ks h)
theorem g_iadd (X : Cx p s m args meth c cc nL ret own G) {a b : Int} (hd : decode cc pc = .ok (.iadd, 1)) (k : Gj p l e R s m args below meth c Q G nL (pc + 1) lv (.int (iI (a + b)) :: st) w) : Gj p l e R s m args below meth c Q G nL pc lv (.int (iI b) :: .int (iI a) :: st) w :=
  fun H locs ls h1 h2 h3 => lv_iadd X.1.1 X.1.2.1 hd (by rw [iI_add]; exact k H locs ls h1 h2 h3)
theorem g_isub (X : Cx p s m args meth c cc nL ret own G) {a b : Int} (hd : decode cc pc = .ok (.isub, 1)) (k : Gj p l e R s m args below meth c Q G nL (pc + 1) lv (.int (iI (a - b)) :: st) w) : Gj p l e R s m args below meth c Q G nL pc lv (.int (iI b) :: .int (iI a) :: st) w :=
  fun H locs ls h1 h2 h3 => lv_isub X.1.1 X.1.2.1 hd (by rw [iI_sub]; exact k H locs ls h1 h2 h3)
theorem g_imul (X : Cx p s m args meth c cc nL ret own G) {a b : Int} (hd : decode cc pc = .ok (.imul, 1)) (k : Gj p l e R s m args below meth c Q G nL (pc + 1) lv (.int (iI (a * b)) :: st) w) : Gj p l e R s m args below meth c Q G nL pc lv (.int (iI b) :: .int (iI a) :: st) w :=
  fun H locs ls h1 h2 h3 => lv_imul X.1.1 X.1.2.1 hd (by rw [iI_mul]; exact k H locs ls h1 h2 h3)
theorem g_ineg (X : Cx p s m args meth c cc nL ret own G) {a : Int} (hd : decode cc pc = .ok (.ineg, 1)) (k : Gj p l e R s m args below meth c Q G nL (pc + 1) lv (.int (iI (-a)) :: st) w) : Gj p l e R s m args below meth c Q G nL pc lv (.int (iI a) :: st) w :=
  fun H locs ls h1 h2 h3 => lv_ineg X.1.1 X.1.2.1 hd (by rw [iI_neg]; exact k H locs ls h1 h2 h3)
theorem g_iand (X : Cx p s m args meth c cc nL ret own G) {a b : Int} (hd : decode cc pc = .ok (.iand, 1)) (k : Gj p l e R s m args below meth c Q G nL (pc + 1) lv (.int (iI (band a b)) :: st) w) : Gj p l e R s m args below meth c Q G nL pc lv (.int (iI b) :: .int (iI a) :: st) w :=
  fun H locs ls h1 h2 h3 => lv_iand X.1.1 X.1.2.1 hd (by have := k H locs ls h1 h2 h3; rwa [band, iI_of] at this)
theorem g_ior (X : Cx p s m args meth c cc nL ret own G) {a b : Int} (hd : decode cc pc = .ok (.ior, 1)) (k : Gj p l e R s m args below meth c Q G nL (pc + 1) lv (.int (iI (bor a b)) :: st) w) : Gj p l e R s m args below meth c Q G nL pc lv (.int (iI b) :: .int (iI a) :: st) w :=
  fun H locs ls h1 h2 h3 => lv_ior X.1.1 X.1.2.1 hd (by have := k H locs ls h1 h2 h3; rwa [bor, iI_of] at this)
theorem g_ixor (X : Cx p s m args meth c cc nL ret own G) {a b : Int} (hd : decode cc pc = .ok (.ixor, 1)) (k : Gj p l e R s m args below meth c Q G nL (pc + 1) lv (.int (iI (bxor a b)) :: st) w) : Gj p l e R s m args below meth c Q G nL pc lv (.int (iI b) :: .int (iI a) :: st) w :=
  fun H locs ls h1 h2 h3 => lv_ixor X.1.1 X.1.2.1 hd (by have := k H locs ls h1 h2 h3; rwa [bxor, iI_of] at this)
theorem g_ishl (X : Cx p s m args meth c cc nL ret own G) {a b : Int} (hd : decode cc pc = .ok (.ishl, 1)) (k : Gj p l e R s m args below meth c Q G nL (pc + 1) lv (.int (iI (bshl a b)) :: st) w) : Gj p l e R s m args below meth c Q G nL pc lv (.int (iI b) :: .int (iI a) :: st) w :=
  fun H locs ls h1 h2 h3 => lv_ishl X.1.1 X.1.2.1 hd (by have := k H locs ls h1 h2 h3; rwa [bshl, iI_of] at this)
theorem g_ishr (X : Cx p s m args meth c cc nL ret own G) {a b : Int} (hd : decode cc pc = .ok (.ishr, 1)) (k : Gj p l e R s m args below meth c Q G nL (pc + 1) lv (.int (iI (bshr a b)) :: st) w) : Gj p l e R s m args below meth c Q G nL pc lv (.int (iI b) :: .int (iI a) :: st) w :=
  fun H locs ls h1 h2 h3 => lv_ishr X.1.1 X.1.2.1 hd (by have := k H locs ls h1 h2 h3; rwa [bshr, iI_of] at this)
theorem g_iushr (X : Cx p s m args meth c cc nL ret own G) {a b : Int} (hd : decode cc pc = .ok (.iushr, 1)) (k : Gj p l e R s m args below meth c Q G nL (pc + 1) lv (.int (iI (bushr a b)) :: st) w) : Gj p l e R s m args below meth c Q G nL pc lv (.int (iI b) :: .int (iI a) :: st) w :=
  fun H locs ls h1 h2 h3 => lv_iushr (v := iI (bushr a b)) X.1.1 X.1.2.1 hd (by rw [bushr, iI_of]) (k H locs ls h1 h2 h3)
theorem g_idiv (X : Cx p s m args meth c cc nL ret own G) {a b : Int} (hd : decode cc pc = .ok (.idiv, 1)) (hb : InR b) (hne : b ≠ 0) (k : Gj p l e R s m args below meth c Q G nL (pc + 1) lv (.int (iI (jdiv a b)) :: st) w) : Gj p l e R s m args below meth c Q G nL pc lv (.int (iI b) :: .int (iI a) :: st) w :=
  fun H locs ls h1 h2 h3 => lv_idiv X.1.1 X.1.2.1 hd (fun q => hne ((iI_eq hb inR_zero).mp q)) (by have := k H locs ls h1 h2 h3; rwa [jdiv, iI_of] at this)
theorem g_irem (X : Cx p s m args meth c cc nL ret own G) {a b : Int} (hd : decode cc pc = .ok (.irem, 1)) (hb : InR b) (hne : b ≠ 0) (k : Gj p l e R s m args below meth c Q G nL (pc + 1) lv (.int (iI (jrem a b)) :: st) w) : Gj p l e R s m args below meth c Q G nL pc lv (.int (iI b) :: .int (iI a) :: st) w :=
  fun H locs ls h1 h2 h3 => lv_irem X.1.1 X.1.2.1 hd (fun q => hne ((iI_eq hb inR_zero).mp q)) (by have := k H locs ls h1 h2 h3; rwa [jrem, iI_of] at this)
theorem g_i2c (X : Cx p s m args meth c cc nL ret own G) {a : Int} (hd : decode cc pc = .ok (.i2c, 1)) (k : Gj p l e R s m args below meth c Q G nL (pc + 1) lv (.int (iI (j2c a)) :: st) w) : Gj p l e R s m args below meth c Q G nL pc lv (.int (iI a) :: st) w :=
  fun H locs ls h1 h2 h3 => lv_i2c (v := iI (j2c a)) X.1.1 X.1.2.1 hd (by rw [j2c, iI_of]) (k H locs ls h1 h2 h3)
theorem g_i2l (X : Cx p s m args meth c cc nL ret own G) {a : Int} (hd : decode cc pc = .ok (.i2l, 1)) (k : Gj p l e R s m args below meth c Q G nL (pc + 1) lv (.long (lI (j2l a)) :: st) w) : Gj p l e R s m args below meth c Q G nL pc lv (.int (iI a) :: st) w :=
  fun H locs ls h1 h2 h3 => lv_i2l (v := lI (j2l a)) X.1.1 X.1.2.1 hd (by rw [j2l, lI_of]) (k H locs ls h1 h2 h3)
theorem g_l2i (X : Cx p s m args meth c cc nL ret own G) {a : Int} (hd : decode cc pc = .ok (.l2i, 1)) (k : Gj p l e R s m args below meth c Q G nL (pc + 1) lv (.int (iI (l2j a)) :: st) w) : Gj p l e R s m args below meth c Q G nL pc lv (.long (lI a) :: st) w :=
  fun H locs ls h1 h2 h3 => lv_l2i (v := iI (l2j a)) X.1.1 X.1.2.1 hd (by rw [l2j, iI_of]) (k H locs ls h1 h2 h3)
theorem g_ladd (X : Cx p s m args meth c cc nL ret own G) {a b : Int} (hd : decode cc pc = .ok (.ladd, 1)) (k : Gj p l e R s m args below meth c Q G nL (pc + 1) lv (.long (lI (a + b)) :: st) w) : Gj p l e R s m args below meth c Q G nL pc lv (.long (lI b) :: .long (lI a) :: st) w :=
  fun H locs ls h1 h2 h3 => lv_ladd X.1.1 X.1.2.1 hd (by rw [lI_add]; exact k H locs ls h1 h2 h3)
theorem g_lshl (X : Cx p s m args meth c cc nL ret own G) {a b : Int} (hd : decode cc pc = .ok (.lshl, 1)) (k : Gj p l e R s m args below meth c Q G nL (pc + 1) lv (.long (lI (lshl a b)) :: st) w) : Gj p l e R s m args below meth c Q G nL pc lv (.int (iI b) :: .long (lI a) :: st) w :=
  fun H locs ls h1 h2 h3 => lv_lshl (v := lI (lshl a b)) X.1.1 X.1.2.1 hd (by rw [lshl, lI_of]) (k H locs ls h1 h2 h3)
theorem g_lshr (X : Cx p s m args meth c cc nL ret own G) {a b : Int} (hd : decode cc pc = .ok (.lshr, 1)) (k : Gj p l e R s m args below meth c Q G nL (pc + 1) lv (.long (lI (lshr a b)) :: st) w) : Gj p l e R s m args below meth c Q G nL pc lv (.int (iI b) :: .long (lI a) :: st) w :=
  fun H locs ls h1 h2 h3 => lv_lshr (v := lI (lshr a b)) X.1.1 X.1.2.1 hd (by rw [lshr, lI_of]) (k H locs ls h1 h2 h3)
theorem g_dup (X : Cx p s m args meth c cc nL ret own G) {v : Value} (hd : decode cc pc = .ok (.dup, 1)) (hv : v.category = 1) (k : Gj p l e R s m args below meth c Q G nL (pc + 1) lv (v :: v :: st) w) : Gj p l e R s m args below meth c Q G nL pc lv (v :: st) w :=
  fun H locs ls h1 h2 h3 => lv_dup X.1.1 X.1.2.1 hd hv (k H locs ls h1 h2 h3)
theorem g_dup2 (X : Cx p s m args meth c cc nL ret own G) {v u : Value} (hd : decode cc pc = .ok (.dup2, 1)) (hv : v.category = 1) (hu : u.category = 1) (k : Gj p l e R s m args below meth c Q G nL (pc + 1) lv (v :: u :: v :: u :: st) w) : Gj p l e R s m args below meth c Q G nL pc lv (v :: u :: st) w :=
  fun H locs ls h1 h2 h3 => lv_dup2_11 X.1.1 X.1.2.1 hd hv hu (k H locs ls h1 h2 h3)
theorem g_pop (X : Cx p s m args meth c cc nL ret own G) {v : Value} (hd : decode cc pc = .ok (.pop, 1)) (hv : v.category = 1) (k : Gj p l e R s m args below meth c Q G nL (pc + 1) lv st w) : Gj p l e R s m args below meth c Q G nL pc lv (v :: st) w :=
  fun H locs ls h1 h2 h3 => lv_pop X.1.1 X.1.2.1 hd hv (k H locs ls h1 h2 h3)
theorem g_goto (X : Cx p s m args meth c cc nL ret own G) {off : Int} {tgt : Nat} (hd : decode cc pc = .ok (.goto off, 3)) (ht : (pc : Int) + off = (tgt : Int)) (k : Gj p l e R s m args below meth c Q G nL tgt lv st w) : Gj p l e R s m args below meth c Q G nL pc lv st w :=
  fun H locs ls h1 h2 h3 => lv_goto X.1.1 X.1.2.1 hd ht (k H locs ls h1 h2 h3)
end RW
end
section
section RB
variable {p : Program} {l : Launch} {e : Env} {R : Room} {s : State} {m : MethodId} {args : Array Value} {below : List Frame} {meth : Method} {c : Code} {Q : State → Prop} {cc : ByteArray} {nL : Nat} {ret : Option FieldType} {own : String} {G : Ly} {pc : Nat} {lv : List (Nat × Value)} {st : List Value} {w : Wd}
theorem g_icmp_eq (X : Cx p s m args meth c cc nL ret own G) {a b : Int} {off : Int} {tgt : Nat} (hd : decode cc pc = .ok (.if_icmp .eq off, 3)) (ht : (pc : Int) + off = (tgt : Int)) (ha : InR a) (hb : InR b) (kt : a = b → Gj p l e R s m args below meth c Q G nL tgt lv st w) (kf : ¬ (a = b) → Gj p l e R s m args below meth c Q G nL (pc + 3) lv st w) : Gj p l e R s m args below meth c Q G nL pc lv (.int (iI b) :: .int (iI a) :: st) w :=
  fun H locs ls h1 h2 h3 => lv_icmp_eq X.1.1 X.1.2.1 hd ht (fun q => kt ((iI_eq ha hb).mp q) H locs ls h1 h2 h3) (fun q => kf (fun z => q ((iI_eq ha hb).mpr z)) H locs ls h1 h2 h3)
theorem g_if_eq (X : Cx p s m args meth c cc nL ret own G) {a : Int} {off : Int} {tgt : Nat} (hd : decode cc pc = .ok (.ifCond .eq off, 3)) (ht : (pc : Int) + off = (tgt : Int)) (ha : InR a) (kt : a = 0 → Gj p l e R s m args below meth c Q G nL tgt lv st w) (kf : ¬ (a = 0) → Gj p l e R s m args below meth c Q G nL (pc + 3) lv st w) : Gj p l e R s m args below meth c Q G nL pc lv (.int (iI a) :: st) w :=
  fun H locs ls h1 h2 h3 => lv_if_eq X.1.1 X.1.2.1 hd ht (fun q => kt ((iI_eq ha inR_zero).mp q) H locs ls h1 h2 h3) (fun q => kf (fun z => q ((iI_eq ha inR_zero).mpr z)) H locs ls h1 h2 h3)
theorem g_icmp_ne (X : Cx p s m args meth c cc nL ret own G) {a b : Int} {off : Int} {tgt : Nat} (hd : decode cc pc = .ok (.if_icmp .ne off, 3)) (ht : (pc : Int) + off = (tgt : Int)) (ha : InR a) (hb : InR b) (kt : a ≠ b → Gj p l e R s m args below meth c Q G nL tgt lv st w) (kf : ¬ (a ≠ b) → Gj p l e R s m args below meth c Q G nL (pc + 3) lv st w) : Gj p l e R s m args below meth c Q G nL pc lv (.int (iI b) :: .int (iI a) :: st) w :=
  fun H locs ls h1 h2 h3 => lv_icmp_ne X.1.1 X.1.2.1 hd ht (fun q => kt (fun z => q ((iI_eq ha hb).mpr z)) H locs ls h1 h2 h3) (fun q => kf (fun z => z ((iI_eq ha hb).mp q)) H locs ls h1 h2 h3)
theorem g_if_ne (X : Cx p s m args meth c cc nL ret own G) {a : Int} {off : Int} {tgt : Nat} (hd : decode cc pc = .ok (.ifCond .ne off, 3)) (ht : (pc : Int) + off = (tgt : Int)) (ha : InR a) (kt : a ≠ 0 → Gj p l e R s m args below meth c Q G nL tgt lv st w) (kf : ¬ (a ≠ 0) → Gj p l e R s m args below meth c Q G nL (pc + 3) lv st w) : Gj p l e R s m args below meth c Q G nL pc lv (.int (iI a) :: st) w :=
  fun H locs ls h1 h2 h3 => lv_if_ne X.1.1 X.1.2.1 hd ht (fun q => kt (fun z => q ((iI_eq ha inR_zero).mpr z)) H locs ls h1 h2 h3) (fun q => kf (fun z => z ((iI_eq ha inR_zero).mp q)) H locs ls h1 h2 h3)
theorem g_icmp_lt (X : Cx p s m args meth c cc nL ret own G) {a b : Int} {off : Int} {tgt : Nat} (hd : decode cc pc = .ok (.if_icmp .lt off, 3)) (ht : (pc : Int) + off = (tgt : Int)) (ha : InR a) (hb : InR b) (kt : a < b → Gj p l e R s m args below meth c Q G nL tgt lv st w) (kf : ¬ (a < b) → Gj p l e R s m args below meth c Q G nL (pc + 3) lv st w) : Gj p l e R s m args below meth c Q G nL pc lv (.int (iI b) :: .int (iI a) :: st) w :=
  fun H locs ls h1 h2 h3 => lv_icmp_lt X.1.1 X.1.2.1 hd ht (fun q => kt ((iI_lt ha hb).mp q) H locs ls h1 h2 h3) (fun q => kf (fun z => q ((iI_lt ha hb).mpr z)) H locs ls h1 h2 h3)
theorem g_if_lt (X : Cx p s m args meth c cc nL ret own G) {a : Int} {off : Int} {tgt : Nat} (hd : decode cc pc = .ok (.ifCond .lt off, 3)) (ht : (pc : Int) + off = (tgt : Int)) (ha : InR a) (kt : a < 0 → Gj p l e R s m args below meth c Q G nL tgt lv st w) (kf : ¬ (a < 0) → Gj p l e R s m args below meth c Q G nL (pc + 3) lv st w) : Gj p l e R s m args below meth c Q G nL pc lv (.int (iI a) :: st) w :=
  fun H locs ls h1 h2 h3 => lv_if_lt X.1.1 X.1.2.1 hd ht (fun q => kt ((iI_lt ha inR_zero).mp q) H locs ls h1 h2 h3) (fun q => kf (fun z => q ((iI_lt ha inR_zero).mpr z)) H locs ls h1 h2 h3)
theorem g_icmp_ge (X : Cx p s m args meth c cc nL ret own G) {a b : Int} {off : Int} {tgt : Nat} (hd : decode cc pc = .ok (.if_icmp .ge off, 3)) (ht : (pc : Int) + off = (tgt : Int)) (ha : InR a) (hb : InR b) (kt : b ≤ a → Gj p l e R s m args below meth c Q G nL tgt lv st w) (kf : ¬ (b ≤ a) → Gj p l e R s m args below meth c Q G nL (pc + 3) lv st w) : Gj p l e R s m args below meth c Q G nL pc lv (.int (iI b) :: .int (iI a) :: st) w :=
  fun H locs ls h1 h2 h3 => lv_icmp_ge X.1.1 X.1.2.1 hd ht (fun q => kt ((iI_le hb ha).mp q) H locs ls h1 h2 h3) (fun q => kf (fun z => q ((iI_le hb ha).mpr z)) H locs ls h1 h2 h3)
theorem g_if_ge (X : Cx p s m args meth c cc nL ret own G) {a : Int} {off : Int} {tgt : Nat} (hd : decode cc pc = .ok (.ifCond .ge off, 3)) (ht : (pc : Int) + off = (tgt : Int)) (ha : InR a) (kt : 0 ≤ a → Gj p l e R s m args below meth c Q G nL tgt lv st w) (kf : ¬ (0 ≤ a) → Gj p l e R s m args below meth c Q G nL (pc + 3) lv st w) : Gj p l e R s m args below meth c Q G nL pc lv (.int (iI a) :: st) w :=
  fun H locs ls h1 h2 h3 => lv_if_ge X.1.1 X.1.2.1 hd ht (fun q => kt ((iI_le inR_zero ha).mp q) H locs ls h1 h2 h3) (fun q => kf (fun z => q ((iI_le inR_zero ha).mpr z)) H locs ls h1 h2 h3)
theorem g_icmp_gt (X : Cx p s m args meth c cc nL ret own G) {a b : Int} {off : Int} {tgt : Nat} (hd : decode cc pc = .ok (.if_icmp .gt off, 3)) (ht : (pc : Int) + off = (tgt : Int)) (ha : InR a) (hb : InR b) (kt : b < a → Gj p l e R s m args below meth c Q G nL tgt lv st w) (kf : ¬ (b < a) → Gj p l e R s m args below meth c Q G nL (pc + 3) lv st w) : Gj p l e R s m args below meth c Q G nL pc lv (.int (iI b) :: .int (iI a) :: st) w :=
  fun H locs ls h1 h2 h3 => lv_icmp_gt X.1.1 X.1.2.1 hd ht (fun q => kt ((iI_lt hb ha).mp q) H locs ls h1 h2 h3) (fun q => kf (fun z => q ((iI_lt hb ha).mpr z)) H locs ls h1 h2 h3)
theorem g_if_gt (X : Cx p s m args meth c cc nL ret own G) {a : Int} {off : Int} {tgt : Nat} (hd : decode cc pc = .ok (.ifCond .gt off, 3)) (ht : (pc : Int) + off = (tgt : Int)) (ha : InR a) (kt : 0 < a → Gj p l e R s m args below meth c Q G nL tgt lv st w) (kf : ¬ (0 < a) → Gj p l e R s m args below meth c Q G nL (pc + 3) lv st w) : Gj p l e R s m args below meth c Q G nL pc lv (.int (iI a) :: st) w :=
  fun H locs ls h1 h2 h3 => lv_if_gt X.1.1 X.1.2.1 hd ht (fun q => kt ((iI_lt inR_zero ha).mp q) H locs ls h1 h2 h3) (fun q => kf (fun z => q ((iI_lt inR_zero ha).mpr z)) H locs ls h1 h2 h3)
theorem g_icmp_le (X : Cx p s m args meth c cc nL ret own G) {a b : Int} {off : Int} {tgt : Nat} (hd : decode cc pc = .ok (.if_icmp .le off, 3)) (ht : (pc : Int) + off = (tgt : Int)) (ha : InR a) (hb : InR b) (kt : a ≤ b → Gj p l e R s m args below meth c Q G nL tgt lv st w) (kf : ¬ (a ≤ b) → Gj p l e R s m args below meth c Q G nL (pc + 3) lv st w) : Gj p l e R s m args below meth c Q G nL pc lv (.int (iI b) :: .int (iI a) :: st) w :=
  fun H locs ls h1 h2 h3 => lv_icmp_le X.1.1 X.1.2.1 hd ht (fun q => kt ((iI_le ha hb).mp q) H locs ls h1 h2 h3) (fun q => kf (fun z => q ((iI_le ha hb).mpr z)) H locs ls h1 h2 h3)
theorem g_if_le (X : Cx p s m args meth c cc nL ret own G) {a : Int} {off : Int} {tgt : Nat} (hd : decode cc pc = .ok (.ifCond .le off, 3)) (ht : (pc : Int) + off = (tgt : Int)) (ha : InR a) (kt : a ≤ 0 → Gj p l e R s m args below meth c Q G nL tgt lv st w) (kf : ¬ (a ≤ 0) → Gj p l e R s m args below meth c Q G nL (pc + 3) lv st w) : Gj p l e R s m args below meth c Q G nL pc lv (.int (iI a) :: st) w :=
  fun H locs ls h1 h2 h3 => lv_if_le X.1.1 X.1.2.1 hd ht (fun q => kt ((iI_le ha inR_zero).mp q) H locs ls h1 h2 h3) (fun q => kf (fun z => q ((iI_le ha inR_zero).mpr z)) H locs ls h1 h2 h3)
theorem g_tableIn (X : Cx p s m args meth c cc nL ret own G) {dflt lo hi : Int} {offs : Array Int} {len : Nat} {a : Int} {off : Int} {tgt : Nat} (hd : decode cc pc = .ok (.tableswitch dflt lo hi offs, len)) (ha : InR a) (h1 : lo ≤ a) (h2 : a ≤ hi) (ho : offs[(a - lo).toNat]? = some off) (ht : (pc : Int) + off = (tgt : Int)) (k : Gj p l e R s m args below meth c Q G nL tgt lv st w) : Gj p l e R s m args below meth c Q G nL pc lv (.int (iI a) :: st) w :=
  fun H locs ls q1 q2 q3 => lv_tableIn X.1.1 X.1.2.1 hd (by rw [iI_to ha]; omega) (by rw [iI_to ha]; omega) (by rw [iI_to ha]; exact ho) ht (k H locs ls q1 q2 q3)
theorem g_tableOut (X : Cx p s m args meth c cc nL ret own G) {dflt lo hi : Int} {offs : Array Int} {len : Nat} {a : Int} {tgt : Nat} (hd : decode cc pc = .ok (.tableswitch dflt lo hi offs, len)) (ha : InR a) (h : a < lo ∨ hi < a) (ht : (pc : Int) + dflt = (tgt : Int)) (k : Gj p l e R s m args below meth c Q G nL tgt lv st w) : Gj p l e R s m args below meth c Q G nL pc lv (.int (iI a) :: st) w :=
  fun H locs ls q1 q2 q3 => lv_tableOut X.1.1 X.1.2.1 hd (by rw [iI_to ha]; exact h) ht (k H locs ls q1 q2 q3)
theorem g_lcmp (X : Cx p s m args meth c cc nL ret own G) {a b : Int} (hd : decode cc pc = .ok (.lcmp, 1)) (ha : InL a) (hb : InL b) (k : Gj p l e R s m args below meth c Q G nL (pc + 1) lv (.int (iI (if b < a then 1 else if a = b then 0 else -1)) :: st) w) : Gj p l e R s m args below meth c Q G nL pc lv (.long (lI b) :: .long (lI a) :: st) w := by
  intro H locs ls q1 q2 q3
  refine W.lcmp X.1.1 X.1.2.1 hd ?_
  have h := k H locs ls q1 q2 q3
  have e : lg_cmp (lI a) (lI b) = iI (if b < a then 1 else if a = b then 0 else -1) := by
    unfold lg_cmp
    simp only [gt_iff_lt, lI_lt hb ha, lI_eq ha hb]
    split
    · rfl
    · split <;> rfl
  rw [e]
  exact h
/-- a class, its table, the words of it -/
def CK (ci : Nat) (C : String) (T : u_T) (N : Nat) (ty : Nat → FieldType) : Prop := classes[ci]? = some (C, T, N) ∧ (∀ w ∈ u_ws C T N, w ∈ gw) ∧ (∀ k, k < N → parseFieldDescriptor (T k).2.2.1 = some (ty k)) ∧ (∀ a, a < N → ∀ b, b < N → a ≠ b → (T a).2.1 ≠ (T b).2.1) ∧ N = nfX ci
theorem g_getf (X : Cx p s m args meth c cc nL ret own G) {ci N o idx : Nat} {C : String} {T : u_T} {ty : Nat → FieldType} (K : CK ci C T N ty) (ho : gOb G o = some ci) (f : Nat) (hf : f < N) (hl : Cond.fieldLink own idx (T f).1 (T f).2.1 (T f).2.2.1 ∈ gw) {v : Value} (hv : fval G w o ci f = v) (hd : decode cc pc = .ok (.getfield idx, 3)) (k : Gj p l e R s m args below meth c Q G nL (pc + 3) lv (v :: st) w) : Gj p l e R s m args below meth c Q G nL pc lv (.ref (gAd G o) :: st) w := by
  intro H locs ls h1 h2 h3
  obtain ⟨⟨cell, q1, q2, q3, q4⟩, -⟩ := h1 o ci ho
  obtain ⟨hS, hfc, kC, hkC, hkind⟩ := X.2.2.1.1 ci _ K.1
  obtain ⟨cf, kf, fi, fd, hi, hsl⟩ := hS f hf
  refine W.getf X.1.1 X.1.2.1 X.1.2.2.2.1 (X.1.2.2.2.2.1 _ hl) hi (u_facts hfc hkC (u_lays X.1.2.2.2.2.1 K.2.1 hf) hi).1 q1 (by rw [q3]; exact fun h => by cases h) (v := v) ?_ rfl rfl hd (k H locs ls h1 h2 h3)
  rw [hsl, q4 f (by rw [← K.2.2.2.2]; exact hf), hv]
theorem g_geti (X : Cx p s m args meth c cc nL ret own G) {ci N o idx : Nat} {C : String} {T : u_T} {ty : Nat → FieldType} (K : CK ci C T N ty) (ho : gOb G o = some ci) (f : Nat) (hf : f < N) (hl : Cond.fieldLink own idx (T f).1 (T f).2.1 (T f).2.2.1 ∈ gw) (hk : (fkX ci f).1 = 0 ∨ (fkX ci f).1 = 6) (hd : decode cc pc = .ok (.getfield idx, 3)) (k : Gj p l e R s m args below meth c Q G nL (pc + 3) lv (.int (iI (w o f 0)) :: st) w) : Gj p l e R s m args below meth c Q G nL pc lv (.ref (gAd G o) :: st) w :=
  g_getf X K ho f hf hl (by rcases hk with hk | hk <;> simp [fval, hk]) hd k
theorem g_geto (X : Cx p s m args meth c cc nL ret own G) {ci N o o' idx : Nat} {C : String} {T : u_T} {ty : Nat → FieldType} (K : CK ci C T N ty) (ho : gOb G o = some ci) (f : Nat) (hf : f < N) (hl : Cond.fieldLink own idx (T f).1 (T f).2.1 (T f).2.2.1 ∈ gw) (hk : (fkX ci f).1 = 4) (ho' : gLk G o f = o') (hd : decode cc pc = .ok (.getfield idx, 3)) (k : Gj p l e R s m args below meth c Q G nL (pc + 3) lv (.ref (gAd G o') :: st) w) : Gj p l e R s m args below meth c Q G nL pc lv (.ref (gAd G o) :: st) w :=
  g_getf X K ho f hf hl (by rw [← ho']; simp [fval, hk]) hd k
theorem g_geta (X : Cx p s m args meth c cc nL ret own G) {ci N o idx : Nat} {C : String} {T : u_T} {ty : Nat → FieldType} (K : CK ci C T N ty) (ho : gOb G o = some ci) (f : Nat) (hf : f < N) (hl : Cond.fieldLink own idx (T f).1 (T f).2.1 (T f).2.2.1 ∈ gw) (hk : isA (fkX ci f) = true) (hd : decode cc pc = .ok (.getfield idx, 3)) (k : Gj p l e R s m args below meth c Q G nL (pc + 3) lv (.ref (gAr G o f) :: st) w) : Gj p l e R s m args below meth c Q G nL pc lv (.ref (gAd G o) :: st) w :=
  g_getf X K ho f hf hl (by
    have h : (fkX ci f).1 = 1 ∨ (fkX ci f).1 = 2 ∨ (fkX ci f).1 = 3 ∨ (fkX ci f).1 = 5 := by
      simp [isA] at hk
      omega
    rcases h with h | h | h | h <;> simp [fval, h]) hd k
theorem g_putf (X : Cx p s m args meth c cc nL ret own G) {ci N o idx : Nat} {C : String} {T : u_T} {ty : Nat → FieldType} (K : CK ci C T N ty) (ho : gOb G o = some ci) (f : Nat) (hf : f < N) (hl : Cond.fieldLink own idx (T f).1 (T f).2.1 (T f).2.2.1 ∈ gw) (hk : (fkX ci f).1 = 0 ∨ (fkX ci f).1 = 6) (hfin : (T f).2.2.2 = false) {v : Int} (hn : narrow (ty f) (.int (iI v)) = .int (iI v)) (hfit : fits (ty f) (.int (iI v)) = true) (hd : decode cc pc = .ok (.putfield idx, 3)) (k : Gj p l e R s m args below meth c Q G nL (pc + 3) lv st (up w o f 0 v)) : Gj p l e R s m args below meth c Q G nL pc lv (.int (iI v) :: .ref (gAd G o) :: st) w := by
  intro H locs ls h1 h2 h3
  have hap := va_apart (own := own) X.1.2.2.2.2.1 K.2.1 ty K.2.2.1 K.2.2.2.1 X.2.2.1 K.1
  obtain ⟨⟨cell, q1, q2, q3, q4⟩, -⟩ := h1 o ci ho
  obtain ⟨hS, hfc, kC, hkC, hkind⟩ := X.2.2.1.1 ci _ K.1
  obtain ⟨cf, kf, fi, fd, hi, hsl⟩ := hS f hf
  have hlay := X.1.2.2.2.2.1 _ (K.2.1 _ (u_in_lay hf))
  unfold u_lay at hlay
  rw [if_neg (by rw [hfin]; decide)] at hlay
  have hst := (u_facts hfc hkC (u_lays X.1.2.2.2.2.1 K.2.1 hf) hi).1
  have h6 := u_store hfc hkC hkind hlay hi (K.2.2.1 f hf) hn hfit
  have hfn : f < nfX ci := by rw [← K.2.2.2.2]; exact hf
  refine W.putK X.1.1 X.1.2.1 (f := fd) ⟨X.1.2.2.2.1, X.1.2.2.2.2.1 _ hl, ⟨_, _, _, hi⟩, hst⟩ (by rw [q2]; exact h6) q1 q3 (by rw [hsl]; exact k2_hasslot (q4 f hfn)) rfl rfl hd fun H' e1 e2 e3 => ?_
  rw [hsl] at e1 ⊢
  refine k H' _ ls (h1.puti X.2.1 ho hk ⟨_, e1, q2, q3, ?_⟩ e3) (h2.put e2 e3 (gA_o ho)) h3
  exact t_set q4 (by rw [← K.2.2.2.2]; exact hap) hfn (.int (iI v))
theorem g_puti (X : Cx p s m args meth c cc nL ret own G) {ci N o idx : Nat} {C : String} {T : u_T} {ty : Nat → FieldType} (K : CK ci C T N ty) (ho : gOb G o = some ci) (f : Nat) (hf : f < N) (hl : Cond.fieldLink own idx (T f).1 (T f).2.1 (T f).2.2.1 ∈ gw) (hk : (fkX ci f).1 = 0) (hfin : (T f).2.2.2 = false) {v : Int} (hty : ty f = .int) (hd : decode cc pc = .ok (.putfield idx, 3)) (k : Gj p l e R s m args below meth c Q G nL (pc + 3) lv st (up w o f 0 v)) : Gj p l e R s m args below meth c Q G nL pc lv (.int (iI v) :: .ref (gAd G o) :: st) w :=
  g_putf X K ho f hf hl (Or.inl hk) hfin (by rw [hty]; rfl) (by rw [hty]; rfl) hd k
theorem isA_of {k : Nat × Nat} {t n : Nat} (h : k = (t, n)) (ht : t = 1 ∨ t = 2 ∨ t = 3 ∨ t = 5) : isA k = true := by
  subst h
  rcases ht with rfl | rfl | rfl | rfl <;> rfl
theorem g_iald (X : Cx p s m args meth c cc nL ret own G) {ci o f n : Nat} (ho : gOb G o = some ci) (hf : f < nfX ci) (hk : fkX ci f = (1, n)) (hn : n ≤ 100000) {a : Int} (h0 : 0 ≤ a) (ha : a < (n : Int)) (hd : decode cc pc = .ok (.iaload, 1)) (k : Gj p l e R s m args below meth c Q G nL (pc + 1) lv (.int (iI (w o f a.toNat)) :: st) w) : Gj p l e R s m args below meth c Q G nL pc lv (.int (iI a) :: .ref (gAr G o f) :: st) w := by
  intro H locs ls h1 h2 h3
  have hc := (h1 o ci ho).2 f hf (isA_of hk (by decide))
  rw [hk] at hc
  have hcl : (iI a).toNatClampNeg = a.toNat := iI_clamp h0 (by omega)
  have hin := iI_in h0 ha (by omega)
  exact W.iald (v := .int (iI (w o f a.toNat))) X.1.1 X.1.2.1 hc ((X.2.2.1.2 0 _ rfl).1 n (fun j => .int (iI (w o f j)))) (fun q => by cases q) (by show ¬ (_ ∨ (arrV _ _ _).slots.size ≤ _); rw [arrV_size]; exact hin) (by show (arrV _ _ _).slots[_]? = _; rw [arrV_read _ _ (by rw [hcl]; omega), hcl]) rfl rfl hd (k H locs ls h1 h2 h3)
theorem g_cald (X : Cx p s m args meth c cc nL ret own G) {ci o f n : Nat} (ho : gOb G o = some ci) (hf : f < nfX ci) (hk : fkX ci f = (3, n)) (hn : n ≤ 100000) {a : Int} (h0 : 0 ≤ a) (ha : a < (n : Int)) (hd : decode cc pc = .ok (.caload, 1)) (k : Gj p l e R s m args below meth c Q G nL (pc + 1) lv (.int (iI (w o f a.toNat)) :: st) w) : Gj p l e R s m args below meth c Q G nL pc lv (.int (iI a) :: .ref (gAr G o f) :: st) w := by
  intro H locs ls h1 h2 h3
  have hc := (h1 o ci ho).2 f hf (isA_of hk (by decide))
  rw [hk] at hc
  have hcl : (iI a).toNatClampNeg = a.toNat := iI_clamp h0 (by omega)
  have hin := iI_in h0 ha (by omega)
  exact W.cald (v := .int (iI (w o f a.toNat))) X.1.1 X.1.2.1 hc ((X.2.2.1.2 2 _ rfl).1 n (fun j => .int (iI (w o f j)))) (fun q => by cases q) (by show ¬ (_ ∨ (arrV _ _ _).slots.size ≤ _); rw [arrV_size]; exact hin) (by show (arrV _ _ _).slots[_]? = _; rw [arrV_read _ _ (by rw [hcl]; omega), hcl]) rfl rfl hd (k H locs ls h1 h2 h3)
theorem g_lald (X : Cx p s m args meth c cc nL ret own G) {ci o f n : Nat} (ho : gOb G o = some ci) (hf : f < nfX ci) (hk : fkX ci f = (2, n)) (hn : n ≤ 100000) {a : Int} (h0 : 0 ≤ a) (ha : a < (n : Int)) (hd : decode cc pc = .ok (.laload, 1)) (k : Gj p l e R s m args below meth c Q G nL (pc + 1) lv (.long (lI (w o f a.toNat)) :: st) w) : Gj p l e R s m args below meth c Q G nL pc lv (.int (iI a) :: .ref (gAr G o f) :: st) w := by
  intro H locs ls h1 h2 h3
  have hc := (h1 o ci ho).2 f hf (isA_of hk (by decide))
  rw [hk] at hc
  have hcl : (iI a).toNatClampNeg = a.toNat := iI_clamp h0 (by omega)
  have hin := iI_in h0 ha (by omega)
  exact W.lald (v := .long (lI (w o f a.toNat))) X.1.1 X.1.2.1 hc ((X.2.2.1.2 1 _ rfl).1 n (fun j => .long (lI (w o f j)))) (fun q => by cases q) (by show ¬ (_ ∨ (arrV _ _ _).slots.size ≤ _); rw [arrV_size]; exact hin) (by show (arrV _ _ _).slots[_]? = _; rw [arrV_read _ _ (by rw [hcl]; omega), hcl]) rfl rfl hd (k H locs ls h1 h2 h3)
theorem g_aald (X : Cx p s m args meth c cc nL ret own G) {ci o f n o' : Nat} (ho : gOb G o = some ci) (hf : f < nfX ci) (hk : fkX ci f = (5, n)) (hn : n ≤ 100000) {a : Int} (h0 : 0 ≤ a) (ha : a < (n : Int)) (ho' : gLk G o (100 + a.toNat) = o') (hd : decode cc pc = .ok (.aaload, 1)) (k : Gj p l e R s m args below meth c Q G nL (pc + 1) lv (.ref (gAd G o') :: st) w) : Gj p l e R s m args below meth c Q G nL pc lv (.int (iI a) :: .ref (gAr G o f) :: st) w := by
  intro H locs ls h1 h2 h3
  have hc := (h1 o ci ho).2 f hf (isA_of hk (by decide))
  rw [hk] at hc
  have hcl : (iI a).toNatClampNeg = a.toNat := iI_clamp h0 (by omega)
  have hin := iI_in h0 ha (by omega)
  subst ho'
  exact W.aald (v := .ref (gAd G (gLk G o (100 + a.toNat)))) (ty := .object "ColdHouse$State") X.1.1 X.1.2.1 hc ((X.2.2.1.2 3 _ rfl).1 n (fun j => va_rf (some (gAd G (gLk G o (100 + j)))))) rfl (fun q => by cases q) (by show ¬ (_ ∨ (arrV _ _ _).slots.size ≤ _); rw [arrV_size]; exact hin) (by show (arrV _ _ _).slots[_]? = _; rw [arrV_read _ _ (by rw [hcl]; omega), hcl]; rfl) rfl rfl hd (k H locs ls h1 h2 h3)
theorem g_iast (X : Cx p s m args meth c cc nL ret own G) {ci o f n : Nat} (ho : gOb G o = some ci) (hf : f < nfX ci) (hk : fkX ci f = (1, n)) (hn : n ≤ 100000) {a v : Int} (h0 : 0 ≤ a) (ha : a < (n : Int)) (hd : decode cc pc = .ok (.iastore, 1)) (k : Gj p l e R s m args below meth c Q G nL (pc + 1) lv st (up w o f a.toNat v)) : Gj p l e R s m args below meth c Q G nL pc lv (.int (iI v) :: .int (iI a) :: .ref (gAr G o f) :: st) w := by
  intro H locs ls h1 h2 h3
  have hA := isA_of hk (Or.inl rfl)
  have hc := (h1 o ci ho).2 f hf hA
  rw [hk] at hc
  have hcl : (iI a).toNatClampNeg = a.toNat := iI_clamp h0 (by omega)
  have hin := iI_in h0 ha (by omega)
  refine W.iast X.1.1 X.1.2.1 hc ((X.2.2.1.2 0 _ rfl).1 n (fun j => .int (iI (w o f j)))) (fun q => by cases q) (by show ¬ (_ ∨ (arrV _ _ _).slots.size ≤ _); rw [arrV_size]; exact hin) rfl rfl hd fun H1 e z oq => ?_
  refine k H1 _ ls (h1.puta X.2.1 ho hf hA (fun o' f' j' hq => up_ne (fun q => hq ⟨q.1, q.2.1⟩)) ?_ oq) (h2.put z oq (gA_a ho hf hA)) h3
  rw [e, hk, hcl]
  simp only [acell]
  rw [vp_cell_i, vp_cell_i]
  rw [arrV_store]
  congr 2
  funext q
  by_cases hq : q = a.toNat <;> simp [updV, up, hq]
theorem g_last (X : Cx p s m args meth c cc nL ret own G) {ci o f n : Nat} (ho : gOb G o = some ci) (hf : f < nfX ci) (hk : fkX ci f = (2, n)) (hn : n ≤ 100000) {a v : Int} (h0 : 0 ≤ a) (ha : a < (n : Int)) (hd : decode cc pc = .ok (.lastore, 1)) (k : Gj p l e R s m args below meth c Q G nL (pc + 1) lv st (up w o f a.toNat v)) : Gj p l e R s m args below meth c Q G nL pc lv (.long (lI v) :: .int (iI a) :: .ref (gAr G o f) :: st) w := by
  intro H locs ls h1 h2 h3
  have hA := isA_of hk (Or.inr (Or.inl rfl))
  have hc := (h1 o ci ho).2 f hf hA
  rw [hk] at hc
  have hcl : (iI a).toNatClampNeg = a.toNat := iI_clamp h0 (by omega)
  have hin := iI_in h0 ha (by omega)
  refine W.last X.1.1 X.1.2.1 hc ((X.2.2.1.2 1 _ rfl).1 n (fun j => .long (lI (w o f j)))) (fun q => by cases q) (by show ¬ (_ ∨ (arrV _ _ _).slots.size ≤ _); rw [arrV_size]; exact hin) rfl rfl hd fun H1 e z oq => ?_
  refine k H1 _ ls (h1.puta X.2.1 ho hf hA (fun o' f' j' hq => up_ne (fun q => hq ⟨q.1, q.2.1⟩)) ?_ oq) (h2.put z oq (gA_a ho hf hA)) h3
  rw [e, hk, hcl]
  simp only [acell]
  rw [vp_cell_l, vp_cell_l]
  rw [arrV_store]
  congr 2
  funext q
  by_cases hq : q = a.toNat <;> simp [updV, up, hq]
theorem g_cast (X : Cx p s m args meth c cc nL ret own G) {ci o f n : Nat} (ho : gOb G o = some ci) (hf : f < nfX ci) (hk : fkX ci f = (3, n)) (hn : n ≤ 100000) {a v : Int} (h0 : 0 ≤ a) (ha : a < (n : Int)) (hv : narrow .char (.int (iI v)) = .int (iI v)) (hd : decode cc pc = .ok (.castore, 1)) (k : Gj p l e R s m args below meth c Q G nL (pc + 1) lv st (up w o f a.toNat v)) : Gj p l e R s m args below meth c Q G nL pc lv (.int (iI v) :: .int (iI a) :: .ref (gAr G o f) :: st) w := by
  intro H locs ls h1 h2 h3
  have hA := isA_of hk (Or.inr (Or.inr (Or.inl rfl)))
  have hc := (h1 o ci ho).2 f hf hA
  rw [hk] at hc
  have hcl : (iI a).toNatClampNeg = a.toNat := iI_clamp h0 (by omega)
  have hin := iI_in h0 ha (by omega)
  refine W.cast X.1.1 X.1.2.1 hc ((X.2.2.1.2 2 _ rfl).1 n (fun j => .int (iI (w o f j)))) (fun q => by cases q) (by show ¬ (_ ∨ (arrV _ _ _).slots.size ≤ _); rw [arrV_size]; exact hin) rfl rfl hd fun H1 e z oq => ?_
  refine k H1 _ ls (h1.puta X.2.1 ho hf hA (fun o' f' j' hq => up_ne (fun q => hq ⟨q.1, q.2.1⟩)) ?_ oq) (h2.put z oq (gA_a ho hf hA)) h3
  rw [e, hk, hcl]
  simp only [acell]
  rw [vp_cell_i, vp_cell_i]
  rw [arrV_store, hv]
  congr 2
  funext q
  by_cases hq : q = a.toNat <;> simp [updV, up, hq]
theorem g_alen (X : Cx p s m args meth c cc nL ret own G) {ci o f n : Nat} (ho : gOb G o = some ci) (hf : f < nfX ci) (hk : fkX ci f = (1, n)) (hd : decode cc pc = .ok (.arraylength, 1)) (k : Gj p l e R s m args below meth c Q G nL (pc + 1) lv (.int (iI (n : Int)) :: st) w) : Gj p l e R s m args below meth c Q G nL pc lv (.ref (gAr G o f) :: st) w := by
  intro H locs ls h1 h2 h3
  have hc := (h1 o ci ho).2 f hf (isA_of hk (Or.inl rfl))
  rw [hk] at hc
  exact W.alen (n := iI (n : Int)) X.1.1 X.1.2.1 hc ((X.2.2.1.2 0 _ rfl).1 n (fun j => .int (iI (w o f j)))) (by show ((arrV _ _ _).slots.size).toInt32 = _; rw [arrV_size]; exact (Int32.ofInt_eq_ofNat).symm) rfl rfl hd (k H locs ls h1 h2 h3)
theorem g_gets (X : Cx p s m args meth c cc nL ret own G) {idx : Nat} (k0 : Nat) (hk : k0 < 9) (hl : Cond.fieldLink own idx "ColdHouse" (snX k0) "[I" ∈ gw) (hd : decode cc pc = .ok (.getstatic idx, 3)) (k : Gj p l e R s m args below meth c Q G nL (pc + 3) lv (.ref (gSa G k0) :: st) w) : Gj p l e R s m args below meth c Q G nL pc lv st w :=
  fun H locs ls h1 h2 h3 => va_gets X.1.1 X.1.2.1 (X.2.2.2.2 k0 hk).1 h2 X.1.2.2.2.1 (X.1.2.2.2.2.1 _ hl) (fun _ h => h) hd (k H locs ls h1 h2 h3)
theorem g_getsN (X : Cx p s m args meth c cc nL ret own G) {idx : Nat} (k0 : Nat) (hk : k0 < 9) (hl : Cond.fieldLinkNest own idx "ColdHouse" (snX k0) "[I" "ColdHouse" ∈ nw) (hd : decode cc pc = .ok (.getstatic idx, 3)) (k : Gj p l e R s m args below meth c Q G nL (pc + 3) lv (.ref (gSa G k0) :: st) w) : Gj p l e R s m args below meth c Q G nL pc lv st w :=
  fun H locs ls h1 h2 h3 => va_getsN X.1.1 X.1.2.1 (X.2.2.2.2 k0 hk).1 h2 X.1.2.2.2.1 (va_Nw.use rfl (X.2.2.2.1 _ hl)) (fun _ h => h) hd (k H locs ls h1 h2 h3)
theorem g_sald (X : Cx p s m args meth c cc nL ret own G) (k0 : Nat) (hk : k0 < 9) {a v : Int} (h0 : 0 ≤ a) (ha : a < ((slX k0).length : Int)) (hv : (slX k0).getD a.toNat 0 = v) (hn : (slX k0).length ≤ 100000) (hd : decode cc pc = .ok (.iaload, 1)) (k : Gj p l e R s m args below meth c Q G nL (pc + 1) lv (.int (iI v) :: st) w) : Gj p l e R s m args below meth c Q G nL pc lv (.int (iI a) :: .ref (gSa G k0) :: st) w :=
  fun H locs ls h1 h2 h3 => va_ti X.1.1 X.1.2.1 (X.2.2.2.2 k0 hk).2 h2 (iI_in h0 ha (by omega)) (v := .int (iI v)) (by rw [iI_clamp h0 (by omega), hv]) hd (k H locs ls h1 h2 h3)
theorem g_slen (X : Cx p s m args meth c cc nL ret own G) (k0 : Nat) (hk : k0 < 9) (hd : decode cc pc = .ok (.arraylength, 1)) (k : Gj p l e R s m args below meth c Q G nL (pc + 1) lv (.int (iI ((slX k0).length : Int)) :: st) w) : Gj p l e R s m args below meth c Q G nL pc lv (.ref (gSa G k0) :: st) w :=
  fun H locs ls h1 h2 h3 => va_tlen X.1.1 X.1.2.1 (X.2.2.2.2 k0 hk).2 h2 (v := iI ((slX k0).length : Int)) (Int32.ofInt_eq_ofNat).symm hd (k H locs ls h1 h2 h3)
theorem g_iret (X : Cx p s m args meth c cc nL ret own G) {post : Int → Wd → Prop} {z : Int} {ty : FieldType} (hr : ret = some ty) (hn : narrow ty (.int (iI z)) = .int (iI z)) (hd : decode cc pc = .ok (.ireturn, 1)) (hp : post z w) : Gj p l e R s m args below meth c (Qi below args s G post) G nL pc lv [.int (iI z)] w :=
  fun H locs ls h1 h2 h3 => W.zret (ty := ty) X.1.1 X.1.2.1 (X.1.2.2.2.2.2.2.trans hr) hn (fun t ht hW => ⟨⟨iI z, w, rfl, ⟨z, rfl, hp⟩, (show Hold G w t.heap by rw [ht]; exact h1)⟩, h2.F ht⟩) h2.2.2 hd X.1.2.2.2.2.2.1
theorem g_vret (X : Cx p s m args meth c cc nL ret own G) {post : Wd → Prop} (hr : ret = none) (hd : decode cc pc = .ok (.return_, 1)) (hp : post w) : Gj p l e R s m args below meth c (Qv below args s G post) G nL pc lv [] w :=
  fun H locs ls h1 h2 h3 => W.vret X.1.1 X.1.2.1 (X.1.2.2.2.2.2.2.trans hr) (fun t ht hW => ⟨⟨w, rfl, hp, (show Hold G w t.heap by rw [ht]; exact h1)⟩, h2.F ht⟩) h2.2.2 hd X.1.2.2.2.2.2.1
theorem g_lret (X : Cx p s m args meth c cc nL ret own G) {post : Int → Wd → Prop} {z : Int} (hr : ret = some .long) (hd : decode cc pc = .ok (.lreturn, 1)) (hp : post z w) : Gj p l e R s m args below meth c (Ql below args s G post) G nL pc lv [.long (lI z)] w :=
  fun H locs ls h1 h2 h3 => W.lret X.1.1 X.1.2.1 (X.1.2.2.2.2.2.2.trans hr) (fun t ht hW => ⟨⟨lI z, w, rfl, ⟨z, rfl, hp⟩, (show Hold G w t.heap by rw [ht]; exact h1)⟩, h2.F ht⟩) h2.2.2 hd X.1.2.2.2.2.2.1
theorem g_max (X : Cx p s m args meth c cc nL ret own G) {a b : Int} {idx : Nat} (hl : Cond.methodLink own idx Lib.Math.max.name ∈ gw) (ha : InR a) (hb : InR b) (hR : 1 ≤ R.frames ∧ 21 ≤ R.locals) (hcat : (st.map fun v => v.category).sum ≤ 8) (hd : decode cc pc = .ok (.invokestatic idx, 3)) (k : Gj p l e R s m args below meth c Q G nL (pc + 3) lv (.int (iI (max a b)) :: st) w) : Gj p l e R s m args below meth c Q G nL pc lv (.int (iI b) :: .int (iI a) :: st) w := by
  intro H locs ls h1 h2 h3
  refine va_mmax X.1.1 X.1.2.1 (X.1.2.2.1.trans h3.1.symm) X.1.2.2.2.1 (X.1.2.2.2.2.1 _ hl) (X.1.2.2.2.2.1 _ mmax_st) (X.1.2.2.2.2.1 _ ini_J9) (X.1.2.2.2.2.1 _ mmax_co) hR.1 (by omega) (Nat.zero_le _) (Nat.zero_le _) hd ?_
  have h := k H locs ls h1 h2 h3
  have e : (if iI a < iI b then iI b else iI a) = iI (max a b) := by
    by_cases q : a < b
    · rw [if_pos ((iI_lt ha hb).mpr q), Int.max_eq_right (by omega)]
    · rw [if_neg (fun z => q ((iI_lt ha hb).mp z)), Int.max_eq_left (by omega)]
  rw [e]
  exact h
theorem g_min (X : Cx p s m args meth c cc nL ret own G) {a b : Int} {idx : Nat} (hl : Cond.methodLink own idx Lib.Math.min.name ∈ gw) (ha : InR a) (hb : InR b) (hR : 1 ≤ R.frames ∧ 21 ≤ R.locals) (hcat : (st.map fun v => v.category).sum ≤ 8) (hd : decode cc pc = .ok (.invokestatic idx, 3)) (k : Gj p l e R s m args below meth c Q G nL (pc + 3) lv (.int (iI (min a b)) :: st) w) : Gj p l e R s m args below meth c Q G nL pc lv (.int (iI b) :: .int (iI a) :: st) w := by
  intro H locs ls h1 h2 h3
  refine va_mmin X.1.1 X.1.2.1 (X.1.2.2.1.trans h3.1.symm) X.1.2.2.2.1 (X.1.2.2.2.2.1 _ hl) (X.1.2.2.2.2.1 _ mmin_st) (X.1.2.2.2.2.1 _ ini_J9) (X.1.2.2.2.2.1 _ mmin_co) hR.1 (by omega) (Nat.zero_le _) (Nat.zero_le _) hd ?_
  have h := k H locs ls h1 h2 h3
  have e : (if iI b < iI a then iI b else iI a) = iI (min a b) := by
    by_cases q : b < a
    · rw [if_pos ((iI_lt hb ha).mpr q), Int.min_eq_right (by omega)]
    · rw [if_neg (fun z => q ((iI_lt hb ha).mp z)), Int.min_eq_left (by omega)]
  rw [e]
  exact h
theorem blindW {av : List Value} : FrameBlind (va_Pc av (AtW G w)) := fun a U g mk h => ⟨h.1, h.2.1, h.2.2.call⟩
theorem giX {c0 cy : Cond} (h : cy ∈ gw) : GoodIn (c0 :: gw) (cy :: gw) := fun q hq => by
  rcases List.mem_cons.mp hq with rfl | hq
  · exact ⟨List.mem_cons_of_mem _ h, gw_good h⟩
  · exact ⟨List.mem_cons_of_mem _ hq, gw_good hq⟩
theorem giY {cy : Cond} (h : cy ∈ gw) : GoodIn gw (cy :: gw) := fun q hq => by
  rcases List.mem_cons.mp hq with rfl | hq
  · exact ⟨h, gw_good h⟩
  · exact ⟨hq, gw_good hq⟩
/-- a callee: its words -/
def CM (y : MethodName) (b : ByteArray) (n : Nat) (rt : Option FieldType) (np : Nat) : Prop := Cond.code y b n rt ∈ gw ∧ Cond.initialized y.cls ∈ gw ∧ (y.cls ≠ "java/lang/invoke/MethodHandle" ∧ y.cls ≠ "java/lang/invoke/VarHandle" ∧ (parseMethodDescriptor y.desc).map (fun d => d.parameters.length) = some np)
theorem runV (X : Cx p s m args meth c cc nL ret own G) {y : MethodName} {b : ByteArray} {n rf rl np idx o ci : Nat} {rt : Option FieldType} {C : String} {T : u_T} {N : Nat} {ty : Nat → FieldType} {As stk : List Value} {Qc : Array Value → State → Outcome → State → Prop} {H : Heap} {locs : List Loc} {ls : Array Slot}
    (hM : Met l y (.code y b n rt :: gw) (rmX rf rl) (va_Pc (.ref (gAd G o) :: As) (AtW G w)) Qc 0 0 (gA G)) (hc : CM y b n rt np) (hi : Cond.instanceMethod y ∈ gw) (hse : Cond.selects C y y ∈ gw) (hl : Cond.methodLink own idx y ∈ gw) (K : CK ci C T N ty) (ho : gOb G o = some ci) (hR : rf + 1 ≤ R.frames ∧ 8 + (n + 11) + rl ≤ R.locals)
    (hn : As.length = np) (hst : stk = As.reverse ++ .ref (gAd G o) :: st) (hcat : (st.map fun v => v.category).sum ≤ 8) (hd : decode cc pc = .ok (.invokevirtual idx, 3)) (h1 : Hold G w H) (h2 : va_S (gA G) s.heap H locs) (h3 : lv_has ls nL lv) :
    va_Run p l e R s m args below meth c H locs 0 0 0 0 (F0 m pc ls stk) st (Qc (Value.ref (gAd G o) :: As).toArray) (gA G) := by
  have ht := X.1.2.2.2.2.1
  refine va_runV (Ts := gw) ⟨X.1.1, X.1.2.1, X.1.2.2.1, X.1.2.2.2.1, ht⟩ hM ⟨callB_of np ht (giY hc.1) rfl rfl rfl (ht _ hc.2.1) (ht _ hl) hc.2.2 hR, ht _ hi, ht _ hse⟩ ⟨blindW, ?_, fun U hU hW => ⟨rfl, by rw [hU]; exact h1, X.2.go h2 hU hW⟩⟩ rfl hn h3.1 hst (lv_room hcat) hd ⟨Nat.zero_le _, Nat.zero_le _⟩
  obtain ⟨⟨cell, q1, q2, q3, -⟩, -⟩ := h1 o ci ho
  obtain ⟨-, hfc, -⟩ := X.2.2.1.1 ci _ K.1
  exact ⟨cell, q1, by rw [q3]; rfl, by rw [q2]; exact hfc⟩
theorem runS (X : Cx p s m args meth c cc nL ret own G) {y : MethodName} {b : ByteArray} {n rf rl np idx : Nat} {rt : Option FieldType} {As stk : List Value} {Qc : Array Value → State → Outcome → State → Prop} {H : Heap} {locs : List Loc} {ls : Array Slot}
    (hM : Met l y (.code y b n rt :: gw) (rmX rf rl) (va_Pc As (AtW G w)) Qc 0 0 (gA G)) (hc : CM y b n rt np) (hs : Cond.static y ∈ gw) (hl : Cond.methodLink own idx y ∈ gw) (hR : rf + 1 ≤ R.frames ∧ 8 + (n + 11) + rl ≤ R.locals)
    (hn : As.length = np) (hst : stk = As.reverse ++ st) (hcat : (st.map fun v => v.category).sum ≤ 8) (hd : decode cc pc = .ok (.invokestatic idx, 3)) (h1 : Hold G w H) (h2 : va_S (gA G) s.heap H locs) (h3 : lv_has ls nL lv) :
    va_Run p l e R s m args below meth c H locs 0 0 0 0 (F0 m pc ls stk) st (Qc As.toArray) (gA G) := by
  have ht := X.1.2.2.2.2.1
  exact va_runS (Ts := gw) ⟨X.1.1, X.1.2.1, X.1.2.2.1, X.1.2.2.2.1, ht⟩ hM ⟨callB_of np ht (giY hc.1) rfl rfl rfl (ht _ hc.2.1) (ht _ hl) hc.2.2 hR, ht _ hs⟩ ⟨blindW, fun U hU hW => ⟨rfl, by rw [hU]; exact h1, X.2.go h2 hU hW⟩⟩ rfl hn h3.1 hst (lv_room hcat) hd ⟨Nat.zero_le _, Nat.zero_le _⟩
theorem runSN (X : Cx p s m args meth c cc nL ret own G) {y : MethodName} {b : ByteArray} {n rf rl np idx : Nat} {rt : Option FieldType} {As stk : List Value} {Qc : Array Value → State → Outcome → State → Prop} {H : Heap} {locs : List Loc} {ls : Array Slot}
    (hM : Met l y (.code y b n rt :: gw) (rmX rf rl) (va_Pc As (AtW G w)) Qc 0 0 (gA G)) (hc : CM y b n rt np) (hs : Cond.static y ∈ gw) (hl : Cond.methodLinkNest own idx y "ColdHouse" ∈ nw) (hR : rf + 1 ≤ R.frames ∧ 8 + (n + 11) + rl ≤ R.locals)
    (hn : As.length = np) (hst : stk = As.reverse ++ st) (hcat : (st.map fun v => v.category).sum ≤ 8) (hd : decode cc pc = .ok (.invokestatic idx, 3)) (h1 : Hold G w H) (h2 : va_S (gA G) s.heap H locs) (h3 : lv_has ls nL lv) :
    va_Run p l e R s m args below meth c H locs 0 0 0 0 (F0 m pc ls stk) st (Qc As.toArray) (gA G) := by
  have ht := X.1.2.2.2.2.1
  exact va_runSN (Ts := gw) ⟨X.1.1, X.1.2.1, X.1.2.2.1, X.1.2.2.2.1, ht⟩ hM ⟨va_cnB np ht (giY hc.1) rfl rfl rfl (X.2.2.2.1 _ hl) (ht _ hc.2.1) hc.2.2 hR, ht _ hs, trivial⟩ ⟨blindW, fun U hU hW => ⟨rfl, by rw [hU]; exact h1, X.2.go h2 hU hW⟩⟩ rfl hn h3.1 hst (lv_room hcat) hd ⟨Nat.zero_le _, Nat.zero_le _⟩
theorem g_calli (X : Cx p s m args meth c cc nL ret own G) {y : MethodName} {b : ByteArray} {n rf rl np idx o ci : Nat} {rt : Option FieldType} {C : String} {T : u_T} {N : Nat} {ty : Nat → FieldType} {As stk : List Value} {post : Int → Wd → Prop} (hM : Mi l y b n rt rf rl G (.ref (gAd G o) :: As) w post) (hc : CM y b n rt np) (hi : Cond.instanceMethod y ∈ gw) (hse : Cond.selects C y y ∈ gw) (hl : Cond.methodLink own idx y ∈ gw) (K : CK ci C T N ty) (ho : gOb G o = some ci) (hR : rf + 1 ≤ R.frames ∧ 8 + (n + 11) + rl ≤ R.locals) (hn : As.length = np) (hst : stk = As.reverse ++ .ref (gAd G o) :: st) (hcat : (st.map fun v => v.category).sum ≤ 8) (hd : decode cc pc = .ok (.invokevirtual idx, 3)) (k : ∀ (z : Int) (w' : Wd), post z w' → Gj p l e R s m args below meth c Q G nL (pc + 3) lv (.int (iI z) :: st) w') : Gj p l e R s m args below meth c Q G nL pc lv stk w :=
  fun H locs ls h1 h2 h3 => va_calli (runV X hM hc hi hse hl K ho hR hn hst hcat hd h1 h2 h3) h2 (fun _ _ h => h) (fun _ h => h) (fun r u t H1 locs1 ht hvm hw hB hz hk hS => by obtain ⟨z, rfl, hp⟩ := hw; exact k z u hp H1 locs1 ls (by rw [← ht]; exact hB) hS h3)
theorem g_callsi (X : Cx p s m args meth c cc nL ret own G) {y : MethodName} {b : ByteArray} {n rf rl np idx : Nat} {rt : Option FieldType} {As stk : List Value} {post : Int → Wd → Prop} (hM : Mi l y b n rt rf rl G As w post) (hc : CM y b n rt np) (hs : Cond.static y ∈ gw) (hl : Cond.methodLink own idx y ∈ gw) (hR : rf + 1 ≤ R.frames ∧ 8 + (n + 11) + rl ≤ R.locals) (hn : As.length = np) (hst : stk = As.reverse ++ st) (hcat : (st.map fun v => v.category).sum ≤ 8) (hd : decode cc pc = .ok (.invokestatic idx, 3)) (k : ∀ (z : Int) (w' : Wd), post z w' → Gj p l e R s m args below meth c Q G nL (pc + 3) lv (.int (iI z) :: st) w') : Gj p l e R s m args below meth c Q G nL pc lv stk w :=
  fun H locs ls h1 h2 h3 => va_calli (runS X hM hc hs hl hR hn hst hcat hd h1 h2 h3) h2 (fun _ _ h => h) (fun _ h => h) (fun r u t H1 locs1 ht hvm hw hB hz hk hS => by obtain ⟨z, rfl, hp⟩ := hw; exact k z u hp H1 locs1 ls (by rw [← ht]; exact hB) hS h3)
theorem g_callni (X : Cx p s m args meth c cc nL ret own G) {y : MethodName} {b : ByteArray} {n rf rl np idx : Nat} {rt : Option FieldType} {As stk : List Value} {post : Int → Wd → Prop} (hM : Mi l y b n rt rf rl G As w post) (hc : CM y b n rt np) (hs : Cond.static y ∈ gw) (hl : Cond.methodLinkNest own idx y "ColdHouse" ∈ nw) (hR : rf + 1 ≤ R.frames ∧ 8 + (n + 11) + rl ≤ R.locals) (hn : As.length = np) (hst : stk = As.reverse ++ st) (hcat : (st.map fun v => v.category).sum ≤ 8) (hd : decode cc pc = .ok (.invokestatic idx, 3)) (k : ∀ (z : Int) (w' : Wd), post z w' → Gj p l e R s m args below meth c Q G nL (pc + 3) lv (.int (iI z) :: st) w') : Gj p l e R s m args below meth c Q G nL pc lv stk w :=
  fun H locs ls h1 h2 h3 => va_calli (runSN X hM hc hs hl hR hn hst hcat hd h1 h2 h3) h2 (fun _ _ h => h) (fun _ h => h) (fun r u t H1 locs1 ht hvm hw hB hz hk hS => by obtain ⟨z, rfl, hp⟩ := hw; exact k z u hp H1 locs1 ls (by rw [← ht]; exact hB) hS h3)
theorem g_callv (X : Cx p s m args meth c cc nL ret own G) {y : MethodName} {b : ByteArray} {n rf rl np idx o ci : Nat} {rt : Option FieldType} {C : String} {T : u_T} {N : Nat} {ty : Nat → FieldType} {As stk : List Value} {post : Wd → Prop} (hM : Mv l y b n rt rf rl G (.ref (gAd G o) :: As) w post) (hc : CM y b n rt np) (hi : Cond.instanceMethod y ∈ gw) (hse : Cond.selects C y y ∈ gw) (hl : Cond.methodLink own idx y ∈ gw) (K : CK ci C T N ty) (ho : gOb G o = some ci) (hR : rf + 1 ≤ R.frames ∧ 8 + (n + 11) + rl ≤ R.locals) (hn : As.length = np) (hst : stk = As.reverse ++ .ref (gAd G o) :: st) (hcat : (st.map fun v => v.category).sum ≤ 8) (hd : decode cc pc = .ok (.invokevirtual idx, 3)) (k : ∀ (w' : Wd), post w' → Gj p l e R s m args below meth c Q G nL (pc + 3) lv st w') : Gj p l e R s m args below meth c Q G nL pc lv stk w :=
  fun H locs ls h1 h2 h3 => va_callv (runV X hM hc hi hse hl K ho hR hn hst hcat hd h1 h2 h3) h2 (fun _ _ h => h) (fun _ h => h) (fun u t H1 locs1 ht hvm hw hB hz hk hS => k u hw H1 locs1 ls (by rw [← ht]; exact hB) hS h3)
theorem g_callsv (X : Cx p s m args meth c cc nL ret own G) {y : MethodName} {b : ByteArray} {n rf rl np idx : Nat} {rt : Option FieldType} {As stk : List Value} {post : Wd → Prop} (hM : Mv l y b n rt rf rl G As w post) (hc : CM y b n rt np) (hs : Cond.static y ∈ gw) (hl : Cond.methodLink own idx y ∈ gw) (hR : rf + 1 ≤ R.frames ∧ 8 + (n + 11) + rl ≤ R.locals) (hn : As.length = np) (hst : stk = As.reverse ++ st) (hcat : (st.map fun v => v.category).sum ≤ 8) (hd : decode cc pc = .ok (.invokestatic idx, 3)) (k : ∀ (w' : Wd), post w' → Gj p l e R s m args below meth c Q G nL (pc + 3) lv st w') : Gj p l e R s m args below meth c Q G nL pc lv stk w :=
  fun H locs ls h1 h2 h3 => va_callv (runS X hM hc hs hl hR hn hst hcat hd h1 h2 h3) h2 (fun _ _ h => h) (fun _ h => h) (fun u t H1 locs1 ht hvm hw hB hz hk hS => k u hw H1 locs1 ls (by rw [← ht]; exact hB) hS h3)
theorem g_callnv (X : Cx p s m args meth c cc nL ret own G) {y : MethodName} {b : ByteArray} {n rf rl np idx : Nat} {rt : Option FieldType} {As stk : List Value} {post : Wd → Prop} (hM : Mv l y b n rt rf rl G As w post) (hc : CM y b n rt np) (hs : Cond.static y ∈ gw) (hl : Cond.methodLinkNest own idx y "ColdHouse" ∈ nw) (hR : rf + 1 ≤ R.frames ∧ 8 + (n + 11) + rl ≤ R.locals) (hn : As.length = np) (hst : stk = As.reverse ++ st) (hcat : (st.map fun v => v.category).sum ≤ 8) (hd : decode cc pc = .ok (.invokestatic idx, 3)) (k : ∀ (w' : Wd), post w' → Gj p l e R s m args below meth c Q G nL (pc + 3) lv st w') : Gj p l e R s m args below meth c Q G nL pc lv stk w :=
  fun H locs ls h1 h2 h3 => va_callv (runSN X hM hc hs hl hR hn hst hcat hd h1 h2 h3) h2 (fun _ _ h => h) (fun _ h => h) (fun u t H1 locs1 ht hvm hw hB hz hk hS => k u hw H1 locs1 ls (by rw [← ht]; exact hB) hS h3)
theorem g_calll (X : Cx p s m args meth c cc nL ret own G) {y : MethodName} {b : ByteArray} {n rf rl np idx o ci : Nat} {rt : Option FieldType} {C : String} {T : u_T} {N : Nat} {ty : Nat → FieldType} {As stk : List Value} {post : Int → Wd → Prop} (hM : Ml l y b n rt rf rl G (.ref (gAd G o) :: As) w post) (hc : CM y b n rt np) (hi : Cond.instanceMethod y ∈ gw) (hse : Cond.selects C y y ∈ gw) (hl : Cond.methodLink own idx y ∈ gw) (K : CK ci C T N ty) (ho : gOb G o = some ci) (hR : rf + 1 ≤ R.frames ∧ 8 + (n + 11) + rl ≤ R.locals) (hn : As.length = np) (hst : stk = As.reverse ++ .ref (gAd G o) :: st) (hcat : (st.map fun v => v.category).sum ≤ 8) (hd : decode cc pc = .ok (.invokevirtual idx, 3)) (k : ∀ (z : Int) (w' : Wd), post z w' → Gj p l e R s m args below meth c Q G nL (pc + 3) lv (.long (lI z) :: st) w') : Gj p l e R s m args below meth c Q G nL pc lv stk w :=
  fun H locs ls h1 h2 h3 => va_calll (runV X hM hc hi hse hl K ho hR hn hst hcat hd h1 h2 h3) h2 (fun _ _ h => h) (fun _ h => h) (fun r u t H1 locs1 ht hvm hw hB hz hk hS => by obtain ⟨z, rfl, hp⟩ := hw; exact k z u hp H1 locs1 ls (by rw [← ht]; exact hB) hS h3)
theorem g_callsl (X : Cx p s m args meth c cc nL ret own G) {y : MethodName} {b : ByteArray} {n rf rl np idx : Nat} {rt : Option FieldType} {As stk : List Value} {post : Int → Wd → Prop} (hM : Ml l y b n rt rf rl G As w post) (hc : CM y b n rt np) (hs : Cond.static y ∈ gw) (hl : Cond.methodLink own idx y ∈ gw) (hR : rf + 1 ≤ R.frames ∧ 8 + (n + 11) + rl ≤ R.locals) (hn : As.length = np) (hst : stk = As.reverse ++ st) (hcat : (st.map fun v => v.category).sum ≤ 8) (hd : decode cc pc = .ok (.invokestatic idx, 3)) (k : ∀ (z : Int) (w' : Wd), post z w' → Gj p l e R s m args below meth c Q G nL (pc + 3) lv (.long (lI z) :: st) w') : Gj p l e R s m args below meth c Q G nL pc lv stk w :=
  fun H locs ls h1 h2 h3 => va_calll (runS X hM hc hs hl hR hn hst hcat hd h1 h2 h3) h2 (fun _ _ h => h) (fun _ h => h) (fun r u t H1 locs1 ht hvm hw hB hz hk hS => by obtain ⟨z, rfl, hp⟩ := hw; exact k z u hp H1 locs1 ls (by rw [← ht]; exact hB) hS h3)
theorem g_callnl (X : Cx p s m args meth c cc nL ret own G) {y : MethodName} {b : ByteArray} {n rf rl np idx : Nat} {rt : Option FieldType} {As stk : List Value} {post : Int → Wd → Prop} (hM : Ml l y b n rt rf rl G As w post) (hc : CM y b n rt np) (hs : Cond.static y ∈ gw) (hl : Cond.methodLinkNest own idx y "ColdHouse" ∈ nw) (hR : rf + 1 ≤ R.frames ∧ 8 + (n + 11) + rl ≤ R.locals) (hn : As.length = np) (hst : stk = As.reverse ++ st) (hcat : (st.map fun v => v.category).sum ≤ 8) (hd : decode cc pc = .ok (.invokestatic idx, 3)) (k : ∀ (z : Int) (w' : Wd), post z w' → Gj p l e R s m args below meth c Q G nL (pc + 3) lv (.long (lI z) :: st) w') : Gj p l e R s m args below meth c Q G nL pc lv stk w :=
  fun H locs ls h1 h2 h3 => va_calll (runSN X hM hc hs hl hR hn hst hcat hd h1 h2 h3) h2 (fun _ _ h => h) (fun _ h => h) (fun r u t H1 locs1 ht hvm hw hB hz hk hS => by obtain ⟨z, rfl, hp⟩ := hw; exact k z u hp H1 locs1 ls (by rw [← ht]; exact hB) hS h3)
end RB
theorem ck_X0 : CK 0 RX0 TX0 6 tyX0 := ⟨rfl, in_X0, tyX0_ok, nmX0, rfl⟩
theorem ck_X1 : CK 1 RX1 TX1 3 tyX1 := ⟨rfl, in_X1, tyX1_ok, nmX1, rfl⟩
theorem ck_X2 : CK 2 RX2 TX2 14 tyX2 := ⟨rfl, in_X2, tyX2_ok, nmX2, rfl⟩
theorem ck_X3 : CK 3 RX3 TX3 3 tyX3 := ⟨rfl, in_X3, tyX3_ok, nmX3, rfl⟩
theorem ck_X4 : CK 4 RX4 TX4 9 tyX4 := ⟨rfl, in_X4, tyX4_ok, nmX4, rfl⟩
theorem ck_X5 : CK 5 RX5 TX5 2 tyX5 := ⟨rfl, in_X5, tyX5_ok, nmX5, rfl⟩
theorem ck_X6 : CK 6 RX6 TX6 15 tyX6 := ⟨rfl, in_X6, tyX6_ok, nmX6, rfl⟩
theorem ck_X7 : CK 7 RX7 TX7 8 tyX7 := ⟨rfl, in_X7, tyX7_ok, nmX7, rfl⟩
theorem ck_X8 : CK 8 RX8 TX8 15 tyX8 := ⟨rfl, in_X8, tyX8_ok, nmX8, rfl⟩
end
section
section RC
variable {p : Program} {l : Launch} {e : Env} {R : Room} {s : State} {m : MethodId} {args : Array Value} {below : List Frame} {meth : Method} {c : Code} {Q : State → Prop} {cc : ByteArray} {nL : Nat} {ret : Option FieldType} {own : String} {G : Ly} {pc : Nat} {lv : List (Nat × Value)} {st : List Value} {w : Wd}
theorem g_w {w' : Wd} (h : w' = w) (k : Gj p l e R s m args below meth c Q G nL pc lv st w') : Gj p l e R s m args below meth c Q G nL pc lv st w := h ▸ k
theorem g_loop1 {α0 : Type} (lvf : (α0 → List (Nat × Value))) (wf : (α0 → Wd)) (I : (α0 → Prop)) (M : (α0 → Nat)) (x0 : α0) (hI : I x0) (step : ∀ (x0 : α0), I x0 → (∀ (y0 : α0), I y0 → M y0 < M x0 → Gj p l e R s m args below meth c Q G nL pc (lvf y0) [] (wf y0)) → Gj p l e R s m args below meth c Q G nL pc (lvf x0) [] (wf x0)) : Gj p l e R s m args below meth c Q G nL pc (lvf x0) [] (wf x0) := by
  have key : ∀ (n : Nat) (x0 : α0), I x0 → M x0 < n → Gj p l e R s m args below meth c Q G nL pc (lvf x0) [] (wf x0) := by
    intro n
    induction n with
    | zero => intro x0 _ h; exact absurd h (Nat.not_lt_zero _)
    | succ n ih => intro x0 h1 h2; exact step x0 h1 (fun y0 g1 g2 => ih y0 g1 (by omega))
  exact key _ x0 hI (Nat.lt_succ_self _)
theorem g_cut1 {α0 : Type} {pc' : Nat} (lvf : (α0 → List (Nat × Value))) (stf : (α0 → List Value)) (wf : (α0 → Wd)) (I : (α0 → Prop)) (body : ∀ (x0 : α0), I x0 → Gj p l e R s m args below meth c Q G nL pc' (lvf x0) (stf x0) (wf x0)) (main : (∀ (x0 : α0), I x0 → Gj p l e R s m args below meth c Q G nL pc' (lvf x0) (stf x0) (wf x0)) → Gj p l e R s m args below meth c Q G nL pc lv st w) : Gj p l e R s m args below meth c Q G nL pc lv st w := main body
theorem g_loop2 {α0 α1 : Type} (lvf : (α0 → α1 → List (Nat × Value))) (wf : (α0 → α1 → Wd)) (I : (α0 → α1 → Prop)) (M : (α0 → α1 → Nat)) (x0 : α0) (x1 : α1) (hI : I x0 x1) (step : ∀ (x0 : α0) (x1 : α1), I x0 x1 → (∀ (y0 : α0) (y1 : α1), I y0 y1 → M y0 y1 < M x0 x1 → Gj p l e R s m args below meth c Q G nL pc (lvf y0 y1) [] (wf y0 y1)) → Gj p l e R s m args below meth c Q G nL pc (lvf x0 x1) [] (wf x0 x1)) : Gj p l e R s m args below meth c Q G nL pc (lvf x0 x1) [] (wf x0 x1) := by
  have key : ∀ (n : Nat) (x0 : α0) (x1 : α1), I x0 x1 → M x0 x1 < n → Gj p l e R s m args below meth c Q G nL pc (lvf x0 x1) [] (wf x0 x1) := by
    intro n
    induction n with
    | zero => intro x0 x1 _ h; exact absurd h (Nat.not_lt_zero _)
    | succ n ih => intro x0 x1 h1 h2; exact step x0 x1 h1 (fun y0 y1 g1 g2 => ih y0 y1 g1 (by omega))
  exact key _ x0 x1 hI (Nat.lt_succ_self _)
theorem g_cut2 {α0 α1 : Type} {pc' : Nat} (lvf : (α0 → α1 → List (Nat × Value))) (stf : (α0 → α1 → List Value)) (wf : (α0 → α1 → Wd)) (I : (α0 → α1 → Prop)) (body : ∀ (x0 : α0) (x1 : α1), I x0 x1 → Gj p l e R s m args below meth c Q G nL pc' (lvf x0 x1) (stf x0 x1) (wf x0 x1)) (main : (∀ (x0 : α0) (x1 : α1), I x0 x1 → Gj p l e R s m args below meth c Q G nL pc' (lvf x0 x1) (stf x0 x1) (wf x0 x1)) → Gj p l e R s m args below meth c Q G nL pc lv st w) : Gj p l e R s m args below meth c Q G nL pc lv st w := main body
theorem g_loop3 {α0 α1 α2 : Type} (lvf : (α0 → α1 → α2 → List (Nat × Value))) (wf : (α0 → α1 → α2 → Wd)) (I : (α0 → α1 → α2 → Prop)) (M : (α0 → α1 → α2 → Nat)) (x0 : α0) (x1 : α1) (x2 : α2) (hI : I x0 x1 x2) (step : ∀ (x0 : α0) (x1 : α1) (x2 : α2), I x0 x1 x2 → (∀ (y0 : α0) (y1 : α1) (y2 : α2), I y0 y1 y2 → M y0 y1 y2 < M x0 x1 x2 → Gj p l e R s m args below meth c Q G nL pc (lvf y0 y1 y2) [] (wf y0 y1 y2)) → Gj p l e R s m args below meth c Q G nL pc (lvf x0 x1 x2) [] (wf x0 x1 x2)) : Gj p l e R s m args below meth c Q G nL pc (lvf x0 x1 x2) [] (wf x0 x1 x2) := by
  have key : ∀ (n : Nat) (x0 : α0) (x1 : α1) (x2 : α2), I x0 x1 x2 → M x0 x1 x2 < n → Gj p l e R s m args below meth c Q G nL pc (lvf x0 x1 x2) [] (wf x0 x1 x2) := by
    intro n
    induction n with
    | zero => intro x0 x1 x2 _ h; exact absurd h (Nat.not_lt_zero _)
    | succ n ih => intro x0 x1 x2 h1 h2; exact step x0 x1 x2 h1 (fun y0 y1 y2 g1 g2 => ih y0 y1 y2 g1 (by omega))
  exact key _ x0 x1 x2 hI (Nat.lt_succ_self _)
theorem g_cut3 {α0 α1 α2 : Type} {pc' : Nat} (lvf : (α0 → α1 → α2 → List (Nat × Value))) (stf : (α0 → α1 → α2 → List Value)) (wf : (α0 → α1 → α2 → Wd)) (I : (α0 → α1 → α2 → Prop)) (body : ∀ (x0 : α0) (x1 : α1) (x2 : α2), I x0 x1 x2 → Gj p l e R s m args below meth c Q G nL pc' (lvf x0 x1 x2) (stf x0 x1 x2) (wf x0 x1 x2)) (main : (∀ (x0 : α0) (x1 : α1) (x2 : α2), I x0 x1 x2 → Gj p l e R s m args below meth c Q G nL pc' (lvf x0 x1 x2) (stf x0 x1 x2) (wf x0 x1 x2)) → Gj p l e R s m args below meth c Q G nL pc lv st w) : Gj p l e R s m args below meth c Q G nL pc lv st w := main body
theorem g_loop4 {α0 α1 α2 α3 : Type} (lvf : (α0 → α1 → α2 → α3 → List (Nat × Value))) (wf : (α0 → α1 → α2 → α3 → Wd)) (I : (α0 → α1 → α2 → α3 → Prop)) (M : (α0 → α1 → α2 → α3 → Nat)) (x0 : α0) (x1 : α1) (x2 : α2) (x3 : α3) (hI : I x0 x1 x2 x3) (step : ∀ (x0 : α0) (x1 : α1) (x2 : α2) (x3 : α3), I x0 x1 x2 x3 → (∀ (y0 : α0) (y1 : α1) (y2 : α2) (y3 : α3), I y0 y1 y2 y3 → M y0 y1 y2 y3 < M x0 x1 x2 x3 → Gj p l e R s m args below meth c Q G nL pc (lvf y0 y1 y2 y3) [] (wf y0 y1 y2 y3)) → Gj p l e R s m args below meth c Q G nL pc (lvf x0 x1 x2 x3) [] (wf x0 x1 x2 x3)) : Gj p l e R s m args below meth c Q G nL pc (lvf x0 x1 x2 x3) [] (wf x0 x1 x2 x3) := by
  have key : ∀ (n : Nat) (x0 : α0) (x1 : α1) (x2 : α2) (x3 : α3), I x0 x1 x2 x3 → M x0 x1 x2 x3 < n → Gj p l e R s m args below meth c Q G nL pc (lvf x0 x1 x2 x3) [] (wf x0 x1 x2 x3) := by
    intro n
    induction n with
    | zero => intro x0 x1 x2 x3 _ h; exact absurd h (Nat.not_lt_zero _)
    | succ n ih => intro x0 x1 x2 x3 h1 h2; exact step x0 x1 x2 x3 h1 (fun y0 y1 y2 y3 g1 g2 => ih y0 y1 y2 y3 g1 (by omega))
  exact key _ x0 x1 x2 x3 hI (Nat.lt_succ_self _)
theorem g_cut4 {α0 α1 α2 α3 : Type} {pc' : Nat} (lvf : (α0 → α1 → α2 → α3 → List (Nat × Value))) (stf : (α0 → α1 → α2 → α3 → List Value)) (wf : (α0 → α1 → α2 → α3 → Wd)) (I : (α0 → α1 → α2 → α3 → Prop)) (body : ∀ (x0 : α0) (x1 : α1) (x2 : α2) (x3 : α3), I x0 x1 x2 x3 → Gj p l e R s m args below meth c Q G nL pc' (lvf x0 x1 x2 x3) (stf x0 x1 x2 x3) (wf x0 x1 x2 x3)) (main : (∀ (x0 : α0) (x1 : α1) (x2 : α2) (x3 : α3), I x0 x1 x2 x3 → Gj p l e R s m args below meth c Q G nL pc' (lvf x0 x1 x2 x3) (stf x0 x1 x2 x3) (wf x0 x1 x2 x3)) → Gj p l e R s m args below meth c Q G nL pc lv st w) : Gj p l e R s m args below meth c Q G nL pc lv st w := main body
theorem g_loop5 {α0 α1 α2 α3 α4 : Type} (lvf : (α0 → α1 → α2 → α3 → α4 → List (Nat × Value))) (wf : (α0 → α1 → α2 → α3 → α4 → Wd)) (I : (α0 → α1 → α2 → α3 → α4 → Prop)) (M : (α0 → α1 → α2 → α3 → α4 → Nat)) (x0 : α0) (x1 : α1) (x2 : α2) (x3 : α3) (x4 : α4) (hI : I x0 x1 x2 x3 x4) (step : ∀ (x0 : α0) (x1 : α1) (x2 : α2) (x3 : α3) (x4 : α4), I x0 x1 x2 x3 x4 → (∀ (y0 : α0) (y1 : α1) (y2 : α2) (y3 : α3) (y4 : α4), I y0 y1 y2 y3 y4 → M y0 y1 y2 y3 y4 < M x0 x1 x2 x3 x4 → Gj p l e R s m args below meth c Q G nL pc (lvf y0 y1 y2 y3 y4) [] (wf y0 y1 y2 y3 y4)) → Gj p l e R s m args below meth c Q G nL pc (lvf x0 x1 x2 x3 x4) [] (wf x0 x1 x2 x3 x4)) : Gj p l e R s m args below meth c Q G nL pc (lvf x0 x1 x2 x3 x4) [] (wf x0 x1 x2 x3 x4) := by
  have key : ∀ (n : Nat) (x0 : α0) (x1 : α1) (x2 : α2) (x3 : α3) (x4 : α4), I x0 x1 x2 x3 x4 → M x0 x1 x2 x3 x4 < n → Gj p l e R s m args below meth c Q G nL pc (lvf x0 x1 x2 x3 x4) [] (wf x0 x1 x2 x3 x4) := by
    intro n
    induction n with
    | zero => intro x0 x1 x2 x3 x4 _ h; exact absurd h (Nat.not_lt_zero _)
    | succ n ih => intro x0 x1 x2 x3 x4 h1 h2; exact step x0 x1 x2 x3 x4 h1 (fun y0 y1 y2 y3 y4 g1 g2 => ih y0 y1 y2 y3 y4 g1 (by omega))
  exact key _ x0 x1 x2 x3 x4 hI (Nat.lt_succ_self _)
theorem g_cut5 {α0 α1 α2 α3 α4 : Type} {pc' : Nat} (lvf : (α0 → α1 → α2 → α3 → α4 → List (Nat × Value))) (stf : (α0 → α1 → α2 → α3 → α4 → List Value)) (wf : (α0 → α1 → α2 → α3 → α4 → Wd)) (I : (α0 → α1 → α2 → α3 → α4 → Prop)) (body : ∀ (x0 : α0) (x1 : α1) (x2 : α2) (x3 : α3) (x4 : α4), I x0 x1 x2 x3 x4 → Gj p l e R s m args below meth c Q G nL pc' (lvf x0 x1 x2 x3 x4) (stf x0 x1 x2 x3 x4) (wf x0 x1 x2 x3 x4)) (main : (∀ (x0 : α0) (x1 : α1) (x2 : α2) (x3 : α3) (x4 : α4), I x0 x1 x2 x3 x4 → Gj p l e R s m args below meth c Q G nL pc' (lvf x0 x1 x2 x3 x4) (stf x0 x1 x2 x3 x4) (wf x0 x1 x2 x3 x4)) → Gj p l e R s m args below meth c Q G nL pc lv st w) : Gj p l e R s m args below meth c Q G nL pc lv st w := main body
theorem g_loop6 {α0 α1 α2 α3 α4 α5 : Type} (lvf : (α0 → α1 → α2 → α3 → α4 → α5 → List (Nat × Value))) (wf : (α0 → α1 → α2 → α3 → α4 → α5 → Wd)) (I : (α0 → α1 → α2 → α3 → α4 → α5 → Prop)) (M : (α0 → α1 → α2 → α3 → α4 → α5 → Nat)) (x0 : α0) (x1 : α1) (x2 : α2) (x3 : α3) (x4 : α4) (x5 : α5) (hI : I x0 x1 x2 x3 x4 x5) (step : ∀ (x0 : α0) (x1 : α1) (x2 : α2) (x3 : α3) (x4 : α4) (x5 : α5), I x0 x1 x2 x3 x4 x5 → (∀ (y0 : α0) (y1 : α1) (y2 : α2) (y3 : α3) (y4 : α4) (y5 : α5), I y0 y1 y2 y3 y4 y5 → M y0 y1 y2 y3 y4 y5 < M x0 x1 x2 x3 x4 x5 → Gj p l e R s m args below meth c Q G nL pc (lvf y0 y1 y2 y3 y4 y5) [] (wf y0 y1 y2 y3 y4 y5)) → Gj p l e R s m args below meth c Q G nL pc (lvf x0 x1 x2 x3 x4 x5) [] (wf x0 x1 x2 x3 x4 x5)) : Gj p l e R s m args below meth c Q G nL pc (lvf x0 x1 x2 x3 x4 x5) [] (wf x0 x1 x2 x3 x4 x5) := by
  have key : ∀ (n : Nat) (x0 : α0) (x1 : α1) (x2 : α2) (x3 : α3) (x4 : α4) (x5 : α5), I x0 x1 x2 x3 x4 x5 → M x0 x1 x2 x3 x4 x5 < n → Gj p l e R s m args below meth c Q G nL pc (lvf x0 x1 x2 x3 x4 x5) [] (wf x0 x1 x2 x3 x4 x5) := by
    intro n
    induction n with
    | zero => intro x0 x1 x2 x3 x4 x5 _ h; exact absurd h (Nat.not_lt_zero _)
    | succ n ih => intro x0 x1 x2 x3 x4 x5 h1 h2; exact step x0 x1 x2 x3 x4 x5 h1 (fun y0 y1 y2 y3 y4 y5 g1 g2 => ih y0 y1 y2 y3 y4 y5 g1 (by omega))
  exact key _ x0 x1 x2 x3 x4 x5 hI (Nat.lt_succ_self _)
theorem g_cut6 {α0 α1 α2 α3 α4 α5 : Type} {pc' : Nat} (lvf : (α0 → α1 → α2 → α3 → α4 → α5 → List (Nat × Value))) (stf : (α0 → α1 → α2 → α3 → α4 → α5 → List Value)) (wf : (α0 → α1 → α2 → α3 → α4 → α5 → Wd)) (I : (α0 → α1 → α2 → α3 → α4 → α5 → Prop)) (body : ∀ (x0 : α0) (x1 : α1) (x2 : α2) (x3 : α3) (x4 : α4) (x5 : α5), I x0 x1 x2 x3 x4 x5 → Gj p l e R s m args below meth c Q G nL pc' (lvf x0 x1 x2 x3 x4 x5) (stf x0 x1 x2 x3 x4 x5) (wf x0 x1 x2 x3 x4 x5)) (main : (∀ (x0 : α0) (x1 : α1) (x2 : α2) (x3 : α3) (x4 : α4) (x5 : α5), I x0 x1 x2 x3 x4 x5 → Gj p l e R s m args below meth c Q G nL pc' (lvf x0 x1 x2 x3 x4 x5) (stf x0 x1 x2 x3 x4 x5) (wf x0 x1 x2 x3 x4 x5)) → Gj p l e R s m args below meth c Q G nL pc lv st w) : Gj p l e R s m args below meth c Q G nL pc lv st w := main body
theorem g_loop7 {α0 α1 α2 α3 α4 α5 α6 : Type} (lvf : (α0 → α1 → α2 → α3 → α4 → α5 → α6 → List (Nat × Value))) (wf : (α0 → α1 → α2 → α3 → α4 → α5 → α6 → Wd)) (I : (α0 → α1 → α2 → α3 → α4 → α5 → α6 → Prop)) (M : (α0 → α1 → α2 → α3 → α4 → α5 → α6 → Nat)) (x0 : α0) (x1 : α1) (x2 : α2) (x3 : α3) (x4 : α4) (x5 : α5) (x6 : α6) (hI : I x0 x1 x2 x3 x4 x5 x6) (step : ∀ (x0 : α0) (x1 : α1) (x2 : α2) (x3 : α3) (x4 : α4) (x5 : α5) (x6 : α6), I x0 x1 x2 x3 x4 x5 x6 → (∀ (y0 : α0) (y1 : α1) (y2 : α2) (y3 : α3) (y4 : α4) (y5 : α5) (y6 : α6), I y0 y1 y2 y3 y4 y5 y6 → M y0 y1 y2 y3 y4 y5 y6 < M x0 x1 x2 x3 x4 x5 x6 → Gj p l e R s m args below meth c Q G nL pc (lvf y0 y1 y2 y3 y4 y5 y6) [] (wf y0 y1 y2 y3 y4 y5 y6)) → Gj p l e R s m args below meth c Q G nL pc (lvf x0 x1 x2 x3 x4 x5 x6) [] (wf x0 x1 x2 x3 x4 x5 x6)) : Gj p l e R s m args below meth c Q G nL pc (lvf x0 x1 x2 x3 x4 x5 x6) [] (wf x0 x1 x2 x3 x4 x5 x6) := by
  have key : ∀ (n : Nat) (x0 : α0) (x1 : α1) (x2 : α2) (x3 : α3) (x4 : α4) (x5 : α5) (x6 : α6), I x0 x1 x2 x3 x4 x5 x6 → M x0 x1 x2 x3 x4 x5 x6 < n → Gj p l e R s m args below meth c Q G nL pc (lvf x0 x1 x2 x3 x4 x5 x6) [] (wf x0 x1 x2 x3 x4 x5 x6) := by
    intro n
    induction n with
    | zero => intro x0 x1 x2 x3 x4 x5 x6 _ h; exact absurd h (Nat.not_lt_zero _)
    | succ n ih => intro x0 x1 x2 x3 x4 x5 x6 h1 h2; exact step x0 x1 x2 x3 x4 x5 x6 h1 (fun y0 y1 y2 y3 y4 y5 y6 g1 g2 => ih y0 y1 y2 y3 y4 y5 y6 g1 (by omega))
  exact key _ x0 x1 x2 x3 x4 x5 x6 hI (Nat.lt_succ_self _)
theorem g_cut7 {α0 α1 α2 α3 α4 α5 α6 : Type} {pc' : Nat} (lvf : (α0 → α1 → α2 → α3 → α4 → α5 → α6 → List (Nat × Value))) (stf : (α0 → α1 → α2 → α3 → α4 → α5 → α6 → List Value)) (wf : (α0 → α1 → α2 → α3 → α4 → α5 → α6 → Wd)) (I : (α0 → α1 → α2 → α3 → α4 → α5 → α6 → Prop)) (body : ∀ (x0 : α0) (x1 : α1) (x2 : α2) (x3 : α3) (x4 : α4) (x5 : α5) (x6 : α6), I x0 x1 x2 x3 x4 x5 x6 → Gj p l e R s m args below meth c Q G nL pc' (lvf x0 x1 x2 x3 x4 x5 x6) (stf x0 x1 x2 x3 x4 x5 x6) (wf x0 x1 x2 x3 x4 x5 x6)) (main : (∀ (x0 : α0) (x1 : α1) (x2 : α2) (x3 : α3) (x4 : α4) (x5 : α5) (x6 : α6), I x0 x1 x2 x3 x4 x5 x6 → Gj p l e R s m args below meth c Q G nL pc' (lvf x0 x1 x2 x3 x4 x5 x6) (stf x0 x1 x2 x3 x4 x5 x6) (wf x0 x1 x2 x3 x4 x5 x6)) → Gj p l e R s m args below meth c Q G nL pc lv st w) : Gj p l e R s m args below meth c Q G nL pc lv st w := main body
theorem g_loop8 {α0 α1 α2 α3 α4 α5 α6 α7 : Type} (lvf : (α0 → α1 → α2 → α3 → α4 → α5 → α6 → α7 → List (Nat × Value))) (wf : (α0 → α1 → α2 → α3 → α4 → α5 → α6 → α7 → Wd)) (I : (α0 → α1 → α2 → α3 → α4 → α5 → α6 → α7 → Prop)) (M : (α0 → α1 → α2 → α3 → α4 → α5 → α6 → α7 → Nat)) (x0 : α0) (x1 : α1) (x2 : α2) (x3 : α3) (x4 : α4) (x5 : α5) (x6 : α6) (x7 : α7) (hI : I x0 x1 x2 x3 x4 x5 x6 x7) (step : ∀ (x0 : α0) (x1 : α1) (x2 : α2) (x3 : α3) (x4 : α4) (x5 : α5) (x6 : α6) (x7 : α7), I x0 x1 x2 x3 x4 x5 x6 x7 → (∀ (y0 : α0) (y1 : α1) (y2 : α2) (y3 : α3) (y4 : α4) (y5 : α5) (y6 : α6) (y7 : α7), I y0 y1 y2 y3 y4 y5 y6 y7 → M y0 y1 y2 y3 y4 y5 y6 y7 < M x0 x1 x2 x3 x4 x5 x6 x7 → Gj p l e R s m args below meth c Q G nL pc (lvf y0 y1 y2 y3 y4 y5 y6 y7) [] (wf y0 y1 y2 y3 y4 y5 y6 y7)) → Gj p l e R s m args below meth c Q G nL pc (lvf x0 x1 x2 x3 x4 x5 x6 x7) [] (wf x0 x1 x2 x3 x4 x5 x6 x7)) : Gj p l e R s m args below meth c Q G nL pc (lvf x0 x1 x2 x3 x4 x5 x6 x7) [] (wf x0 x1 x2 x3 x4 x5 x6 x7) := by
  have key : ∀ (n : Nat) (x0 : α0) (x1 : α1) (x2 : α2) (x3 : α3) (x4 : α4) (x5 : α5) (x6 : α6) (x7 : α7), I x0 x1 x2 x3 x4 x5 x6 x7 → M x0 x1 x2 x3 x4 x5 x6 x7 < n → Gj p l e R s m args below meth c Q G nL pc (lvf x0 x1 x2 x3 x4 x5 x6 x7) [] (wf x0 x1 x2 x3 x4 x5 x6 x7) := by
    intro n
    induction n with
    | zero => intro x0 x1 x2 x3 x4 x5 x6 x7 _ h; exact absurd h (Nat.not_lt_zero _)
    | succ n ih => intro x0 x1 x2 x3 x4 x5 x6 x7 h1 h2; exact step x0 x1 x2 x3 x4 x5 x6 x7 h1 (fun y0 y1 y2 y3 y4 y5 y6 y7 g1 g2 => ih y0 y1 y2 y3 y4 y5 y6 y7 g1 (by omega))
  exact key _ x0 x1 x2 x3 x4 x5 x6 x7 hI (Nat.lt_succ_self _)
theorem g_cut8 {α0 α1 α2 α3 α4 α5 α6 α7 : Type} {pc' : Nat} (lvf : (α0 → α1 → α2 → α3 → α4 → α5 → α6 → α7 → List (Nat × Value))) (stf : (α0 → α1 → α2 → α3 → α4 → α5 → α6 → α7 → List Value)) (wf : (α0 → α1 → α2 → α3 → α4 → α5 → α6 → α7 → Wd)) (I : (α0 → α1 → α2 → α3 → α4 → α5 → α6 → α7 → Prop)) (body : ∀ (x0 : α0) (x1 : α1) (x2 : α2) (x3 : α3) (x4 : α4) (x5 : α5) (x6 : α6) (x7 : α7), I x0 x1 x2 x3 x4 x5 x6 x7 → Gj p l e R s m args below meth c Q G nL pc' (lvf x0 x1 x2 x3 x4 x5 x6 x7) (stf x0 x1 x2 x3 x4 x5 x6 x7) (wf x0 x1 x2 x3 x4 x5 x6 x7)) (main : (∀ (x0 : α0) (x1 : α1) (x2 : α2) (x3 : α3) (x4 : α4) (x5 : α5) (x6 : α6) (x7 : α7), I x0 x1 x2 x3 x4 x5 x6 x7 → Gj p l e R s m args below meth c Q G nL pc' (lvf x0 x1 x2 x3 x4 x5 x6 x7) (stf x0 x1 x2 x3 x4 x5 x6 x7) (wf x0 x1 x2 x3 x4 x5 x6 x7)) → Gj p l e R s m args below meth c Q G nL pc lv st w) : Gj p l e R s m args below meth c Q G nL pc lv st w := main body
/-- System.arraycopy, from place 0 to place 0 -/
def cpyA (w : Wd) (o o2 f n : Nat) : Wd := fun o' f' j' => if o' = o ∧ f' = f ∧ j' < n then w o2 f j' else w o' f' j'
def cpyS (w : Wd) (o f k n : Nat) : Wd := fun o' f' j' => if o' = o ∧ f' = f ∧ j' < n then (slX k).getD j' 0 else w o' f' j'
theorem cpyW (X : Cx p s m args meth c cc nL ret own G) {idx : Nat} (hl : Cond.methodLink own idx arraycopyName ∈ gw) {ci o f N a0 : Nat} {n : Nat} {cs : Cell} {v : Nat → Int} {H : Heap} {locs : List Loc} {ls : Array Slot} (ho : gOb G o = some ci) (hf : f < nfX ci) (hk : fkX ci f = (1, N)) (hN : n ≤ N) (hn : n ≤ 100000)
    (hc0 : H[a0]? = some cs) (h0a : s.isArrayOf cs .int) (h0k : cs.vm ≠ .unknown) (h0n : n ≤ cs.slots.size) (h0v : ∀ j, j < n → cs.slots[j]? = some (.int (iI (v j)))) (hR : 1 ≤ R.frames ∧ 35 ≤ R.locals) (hcat : (st.map fun v => v.category).sum ≤ 8) (hd : decode cc pc = .ok (.invokestatic idx, 3)) (h1 : Hold G w H) (h2 : va_S (gA G) s.heap H locs) (h3 : lv_has ls nL lv)
    (k : Gj p l e R s m args below meth c Q G nL (pc + 3) lv st (fun o' f' j' => if o' = o ∧ f' = f ∧ j' < n then v j' else w o' f' j')) : W p l e R s m args below meth c H locs 0 0 Q (F0 m pc ls (.int (iI (n : Int)) :: .int (iI 0) :: .ref (gAr G o f) :: .int (iI 0) :: .ref a0 :: st)) := by
  have hA := isA_of hk (Or.inl rfl)
  have hc := (h1 o ci ho).2 f hf hA
  rw [hk] at hc
  have ht := X.1.2.2.2.2.1
  have nn : (iI (n : Int)).toInt = (n : Int) := iI_to ⟨by omega, by omega⟩
  have nc : (iI (n : Int)).toNatClampNeg = n := by rw [iI_clamp (by omega) (by omega)]; omega
  have zc : (iI 0).toNatClampNeg = 0 := rfl
  have zi : (iI 0).toInt = 0 := rfl
  intro T hT X'
  obtain ⟨h0s, k0, hk0, cm0, hkk0⟩ := h0a
  obtain ⟨-, k1, hk1, cm1, hkk1⟩ := (X.2.2.1.2 0 _ rfl).1 N (fun j => .int (iI (w o f j)))
  obtain ⟨vm', X'', step⟩ := X'.arraycopy X.1.1 X.1.2.2.2.1 (ht _ hl) (ht _ acp_nat) (ht _ acp_st) (ht _ ini_javalangSystem) (src := a0) (dst := gAr G o f) (cs := cs) (cd := acell G w o f (1, N)) (srcPos := iI 0) (destPos := iI 0) (n := iI (n : Int)) (by rw [hT]; exact hc0) (by rw [hT]; exact hc)
    h0s (fun _ h => by cases h) h0k (fun h => by cases h) hk0 hk1 hkk0 hkk1 (by simp [refKind]) (by decide) (by decide) (by rw [← iI_zero, iI_lt ⟨by omega, by omega⟩ inR_zero]; omega)
    (by rw [zi, nn]; omega)
    (by rw [zi, nn]; show ¬ _ > ((arrV _ N _).slots.size : Int); rw [arrV_size]; omega)
    (fun vm₁ _ i hi => by
      rw [nc] at hi
      have e : cs.slots.getD ((iI 0).toNatClampNeg + i) .null = .int (iI (v i)) := by
        rw [zc, Nat.zero_add, Array.getD_eq_getD_getElem?, h0v i hi]
        rfl
      exact ⟨by rw [e]; rfl, by rw [e]; exact trivial⟩)
    (g := F0 m pc ls (.int (iI (n : Int)) :: .int (iI 0) :: .ref (gAr G o f) :: .int (iI 0) :: .ref a0 :: st)) rfl (by rw [X.1.2.2.1]; exact h3.1) (rest := st) rfl (by rw [X.1.2.1]; exact hd) hR.1 (by show 2 * 0 + _ + (7 + 11) ≤ _; omega)
  have es : cs.stretch (iI 0).toNatClampNeg (iI (n : Int)).toNatClampNeg = (List.range n).map (fun i => .int (iI (v i))) := by
    unfold Cell.stretch
    rw [nc, zc]
    apply List.map_congr_left
    intro i hi
    have hi' := List.mem_range.mp hi
    rw [Nat.zero_add, Array.getD_eq_getD_getElem?, h0v i hi']
    rfl
  have e1 : copied cs (acell G w o f (1, N)) (iI 0) (iI 0) (iI (n : Int)) = acell G (fun o' f' j' => if o' = o ∧ f' = f ∧ j' < n then v j' else w o' f' j') o f (1, N) := by
    show (acell G w o f (1, N)).storeRun _ _ = _
    rw [es]
    simp only [acell]
    rw [vp_cell_i, vp_cell_i, Cell.storeRun, va_pairs]
    congr 1
    funext j
    rw [zc]
    simp only [List.length_map, List.length_range, Nat.zero_add, Nat.zero_le, true_and, Nat.sub_zero]
    by_cases h : j < n
    · rw [if_pos h, if_pos h, List.getD_eq_getElem?_getD, List.getElem?_map, List.getElem?_range (by omega)]
      rfl
    · rw [if_neg h, if_neg h]
  rw [e1] at X'' step
  have hl9 : gAr G o f < H.size := (Array.getElem?_eq_some_iff.mp hc).1
  have oq : ∀ q : Nat, q ≠ gAr G o f → (H.setIfInBounds (gAr G o f) (acell G (fun o' f' j' => if o' = o ∧ f' = f ∧ j' < n then v j' else w o' f' j') o f (1, N)))[q]? = H[q]? := fun q hq => by simp [Array.getElem?_setIfInBounds, Ne.symm hq]
  have hheap : ((T.setVm vm').setCell (gAr G o f) (acell G (fun o' f' j' => if o' = o ∧ f' = f ∧ j' < n then v j' else w o' f' j') o f (1, N))).heap = H.setIfInBounds (gAr G o f) (acell G (fun o' f' j' => if o' = o ∧ f' = f ∧ j' < n then v j' else w o' f' j') o f (1, N)) := by rw [← hT]; rfl
  obtain ⟨t, a1, b1⟩ := k _ _ ls (h1.puta X.2.1 ho hf hA (fun o' f' j' hq => if_neg (fun z => hq ⟨z.1, z.2.1⟩)) (by rw [hk]; simp [Array.getElem?_setIfInBounds, hl9]) oq) ⟨by simp; exact h2.1, fun q g1 g2 => by
      rw [oq q (fun e => g2 (by rw [e]; exact gA_a ho hf hA))]
      exact h2.2.1 q g1 g2, fun q hq => by
      rcases List.mem_append.mp hq with h | h
      · exact h2.2.2 q h
      · obtain ⟨z, -, hz⟩ := List.mem_map.mp h
        rw [← hz]
        exact gA_a ho hf hA⟩ h3 _ hheap X''
  exact ⟨t, step t a1, b1⟩
theorem g_cpya (X : Cx p s m args meth c cc nL ret own G) {idx : Nat} (hl : Cond.methodLink own idx arraycopyName ∈ gw) {ci o o2 f N n : Nat} (ho2 : gOb G o2 = some ci) (ho : gOb G o = some ci) (hf : f < nfX ci) (hk : fkX ci f = (1, N)) (hN : n ≤ N) (hn : n ≤ 100000) (hN2 : N ≤ 100000)
    (hR : 1 ≤ R.frames ∧ 35 ≤ R.locals) (hcat : (st.map fun v => v.category).sum ≤ 8) (hd : decode cc pc = .ok (.invokestatic idx, 3)) (k : Gj p l e R s m args below meth c Q G nL (pc + 3) lv st (cpyA w o o2 f n)) : Gj p l e R s m args below meth c Q G nL pc lv (.int (iI (n : Int)) :: .int (iI 0) :: .ref (gAr G o f) :: .int (iI 0) :: .ref (gAr G o2 f) :: st) w := by
  intro H locs ls h1 h2 h3
  have hc := (h1 o2 ci ho2).2 f hf (isA_of hk (Or.inl rfl))
  rw [hk] at hc
  exact cpyW (v := fun j => w o2 f j) X hl ho hf hk hN hn hc ((X.2.2.1.2 0 _ rfl).1 N (fun j => .int (iI (w o2 f j)))) (fun q => by cases q) (by show n ≤ (arrV _ N _).slots.size; rw [arrV_size]; exact hN) (fun j hj => by show (arrV _ N _).slots[j]? = _; rw [arrV_read _ _ (by omega)]) hR hcat hd h1 h2 h3 k
theorem g_cpys (X : Cx p s m args meth c cc nL ret own G) {idx : Nat} (hl : Cond.methodLink own idx arraycopyName ∈ gw) (k0 : Nat) (hk0 : k0 < 9) {ci o f N n : Nat} (ho : gOb G o = some ci) (hf : f < nfX ci) (hk : fkX ci f = (1, N)) (hN : n ≤ N) (hn : n ≤ 100000) (hsl : n ≤ (slX k0).length)
    (hR : 1 ≤ R.frames ∧ 35 ≤ R.locals) (hcat : (st.map fun v => v.category).sum ≤ 8) (hd : decode cc pc = .ok (.invokestatic idx, 3)) (k : Gj p l e R s m args below meth c Q G nL (pc + 3) lv st (cpyS w o f k0 n)) : Gj p l e R s m args below meth c Q G nL pc lv (.int (iI (n : Int)) :: .int (iI 0) :: .ref (gAr G o f) :: .int (iI 0) :: .ref (gSa G k0) :: st) w := by
  intro H locs ls h1 h2 h3
  obtain ⟨cell, c1, c2, c3, c4, c5, c6, c7⟩ := (X.2.2.2.2 k0 hk0).2
  exact cpyW (v := fun j => (slX k0).getD j 0) X hl ho hf hk hN hn (by rw [h2.2.1 _ (Array.getElem?_eq_some_iff.mp c1).1 c7]; exact c1) c2 c3 (by omega) (fun j hj => c6 j (by omega)) hR hcat hd h1 h2 h3 k
end RC
theorem cm_X0_forget : CM yX0_forget cX0_forget 1 none 0 := ⟨co_X0_forget, ini_X0, by decide, by decide, by decide +kernel⟩
theorem cm_X0_reckon : CM yX0_reckon cX0_reckon 4 none 2 := ⟨co_X0_reckon, ini_X0, by decide, by decide, by decide +kernel⟩
theorem cm_X0_has : CM yX0_has cX0_has 2 (some .boolean) 1 := ⟨co_X0_has, ini_X0, by decide, by decide, by decide +kernel⟩
theorem cm_X0_setFor : CM yX0_setFor cX0_setFor 2 (some .int) 1 := ⟨co_X0_setFor, ini_X0, by decide, by decide, by decide +kernel⟩
theorem cm_X0_leastPower : CM yX0_leastPower cX0_leastPower 2 (some .int) 1 := ⟨co_X0_leastPower, ini_X0, by decide, by decide, by decide +kernel⟩
theorem cm_X0_addMachine : CM yX0_addMachine cX0_addMachine 4 none 1 := ⟨co_X0_addMachine, ini_X0, by decide, by decide, by decide +kernel⟩
theorem cm_X0_fillRow : CM yX0_fillRow cX0_fillRow 3 none 1 := ⟨co_X0_fillRow, ini_X0, by decide, by decide, by decide +kernel⟩
theorem cm_X0_leastWith : CM yX0_leastWith cX0_leastWith 7 (some .int) 2 := ⟨co_X0_leastWith, ini_X0, by decide, by decide, by decide +kernel⟩
theorem cm_X1_forget : CM yX1_forget cX1_forget 1 none 0 := ⟨co_X1_forget, ini_X1, by decide, by decide, by decide +kernel⟩
theorem cm_X1_keep : CM yX1_keep cX1_keep 2 none 1 := ⟨co_X1_keep, ini_X1, by decide, by decide, by decide +kernel⟩
theorem cm_X1_giveBack : CM yX1_giveBack cX1_giveBack 2 (some .boolean) 1 := ⟨co_X1_giveBack, ini_X1, by decide, by decide, by decide +kernel⟩
theorem cm_X2_reset : CM yX2_reset cX2_reset 1 none 0 := ⟨co_X2_reset, ini_X2, by decide, by decide, by decide +kernel⟩
theorem cm_X2_take : CM yX2_take cX2_take 3 none 2 := ⟨co_X2_take, ini_X2, by decide, by decide, by decide +kernel⟩
theorem cm_X2_takeMachine : CM yX2_takeMachine cX2_takeMachine 2 none 1 := ⟨co_X2_takeMachine, ini_X2, by decide, by decide, by decide +kernel⟩
theorem cm_X2_all : CM yX2_all cX2_all 1 (some .int) 0 := ⟨co_X2_all, ini_X2, by decide, by decide, by decide +kernel⟩
theorem cm_X2_powerAt : CM yX2_powerAt cX2_powerAt 4 (some .int) 3 := ⟨co_X2_powerAt, ini_X2, by decide, by decide, by decide +kernel⟩
theorem cm_X2_can : CM yX2_can cX2_can 3 (some .boolean) 2 := ⟨co_X2_can, ini_X2, by decide, by decide, by decide +kernel⟩
theorem cm_X2_leasts : CM yX2_leasts cX2_leasts 2 (some .int) 1 := ⟨co_X2_leasts, ini_X2, by decide, by decide, by decide +kernel⟩
theorem cm_X2_mosts : CM yX2_mosts cX2_mosts 2 (some .int) 1 := ⟨co_X2_mosts, ini_X2, by decide, by decide, by decide +kernel⟩
theorem cm_X2_flows : CM yX2_flows cX2_flows 2 (some .int) 1 := ⟨co_X2_flows, ini_X2, by decide, by decide, by decide +kernel⟩
theorem cm_X2_sumOver : CM yX2_sumOver cX2_sumOver 5 (some .int) 2 := ⟨co_X2_sumOver, ini_X2, by decide, by decide, by decide +kernel⟩
theorem cm_X3_add : CM yX3_add cX3_add 2 (some .boolean) 1 := ⟨co_X3_add, ini_X3, by decide, by decide, by decide +kernel⟩
theorem cm_X3_empty : CM yX3_empty cX3_empty 1 none 0 := ⟨co_X3_empty, ini_X3, by decide, by decide, by decide +kernel⟩
theorem cm_X3_firstFault : CM yX3_firstFault cX3_firstFault 5 (some .int) 0 := ⟨co_X3_firstFault, ini_X3, by decide, by decide, by decide +kernel⟩
theorem cm_X3_machines : CM yX3_machines cX3_machines 3 (some .int) 0 := ⟨co_X3_machines, ini_X3, by decide, by decide, by decide +kernel⟩
theorem cm_X3_layInto : CM yX3_layInto cX3_layInto 5 none 1 := ⟨co_X3_layInto, ini_X3, by decide, by decide, by decide +kernel⟩
theorem cm_X3_readItem : CM yX3_readItem cX3_readItem 4 (some .int) 1 := ⟨co_X3_readItem, ini_X3, by decide, by decide, by decide +kernel⟩
theorem cm_X3_readNumbers : CM yX3_readNumbers cX3_readNumbers 9 (some .int) 3 := ⟨co_X3_readNumbers, ini_X3, by decide, by decide, by decide +kernel⟩
theorem cm_X3_isFigure : CM yX3_isFigure cX3_isFigure 3 (some .boolean) 1 := ⟨co_X3_isFigure, ini_X3, by decide, by decide, by decide +kernel⟩
theorem cm_X3_letterAt : CM yX3_letterAt cX3_letterAt 2 (some .char) 1 := ⟨co_X3_letterAt, ini_X3, by decide, by decide, by decide +kernel⟩
theorem cm_X4_forget : CM yX4_forget cX4_forget 1 none 0 := ⟨co_X4_forget, ini_X4, by decide, by decide, by decide +kernel⟩
theorem cm_X4_find : CM yX4_find cX4_find 5 (some .boolean) 3 := ⟨co_X4_find, ini_X4, by decide, by decide, by decide +kernel⟩
theorem cm_X4_leastPower : CM yX4_leastPower cX4_leastPower 1 (some .int) 0 := ⟨co_X4_leastPower, ini_X4, by decide, by decide, by decide +kernel⟩
theorem cm_X4_part : CM yX4_part cX4_part 2 (some .int) 1 := ⟨co_X4_part, ini_X4, by decide, by decide, by decide +kernel⟩
theorem cm_X4_shiftOf : CM yX4_shiftOf cX4_shiftOf 1 (some .int) 1 := ⟨co_X4_shiftOf, ini_X4, by decide, by decide, by decide +kernel⟩
theorem cm_X4_addMachine : CM yX4_addMachine cX4_addMachine 6 none 2 := ⟨co_X4_addMachine, ini_X4, by decide, by decide, by decide +kernel⟩
theorem cm_X4_fillRow : CM yX4_fillRow cX4_fillRow 3 none 1 := ⟨co_X4_fillRow, ini_X4, by decide, by decide, by decide +kernel⟩
theorem cm_X4_leastWith : CM yX4_leastWith cX4_leastWith 9 (some .long) 2 := ⟨co_X4_leastWith, ini_X4, by decide, by decide, by decide +kernel⟩
theorem cm_X5_made : CM yX5_made cX5_made 2 (some .int) 1 := ⟨co_X5_made, ini_X5, by decide, by decide, by decide +kernel⟩
theorem cm_X5_powerNow : CM yX5_powerNow cX5_powerNow 2 (some .int) 1 := ⟨co_X5_powerNow, ini_X5, by decide, by decide, by decide +kernel⟩
theorem cm_X5_madeBy : CM yX5_madeBy cX5_madeBy 3 (some .int) 2 := ⟨co_X5_madeBy, ini_X5, by decide, by decide, by decide +kernel⟩
theorem cm_X5_pass : CM yX5_pass cX5_pass 3 none 1 := ⟨co_X5_pass, ini_X5, by decide, by decide, by decide +kernel⟩
theorem cm_X5_comeOn : CM yX5_comeOn cX5_comeOn 3 none 2 := ⟨co_X5_comeOn, ini_X5, by decide, by decide, by decide +kernel⟩
theorem cm_X5_comeBack : CM yX5_comeBack cX5_comeBack 3 none 1 := ⟨co_X5_comeBack, ini_X5, by decide, by decide, by decide +kernel⟩
theorem cm_X5_stageUp : CM yX5_stageUp cX5_stageUp 3 none 1 := ⟨co_X5_stageUp, ini_X5, by decide, by decide, by decide +kernel⟩
theorem cm_X5_stageDown : CM yX5_stageDown cX5_stageDown 3 none 1 := ⟨co_X5_stageDown, ini_X5, by decide, by decide, by decide +kernel⟩
theorem cm_X5_gapIsOver : CM yX5_gapIsOver cX5_gapIsOver 3 (some .boolean) 2 := ⟨co_X5_gapIsOver, ini_X5, by decide, by decide, by decide +kernel⟩
theorem cm_X5_mayStart : CM yX5_mayStart cX5_mayStart 4 (some .boolean) 3 := ⟨co_X5_mayStart, ini_X5, by decide, by decide, by decide +kernel⟩
theorem cm_X5_nextToStart : CM yX5_nextToStart cX5_nextToStart 4 (some .int) 1 := ⟨co_X5_nextToStart, ini_X5, by decide, by decide, by decide +kernel⟩
theorem cm_X5_nextToStop : CM yX5_nextToStop cX5_nextToStop 4 (some .int) 1 := ⟨co_X5_nextToStop, ini_X5, by decide, by decide, by decide +kernel⟩
theorem cm_X5_fall : CM yX5_fall cX5_fall 5 none 1 := ⟨co_X5_fall, ini_X5, by decide, by decide, by decide +kernel⟩
theorem cm_X5_greatestOf : CM yX5_greatestOf cX5_greatestOf 5 (some .int) 1 := ⟨co_X5_greatestOf, ini_X5, by decide, by decide, by decide +kernel⟩
theorem cm_X6_reset : CM yX6_reset cX6_reset 1 none 0 := ⟨co_X6_reset, ini_X6, by decide, by decide, by decide +kernel⟩
theorem cm_X6_copyFrom : CM yX6_copyFrom cX6_copyFrom 2 none 1 := ⟨co_X6_copyFrom, ini_X6, by decide, by decide, by decide +kernel⟩
theorem cm_X6_running : CM yX6_running cX6_running 1 (some .int) 0 := ⟨co_X6_running, ini_X6, by decide, by decide, by decide +kernel⟩
theorem cm_X6_lift : CM yX6_lift cX6_lift 1 (some .int) 0 := ⟨co_X6_lift, ini_X6, by decide, by decide, by decide +kernel⟩
theorem cm_X6_startedSoFar : CM yX6_startedSoFar cX6_startedSoFar 3 (some .int) 0 := ⟨co_X6_startedSoFar, ini_X6, by decide, by decide, by decide +kernel⟩
theorem cm_X6_start : CM yX6_start cX6_start 2 none 1 := ⟨co_X6_start, ini_X6, by decide, by decide, by decide +kernel⟩
theorem cm_X6_stop : CM yX6_stop cX6_stop 2 none 1 := ⟨co_X6_stop, ini_X6, by decide, by decide, by decide +kernel⟩
theorem cm_X6_ticksSinceStart : CM yX6_ticksSinceStart cX6_ticksSinceStart 3 (some .int) 2 := ⟨co_X6_ticksSinceStart, ini_X6, by decide, by decide, by decide +kernel⟩
theorem cm_X6_ticksSinceStop : CM yX6_ticksSinceStop cX6_ticksSinceStop 3 (some .int) 2 := ⟨co_X6_ticksSinceStop, ini_X6, by decide, by decide, by decide +kernel⟩
theorem cm_X6_startBack : CM yX6_startBack cX6_startBack 3 (some .int) 2 := ⟨co_X6_startBack, ini_X6, by decide, by decide, by decide +kernel⟩
theorem cm_X6_ringPlace : CM yX6_ringPlace cX6_ringPlace 2 (some .int) 2 := ⟨co_X6_ringPlace, ini_X6, by decide, by decide, by decide +kernel⟩
theorem cm_X6_putOnList : CM yX6_putOnList cX6_putOnList 2 none 1 := ⟨co_X6_putOnList, ini_X6, by decide, by decide, by decide +kernel⟩
theorem cm_X6_firstOfList : CM yX6_firstOfList cX6_firstOfList 1 (some .int) 0 := ⟨co_X6_firstOfList, ini_X6, by decide, by decide, by decide +kernel⟩
theorem cm_X6_takeOffList : CM yX6_takeOffList cX6_takeOffList 4 none 1 := ⟨co_X6_takeOffList, ini_X6, by decide, by decide, by decide +kernel⟩
theorem cm_X6_placeInList : CM yX6_placeInList cX6_placeInList 3 (some .int) 1 := ⟨co_X6_placeInList, ini_X6, by decide, by decide, by decide +kernel⟩
theorem cm_X7_write : CM yX7_write cX7_write 2 (some .int) 1 := ⟨co_X7_write, ini_X7, by decide, by decide, by decide +kernel⟩
theorem cm_X7_wipe : CM yX7_wipe cX7_wipe 2 (some .int) 0 := ⟨co_X7_wipe, ini_X7, by decide, by decide, by decide +kernel⟩
theorem cm_X7_fault : CM yX7_fault cX7_fault 1 (some .int) 0 := ⟨co_X7_fault, ini_X7, by decide, by decide, by decide +kernel⟩
theorem cm_X7_lay : CM yX7_lay cX7_lay 1 (some .int) 0 := ⟨co_X7_lay, ini_X7, by decide, by decide, by decide +kernel⟩
theorem cm_X7_tell : CM yX7_tell cX7_tell 4 (some .int) 2 := ⟨co_X7_tell, ini_X7, by decide, by decide, by decide +kernel⟩
theorem cm_X7_lock : CM yX7_lock cX7_lock 4 (some .int) 2 := ⟨co_X7_lock, ini_X7, by decide, by decide, by decide +kernel⟩
theorem cm_X7_dip : CM yX7_dip cX7_dip 2 (some .int) 0 := ⟨co_X7_dip, ini_X7, by decide, by decide, by decide +kernel⟩
theorem cm_X7_tick : CM yX7_tick cX7_tick 4 (some .int) 1 := ⟨co_X7_tick, ini_X7, by decide, by decide, by decide +kernel⟩
theorem cm_X7_undo : CM yX7_undo cX7_undo 1 (some .int) 0 := ⟨co_X7_undo, ini_X7, by decide, by decide, by decide +kernel⟩
theorem cm_X7_machine : CM yX7_machine cX7_machine 3 (some .int) 2 := ⟨co_X7_machine, ini_X7, by decide, by decide, by decide +kernel⟩
theorem cm_X7_power : CM yX7_power cX7_power 4 (some .int) 3 := ⟨co_X7_power, ini_X7, by decide, by decide, by decide +kernel⟩
theorem cm_X7_share : CM yX7_share cX7_share 4 (some .int) 3 := ⟨co_X7_share, ini_X7, by decide, by decide, by decide +kernel⟩
theorem cm_X7_best : CM yX7_best cX7_best 3 (some .int) 2 := ⟨co_X7_best, ini_X7, by decide, by decide, by decide +kernel⟩
theorem cm_X7_now : CM yX7_now cX7_now 4 (some .int) 1 := ⟨co_X7_now, ini_X7, by decide, by decide, by decide +kernel⟩
theorem cm_X7_ahead : CM yX7_ahead cX7_ahead 5 (some .int) 2 := ⟨co_X7_ahead, ini_X7, by decide, by decide, by decide +kernel⟩
theorem cm_X7_count : CM yX7_count cX7_count 2 (some .int) 1 := ⟨co_X7_count, ini_X7, by decide, by decide, by decide +kernel⟩
theorem cm_X7_isMachine : CM yX7_isMachine cX7_isMachine 2 (some .boolean) 1 := ⟨co_X7_isMachine, ini_X7, by decide, by decide, by decide +kernel⟩
theorem cm_X7_isLoad : CM yX7_isLoad cX7_isLoad 1 (some .boolean) 1 := ⟨co_X7_isLoad, ini_X7, by decide, by decide, by decide +kernel⟩
theorem cm_X7_bitOf : CM yX7_bitOf cX7_bitOf 2 (some .int) 2 := ⟨co_X7_bitOf, ini_X7, by decide, by decide, by decide +kernel⟩
theorem cm_X7_aboveBest : CM yX7_aboveBest cX7_aboveBest 2 (some .int) 1 := ⟨co_X7_aboveBest, ini_X7, by decide, by decide, by decide +kernel⟩
theorem cm_X8_in : CM yX8_in cX8_in 3 (some .boolean) 3 := ⟨co_X8_in, ini_X8, by decide, by decide, by decide +kernel⟩
theorem cm_X8_beginRead : CM yX8_beginRead cX8_beginRead 2 none 0 := ⟨co_X8_beginRead, ini_X8, by decide, by decide, by decide +kernel⟩
theorem cm_X8_putMachine : CM yX8_putMachine cX8_putMachine 8 none 6 := ⟨co_X8_putMachine, ini_X8, by decide, by decide, by decide +kernel⟩
theorem cm_X8_takeRead : CM yX8_takeRead cX8_takeRead 3 none 0 := ⟨co_X8_takeRead, ini_X8, by decide, by decide, by decide +kernel⟩
theorem cm_X8_isFigure : CM yX8_isFigure cX8_isFigure 1 (some .boolean) 0 := ⟨co_X8_isFigure, ini_X8, by decide, by decide, by decide +kernel⟩
theorem cm_X8_readNumbers : CM yX8_readNumbers cX8_readNumbers 5 (some .boolean) 1 := ⟨co_X8_readNumbers, ini_X8, by decide, by decide, by decide +kernel⟩
theorem cm_X8_isNumber : CM yX8_isNumber cX8_isNumber 4 (some .boolean) 3 := ⟨co_X8_isNumber, ini_X8, by decide, by decide, by decide +kernel⟩
theorem cm_X8_readMachine : CM yX8_readMachine cX8_readMachine 1 (some .boolean) 0 := ⟨co_X8_readMachine, ini_X8, by decide, by decide, by decide +kernel⟩
theorem cm_X8_readOther : CM yX8_readOther cX8_readOther 6 (some .boolean) 1 := ⟨co_X8_readOther, ini_X8, by decide, by decide, by decide +kernel⟩
theorem cm_X8_readText : CM yX8_readText cX8_readText 4 (some .int) 0 := ⟨co_X8_readText, ini_X8, by decide, by decide, by decide +kernel⟩
theorem cm_X8_write : CM yX8_write cX8_write 2 (some .int) 1 := ⟨co_X8_write, ini_X8, by decide, by decide, by decide +kernel⟩
theorem cm_X8_wipe : CM yX8_wipe cX8_wipe 2 (some .int) 0 := ⟨co_X8_wipe, ini_X8, by decide, by decide, by decide +kernel⟩
theorem cm_X8_fault : CM yX8_fault cX8_fault 1 (some .int) 0 := ⟨co_X8_fault, ini_X8, by decide, by decide, by decide +kernel⟩
theorem cm_X8_lay : CM yX8_lay cX8_lay 1 (some .int) 0 := ⟨co_X8_lay, ini_X8, by decide, by decide, by decide +kernel⟩
theorem cm_X8_leastOf : CM yX8_leastOf cX8_leastOf 2 (some .int) 1 := ⟨co_X8_leastOf, ini_X8, by decide, by decide, by decide +kernel⟩
theorem cm_X8_mostOf : CM yX8_mostOf cX8_mostOf 2 (some .int) 1 := ⟨co_X8_mostOf, ini_X8, by decide, by decide, by decide +kernel⟩
theorem cm_X8_powerOf : CM yX8_powerOf cX8_powerOf 5 (some .int) 3 := ⟨co_X8_powerOf, ini_X8, by decide, by decide, by decide +kernel⟩
theorem cm_X8_lift : CM yX8_lift cX8_lift 1 (some .int) 0 := ⟨co_X8_lift, ini_X8, by decide, by decide, by decide +kernel⟩
theorem cm_X8_has : CM yX8_has cX8_has 2 (some .boolean) 2 := ⟨co_X8_has, ini_X8, by decide, by decide, by decide +kernel⟩
theorem cm_X8_sumOf : CM yX8_sumOf cX8_sumOf 5 (some .int) 2 := ⟨co_X8_sumOf, ini_X8, by decide, by decide, by decide +kernel⟩
theorem cm_X8_can : CM yX8_can cX8_can 3 (some .boolean) 2 := ⟨co_X8_can, ini_X8, by decide, by decide, by decide +kernel⟩
theorem cm_X8_lowest : CM yX8_lowest cX8_lowest 2 (some .int) 1 := ⟨co_X8_lowest, ini_X8, by decide, by decide, by decide +kernel⟩
theorem cm_X8_leastBy : CM yX8_leastBy cX8_leastBy 9 (some .int) 4 := ⟨co_X8_leastBy, ini_X8, by decide, by decide, by decide +kernel⟩
theorem cm_X8_layTable : CM yX8_layTable cX8_layTable 5 none 0 := ⟨co_X8_layTable, ini_X8, by decide, by decide, by decide +kernel⟩
theorem cm_X8_leastPower : CM yX8_leastPower cX8_leastPower 3 (some .int) 2 := ⟨co_X8_leastPower, ini_X8, by decide, by decide, by decide +kernel⟩
theorem cm_X8_layShare : CM yX8_layShare cX8_layShare 8 none 2 := ⟨co_X8_layShare, ini_X8, by decide, by decide, by decide +kernel⟩
theorem cm_X8_lockedOnes : CM yX8_lockedOnes cX8_lockedOnes 3 (some .int) 0 := ⟨co_X8_lockedOnes, ini_X8, by decide, by decide, by decide +kernel⟩
theorem cm_X8_ones : CM yX8_ones cX8_ones 3 (some .int) 1 := ⟨co_X8_ones, ini_X8, by decide, by decide, by decide +kernel⟩
theorem cm_X8_findBest : CM yX8_findBest cX8_findBest 7 (some .int) 1 := ⟨co_X8_findBest, ini_X8, by decide, by decide, by decide +kernel⟩
theorem cm_X8_own : CM yX8_own cX8_own 3 (some .int) 2 := ⟨co_X8_own, ini_X8, by decide, by decide, by decide +kernel⟩
theorem cm_X8_standing : CM yX8_standing cX8_standing 4 (some .int) 1 := ⟨co_X8_standing, ini_X8, by decide, by decide, by decide +kernel⟩
theorem cm_X8_made : CM yX8_made cX8_made 5 (some .int) 0 := ⟨co_X8_made, ini_X8, by decide, by decide, by decide +kernel⟩
theorem cm_X8_powerNow : CM yX8_powerNow cX8_powerNow 3 (some .int) 0 := ⟨co_X8_powerNow, ini_X8, by decide, by decide, by decide +kernel⟩
theorem cm_X8_isGapOver : CM yX8_isGapOver cX8_isGapOver 2 (some .boolean) 1 := ⟨co_X8_isGapOver, ini_X8, by decide, by decide, by decide +kernel⟩
theorem cm_X8_mayStart : CM yX8_mayStart cX8_mayStart 5 (some .boolean) 2 := ⟨co_X8_mayStart, ini_X8, by decide, by decide, by decide +kernel⟩
theorem cm_X8_start : CM yX8_start cX8_start 5 none 2 := ⟨co_X8_start, ini_X8, by decide, by decide, by decide +kernel⟩
theorem cm_X8_stop : CM yX8_stop cX8_stop 3 none 2 := ⟨co_X8_stop, ini_X8, by decide, by decide, by decide +kernel⟩
theorem cm_X8_starter : CM yX8_starter cX8_starter 4 (some .int) 1 := ⟨co_X8_starter, ini_X8, by decide, by decide, by decide +kernel⟩
theorem cm_X8_stopper : CM yX8_stopper cX8_stopper 5 (some .int) 1 := ⟨co_X8_stopper, ini_X8, by decide, by decide, by decide +kernel⟩
theorem cm_X8_unlist : CM yX8_unlist cX8_unlist 4 none 1 := ⟨co_X8_unlist, ini_X8, by decide, by decide, by decide +kernel⟩
theorem cm_X8_tickOnce : CM yX8_tickOnce cX8_tickOnce 6 none 0 := ⟨co_X8_tickOnce, ini_X8, by decide, by decide, by decide +kernel⟩
theorem cm_X8_note : CM yX8_note cX8_note 2 none 0 := ⟨co_X8_note, ini_X8, by decide, by decide, by decide +kernel⟩
theorem cm_X8_undo : CM yX8_undo cX8_undo 2 (some .int) 0 := ⟨co_X8_undo, ini_X8, by decide, by decide, by decide +kernel⟩
theorem cm_X8_tell : CM yX8_tell cX8_tell 5 (some .int) 2 := ⟨co_X8_tell, ini_X8, by decide, by decide, by decide +kernel⟩
theorem cm_X8_isMachine : CM yX8_isMachine cX8_isMachine 2 (some .boolean) 1 := ⟨co_X8_isMachine, ini_X8, by decide, by decide, by decide +kernel⟩
theorem cm_X8_lock : CM yX8_lock cX8_lock 3 (some .int) 2 := ⟨co_X8_lock, ini_X8, by decide, by decide, by decide +kernel⟩
theorem cm_X8_dip : CM yX8_dip cX8_dip 4 (some .int) 0 := ⟨co_X8_dip, ini_X8, by decide, by decide, by decide +kernel⟩
theorem cm_X8_tick : CM yX8_tick cX8_tick 4 (some .int) 1 := ⟨co_X8_tick, ini_X8, by decide, by decide, by decide +kernel⟩
theorem cm_X8_placeInList : CM yX8_placeInList cX8_placeInList 4 (some .int) 1 := ⟨co_X8_placeInList, ini_X8, by decide, by decide, by decide +kernel⟩
theorem cm_X8_machine : CM yX8_machine cX8_machine 3 (some .int) 2 := ⟨co_X8_machine, ini_X8, by decide, by decide, by decide +kernel⟩
theorem cm_X8_power : CM yX8_power cX8_power 4 (some .int) 3 := ⟨co_X8_power, ini_X8, by decide, by decide, by decide +kernel⟩
theorem cm_X8_share : CM yX8_share cX8_share 4 (some .int) 3 := ⟨co_X8_share, ini_X8, by decide, by decide, by decide +kernel⟩
theorem cm_X8_best : CM yX8_best cX8_best 4 (some .int) 2 := ⟨co_X8_best, ini_X8, by decide, by decide, by decide +kernel⟩
theorem cm_X8_more : CM yX8_more cX8_more 3 (some .int) 0 := ⟨co_X8_more, ini_X8, by decide, by decide, by decide +kernel⟩
theorem cm_X8_now : CM yX8_now cX8_now 4 (some .int) 1 := ⟨co_X8_now, ini_X8, by decide, by decide, by decide +kernel⟩
theorem cm_X8_ahead : CM yX8_ahead cX8_ahead 8 (some .int) 2 := ⟨co_X8_ahead, ini_X8, by decide, by decide, by decide +kernel⟩
theorem cm_X8_count : CM yX8_count cX8_count 2 (some .int) 1 := ⟨co_X8_count, ini_X8, by decide, by decide, by decide +kernel⟩
theorem cm_J6_bitCount_0f7a4 : CM yJ6_bitCount_0f7a4 cJ6_bitCount_0f7a4 1 (some .int) 1 := ⟨co_J6_bitCount_0f7a4, ini_J6, by decide, by decide, by decide +kernel⟩
theorem cm_J9_floorMod_7cf53 : CM yJ9_floorMod_7cf53 cJ9_floorMod_7cf53 3 (some .int) 2 := ⟨co_J9_floorMod_7cf53, ini_J9, by decide, by decide, by decide +kernel⟩
theorem cm_J0_length_8abf5 : CM yJ0_length_8abf5 cJ0_length_8abf5 1 (some .int) 0 := ⟨co_J0_length_8abf5, ini_J0, by decide, by decide, by decide +kernel⟩
theorem cm_J0_charAt_5068e : CM yJ0_charAt_5068e cJ0_charAt_5068e 2 (some .char) 1 := ⟨co_J0_charAt_5068e, ini_J0, by decide, by decide, by decide +kernel⟩
theorem cm_J0_coder_7d493 : CM yJ0_coder_7d493 cJ0_coder_7d493 1 (some .byte) 0 := ⟨co_J0_coder_7d493, ini_J0, by decide, by decide, by decide +kernel⟩
theorem cm_J0_isLatin1_aae02 : CM yJ0_isLatin1_aae02 cJ0_isLatin1_aae02 1 (some .boolean) 0 := ⟨co_J0_isLatin1_aae02, ini_J0, by decide, by decide, by decide +kernel⟩
theorem cm_J0_checkIndex_df160 : CM yJ0_checkIndex_df160 cJ0_checkIndex_df160 2 none 2 := ⟨co_J0_checkIndex_df160, ini_J0, by decide, by decide, by decide +kernel⟩
theorem cm_J1_charAt_3b067 : CM yJ1_charAt_3b067 cJ1_charAt_3b067 2 (some .char) 2 := ⟨co_J1_charAt_3b067, ini_J1, by decide, by decide, by decide +kernel⟩
theorem cm_J7_fill_53178 : CM yJ7_fill_53178 cJ7_fill_53178 4 none 2 := ⟨co_J7_fill_53178, ini_J7, by decide, by decide, by decide +kernel⟩
theorem cm_J3_checkIndex_8e157 : CM yJ3_checkIndex_8e157 cJ3_checkIndex_8e157 3 (some .int) 3 := ⟨co_J3_checkIndex_8e157, ini_J3, by decide, by decide, by decide +kernel⟩
/-- all objects of the class are there -/
def FX (G : Ly) : Prop := (gOb G 0 = some 7 ∧ gOb G 1 = some 3 ∧ gOb G 2 = some 2 ∧ gOb G 3 = some 6 ∧ gOb G 4 = some 6 ∧ gOb G 5 = some 6 ∧ gOb G 6 = some 6 ∧ gOb G 7 = some 6 ∧ gOb G 8 = some 6 ∧ gOb G 9 = some 1 ∧ gOb G 10 = some 5 ∧ gOb G 11 = some 4 ∧ gOb G 12 = some 4 ∧ gOb G 13 = some 0) ∧ (gLk G 0 0 = 1 ∧ gLk G 0 1 = 2 ∧ gLk G 0 2 = 3 ∧ gLk G 0 3 = 4 ∧ gLk G 0 4 = 9 ∧ gLk G 0 5 = 10 ∧ gLk G 0 6 = 12 ∧ gLk G 0 7 = 13 ∧ gLk G 9 100 = 5 ∧ gLk G 9 101 = 6 ∧ gLk G 9 102 = 7 ∧ gLk G 9 103 = 8 ∧ gLk G 10 0 = 11 ∧ gLk G 10 1 = 2 ∧ gLk G 11 0 = 2 ∧ gLk G 12 0 = 2 ∧ gLk G 13 0 = 2)
theorem fx0 {G : Ly} (F : FX G) : gOb G 0 = some 7 := F.1.1
theorem fx1 {G : Ly} (F : FX G) : gOb G 1 = some 3 := F.1.2.1
theorem fx2 {G : Ly} (F : FX G) : gOb G 2 = some 2 := F.1.2.2.1
theorem fx3 {G : Ly} (F : FX G) : gOb G 3 = some 6 := F.1.2.2.2.1
theorem fx4 {G : Ly} (F : FX G) : gOb G 4 = some 6 := F.1.2.2.2.2.1
theorem fx5 {G : Ly} (F : FX G) : gOb G 5 = some 6 := F.1.2.2.2.2.2.1
theorem fx6 {G : Ly} (F : FX G) : gOb G 6 = some 6 := F.1.2.2.2.2.2.2.1
theorem fx7 {G : Ly} (F : FX G) : gOb G 7 = some 6 := F.1.2.2.2.2.2.2.2.1
theorem fx8 {G : Ly} (F : FX G) : gOb G 8 = some 6 := F.1.2.2.2.2.2.2.2.2.1
theorem fx9 {G : Ly} (F : FX G) : gOb G 9 = some 1 := F.1.2.2.2.2.2.2.2.2.2.1
theorem fx10 {G : Ly} (F : FX G) : gOb G 10 = some 5 := F.1.2.2.2.2.2.2.2.2.2.2.1
theorem fx11 {G : Ly} (F : FX G) : gOb G 11 = some 4 := F.1.2.2.2.2.2.2.2.2.2.2.2.1
theorem fx12 {G : Ly} (F : FX G) : gOb G 12 = some 4 := F.1.2.2.2.2.2.2.2.2.2.2.2.2.1
theorem fx13 {G : Ly} (F : FX G) : gOb G 13 = some 0 := F.1.2.2.2.2.2.2.2.2.2.2.2.2.2
theorem fl0_0 {G : Ly} (F : FX G) : gLk G 0 0 = 1 := F.2.1
theorem fl0_1 {G : Ly} (F : FX G) : gLk G 0 1 = 2 := F.2.2.1
theorem fl0_2 {G : Ly} (F : FX G) : gLk G 0 2 = 3 := F.2.2.2.1
theorem fl0_3 {G : Ly} (F : FX G) : gLk G 0 3 = 4 := F.2.2.2.2.1
theorem fl0_4 {G : Ly} (F : FX G) : gLk G 0 4 = 9 := F.2.2.2.2.2.1
theorem fl0_5 {G : Ly} (F : FX G) : gLk G 0 5 = 10 := F.2.2.2.2.2.2.1
theorem fl0_6 {G : Ly} (F : FX G) : gLk G 0 6 = 12 := F.2.2.2.2.2.2.2.1
theorem fl0_7 {G : Ly} (F : FX G) : gLk G 0 7 = 13 := F.2.2.2.2.2.2.2.2.1
theorem fl9_100 {G : Ly} (F : FX G) : gLk G 9 100 = 5 := F.2.2.2.2.2.2.2.2.2.1
theorem fl9_101 {G : Ly} (F : FX G) : gLk G 9 101 = 6 := F.2.2.2.2.2.2.2.2.2.2.1
theorem fl9_102 {G : Ly} (F : FX G) : gLk G 9 102 = 7 := F.2.2.2.2.2.2.2.2.2.2.2.1
theorem fl9_103 {G : Ly} (F : FX G) : gLk G 9 103 = 8 := F.2.2.2.2.2.2.2.2.2.2.2.2.1
theorem fl10_0 {G : Ly} (F : FX G) : gLk G 10 0 = 11 := F.2.2.2.2.2.2.2.2.2.2.2.2.2.1
theorem fl10_1 {G : Ly} (F : FX G) : gLk G 10 1 = 2 := F.2.2.2.2.2.2.2.2.2.2.2.2.2.2.1
theorem fl11_0 {G : Ly} (F : FX G) : gLk G 11 0 = 2 := F.2.2.2.2.2.2.2.2.2.2.2.2.2.2.2.1
theorem fl12_0 {G : Ly} (F : FX G) : gLk G 12 0 = 2 := F.2.2.2.2.2.2.2.2.2.2.2.2.2.2.2.2.1
theorem fl13_0 {G : Ly} (F : FX G) : gLk G 13 0 = 2 := F.2.2.2.2.2.2.2.2.2.2.2.2.2.2.2.2.2
/-- the reference is there -/
def FM (G : Ly) : Prop := gOb G 20 = some 8
end
section
/-! BITS of a set of machines -/
def tb (s : Int) (m : Nat) : Int := s / 2 ^ m % 2
theorem tb01 (s : Int) (m : Nat) : tb s m = 0 ∨ tb s m = 1 := by
  unfold tb
  omega
theorem fin1 {P : Int → Prop} (h : ∀ a : Fin 64, P (a.val : Int)) {s : Int} (h0 : 0 ≤ s) (h1 : s < 64) : P s := by
  have := h ⟨s.toNat, by omega⟩
  have e : ((s.toNat : Nat) : Int) = s := by omega
  rwa [e] at this
theorem fin2 {P : Int → Int → Prop} (h : ∀ a : Fin 64, ∀ b : Fin 6, P (a.val : Int) (b.val : Int)) {s m : Int} (h0 : 0 ≤ s) (h1 : s < 64) (h2 : 0 ≤ m) (h3 : m < 6) : P s m := by
  have := h ⟨s.toNat, by omega⟩ ⟨m.toNat, by omega⟩
  have e : ((s.toNat : Nat) : Int) = s := by omega
  have e2 : ((m.toNat : Nat) : Int) = m := by omega
  rwa [e, e2] at this
theorem finB {P : Int → Int → Prop} (h : ∀ a : Fin 64, ∀ b : Fin 64, P (a.val : Int) (b.val : Int)) {s m : Int} (h0 : 0 ≤ s) (h1 : s < 64) (h2 : 0 ≤ m) (h3 : m < 64) : P s m := by
  have := h ⟨s.toNat, by omega⟩ ⟨m.toNat, by omega⟩
  have e : ((s.toNat : Nat) : Int) = s := by omega
  have e2 : ((m.toNat : Nat) : Int) = m := by omega
  rwa [e, e2] at this
theorem bt_shr {s m : Int} (h0 : 0 ≤ s) (h1 : s < 64) (h2 : 0 ≤ m) (h3 : m < 6) : band (bshr s m) 1 = tb s m.toNat :=
  fin2 (P := fun s m => band (bshr s m) 1 = tb s m.toNat) (by decide +kernel) h0 h1 h2 h3
theorem bt_and {s m : Int} (h0 : 0 ≤ s) (h1 : s < 64) (h2 : 0 ≤ m) (h3 : m < 6) : (band s (bshl 1 m) = 0 ↔ tb s m.toNat = 0) ∧ 0 ≤ band s (bshl 1 m) ∧ band s (bshl 1 m) < 64 :=
  fin2 (P := fun s m => (band s (bshl 1 m) = 0 ↔ tb s m.toNat = 0) ∧ 0 ≤ band s (bshl 1 m) ∧ band s (bshl 1 m) < 64) (by decide +kernel) h0 h1 h2 h3
theorem bt_set {s m : Int} (h0 : 0 ≤ s) (h1 : s < 64) (h2 : 0 ≤ m) (h3 : m < 6) : 0 ≤ bor s (bshl 1 m) ∧ bor s (bshl 1 m) < 64 ∧ ∀ k, k < 6 → tb (bor s (bshl 1 m)) k = if k = m.toNat then 1 else tb s k :=
  fin2 (P := fun s m => 0 ≤ bor s (bshl 1 m) ∧ bor s (bshl 1 m) < 64 ∧ ∀ k, k < 6 → tb (bor s (bshl 1 m)) k = if k = m.toNat then 1 else tb s k) (by decide +kernel) h0 h1 h2 h3
theorem bt_clr {s m : Int} (h0 : 0 ≤ s) (h1 : s < 64) (h2 : 0 ≤ m) (h3 : m < 6) : 0 ≤ band s (bxor (bshl 1 m) (-1)) ∧ band s (bxor (bshl 1 m) (-1)) < 64 ∧ ∀ k, k < 6 → tb (band s (bxor (bshl 1 m) (-1))) k = if k = m.toNat then 0 else tb s k :=
  fin2 (P := fun s m => 0 ≤ band s (bxor (bshl 1 m) (-1)) ∧ band s (bxor (bshl 1 m) (-1)) < 64 ∧ ∀ k, k < 6 → tb (band s (bxor (bshl 1 m) (-1))) k = if k = m.toNat then 0 else tb s k) (by decide +kernel) h0 h1 h2 h3
theorem bt_later {s m : Int} (h0 : 0 ≤ s) (h1 : s < 64) (h2 : 0 ≤ m) (h3 : m < 6) : 0 ≤ band s (-(bshl 2 m)) ∧ band s (-(bshl 2 m)) < 64 ∧ ∀ k, k < 6 → tb (band s (-(bshl 2 m))) k = if k ≤ m.toNat then 0 else tb s k :=
  fin2 (P := fun s m => 0 ≤ band s (-(bshl 2 m)) ∧ band s (-(bshl 2 m)) < 64 ∧ ∀ k, k < 6 → tb (band s (-(bshl 2 m))) k = if k ≤ m.toNat then 0 else tb s k) (by decide +kernel) h0 h1 h2 h3
theorem bt_seen {s m : Int} (h0 : 0 ≤ s) (h1 : s < 64) (h2 : 0 ≤ m) (h3 : m < 6) : 0 ≤ band s (bshl 2 m - 1) ∧ band s (bshl 2 m - 1) < 64 ∧ ∀ k, k < 6 → tb (band s (bshl 2 m - 1)) k = if k ≤ m.toNat then tb s k else 0 :=
  fin2 (P := fun s m => 0 ≤ band s (bshl 2 m - 1) ∧ band s (bshl 2 m - 1) < 64 ∧ ∀ k, k < 6 → tb (band s (bshl 2 m - 1)) k = if k ≤ m.toNat then tb s k else 0) (by decide +kernel) h0 h1 h2 h3
theorem bt_or {s t : Int} (h0 : 0 ≤ s) (h1 : s < 64) (h2 : 0 ≤ t) (h3 : t < 64) : 0 ≤ bor s t ∧ bor s t < 64 ∧ ∀ k, k < 6 → tb (bor s t) k = max (tb s k) (tb t k) :=
  finB (P := fun s t => 0 ≤ bor s t ∧ bor s t < 64 ∧ ∀ k, k < 6 → tb (bor s t) k = max (tb s k) (tb t k)) (by decide +kernel) h0 h1 h2 h3
theorem bt_and2 {s t : Int} (h0 : 0 ≤ s) (h1 : s < 64) (h2 : 0 ≤ t) (h3 : t < 64) : 0 ≤ band s t ∧ band s t < 64 ∧ ∀ k, k < 6 → tb (band s t) k = min (tb s k) (tb t k) :=
  finB (P := fun s t => 0 ≤ band s t ∧ band s t < 64 ∧ ∀ k, k < 6 → tb (band s t) k = min (tb s k) (tb t k)) (by decide +kernel) h0 h1 h2 h3
theorem bt_open {s t : Int} (h0 : 0 ≤ s) (h1 : s < 64) (h2 : 0 ≤ t) (h3 : t < 64) : 0 ≤ band s (bxor t (-1)) ∧ band s (bxor t (-1)) < 64 ∧ ∀ k, k < 6 → tb (band s (bxor t (-1))) k = if tb t k = 1 then 0 else tb s k :=
  finB (P := fun s t => 0 ≤ band s (bxor t (-1)) ∧ band s (bxor t (-1)) < 64 ∧ ∀ k, k < 6 → tb (band s (bxor t (-1))) k = if tb t k = 1 then 0 else tb s k) (by decide +kernel) h0 h1 h2 h3
theorem bt_ext {s t : Int} (h0 : 0 ≤ s) (h1 : s < 64) (h2 : 0 ≤ t) (h3 : t < 64) (h : ∀ k, k < 6 → tb s k = tb t k) : s = t :=
  finB (P := fun s t => (∀ k, k < 6 → tb s k = tb t k) → s = t) (by decide +kernel) h0 h1 h2 h3 h
theorem bt_one {m : Int} (h2 : 0 ≤ m) (h3 : m < 6) : bshl 1 m = 2 ^ m.toNat ∧ 1 ≤ bshl 1 m ∧ bshl 1 m ≤ 32 :=
  fin2 (P := fun _ m => bshl 1 m = 2 ^ m.toNat ∧ 1 ≤ bshl 1 m ∧ bshl 1 m ≤ 32) (by decide +kernel) (s := 0) (by decide) (by decide) h2 h3
theorem bt_all : ∀ n : Int, 0 ≤ n → n ≤ 6 → 0 ≤ bshl 1 n - 1 ∧ bshl 1 n - 1 < 64 ∧ bshl 1 n = 2 ^ n.toNat ∧ ∀ k, k < 6 → tb (bshl 1 n - 1) k = if k < n.toNat then 1 else 0 := by
  intro n h0 h1
  have h : ∀ a : Fin 7, 0 ≤ bshl 1 (a.val : Int) - 1 ∧ bshl 1 (a.val : Int) - 1 < 64 ∧ bshl 1 (a.val : Int) = 2 ^ a.val ∧ ∀ k, k < 6 → tb (bshl 1 (a.val : Int) - 1) k = if k < a.val then 1 else 0 := by decide +kernel
  have h2 := h ⟨n.toNat, by omega⟩
  have e : ((n.toNat : Nat) : Int) = n := by omega
  rwa [e] at h2
def cnt (s : Int) : Int := tb s 0 + tb s 1 + tb s 2 + tb s 3 + tb s 4 + tb s 5
/-- a sum over the machines of a set -/
def sumB (s : Int) (f : Nat → Int) : Nat → Int
  | 0 => 0
  | k + 1 => sumB s f k + (if tb s k = 1 then f k else 0)
theorem sumB_suc {s : Int} {f : Nat → Int} {k : Int} (h : 0 ≤ k) : sumB s f (k + 1).toNat = sumB s f k.toNat + (if tb s k.toNat = 1 then f k.toNat else 0) := by
  have e : (k + 1).toNat = k.toNat + 1 := by omega
  rw [e]
  rfl
theorem sumB_le {s : Int} {f : Nat → Int} {B : Int} : ∀ n : Nat, (∀ k, k < n → 0 ≤ f k ∧ f k ≤ B) → 0 ≤ sumB s f n ∧ sumB s f n ≤ B * n
  | 0, _ => by simp [sumB]
  | n + 1, h => by
    obtain ⟨h1, h2⟩ := sumB_le (s := s) n (fun k hk => h k (by omega))
    obtain ⟨h3, h4⟩ := h n (by omega)
    have e : B * ((n + 1 : Nat) : Int) = B * (n : Int) + B := by
      rw [show ((n + 1 : Nat) : Int) = (n : Int) + 1 by omega, Int.mul_add, Int.mul_one]
    unfold sumB
    split <;> omega
theorem sumB_congr {s t : Int} {f g : Nat → Int} : ∀ n : Nat, (∀ k, k < n → tb s k = tb t k) → (∀ k, k < n → tb s k = 1 → f k = g k) → sumB s f n = sumB t g n
  | 0, _, _ => rfl
  | n + 1, h1, h2 => by
    unfold sumB
    rw [sumB_congr n (fun k hk => h1 k (by omega)) (fun k hk => h2 k (by omega)), ← h1 n (by omega)]
    by_cases q : tb s n = 1
    · rw [if_pos q, if_pos q, h2 n (by omega) q]
    · rw [if_neg q, if_neg q]
end
section
section FP
variable {p : Program} {l : Launch} {e : Env} {R : Room} {s : State} {m : MethodId} {args : Array Value} {below : List Frame} {meth : Method} {c : Code} {Q : State → Prop} {G : Ly} {nL pc : Nat} {lv : List (Nat × Value)} {st : List Value}
/-- an answer of which something is said, the world as it was -/
theorem fn_p {P : Int → Prop} {w' : Wd} (k : ∀ z : Int, P z → Gj p l e R s m args below meth c Q G nL pc lv (.int (iI z) :: st) w') : ∀ (z : Int) (w2 : Wd), (w2 = w' ∧ P z) → Gj p l e R s m args below meth c Q G nL pc lv (.int (iI z) :: st) w2 := by
  rintro z _ ⟨rfl, h⟩
  exact k z h
theorem fn_pl {P : Int → Prop} {w' : Wd} (k : ∀ z : Int, P z → Gj p l e R s m args below meth c Q G nL pc lv (.long (lI z) :: st) w') : ∀ (z : Int) (w2 : Wd), (w2 = w' ∧ P z) → Gj p l e R s m args below meth c Q G nL pc lv (.long (lI z) :: st) w2 := by
  rintro z _ ⟨rfl, h⟩
  exact k z h
end FP
def Hid (P : Prop) : Prop := P
theorem cmp_nn (a b : Int) : (0 ≤ (if b < a then (1 : Int) else if a = b then 0 else -1)) ↔ b ≤ a := by
  by_cases h : b < a
  · rw [if_pos h]; omega
  · rw [if_neg h]
    by_cases h2 : a = b
    · rw [if_pos h2]; omega
    · rw [if_neg h2]; omega
theorem cmp_in (a b : Int) : InR (if b < a then (1 : Int) else if a = b then 0 else -1) := by
  by_cases h : b < a
  · rw [if_pos h]; exact ⟨by decide, by decide⟩
  · rw [if_neg h]
    by_cases h2 : a = b
    · rw [if_pos h2]; exact ⟨by decide, by decide⟩
    · rw [if_neg h2]; exact ⟨by decide, by decide⟩
end
section
/-! methods of classes some of whose methods the machine runs by itself; answers that are given outright -/
theorem met_ofWF {l : Launch} {y : MethodName} {ws ws' : List Cond} {rm : Room} {Pc : Array Value → State → Prop} {Qc : Array Value → State → Outcome → State → Prop} {mc ms : Nat} {free : Addr → Prop} {cc : ByteArray} {maxL : Nat} {ret : Option FieldType}
    (hy : plainFor y = true) (hw : ws = Cond.code y cc maxL ret :: ws')
    (body : ∀ p e s m args below meth c s₁, BodyLoose p l y (headSpec ws rm) cc maxL ret e s m args below meth c s₁ → c.maxLocals = maxL → Pc args s →
      W p l e (headSpec ws rm).room s m args below meth c s.heap [] 0 0 (MQ below Qc args s mc ms free) (entryFrame m args maxL)) : Met l y ws rm Pc Qc mc ms free := by
  refine MetFree.of_bodySF (code := cc) (maxLocals := maxL) (ret := ret) hy ?_ ?_
  · intro args s m h hn
    obtain ⟨meth, c, h1, h2, h3, h4, h5, h6, -, -⟩ := Cond.code_spec hn (atoms_spec (ws := ws) h _ (by rw [hw]; exact List.mem_cons_self))
    exact ⟨meth, c, h1, h2, h3, h4, h5, h6⟩
  · intro p e s m args below meth c s₁ B hml hP _
    have hh0 : s₁.heap = s.heap := by rw [B.state]; rfl
    obtain ⟨t, a1, o, b1, b2, b3⟩ := body p e s m args below meth c s₁ B hml hP s₁ hh0 (Stand.of_body B)
    exact ⟨t, o, a1, b1, b2, ⟨b3.1, b3.2⟩⟩
theorem mi_ofF {l : Launch} {y : MethodName} {b : ByteArray} {n rf rl : Nat} {ret : Option FieldType} {G : Ly} {av : List Value} {w : Wd} {lv : List (Nat × Value)} {post : Int → Wd → Prop} (hy : plainFor y = true) (hn : (lg_sl av).length ≤ n) (hl : lv_args 0 av = lv)
    (h : ∀ p e s m below meth c, Cx p s m av.toArray meth c b n ret y.cls G → Gj p l e (rmX rf rl) s m av.toArray below meth c (Qi below av.toArray s G post) G n 0 lv [] w) : Mi l y b n ret rf rl G av w post := by
  refine met_ofWF (cc := b) (maxL := n) (ret := ret) hy rfl ?_
  intro p e s m args below meth c s₁ B hml hv
  obtain ⟨rfl, hH, hS⟩ := hv
  rw [lg_entry_eq]
  exact h p e s m below meth c (Cx.of B hml hS) s.heap [] _ hH va_S.rf (hl ▸ lv_entry av hn)
section FN
variable {p : Program} {l : Launch} {e : Env} {R : Room} {s : State} {m : MethodId} {args : Array Value} {below : List Frame} {meth : Method} {c : Code} {Q : State → Prop} {G : Ly} {nL pc : Nat} {lv : List (Nat × Value)} {st : List Value}
theorem fn_i {v : Int} {w' : Wd} (k : Gj p l e R s m args below meth c Q G nL pc lv (.int (iI v) :: st) w') : ∀ (z : Int) (w2 : Wd), (z = v ∧ w2 = w') → Gj p l e R s m args below meth c Q G nL pc lv (.int (iI z) :: st) w2 := by
  rintro _ _ ⟨rfl, rfl⟩
  exact k
theorem fn_l {v : Int} {w' : Wd} (k : Gj p l e R s m args below meth c Q G nL pc lv (.long (lI v) :: st) w') : ∀ (z : Int) (w2 : Wd), (z = v ∧ w2 = w') → Gj p l e R s m args below meth c Q G nL pc lv (.long (lI z) :: st) w2 := by
  rintro _ _ ⟨rfl, rfl⟩
  exact k
theorem fn_v {w' : Wd} (k : Gj p l e R s m args below meth c Q G nL pc lv st w') : ∀ (w2 : Wd), w2 = w' → Gj p l e R s m args below meth c Q G nL pc lv st w2 := by
  rintro _ rfl
  exact k
end FN
end
section
/-! changes of a world, and their reading -/
def upA (w : Wd) (o f : Nat) (g : Nat → Int) : Wd := fun o' f' j' => if o' = o ∧ f' = f then g j' else w o' f' j'
theorem upA_at (w : Wd) (o f : Nat) (g : Nat → Int) : upA w o f g o f = g := by funext j; exact if_pos ⟨rfl, rfl⟩
theorem upA_atj (w : Wd) (o f j : Nat) (g : Nat → Int) : upA w o f g o f j = g j := if_pos ⟨rfl, rfl⟩
theorem upA_ne {w : Wd} {o f o' f' : Nat} {g : Nat → Int} (h : ¬ (o' = o ∧ f' = f)) : upA w o f g o' f' = w o' f' := by funext j; exact if_neg h
theorem upA_nej {w : Wd} {o f o' f' j' : Nat} {g : Nat → Int} (h : ¬ (o' = o ∧ f' = f)) : upA w o f g o' f' j' = w o' f' j' := if_neg h
def fup (g : Nat → Int) (k : Nat) (v : Int) : Nat → Int := fun j => if j = k then v else g j
theorem fup_at (g : Nat → Int) (k : Nat) (v : Int) : fup g k v k = v := if_pos rfl
theorem fup_ne {g : Nat → Int} {k j : Nat} {v : Int} (h : j ≠ k) : fup g k v j = g j := if_neg h
theorem up_upA (w : Wd) (o f k : Nat) (g : Nat → Int) (v : Int) : up (upA w o f g) o f k v = upA w o f (fup g k v) := by
  funext o' f' j'
  unfold up upA fup
  by_cases h : o' = o ∧ f' = f
  · obtain ⟨rfl, rfl⟩ := h
    simp
  · rw [if_neg h, if_neg h, if_neg (fun z => h ⟨z.1, z.2.1⟩)]
theorem upA_self (w : Wd) (o f : Nat) : upA w o f (w o f) = w := by
  funext o' f' j'
  unfold upA
  split
  · rename_i h; rw [h.1, h.2]
  · rfl
theorem upA_upA (w : Wd) (o f : Nat) (g h : Nat → Int) : upA (upA w o f g) o f h = upA w o f h := by
  funext o' f' j'
  unfold upA
  split <;> rfl
theorem up_eq_upA (w : Wd) (o f k : Nat) (v : Int) : up w o f k v = upA w o f (fup (w o f) k v) := by
  rw [← up_upA, upA_self]
def fillN (g : Nat → Int) (v : Int) (n : Nat) : Nat → Int := fun j => if j < n then v else g j
theorem fillN_0 (g : Nat → Int) (v : Int) : fillN g v 0 = g := by funext j; exact if_neg (Nat.not_lt_zero _)
theorem fillN_suc (g : Nat → Int) (v : Int) (n : Nat) : fup (fillN g v n) n v = fillN g v (n + 1) := by
  funext j
  unfold fup fillN
  by_cases h : j = n
  · rw [if_pos h, if_pos (by omega)]
  · rw [if_neg h]
    by_cases h2 : j < n
    · rw [if_pos h2, if_pos (by omega)]
    · rw [if_neg h2, if_neg (by omega)]
def sumN (f : Nat → Int) : Nat → Int
  | 0 => 0
  | k + 1 => sumN f k + f k
theorem sumN_suc {f : Nat → Int} {k : Int} (h : 0 ≤ k) : sumN f (k + 1).toNat = sumN f k.toNat + f k.toNat := by
  rw [show (k + 1).toNat = k.toNat + 1 by omega]; rfl
/-- a machine is taken off a list, in place -/
def tol (f : Nat → Int) (m : Int) : Nat → (Nat → Int) × Nat
  | 0 => (f, 0)
  | k + 1 => if (tol f m k).1 k = m then tol f m k else (fup (tol f m k).1 (tol f m k).2 ((tol f m k).1 k), (tol f m k).2 + 1)
theorem tol_le (f : Nat → Int) (m : Int) : ∀ k, (tol f m k).2 ≤ k
  | 0 => Nat.le_refl _
  | k + 1 => by
    have := tol_le f m k
    unfold tol
    split
    · omega
    · show (tol f m k).2 + 1 ≤ k + 1; omega
/-- the first place of a number in a list, or -4 -/
def pil (f : Nat → Int) (m : Int) (n : Nat) : Nat → Int
  | 0 => -4
  | k + 1 => if f (n - (k + 1)) = m then ((n - (k + 1) : Nat) : Int) else pil f m n k
/-- the plant's numbers are such as a text can tell -/
def PV (u : Nat → Nat → Int) : Prop := (1 ≤ u 0 0 ∧ u 0 0 ≤ 6) ∧ (∀ k : Nat, (k : Int) < u 0 0 → (1 ≤ u 1 k ∧ u 1 k ≤ 40) ∧ (u 1 k ≤ u 2 k ∧ u 2 k ≤ 80) ∧ (0 ≤ u 3 k ∧ u 3 k ≤ 99) ∧ (0 ≤ u 4 k ∧ u 4 k ≤ 99) ∧ (0 ≤ u 5 k ∧ u 5 k ≤ 99) ∧ (1 ≤ u 6 k ∧ u 6 k ≤ 40)) ∧
  (0 ≤ u 7 0 ∧ u 7 0 ≤ 30) ∧ (0 ≤ u 8 0 ∧ u 8 0 ≤ 30) ∧ (1 ≤ u 9 0 ∧ u 9 0 ≤ 9) ∧ (0 ≤ u 10 0 ∧ u 10 0 ≤ 9) ∧ (50 ≤ u 11 0 ∧ u 11 0 ≤ 99) ∧ (1 ≤ u 12 0 ∧ u 12 0 ≤ 99) ∧ (0 ≤ u 13 0 ∧ u 13 0 ≤ 9)
theorem pv_sum {u : Nat → Nat → Int} (h : PV u) {f : Nat} {B : Int} (hB : 0 ≤ B) (hf : ∀ k : Nat, (k : Int) < u 0 0 → 0 ≤ u f k ∧ u f k ≤ B) (s : Int) : 0 ≤ sumB s (u f) (u 0 0).toNat ∧ sumB s (u f) (u 0 0).toNat ≤ 6 * B := by
  obtain ⟨h1, h2⟩ := sumB_le (s := s) (f := u f) (B := B) (u 0 0).toNat (fun k hk => hf k (by omega))
  refine ⟨h1, Int.le_trans h2 ?_⟩
  rw [Int.mul_comm]
  exact Int.mul_le_mul_of_nonneg_right (by have := h.1.2; omega) hB
theorem pv_least {u : Nat → Nat → Int} (h : PV u) (s : Int) : 0 ≤ sumB s (u 1) (u 0 0).toNat ∧ sumB s (u 1) (u 0 0).toNat ≤ 240 := pv_sum h (f := 1) (B := 40) (by decide) (fun k hk => by have := (h.2.1 k hk).1; omega) s
theorem pv_most {u : Nat → Nat → Int} (h : PV u) (s : Int) : 0 ≤ sumB s (u 2) (u 0 0).toNat ∧ sumB s (u 2) (u 0 0).toNat ≤ 480 := pv_sum h (f := 2) (B := 80) (by decide) (fun k hk => by have := h.2.1 k hk; omega) s
theorem pv_flow {u : Nat → Nat → Int} (h : PV u) (s : Int) : 0 ≤ sumB s (u 6) (u 0 0).toNat ∧ sumB s (u 6) (u 0 0).toNat ≤ 240 := pv_sum h (f := 6) (B := 40) (by decide) (fun k hk => by have := h.2.1 k hk; omega) s
theorem bxor_nn {a b : Int} (ha : 0 ≤ a) (ha2 : a ≤ 2147483647) (hb : 0 ≤ b) (hb2 : b ≤ 2147483647) : 0 ≤ bxor a b := by
  have h1 : (iI a).toInt = a := iI_to ⟨by omega, ha2⟩
  have h2 : (iI b).toInt = b := iI_to ⟨by omega, hb2⟩
  have m1 : (iI a).toBitVec.msb = false := by
    rw [BitVec.msb_eq_toInt, decide_eq_false_iff_not]
    show ¬ (iI a).toInt < 0
    omega
  have m2 : (iI b).toBitVec.msb = false := by
    rw [BitVec.msb_eq_toInt, decide_eq_false_iff_not]
    show ¬ (iI b).toInt < 0
    omega
  have m3 : (iI a ^^^ iI b).toBitVec.msb = false := by
    rw [Int32.toBitVec_xor, BitVec.msb_xor, m1, m2]; rfl
  rw [BitVec.msb_eq_toInt, decide_eq_false_iff_not] at m3
  have : ¬ (iI a ^^^ iI b).toInt < 0 := m3
  unfold bxor
  omega
end
section
set_option maxHeartbeats 4000000 in
set_option maxRecDepth 100000 in
theorem c_X7_bitOf (l : Launch) (G : Ly) (set : Int) (m : Int) (w : Wd) (hset : 0 ≤ set ∧ set < 64) (hm : 0 ≤ m ∧ m < 6) : Mi l yX7_bitOf cX7_bitOf 2 (some .int) 0 0 G [.int (iI set), .int (iI m)] w (fun z w2 => z = (tb set m.toNat) ∧ w2 = w) := by
  refine mi_of (lv := [(0, .int (iI set)), (1, .int (iI m))]) (by decide) (Nat.le_of_ble_eq_true rfl) rfl ?_
  intro p_ e_ s_ m_ b_ h_ c_ X
  refine g_iload_n X dX7_bitOf_0 rfl 0 rfl ?_
  refine g_iload_n X dX7_bitOf_1 rfl 1 rfl ?_
  refine g_ishr X dX7_bitOf_2 ?_
  refine g_iconst X dX7_bitOf_3 ?_
  refine g_iand X dX7_bitOf_4 ?_
  exact g_iret X rfl rfl dX7_bitOf_5 (by exact ⟨bt_shr hset.1 hset.2 hm.1 hm.2, rfl⟩)
set_option maxHeartbeats 4000000 in
set_option maxRecDepth 100000 in
theorem c_X2_sumOver1 (l : Launch) (G : Ly) (o : Nat) (set : Int) (w : Wd) (ho : gOb G o = some 2) (hset : 0 ≤ set ∧ set < 64) (hn : 0 ≤ w o 0 0 ∧ w o 0 0 ≤ 6) : Mi l yX2_sumOver cX2_sumOver 5 (some .int) 0 0 G [.ref (gAd G o), .int (iI set), .ref (gAr G o 1)] w (fun z w2 => z = (sumB set (w o 1) (w o 0 0).toNat) ∧ w2 = w) := by
  refine mi_of (lv := [(0, .ref (gAd G o)), (1, .int (iI set)), (2, .ref (gAr G o 1))]) (by decide) (Nat.le_of_ble_eq_true rfl) rfl ?_
  intro p_ e_ s_ m_ b_ h_ c_ X
  refine g_iconst X dX2_sumOver_0 ?_
  refine g_istore_n (lv' := [(3, .int (iI 0)), (0, .ref (gAd G o)), (1, .int (iI set)), (2, .ref (gAr G o 1))]) X dX2_sumOver_1 rfl (by decide) rfl ?_
  refine g_iconst X dX2_sumOver_2 ?_
  refine g_istore (lv' := [(4, .int (iI 0)), (3, .int (iI 0)), (0, .ref (gAd G o)), (1, .int (iI set)), (2, .ref (gAr G o 1))]) X dX2_sumOver_3 (by decide) rfl ?_
  refine g_lv (lv' := [(0, .ref (gAd G o)), (1, .int (iI set)), (2, .ref (gAr G o 1)), (3, .int (iI 0)), (4, .int (iI 0))]) [2, 3, 4, 1, 0] rfl ?_
  refine g_loop2 (fun (sum : Int) (k : Int) => [(0, .ref (gAd G o)), (1, .int (iI set)), (2, .ref (gAr G o 1)), (3, .int (iI sum)), (4, .int (iI k))]) (fun (sum : Int) (k : Int) => w) (fun (sum : Int) (k : Int) => (0 ≤ k) ∧ (k ≤ w o 0 0) ∧ (sum = sumB set (w o 1) k.toNat)) (fun (sum : Int) (k : Int) => (w o 0 0 - k).toNat) 0 0 ⟨(by first | omega | rfl | assumption), (by first | omega | rfl | assumption), (by first | omega | rfl | assumption)⟩ ?_
  intro sum k hI_5 ih_5
  obtain ⟨h0, h1, hs⟩ := hI_5
  try dsimp only at ih_5 ⊢
  refine g_iload X dX2_sumOver_5 4 rfl ?_
  refine g_aload_n X dX2_sumOver_7 rfl 0 rfl ?_
  refine g_geti X ck_X2 ho 0 (by decide) fl_X2_30 (Or.inl rfl) dX2_sumOver_8 ?_
  refine g_icmp_ge (tgt := 43) X dX2_sumOver_11 (by decide) (by unfold InR; omega) (by unfold InR; omega) (fun c_11 => ?_) (fun c_11 => ?_)
  · skip
    refine g_iload_n X dX2_sumOver_43 rfl 3 rfl ?_
    exact g_iret X rfl rfl dX2_sumOver_44 (by exact ⟨by rw [hs, show k = w o 0 0 by omega], rfl⟩)
  · skip
    refine g_iload X dX2_sumOver_14 4 rfl ?_
    refine g_aload_n X dX2_sumOver_16 rfl 2 rfl ?_
    refine g_alen X ho (by decide) (show fkX 2 1 = (1, 6) from rfl) dX2_sumOver_17 ?_
    refine g_icmp_ge (tgt := 43) X dX2_sumOver_18 (by decide) (by unfold InR; omega) ⟨by decide, by decide⟩ (fun c_18 => ?_) (fun c_18 => ?_)
    · exact absurd c_18 (by omega) --dead
    · skip
      refine g_iload_n X dX2_sumOver_21 rfl 1 rfl ?_
      refine g_iconst X dX2_sumOver_22 ?_
      refine g_iload X dX2_sumOver_23 4 rfl ?_
      refine g_ishl X dX2_sumOver_25 ?_
      refine g_iand X dX2_sumOver_26 ?_
      refine g_if_eq (tgt := 37) X dX2_sumOver_27 (by decide) (by have hb := bt_and hset.1 hset.2 h0 (show k < 6 by omega); unfold InR; omega) (fun c_27 => ?_) (fun c_27 => ?_)
      · skip
        refine g_iinc (j := 4) (lv' := [(4, .int (iI (k + 1))), (0, .ref (gAd G o)), (1, .int (iI set)), (2, .ref (gAr G o 1)), (3, .int (iI sum))]) X dX2_sumOver_37 rfl (by decide) rfl ?_
        refine g_goto (tgt := 5) X dX2_sumOver_40 (by decide) ?_
        refine g_lv (lv' := [(0, .ref (gAd G o)), (1, .int (iI set)), (2, .ref (gAr G o 1)), (3, .int (iI sum)), (4, .int (iI (k + 1)))]) [1, 2, 3, 4, 0] rfl ?_
        exact ih_5 sum (k + 1) ⟨(by first | omega | rfl | assumption), (by first | omega | rfl | assumption), (by rw [sumB_suc h0, hs]; have hb := (bt_and hset.1 hset.2 h0 (by omega)).1; have ht := tb01 set k.toNat; first | rw [if_neg (by have := hb.mp c_27; omega)]; omega | rw [if_pos (by rcases ht with q | q; exact absurd (hb.mpr q) c_27; exact q)])⟩ (by omega)
      · skip
        refine g_iload_n X dX2_sumOver_30 rfl 3 rfl ?_
        refine g_aload_n X dX2_sumOver_31 rfl 2 rfl ?_
        refine g_iload X dX2_sumOver_32 4 rfl ?_
        refine g_iald (a := k) X ho (by decide) (show fkX 2 1 = (1, 6) from rfl) (by decide) (by omega) (by omega) dX2_sumOver_34 ?_
        refine g_iadd X dX2_sumOver_35 ?_
        refine g_istore_n (lv' := [(3, .int (iI (sum + (w o 1 (k).toNat)))), (0, .ref (gAd G o)), (1, .int (iI set)), (2, .ref (gAr G o 1)), (4, .int (iI k))]) X dX2_sumOver_36 rfl (by decide) rfl ?_
        refine g_iinc (j := 4) (lv' := [(4, .int (iI (k + 1))), (3, .int (iI (sum + (w o 1 (k).toNat)))), (0, .ref (gAd G o)), (1, .int (iI set)), (2, .ref (gAr G o 1))]) X dX2_sumOver_37 rfl (by decide) rfl ?_
        refine g_goto (tgt := 5) X dX2_sumOver_40 (by decide) ?_
        refine g_lv (lv' := [(0, .ref (gAd G o)), (1, .int (iI set)), (2, .ref (gAr G o 1)), (3, .int (iI (sum + (w o 1 (k).toNat)))), (4, .int (iI (k + 1)))]) [2, 3, 4, 1, 0] rfl ?_
        exact ih_5 (sum + (w o 1 (k).toNat)) (k + 1) ⟨(by first | omega | rfl | assumption), (by first | omega | rfl | assumption), (by rw [sumB_suc h0, hs]; have hb := (bt_and hset.1 hset.2 h0 (by omega)).1; have ht := tb01 set k.toNat; first | rw [if_neg (by have := hb.mp c_27; omega)]; omega | rw [if_pos (by rcases ht with q | q; exact absurd (hb.mpr q) c_27; exact q)])⟩ (by omega)
set_option maxHeartbeats 4000000 in
set_option maxRecDepth 100000 in
theorem c_X2_leasts (l : Launch) (G : Ly) (o : Nat) (set : Int) (w : Wd) (ho : gOb G o = some 2) (hset : 0 ≤ set ∧ set < 64) (hn : 0 ≤ w o 0 0 ∧ w o 0 0 ≤ 6) : Mi l yX2_leasts cX2_leasts 2 (some .int) 1 24 G [.ref (gAd G o), .int (iI set)] w (fun z w2 => z = (sumB set (w o 1) (w o 0 0).toNat) ∧ w2 = w) := by
  refine mi_of (lv := [(0, .ref (gAd G o)), (1, .int (iI set))]) (by decide) (Nat.le_of_ble_eq_true rfl) rfl ?_
  intro p_ e_ s_ m_ b_ h_ c_ X
  refine g_aload_n X dX2_leasts_0 rfl 0 rfl ?_
  refine g_iload_n X dX2_leasts_1 rfl 1 rfl ?_
  refine g_aload_n X dX2_leasts_2 rfl 0 rfl ?_
  refine g_geta X ck_X2 ho 1 (by decide) fl_X2_9 rfl dX2_leasts_3 ?_
  refine g_calli (st := []) X (c_X2_sumOver1 l G o set w ho (by first | assumption | omega | (unfold InR; omega)) (by first | assumption | omega | (unfold InR; omega))) cm_X2_sumOver im_X2_sumOver se_X2_sumOver ml_X2_69 ck_X2 ho ⟨Nat.le_of_ble_eq_true rfl, Nat.le_of_ble_eq_true rfl⟩ rfl rfl (Nat.le_of_ble_eq_true rfl) dX2_leasts_6 (fn_i ?_)
  exact g_iret X rfl rfl dX2_leasts_9 (by first | exact ⟨rfl, rfl⟩ | rfl | omega)
set_option maxHeartbeats 4000000 in
set_option maxRecDepth 100000 in
theorem c_X2_sumOver2 (l : Launch) (G : Ly) (o : Nat) (set : Int) (w : Wd) (ho : gOb G o = some 2) (hset : 0 ≤ set ∧ set < 64) (hn : 0 ≤ w o 0 0 ∧ w o 0 0 ≤ 6) : Mi l yX2_sumOver cX2_sumOver 5 (some .int) 0 0 G [.ref (gAd G o), .int (iI set), .ref (gAr G o 2)] w (fun z w2 => z = (sumB set (w o 2) (w o 0 0).toNat) ∧ w2 = w) := by
  refine mi_of (lv := [(0, .ref (gAd G o)), (1, .int (iI set)), (2, .ref (gAr G o 2))]) (by decide) (Nat.le_of_ble_eq_true rfl) rfl ?_
  intro p_ e_ s_ m_ b_ h_ c_ X
  refine g_iconst X dX2_sumOver_0 ?_
  refine g_istore_n (lv' := [(3, .int (iI 0)), (0, .ref (gAd G o)), (1, .int (iI set)), (2, .ref (gAr G o 2))]) X dX2_sumOver_1 rfl (by decide) rfl ?_
  refine g_iconst X dX2_sumOver_2 ?_
  refine g_istore (lv' := [(4, .int (iI 0)), (3, .int (iI 0)), (0, .ref (gAd G o)), (1, .int (iI set)), (2, .ref (gAr G o 2))]) X dX2_sumOver_3 (by decide) rfl ?_
  refine g_lv (lv' := [(0, .ref (gAd G o)), (1, .int (iI set)), (2, .ref (gAr G o 2)), (3, .int (iI 0)), (4, .int (iI 0))]) [2, 3, 4, 1, 0] rfl ?_
  refine g_loop2 (fun (sum : Int) (k : Int) => [(0, .ref (gAd G o)), (1, .int (iI set)), (2, .ref (gAr G o 2)), (3, .int (iI sum)), (4, .int (iI k))]) (fun (sum : Int) (k : Int) => w) (fun (sum : Int) (k : Int) => (0 ≤ k) ∧ (k ≤ w o 0 0) ∧ (sum = sumB set (w o 2) k.toNat)) (fun (sum : Int) (k : Int) => (w o 0 0 - k).toNat) 0 0 ⟨(by first | omega | rfl | assumption), (by first | omega | rfl | assumption), (by first | omega | rfl | assumption)⟩ ?_
  intro sum k hI_5 ih_5
  obtain ⟨h0, h1, hs⟩ := hI_5
  try dsimp only at ih_5 ⊢
  refine g_iload X dX2_sumOver_5 4 rfl ?_
  refine g_aload_n X dX2_sumOver_7 rfl 0 rfl ?_
  refine g_geti X ck_X2 ho 0 (by decide) fl_X2_30 (Or.inl rfl) dX2_sumOver_8 ?_
  refine g_icmp_ge (tgt := 43) X dX2_sumOver_11 (by decide) (by unfold InR; omega) (by unfold InR; omega) (fun c_11 => ?_) (fun c_11 => ?_)
  · skip
    refine g_iload_n X dX2_sumOver_43 rfl 3 rfl ?_
    exact g_iret X rfl rfl dX2_sumOver_44 (by exact ⟨by rw [hs, show k = w o 0 0 by omega], rfl⟩)
  · skip
    refine g_iload X dX2_sumOver_14 4 rfl ?_
    refine g_aload_n X dX2_sumOver_16 rfl 2 rfl ?_
    refine g_alen X ho (by decide) (show fkX 2 2 = (1, 6) from rfl) dX2_sumOver_17 ?_
    refine g_icmp_ge (tgt := 43) X dX2_sumOver_18 (by decide) (by unfold InR; omega) ⟨by decide, by decide⟩ (fun c_18 => ?_) (fun c_18 => ?_)
    · exact absurd c_18 (by omega) --dead
    · skip
      refine g_iload_n X dX2_sumOver_21 rfl 1 rfl ?_
      refine g_iconst X dX2_sumOver_22 ?_
      refine g_iload X dX2_sumOver_23 4 rfl ?_
      refine g_ishl X dX2_sumOver_25 ?_
      refine g_iand X dX2_sumOver_26 ?_
      refine g_if_eq (tgt := 37) X dX2_sumOver_27 (by decide) (by have hb := bt_and hset.1 hset.2 h0 (show k < 6 by omega); unfold InR; omega) (fun c_27 => ?_) (fun c_27 => ?_)
      · skip
        refine g_iinc (j := 4) (lv' := [(4, .int (iI (k + 1))), (0, .ref (gAd G o)), (1, .int (iI set)), (2, .ref (gAr G o 2)), (3, .int (iI sum))]) X dX2_sumOver_37 rfl (by decide) rfl ?_
        refine g_goto (tgt := 5) X dX2_sumOver_40 (by decide) ?_
        refine g_lv (lv' := [(0, .ref (gAd G o)), (1, .int (iI set)), (2, .ref (gAr G o 2)), (3, .int (iI sum)), (4, .int (iI (k + 1)))]) [1, 2, 3, 4, 0] rfl ?_
        exact ih_5 sum (k + 1) ⟨(by first | omega | rfl | assumption), (by first | omega | rfl | assumption), (by rw [sumB_suc h0, hs]; have hb := (bt_and hset.1 hset.2 h0 (by omega)).1; have ht := tb01 set k.toNat; first | rw [if_neg (by have := hb.mp c_27; omega)]; omega | rw [if_pos (by rcases ht with q | q; exact absurd (hb.mpr q) c_27; exact q)])⟩ (by omega)
      · skip
        refine g_iload_n X dX2_sumOver_30 rfl 3 rfl ?_
        refine g_aload_n X dX2_sumOver_31 rfl 2 rfl ?_
        refine g_iload X dX2_sumOver_32 4 rfl ?_
        refine g_iald (a := k) X ho (by decide) (show fkX 2 2 = (1, 6) from rfl) (by decide) (by omega) (by omega) dX2_sumOver_34 ?_
        refine g_iadd X dX2_sumOver_35 ?_
        refine g_istore_n (lv' := [(3, .int (iI (sum + (w o 2 (k).toNat)))), (0, .ref (gAd G o)), (1, .int (iI set)), (2, .ref (gAr G o 2)), (4, .int (iI k))]) X dX2_sumOver_36 rfl (by decide) rfl ?_
        refine g_iinc (j := 4) (lv' := [(4, .int (iI (k + 1))), (3, .int (iI (sum + (w o 2 (k).toNat)))), (0, .ref (gAd G o)), (1, .int (iI set)), (2, .ref (gAr G o 2))]) X dX2_sumOver_37 rfl (by decide) rfl ?_
        refine g_goto (tgt := 5) X dX2_sumOver_40 (by decide) ?_
        refine g_lv (lv' := [(0, .ref (gAd G o)), (1, .int (iI set)), (2, .ref (gAr G o 2)), (3, .int (iI (sum + (w o 2 (k).toNat)))), (4, .int (iI (k + 1)))]) [2, 3, 4, 1, 0] rfl ?_
        exact ih_5 (sum + (w o 2 (k).toNat)) (k + 1) ⟨(by first | omega | rfl | assumption), (by first | omega | rfl | assumption), (by rw [sumB_suc h0, hs]; have hb := (bt_and hset.1 hset.2 h0 (by omega)).1; have ht := tb01 set k.toNat; first | rw [if_neg (by have := hb.mp c_27; omega)]; omega | rw [if_pos (by rcases ht with q | q; exact absurd (hb.mpr q) c_27; exact q)])⟩ (by omega)
set_option maxHeartbeats 4000000 in
set_option maxRecDepth 100000 in
theorem c_X2_mosts (l : Launch) (G : Ly) (o : Nat) (set : Int) (w : Wd) (ho : gOb G o = some 2) (hset : 0 ≤ set ∧ set < 64) (hn : 0 ≤ w o 0 0 ∧ w o 0 0 ≤ 6) : Mi l yX2_mosts cX2_mosts 2 (some .int) 1 24 G [.ref (gAd G o), .int (iI set)] w (fun z w2 => z = (sumB set (w o 2) (w o 0 0).toNat) ∧ w2 = w) := by
  refine mi_of (lv := [(0, .ref (gAd G o)), (1, .int (iI set))]) (by decide) (Nat.le_of_ble_eq_true rfl) rfl ?_
  intro p_ e_ s_ m_ b_ h_ c_ X
  refine g_aload_n X dX2_mosts_0 rfl 0 rfl ?_
  refine g_iload_n X dX2_mosts_1 rfl 1 rfl ?_
  refine g_aload_n X dX2_mosts_2 rfl 0 rfl ?_
  refine g_geta X ck_X2 ho 2 (by decide) fl_X2_15 rfl dX2_mosts_3 ?_
  refine g_calli (st := []) X (c_X2_sumOver2 l G o set w ho (by first | assumption | omega | (unfold InR; omega)) (by first | assumption | omega | (unfold InR; omega))) cm_X2_sumOver im_X2_sumOver se_X2_sumOver ml_X2_69 ck_X2 ho ⟨Nat.le_of_ble_eq_true rfl, Nat.le_of_ble_eq_true rfl⟩ rfl rfl (Nat.le_of_ble_eq_true rfl) dX2_mosts_6 (fn_i ?_)
  exact g_iret X rfl rfl dX2_mosts_9 (by first | exact ⟨rfl, rfl⟩ | rfl | omega)
set_option maxHeartbeats 4000000 in
set_option maxRecDepth 100000 in
theorem c_X2_sumOver6 (l : Launch) (G : Ly) (o : Nat) (set : Int) (w : Wd) (ho : gOb G o = some 2) (hset : 0 ≤ set ∧ set < 64) (hn : 0 ≤ w o 0 0 ∧ w o 0 0 ≤ 6) : Mi l yX2_sumOver cX2_sumOver 5 (some .int) 0 0 G [.ref (gAd G o), .int (iI set), .ref (gAr G o 6)] w (fun z w2 => z = (sumB set (w o 6) (w o 0 0).toNat) ∧ w2 = w) := by
  refine mi_of (lv := [(0, .ref (gAd G o)), (1, .int (iI set)), (2, .ref (gAr G o 6))]) (by decide) (Nat.le_of_ble_eq_true rfl) rfl ?_
  intro p_ e_ s_ m_ b_ h_ c_ X
  refine g_iconst X dX2_sumOver_0 ?_
  refine g_istore_n (lv' := [(3, .int (iI 0)), (0, .ref (gAd G o)), (1, .int (iI set)), (2, .ref (gAr G o 6))]) X dX2_sumOver_1 rfl (by decide) rfl ?_
  refine g_iconst X dX2_sumOver_2 ?_
  refine g_istore (lv' := [(4, .int (iI 0)), (3, .int (iI 0)), (0, .ref (gAd G o)), (1, .int (iI set)), (2, .ref (gAr G o 6))]) X dX2_sumOver_3 (by decide) rfl ?_
  refine g_lv (lv' := [(0, .ref (gAd G o)), (1, .int (iI set)), (2, .ref (gAr G o 6)), (3, .int (iI 0)), (4, .int (iI 0))]) [2, 3, 4, 1, 0] rfl ?_
  refine g_loop2 (fun (sum : Int) (k : Int) => [(0, .ref (gAd G o)), (1, .int (iI set)), (2, .ref (gAr G o 6)), (3, .int (iI sum)), (4, .int (iI k))]) (fun (sum : Int) (k : Int) => w) (fun (sum : Int) (k : Int) => (0 ≤ k) ∧ (k ≤ w o 0 0) ∧ (sum = sumB set (w o 6) k.toNat)) (fun (sum : Int) (k : Int) => (w o 0 0 - k).toNat) 0 0 ⟨(by first | omega | rfl | assumption), (by first | omega | rfl | assumption), (by first | omega | rfl | assumption)⟩ ?_
  intro sum k hI_5 ih_5
  obtain ⟨h0, h1, hs⟩ := hI_5
  try dsimp only at ih_5 ⊢
  refine g_iload X dX2_sumOver_5 4 rfl ?_
  refine g_aload_n X dX2_sumOver_7 rfl 0 rfl ?_
  refine g_geti X ck_X2 ho 0 (by decide) fl_X2_30 (Or.inl rfl) dX2_sumOver_8 ?_
  refine g_icmp_ge (tgt := 43) X dX2_sumOver_11 (by decide) (by unfold InR; omega) (by unfold InR; omega) (fun c_11 => ?_) (fun c_11 => ?_)
  · skip
    refine g_iload_n X dX2_sumOver_43 rfl 3 rfl ?_
    exact g_iret X rfl rfl dX2_sumOver_44 (by exact ⟨by rw [hs, show k = w o 0 0 by omega], rfl⟩)
  · skip
    refine g_iload X dX2_sumOver_14 4 rfl ?_
    refine g_aload_n X dX2_sumOver_16 rfl 2 rfl ?_
    refine g_alen X ho (by decide) (show fkX 2 6 = (1, 6) from rfl) dX2_sumOver_17 ?_
    refine g_icmp_ge (tgt := 43) X dX2_sumOver_18 (by decide) (by unfold InR; omega) ⟨by decide, by decide⟩ (fun c_18 => ?_) (fun c_18 => ?_)
    · exact absurd c_18 (by omega) --dead
    · skip
      refine g_iload_n X dX2_sumOver_21 rfl 1 rfl ?_
      refine g_iconst X dX2_sumOver_22 ?_
      refine g_iload X dX2_sumOver_23 4 rfl ?_
      refine g_ishl X dX2_sumOver_25 ?_
      refine g_iand X dX2_sumOver_26 ?_
      refine g_if_eq (tgt := 37) X dX2_sumOver_27 (by decide) (by have hb := bt_and hset.1 hset.2 h0 (show k < 6 by omega); unfold InR; omega) (fun c_27 => ?_) (fun c_27 => ?_)
      · skip
        refine g_iinc (j := 4) (lv' := [(4, .int (iI (k + 1))), (0, .ref (gAd G o)), (1, .int (iI set)), (2, .ref (gAr G o 6)), (3, .int (iI sum))]) X dX2_sumOver_37 rfl (by decide) rfl ?_
        refine g_goto (tgt := 5) X dX2_sumOver_40 (by decide) ?_
        refine g_lv (lv' := [(0, .ref (gAd G o)), (1, .int (iI set)), (2, .ref (gAr G o 6)), (3, .int (iI sum)), (4, .int (iI (k + 1)))]) [1, 2, 3, 4, 0] rfl ?_
        exact ih_5 sum (k + 1) ⟨(by first | omega | rfl | assumption), (by first | omega | rfl | assumption), (by rw [sumB_suc h0, hs]; have hb := (bt_and hset.1 hset.2 h0 (by omega)).1; have ht := tb01 set k.toNat; first | rw [if_neg (by have := hb.mp c_27; omega)]; omega | rw [if_pos (by rcases ht with q | q; exact absurd (hb.mpr q) c_27; exact q)])⟩ (by omega)
      · skip
        refine g_iload_n X dX2_sumOver_30 rfl 3 rfl ?_
        refine g_aload_n X dX2_sumOver_31 rfl 2 rfl ?_
        refine g_iload X dX2_sumOver_32 4 rfl ?_
        refine g_iald (a := k) X ho (by decide) (show fkX 2 6 = (1, 6) from rfl) (by decide) (by omega) (by omega) dX2_sumOver_34 ?_
        refine g_iadd X dX2_sumOver_35 ?_
        refine g_istore_n (lv' := [(3, .int (iI (sum + (w o 6 (k).toNat)))), (0, .ref (gAd G o)), (1, .int (iI set)), (2, .ref (gAr G o 6)), (4, .int (iI k))]) X dX2_sumOver_36 rfl (by decide) rfl ?_
        refine g_iinc (j := 4) (lv' := [(4, .int (iI (k + 1))), (3, .int (iI (sum + (w o 6 (k).toNat)))), (0, .ref (gAd G o)), (1, .int (iI set)), (2, .ref (gAr G o 6))]) X dX2_sumOver_37 rfl (by decide) rfl ?_
        refine g_goto (tgt := 5) X dX2_sumOver_40 (by decide) ?_
        refine g_lv (lv' := [(0, .ref (gAd G o)), (1, .int (iI set)), (2, .ref (gAr G o 6)), (3, .int (iI (sum + (w o 6 (k).toNat)))), (4, .int (iI (k + 1)))]) [2, 3, 4, 1, 0] rfl ?_
        exact ih_5 (sum + (w o 6 (k).toNat)) (k + 1) ⟨(by first | omega | rfl | assumption), (by first | omega | rfl | assumption), (by rw [sumB_suc h0, hs]; have hb := (bt_and hset.1 hset.2 h0 (by omega)).1; have ht := tb01 set k.toNat; first | rw [if_neg (by have := hb.mp c_27; omega)]; omega | rw [if_pos (by rcases ht with q | q; exact absurd (hb.mpr q) c_27; exact q)])⟩ (by omega)
set_option maxHeartbeats 4000000 in
set_option maxRecDepth 100000 in
theorem c_X2_flows (l : Launch) (G : Ly) (o : Nat) (set : Int) (w : Wd) (ho : gOb G o = some 2) (hset : 0 ≤ set ∧ set < 64) (hn : 0 ≤ w o 0 0 ∧ w o 0 0 ≤ 6) : Mi l yX2_flows cX2_flows 2 (some .int) 1 24 G [.ref (gAd G o), .int (iI set)] w (fun z w2 => z = (sumB set (w o 6) (w o 0 0).toNat) ∧ w2 = w) := by
  refine mi_of (lv := [(0, .ref (gAd G o)), (1, .int (iI set))]) (by decide) (Nat.le_of_ble_eq_true rfl) rfl ?_
  intro p_ e_ s_ m_ b_ h_ c_ X
  refine g_aload_n X dX2_flows_0 rfl 0 rfl ?_
  refine g_iload_n X dX2_flows_1 rfl 1 rfl ?_
  refine g_aload_n X dX2_flows_2 rfl 0 rfl ?_
  refine g_geta X ck_X2 ho 6 (by decide) fl_X2_27 rfl dX2_flows_3 ?_
  refine g_calli (st := []) X (c_X2_sumOver6 l G o set w ho (by first | assumption | omega | (unfold InR; omega)) (by first | assumption | omega | (unfold InR; omega))) cm_X2_sumOver im_X2_sumOver se_X2_sumOver ml_X2_69 ck_X2 ho ⟨Nat.le_of_ble_eq_true rfl, Nat.le_of_ble_eq_true rfl⟩ rfl rfl (Nat.le_of_ble_eq_true rfl) dX2_flows_6 (fn_i ?_)
  exact g_iret X rfl rfl dX2_flows_9 (by first | exact ⟨rfl, rfl⟩ | rfl | omega)
set_option maxHeartbeats 4000000 in
set_option maxRecDepth 100000 in
theorem c_X2_all (l : Launch) (G : Ly) (o : Nat) (w : Wd) (ho : gOb G o = some 2) : Mi l yX2_all cX2_all 1 (some .int) 0 0 G [.ref (gAd G o)] w (fun z w2 => z = (bshl 1 (w o 0 0) - 1) ∧ w2 = w) := by
  refine mi_of (lv := [(0, .ref (gAd G o))]) (by decide) (Nat.le_of_ble_eq_true rfl) rfl ?_
  intro p_ e_ s_ m_ b_ h_ c_ X
  refine g_iconst X dX2_all_0 ?_
  refine g_aload_n X dX2_all_1 rfl 0 rfl ?_
  refine g_geti X ck_X2 ho 0 (by decide) fl_X2_30 (Or.inl rfl) dX2_all_2 ?_
  refine g_ishl X dX2_all_5 ?_
  refine g_iconst X dX2_all_6 ?_
  refine g_isub X dX2_all_7 ?_
  exact g_iret X rfl rfl dX2_all_8 (by first | exact ⟨rfl, rfl⟩ | rfl | omega)
set_option maxHeartbeats 4000000 in
set_option maxRecDepth 100000 in
theorem c_X2_powerAt (l : Launch) (G : Ly) (o : Nat) (m : Int) (load : Int) (lift : Int) (w : Wd) (ho : gOb G o = some 2) (hm : 0 ≤ m ∧ m < 6) : Mi l yX2_powerAt cX2_powerAt 4 (some .int) 0 0 G [.ref (gAd G o), .int (iI m), .int (iI load), .int (iI lift)] w (fun z w2 => z = (w o 3 m.toNat + jdiv (((((100 * (w o 4 m.toNat)) + ((w o 5 m.toNat) * load)) * load) * (60 + lift))) 10000) ∧ w2 = w) := by
  refine mi_of (lv := [(0, .ref (gAd G o)), (1, .int (iI m)), (2, .int (iI load)), (3, .int (iI lift))]) (by decide) (Nat.le_of_ble_eq_true rfl) rfl ?_
  intro p_ e_ s_ m_ b_ h_ c_ X
  refine g_aload_n X dX2_powerAt_0 rfl 0 rfl ?_
  refine g_geta X ck_X2 ho 3 (by decide) fl_X2_18 rfl dX2_powerAt_1 ?_
  refine g_iload_n X dX2_powerAt_4 rfl 1 rfl ?_
  refine g_iald (a := m) X ho (by decide) (show fkX 2 3 = (1, 6) from rfl) (by decide) (by first | omega | decide) (by first | omega | decide) dX2_powerAt_5 ?_
  refine g_bipush X dX2_powerAt_6 (by decide) ?_
  refine g_aload_n X dX2_powerAt_8 rfl 0 rfl ?_
  refine g_geta X ck_X2 ho 4 (by decide) fl_X2_21 rfl dX2_powerAt_9 ?_
  refine g_iload_n X dX2_powerAt_12 rfl 1 rfl ?_
  refine g_iald (a := m) X ho (by decide) (show fkX 2 4 = (1, 6) from rfl) (by decide) (by first | omega | decide) (by first | omega | decide) dX2_powerAt_13 ?_
  refine g_imul X dX2_powerAt_14 ?_
  refine g_aload_n X dX2_powerAt_15 rfl 0 rfl ?_
  refine g_geta X ck_X2 ho 5 (by decide) fl_X2_24 rfl dX2_powerAt_16 ?_
  refine g_iload_n X dX2_powerAt_19 rfl 1 rfl ?_
  refine g_iald (a := m) X ho (by decide) (show fkX 2 5 = (1, 6) from rfl) (by decide) (by first | omega | decide) (by first | omega | decide) dX2_powerAt_20 ?_
  refine g_iload_n X dX2_powerAt_21 rfl 2 rfl ?_
  refine g_imul X dX2_powerAt_22 ?_
  refine g_iadd X dX2_powerAt_23 ?_
  refine g_iload_n X dX2_powerAt_24 rfl 2 rfl ?_
  refine g_imul X dX2_powerAt_25 ?_
  refine g_bipush X dX2_powerAt_26 (by decide) ?_
  refine g_iload_n X dX2_powerAt_28 rfl 3 rfl ?_
  refine g_iadd X dX2_powerAt_29 ?_
  refine g_imul X dX2_powerAt_30 ?_
  refine g_sipush X dX2_powerAt_31 (by decide) ?_
  refine g_idiv X dX2_powerAt_34 ⟨by decide, by decide⟩ (by first | omega | decide) ?_
  refine g_iadd X dX2_powerAt_35 ?_
  exact g_iret X rfl rfl dX2_powerAt_36 (by first | exact ⟨rfl, rfl⟩ | rfl | first | omega | decide)
end
section
theorem tol_hi (f : Nat → Int) (m : Int) : ∀ k j, k ≤ j → (tol f m k).1 j = f j
  | 0, _, _ => rfl
  | k + 1, j, h => by
    unfold tol
    split
    · exact tol_hi f m k j (by omega)
    · show fup _ _ _ j = f j
      rw [fup_ne (by have := tol_le f m k; omega)]
      exact tol_hi f m k j (by omega)
set_option maxHeartbeats 4000000 in
set_option maxRecDepth 100000 in
theorem c_J9_floorMod_7cf53 (l : Launch) (G : Ly) (a : Int) (b : Int) (w : Wd) (ha : 0 ≤ a ∧ a ≤ 2147483647) (hb : 0 < b ∧ b ≤ 2147483647) : Mi l yJ9_floorMod_7cf53 cJ9_floorMod_7cf53 3 (some .int) 0 0 G [.int (iI a), .int (iI b)] w (fun z w2 => z = (a % b) ∧ w2 = w) := by
  refine mi_ofF (lv := [(0, .int (iI a)), (1, .int (iI b))]) (by decide +kernel) (Nat.le_of_ble_eq_true rfl) rfl ?_
  intro p_ e_ s_ m_ b_ h_ c_ X
  have hj := jrem_pos (a := a) (b := b) (by unfold InR; omega) ha.1 hb.1 hb.2
  have hq := bxor_nn ha.1 ha.2 (Int.le_of_lt hb.1) hb.2
  have hx : InR (bxor a b) := inR_to _
  have hz : InR (jrem a b) := inR_to _
  refine g_iload_n X dJ9_floorMod_7cf53_0 rfl 0 rfl ?_
  refine g_iload_n X dJ9_floorMod_7cf53_1 rfl 1 rfl ?_
  refine g_irem X dJ9_floorMod_7cf53_2 (by unfold InR; omega) (by omega) ?_
  refine g_istore_n (lv' := [(2, .int (iI (jrem a b))), (0, .int (iI a)), (1, .int (iI b))]) X dJ9_floorMod_7cf53_3 rfl (by decide) rfl ?_
  refine g_iload_n X dJ9_floorMod_7cf53_4 rfl 1 rfl ?_
  refine g_iload_n X dJ9_floorMod_7cf53_5 rfl 2 rfl ?_
  refine g_ixor X dJ9_floorMod_7cf53_6 ?_
  refine g_if_ge (tgt := 18) X dJ9_floorMod_7cf53_7 (by decide) (by exact hx) (fun c_7 => ?_) (fun c_7 => ?_)
  · skip
    refine g_iload_n X dJ9_floorMod_7cf53_18 rfl 0 rfl ?_
    exact g_iret X rfl rfl dJ9_floorMod_7cf53_19 (by exact ⟨hj, rfl⟩)
  · exact absurd hq c_7 --dead
set_option maxHeartbeats 4000000 in
set_option maxRecDepth 100000 in
theorem c_J6_bitCount_0f7a4 (l : Launch) (G : Ly) (x : Int) (w : Wd) (hx : 0 ≤ x ∧ x < 64) : Mi l yJ6_bitCount_0f7a4 cJ6_bitCount_0f7a4 1 (some .int) 0 0 G [.int (iI x)] w (fun z w2 => z = (cnt x) ∧ w2 = w) := by
  refine mi_of (lv := [(0, .int (iI x))]) (by decide) (Nat.le_of_ble_eq_true rfl) rfl ?_
  intro p_ e_ s_ m_ b_ h_ c_ X
  refine g_iload_n X dJ6_bitCount_0f7a4_0 rfl 0 rfl ?_
  refine g_iload_n X dJ6_bitCount_0f7a4_1 rfl 0 rfl ?_
  refine g_iconst X dJ6_bitCount_0f7a4_2 ?_
  refine g_iushr X dJ6_bitCount_0f7a4_3 ?_
  refine g_ldcw (n := 1431655765) X cst_J6_265 (by decide) dJ6_bitCount_0f7a4_4 ?_
  refine g_iand X dJ6_bitCount_0f7a4_7 ?_
  refine g_isub X dJ6_bitCount_0f7a4_8 ?_
  refine g_istore_n (lv' := [(0, .int (iI (x - (band (bushr x 1) 1431655765))))]) X dJ6_bitCount_0f7a4_9 rfl (by decide) rfl ?_
  refine g_iload_n X dJ6_bitCount_0f7a4_10 rfl 0 rfl ?_
  refine g_ldcw (n := 858993459) X cst_J6_266 (by decide) dJ6_bitCount_0f7a4_11 ?_
  refine g_iand X dJ6_bitCount_0f7a4_14 ?_
  refine g_iload_n X dJ6_bitCount_0f7a4_15 rfl 0 rfl ?_
  refine g_iconst X dJ6_bitCount_0f7a4_16 ?_
  refine g_iushr X dJ6_bitCount_0f7a4_17 ?_
  refine g_ldcw (n := 858993459) X cst_J6_266 (by decide) dJ6_bitCount_0f7a4_18 ?_
  refine g_iand X dJ6_bitCount_0f7a4_21 ?_
  refine g_iadd X dJ6_bitCount_0f7a4_22 ?_
  refine g_istore_n (lv' := [(0, .int (iI ((band (x - (band (bushr x 1) 1431655765)) 858993459) + (band (bushr (x - (band (bushr x 1) 1431655765)) 2) 858993459))))]) X dJ6_bitCount_0f7a4_23 rfl (by decide) rfl ?_
  refine g_iload_n X dJ6_bitCount_0f7a4_24 rfl 0 rfl ?_
  refine g_iload_n X dJ6_bitCount_0f7a4_25 rfl 0 rfl ?_
  refine g_iconst X dJ6_bitCount_0f7a4_26 ?_
  refine g_iushr X dJ6_bitCount_0f7a4_27 ?_
  refine g_iadd X dJ6_bitCount_0f7a4_28 ?_
  refine g_ldcw (n := 252645135) X cst_J6_267 (by decide) dJ6_bitCount_0f7a4_29 ?_
  refine g_iand X dJ6_bitCount_0f7a4_32 ?_
  refine g_istore_n (lv' := [(0, .int (iI (band (((band (x - (band (bushr x 1) 1431655765)) 858993459) + (band (bushr (x - (band (bushr x 1) 1431655765)) 2) 858993459)) + (bushr ((band (x - (band (bushr x 1) 1431655765)) 858993459) + (band (bushr (x - (band (bushr x 1) 1431655765)) 2) 858993459)) 4)) 252645135)))]) X dJ6_bitCount_0f7a4_33 rfl (by decide) rfl ?_
  refine g_iload_n X dJ6_bitCount_0f7a4_34 rfl 0 rfl ?_
  refine g_iload_n X dJ6_bitCount_0f7a4_35 rfl 0 rfl ?_
  refine g_bipush X dJ6_bitCount_0f7a4_36 (by decide) ?_
  refine g_iushr X dJ6_bitCount_0f7a4_38 ?_
  refine g_iadd X dJ6_bitCount_0f7a4_39 ?_
  refine g_istore_n (lv' := [(0, .int (iI ((band (((band (x - (band (bushr x 1) 1431655765)) 858993459) + (band (bushr (x - (band (bushr x 1) 1431655765)) 2) 858993459)) + (bushr ((band (x - (band (bushr x 1) 1431655765)) 858993459) + (band (bushr (x - (band (bushr x 1) 1431655765)) 2) 858993459)) 4)) 252645135) + (bushr (band (((band (x - (band (bushr x 1) 1431655765)) 858993459) + (band (bushr (x - (band (bushr x 1) 1431655765)) 2) 858993459)) + (bushr ((band (x - (band (bushr x 1) 1431655765)) 858993459) + (band (bushr (x - (band (bushr x 1) 1431655765)) 2) 858993459)) 4)) 252645135) 8))))]) X dJ6_bitCount_0f7a4_40 rfl (by decide) rfl ?_
  refine g_iload_n X dJ6_bitCount_0f7a4_41 rfl 0 rfl ?_
  refine g_iload_n X dJ6_bitCount_0f7a4_42 rfl 0 rfl ?_
  refine g_bipush X dJ6_bitCount_0f7a4_43 (by decide) ?_
  refine g_iushr X dJ6_bitCount_0f7a4_45 ?_
  refine g_iadd X dJ6_bitCount_0f7a4_46 ?_
  refine g_istore_n (lv' := [(0, .int (iI (((band (((band (x - (band (bushr x 1) 1431655765)) 858993459) + (band (bushr (x - (band (bushr x 1) 1431655765)) 2) 858993459)) + (bushr ((band (x - (band (bushr x 1) 1431655765)) 858993459) + (band (bushr (x - (band (bushr x 1) 1431655765)) 2) 858993459)) 4)) 252645135) + (bushr (band (((band (x - (band (bushr x 1) 1431655765)) 858993459) + (band (bushr (x - (band (bushr x 1) 1431655765)) 2) 858993459)) + (bushr ((band (x - (band (bushr x 1) 1431655765)) 858993459) + (band (bushr (x - (band (bushr x 1) 1431655765)) 2) 858993459)) 4)) 252645135) 8)) + (bushr ((band (((band (x - (band (bushr x 1) 1431655765)) 858993459) + (band (bushr (x - (band (bushr x 1) 1431655765)) 2) 858993459)) + (bushr ((band (x - (band (bushr x 1) 1431655765)) 858993459) + (band (bushr (x - (band (bushr x 1) 1431655765)) 2) 858993459)) 4)) 252645135) + (bushr (band (((band (x - (band (bushr x 1) 1431655765)) 858993459) + (band (bushr (x - (band (bushr x 1) 1431655765)) 2) 858993459)) + (bushr ((band (x - (band (bushr x 1) 1431655765)) 858993459) + (band (bushr (x - (band (bushr x 1) 1431655765)) 2) 858993459)) 4)) 252645135) 8)) 16))))]) X dJ6_bitCount_0f7a4_47 rfl (by decide) rfl ?_
  refine g_iload_n X dJ6_bitCount_0f7a4_48 rfl 0 rfl ?_
  refine g_bipush X dJ6_bitCount_0f7a4_49 (by decide) ?_
  refine g_iand X dJ6_bitCount_0f7a4_51 ?_
  exact g_iret X rfl rfl dJ6_bitCount_0f7a4_52 (by exact ⟨fin1 (P := fun x => (band (((band (((band (x - (band (bushr x 1) 1431655765)) 858993459) + (band (bushr (x - (band (bushr x 1) 1431655765)) 2) 858993459)) + (bushr ((band (x - (band (bushr x 1) 1431655765)) 858993459) + (band (bushr (x - (band (bushr x 1) 1431655765)) 2) 858993459)) 4)) 252645135) + (bushr (band (((band (x - (band (bushr x 1) 1431655765)) 858993459) + (band (bushr (x - (band (bushr x 1) 1431655765)) 2) 858993459)) + (bushr ((band (x - (band (bushr x 1) 1431655765)) 858993459) + (band (bushr (x - (band (bushr x 1) 1431655765)) 2) 858993459)) 4)) 252645135) 8)) + (bushr ((band (((band (x - (band (bushr x 1) 1431655765)) 858993459) + (band (bushr (x - (band (bushr x 1) 1431655765)) 2) 858993459)) + (bushr ((band (x - (band (bushr x 1) 1431655765)) 858993459) + (band (bushr (x - (band (bushr x 1) 1431655765)) 2) 858993459)) 4)) 252645135) + (bushr (band (((band (x - (band (bushr x 1) 1431655765)) 858993459) + (band (bushr (x - (band (bushr x 1) 1431655765)) 2) 858993459)) + (bushr ((band (x - (band (bushr x 1) 1431655765)) 858993459) + (band (bushr (x - (band (bushr x 1) 1431655765)) 2) 858993459)) 4)) 252645135) 8)) 16)) 63) = cnt x) (by decide +kernel) hx.1 hx.2, rfl⟩)
set_option maxHeartbeats 4000000 in
set_option maxRecDepth 100000 in
theorem c_J7_fill_53178_6_11 (l : Launch) (G : Ly) (o : Nat) (v : Int) (w : Wd) (ho : gOb G o = some 6) : Mv l yJ7_fill_53178 cJ7_fill_53178 4 none 0 0 G [.ref (gAr G o 11), .int (iI v)] w (fun w2 => w2 = upA w o 11 (fillN (w o 11) v 6)) := by
  refine mv_of (lv := [(0, .ref (gAr G o 11)), (1, .int (iI v))]) (by decide) (Nat.le_of_ble_eq_true rfl) rfl ?_
  intro p_ e_ s_ m_ b_ h_ c_ X
  refine g_iconst X dJ7_fill_53178_0 ?_
  refine g_istore_n (lv' := [(2, .int (iI 0)), (0, .ref (gAr G o 11)), (1, .int (iI v))]) X dJ7_fill_53178_1 rfl (by decide) rfl ?_
  refine g_aload_n X dJ7_fill_53178_2 rfl 1 rfl ?_
  refine g_alen X ho (by decide) (show fkX 6 11 = (1, 6) from rfl) dJ7_fill_53178_3 ?_
  refine g_istore_n (lv' := [(3, .int (iI 6)), (2, .int (iI 0)), (0, .ref (gAr G o 11)), (1, .int (iI v))]) X dJ7_fill_53178_4 rfl (by decide) rfl ?_
  refine g_lv (lv' := [(0, .ref (gAr G o 11)), (1, .int (iI v)), (2, .int (iI 0)), (3, .int (iI 6))]) [2, 3, 1, 0] rfl ?_
  refine g_loop2 (fun (k : Int) (w1 : Wd) => [(0, .ref (gAr G o 11)), (1, .int (iI v)), (2, .int (iI k)), (3, .int (iI 6))]) (fun (k : Int) (w1 : Wd) => w1) (fun (k : Int) (w1 : Wd) => (0 ≤ k) ∧ (k ≤ 6) ∧ (w1 = upA w o 11 (fillN (w o 11) v k.toNat))) (fun (k : Int) (w1 : Wd) => (6 - k).toNat) 0 w ⟨(by first | omega | rfl | assumption), (by first | omega | rfl | assumption), (by show w = upA w o 11 (fillN (w o 11) v 0); rw [fillN_0, upA_self])⟩ ?_
  intro k w1 hI_5 ih_5
  obtain ⟨h0, h1, hw⟩ := hI_5
  try dsimp only at ih_5 ⊢
  refine g_iload_n X dJ7_fill_53178_5 rfl 2 rfl ?_
  refine g_iload_n X dJ7_fill_53178_6 rfl 3 rfl ?_
  refine g_icmp_ge (tgt := 20) X dJ7_fill_53178_7 (by decide) (by unfold InR; omega) ⟨by decide, by decide⟩ (fun c_7 => ?_) (fun c_7 => ?_)
  · skip
    exact g_vret X rfl dJ7_fill_53178_20 (by rw [hw, show k.toNat = 6 by omega])
  · skip
    refine g_aload_n X dJ7_fill_53178_10 rfl 0 rfl ?_
    refine g_iload_n X dJ7_fill_53178_11 rfl 2 rfl ?_
    refine g_iload_n X dJ7_fill_53178_12 rfl 1 rfl ?_
    refine g_iast (a := k) X ho (by decide) (show fkX 6 11 = (1, 6) from rfl) (by decide) (by omega) (by omega) dJ7_fill_53178_13 ?_
    obtain ⟨w_1, ew_1⟩ : ∃ q_ : Wd, q_ = up w1 o 11 (k).toNat v := ⟨_, rfl⟩
    refine g_w (w' := w_1) ew_1 ?_
    refine g_iinc (j := 2) (lv' := [(2, .int (iI (k + 1))), (0, .ref (gAr G o 11)), (1, .int (iI v)), (3, .int (iI 6))]) X dJ7_fill_53178_14 rfl (by decide) rfl ?_
    refine g_goto (tgt := 5) X dJ7_fill_53178_17 (by decide) ?_
    refine g_lv (lv' := [(0, .ref (gAr G o 11)), (1, .int (iI v)), (2, .int (iI (k + 1))), (3, .int (iI 6))]) [1, 2, 0, 3] rfl ?_
    exact ih_5 (k + 1) w_1 ⟨(by first | omega | rfl | assumption), (by first | omega | rfl | assumption), (by rw [ew_1, hw, up_upA, fillN_suc, show (k + 1).toNat = k.toNat + 1 by omega])⟩ (by omega)
set_option maxHeartbeats 4000000 in
set_option maxRecDepth 100000 in
theorem c_J7_fill_53178_6_12 (l : Launch) (G : Ly) (o : Nat) (v : Int) (w : Wd) (ho : gOb G o = some 6) : Mv l yJ7_fill_53178 cJ7_fill_53178 4 none 0 0 G [.ref (gAr G o 12), .int (iI v)] w (fun w2 => w2 = upA w o 12 (fillN (w o 12) v 6)) := by
  refine mv_of (lv := [(0, .ref (gAr G o 12)), (1, .int (iI v))]) (by decide) (Nat.le_of_ble_eq_true rfl) rfl ?_
  intro p_ e_ s_ m_ b_ h_ c_ X
  refine g_iconst X dJ7_fill_53178_0 ?_
  refine g_istore_n (lv' := [(2, .int (iI 0)), (0, .ref (gAr G o 12)), (1, .int (iI v))]) X dJ7_fill_53178_1 rfl (by decide) rfl ?_
  refine g_aload_n X dJ7_fill_53178_2 rfl 1 rfl ?_
  refine g_alen X ho (by decide) (show fkX 6 12 = (1, 6) from rfl) dJ7_fill_53178_3 ?_
  refine g_istore_n (lv' := [(3, .int (iI 6)), (2, .int (iI 0)), (0, .ref (gAr G o 12)), (1, .int (iI v))]) X dJ7_fill_53178_4 rfl (by decide) rfl ?_
  refine g_lv (lv' := [(0, .ref (gAr G o 12)), (1, .int (iI v)), (2, .int (iI 0)), (3, .int (iI 6))]) [2, 3, 1, 0] rfl ?_
  refine g_loop2 (fun (k : Int) (w1 : Wd) => [(0, .ref (gAr G o 12)), (1, .int (iI v)), (2, .int (iI k)), (3, .int (iI 6))]) (fun (k : Int) (w1 : Wd) => w1) (fun (k : Int) (w1 : Wd) => (0 ≤ k) ∧ (k ≤ 6) ∧ (w1 = upA w o 12 (fillN (w o 12) v k.toNat))) (fun (k : Int) (w1 : Wd) => (6 - k).toNat) 0 w ⟨(by first | omega | rfl | assumption), (by first | omega | rfl | assumption), (by show w = upA w o 12 (fillN (w o 12) v 0); rw [fillN_0, upA_self])⟩ ?_
  intro k w1 hI_5 ih_5
  obtain ⟨h0, h1, hw⟩ := hI_5
  try dsimp only at ih_5 ⊢
  refine g_iload_n X dJ7_fill_53178_5 rfl 2 rfl ?_
  refine g_iload_n X dJ7_fill_53178_6 rfl 3 rfl ?_
  refine g_icmp_ge (tgt := 20) X dJ7_fill_53178_7 (by decide) (by unfold InR; omega) ⟨by decide, by decide⟩ (fun c_7 => ?_) (fun c_7 => ?_)
  · skip
    exact g_vret X rfl dJ7_fill_53178_20 (by rw [hw, show k.toNat = 6 by omega])
  · skip
    refine g_aload_n X dJ7_fill_53178_10 rfl 0 rfl ?_
    refine g_iload_n X dJ7_fill_53178_11 rfl 2 rfl ?_
    refine g_iload_n X dJ7_fill_53178_12 rfl 1 rfl ?_
    refine g_iast (a := k) X ho (by decide) (show fkX 6 12 = (1, 6) from rfl) (by decide) (by omega) (by omega) dJ7_fill_53178_13 ?_
    obtain ⟨w_1, ew_1⟩ : ∃ q_ : Wd, q_ = up w1 o 12 (k).toNat v := ⟨_, rfl⟩
    refine g_w (w' := w_1) ew_1 ?_
    refine g_iinc (j := 2) (lv' := [(2, .int (iI (k + 1))), (0, .ref (gAr G o 12)), (1, .int (iI v)), (3, .int (iI 6))]) X dJ7_fill_53178_14 rfl (by decide) rfl ?_
    refine g_goto (tgt := 5) X dJ7_fill_53178_17 (by decide) ?_
    refine g_lv (lv' := [(0, .ref (gAr G o 12)), (1, .int (iI v)), (2, .int (iI (k + 1))), (3, .int (iI 6))]) [1, 2, 0, 3] rfl ?_
    exact ih_5 (k + 1) w_1 ⟨(by first | omega | rfl | assumption), (by first | omega | rfl | assumption), (by rw [ew_1, hw, up_upA, fillN_suc, show (k + 1).toNat = k.toNat + 1 by omega])⟩ (by omega)
set_option maxHeartbeats 4000000 in
set_option maxRecDepth 100000 in
theorem c_J7_fill_53178_6_14 (l : Launch) (G : Ly) (o : Nat) (v : Int) (w : Wd) (ho : gOb G o = some 6) : Mv l yJ7_fill_53178 cJ7_fill_53178 4 none 0 0 G [.ref (gAr G o 14), .int (iI v)] w (fun w2 => w2 = upA w o 14 (fillN (w o 14) v 6)) := by
  refine mv_of (lv := [(0, .ref (gAr G o 14)), (1, .int (iI v))]) (by decide) (Nat.le_of_ble_eq_true rfl) rfl ?_
  intro p_ e_ s_ m_ b_ h_ c_ X
  refine g_iconst X dJ7_fill_53178_0 ?_
  refine g_istore_n (lv' := [(2, .int (iI 0)), (0, .ref (gAr G o 14)), (1, .int (iI v))]) X dJ7_fill_53178_1 rfl (by decide) rfl ?_
  refine g_aload_n X dJ7_fill_53178_2 rfl 1 rfl ?_
  refine g_alen X ho (by decide) (show fkX 6 14 = (1, 6) from rfl) dJ7_fill_53178_3 ?_
  refine g_istore_n (lv' := [(3, .int (iI 6)), (2, .int (iI 0)), (0, .ref (gAr G o 14)), (1, .int (iI v))]) X dJ7_fill_53178_4 rfl (by decide) rfl ?_
  refine g_lv (lv' := [(0, .ref (gAr G o 14)), (1, .int (iI v)), (2, .int (iI 0)), (3, .int (iI 6))]) [2, 3, 1, 0] rfl ?_
  refine g_loop2 (fun (k : Int) (w1 : Wd) => [(0, .ref (gAr G o 14)), (1, .int (iI v)), (2, .int (iI k)), (3, .int (iI 6))]) (fun (k : Int) (w1 : Wd) => w1) (fun (k : Int) (w1 : Wd) => (0 ≤ k) ∧ (k ≤ 6) ∧ (w1 = upA w o 14 (fillN (w o 14) v k.toNat))) (fun (k : Int) (w1 : Wd) => (6 - k).toNat) 0 w ⟨(by first | omega | rfl | assumption), (by first | omega | rfl | assumption), (by show w = upA w o 14 (fillN (w o 14) v 0); rw [fillN_0, upA_self])⟩ ?_
  intro k w1 hI_5 ih_5
  obtain ⟨h0, h1, hw⟩ := hI_5
  try dsimp only at ih_5 ⊢
  refine g_iload_n X dJ7_fill_53178_5 rfl 2 rfl ?_
  refine g_iload_n X dJ7_fill_53178_6 rfl 3 rfl ?_
  refine g_icmp_ge (tgt := 20) X dJ7_fill_53178_7 (by decide) (by unfold InR; omega) ⟨by decide, by decide⟩ (fun c_7 => ?_) (fun c_7 => ?_)
  · skip
    exact g_vret X rfl dJ7_fill_53178_20 (by rw [hw, show k.toNat = 6 by omega])
  · skip
    refine g_aload_n X dJ7_fill_53178_10 rfl 0 rfl ?_
    refine g_iload_n X dJ7_fill_53178_11 rfl 2 rfl ?_
    refine g_iload_n X dJ7_fill_53178_12 rfl 1 rfl ?_
    refine g_iast (a := k) X ho (by decide) (show fkX 6 14 = (1, 6) from rfl) (by decide) (by omega) (by omega) dJ7_fill_53178_13 ?_
    obtain ⟨w_1, ew_1⟩ : ∃ q_ : Wd, q_ = up w1 o 14 (k).toNat v := ⟨_, rfl⟩
    refine g_w (w' := w_1) ew_1 ?_
    refine g_iinc (j := 2) (lv' := [(2, .int (iI (k + 1))), (0, .ref (gAr G o 14)), (1, .int (iI v)), (3, .int (iI 6))]) X dJ7_fill_53178_14 rfl (by decide) rfl ?_
    refine g_goto (tgt := 5) X dJ7_fill_53178_17 (by decide) ?_
    refine g_lv (lv' := [(0, .ref (gAr G o 14)), (1, .int (iI v)), (2, .int (iI (k + 1))), (3, .int (iI 6))]) [1, 2, 0, 3] rfl ?_
    exact ih_5 (k + 1) w_1 ⟨(by first | omega | rfl | assumption), (by first | omega | rfl | assumption), (by rw [ew_1, hw, up_upA, fillN_suc, show (k + 1).toNat = k.toNat + 1 by omega])⟩ (by omega)
set_option maxHeartbeats 4000000 in
set_option maxRecDepth 100000 in
theorem c_J7_fill_53178_0_1 (l : Launch) (G : Ly) (o : Nat) (v : Int) (w : Wd) (ho : gOb G o = some 0) : Mv l yJ7_fill_53178 cJ7_fill_53178 4 none 0 0 G [.ref (gAr G o 1), .int (iI v)] w (fun w2 => w2 = upA w o 1 (fillN (w o 1) v 481)) := by
  refine mv_of (lv := [(0, .ref (gAr G o 1)), (1, .int (iI v))]) (by decide) (Nat.le_of_ble_eq_true rfl) rfl ?_
  intro p_ e_ s_ m_ b_ h_ c_ X
  refine g_iconst X dJ7_fill_53178_0 ?_
  refine g_istore_n (lv' := [(2, .int (iI 0)), (0, .ref (gAr G o 1)), (1, .int (iI v))]) X dJ7_fill_53178_1 rfl (by decide) rfl ?_
  refine g_aload_n X dJ7_fill_53178_2 rfl 1 rfl ?_
  refine g_alen X ho (by decide) (show fkX 0 1 = (1, 481) from rfl) dJ7_fill_53178_3 ?_
  refine g_istore_n (lv' := [(3, .int (iI 481)), (2, .int (iI 0)), (0, .ref (gAr G o 1)), (1, .int (iI v))]) X dJ7_fill_53178_4 rfl (by decide) rfl ?_
  refine g_lv (lv' := [(0, .ref (gAr G o 1)), (1, .int (iI v)), (2, .int (iI 0)), (3, .int (iI 481))]) [2, 3, 1, 0] rfl ?_
  refine g_loop2 (fun (k : Int) (w1 : Wd) => [(0, .ref (gAr G o 1)), (1, .int (iI v)), (2, .int (iI k)), (3, .int (iI 481))]) (fun (k : Int) (w1 : Wd) => w1) (fun (k : Int) (w1 : Wd) => (0 ≤ k) ∧ (k ≤ 481) ∧ (w1 = upA w o 1 (fillN (w o 1) v k.toNat))) (fun (k : Int) (w1 : Wd) => (481 - k).toNat) 0 w ⟨(by first | omega | rfl | assumption), (by first | omega | rfl | assumption), (by show w = upA w o 1 (fillN (w o 1) v 0); rw [fillN_0, upA_self])⟩ ?_
  intro k w1 hI_5 ih_5
  obtain ⟨h0, h1, hw⟩ := hI_5
  try dsimp only at ih_5 ⊢
  refine g_iload_n X dJ7_fill_53178_5 rfl 2 rfl ?_
  refine g_iload_n X dJ7_fill_53178_6 rfl 3 rfl ?_
  refine g_icmp_ge (tgt := 20) X dJ7_fill_53178_7 (by decide) (by unfold InR; omega) ⟨by decide, by decide⟩ (fun c_7 => ?_) (fun c_7 => ?_)
  · skip
    exact g_vret X rfl dJ7_fill_53178_20 (by rw [hw, show k.toNat = 481 by omega])
  · skip
    refine g_aload_n X dJ7_fill_53178_10 rfl 0 rfl ?_
    refine g_iload_n X dJ7_fill_53178_11 rfl 2 rfl ?_
    refine g_iload_n X dJ7_fill_53178_12 rfl 1 rfl ?_
    refine g_iast (a := k) X ho (by decide) (show fkX 0 1 = (1, 481) from rfl) (by decide) (by omega) (by omega) dJ7_fill_53178_13 ?_
    obtain ⟨w_1, ew_1⟩ : ∃ q_ : Wd, q_ = up w1 o 1 (k).toNat v := ⟨_, rfl⟩
    refine g_w (w' := w_1) ew_1 ?_
    refine g_iinc (j := 2) (lv' := [(2, .int (iI (k + 1))), (0, .ref (gAr G o 1)), (1, .int (iI v)), (3, .int (iI 481))]) X dJ7_fill_53178_14 rfl (by decide) rfl ?_
    refine g_goto (tgt := 5) X dJ7_fill_53178_17 (by decide) ?_
    refine g_lv (lv' := [(0, .ref (gAr G o 1)), (1, .int (iI v)), (2, .int (iI (k + 1))), (3, .int (iI 481))]) [1, 2, 0, 3] rfl ?_
    exact ih_5 (k + 1) w_1 ⟨(by first | omega | rfl | assumption), (by first | omega | rfl | assumption), (by rw [ew_1, hw, up_upA, fillN_suc, show (k + 1).toNat = k.toNat + 1 by omega])⟩ (by omega)
set_option maxHeartbeats 4000000 in
set_option maxRecDepth 100000 in
theorem c_X6_running (l : Launch) (G : Ly) (o : Nat) (w : Wd) (ho : gOb G o = some 6) : Mi l yX6_running cX6_running 1 (some .int) 0 0 G [.ref (gAd G o)] w (fun z w2 => z = (bor (w o 6 0) (w o 7 0)) ∧ w2 = w) := by
  refine mi_of (lv := [(0, .ref (gAd G o))]) (by decide) (Nat.le_of_ble_eq_true rfl) rfl ?_
  intro p_ e_ s_ m_ b_ h_ c_ X
  refine g_aload_n X dX6_running_0 rfl 0 rfl ?_
  refine g_geti X ck_X6 ho 6 (by decide) fl_X6_58 (Or.inl rfl) dX6_running_1 ?_
  refine g_aload_n X dX6_running_4 rfl 0 rfl ?_
  refine g_geti X ck_X6 ho 7 (by decide) fl_X6_61 (Or.inl rfl) dX6_running_5 ?_
  refine g_ior X dX6_running_8 ?_
  exact g_iret X rfl rfl dX6_running_9 (by first | exact ⟨rfl, rfl⟩ | rfl | omega)
set_option maxHeartbeats 4000000 in
set_option maxRecDepth 100000 in
theorem c_X6_lift (l : Launch) (G : Ly) (o : Nat) (w : Wd) (ho : gOb G o = some 6) (hr : InR (w o 0 2 - w o 0 3)) : Mi l yX6_lift cX6_lift 1 (some .int) 1 21 G [.ref (gAd G o)] w (fun z w2 => z = (max 0 (w o 0 2 - w o 0 3)) ∧ w2 = w) := by
  refine mi_of (lv := [(0, .ref (gAd G o))]) (by decide) (Nat.le_of_ble_eq_true rfl) rfl ?_
  intro p_ e_ s_ m_ b_ h_ c_ X
  refine g_iconst X dX6_lift_0 ?_
  refine g_aload_n X dX6_lift_1 rfl 0 rfl ?_
  refine g_geta X ck_X6 ho 0 (by decide) fl_X6_9 rfl dX6_lift_2 ?_
  refine g_iconst X dX6_lift_5 ?_
  refine g_iald (a := 2) X ho (by decide) (show fkX 6 0 = (1, 4) from rfl) (by decide) (by omega) (by omega) dX6_lift_6 ?_
  refine g_aload_n X dX6_lift_7 rfl 0 rfl ?_
  refine g_geta X ck_X6 ho 0 (by decide) fl_X6_9 rfl dX6_lift_8 ?_
  refine g_iconst X dX6_lift_11 ?_
  refine g_iald (a := 3) X ho (by decide) (show fkX 6 0 = (1, 4) from rfl) (by decide) (by omega) (by omega) dX6_lift_12 ?_
  refine g_isub X dX6_lift_13 ?_
  refine g_max X ml_X6_77 ⟨by decide, by decide⟩ (by exact hr) ⟨Nat.le_of_ble_eq_true rfl, Nat.le_of_ble_eq_true rfl⟩ (Nat.le_of_ble_eq_true rfl) dX6_lift_14 ?_
  exact g_iret X rfl rfl dX6_lift_17 (by first | exact ⟨rfl, rfl⟩ | rfl | omega)
set_option maxHeartbeats 4000000 in
set_option maxRecDepth 100000 in
theorem c_X6_startedSoFar (l : Launch) (G : Ly) (o : Nat) (w : Wd) (ho : gOb G o = some 6) : Mi l yX6_startedSoFar cX6_startedSoFar 3 (some .int) 0 0 G [.ref (gAd G o)] w (fun z w2 => z = (sumN (w o 12) 6) ∧ w2 = w) := by
  refine mi_of (lv := [(0, .ref (gAd G o))]) (by decide) (Nat.le_of_ble_eq_true rfl) rfl ?_
  intro p_ e_ s_ m_ b_ h_ c_ X
  refine g_iconst X dX6_startedSoFar_0 ?_
  refine g_istore_n (lv' := [(1, .int (iI 0)), (0, .ref (gAd G o))]) X dX6_startedSoFar_1 rfl (by decide) rfl ?_
  refine g_iconst X dX6_startedSoFar_2 ?_
  refine g_istore_n (lv' := [(2, .int (iI 0)), (1, .int (iI 0)), (0, .ref (gAd G o))]) X dX6_startedSoFar_3 rfl (by decide) rfl ?_
  refine g_lv (lv' := [(0, .ref (gAd G o)), (1, .int (iI 0)), (2, .int (iI 0))]) [2, 1, 0] rfl ?_
  refine g_loop2 (fun (sum : Int) (k : Int) => [(0, .ref (gAd G o)), (1, .int (iI sum)), (2, .int (iI k))]) (fun (sum : Int) (k : Int) => w) (fun (sum : Int) (k : Int) => (0 ≤ k) ∧ (k ≤ 6) ∧ (sum = sumN (w o 12) k.toNat)) (fun (sum : Int) (k : Int) => (6 - k).toNat) 0 0 ⟨(by first | omega | rfl | assumption), (by first | omega | rfl | assumption), (by first | omega | rfl | assumption)⟩ ?_
  intro sum k hI_4 ih_4
  obtain ⟨h0, h1, hs⟩ := hI_4
  try dsimp only at ih_4 ⊢
  refine g_iload_n X dX6_startedSoFar_4 rfl 2 rfl ?_
  refine g_bipush X dX6_startedSoFar_5 (by decide) ?_
  refine g_icmp_ge (tgt := 25) X dX6_startedSoFar_7 (by decide) (by unfold InR; omega) ⟨by decide, by decide⟩ (fun c_7 => ?_) (fun c_7 => ?_)
  · skip
    refine g_iload_n X dX6_startedSoFar_25 rfl 1 rfl ?_
    exact g_iret X rfl rfl dX6_startedSoFar_26 (by exact ⟨by rw [hs, show k.toNat = 6 by omega], rfl⟩)
  · skip
    refine g_iload_n X dX6_startedSoFar_10 rfl 1 rfl ?_
    refine g_aload_n X dX6_startedSoFar_11 rfl 0 rfl ?_
    refine g_geta X ck_X6 ho 12 (by decide) fl_X6_21 rfl dX6_startedSoFar_12 ?_
    refine g_iload_n X dX6_startedSoFar_15 rfl 2 rfl ?_
    refine g_iald (a := k) X ho (by decide) (show fkX 6 12 = (1, 6) from rfl) (by decide) (by omega) (by omega) dX6_startedSoFar_16 ?_
    refine g_iadd X dX6_startedSoFar_17 ?_
    refine g_istore_n (lv' := [(1, .int (iI (sum + (w o 12 (k).toNat)))), (0, .ref (gAd G o)), (2, .int (iI k))]) X dX6_startedSoFar_18 rfl (by decide) rfl ?_
    refine g_iinc (j := 2) (lv' := [(2, .int (iI (k + 1))), (1, .int (iI (sum + (w o 12 (k).toNat)))), (0, .ref (gAd G o))]) X dX6_startedSoFar_19 rfl (by decide) rfl ?_
    refine g_goto (tgt := 4) X dX6_startedSoFar_22 (by decide) ?_
    refine g_lv (lv' := [(0, .ref (gAd G o)), (1, .int (iI (sum + (w o 12 (k).toNat)))), (2, .int (iI (k + 1)))]) [2, 1, 0] rfl ?_
    exact ih_4 (sum + (w o 12 (k).toNat)) (k + 1) ⟨(by first | omega | rfl | assumption), (by first | omega | rfl | assumption), (by rw [sumN_suc h0, hs])⟩ (by omega)
set_option maxHeartbeats 4000000 in
set_option maxRecDepth 100000 in
theorem c_X6_ringPlace (l : Launch) (G : Ly) (m : Int) (start : Int) (w : Wd) (hm : 0 ≤ m ∧ m < 6) (hs : 0 ≤ start ∧ start ≤ 2147483647) : Mi l yX6_ringPlace cX6_ringPlace 2 (some .int) 1 22 G [.int (iI m), .int (iI start)] w (fun z w2 => z = (m * 9 + start % 9) ∧ w2 = w) := by
  refine mi_of (lv := [(0, .int (iI m)), (1, .int (iI start))]) (by decide) (Nat.le_of_ble_eq_true rfl) rfl ?_
  intro p_ e_ s_ m_ b_ h_ c_ X
  refine g_iload_n X dX6_ringPlace_0 rfl 0 rfl ?_
  refine g_bipush X dX6_ringPlace_1 (by decide) ?_
  refine g_imul X dX6_ringPlace_3 ?_
  refine g_iload_n X dX6_ringPlace_4 rfl 1 rfl ?_
  refine g_bipush X dX6_ringPlace_5 (by decide) ?_
  refine g_callsi (st := [.int (iI (m * 9))]) X (c_J9_floorMod_7cf53 l G start 9 w (by first | assumption | omega | (unfold InR; omega)) (by first | assumption | omega | (unfold InR; omega))) cm_J9_floorMod_7cf53 sm_J9_floorMod_7cf53 ml_X6_96 ⟨Nat.le_of_ble_eq_true rfl, Nat.le_of_ble_eq_true rfl⟩ rfl rfl (Nat.le_of_ble_eq_true rfl) dX6_ringPlace_7 (fn_i ?_)
  refine g_iadd X dX6_ringPlace_10 ?_
  exact g_iret X rfl rfl dX6_ringPlace_11 (by first | exact ⟨rfl, rfl⟩ | rfl | omega)
set_option maxHeartbeats 4000000 in
set_option maxRecDepth 100000 in
theorem c_X6_start (l : Launch) (G : Ly) (o : Nat) (m : Int) (w : Wd) (ho : gOb G o = some 6) (hm : 0 ≤ m ∧ m < 6) (hs : 0 ≤ w o 12 m.toNat ∧ w o 12 m.toNat ≤ 1000000) : Mv l yX6_start cX6_start 2 none 2 43 G [.ref (gAd G o), .int (iI m)] w (fun w2 => w2 = up (up (up (up w o 6 0 (bor (w o 6 0) (bshl 1 m))) o 13 (m * 9 + w o 12 m.toNat % 9).toNat (w o 1 0)) o 12 m.toNat (w o 12 m.toNat + 1)) o 8 0 (w o 1 0)) := by
  refine mv_of (lv := [(0, .ref (gAd G o)), (1, .int (iI m))]) (by decide) (Nat.le_of_ble_eq_true rfl) rfl ?_
  intro p_ e_ s_ m_ b_ h_ c_ X
  refine g_aload_n X dX6_start_0 rfl 0 rfl ?_
  refine g_dup X dX6_start_1 rfl ?_
  refine g_geti X ck_X6 ho 6 (by decide) fl_X6_58 (Or.inl rfl) dX6_start_2 ?_
  refine g_iconst X dX6_start_5 ?_
  refine g_iload_n X dX6_start_6 rfl 1 rfl ?_
  refine g_ishl X dX6_start_7 ?_
  refine g_ior X dX6_start_8 ?_
  refine g_puti X ck_X6 ho 6 (by decide) fl_X6_58 rfl rfl rfl dX6_start_9 ?_
  obtain ⟨w_1, ew_1⟩ : ∃ q_ : Wd, q_ = up w o 6 0 (bor (w o 6 0) (bshl 1 m)) := ⟨_, rfl⟩
  refine g_w (w' := w_1) ew_1 ?_
  refine g_aload_n X dX6_start_12 rfl 0 rfl ?_
  refine g_geta X ck_X6 ho 13 (by decide) fl_X6_24 rfl dX6_start_13 ?_
  refine g_iload_n X dX6_start_16 rfl 1 rfl ?_
  refine g_aload_n X dX6_start_17 rfl 0 rfl ?_
  refine g_geta X ck_X6 ho 12 (by decide) fl_X6_21 rfl dX6_start_18 ?_
  refine g_iload_n X dX6_start_21 rfl 1 rfl ?_
  refine g_iald (a := m) X ho (by decide) (show fkX 6 12 = (1, 6) from rfl) (by decide) (by omega) (by omega) dX6_start_22 ?_
  refine g_callsi (st := [.ref (gAr G o 13)]) X (c_X6_ringPlace l G m (w_1 o 12 (m).toNat) w_1 (by first | assumption | omega | (unfold InR; omega)) (by rw [ew_1]; simp [up]; omega)) cm_X6_ringPlace sm_X6_ringPlace ml_X6_83 ⟨Nat.le_of_ble_eq_true rfl, Nat.le_of_ble_eq_true rfl⟩ rfl rfl (Nat.le_of_ble_eq_true rfl) dX6_start_23 (fn_i ?_)
  refine g_aload_n X dX6_start_26 rfl 0 rfl ?_
  refine g_geti X ck_X6 ho 1 (by decide) fl_X6_42 (Or.inl rfl) dX6_start_27 ?_
  refine g_iast (a := m * 9 + (w_1 o 12 (m).toNat) % 9) X ho (by decide) (show fkX 6 13 = (1, 54) from rfl) (by decide) (by rw [ew_1]; simp [up]; omega) (by rw [ew_1]; simp [up]; omega) dX6_start_30 ?_
  obtain ⟨w_2, ew_2⟩ : ∃ q_ : Wd, q_ = up w_1 o 13 (m * 9 + (w_1 o 12 (m).toNat) % 9).toNat (w_1 o 1 0) := ⟨_, rfl⟩
  refine g_w (w' := w_2) ew_2 ?_
  refine g_aload_n X dX6_start_31 rfl 0 rfl ?_
  refine g_geta X ck_X6 ho 12 (by decide) fl_X6_21 rfl dX6_start_32 ?_
  refine g_iload_n X dX6_start_35 rfl 1 rfl ?_
  refine g_dup2 X dX6_start_36 rfl rfl ?_
  refine g_iald (a := m) X ho (by decide) (show fkX 6 12 = (1, 6) from rfl) (by decide) (by omega) (by omega) dX6_start_37 ?_
  refine g_iconst X dX6_start_38 ?_
  refine g_iadd X dX6_start_39 ?_
  refine g_iast (a := m) X ho (by decide) (show fkX 6 12 = (1, 6) from rfl) (by decide) (by omega) (by omega) dX6_start_40 ?_
  obtain ⟨w_3, ew_3⟩ : ∃ q_ : Wd, q_ = up w_2 o 12 (m).toNat ((w_2 o 12 (m).toNat) + 1) := ⟨_, rfl⟩
  refine g_w (w' := w_3) ew_3 ?_
  refine g_aload_n X dX6_start_41 rfl 0 rfl ?_
  refine g_aload_n X dX6_start_42 rfl 0 rfl ?_
  refine g_geti X ck_X6 ho 1 (by decide) fl_X6_42 (Or.inl rfl) dX6_start_43 ?_
  refine g_puti X ck_X6 ho 8 (by decide) fl_X6_65 rfl rfl rfl dX6_start_46 ?_
  obtain ⟨w_4, ew_4⟩ : ∃ q_ : Wd, q_ = up w_3 o 8 0 (w_3 o 1 0) := ⟨_, rfl⟩
  refine g_w (w' := w_4) ew_4 ?_
  exact g_vret X rfl dX6_start_49 (by rw [ew_4, ew_3, ew_2, ew_1]; simp [up])
set_option maxHeartbeats 4000000 in
set_option maxRecDepth 100000 in
theorem c_X6_stop (l : Launch) (G : Ly) (o : Nat) (m : Int) (w : Wd) (ho : gOb G o = some 6) (hm : 0 ≤ m ∧ m < 6) (h6 : 0 ≤ w o 6 0 ∧ w o 6 0 < 64) (h7 : 0 ≤ w o 7 0 ∧ w o 7 0 < 64) : Mv l yX6_stop cX6_stop 2 none 1 21 G [.ref (gAd G o), .int (iI m)] w (fun w2 => (tb (bor (w o 6 0) (w o 7 0)) m.toNat = 1 ∧ w2 = up (up (up w o 6 0 (band (w o 6 0) (bxor (bshl 1 m) (-1)))) o 7 0 (band (w o 7 0) (bxor (bshl 1 m) (-1)))) o 14 m.toNat (w o 1 0)) ∨ (tb (bor (w o 6 0) (w o 7 0)) m.toNat = 0 ∧ w2 = w)) := by
  refine mv_of (lv := [(0, .ref (gAd G o)), (1, .int (iI m))]) (by decide) (Nat.le_of_ble_eq_true rfl) rfl ?_
  intro p_ e_ s_ m_ b_ h_ c_ X
  have hb := bt_or h6.1 h6.2 h7.1 h7.2
  have ht := tb01 (bor (w o 6 0) (w o 7 0)) m.toNat
  refine g_aload_n X dX6_stop_0 rfl 0 rfl ?_
  refine g_calli (st := []) X (c_X6_running l G o w ho) cm_X6_running im_X6_running se_X6_running ml_X6_86 ck_X6 ho ⟨Nat.le_of_ble_eq_true rfl, Nat.le_of_ble_eq_true rfl⟩ rfl rfl (Nat.le_of_ble_eq_true rfl) dX6_stop_1 (fn_i ?_)
  refine g_iload_n X dX6_stop_4 rfl 1 rfl ?_
  refine g_callni (st := []) X (c_X7_bitOf l G (bor (w o 6 0) (w o 7 0)) m w (by first | assumption | omega | (unfold InR; omega)) (by first | assumption | omega | (unfold InR; omega))) cm_X7_bitOf sm_X7_bitOf mn_X6_90 ⟨Nat.le_of_ble_eq_true rfl, Nat.le_of_ble_eq_true rfl⟩ rfl rfl (Nat.le_of_ble_eq_true rfl) dX6_stop_5 (fn_i ?_)
  refine g_iconst X dX6_stop_8 ?_
  refine g_icmp_ne (tgt := 50) X dX6_stop_9 (by decide) (by unfold InR; omega) ⟨by decide, by decide⟩ (fun c_9 => ?_) (fun c_9 => ?_)
  · skip
    exact g_vret X rfl dX6_stop_50 (by first | exact Or.inr ⟨by omega, rfl⟩ | exact Or.inl ⟨by omega, by rw []; simp [up]⟩)
  · skip
    refine g_aload_n X dX6_stop_12 rfl 0 rfl ?_
    refine g_dup X dX6_stop_13 rfl ?_
    refine g_geti X ck_X6 ho 6 (by decide) fl_X6_58 (Or.inl rfl) dX6_stop_14 ?_
    refine g_iconst X dX6_stop_17 ?_
    refine g_iload_n X dX6_stop_18 rfl 1 rfl ?_
    refine g_ishl X dX6_stop_19 ?_
    refine g_iconst X dX6_stop_20 ?_
    refine g_ixor X dX6_stop_21 ?_
    refine g_iand X dX6_stop_22 ?_
    refine g_puti X ck_X6 ho 6 (by decide) fl_X6_58 rfl rfl rfl dX6_stop_23 ?_
    obtain ⟨w_1, ew_1⟩ : ∃ q_ : Wd, q_ = up w o 6 0 (band (w o 6 0) (bxor (bshl 1 m) (-1))) := ⟨_, rfl⟩
    refine g_w (w' := w_1) ew_1 ?_
    refine g_aload_n X dX6_stop_26 rfl 0 rfl ?_
    refine g_dup X dX6_stop_27 rfl ?_
    refine g_geti X ck_X6 ho 7 (by decide) fl_X6_61 (Or.inl rfl) dX6_stop_28 ?_
    refine g_iconst X dX6_stop_31 ?_
    refine g_iload_n X dX6_stop_32 rfl 1 rfl ?_
    refine g_ishl X dX6_stop_33 ?_
    refine g_iconst X dX6_stop_34 ?_
    refine g_ixor X dX6_stop_35 ?_
    refine g_iand X dX6_stop_36 ?_
    refine g_puti X ck_X6 ho 7 (by decide) fl_X6_61 rfl rfl rfl dX6_stop_37 ?_
    obtain ⟨w_2, ew_2⟩ : ∃ q_ : Wd, q_ = up w_1 o 7 0 (band (w_1 o 7 0) (bxor (bshl 1 m) (-1))) := ⟨_, rfl⟩
    refine g_w (w' := w_2) ew_2 ?_
    refine g_aload_n X dX6_stop_40 rfl 0 rfl ?_
    refine g_geta X ck_X6 ho 14 (by decide) fl_X6_27 rfl dX6_stop_41 ?_
    refine g_iload_n X dX6_stop_44 rfl 1 rfl ?_
    refine g_aload_n X dX6_stop_45 rfl 0 rfl ?_
    refine g_geti X ck_X6 ho 1 (by decide) fl_X6_42 (Or.inl rfl) dX6_stop_46 ?_
    refine g_iast (a := m) X ho (by decide) (show fkX 6 14 = (1, 6) from rfl) (by decide) (by omega) (by omega) dX6_stop_49 ?_
    obtain ⟨w_3, ew_3⟩ : ∃ q_ : Wd, q_ = up w_2 o 14 (m).toNat (w_2 o 1 0) := ⟨_, rfl⟩
    refine g_w (w' := w_3) ew_3 ?_
    exact g_vret X rfl dX6_stop_50 (by first | exact Or.inr ⟨by omega, rfl⟩ | exact Or.inl ⟨by omega, by rw [ew_3, ew_2, ew_1]; simp [up]⟩)
set_option maxHeartbeats 4000000 in
set_option maxRecDepth 100000 in
theorem c_X6_ticksSinceStop (l : Launch) (G : Ly) (o : Nat) (m : Int) (tick : Int) (w : Wd) (ho : gOb G o = some 6) (hm : 0 ≤ m ∧ m < 6) : Mi l yX6_ticksSinceStop cX6_ticksSinceStop 3 (some .int) 0 0 G [.ref (gAd G o), .int (iI m), .int (iI tick)] w (fun z w2 => z = (tick - w o 14 m.toNat) ∧ w2 = w) := by
  refine mi_of (lv := [(0, .ref (gAd G o)), (1, .int (iI m)), (2, .int (iI tick))]) (by decide) (Nat.le_of_ble_eq_true rfl) rfl ?_
  intro p_ e_ s_ m_ b_ h_ c_ X
  refine g_iload_n X dX6_ticksSinceStop_0 rfl 2 rfl ?_
  refine g_aload_n X dX6_ticksSinceStop_1 rfl 0 rfl ?_
  refine g_geta X ck_X6 ho 14 (by decide) fl_X6_27 rfl dX6_ticksSinceStop_2 ?_
  refine g_iload_n X dX6_ticksSinceStop_5 rfl 1 rfl ?_
  refine g_iald (a := m) X ho (by decide) (show fkX 6 14 = (1, 6) from rfl) (by decide) (by omega) (by omega) dX6_ticksSinceStop_6 ?_
  refine g_isub X dX6_ticksSinceStop_7 ?_
  exact g_iret X rfl rfl dX6_ticksSinceStop_8 (by first | exact ⟨rfl, rfl⟩ | rfl | omega)
set_option maxHeartbeats 4000000 in
set_option maxRecDepth 100000 in
theorem c_X6_startBack (l : Launch) (G : Ly) (o : Nat) (m : Int) (back : Int) (w : Wd) (ho : gOb G o = some 6) (hm : 0 ≤ m ∧ m < 6) (hs : 0 ≤ w o 12 m.toNat ∧ w o 12 m.toNat ≤ 1000000) (hb : 0 ≤ back ∧ back ≤ 9) : Mi l yX6_startBack cX6_startBack 3 (some .int) 2 43 G [.ref (gAd G o), .int (iI m), .int (iI back)] w (fun z w2 => z = (if w o 12 m.toNat < back then -100000 else w o 13 (m * 9 + (w o 12 m.toNat - back) % 9).toNat) ∧ w2 = w) := by
  refine mi_of (lv := [(0, .ref (gAd G o)), (1, .int (iI m)), (2, .int (iI back))]) (by decide) (Nat.le_of_ble_eq_true rfl) rfl ?_
  intro p_ e_ s_ m_ b_ h_ c_ X
  refine g_aload_n X dX6_startBack_0 rfl 0 rfl ?_
  refine g_geta X ck_X6 ho 12 (by decide) fl_X6_21 rfl dX6_startBack_1 ?_
  refine g_iload_n X dX6_startBack_4 rfl 1 rfl ?_
  refine g_iald (a := m) X ho (by decide) (show fkX 6 12 = (1, 6) from rfl) (by decide) (by omega) (by omega) dX6_startBack_5 ?_
  refine g_iload_n X dX6_startBack_6 rfl 2 rfl ?_
  refine g_icmp_ge (tgt := 15) X dX6_startBack_7 (by decide) (by unfold InR; omega) (by unfold InR; omega) (fun c_7 => ?_) (fun c_7 => ?_)
  · skip
    refine g_aload_n X dX6_startBack_15 rfl 0 rfl ?_
    refine g_geta X ck_X6 ho 13 (by decide) fl_X6_24 rfl dX6_startBack_16 ?_
    refine g_iload_n X dX6_startBack_19 rfl 1 rfl ?_
    refine g_aload_n X dX6_startBack_20 rfl 0 rfl ?_
    refine g_geta X ck_X6 ho 12 (by decide) fl_X6_21 rfl dX6_startBack_21 ?_
    refine g_iload_n X dX6_startBack_24 rfl 1 rfl ?_
    refine g_iald (a := m) X ho (by decide) (show fkX 6 12 = (1, 6) from rfl) (by decide) (by omega) (by omega) dX6_startBack_25 ?_
    refine g_iload_n X dX6_startBack_26 rfl 2 rfl ?_
    refine g_isub X dX6_startBack_27 ?_
    refine g_callsi (st := [.ref (gAr G o 13)]) X (c_X6_ringPlace l G m ((w o 12 (m).toNat) - back) w (by first | assumption | omega | (unfold InR; omega)) (by first | assumption | omega | (unfold InR; omega))) cm_X6_ringPlace sm_X6_ringPlace ml_X6_83 ⟨Nat.le_of_ble_eq_true rfl, Nat.le_of_ble_eq_true rfl⟩ rfl rfl (Nat.le_of_ble_eq_true rfl) dX6_startBack_28 (fn_i ?_)
    refine g_iald (a := m * 9 + ((w o 12 (m).toNat) - back) % 9) X ho (by decide) (show fkX 6 13 = (1, 54) from rfl) (by decide) (by omega) (by omega) dX6_startBack_31 ?_
    exact g_iret X rfl rfl dX6_startBack_32 (by first | exact ⟨by rw [if_pos (by omega)], rfl⟩ | exact ⟨by rw [if_neg (by omega)], rfl⟩)
  · skip
    refine g_ldc (n := (-100000)) X cst_X6_64 (by decide) dX6_startBack_10 ?_
    refine g_goto (tgt := 32) X dX6_startBack_12 (by decide) ?_
    exact g_iret X rfl rfl dX6_startBack_32 (by first | exact ⟨by rw [if_pos (by omega)], rfl⟩ | exact ⟨by rw [if_neg (by omega)], rfl⟩)
set_option maxHeartbeats 4000000 in
set_option maxRecDepth 100000 in
theorem c_X6_ticksSinceStart (l : Launch) (G : Ly) (o : Nat) (m : Int) (tick : Int) (w : Wd) (ho : gOb G o = some 6) (hm : 0 ≤ m ∧ m < 6) (hs : 0 ≤ w o 12 m.toNat ∧ w o 12 m.toNat ≤ 1000000) : Mi l yX6_ticksSinceStart cX6_ticksSinceStart 3 (some .int) 3 65 G [.ref (gAd G o), .int (iI m), .int (iI tick)] w (fun z w2 => z = (tick - (if w o 12 m.toNat < 1 then -100000 else w o 13 (m * 9 + (w o 12 m.toNat - 1) % 9).toNat)) ∧ w2 = w) := by
  refine mi_of (lv := [(0, .ref (gAd G o)), (1, .int (iI m)), (2, .int (iI tick))]) (by decide) (Nat.le_of_ble_eq_true rfl) rfl ?_
  intro p_ e_ s_ m_ b_ h_ c_ X
  refine g_iload_n X dX6_ticksSinceStart_0 rfl 2 rfl ?_
  refine g_aload_n X dX6_ticksSinceStart_1 rfl 0 rfl ?_
  refine g_iload_n X dX6_ticksSinceStart_2 rfl 1 rfl ?_
  refine g_iconst X dX6_ticksSinceStart_3 ?_
  refine g_calli (st := [.int (iI tick)]) X (c_X6_startBack l G o m 1 w ho (by first | assumption | omega | (unfold InR; omega)) (by first | assumption | omega | (unfold InR; omega)) (by first | assumption | omega | (unfold InR; omega))) cm_X6_startBack im_X6_startBack se_X6_startBack ml_X6_93 ck_X6 ho ⟨Nat.le_of_ble_eq_true rfl, Nat.le_of_ble_eq_true rfl⟩ rfl rfl (Nat.le_of_ble_eq_true rfl) dX6_ticksSinceStart_4 (fn_i ?_)
  refine g_isub X dX6_ticksSinceStart_7 ?_
  exact g_iret X rfl rfl dX6_ticksSinceStart_8 (by first | exact ⟨rfl, rfl⟩ | rfl | omega)
set_option maxHeartbeats 4000000 in
set_option maxRecDepth 100000 in
theorem c_X6_putOnList (l : Launch) (G : Ly) (o : Nat) (m : Int) (w : Wd) (ho : gOb G o = some 6) (hl : 0 ≤ w o 9 0 ∧ w o 9 0 < 6) : Mv l yX6_putOnList cX6_putOnList 2 none 0 0 G [.ref (gAd G o), .int (iI m)] w (fun w2 => w2 = up (up w o 10 (w o 9 0).toNat m) o 9 0 (w o 9 0 + 1)) := by
  refine mv_of (lv := [(0, .ref (gAd G o)), (1, .int (iI m))]) (by decide) (Nat.le_of_ble_eq_true rfl) rfl ?_
  intro p_ e_ s_ m_ b_ h_ c_ X
  refine g_aload_n X dX6_putOnList_0 rfl 0 rfl ?_
  refine g_geti X ck_X6 ho 9 (by decide) fl_X6_68 (Or.inl rfl) dX6_putOnList_1 ?_
  refine g_bipush X dX6_putOnList_4 (by decide) ?_
  refine g_icmp_ge (tgt := 29) X dX6_putOnList_6 (by decide) (by unfold InR; omega) ⟨by decide, by decide⟩ (fun c_6 => ?_) (fun c_6 => ?_)
  · exact absurd c_6 (by omega) --dead
  · skip
    refine g_aload_n X dX6_putOnList_9 rfl 0 rfl ?_
    refine g_geta X ck_X6 ho 10 (by decide) fl_X6_15 rfl dX6_putOnList_10 ?_
    refine g_aload_n X dX6_putOnList_13 rfl 0 rfl ?_
    refine g_geti X ck_X6 ho 9 (by decide) fl_X6_68 (Or.inl rfl) dX6_putOnList_14 ?_
    refine g_iload_n X dX6_putOnList_17 rfl 1 rfl ?_
    refine g_iast (a := w o 9 0) X ho (by decide) (show fkX 6 10 = (1, 6) from rfl) (by decide) (by omega) (by omega) dX6_putOnList_18 ?_
    obtain ⟨w_1, ew_1⟩ : ∃ q_ : Wd, q_ = up w o 10 (w o 9 0).toNat m := ⟨_, rfl⟩
    refine g_w (w' := w_1) ew_1 ?_
    refine g_aload_n X dX6_putOnList_19 rfl 0 rfl ?_
    refine g_dup X dX6_putOnList_20 rfl ?_
    refine g_geti X ck_X6 ho 9 (by decide) fl_X6_68 (Or.inl rfl) dX6_putOnList_21 ?_
    refine g_iconst X dX6_putOnList_24 ?_
    refine g_iadd X dX6_putOnList_25 ?_
    refine g_puti X ck_X6 ho 9 (by decide) fl_X6_68 rfl rfl rfl dX6_putOnList_26 ?_
    obtain ⟨w_2, ew_2⟩ : ∃ q_ : Wd, q_ = up w_1 o 9 0 ((w_1 o 9 0) + 1) := ⟨_, rfl⟩
    refine g_w (w' := w_2) ew_2 ?_
    exact g_vret X rfl dX6_putOnList_29 (by rw [ew_2, ew_1]; simp [up])
set_option maxHeartbeats 4000000 in
set_option maxRecDepth 100000 in
theorem c_X6_firstOfList (l : Launch) (G : Ly) (o : Nat) (w : Wd) (ho : gOb G o = some 6) : Mi l yX6_firstOfList cX6_firstOfList 1 (some .int) 0 0 G [.ref (gAd G o)] w (fun z w2 => z = (w o 10 0) ∧ w2 = w) := by
  refine mi_of (lv := [(0, .ref (gAd G o))]) (by decide) (Nat.le_of_ble_eq_true rfl) rfl ?_
  intro p_ e_ s_ m_ b_ h_ c_ X
  refine g_aload_n X dX6_firstOfList_0 rfl 0 rfl ?_
  refine g_geta X ck_X6 ho 10 (by decide) fl_X6_15 rfl dX6_firstOfList_1 ?_
  refine g_iconst X dX6_firstOfList_4 ?_
  refine g_iald (a := 0) X ho (by decide) (show fkX 6 10 = (1, 6) from rfl) (by decide) (by omega) (by omega) dX6_firstOfList_5 ?_
  exact g_iret X rfl rfl dX6_firstOfList_6 (by first | exact ⟨rfl, rfl⟩ | rfl | omega)
set_option maxHeartbeats 4000000 in
set_option maxRecDepth 100000 in
theorem c_X6_takeOffList (l : Launch) (G : Ly) (o : Nat) (m : Int) (w : Wd) (ho : gOb G o = some 6) (hl : 0 ≤ w o 9 0 ∧ w o 9 0 ≤ 6) (hm : InR m) (hv : ∀ j : Nat, (j : Int) < w o 9 0 → InR (w o 10 j)) : Mv l yX6_takeOffList cX6_takeOffList 4 none 0 0 G [.ref (gAd G o), .int (iI m)] w (fun w2 => w2 = up (upA w o 10 (tol (w o 10) m (w o 9 0).toNat).1) o 9 0 ((tol (w o 10) m (w o 9 0).toNat).2 : Int)) := by
  refine mv_of (lv := [(0, .ref (gAd G o)), (1, .int (iI m))]) (by decide) (Nat.le_of_ble_eq_true rfl) rfl ?_
  intro p_ e_ s_ m_ b_ h_ c_ X
  refine g_iconst X dX6_takeOffList_0 ?_
  refine g_istore_n (lv' := [(2, .int (iI 0)), (0, .ref (gAd G o)), (1, .int (iI m))]) X dX6_takeOffList_1 rfl (by decide) rfl ?_
  refine g_iconst X dX6_takeOffList_2 ?_
  refine g_istore_n (lv' := [(3, .int (iI 0)), (2, .int (iI 0)), (0, .ref (gAd G o)), (1, .int (iI m))]) X dX6_takeOffList_3 rfl (by decide) rfl ?_
  refine g_lv (lv' := [(0, .ref (gAd G o)), (1, .int (iI m)), (2, .int (iI 0)), (3, .int (iI 0))]) [2, 3, 1, 0] rfl ?_
  refine g_loop3 (fun (kept : Int) (k : Int) (w1 : Wd) => [(0, .ref (gAd G o)), (1, .int (iI m)), (2, .int (iI kept)), (3, .int (iI k))]) (fun (kept : Int) (k : Int) (w1 : Wd) => w1) (fun (kept : Int) (k : Int) (w1 : Wd) => (0 ≤ k) ∧ (k ≤ w o 9 0) ∧ (kept = ((tol (w o 10) m k.toNat).2 : Int)) ∧ (w1 = upA w o 10 (tol (w o 10) m k.toNat).1)) (fun (kept : Int) (k : Int) (w1 : Wd) => (w o 9 0 - k).toNat) 0 0 w ⟨(by first | omega | rfl | assumption), (by first | omega | rfl | assumption), (by rfl), (by show w = upA w o 10 (w o 10); rw [upA_self])⟩ ?_
  intro kept k w1 hI_4 ih_4
  obtain ⟨h0, h1, hk, hw⟩ := hI_4
  try dsimp only at ih_4 ⊢
  have q9 : w1 o 9 0 = w o 9 0 := by rw [hw]; exact upA_nej (fun z => absurd z.2 (by decide))
  have q10 : w1 o 10 = (tol (w o 10) m k.toNat).1 := by rw [hw, upA_at]
  refine g_iload_n X dX6_takeOffList_4 rfl 3 rfl ?_
  refine g_aload_n X dX6_takeOffList_5 rfl 0 rfl ?_
  refine g_geti X ck_X6 ho 9 (by decide) fl_X6_68 (Or.inl rfl) dX6_takeOffList_6 ?_
  refine g_icmp_ge (tgt := 49) X dX6_takeOffList_9 (by decide) (by unfold InR; omega) (by rw [q9]; unfold InR; omega) (fun c_9 => ?_) (fun c_9 => ?_)
  · skip
    refine g_aload_n X dX6_takeOffList_49 rfl 0 rfl ?_
    refine g_iload_n X dX6_takeOffList_50 rfl 2 rfl ?_
    refine g_puti X ck_X6 ho 9 (by decide) fl_X6_68 rfl rfl rfl dX6_takeOffList_51 ?_
    obtain ⟨w_1, ew_1⟩ : ∃ q_ : Wd, q_ = up w1 o 9 0 kept := ⟨_, rfl⟩
    refine g_w (w' := w_1) ew_1 ?_
    exact g_vret X rfl dX6_takeOffList_54 (by rw [q9] at c_9; rw [ew_1, hw, hk, show k = w o 9 0 by omega])
  · rw [q9] at c_9
    refine g_iload_n X dX6_takeOffList_12 rfl 3 rfl ?_
    refine g_bipush X dX6_takeOffList_13 (by decide) ?_
    refine g_icmp_ge (tgt := 49) X dX6_takeOffList_15 (by decide) (by unfold InR; omega) ⟨by decide, by decide⟩ (fun c_15 => ?_) (fun c_15 => ?_)
    · exact absurd c_15 (by omega) --dead
    · skip
      refine g_aload_n X dX6_takeOffList_18 rfl 0 rfl ?_
      refine g_geta X ck_X6 ho 10 (by decide) fl_X6_15 rfl dX6_takeOffList_19 ?_
      refine g_iload_n X dX6_takeOffList_22 rfl 3 rfl ?_
      refine g_iald (a := k) X ho (by decide) (show fkX 6 10 = (1, 6) from rfl) (by decide) (by omega) (by omega) dX6_takeOffList_23 ?_
      refine g_iload_n X dX6_takeOffList_24 rfl 1 rfl ?_
      refine g_icmp_eq (tgt := 43) X dX6_takeOffList_25 (by decide) (by rw [q10, tol_hi _ _ _ _ (Nat.le_refl _)]; exact hv _ (by omega)) (by exact hm) (fun c_25 => ?_) (fun c_25 => ?_)
      · skip
        refine g_iinc (j := 3) (lv' := [(3, .int (iI (k + 1))), (0, .ref (gAd G o)), (1, .int (iI m)), (2, .int (iI kept))]) X dX6_takeOffList_43 rfl (by decide) rfl ?_
        refine g_goto (tgt := 4) X dX6_takeOffList_46 (by decide) ?_
        refine g_lv (lv' := [(0, .ref (gAd G o)), (1, .int (iI m)), (2, .int (iI kept)), (3, .int (iI (k + 1)))]) [1, 2, 3, 0] rfl ?_
        exact ih_4 kept (k + 1) w1 ⟨(by first | omega | rfl | assumption), (by first | omega | rfl | assumption), (by rw [show (k + 1).toNat = k.toNat + 1 by omega]; unfold tol; first | (rw [if_pos (by rw [q10] at c_25; exact c_25)]; exact hk) | (rw [if_neg (by rw [q10] at c_25; exact c_25)]; omega)), (by rw [show (k + 1).toNat = k.toNat + 1 by omega]; unfold tol; first | (rw [if_pos (by rw [q10] at c_25; exact c_25)]; exact hw) | (rw [if_neg (by rw [q10] at c_25; exact c_25)]; show _ = upA w o 10 (fup _ _ _); rw [q10, hw, up_upA, show kept.toNat = (tol (w o 10) m k.toNat).2 by omega]))⟩ (by omega)
      · skip
        refine g_aload_n X dX6_takeOffList_28 rfl 0 rfl ?_
        refine g_geta X ck_X6 ho 10 (by decide) fl_X6_15 rfl dX6_takeOffList_29 ?_
        refine g_iload_n X dX6_takeOffList_32 rfl 2 rfl ?_
        refine g_aload_n X dX6_takeOffList_33 rfl 0 rfl ?_
        refine g_geta X ck_X6 ho 10 (by decide) fl_X6_15 rfl dX6_takeOffList_34 ?_
        refine g_iload_n X dX6_takeOffList_37 rfl 3 rfl ?_
        refine g_iald (a := k) X ho (by decide) (show fkX 6 10 = (1, 6) from rfl) (by decide) (by omega) (by omega) dX6_takeOffList_38 ?_
        refine g_iast (a := kept) X ho (by decide) (show fkX 6 10 = (1, 6) from rfl) (by decide) (by omega) (by have := tol_le (w o 10) m k.toNat; omega) dX6_takeOffList_39 ?_
        obtain ⟨w_2, ew_2⟩ : ∃ q_ : Wd, q_ = up w1 o 10 (kept).toNat (w1 o 10 (k).toNat) := ⟨_, rfl⟩
        refine g_w (w' := w_2) ew_2 ?_
        refine g_iinc (j := 2) (lv' := [(2, .int (iI (kept + 1))), (0, .ref (gAd G o)), (1, .int (iI m)), (3, .int (iI k))]) X dX6_takeOffList_40 rfl (by decide) rfl ?_
        refine g_iinc (j := 3) (lv' := [(3, .int (iI (k + 1))), (2, .int (iI (kept + 1))), (0, .ref (gAd G o)), (1, .int (iI m))]) X dX6_takeOffList_43 rfl (by decide) rfl ?_
        refine g_goto (tgt := 4) X dX6_takeOffList_46 (by decide) ?_
        refine g_lv (lv' := [(0, .ref (gAd G o)), (1, .int (iI m)), (2, .int (iI (kept + 1))), (3, .int (iI (k + 1)))]) [2, 3, 1, 0] rfl ?_
        exact ih_4 (kept + 1) (k + 1) w_2 ⟨(by first | omega | rfl | assumption), (by first | omega | rfl | assumption), (by rw [show (k + 1).toNat = k.toNat + 1 by omega]; unfold tol; first | (rw [if_pos (by rw [q10] at c_25; exact c_25)]; exact hk) | (rw [if_neg (by rw [q10] at c_25; exact c_25)]; omega)), (by rw [show (k + 1).toNat = k.toNat + 1 by omega]; unfold tol; first | (rw [if_pos (by rw [q10] at c_25; exact c_25)]; exact hw) | (rw [if_neg (by rw [q10] at c_25; exact c_25)]; show _ = upA w o 10 (fup _ _ _); rw [ew_2, q10, hw, up_upA, show kept.toNat = (tol (w o 10) m k.toNat).2 by omega]))⟩ (by omega)
set_option maxHeartbeats 4000000 in
set_option maxRecDepth 100000 in
theorem c_X6_placeInList (l : Launch) (G : Ly) (o : Nat) (m : Int) (w : Wd) (ho : gOb G o = some 6) (hl : 0 ≤ w o 9 0 ∧ w o 9 0 ≤ 6) (hm : InR m) (hv : ∀ j : Nat, (j : Int) < w o 9 0 → InR (w o 10 j)) : Mi l yX6_placeInList cX6_placeInList 3 (some .int) 0 0 G [.ref (gAd G o), .int (iI m)] w (fun z w2 => z = (pil (w o 10) m (w o 9 0).toNat (w o 9 0).toNat) ∧ w2 = w) := by
  refine mi_of (lv := [(0, .ref (gAd G o)), (1, .int (iI m))]) (by decide) (Nat.le_of_ble_eq_true rfl) rfl ?_
  intro p_ e_ s_ m_ b_ h_ c_ X
  refine g_iconst X dX6_placeInList_0 ?_
  refine g_istore_n (lv' := [(2, .int (iI 0)), (0, .ref (gAd G o)), (1, .int (iI m))]) X dX6_placeInList_1 rfl (by decide) rfl ?_
  refine g_lv (lv' := [(0, .ref (gAd G o)), (1, .int (iI m)), (2, .int (iI 0))]) [1, 2, 0] rfl ?_
  refine g_loop1 (fun (k : Int) => [(0, .ref (gAd G o)), (1, .int (iI m)), (2, .int (iI k))]) (fun (k : Int) => w) (fun (k : Int) => (0 ≤ k) ∧ (k ≤ w o 9 0) ∧ (pil (w o 10) m (w o 9 0).toNat (w o 9 0).toNat = pil (w o 10) m (w o 9 0).toNat (w o 9 0 - k).toNat)) (fun (k : Int) => (w o 9 0 - k).toNat) 0 ⟨(by first | omega | rfl | assumption), (by first | omega | rfl | assumption), (by rw [Int.sub_zero])⟩ ?_
  intro k hI_2 ih_2
  obtain ⟨h0, h1, hp⟩ := hI_2
  try dsimp only at ih_2 ⊢
  refine g_iload_n X dX6_placeInList_2 rfl 2 rfl ?_
  refine g_aload_n X dX6_placeInList_3 rfl 0 rfl ?_
  refine g_geti X ck_X6 ho 9 (by decide) fl_X6_68 (Or.inl rfl) dX6_placeInList_4 ?_
  refine g_icmp_ge (tgt := 34) X dX6_placeInList_7 (by decide) (by unfold InR; omega) (by unfold InR; omega) (fun c_7 => ?_) (fun c_7 => ?_)
  · skip
    refine g_bipush X dX6_placeInList_34 (by decide) ?_
    exact g_iret X rfl rfl dX6_placeInList_36 (by refine ⟨?_, rfl⟩; rw [hp, show (w o 9 0 - k).toNat = 0 by omega]; rfl)
  · skip
    refine g_iload_n X dX6_placeInList_10 rfl 2 rfl ?_
    refine g_bipush X dX6_placeInList_11 (by decide) ?_
    refine g_icmp_ge (tgt := 34) X dX6_placeInList_13 (by decide) (by unfold InR; omega) ⟨by decide, by decide⟩ (fun c_13 => ?_) (fun c_13 => ?_)
    · exact absurd c_13 (by omega) --dead
    · skip
      refine g_aload_n X dX6_placeInList_16 rfl 0 rfl ?_
      refine g_geta X ck_X6 ho 10 (by decide) fl_X6_15 rfl dX6_placeInList_17 ?_
      refine g_iload_n X dX6_placeInList_20 rfl 2 rfl ?_
      refine g_iald (a := k) X ho (by decide) (show fkX 6 10 = (1, 6) from rfl) (by decide) (by omega) (by omega) dX6_placeInList_21 ?_
      refine g_iload_n X dX6_placeInList_22 rfl 1 rfl ?_
      refine g_icmp_ne (tgt := 28) X dX6_placeInList_23 (by decide) (by exact hv _ (by omega)) (by exact hm) (fun c_23 => ?_) (fun c_23 => ?_)
      · skip
        refine g_iinc (j := 2) (lv' := [(2, .int (iI (k + 1))), (0, .ref (gAd G o)), (1, .int (iI m))]) X dX6_placeInList_28 rfl (by decide) rfl ?_
        refine g_goto (tgt := 2) X dX6_placeInList_31 (by decide) ?_
        refine g_lv (lv' := [(0, .ref (gAd G o)), (1, .int (iI m)), (2, .int (iI (k + 1)))]) [1, 2, 0] rfl ?_
        exact ih_2 (k + 1) ⟨(by first | omega | rfl | assumption), (by first | omega | rfl | assumption), (by rw [hp, show (w o 9 0 - k).toNat = (w o 9 0 - (k + 1)).toNat + 1 by omega, pil, if_neg]; rw [show (w o 9 0).toNat - ((w o 9 0 - (k + 1)).toNat + 1) = k.toNat by omega]; exact c_23)⟩ (by omega)
      · have c_23 := Classical.not_not.mp c_23
        refine g_iload_n X dX6_placeInList_26 rfl 2 rfl ?_
        exact g_iret X rfl rfl dX6_placeInList_27 (by refine ⟨?_, rfl⟩; rw [hp, show (w o 9 0 - k).toNat = (w o 9 0 - (k + 1)).toNat + 1 by omega, pil, show (w o 9 0).toNat - ((w o 9 0 - (k + 1)).toNat + 1) = k.toNat by omega, if_pos (by omega)]; omega)
end
section
/-! SHARES of a load: pure -/
/-- a share of the first k machines: those of the set within their bounds, the others nothing -/
def fea (pl : Nat → Nat → Int) (s : Int) (x : Nat → Int) (k : Nat) : Prop := ∀ m, m < k → (tb s m = 1 → pl 1 m ≤ x m ∧ x m ≤ pl 2 m) ∧ (tb s m = 0 → x m = 0)
/-- v is the least cost of a share of t by the first k machines -/
def BestC (pl : Nat → Nat → Int) (c : Nat → Int → Int) (s : Int) (k : Nat) (t v : Int) : Prop :=
  (∃ x, fea pl s x k ∧ sumN x k = t ∧ sumB s (fun m => c m (x m)) k = v) ∧ ∀ x, fea pl s x k → sumN x k = t → v ≤ sumB s (fun m => c m (x m)) k
theorem fea_sum {pl : Nat → Nat → Int} {s : Int} {x : Nat → Int} : ∀ {k : Nat}, fea pl s x k → sumB s (pl 1) k ≤ sumN x k ∧ sumN x k ≤ sumB s (pl 2) k
  | 0, _ => ⟨Int.le_refl _, Int.le_refl _⟩
  | k + 1, h => by
    obtain ⟨h1, h2⟩ := fea_sum (k := k) (fun m hm => h m (by omega))
    obtain ⟨h3, h4⟩ := h k (by omega)
    unfold sumB sumN
    rcases tb01 s k with q | q
    · rw [if_neg (by omega), if_neg (by omega), h4 q]; omega
    · rw [if_pos q, if_pos q]
      have := h3 q
      omega
theorem sumN_congr {f g : Nat → Int} : ∀ n : Nat, (∀ k, k < n → f k = g k) → sumN f n = sumN g n
  | 0, _ => rfl
  | n + 1, h => by
    unfold sumN
    rw [sumN_congr n (fun k hk => h k (by omega)), h n (by omega)]
theorem best_0 {pl : Nat → Nat → Int} {c : Nat → Int → Int} {s : Int} : BestC pl c s 0 0 0 :=
  ⟨⟨fun _ => 0, fun m hm => absurd hm (Nat.not_lt_zero _), rfl, rfl⟩, fun x _ _ => Int.le_refl _⟩
theorem best_skip {pl : Nat → Nat → Int} {c : Nat → Int → Int} {s : Int} {k : Nat} (hs : tb s k = 0) {t v : Int} (h : BestC pl c s k t v) : BestC pl c s (k + 1) t v := by
  obtain ⟨⟨x, h1, h2, h3⟩, h4⟩ := h
  have hn : ¬ tb s k = 1 := by omega
  refine ⟨⟨fup x k 0, fun m hm => ?_, ?_, ?_⟩, fun y hy ht => ?_⟩
  · by_cases e : m = k
    · subst e
      exact ⟨fun q => absurd q hn, fun _ => fup_at _ _ _⟩
    · rw [fup_ne e]
      exact h1 m (by omega)
  · unfold sumN
    rw [fup_at, sumN_congr (g := x) k (fun m hm => fup_ne (by omega)), h2, Int.add_zero]
  · unfold sumB
    rw [if_neg hn, sumB_congr (t := s) (g := fun m => c m (x m)) k (fun _ _ => rfl) (fun m hm _ => by rw [fup_ne (by omega)]), h3, Int.add_zero]
  · unfold sumB
    rw [if_neg hn, Int.add_zero]
    refine h4 y (fun m hm => hy m (by omega)) ?_
    have := (hy k (by omega)).2 hs
    unfold sumN at ht
    omega
theorem best_add {pl : Nat → Nat → Int} {c : Nat → Int → Int} {s : Int} {k : Nat} (hs : tb s k = 1) {t v x0 x1 : Int} {A : Int → Int}
    (hb : ∀ x, x0 ≤ x → x ≤ x1 → BestC pl c s k (t - x) (A (t - x))) (h0 : pl 1 k ≤ x0) (h1 : x1 ≤ pl 2 k)
    (hcov : ∀ x, pl 1 k ≤ x → x ≤ pl 2 k → sumB s (pl 1) k ≤ t - x → t - x ≤ sumB s (pl 2) k → x0 ≤ x ∧ x ≤ x1)
    (hv : ∃ x, x0 ≤ x ∧ x ≤ x1 ∧ v = A (t - x) + c k x) (hm : ∀ x, x0 ≤ x → x ≤ x1 → v ≤ A (t - x) + c k x) : BestC pl c s (k + 1) t v := by
  obtain ⟨x, g0, g1, rfl⟩ := hv
  obtain ⟨⟨y, b1, b2, b3⟩, -⟩ := hb x g0 g1
  refine ⟨⟨fup y k x, fun m hm => ?_, ?_, ?_⟩, fun z hz ht => ?_⟩
  · by_cases e : m = k
    · subst e
      rw [fup_at]
      exact ⟨fun _ => ⟨by omega, by omega⟩, fun q => by omega⟩
    · rw [fup_ne e]
      exact b1 m (by omega)
  · unfold sumN
    rw [fup_at, sumN_congr (g := y) k (fun m hm => fup_ne (by omega)), b2]
    omega
  · unfold sumB
    rw [if_pos hs, fup_at, sumB_congr (t := s) (g := fun m => c m (y m)) k (fun _ _ => rfl) (fun m hm _ => by rw [fup_ne (by omega)]), b3]
  · have hzk := (hz k (by omega)).1 hs
    have hzl : fea pl s z k := fun m hm => hz m (by omega)
    have hsum := fea_sum hzl
    have hz2 : sumN z k = t - z k := by
      unfold sumN at ht
      omega
    obtain ⟨c0, c1⟩ := hcov (z k) hzk.1 hzk.2 (by omega) (by omega)
    have h5 := (hb (z k) c0 c1).2 z hzl hz2
    have h6 := hm (z k) c0 c1
    unfold sumB
    rw [if_pos hs]
    omega
/-- power of a machine at a load -/
def pwX (pl : Nat → Nat → Int) (lift : Int) (m : Nat) (x : Int) : Int := pl 3 m + (((100 * pl 4 m + pl 5 m * x) * x) * (60 + lift)) / 10000
theorem mulb {a b A B : Int} (ha : 0 ≤ a) (ha2 : a ≤ A) (hb : 0 ≤ b) (hb2 : b ≤ B) : 0 ≤ a * b ∧ a * b ≤ A * B :=
  ⟨Int.mul_nonneg ha hb, Int.mul_le_mul ha2 hb2 hb (by omega)⟩
theorem pw_in {pl : Nat → Nat → Int} (h : PV pl) {m : Nat} (hm : (m : Int) < pl 0 0) {x lift : Int} (hx : 0 ≤ x ∧ x ≤ 99) (hl : 0 ≤ lift ∧ lift ≤ 45) :
    0 ≤ ((100 * pl 4 m + pl 5 m * x) * x) * (60 + lift) ∧ ((100 * pl 4 m + pl 5 m * x) * x) * (60 + lift) ≤ 204791895 := by
  have q := h.2.1 m hm
  have a1 := mulb (a := pl 5 m) (b := x) (A := 99) (B := 99) (by omega) (by omega) hx.1 hx.2
  have a2 := mulb (a := 100 * pl 4 m + pl 5 m * x) (b := x) (A := 19701) (B := 99) (by omega) (by omega) hx.1 hx.2
  have a3 := mulb (a := (100 * pl 4 m + pl 5 m * x) * x) (b := 60 + lift) (A := 1950399) (B := 105) (by omega) (by omega) (by omega) (by omega)
  omega
theorem pw_jdiv {pl : Nat → Nat → Int} (h : PV pl) {m : Nat} (hm : (m : Int) < pl 0 0) {x lift : Int} (hx : 0 ≤ x ∧ x ≤ 99) (hl : 0 ≤ lift ∧ lift ≤ 45) :
    pl 3 m + jdiv ((((100 * (pl 4 m)) + ((pl 5 m) * x)) * x) * (60 + lift)) 10000 = pwX pl lift m x := by
  have q := pw_in h hm hx hl
  unfold pwX
  rw [jdiv_pos (by unfold InR; omega) q.1 (by decide) (by decide)]
theorem pw_rng {pl : Nat → Nat → Int} (h : PV pl) {m : Nat} (hm : (m : Int) < pl 0 0) {x lift : Int} (hx : 0 ≤ x ∧ x ≤ 99) (hl : 0 ≤ lift ∧ lift ≤ 45) : 0 ≤ pwX pl lift m x ∧ pwX pl lift m x ≤ 20578 := by
  have q := pw_in h hm hx hl
  have q2 := h.2.1 m hm
  unfold pwX
  omega
/-- the packed number of a machine's part -/
def pkX (pl : Nat → Nat → Int) (lift : Int) (m : Nat) (x : Int) : Int := pwX pl lift m x * 4398046511104 + x * 2 ^ (7 * (5 - m))
theorem sh63 {b : Int} (hb : 0 ≤ b) (hb2 : b < 64) : (((iI b).toInt64 &&& 63).toBitVec.smod (64 : BitVec 64)).toNat = b.toNat :=
  fin1 (P := fun b => (((iI b).toInt64 &&& 63).toBitVec.smod (64 : BitVec 64)).toNat = b.toNat) (by decide +kernel) hb hb2
theorem lshl_eq {a b : Int} (ha : 0 ≤ a) (hb : 0 ≤ b) (hb2 : b < 64) (ha2 : a < 9223372036854775808) (h : a * 2 ^ b.toNat < 9223372036854775808) : lshl a b = a * 2 ^ b.toNat := by
  have h0 : 0 ≤ a * 2 ^ b.toNat := Int.mul_nonneg ha (Int.le_of_lt (Int.pow_pos (by decide)))
  show ((lI a).toBitVec <<< (((iI b).toInt64 &&& 63).toBitVec.smod (64 : BitVec 64))).toInt = _
  rw [BitVec.shiftLeft_eq', BitVec.toInt_shiftLeft, sh63 hb hb2]
  have e : (lI a).toBitVec.toNat = a.toNat := by
    show (BitVec.ofInt 64 a).toNat = _
    rw [BitVec.toNat_ofInt, Int.emod_eq_of_lt ha (by simp; omega)]
  rw [e]
  have e2 : ((a.toNat <<< b.toNat : Nat) : Int) = a * 2 ^ b.toNat := by
    rw [Nat.shiftLeft_eq, Int.natCast_mul, show ((a.toNat : Nat) : Int) = a by omega]
    simp
  rw [e2, Int.bmod_eq_of_le (by simp; omega) (by simp; omega)]
theorem lshr_eq {a b : Int} (ha : InL a) (hb : 0 ≤ b) (hb2 : b < 64) : lshr a b = a / 2 ^ b.toNat := by
  show ((lI a).toBitVec.sshiftRight' (((iI b).toInt64 &&& 63).toBitVec.smod (64 : BitVec 64))).toInt = _
  rw [BitVec.toInt_sshiftRight', sh63 hb hb2, Int.shiftRight_eq_div_pow]
  have e : (lI a).toBitVec.toInt = a := lI_to ha
  rw [e]
  simp
theorem l2j_and {a : Int} (ha : 0 ≤ a) : band (l2j a) 127 = a % 128 := by
  show ((iI (l2j a)).toBitVec &&& (iI 127).toBitVec).toInt = _
  rw [BitVec.toInt_and]
  have e1 : (iI (l2j a)).toBitVec.toNat = (a % 4294967296).toNat := by
    rw [show iI (l2j a) = (lI a).toInt32 from iI_of _, show (lI a).toInt32 = iI a from Int64.toInt32_ofInt]
    show (BitVec.ofInt 32 a).toNat = _
    rw [BitVec.toNat_ofInt]
    rfl
  have e2 : (iI 127).toBitVec.toNat = 2 ^ 7 - 1 := rfl
  rw [e1, e2]
  have e3 : ((a % 4294967296).toNat &&& (2 ^ 7 - 1)) = (a % 4294967296).toNat % 2 ^ 7 := Nat.and_two_pow_sub_one_eq_mod _ _
  rw [e3]
  have e5 : (((a % 4294967296).toNat % 2 ^ 7 : Nat) : Int) = a % 128 := by omega
  rw [e5, Int.bmod_eq_of_le (by simp; omega) (by simp; omega)]
end
section
theorem sumB_s (s : Int) (f : Nat → Int) (k : Nat) : sumB s f (k + 1) = sumB s f k + (if tb s k = 1 then f k else 0) := rfl
theorem sumB_in {s : Int} {f : Nat → Int} {k : Nat} (h : tb s k = 1) : sumB s f (k + 1) = sumB s f k + f k := by rw [sumB_s, if_pos h]
theorem sumB_out {s : Int} {f : Nat → Int} {k : Nat} (h : tb s k = 0) : sumB s f (k + 1) = sumB s f k := by rw [sumB_s, if_neg (by omega), Int.add_zero]
def rowU (g : Nat → Int) (a b : Int) (c : Nat → Int) : Nat → Int := fun j => if a ≤ (j : Int) ∧ (j : Int) < b then c j else g j
theorem rowU_0 (g : Nat → Int) (a : Int) (c : Nat → Int) : rowU g a a c = g := by
  funext j
  exact if_neg (by omega)
theorem rowU_suc (g : Nat → Int) {a b : Int} (c : Nat → Int) (h : a ≤ b) (h0 : 0 ≤ b) : fup (rowU g a b c) b.toNat (c b.toNat) = rowU g a (b + 1) c := by
  funext j
  unfold fup rowU
  by_cases e : j = b.toNat
  · rw [if_pos e, if_pos (by omega), e]
  · rw [if_neg e]
    by_cases e2 : a ≤ (j : Int) ∧ (j : Int) < b
    · rw [if_pos e2, if_pos (by omega)]
    · rw [if_neg e2, if_neg (by omega)]
theorem rowU_in {g : Nat → Int} {a b x : Int} {c : Nat → Int} (h0 : 0 ≤ x) (h1 : a ≤ x) (h2 : x < b) : rowU g a b c x.toNat = c x.toNat := if_pos (by omega)
theorem p2s : ∀ m : Nat, m < 6 → 1 ≤ (2 : Int) ^ (7 * (5 - m)) ∧ (2 : Int) ^ (7 * (5 - m)) ≤ 34359738368 := by decide +kernel
theorem pk_rng {pl : Nat → Nat → Int} (h : PV pl) {m : Nat} (hm : (m : Int) < pl 0 0) {x lift : Int} (hx : 0 ≤ x ∧ x ≤ 99) (hl : 0 ≤ lift ∧ lift ≤ 45) : 0 ≤ pkX pl lift m x ∧ pkX pl lift m x ≤ 90506405999919104 ∧ x * 2 ^ (7 * (5 - m)) ≤ 3401614098432 := by
  have q := pw_rng h hm hx hl
  have q2 := p2s m (by have := h.1.2; omega)
  have q3 := mulb (a := x) (b := 2 ^ (7 * (5 - m))) (A := 99) (B := 34359738368) hx.1 hx.2 (by omega) q2.2
  unfold pkX
  omega
theorem best_rng {pl : Nat → Nat → Int} (h : PV pl) {s lift t v : Int} (hl : 0 ≤ lift ∧ lift ≤ 45) {k : Nat} (hk : (k : Int) ≤ pl 0 0) (hb : BestC pl (pkX pl lift) s k t v) : 0 ≤ v ∧ v ≤ 543038435999514624 := by
  obtain ⟨⟨x, h1, -, rfl⟩, -⟩ := hb
  have q := sumB_le (s := s) (f := fun m => pkX pl lift m (x m)) (B := 90506405999919104) k (fun m hm => by
    have hm2 : (m : Int) < pl 0 0 := by omega
    have h3 := h1 m hm
    have h4 := h.2.1 m hm2
    have hx : 0 ≤ x m ∧ x m ≤ 99 := by
      rcases tb01 s m with e | e
      · rw [h3.2 e]; omega
      · have := h3.1 e; omega
    have := pk_rng h hm2 hx hl
    exact ⟨this.1, this.2.1⟩)
  have h6 := h.1.2
  omega
theorem sumB_later {s later : Int} {m : Nat} (hl : ∀ k, k < 6 → tb later k = if k ≤ m then 0 else tb s k) (f : Nat → Int) : ∀ n : Nat, n ≤ 6 → m + 1 ≤ n → sumB later f n = sumB s f n - sumB s f (m + 1) := by
  have low : ∀ n : Nat, n ≤ m + 1 → n ≤ 6 → sumB later f n = 0 := by
    intro n
    induction n with
    | zero => intro _ _; rfl
    | succ n ih =>
      intro h1 h2
      rw [sumB_out (by rw [hl n (by omega), if_pos (by omega)]), ih (by omega) (by omega)]
  intro n
  induction n with
  | zero => intro _ h; omega
  | succ n ih =>
    intro h1 h2
    by_cases e : m + 1 = n + 1
    · have e2 : m = n := by omega
      subst e2
      rw [low (m + 1) (by omega) h1]
      omega
    · have h3 := ih (by omega) (by omega)
      have e1 : sumB later f (n + 1) = sumB later f n + (if tb later n = 1 then f n else 0) := rfl
      have e2 : sumB s f (n + 1) = sumB s f n + (if tb s n = 1 then f n else 0) := rfl
      rw [e1, e2, h3, hl n (by omega), if_neg (by omega : ¬ n ≤ m)]
      omega
/-- the loads that the first k machines may make together, so that the rest can make what is left -/
def lowK (pl : Nat → Nat → Int) (s load : Int) (k : Nat) : Int := max (sumB s (pl 1) k) (load - (sumB s (pl 2) (pl 0 0).toNat - sumB s (pl 2) k))
def highK (pl : Nat → Nat → Int) (s load : Int) (k : Nat) : Int := min (sumB s (pl 2) k) (load - (sumB s (pl 1) (pl 0 0).toNat - sumB s (pl 1) k))
/-- what the row of sums holds behind k machines -/
def ShI (pl u : Nat → Nat → Int) (k : Nat) : Prop := u 7 0 = lowK pl (u 4 0) (u 5 0) k ∧ u 8 0 = highK pl (u 4 0) (u 5 0) k ∧ ∀ t : Int, lowK pl (u 4 0) (u 5 0) k ≤ t → t ≤ highK pl (u 4 0) (u 5 0) k → BestC pl (pkX pl (u 6 0)) (u 4 0) k t (u 1 t.toNat)
theorem sumB_lt {s : Int} {f g : Nat → Int} : ∀ n : Nat, (∀ j, j < n → f j ≤ g j) → sumB s f n ≤ sumB s g n
  | 0, _ => Int.le_refl _
  | n + 1, h => by
    have h1 := sumB_lt (s := s) n (fun j hj => h j (by omega))
    have h2 := h n (by omega)
    unfold sumB
    split <;> omega
theorem sumB_mono {s : Int} {f g : Nat → Int} (k : Nat) : ∀ n : Nat, k ≤ n → (∀ j, j < n → 0 ≤ f j ∧ f j ≤ g j) → sumB s f k ≤ sumB s f n ∧ sumB s g k - sumB s f k ≤ sumB s g n - sumB s f n := by
  intro n
  induction n with
  | zero =>
    intro h _
    have : k = 0 := by omega
    subst this
    exact ⟨Int.le_refl _, Int.le_refl _⟩
  | succ n ih =>
    intro h hf
    by_cases e : k = n + 1
    · subst e
      exact ⟨Int.le_refl _, Int.le_refl _⟩
    · obtain ⟨h1, h2⟩ := ih (by omega) (fun j hj => hf j (by omega))
      have h4 := hf n (by omega)
      have e1 : sumB s f (n + 1) = sumB s f n + (if tb s n = 1 then f n else 0) := rfl
      have e2 : sumB s g (n + 1) = sumB s g n + (if tb s n = 1 then g n else 0) := rfl
      rw [e1, e2]
      split <;> omega
theorem win_in {pl : Nat → Nat → Int} (h : PV pl) {s load : Int} (h1 : sumB s (pl 1) (pl 0 0).toNat ≤ load) (h2 : load ≤ sumB s (pl 2) (pl 0 0).toNat) {k : Nat} (hk : k ≤ (pl 0 0).toNat) :
    0 ≤ lowK pl s load k ∧ lowK pl s load k ≤ highK pl s load k ∧ highK pl s load k ≤ 480 := by
  have hb : ∀ j, j < (pl 0 0).toNat → 0 ≤ pl 1 j ∧ pl 1 j ≤ pl 2 j := fun j hj => by have := h.2.1 j (by omega); omega
  have a1 := sumB_mono (s := s) (f := pl 1) (g := pl 2) k _ hk hb
  have a2 := sumB_lt (s := s) (f := pl 1) (g := pl 2) k (fun j hj => (hb j (by omega)).2)
  have a3 := sumB_le (s := s) (f := pl 1) (B := 40) k (fun j hj => by have := h.2.1 j (by omega); omega)
  have a4 := sumB_le (s := s) (f := pl 2) (B := 80) k (fun j hj => by have := h.2.1 j (by omega); omega)
  have := h.1.2
  unfold lowK highK
  omega
theorem win_0 {pl : Nat → Nat → Int} {s load : Int} (h1 : sumB s (pl 1) (pl 0 0).toNat ≤ load) (h2 : load ≤ sumB s (pl 2) (pl 0 0).toNat) : lowK pl s load 0 = 0 ∧ highK pl s load 0 = 0 := by
  have e1 : sumB s (pl 1) 0 = 0 := rfl
  have e2 : sumB s (pl 2) 0 = 0 := rfl
  unfold lowK highK
  rw [e1, e2]
  omega
theorem win_skip {pl : Nat → Nat → Int} {s load : Int} {k : Nat} (hs : tb s k = 0) : lowK pl s load (k + 1) = lowK pl s load k ∧ highK pl s load (k + 1) = highK pl s load k := by
  have e1 : sumB s (pl 1) (k + 1) = sumB s (pl 1) k := sumB_out hs
  have e2 : sumB s (pl 2) (k + 1) = sumB s (pl 2) k := sumB_out hs
  unfold lowK highK
  rw [e1, e2]
  exact ⟨rfl, rfl⟩
theorem win_add {pl : Nat → Nat → Int} {s load : Int} {k : Nat} (hs : tb s k = 1) (hL : pl 1 k ≤ pl 2 k) :
    lowK pl s load (k + 1) = max (lowK pl s load k + pl 1 k) (load - (sumB s (pl 2) (pl 0 0).toNat - sumB s (pl 2) (k + 1))) ∧ highK pl s load (k + 1) = min (highK pl s load k + pl 2 k) (load - (sumB s (pl 1) (pl 0 0).toNat - sumB s (pl 1) (k + 1))) := by
  have e1 : sumB s (pl 1) (k + 1) = sumB s (pl 1) k + pl 1 k := sumB_in hs
  have e2 : sumB s (pl 2) (k + 1) = sumB s (pl 2) k + pl 2 k := sumB_in hs
  unfold lowK highK
  rw [e1, e2]
  omega
/-- within the window of k + 1 machines no share of the first k is lost -/
theorem win_cov {pl : Nat → Nat → Int} {s load t : Int} {k : Nat} (hs : tb s k = 1) (h1 : lowK pl s load (k + 1) ≤ t) (h2 : t ≤ highK pl s load (k + 1)) :
    ∀ x, pl 1 k ≤ x → x ≤ pl 2 k → sumB s (pl 1) k ≤ t - x → t - x ≤ sumB s (pl 2) k → max (pl 1 k) (t - highK pl s load k) ≤ x ∧ x ≤ min (pl 2 k) (t - lowK pl s load k) := by
  have e1 : sumB s (pl 1) (k + 1) = sumB s (pl 1) k + pl 1 k := sumB_in hs
  have e2 : sumB s (pl 2) (k + 1) = sumB s (pl 2) k + pl 2 k := sumB_in hs
  intro x a b c d
  unfold lowK highK at *
  rw [e1, e2] at h1 h2
  omega
/-- there is a part for every load of the window -/
theorem win_ex {pl : Nat → Nat → Int} {s load t : Int} {k : Nat} (h : PV pl) (hk : k < (pl 0 0).toNat) (h3 : sumB s (pl 1) (pl 0 0).toNat ≤ load) (h4 : load ≤ sumB s (pl 2) (pl 0 0).toNat) (hs : tb s k = 1) (h1 : lowK pl s load (k + 1) ≤ t) (h2 : t ≤ highK pl s load (k + 1)) :
    max (pl 1 k) (t - highK pl s load k) ≤ min (pl 2 k) (t - lowK pl s load k) := by
  have w := win_in h h3 h4 (k := k) (by omega)
  have q := h.2.1 k (by omega)
  obtain ⟨a1, a2⟩ := win_add (load := load) hs (by omega : pl 1 k ≤ pl 2 k)
  rw [a1] at h1
  rw [a2] at h2
  omega
end
section
set_option maxHeartbeats 4000000 in
set_option maxRecDepth 100000 in
theorem c_X2_can (l : Launch) (G : Ly) (o : Nat) (set : Int) (load : Int) (w : Wd) (ho : gOb G o = some 2) (hset : 0 ≤ set ∧ set < 64) (hp : PV (w o)) (hload : InR load) : Mi l yX2_can cX2_can 3 (some .boolean) 2 45 G [.ref (gAd G o), .int (iI set), .int (iI load)] w (fun z w2 => z = (if sumB set (w o 1) (w o 0 0).toNat ≤ load ∧ load ≤ sumB set (w o 2) (w o 0 0).toNat then 1 else 0) ∧ w2 = w) := by
  refine mi_of (lv := [(0, .ref (gAd G o)), (1, .int (iI set)), (2, .int (iI load))]) (by decide) (Nat.le_of_ble_eq_true rfl) rfl ?_
  intro p_ e_ s_ m_ b_ h_ c_ X
  have q1 := pv_least hp set
  have q2 := pv_most hp set
  have q3 := hp.1
  refine g_aload_n X dX2_can_0 rfl 0 rfl ?_
  refine g_iload_n X dX2_can_1 rfl 1 rfl ?_
  refine g_calli (st := []) X (c_X2_leasts l G o set w ho (by first | assumption | omega | (unfold InR; omega)) (by first | assumption | omega | (unfold InR; omega))) cm_X2_leasts im_X2_leasts se_X2_leasts ml_X2_62 ck_X2 ho ⟨Nat.le_of_ble_eq_true rfl, Nat.le_of_ble_eq_true rfl⟩ rfl rfl (Nat.le_of_ble_eq_true rfl) dX2_can_2 (fn_i ?_)
  refine g_iload_n X dX2_can_5 rfl 2 rfl ?_
  refine g_icmp_gt (tgt := 22) X dX2_can_6 (by decide) (by unfold InR; omega) (by exact hload) (fun c_6 => ?_) (fun c_6 => ?_)
  · skip
    refine g_iconst X dX2_can_22 ?_
    exact g_iret X rfl (by decide) dX2_can_23 (by first | exact ⟨by rw [if_pos (by omega)], rfl⟩ | exact ⟨by rw [if_neg (by omega)], rfl⟩)
  · skip
    refine g_iload_n X dX2_can_9 rfl 2 rfl ?_
    refine g_aload_n X dX2_can_10 rfl 0 rfl ?_
    refine g_iload_n X dX2_can_11 rfl 1 rfl ?_
    refine g_calli (st := [.int (iI load)]) X (c_X2_mosts l G o set w ho (by first | assumption | omega | (unfold InR; omega)) (by first | assumption | omega | (unfold InR; omega))) cm_X2_mosts im_X2_mosts se_X2_mosts ml_X2_66 ck_X2 ho ⟨Nat.le_of_ble_eq_true rfl, Nat.le_of_ble_eq_true rfl⟩ rfl rfl (Nat.le_of_ble_eq_true rfl) dX2_can_12 (fn_i ?_)
    refine g_icmp_gt (tgt := 22) X dX2_can_15 (by decide) (by exact hload) (by unfold InR; omega) (fun c_15 => ?_) (fun c_15 => ?_)
    · skip
      refine g_iconst X dX2_can_22 ?_
      exact g_iret X rfl (by decide) dX2_can_23 (by first | exact ⟨by rw [if_pos (by omega)], rfl⟩ | exact ⟨by rw [if_neg (by omega)], rfl⟩)
    · skip
      refine g_iconst X dX2_can_18 ?_
      refine g_goto (tgt := 23) X dX2_can_19 (by decide) ?_
      exact g_iret X rfl (by decide) dX2_can_23 (by first | exact ⟨by rw [if_pos (by omega)], rfl⟩ | exact ⟨by rw [if_neg (by omega)], rfl⟩)
set_option maxHeartbeats 4000000 in
set_option maxRecDepth 100000 in
theorem c_X4_forget (l : Launch) (G : Ly) (o : Nat) (w : Wd) (ho : gOb G o = some 4) : Mv l yX4_forget cX4_forget 1 none 0 0 G [.ref (gAd G o)] w (fun w2 => w2 = up w o 3 0 0) := by
  refine mv_of (lv := [(0, .ref (gAd G o))]) (by decide) (Nat.le_of_ble_eq_true rfl) rfl ?_
  intro p_ e_ s_ m_ b_ h_ c_ X
  refine g_aload_n X dX4_forget_0 rfl 0 rfl ?_
  refine g_iconst X dX4_forget_1 ?_
  refine g_putf X ck_X4 ho 3 (by decide) fl_X4_22 (Or.inr rfl) rfl (by decide) (by decide) dX4_forget_2 ?_
  obtain ⟨w_1, ew_1⟩ : ∃ q_ : Wd, q_ = up w o 3 0 0 := ⟨_, rfl⟩
  refine g_w (w' := w_1) ew_1 ?_
  exact g_vret X rfl dX4_forget_5 (by exact ew_1)
set_option maxHeartbeats 4000000 in
set_option maxRecDepth 100000 in
theorem c_X4_shiftOf (l : Launch) (G : Ly) (m : Int) (w : Wd) : Mi l yX4_shiftOf cX4_shiftOf 1 (some .int) 0 0 G [.int (iI m)] w (fun z w2 => z = (7 * (5 - m)) ∧ w2 = w) := by
  refine mi_of (lv := [(0, .int (iI m))]) (by decide) (Nat.le_of_ble_eq_true rfl) rfl ?_
  intro p_ e_ s_ m_ b_ h_ c_ X
  refine g_bipush X dX4_shiftOf_0 (by decide) ?_
  refine g_iconst X dX4_shiftOf_2 ?_
  refine g_iload_n X dX4_shiftOf_3 rfl 0 rfl ?_
  refine g_isub X dX4_shiftOf_4 ?_
  refine g_imul X dX4_shiftOf_5 ?_
  exact g_iret X rfl rfl dX4_shiftOf_6 (by first | exact ⟨rfl, rfl⟩ | rfl | omega)
set_option maxHeartbeats 4000000 in
set_option maxRecDepth 100000 in
theorem c_X4_fillRow (l : Launch) (G : Ly) (o : Nat) (m : Int) (w : Wd) (ho : gOb G o = some 4) (h2 : gOb G 2 = some 2) (hlk : gLk G o 0 = 2) (hne : o ≠ 2) (hp : PV (w 2)) (hm : 0 ≤ m ∧ m < w 2 0 0) (hlift : 0 ≤ w o 6 0 ∧ w o 6 0 ≤ 45) : Mv l yX4_fillRow cX4_fillRow 3 none 1 23 G [.ref (gAd G o), .int (iI m)] w (fun w2 => w2 = upA w o 2 (rowU (w o 2) (w 2 1 m.toNat) (w 2 2 m.toNat + 1) (fun j => pkX (w 2) (w o 6 0) m.toNat j))) := by
  refine mv_of (lv := [(0, .ref (gAd G o)), (1, .int (iI m))]) (by decide) (Nat.le_of_ble_eq_true rfl) rfl ?_
  intro p_ e_ s_ m_ b_ h_ c_ X
  have hpm := hp.2.1 m.toNat (by omega)
  have hp0 := hp.1
  refine g_aload_n X dX4_fillRow_0 rfl 0 rfl ?_
  refine g_geto (o' := 2) X ck_X4 ho 0 (by decide) fl_X4_18 rfl hlk dX4_fillRow_1 ?_
  refine g_geta X ck_X2 h2 1 (by decide) fl_X4_67 rfl dX4_fillRow_4 ?_
  refine g_iload_n X dX4_fillRow_7 rfl 1 rfl ?_
  refine g_iald (a := m) X h2 (by decide) (show fkX 2 1 = (1, 6) from rfl) (by decide) (by omega) (by omega) dX4_fillRow_8 ?_
  refine g_istore_n (lv' := [(2, .int (iI (w 2 1 (m).toNat))), (0, .ref (gAd G o)), (1, .int (iI m))]) X dX4_fillRow_9 rfl (by decide) rfl ?_
  refine g_lv (lv' := [(0, .ref (gAd G o)), (1, .int (iI m)), (2, .int (iI (w 2 1 (m).toNat)))]) [1, 2, 0] rfl ?_
  refine g_loop2 (fun (x : Int) (w1 : Wd) => [(0, .ref (gAd G o)), (1, .int (iI m)), (2, .int (iI x))]) (fun (x : Int) (w1 : Wd) => w1) (fun (x : Int) (w1 : Wd) => (w 2 1 m.toNat ≤ x) ∧ (x ≤ w 2 2 m.toNat + 1) ∧ (w1 = upA w o 2 (rowU (w o 2) (w 2 1 m.toNat) (x) (fun j => pkX (w 2) (w o 6 0) m.toNat j)))) (fun (x : Int) (w1 : Wd) => (w 2 2 m.toNat + 1 - x).toNat) (w 2 1 (m).toNat) w ⟨(by first | omega | rfl | assumption), (by first | omega | rfl | assumption), (by rw [rowU_0, upA_self])⟩ ?_
  intro x w1 hI_10 ih_10
  obtain ⟨h0, h1, hw⟩ := hI_10
  try dsimp only at ih_10 ⊢
  have q2 : w1 2 = w 2 := by rw [hw]; funext f; exact upA_ne (fun z => hne z.1.symm)
  have q6 : w1 o 6 0 = w o 6 0 := by rw [hw]; exact upA_nej (fun z => absurd z.2 (by decide))
  have qm : w1 2 2 m.toNat = w 2 2 m.toNat := by rw [q2]
  have qr := pw_rng hp (m := m.toNat) (by omega) (x := x) (lift := w o 6 0)
  have qk := pk_rng hp (m := m.toNat) (by omega) (x := x) (lift := w o 6 0)
  refine g_iload_n X dX4_fillRow_10 rfl 2 rfl ?_
  refine g_aload_n X dX4_fillRow_11 rfl 0 rfl ?_
  refine g_geto (o' := 2) X ck_X4 ho 0 (by decide) fl_X4_18 rfl hlk dX4_fillRow_12 ?_
  refine g_geta X ck_X2 h2 2 (by decide) fl_X4_79 rfl dX4_fillRow_15 ?_
  refine g_iload_n X dX4_fillRow_18 rfl 1 rfl ?_
  refine g_iald (a := m) X h2 (by decide) (show fkX 2 2 = (1, 6) from rfl) (by decide) (by omega) (by omega) dX4_fillRow_19 ?_
  refine g_icmp_gt (tgt := 60) X dX4_fillRow_20 (by decide) (by unfold InR; omega) (by unfold InR; omega) (fun c_20 => ?_) (fun c_20 => ?_)
  · skip
    exact g_vret X rfl dX4_fillRow_60 (by rw [hw, show x = w 2 2 m.toNat + 1 by omega])
  · skip
    refine g_aload_n X dX4_fillRow_23 rfl 0 rfl ?_
    refine g_geta X ck_X4 ho 2 (by decide) fl_X4_15 rfl dX4_fillRow_24 ?_
    refine g_iload_n X dX4_fillRow_27 rfl 2 rfl ?_
    refine g_aload_n X dX4_fillRow_28 rfl 0 rfl ?_
    refine g_geto (o' := 2) X ck_X4 ho 0 (by decide) fl_X4_18 rfl hlk dX4_fillRow_29 ?_
    refine g_iload_n X dX4_fillRow_32 rfl 1 rfl ?_
    refine g_iload_n X dX4_fillRow_33 rfl 2 rfl ?_
    refine g_aload_n X dX4_fillRow_34 rfl 0 rfl ?_
    refine g_geti X ck_X4 ho 6 (by decide) fl_X4_33 (Or.inl rfl) dX4_fillRow_35 ?_
    refine g_calli (st := [.int (iI x), .ref (gAr G o 2)]) X (c_X2_powerAt l G 2 m x (w1 o 6 0) w1 h2 (by first | assumption | omega | (unfold InR; omega))) cm_X2_powerAt im_X2_powerAt se_X2_powerAt ml_X4_92 ck_X2 h2 ⟨Nat.le_of_ble_eq_true rfl, Nat.le_of_ble_eq_true rfl⟩ rfl rfl (Nat.le_of_ble_eq_true rfl) dX4_fillRow_38 (fn_i ?_)
    rw [show w1 2 3 m.toNat + jdiv (((((100 * (w1 2 4 m.toNat)) + ((w1 2 5 m.toNat) * x)) * x) * (60 + (w1 o 6 0)))) 10000 = pwX (w 2) (w o 6 0) m.toNat x from (by rw [q6, q2]; exact pw_jdiv hp (by omega) ⟨by omega, by omega⟩ hlift)]
    refine g_i2l X dX4_fillRow_41 ?_
    rw [show j2l (pwX (w 2) (w o 6 0) m.toNat x) = pwX (w 2) (w o 6 0) m.toNat x from (j2l_eq (by have := qr ⟨by omega, by omega⟩ hlift; unfold InR; omega))]
    refine g_bipush X dX4_fillRow_42 (by decide) ?_
    refine g_lshl X dX4_fillRow_44 ?_
    rw [show lshl (pwX (w 2) (w o 6 0) m.toNat x) 42 = pwX (w 2) (w o 6 0) m.toNat x * 4398046511104 from (by have := qr ⟨by omega, by omega⟩ hlift; rw [lshl_eq (by omega) (by decide) (by decide) (by omega) (by show _ * (4398046511104 : Int) < _; omega)]; rfl)]
    refine g_iload_n X dX4_fillRow_45 rfl 2 rfl ?_
    refine g_i2l X dX4_fillRow_46 ?_
    rw [show j2l x = x from (j2l_eq (by unfold InR; omega))]
    refine g_iload_n X dX4_fillRow_47 rfl 1 rfl ?_
    refine g_callsi (st := [.long (lI x), .long (lI (pwX (w 2) (w o 6 0) m.toNat x * 4398046511104)), .int (iI x), .ref (gAr G o 2)]) X (c_X4_shiftOf l G m w1) cm_X4_shiftOf sm_X4_shiftOf ml_X4_59 ⟨Nat.le_of_ble_eq_true rfl, Nat.le_of_ble_eq_true rfl⟩ rfl rfl (Nat.le_of_ble_eq_true rfl) dX4_fillRow_48 (fn_i ?_)
    refine g_lshl X dX4_fillRow_51 ?_
    rw [show lshl x (7 * (5 - m)) = x * 2 ^ (7 * (5 - m.toNat)) from (by have := (qk ⟨by omega, by omega⟩ hlift).2.2; have e : (7 * (5 - m)).toNat = 7 * (5 - m.toNat) := (by omega); rw [lshl_eq (by omega) (by omega) (by omega) (by omega) (by rw [e]; omega), e])]
    refine g_ladd X dX4_fillRow_52 ?_
    refine g_last (a := x) X ho (by decide) (show fkX 4 2 = (2, 81) from rfl) (by decide) (by omega) (by omega) dX4_fillRow_53 ?_
    obtain ⟨w_1, ew_1⟩ : ∃ q_ : Wd, q_ = up w1 o 2 (x).toNat ((pwX (w 2) (w o 6 0) m.toNat x * 4398046511104) + (x * 2 ^ (7 * (5 - m.toNat)))) := ⟨_, rfl⟩
    refine g_w (w' := w_1) ew_1 ?_
    refine g_iinc (j := 2) (lv' := [(2, .int (iI (x + 1))), (0, .ref (gAd G o)), (1, .int (iI m))]) X dX4_fillRow_54 rfl (by decide) rfl ?_
    refine g_goto (tgt := 10) X dX4_fillRow_57 (by decide) ?_
    refine g_lv (lv' := [(0, .ref (gAd G o)), (1, .int (iI m)), (2, .int (iI (x + 1)))]) [1, 2, 0] rfl ?_
    exact ih_10 (x + 1) w_1 ⟨(by first | omega | rfl | assumption), (by first | omega | rfl | assumption), (by rw [ew_1, hw, up_upA, ← rowU_suc _ _ h0 (by omega)]; show _ = upA w o 2 (fup _ _ (pkX _ _ _ ((x.toNat : Nat) : Int))); rw [show ((x.toNat : Nat) : Int) = x by omega]; rfl)⟩ (by omega)
set_option maxHeartbeats 4000000 in
set_option maxRecDepth 100000 in
theorem c_X4_leastWith (l : Launch) (G : Ly) (o : Nat) (m : Int) (sum : Int) (w : Wd) (ho : gOb G o = some 4) (h2 : gOb G 2 = some 2) (hlk : gLk G o 0 = 2) (hp : PV (w 2)) (hm : 0 ≤ m ∧ m < w 2 0 0) (hsum : 0 ≤ sum ∧ sum ≤ 480) (hlow : 0 ≤ w o 7 0 ∧ w o 7 0 ≤ 480) (hhigh : 0 ≤ w o 8 0 ∧ w o 8 0 ≤ 480) (hA : ∀ x, max (w 2 1 m.toNat) (sum - w o 8 0) ≤ x → x ≤ min (w 2 2 m.toNat) (sum - w o 7 0) → (0 ≤ w o 1 (sum - x).toNat ∧ w o 1 (sum - x).toNat ≤ 1000000000000000000) ∧ 0 ≤ w o 2 x.toNat ∧ w o 2 x.toNat ≤ 1000000000000000000) : Ml l yX4_leastWith cX4_leastWith 9 (some .long) 1 21 G [.ref (gAd G o), .int (iI m), .int (iI sum)] w (fun z w2 => w2 = w ∧ ((∀ x, max (w 2 1 m.toNat) (sum - w o 8 0) ≤ x → x ≤ min (w 2 2 m.toNat) (sum - w o 7 0) → z ≤ w o 1 (sum - x).toNat + w o 2 x.toNat) ∧ ((∃ x, max (w 2 1 m.toNat) (sum - w o 8 0) ≤ x ∧ x ≤ min (w 2 2 m.toNat) (sum - w o 7 0) ∧ z = w o 1 (sum - x).toNat + w o 2 x.toNat) ∨ z = 9223372036854775807))) := by
  refine ml_of (lv := [(0, .ref (gAd G o)), (1, .int (iI m)), (2, .int (iI sum))]) (by decide) (Nat.le_of_ble_eq_true rfl) rfl ?_
  intro p_ e_ s_ m_ b_ h_ c_ X
  have hpm := hp.2.1 m.toNat (by omega)
  have hp0 := hp.1
  refine g_aload_n X dX4_leastWith_0 rfl 0 rfl ?_
  refine g_geto (o' := 2) X ck_X4 ho 0 (by decide) fl_X4_18 rfl hlk dX4_leastWith_1 ?_
  refine g_geta X ck_X2 h2 2 (by decide) fl_X4_79 rfl dX4_leastWith_4 ?_
  refine g_iload_n X dX4_leastWith_7 rfl 1 rfl ?_
  refine g_iald (a := m) X h2 (by decide) (show fkX 2 2 = (1, 6) from rfl) (by decide) (by omega) (by omega) dX4_leastWith_8 ?_
  refine g_iload_n X dX4_leastWith_9 rfl 2 rfl ?_
  refine g_aload_n X dX4_leastWith_10 rfl 0 rfl ?_
  refine g_geti X ck_X4 ho 7 (by decide) fl_X4_42 (Or.inl rfl) dX4_leastWith_11 ?_
  refine g_isub X dX4_leastWith_14 ?_
  refine g_min X ml_X4_85 (by unfold InR; omega) (by unfold InR; omega) ⟨Nat.le_of_ble_eq_true rfl, Nat.le_of_ble_eq_true rfl⟩ (Nat.le_of_ble_eq_true rfl) dX4_leastWith_15 ?_
  refine g_istore_n (lv' := [(3, .int (iI (min (w 2 2 (m).toNat) (sum - (w o 7 0))))), (0, .ref (gAd G o)), (1, .int (iI m)), (2, .int (iI sum))]) X dX4_leastWith_18 rfl (by decide) rfl ?_
  refine g_ldc2 (n := 9223372036854775807) X cst_X4_98 (by decide) dX4_leastWith_19 ?_
  refine g_lstore (lv' := [(4, .long (lI 9223372036854775807)), (3, .int (iI (min (w 2 2 (m).toNat) (sum - (w o 7 0))))), (0, .ref (gAd G o)), (1, .int (iI m)), (2, .int (iI sum))]) X dX4_leastWith_22 (by decide) rfl ?_
  refine g_aload_n X dX4_leastWith_24 rfl 2 rfl ?_
  refine g_geto (o' := 2) X ck_X4 ho 0 (by decide) fl_X4_18 rfl hlk dX4_leastWith_25 ?_
  refine g_geta X ck_X2 h2 1 (by decide) fl_X4_67 rfl dX4_leastWith_28 ?_
  refine g_iload_n X dX4_leastWith_31 rfl 3 rfl ?_
  refine g_iald (a := m) X h2 (by decide) (show fkX 2 1 = (1, 6) from rfl) (by decide) (by omega) (by omega) dX4_leastWith_32 ?_
  refine g_iload_n X dX4_leastWith_33 rfl 4 rfl ?_
  refine g_aload_n X dX4_leastWith_34 rfl 2 rfl ?_
  refine g_geti X ck_X4 ho 8 (by decide) fl_X4_45 (Or.inl rfl) dX4_leastWith_35 ?_
  refine g_isub X dX4_leastWith_38 ?_
  refine g_max X ml_X4_74 (by unfold InR; omega) (by unfold InR; omega) ⟨Nat.le_of_ble_eq_true rfl, Nat.le_of_ble_eq_true rfl⟩ (Nat.le_of_ble_eq_true rfl) dX4_leastWith_39 ?_
  refine g_istore (lv' := [(6, .int (iI (max (w 2 1 (m).toNat) (sum - (w o 8 0))))), (4, .long (lI 9223372036854775807)), (3, .int (iI (min (w 2 2 (m).toNat) (sum - (w o 7 0))))), (0, .ref (gAd G o)), (1, .int (iI m)), (2, .int (iI sum))]) X dX4_leastWith_42 (by decide) rfl ?_
  refine g_lv (lv' := [(0, .ref (gAd G o)), (1, .int (iI m)), (2, .int (iI sum)), (3, .int (iI (min (w 2 2 m.toNat) (sum - w o 7 0)))), (4, .long (lI 9223372036854775807)), (6, .int (iI (max (w 2 1 (m).toNat) (sum - (w o 8 0)))))]) [3, 4, 5, 2, 1, 0] rfl ?_
  refine g_loop2 (fun (found : Int) (x : Int) => [(0, .ref (gAd G o)), (1, .int (iI m)), (2, .int (iI sum)), (3, .int (iI (min (w 2 2 m.toNat) (sum - w o 7 0)))), (4, .long (lI found)), (6, .int (iI x))]) (fun (found : Int) (x : Int) => w) (fun (found : Int) (x : Int) => (max (w 2 1 m.toNat) (sum - w o 8 0) ≤ x) ∧ (x ≤ 1000) ∧ (0 ≤ found ∧ found ≤ 9223372036854775807) ∧ (∀ y, max (w 2 1 m.toNat) (sum - w o 8 0) ≤ y → y < x → y ≤ min (w 2 2 m.toNat) (sum - w o 7 0) → found ≤ w o 1 (sum - y).toNat + w o 2 y.toNat) ∧ (Hid ((∃ y, max (w 2 1 m.toNat) (sum - w o 8 0) ≤ y ∧ y ≤ min (w 2 2 m.toNat) (sum - w o 7 0) ∧ found = w o 1 (sum - y).toNat + w o 2 y.toNat) ∨ found = 9223372036854775807))) (fun (found : Int) (x : Int) => (min (w 2 2 m.toNat) (sum - w o 7 0) + 1 - x).toNat) 9223372036854775807 (max (w 2 1 (m).toNat) (sum - (w o 8 0))) ⟨(by omega), (by first | omega | rfl | assumption), (by decide), (by intro y a b; omega), (by exact Or.inr rfl)⟩ ?_
  intro found x hI_44 ih_44
  obtain ⟨h0, h1, hr, hmin, hex⟩ := hI_44
  try dsimp only at ih_44 ⊢
  refine g_iload X dX4_leastWith_44 5 rfl ?_
  refine g_iload_n X dX4_leastWith_46 rfl 3 rfl ?_
  refine g_icmp_gt (tgt := 87) X dX4_leastWith_47 (by decide) (by unfold InR; omega) (by unfold InR; omega) (fun c_47 => ?_) (fun c_47 => ?_)
  · skip
    refine g_lload X dX4_leastWith_87 4 rfl ?_
    exact g_lret X rfl dX4_leastWith_89 (by refine ⟨rfl, fun y a b => hmin y a (by omega) b, hex⟩)
  · skip
    refine g_aload_n X dX4_leastWith_50 rfl 0 rfl ?_
    refine g_geta X ck_X4 ho 1 (by decide) fl_X4_11 rfl dX4_leastWith_51 ?_
    refine g_iload_n X dX4_leastWith_54 rfl 2 rfl ?_
    refine g_iload X dX4_leastWith_55 5 rfl ?_
    refine g_isub X dX4_leastWith_57 ?_
    refine g_lald (a := sum - x) X ho (by decide) (show fkX 4 1 = (2, 481) from rfl) (by decide) (by omega) (by omega) dX4_leastWith_58 ?_
    refine g_aload_n X dX4_leastWith_59 rfl 0 rfl ?_
    refine g_geta X ck_X4 ho 2 (by decide) fl_X4_15 rfl dX4_leastWith_60 ?_
    refine g_iload X dX4_leastWith_63 5 rfl ?_
    refine g_lald (a := x) X ho (by decide) (show fkX 4 2 = (2, 81) from rfl) (by decide) (by omega) (by omega) dX4_leastWith_65 ?_
    refine g_ladd X dX4_leastWith_66 ?_
    refine g_lstore (lv' := [(7, .long (lI ((w o 1 (sum - x).toNat) + (w o 2 (x).toNat)))), (0, .ref (gAd G o)), (1, .int (iI m)), (2, .int (iI sum)), (3, .int (iI (min (w 2 2 m.toNat) (sum - w o 7 0)))), (4, .long (lI found)), (6, .int (iI x))]) X dX4_leastWith_67 (by decide) rfl ?_
    refine g_lload X dX4_leastWith_69 0 rfl ?_
    refine g_lload X dX4_leastWith_71 5 rfl ?_
    refine g_lcmp X dX4_leastWith_73 (by have := hA x h0 (by omega); unfold InL; omega) (by unfold InL; omega) ?_
    refine g_if_ge (tgt := 81) X dX4_leastWith_74 (by decide) (by exact cmp_in _ _) (fun c_74 => ?_) (fun c_74 => ?_)
    · skip
      refine g_iinc (j := 6) (lv' := [(6, .int (iI (x + 1))), (7, .long (lI ((w o 1 (sum - x).toNat) + (w o 2 (x).toNat)))), (0, .ref (gAd G o)), (1, .int (iI m)), (2, .int (iI sum)), (3, .int (iI (min (w 2 2 m.toNat) (sum - w o 7 0)))), (4, .long (lI found))]) X dX4_leastWith_81 rfl (by decide) rfl ?_
      refine g_goto (tgt := 44) X dX4_leastWith_84 (by decide) ?_
      refine g_lv (lv' := [(0, .ref (gAd G o)), (1, .int (iI m)), (2, .int (iI sum)), (3, .int (iI (min (w 2 2 m.toNat) (sum - w o 7 0)))), (4, .long (lI found)), (6, .int (iI (x + 1)))]) [2, 3, 4, 5, 6, 0] rfl ?_
      exact ih_44 found (x + 1) ⟨(by first | omega | rfl | assumption), (by first | omega | rfl | assumption), (by have := hA x h0 (by omega); rw [cmp_nn] at c_74; omega), (by rw [cmp_nn] at c_74; intro y a b d; rcases Int.lt_or_le y x with e | e; (have := hmin y a e d; omega); (have e2 : y = x := (by omega)); subst e2; omega), (by first | exact hex | exact Or.inl ⟨x, h0, by omega, rfl⟩)⟩ (by omega)
    · skip
      refine g_lload X dX4_leastWith_77 0 rfl ?_
      refine g_lstore (lv' := [(4, .long (lI ((w o 1 (sum - x).toNat) + (w o 2 (x).toNat)))), (7, .long (lI ((w o 1 (sum - x).toNat) + (w o 2 (x).toNat)))), (0, .ref (gAd G o)), (1, .int (iI m)), (2, .int (iI sum)), (3, .int (iI (min (w 2 2 m.toNat) (sum - w o 7 0)))), (6, .int (iI x))]) X dX4_leastWith_79 (by decide) rfl ?_
      refine g_iinc (j := 6) (lv' := [(6, .int (iI (x + 1))), (4, .long (lI ((w o 1 (sum - x).toNat) + (w o 2 (x).toNat)))), (7, .long (lI ((w o 1 (sum - x).toNat) + (w o 2 (x).toNat)))), (0, .ref (gAd G o)), (1, .int (iI m)), (2, .int (iI sum)), (3, .int (iI (min (w 2 2 m.toNat) (sum - w o 7 0))))]) X dX4_leastWith_81 rfl (by decide) rfl ?_
      refine g_goto (tgt := 44) X dX4_leastWith_84 (by decide) ?_
      refine g_lv (lv' := [(0, .ref (gAd G o)), (1, .int (iI m)), (2, .int (iI sum)), (3, .int (iI (min (w 2 2 m.toNat) (sum - w o 7 0)))), (4, .long (lI ((w o 1 (sum - x).toNat) + (w o 2 (x).toNat)))), (6, .int (iI (x + 1)))]) [3, 4, 5, 6, 1, 0] rfl ?_
      exact ih_44 ((w o 1 (sum - x).toNat) + (w o 2 (x).toNat)) (x + 1) ⟨(by first | omega | rfl | assumption), (by first | omega | rfl | assumption), (by have := hA x h0 (by omega); rw [cmp_nn] at c_74; omega), (by rw [cmp_nn] at c_74; intro y a b d; rcases Int.lt_or_le y x with e | e; (have := hmin y a e d; omega); (have e2 : y = x := (by omega)); subst e2; omega), (by first | exact hex | exact Or.inl ⟨x, h0, by omega, rfl⟩)⟩ (by omega)
end
section
def FrS (o : Nat) (w w2 : Wd) : Prop := ∀ o' f j, ¬ (o' = o ∧ (f = 1 ∨ f = 2 ∨ f = 7 ∨ f = 8)) → w2 o' f j = w o' f j
def CanX (pl : Nat → Nat → Int) (s t : Int) : Prop := sumB s (pl 1) (pl 0 0).toNat ≤ t ∧ t ≤ sumB s (pl 2) (pl 0 0).toNat
/-- what is kept of the last share is right -/
def ShC (pl u : Nat → Nat → Int) : Prop := u 3 0 = 0 ∨ (u 3 0 = 1 ∧ (0 ≤ u 4 0 ∧ u 4 0 < 64) ∧ (0 ≤ u 5 0 ∧ u 5 0 ≤ 480) ∧ (0 ≤ u 6 0 ∧ u 6 0 ≤ 45) ∧ CanX pl (u 4 0) (u 5 0) ∧ BestC pl (pkX pl (u 6 0)) (u 4 0) (pl 0 0).toNat (u 5 0) (u 1 (u 5 0).toNat))
theorem win_n {pl : Nat → Nat → Int} {s load : Int} (h1 : sumB s (pl 1) (pl 0 0).toNat ≤ load) (h2 : load ≤ sumB s (pl 2) (pl 0 0).toNat) : lowK pl s load (pl 0 0).toNat = load ∧ highK pl s load (pl 0 0).toNat = load := by
  unfold lowK highK
  omega
theorem sh_step {pl : Nat → Nat → Int} {A : Nat → Int} (hp : PV pl) {k : Nat} (hk : k < (pl 0 0).toNat) {s load lift t z : Int} (hl : 0 ≤ lift ∧ lift ≤ 45) (hc1 : sumB s (pl 1) (pl 0 0).toNat ≤ load) (hc2 : load ≤ sumB s (pl 2) (pl 0 0).toNat)
    (hs : tb s k = 1) (h1 : lowK pl s load (k + 1) ≤ t) (h2 : t ≤ highK pl s load (k + 1)) (hI : ∀ t, lowK pl s load k ≤ t → t ≤ highK pl s load k → BestC pl (pkX pl lift) s k t (A t.toNat))
    (hmin : ∀ x, max (pl 1 k) (t - highK pl s load k) ≤ x → x ≤ min (pl 2 k) (t - lowK pl s load k) → z ≤ A (t - x).toNat + pkX pl lift k x)
    (hex : (∃ x, max (pl 1 k) (t - highK pl s load k) ≤ x ∧ x ≤ min (pl 2 k) (t - lowK pl s load k) ∧ z = A (t - x).toNat + pkX pl lift k x) ∨ z = 9223372036854775807) : BestC pl (pkX pl lift) s (k + 1) t z := by
  have hq := hp.2.1 k (by omega)
  have he := win_ex hp hk hc1 hc2 hs h1 h2
  have hex2 : ∃ x, max (pl 1 k) (t - highK pl s load k) ≤ x ∧ x ≤ min (pl 2 k) (t - lowK pl s load k) ∧ z = A (t - x).toNat + pkX pl lift k x := by
    rcases hex with h | h
    · exact h
    · exfalso
      have h3 := hmin _ (Int.le_refl _) he
      have h4 := best_rng hp hl (by omega) (hI (t - max (pl 1 k) (t - highK pl s load k)) (by omega) (by omega))
      have h5 := pk_rng hp (m := k) (by omega) (x := max (pl 1 k) (t - highK pl s load k)) (lift := lift) (by omega) hl
      omega
  refine best_add (A := fun t => A t.toNat) hs (fun x a b => hI (t - x) (by omega) (by omega)) (by omega) (by omega) (win_cov hs h1 h2) hex2 hmin
end
section
set_option maxHeartbeats 4000000 in
set_option maxRecDepth 100000 in
theorem c_X4_addMachine (l : Launch) (G : Ly) (o : Nat) (m : Int) (later : Int) (w : Wd) (ho : gOb G o = some 4) (h2 : gOb G 2 = some 2) (hlk : gLk G o 0 = 2) (hne : o ≠ 2) (hp : PV (w 2)) (hm : 0 ≤ m ∧ m < w 2 0 0) (hlift : 0 ≤ w o 6 0 ∧ w o 6 0 ≤ 45) (hset : 0 ≤ w o 4 0 ∧ w o 4 0 < 64) (hld : 0 ≤ w o 5 0 ∧ w o 5 0 ≤ 480) (hc1 : sumB (w o 4 0) (w 2 1) (w 2 0 0).toNat ≤ w o 5 0) (hc2 : w o 5 0 ≤ sumB (w o 4 0) (w 2 2) (w 2 0 0).toNat) (hI : ShI (w 2) (w o) m.toNat) (hb : tb (w o 4 0) m.toNat = 1) (hlat0 : 0 ≤ later ∧ later < 64) (hlat : ∀ k, k < 6 → tb later k = if k ≤ m.toNat then 0 else tb (w o 4 0) k) : Mv l yX4_addMachine cX4_addMachine 6 none 2 49 G [.ref (gAd G o), .int (iI m), .int (iI later)] w (fun w2 => ShI (w 2) (w2 o) (m.toNat + 1) ∧ FrS o w w2) := by
  refine mv_of (lv := [(0, .ref (gAd G o)), (1, .int (iI m)), (2, .int (iI later))]) (by decide) (Nat.le_of_ble_eq_true rfl) rfl ?_
  intro p_ e_ s_ m_ b_ h_ c_ X
  have hpm := hp.2.1 m.toNat (by omega)
  have hp0 := hp.1
  have hwin := win_in hp hc1 hc2 (k := m.toNat) (by omega)
  have hwin1 := win_in hp hc1 hc2 (k := m.toNat + 1) (by omega)
  have hwa := win_add (load := w o 5 0) hb (show w 2 1 m.toNat ≤ w 2 2 m.toNat by omega)
  have hI7 := hI.1
  have hI8 := hI.2.1
  refine g_aload_n X dX4_addMachine_0 rfl 0 rfl ?_
  refine g_iload_n X dX4_addMachine_1 rfl 1 rfl ?_
  refine g_callv (st := []) X (c_X4_fillRow l G o m w ho h2 hlk (by first | assumption | omega | (unfold InR; omega)) (by first | assumption | omega | (unfold InR; omega)) (by first | assumption | omega | (unfold InR; omega)) (by first | assumption | omega | (unfold InR; omega))) cm_X4_fillRow im_X4_fillRow se_X4_fillRow ml_X4_63 ck_X4 ho ⟨Nat.le_of_ble_eq_true rfl, Nat.le_of_ble_eq_true rfl⟩ rfl rfl (Nat.le_of_ble_eq_true rfl) dX4_addMachine_2 (fn_v ?_)
  obtain ⟨w_1, ew_1⟩ : ∃ q_ : Wd, q_ = upA w o 2 (rowU (w o 2) (w 2 1 m.toNat) (w 2 2 m.toNat + 1) (fun j => pkX (w 2) (w o 6 0) m.toNat j)) := ⟨_, rfl⟩
  refine g_w (w' := w_1) ew_1 ?_
  have q2 : w_1 2 = w 2 := by rw [ew_1]; funext f; exact upA_ne (fun z => hne z.1.symm)
  have qf : ∀ f j, f ≠ 2 → w_1 o f j = w o f j := by intro f j h; rw [ew_1]; exact upA_nej (fun z => h z.2)
  have q7 := qf 7 0 (by decide)
  have q8 := qf 8 0 (by decide)
  have q5 := qf 5 0 (by decide)
  have q20 : w_1 2 0 0 = w 2 0 0 := by rw [q2]
  have q21 : w_1 2 1 m.toNat = w 2 1 m.toNat := by rw [q2]
  have q22 : w_1 2 2 m.toNat = w 2 2 m.toNat := by rw [q2]
  have m1 : 0 ≤ sumB later (w_1 2 2) (w_1 2 0 0).toNat ∧ sumB later (w_1 2 2) (w_1 2 0 0).toNat ≤ 480 := by rw [q2]; exact pv_most hp later
  have m2 : 0 ≤ sumB later (w_1 2 1) (w_1 2 0 0).toNat ∧ sumB later (w_1 2 1) (w_1 2 0 0).toNat ≤ 240 := by rw [q2]; exact pv_least hp later
  refine g_aload_n X dX4_addMachine_5 rfl 0 rfl ?_
  refine g_geti X ck_X4 ho 7 (by decide) fl_X4_42 (Or.inl rfl) dX4_addMachine_6 ?_
  refine g_aload_n X dX4_addMachine_9 rfl 0 rfl ?_
  refine g_geto (o' := 2) X ck_X4 ho 0 (by decide) fl_X4_18 rfl hlk dX4_addMachine_10 ?_
  refine g_geta X ck_X2 h2 1 (by decide) fl_X4_67 rfl dX4_addMachine_13 ?_
  refine g_iload_n X dX4_addMachine_16 rfl 1 rfl ?_
  refine g_iald (a := m) X h2 (by decide) (show fkX 2 1 = (1, 6) from rfl) (by decide) (by omega) (by omega) dX4_addMachine_17 ?_
  refine g_iadd X dX4_addMachine_18 ?_
  refine g_aload_n X dX4_addMachine_19 rfl 0 rfl ?_
  refine g_geti X ck_X4 ho 5 (by decide) fl_X4_30 (Or.inl rfl) dX4_addMachine_20 ?_
  refine g_aload_n X dX4_addMachine_23 rfl 0 rfl ?_
  refine g_geto (o' := 2) X ck_X4 ho 0 (by decide) fl_X4_18 rfl hlk dX4_addMachine_24 ?_
  refine g_iload_n X dX4_addMachine_27 rfl 2 rfl ?_
  refine g_calli (st := [.int (iI (w_1 o 5 0)), .int (iI ((w_1 o 7 0) + (w_1 2 1 (m).toNat)))]) X (c_X2_mosts l G 2 later w_1 h2 (by first | assumption | omega | (unfold InR; omega)) (by first | assumption | omega | (unfold InR; omega))) cm_X2_mosts im_X2_mosts se_X2_mosts ml_X4_71 ck_X2 h2 ⟨Nat.le_of_ble_eq_true rfl, Nat.le_of_ble_eq_true rfl⟩ rfl rfl (Nat.le_of_ble_eq_true rfl) dX4_addMachine_28 (fn_i ?_)
  refine g_isub X dX4_addMachine_31 ?_
  refine g_max X ml_X4_74 (by unfold InR; omega) (by unfold InR; omega) ⟨Nat.le_of_ble_eq_true rfl, Nat.le_of_ble_eq_true rfl⟩ (Nat.le_of_ble_eq_true rfl) dX4_addMachine_32 ?_
  rw [show max ((w_1 o 7 0) + (w_1 2 1 (m).toNat)) ((w_1 o 5 0) - (sumB later (w_1 2 2) (w_1 2 0 0).toNat)) = lowK (w 2) (w o 4 0) (w o 5 0) (m.toNat + 1) from (by rw [q2, q7, q5, hwa.1, sumB_later hlat _ _ (by omega) (by omega), hI7])]
  refine g_istore_n (lv' := [(3, .int (iI (lowK (w 2) (w o 4 0) (w o 5 0) (m.toNat + 1)))), (0, .ref (gAd G o)), (1, .int (iI m)), (2, .int (iI later))]) X dX4_addMachine_35 rfl (by decide) rfl ?_
  refine g_aload_n X dX4_addMachine_36 rfl 1 rfl ?_
  refine g_geti X ck_X4 ho 8 (by decide) fl_X4_45 (Or.inl rfl) dX4_addMachine_37 ?_
  refine g_aload_n X dX4_addMachine_40 rfl 1 rfl ?_
  refine g_geto (o' := 2) X ck_X4 ho 0 (by decide) fl_X4_18 rfl hlk dX4_addMachine_41 ?_
  refine g_geta X ck_X2 h2 2 (by decide) fl_X4_79 rfl dX4_addMachine_44 ?_
  refine g_iload_n X dX4_addMachine_47 rfl 2 rfl ?_
  refine g_iald (a := m) X h2 (by decide) (show fkX 2 2 = (1, 6) from rfl) (by decide) (by omega) (by omega) dX4_addMachine_48 ?_
  refine g_iadd X dX4_addMachine_49 ?_
  refine g_aload_n X dX4_addMachine_50 rfl 1 rfl ?_
  refine g_geti X ck_X4 ho 5 (by decide) fl_X4_30 (Or.inl rfl) dX4_addMachine_51 ?_
  refine g_aload_n X dX4_addMachine_54 rfl 1 rfl ?_
  refine g_geto (o' := 2) X ck_X4 ho 0 (by decide) fl_X4_18 rfl hlk dX4_addMachine_55 ?_
  refine g_iload_n X dX4_addMachine_58 rfl 3 rfl ?_
  refine g_calli (st := [.int (iI (w_1 o 5 0)), .int (iI ((w_1 o 8 0) + (w_1 2 2 (m).toNat)))]) X (c_X2_leasts l G 2 later w_1 h2 (by first | assumption | omega | (unfold InR; omega)) (by first | assumption | omega | (unfold InR; omega))) cm_X2_leasts im_X2_leasts se_X2_leasts ml_X4_82 ck_X2 h2 ⟨Nat.le_of_ble_eq_true rfl, Nat.le_of_ble_eq_true rfl⟩ rfl rfl (Nat.le_of_ble_eq_true rfl) dX4_addMachine_59 (fn_i ?_)
  refine g_isub X dX4_addMachine_62 ?_
  refine g_min X ml_X4_85 (by unfold InR; omega) (by unfold InR; omega) ⟨Nat.le_of_ble_eq_true rfl, Nat.le_of_ble_eq_true rfl⟩ (Nat.le_of_ble_eq_true rfl) dX4_addMachine_63 ?_
  rw [show min ((w_1 o 8 0) + (w_1 2 2 (m).toNat)) ((w_1 o 5 0) - (sumB later (w_1 2 1) (w_1 2 0 0).toNat)) = highK (w 2) (w o 4 0) (w o 5 0) (m.toNat + 1) from (by rw [q2, q8, q5, hwa.2, sumB_later hlat _ _ (by omega) (by omega), hI8])]
  refine g_istore (lv' := [(4, .int (iI (highK (w 2) (w o 4 0) (w o 5 0) (m.toNat + 1)))), (3, .int (iI (lowK (w 2) (w o 4 0) (w o 5 0) (m.toNat + 1)))), (0, .ref (gAd G o)), (1, .int (iI m)), (2, .int (iI later))]) X dX4_addMachine_66 (by decide) rfl ?_
  refine g_iload X dX4_addMachine_68 0 rfl ?_
  refine g_istore (lv' := [(5, .int (iI (highK (w 2) (w o 4 0) (w o 5 0) (m.toNat + 1)))), (4, .int (iI (highK (w 2) (w o 4 0) (w o 5 0) (m.toNat + 1)))), (3, .int (iI (lowK (w 2) (w o 4 0) (w o 5 0) (m.toNat + 1)))), (0, .ref (gAd G o)), (1, .int (iI m)), (2, .int (iI later))]) X dX4_addMachine_70 (by decide) rfl ?_
  refine g_lv (lv' := [(0, .ref (gAd G o)), (1, .int (iI m)), (2, .int (iI later)), (3, .int (iI (lowK (w 2) (w o 4 0) (w o 5 0) (m.toNat + 1)))), (4, .int (iI (highK (w 2) (w o 4 0) (w o 5 0) (m.toNat + 1)))), (5, .int (iI (highK (w 2) (w o 4 0) (w o 5 0) (m.toNat + 1))))]) [3, 4, 5, 2, 1, 0] rfl ?_
  refine g_loop2 (fun (sum : Int) (w1 : Wd) => [(0, .ref (gAd G o)), (1, .int (iI m)), (2, .int (iI later)), (3, .int (iI (lowK (w 2) (w o 4 0) (w o 5 0) (m.toNat + 1)))), (4, .int (iI (highK (w 2) (w o 4 0) (w o 5 0) (m.toNat + 1)))), (5, .int (iI sum))]) (fun (sum : Int) (w1 : Wd) => w1) (fun (sum : Int) (w1 : Wd) => (lowK (w 2) (w o 4 0) (w o 5 0) (m.toNat + 1) - 1 ≤ sum) ∧ (sum ≤ highK (w 2) (w o 4 0) (w o 5 0) (m.toNat + 1)) ∧ (∀ o2 f j, ¬ (o2 = o ∧ f = 1) → w1 o2 f j = w_1 o2 f j) ∧ (∀ j : Nat, (j : Int) ≤ sum → w1 o 1 j = w o 1 j) ∧ (∀ t, sum < t → t ≤ highK (w 2) (w o 4 0) (w o 5 0) (m.toNat + 1) → BestC (w 2) (pkX (w 2) (w o 6 0)) (w o 4 0) (m.toNat + 1) t (w1 o 1 t.toNat))) (fun (sum : Int) (w1 : Wd) => (sum + 1 - lowK (w 2) (w o 4 0) (w o 5 0) (m.toNat + 1)).toNat) (highK (w 2) (w o 4 0) (w o 5 0) (m.toNat + 1)) w_1 ⟨(by first | omega | rfl | assumption), (by first | omega | rfl | assumption), (by intro _ _ _ _; rfl), (by intro j _; exact qf 1 j (by decide)), (by intro t a b; omega)⟩ ?_
  intro sum w1 hI_72 ih_72
  obtain ⟨ha, hh, hfr, hold, hnew⟩ := hI_72
  try dsimp only at ih_72 ⊢
  have p2 : w1 2 = w 2 := by funext f j; rw [hfr 2 f j (fun z => hne z.1.symm), q2]
  have p7 : w1 o 7 0 = lowK (w 2) (w o 4 0) (w o 5 0) m.toNat := by rw [hfr o 7 0 (fun z => absurd z.2 (by decide)), q7, hI7]
  have p8 : w1 o 8 0 = highK (w 2) (w o 4 0) (w o 5 0) m.toNat := by rw [hfr o 8 0 (fun z => absurd z.2 (by decide)), q8, hI8]
  have p20 : w1 2 0 0 = w 2 0 0 := by rw [p2]
  have pE : ∀ x, max (w 2 1 m.toNat) (sum - highK (w 2) (w o 4 0) (w o 5 0) m.toNat) ≤ x → x ≤ min (w 2 2 m.toNat) (sum - lowK (w 2) (w o 4 0) (w o 5 0) m.toNat) → w1 o 1 (sum - x).toNat = w o 1 (sum - x).toNat ∧ w1 o 2 x.toNat = pkX (w 2) (w o 6 0) m.toNat x := by
    intro x a b
    refine ⟨hold _ (by omega), ?_⟩
    rw [hfr o 2 _ (fun z => absurd z.2 (by decide)), ew_1, upA_atj, rowU_in (by omega) (by omega) (by omega)]
    show pkX _ _ _ ((x.toNat : Nat) : Int) = _
    rw [show ((x.toNat : Nat) : Int) = x by omega]
  refine g_iload X dX4_addMachine_72 5 rfl ?_
  refine g_iload_n X dX4_addMachine_74 rfl 3 rfl ?_
  refine g_icmp_lt (tgt := 98) X dX4_addMachine_75 (by decide) (by unfold InR; omega) (by unfold InR; omega) (fun c_75 => ?_) (fun c_75 => ?_)
  · skip
    refine g_aload_n X dX4_addMachine_98 rfl 0 rfl ?_
    refine g_iload_n X dX4_addMachine_99 rfl 3 rfl ?_
    refine g_puti X ck_X4 ho 7 (by decide) fl_X4_42 rfl rfl rfl dX4_addMachine_100 ?_
    obtain ⟨w_2, ew_2⟩ : ∃ q_ : Wd, q_ = up w1 o 7 0 (lowK (w 2) (w o 4 0) (w o 5 0) (m.toNat + 1)) := ⟨_, rfl⟩
    refine g_w (w' := w_2) ew_2 ?_
    refine g_aload_n X dX4_addMachine_103 rfl 0 rfl ?_
    refine g_iload X dX4_addMachine_104 4 rfl ?_
    refine g_puti X ck_X4 ho 8 (by decide) fl_X4_45 rfl rfl rfl dX4_addMachine_106 ?_
    obtain ⟨w_3, ew_3⟩ : ∃ q_ : Wd, q_ = up w_2 o 8 0 (highK (w 2) (w o 4 0) (w o 5 0) (m.toNat + 1)) := ⟨_, rfl⟩
    refine g_w (w' := w_3) ew_3 ?_
    exact g_vret X rfl dX4_addMachine_109 (by
        refine ⟨⟨?_, ?_, ?_⟩, ?_⟩
        · rw [ew_3, ew_2]; simp [up]; rw [hfr o 4 0 (by simp), hfr o 5 0 (by simp), qf 4 0 (by decide), qf 5 0 (by decide)]
        · rw [ew_3, ew_2]; simp [up]; rw [hfr o 4 0 (by simp), hfr o 5 0 (by simp), qf 4 0 (by decide), qf 5 0 (by decide)]
        · have e4 : w_3 o 4 0 = w o 4 0 := by rw [ew_3, ew_2]; simp [up]; rw [hfr o 4 0 (by simp), qf 4 0 (by decide)]
          have e5 : w_3 o 5 0 = w o 5 0 := by rw [ew_3, ew_2]; simp [up]; rw [hfr o 5 0 (by simp), qf 5 0 (by decide)]
          have e6 : w_3 o 6 0 = w o 6 0 := by rw [ew_3, ew_2]; simp [up]; rw [hfr o 6 0 (by simp), qf 6 0 (by decide)]
          have e1 : w_3 o 1 = w1 o 1 := by funext j; rw [ew_3, ew_2]; simp [up]
          rw [e4, e5, e6, e1]
          intro t a b
          exact hnew t (by omega) b
        · intro o2 f j h
          rw [ew_3, ew_2]
          have h7 : ¬ (o2 = o ∧ f = 7 ∧ j = 0) := fun z => h ⟨z.1, by omega⟩
          have h8 : ¬ (o2 = o ∧ f = 8 ∧ j = 0) := fun z => h ⟨z.1, by omega⟩
          rw [up_ne h8, up_ne h7, hfr o2 f j (fun z => h ⟨z.1, by omega⟩), ew_1]
          exact upA_nej (fun z => h ⟨z.1, by omega⟩))
  · skip
    refine g_aload_n X dX4_addMachine_78 rfl 0 rfl ?_
    refine g_geta X ck_X4 ho 1 (by decide) fl_X4_11 rfl dX4_addMachine_79 ?_
    refine g_iload X dX4_addMachine_82 5 rfl ?_
    refine g_aload_n X dX4_addMachine_84 rfl 0 rfl ?_
    refine g_iload_n X dX4_addMachine_85 rfl 1 rfl ?_
    refine g_iload X dX4_addMachine_86 5 rfl ?_
    refine g_calll (st := [.int (iI sum), .ref (gAr G o 1)]) X (c_X4_leastWith l G o m sum w1 ho h2 hlk (by rw [p2]; exact hp) (by first | assumption | omega | (unfold InR; omega)) (by first | assumption | omega | (unfold InR; omega)) (by first | assumption | omega | (unfold InR; omega)) (by first | assumption | omega | (unfold InR; omega)) (by rw [p2, p7, p8]; intro x a b; obtain ⟨e1, e2⟩ := pE x a b; rw [e1, e2]; have r1 := best_rng hp hlift (by omega) (hI.2.2 (sum - x) (by omega) (by omega)); have r2 := pk_rng hp (m := m.toNat) (by omega) (x := x) (lift := w o 6 0) (by omega) hlift; omega)) cm_X4_leastWith im_X4_leastWith se_X4_leastWith ml_X4_88 ck_X4 ho ⟨Nat.le_of_ble_eq_true rfl, Nat.le_of_ble_eq_true rfl⟩ rfl rfl (Nat.le_of_ble_eq_true rfl) dX4_addMachine_88 (fn_pl ?_)
    rintro z_88 h_88
    rw [p2, p7, p8] at h_88
    have hz : BestC (w 2) (pkX (w 2) (w o 6 0)) (w o 4 0) (m.toNat + 1) sum z_88 := by
      refine sh_step (A := w o 1) hp (by omega) hlift hc1 hc2 hb (by omega) (by omega) hI.2.2 (fun x a b => ?_) ?_
      · have h := h_88.1 x a b
        obtain ⟨e1, e2⟩ := pE x a b
        rw [e1, e2] at h
        exact h
      · rcases h_88.2 with ⟨x, a, b, h⟩ | h
        · obtain ⟨e1, e2⟩ := pE x a b
          rw [e1, e2] at h
          exact Or.inl ⟨x, a, b, h⟩
        · exact Or.inr h
    clear h_88
    refine g_last (a := sum) X ho (by decide) (show fkX 4 1 = (2, 481) from rfl) (by decide) (by omega) (by omega) dX4_addMachine_91 ?_
    obtain ⟨w_4, ew_4⟩ : ∃ q_ : Wd, q_ = up w1 o 1 (sum).toNat z_88 := ⟨_, rfl⟩
    refine g_w (w' := w_4) ew_4 ?_
    refine g_iinc (j := 5) (lv' := [(5, .int (iI (sum + (-1)))), (0, .ref (gAd G o)), (1, .int (iI m)), (2, .int (iI later)), (3, .int (iI (lowK (w 2) (w o 4 0) (w o 5 0) (m.toNat + 1)))), (4, .int (iI (highK (w 2) (w o 4 0) (w o 5 0) (m.toNat + 1))))]) X dX4_addMachine_92 rfl (by decide) rfl ?_
    refine g_goto (tgt := 72) X dX4_addMachine_95 (by decide) ?_
    refine g_lv (lv' := [(0, .ref (gAd G o)), (1, .int (iI m)), (2, .int (iI later)), (3, .int (iI (lowK (w 2) (w o 4 0) (w o 5 0) (m.toNat + 1)))), (4, .int (iI (highK (w 2) (w o 4 0) (w o 5 0) (m.toNat + 1)))), (5, .int (iI (sum + (-1))))]) [1, 2, 3, 4, 5, 0] rfl ?_
    exact ih_72 (sum + (-1)) w_4 ⟨(by first | omega | rfl | assumption), (by first | omega | rfl | assumption), (by intro o2 f j h; rw [ew_4, up_ne (fun z => h ⟨z.1, z.2.1⟩)]; exact hfr o2 f j h), (by intro j hj; rw [ew_4, up_ne (by omega)]; exact hold j (by omega)), (by intro t a b; rw [ew_4]; rcases Int.lt_or_le sum t with e | e; (rw [up_ne (by omega)]; exact hnew t e b); (have e2 : t = sum := (by omega)); subst e2; rw [up_at]; exact hz)⟩ (by omega)
set_option maxHeartbeats 4000000 in
set_option maxRecDepth 100000 in
theorem c_X4_find (l : Launch) (G : Ly) (o : Nat) (set : Int) (load : Int) (lift : Int) (w : Wd) (ho : gOb G o = some 4) (h2 : gOb G 2 = some 2) (hlk : gLk G o 0 = 2) (hne : o ≠ 2) (hp : PV (w 2)) (hset : 0 ≤ set ∧ set < 64) (hld : 0 ≤ load ∧ load ≤ 480) (hlf : 0 ≤ lift ∧ lift ≤ 45) (hC : ShC (w 2) (w o)) : Mi l yX4_find cX4_find 5 (some .boolean) 3 74 G [.ref (gAd G o), .int (iI set), .int (iI load), .int (iI lift)] w (fun z w2 => (∀ o2 f j, o2 ≠ o → w2 o2 f j = w o2 f j) ∧ ShC (w 2) (w2 o) ∧ ((z = 1 ∧ CanX (w 2) set load ∧ w2 o 3 0 = 1 ∧ w2 o 4 0 = set ∧ w2 o 5 0 = load ∧ w2 o 6 0 = lift) ∨ (z = 0 ∧ ¬ CanX (w 2) set load))) := by
  refine mi_of (lv := [(0, .ref (gAd G o)), (1, .int (iI set)), (2, .int (iI load)), (3, .int (iI lift))]) (by decide) (Nat.le_of_ble_eq_true rfl) rfl ?_
  intro p_ e_ s_ m_ b_ h_ c_ X
  have hp0 := hp.1
  have k3 : w o 3 0 = 0 ∨ (w o 3 0 = 1 ∧ (0 ≤ w o 4 0 ∧ w o 4 0 < 64) ∧ (0 ≤ w o 5 0 ∧ w o 5 0 ≤ 480) ∧ (0 ≤ w o 6 0 ∧ w o 6 0 ≤ 45)) := by
    rcases hC with h | h
    · exact Or.inl h
    · exact Or.inr ⟨h.1, h.2.1, h.2.2.1, h.2.2.2.1⟩
  refine g_cut1 (pc' := 33) (fun (d_ : Int) => [(0, .ref (gAd G o)), (1, .int (iI set)), (2, .int (iI load)), (3, .int (iI lift))]) (fun (d_ : Int) => []) (fun (d_ : Int) => w) (fun (d_ : Int) => True) ?_ ?_
  · intro d_ hI_33
    try dsimp only
    refine g_iload_n X dX4_find_33 rfl 2 rfl ?_
    refine g_if_lt (tgt := 56) X dX4_find_34 (by decide) (by unfold InR; omega) (fun c_34 => ?_) (fun c_34 => ?_)
    · exact absurd c_34 (by omega) --dead
    · skip
      refine g_iload_n X dX4_find_37 rfl 2 rfl ?_
      refine g_sipush X dX4_find_38 (by decide) ?_
      refine g_icmp_gt (tgt := 56) X dX4_find_41 (by decide) (by unfold InR; omega) ⟨by decide, by decide⟩ (fun c_41 => ?_) (fun c_41 => ?_)
      · exact absurd c_41 (by omega) --dead
      · skip
        refine g_aload_n X dX4_find_44 rfl 0 rfl ?_
        refine g_geto (o' := 2) X ck_X4 ho 0 (by decide) fl_X4_18 rfl hlk dX4_find_45 ?_
        refine g_iload_n X dX4_find_48 rfl 1 rfl ?_
        refine g_iload_n X dX4_find_49 rfl 2 rfl ?_
        refine g_calli (st := []) X (c_X2_can l G 2 set load w h2 (by first | assumption | omega | (unfold InR; omega)) (by first | assumption | omega | (unfold InR; omega)) (by first | assumption | omega | (unfold InR; omega))) cm_X2_can im_X2_can se_X2_can ml_X4_36 ck_X2 h2 ⟨Nat.le_of_ble_eq_true rfl, Nat.le_of_ble_eq_true rfl⟩ rfl rfl (Nat.le_of_ble_eq_true rfl) dX4_find_50 (fn_i ?_)
        refine g_if_ne (tgt := 58) X dX4_find_53 (by decide) (by split <;> exact ⟨by decide, by decide⟩) (fun c_53 => ?_) (fun c_53 => ?_)
        · skip
          have hcan : CanX (w 2) set load := by
            rcases Classical.em (CanX (w 2) set load) with h | h
            · exact h
            · exact absurd (if_neg h) c_53
          refine g_aload_n X dX4_find_58 rfl 0 rfl ?_
          refine g_iconst X dX4_find_59 ?_
          refine g_putf X ck_X4 ho 3 (by decide) fl_X4_22 (Or.inr rfl) rfl (by decide) (by decide) dX4_find_60 ?_
          obtain ⟨w_1, ew_1⟩ : ∃ q_ : Wd, q_ = up w o 3 0 1 := ⟨_, rfl⟩
          refine g_w (w' := w_1) ew_1 ?_
          refine g_aload_n X dX4_find_63 rfl 0 rfl ?_
          refine g_iload_n X dX4_find_64 rfl 1 rfl ?_
          refine g_puti X ck_X4 ho 4 (by decide) fl_X4_26 rfl rfl rfl dX4_find_65 ?_
          obtain ⟨w_2, ew_2⟩ : ∃ q_ : Wd, q_ = up w_1 o 4 0 set := ⟨_, rfl⟩
          refine g_w (w' := w_2) ew_2 ?_
          refine g_aload_n X dX4_find_68 rfl 0 rfl ?_
          refine g_iload_n X dX4_find_69 rfl 2 rfl ?_
          refine g_puti X ck_X4 ho 5 (by decide) fl_X4_30 rfl rfl rfl dX4_find_70 ?_
          obtain ⟨w_3, ew_3⟩ : ∃ q_ : Wd, q_ = up w_2 o 5 0 load := ⟨_, rfl⟩
          refine g_w (w' := w_3) ew_3 ?_
          refine g_aload_n X dX4_find_73 rfl 0 rfl ?_
          refine g_iload_n X dX4_find_74 rfl 3 rfl ?_
          refine g_puti X ck_X4 ho 6 (by decide) fl_X4_33 rfl rfl rfl dX4_find_75 ?_
          obtain ⟨w_4, ew_4⟩ : ∃ q_ : Wd, q_ = up w_3 o 6 0 lift := ⟨_, rfl⟩
          refine g_w (w' := w_4) ew_4 ?_
          refine g_aload_n X dX4_find_78 rfl 0 rfl ?_
          refine g_iconst X dX4_find_79 ?_
          refine g_puti X ck_X4 ho 7 (by decide) fl_X4_42 rfl rfl rfl dX4_find_80 ?_
          obtain ⟨w_5, ew_5⟩ : ∃ q_ : Wd, q_ = up w_4 o 7 0 0 := ⟨_, rfl⟩
          refine g_w (w' := w_5) ew_5 ?_
          refine g_aload_n X dX4_find_83 rfl 0 rfl ?_
          refine g_iconst X dX4_find_84 ?_
          refine g_puti X ck_X4 ho 8 (by decide) fl_X4_45 rfl rfl rfl dX4_find_85 ?_
          obtain ⟨w_6, ew_6⟩ : ∃ q_ : Wd, q_ = up w_5 o 8 0 0 := ⟨_, rfl⟩
          refine g_w (w' := w_6) ew_6 ?_
          refine g_aload_n X dX4_find_88 rfl 0 rfl ?_
          refine g_geta X ck_X4 ho 1 (by decide) fl_X4_11 rfl dX4_find_89 ?_
          refine g_iconst X dX4_find_92 ?_
          refine g_lconst (z := 0) X dX4_find_93 (by decide) ?_
          refine g_last (a := 0) X ho (by decide) (show fkX 4 1 = (2, 481) from rfl) (by decide) (by omega) (by omega) dX4_find_94 ?_
          obtain ⟨w_7, ew_7⟩ : ∃ q_ : Wd, q_ = up w_6 o 1 0 0 := ⟨_, rfl⟩
          refine g_w (w' := w_7) ew_7 ?_
          refine g_iconst X dX4_find_95 ?_
          refine g_istore (lv' := [(4, .int (iI 0)), (0, .ref (gAd G o)), (1, .int (iI set)), (2, .int (iI load)), (3, .int (iI lift))]) X dX4_find_96 (by decide) rfl ?_
          refine g_lv (lv' := [(0, .ref (gAd G o)), (1, .int (iI set)), (2, .int (iI load)), (3, .int (iI lift)), (4, .int (iI 0))]) [1, 2, 3, 4, 0] rfl ?_
          refine g_loop2 (fun (k : Int) (w1 : Wd) => [(0, .ref (gAd G o)), (1, .int (iI set)), (2, .int (iI load)), (3, .int (iI lift)), (4, .int (iI k))]) (fun (k : Int) (w1 : Wd) => w1) (fun (k : Int) (w1 : Wd) => (0 ≤ k) ∧ (k ≤ w 2 0 0) ∧ (∀ o2 f j, o2 ≠ o → w1 o2 f j = w o2 f j) ∧ (ShI (w 2) (w1 o) k.toNat) ∧ (w1 o 3 0 = 1) ∧ (w1 o 4 0 = set) ∧ (w1 o 5 0 = load) ∧ (w1 o 6 0 = lift)) (fun (k : Int) (w1 : Wd) => (w 2 0 0 - k).toNat) 0 w_7 ⟨(by first | omega | rfl | assumption), (by first | omega | rfl | assumption), (by intro o2 f j h; rw [ew_7, ew_6, ew_5, ew_4, ew_3, ew_2, ew_1]; simp [up, h]), (by
              have w0 := win_0 hcan.1 hcan.2
              have e4 : w_7 o 4 0 = set := by rw [ew_7, ew_6, ew_5, ew_4, ew_3, ew_2, ew_1]; simp [up]
              have e5 : w_7 o 5 0 = load := by rw [ew_7, ew_6, ew_5, ew_4, ew_3, ew_2, ew_1]; simp [up]
              have e7 : w_7 o 7 0 = 0 := by rw [ew_7, ew_6, ew_5, ew_4, ew_3, ew_2, ew_1]; simp [up]
              have e8 : w_7 o 8 0 = 0 := by rw [ew_7, ew_6, ew_5, ew_4, ew_3, ew_2, ew_1]; simp [up]
              have e1 : w_7 o 1 0 = 0 := by rw [ew_7, ew_6, ew_5, ew_4, ew_3, ew_2, ew_1]; simp [up]
              refine ⟨?_, ?_, ?_⟩
              · rw [e4, e5, e7]; exact w0.1.symm
              · rw [e4, e5, e8]; exact w0.2.symm
              · rw [e4, e5]
                show ∀ t, lowK (w 2) set load 0 ≤ t → t ≤ highK (w 2) set load 0 → _
                rw [w0.1, w0.2]
                intro t a b
                have e : t = 0 := by omega
                subst e
                rw [show (0 : Int).toNat = 0 from rfl, e1]
                exact best_0), (by rw [ew_7, ew_6, ew_5, ew_4, ew_3, ew_2, ew_1]; simp [up]), (by rw [ew_7, ew_6, ew_5, ew_4, ew_3, ew_2, ew_1]; simp [up]), (by rw [ew_7, ew_6, ew_5, ew_4, ew_3, ew_2, ew_1]; simp [up]), (by rw [ew_7, ew_6, ew_5, ew_4, ew_3, ew_2, ew_1]; simp [up])⟩ ?_
          intro k w1 hI_98 ih_98
          obtain ⟨h0, h1, hfr, hI, g3, g4, g5, g6⟩ := hI_98
          try dsimp only at ih_98 ⊢
          have p2 : w1 2 = w 2 := by funext f j; exact hfr 2 f j (fun z => hne z.symm)
          have p20 : w1 2 0 0 = w 2 0 0 := by rw [p2]
          refine g_iload X dX4_find_98 4 rfl ?_
          refine g_aload_n X dX4_find_100 rfl 0 rfl ?_
          refine g_geto (o' := 2) X ck_X4 ho 0 (by decide) fl_X4_18 rfl hlk dX4_find_101 ?_
          refine g_geti X ck_X2 h2 0 (by decide) fl_X4_48 (Or.inl rfl) dX4_find_104 ?_
          refine g_icmp_ge (tgt := 145) X dX4_find_107 (by decide) (by unfold InR; omega) (by unfold InR; omega) (fun c_107 => ?_) (fun c_107 => ?_)
          · skip
            refine g_iconst X dX4_find_145 ?_
            exact g_iret X rfl (by decide) dX4_find_146 (by
                refine ⟨hfr, Or.inr ⟨g3, by omega, by omega, by omega, by rw [g4, g5]; exact hcan, ?_⟩, Or.inl ⟨rfl, hcan, g3, g4, g5, g6⟩⟩
                have hk : k = w 2 0 0 := by omega
                rw [hk] at hI
                have wn := win_n hcan.1 hcan.2
                have h := hI.2.2 load
                rw [g4, g5, wn.1, wn.2] at h
                have h2 := h (by omega) (by omega)
                rw [g4, g5]
                exact h2)
          · skip
            refine g_aload_n X dX4_find_110 rfl 0 rfl ?_
            refine g_geti X ck_X4 ho 4 (by decide) fl_X4_26 (Or.inl rfl) dX4_find_111 ?_
            refine g_iload X dX4_find_114 4 rfl ?_
            refine g_callni (st := []) X (c_X7_bitOf l G (w1 o 4 0) k w1 (by omega) (by omega)) cm_X7_bitOf sm_X7_bitOf mn_X4_51 ⟨Nat.le_of_ble_eq_true rfl, Nat.le_of_ble_eq_true rfl⟩ rfl rfl (Nat.le_of_ble_eq_true rfl) dX4_find_116 (fn_i ?_)
            refine g_iconst X dX4_find_119 ?_
            refine g_icmp_ne (tgt := 139) X dX4_find_120 (by decide) (by have := tb01 (w1 o 4 0) k.toNat; unfold InR; omega) ⟨by decide, by decide⟩ (fun c_120 => ?_) (fun c_120 => ?_)
            · skip
              refine g_iinc (j := 4) (lv' := [(4, .int (iI (k + 1))), (0, .ref (gAd G o)), (1, .int (iI set)), (2, .int (iI load)), (3, .int (iI lift))]) X dX4_find_139 rfl (by decide) rfl ?_
              refine g_goto (tgt := 98) X dX4_find_142 (by decide) ?_
              refine g_lv (lv' := [(0, .ref (gAd G o)), (1, .int (iI set)), (2, .int (iI load)), (3, .int (iI lift)), (4, .int (iI (k + 1)))]) [1, 2, 3, 4, 0] rfl ?_
              exact ih_98 (k + 1) w1 ⟨(by first | omega | rfl | assumption), (by first | omega | rfl | assumption), (by first | exact hfr | (intro o2 f j h; rw [hfs o2 f j (fun z => h z.1)]; exact hfr o2 f j h)), (by
                  first
                  | (rw [show (k + 1).toNat = k.toNat + 1 by omega]; rw [p2] at hsi; exact hsi)
                  | (rw [show (k + 1).toNat = k.toNat + 1 by omega]; have hb0 : tb (w1 o 4 0) k.toNat = 0 := by (have := tb01 (w1 o 4 0) k.toNat; omega)
                     have ws := win_skip (pl := w 2) (load := w1 o 5 0) hb0
                     refine ⟨by rw [ws.1]; exact hI.1, by rw [ws.2]; exact hI.2.1, ?_⟩
                     rw [ws.1, ws.2]
                     exact fun t a b => best_skip hb0 (hI.2.2 t a b))), (by first | exact g3 | (rw [hfs o 3 0 (by simp)]; exact g3)), (by first | exact g4 | (rw [hfs o 4 0 (by simp)]; exact g4)), (by first | exact g5 | (rw [hfs o 5 0 (by simp)]; exact g5)), (by first | exact g6 | (rw [hfs o 6 0 (by simp)]; exact g6))⟩ (by omega)
            · skip
              refine g_aload_n X dX4_find_123 rfl 0 rfl ?_
              refine g_iload X dX4_find_124 4 rfl ?_
              refine g_aload_n X dX4_find_126 rfl 0 rfl ?_
              refine g_geti X ck_X4 ho 4 (by decide) fl_X4_26 (Or.inl rfl) dX4_find_127 ?_
              refine g_iconst X dX4_find_130 ?_
              refine g_iload X dX4_find_131 4 rfl ?_
              refine g_ishl X dX4_find_133 ?_
              refine g_ineg X dX4_find_134 ?_
              refine g_iand X dX4_find_135 ?_
              refine g_callv (st := []) X (c_X4_addMachine l G o k (band (w1 o 4 0) (-(bshl 2 k))) w1 ho h2 hlk (by first | assumption | omega | (unfold InR; omega)) (by rw [p2]; exact hp) (by first | assumption | omega | (unfold InR; omega)) (by first | assumption | omega | (unfold InR; omega)) (by first | assumption | omega | (unfold InR; omega)) (by first | assumption | omega | (unfold InR; omega)) (by rw [p2, g4, g5]; exact hcan.1) (by rw [p2, g4, g5]; exact hcan.2) (by rw [p2]; exact hI) (by omega) (by have := bt_later (s := w1 o 4 0) (m := k) (by omega) (by omega) h0 (by omega); omega) (by exact (bt_later (s := w1 o 4 0) (m := k) (by omega) (by omega) h0 (by omega)).2.2)) cm_X4_addMachine im_X4_addMachine se_X4_addMachine ml_X4_55 ck_X4 ho ⟨Nat.le_of_ble_eq_true rfl, Nat.le_of_ble_eq_true rfl⟩ rfl rfl (Nat.le_of_ble_eq_true rfl) dX4_find_136 ?_
              rintro u_136 ⟨hsi, hfs⟩
              refine g_iinc (j := 4) (lv' := [(4, .int (iI (k + 1))), (0, .ref (gAd G o)), (1, .int (iI set)), (2, .int (iI load)), (3, .int (iI lift))]) X dX4_find_139 rfl (by decide) rfl ?_
              refine g_goto (tgt := 98) X dX4_find_142 (by decide) ?_
              refine g_lv (lv' := [(0, .ref (gAd G o)), (1, .int (iI set)), (2, .int (iI load)), (3, .int (iI lift)), (4, .int (iI (k + 1)))]) [1, 2, 3, 4, 0] rfl ?_
              exact ih_98 (k + 1) u_136 ⟨(by first | omega | rfl | assumption), (by first | omega | rfl | assumption), (by first | exact hfr | (intro o2 f j h; rw [hfs o2 f j (fun z => h z.1)]; exact hfr o2 f j h)), (by
                  first
                  | (rw [show (k + 1).toNat = k.toNat + 1 by omega]; rw [p2] at hsi; exact hsi)
                  | (rw [show (k + 1).toNat = k.toNat + 1 by omega]; have hb0 : tb (w1 o 4 0) k.toNat = 0 := by (have := tb01 (w1 o 4 0) k.toNat; omega)
                     have ws := win_skip (pl := w 2) (load := w1 o 5 0) hb0
                     refine ⟨by rw [ws.1]; exact hI.1, by rw [ws.2]; exact hI.2.1, ?_⟩
                     rw [ws.1, ws.2]
                     exact fun t a b => best_skip hb0 (hI.2.2 t a b))), (by first | exact g3 | (rw [hfs o 3 0 (by simp)]; exact g3)), (by first | exact g4 | (rw [hfs o 4 0 (by simp)]; exact g4)), (by first | exact g5 | (rw [hfs o 5 0 (by simp)]; exact g5)), (by first | exact g6 | (rw [hfs o 6 0 (by simp)]; exact g6))⟩ (by omega)
        · skip
          refine g_iconst X dX4_find_56 ?_
          exact g_iret X rfl (by decide) dX4_find_57 (by exact ⟨fun _ _ _ _ => rfl, hC, Or.inr ⟨rfl, fun h => c_53 (by rw [if_pos (show _ ∧ _ from h)]; decide)⟩⟩)
  · intro J_33
    try dsimp only at J_33
    refine g_aload_n X dX4_find_0 rfl 0 rfl ?_
    refine g_geti X ck_X4 ho 3 (by decide) fl_X4_22 (Or.inr rfl) dX4_find_1 ?_
    refine g_if_eq (tgt := 33) X dX4_find_4 (by decide) (by unfold InR; omega) (fun c_4 => ?_) (fun c_4 => ?_)
    · skip
      refine g_lv (lv' := [(0, .ref (gAd G o)), (1, .int (iI set)), (2, .int (iI load)), (3, .int (iI lift))]) [0, 1, 2, 3] rfl ?_
      exact J_33 0 trivial
    · skip
      refine g_aload_n X dX4_find_7 rfl 0 rfl ?_
      refine g_geti X ck_X4 ho 4 (by decide) fl_X4_26 (Or.inl rfl) dX4_find_8 ?_
      refine g_iload_n X dX4_find_11 rfl 1 rfl ?_
      refine g_icmp_ne (tgt := 33) X dX4_find_12 (by decide) (by unfold InR; omega) (by unfold InR; omega) (fun c_12 => ?_) (fun c_12 => ?_)
      · skip
        refine g_lv (lv' := [(0, .ref (gAd G o)), (1, .int (iI set)), (2, .int (iI load)), (3, .int (iI lift))]) [0, 1, 2, 3] rfl ?_
        exact J_33 0 trivial
      · skip
        refine g_aload_n X dX4_find_15 rfl 0 rfl ?_
        refine g_geti X ck_X4 ho 5 (by decide) fl_X4_30 (Or.inl rfl) dX4_find_16 ?_
        refine g_iload_n X dX4_find_19 rfl 2 rfl ?_
        refine g_icmp_ne (tgt := 33) X dX4_find_20 (by decide) (by unfold InR; omega) (by unfold InR; omega) (fun c_20 => ?_) (fun c_20 => ?_)
        · skip
          refine g_lv (lv' := [(0, .ref (gAd G o)), (1, .int (iI set)), (2, .int (iI load)), (3, .int (iI lift))]) [0, 1, 2, 3] rfl ?_
          exact J_33 0 trivial
        · skip
          refine g_aload_n X dX4_find_23 rfl 0 rfl ?_
          refine g_geti X ck_X4 ho 6 (by decide) fl_X4_33 (Or.inl rfl) dX4_find_24 ?_
          refine g_iload_n X dX4_find_27 rfl 3 rfl ?_
          refine g_icmp_ne (tgt := 33) X dX4_find_28 (by decide) (by unfold InR; omega) (by unfold InR; omega) (fun c_28 => ?_) (fun c_28 => ?_)
          · skip
            refine g_lv (lv' := [(0, .ref (gAd G o)), (1, .int (iI set)), (2, .int (iI load)), (3, .int (iI lift))]) [0, 1, 2, 3] rfl ?_
            exact J_33 0 trivial
          · skip
            refine g_iconst X dX4_find_31 ?_
            exact g_iret X rfl (by decide) dX4_find_32 (by
                refine ⟨fun _ _ _ _ => rfl, hC, Or.inl ⟨rfl, ?_, by omega, by omega, by omega, by omega⟩⟩
                rcases hC with h | h
                · omega
                · rw [show set = w o 4 0 by omega, show load = w o 5 0 by omega]; exact h.2.2.2.2.1)
set_option maxHeartbeats 4000000 in
set_option maxRecDepth 100000 in
theorem c_X4_leastPower (l : Launch) (G : Ly) (o : Nat) (w : Wd) (ho : gOb G o = some 4) (hld : 0 ≤ w o 5 0 ∧ w o 5 0 ≤ 480) : Mi l yX4_leastPower cX4_leastPower 1 (some .int) 0 0 G [.ref (gAd G o)] w (fun z w2 => z = (l2j (lshr (w o 1 (w o 5 0).toNat) 42)) ∧ w2 = w) := by
  refine mi_of (lv := [(0, .ref (gAd G o))]) (by decide) (Nat.le_of_ble_eq_true rfl) rfl ?_
  intro p_ e_ s_ m_ b_ h_ c_ X
  refine g_aload_n X dX4_leastPower_0 rfl 0 rfl ?_
  refine g_geta X ck_X4 ho 1 (by decide) fl_X4_11 rfl dX4_leastPower_1 ?_
  refine g_aload_n X dX4_leastPower_4 rfl 0 rfl ?_
  refine g_geti X ck_X4 ho 5 (by decide) fl_X4_30 (Or.inl rfl) dX4_leastPower_5 ?_
  refine g_lald (a := w o 5 0) X ho (by decide) (show fkX 4 1 = (2, 481) from rfl) (by decide) (by omega) (by omega) dX4_leastPower_8 ?_
  refine g_bipush X dX4_leastPower_9 (by decide) ?_
  refine g_lshr X dX4_leastPower_11 ?_
  refine g_l2i X dX4_leastPower_12 ?_
  exact g_iret X rfl rfl dX4_leastPower_13 (by first | exact ⟨rfl, rfl⟩ | rfl | omega)
set_option maxHeartbeats 4000000 in
set_option maxRecDepth 100000 in
theorem c_X4_part (l : Launch) (G : Ly) (o : Nat) (m : Int) (w : Wd) (ho : gOb G o = some 4) (hld : 0 ≤ w o 5 0 ∧ w o 5 0 ≤ 480) : Mi l yX4_part cX4_part 2 (some .int) 1 20 G [.ref (gAd G o), .int (iI m)] w (fun z w2 => z = (band (l2j (lshr (w o 1 (w o 5 0).toNat) (7 * (5 - m)))) 127) ∧ w2 = w) := by
  refine mi_of (lv := [(0, .ref (gAd G o)), (1, .int (iI m))]) (by decide) (Nat.le_of_ble_eq_true rfl) rfl ?_
  intro p_ e_ s_ m_ b_ h_ c_ X
  refine g_aload_n X dX4_part_0 rfl 0 rfl ?_
  refine g_geta X ck_X4 ho 1 (by decide) fl_X4_11 rfl dX4_part_1 ?_
  refine g_aload_n X dX4_part_4 rfl 0 rfl ?_
  refine g_geti X ck_X4 ho 5 (by decide) fl_X4_30 (Or.inl rfl) dX4_part_5 ?_
  refine g_lald (a := w o 5 0) X ho (by decide) (show fkX 4 1 = (2, 481) from rfl) (by decide) (by omega) (by omega) dX4_part_8 ?_
  refine g_iload_n X dX4_part_9 rfl 1 rfl ?_
  refine g_callsi (st := [.long (lI (w o 1 (w o 5 0).toNat))]) X (c_X4_shiftOf l G m w) cm_X4_shiftOf sm_X4_shiftOf ml_X4_59 ⟨Nat.le_of_ble_eq_true rfl, Nat.le_of_ble_eq_true rfl⟩ rfl rfl (Nat.le_of_ble_eq_true rfl) dX4_part_10 (fn_i ?_)
  refine g_lshr X dX4_part_13 ?_
  refine g_l2i X dX4_part_14 ?_
  refine g_bipush X dX4_part_15 (by decide) ?_
  refine g_iand X dX4_part_17 ?_
  exact g_iret X rfl rfl dX4_part_18 (by first | exact ⟨rfl, rfl⟩ | rfl | omega)
end
