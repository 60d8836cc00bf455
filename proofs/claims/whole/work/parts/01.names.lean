-- ===== PART A: goes FIRST, ahead of the names: the tables' words, and 'selects' of the private methods out of them =====
/-- a private method of a class that the tables say can be made, by its rows of tables_1 -/
def lw_okq (q : MethodName × Nat) : Prop := (q.1.cls ≠ "java/lang/invoke/MethodHandle" ∧ q.1.cls ≠ "java/lang/invoke/VarHandle") ∧ Cond.instantiable q.1.cls q.2 ∈ tables_1 ∧ Cond.privateMethod q.1 ∈ tables_1 ∧ Cond.instanceMethod q.1 ∈ tables_1
theorem lw_p0 : lw_okq (⟨"HourEggs", "finding", "(I)I"⟩, 8) := ⟨⟨by decide +kernel, by decide +kernel⟩, List.mem_of_getElem? (i := 17) (by decide +kernel), List.mem_of_getElem? (i := 184) (by decide +kernel), List.mem_of_getElem? (i := 185) (by decide +kernel)⟩
theorem lw_p1 : lw_okq (⟨"HourEggs", "replace", "(LHourEggs$Table;III)I"⟩, 8) := ⟨⟨by decide +kernel, by decide +kernel⟩, List.mem_of_getElem? (i := 17) (by decide +kernel), List.mem_of_getElem? (i := 247) (by decide +kernel), List.mem_of_getElem? (i := 248) (by decide +kernel)⟩
theorem lw_p2 : lw_okq (⟨"HourEggs$House", "eggsAge", "()I"⟩, 7) := ⟨⟨by decide +kernel, by decide +kernel⟩, List.mem_of_getElem? (i := 25) (by decide +kernel), List.mem_of_getElem? (i := 313) (by decide +kernel), List.mem_of_getElem? (i := 314) (by decide +kernel)⟩
theorem lw_p3 : lw_okq (⟨"HourEggs$House", "hensLay", "()V"⟩, 7) := ⟨⟨by decide +kernel, by decide +kernel⟩, List.mem_of_getElem? (i := 25) (by decide +kernel), List.mem_of_getElem? (i := 318) (by decide +kernel), List.mem_of_getElem? (i := 319) (by decide +kernel)⟩
theorem lw_p4 : lw_okq (⟨"HourEggs", "minutesWithEvery", "(III)I"⟩, 8) := ⟨⟨by decide +kernel, by decide +kernel⟩, List.mem_of_getElem? (i := 17) (by decide +kernel), List.mem_of_getElem? (i := 389) (by decide +kernel), List.mem_of_getElem? (i := 390) (by decide +kernel)⟩
theorem lw_p5 : lw_okq (⟨"HourEggs$Choices", "does", "(LHourEggs$House;II)Z"⟩, 3) := ⟨⟨by decide +kernel, by decide +kernel⟩, List.mem_of_getElem? (i := 102) (by decide +kernel), List.mem_of_getElem? (i := 407) (by decide +kernel), List.mem_of_getElem? (i := 408) (by decide +kernel)⟩
theorem lw_p6 : lw_okq (⟨"HourEggs$Choices", "isOfEggs", "(I)Z"⟩, 3) := ⟨⟨by decide +kernel, by decide +kernel⟩, List.mem_of_getElem? (i := 102) (by decide +kernel), List.mem_of_getElem? (i := 411) (by decide +kernel), List.mem_of_getElem? (i := 412) (by decide +kernel)⟩
theorem lw_p7 : lw_okq (⟨"HourEggs$Choices", "sumOf", "(I)I"⟩, 3) := ⟨⟨by decide +kernel, by decide +kernel⟩, List.mem_of_getElem? (i := 102) (by decide +kernel), List.mem_of_getElem? (i := 416) (by decide +kernel), List.mem_of_getElem? (i := 417) (by decide +kernel)⟩
theorem lw_p8 : lw_okq (⟨"HourEggs$Choices", "offer", "(II)V"⟩, 3) := ⟨⟨by decide +kernel, by decide +kernel⟩, List.mem_of_getElem? (i := 102) (by decide +kernel), List.mem_of_getElem? (i := 440) (by decide +kernel), List.mem_of_getElem? (i := 441) (by decide +kernel)⟩
theorem lw_p9 : lw_okq (⟨"HourEggs$Choices", "bestWithOneMore", "(III)I"⟩, 3) := ⟨⟨by decide +kernel, by decide +kernel⟩, List.mem_of_getElem? (i := 102) (by decide +kernel), List.mem_of_getElem? (i := 444) (by decide +kernel), List.mem_of_getElem? (i := 445) (by decide +kernel)⟩
theorem lw_p10 : lw_okq (⟨"HourEggs$Choices", "markOf", "(I)I"⟩, 3) := ⟨⟨by decide +kernel, by decide +kernel⟩, List.mem_of_getElem? (i := 102) (by decide +kernel), List.mem_of_getElem? (i := 448) (by decide +kernel), List.mem_of_getElem? (i := 449) (by decide +kernel)⟩
theorem lw_p11 : lw_okq (⟨"HourEggs", "wrongTold", "(II)I"⟩, 8) := ⟨⟨by decide +kernel, by decide +kernel⟩, List.mem_of_getElem? (i := 17) (by decide +kernel), List.mem_of_getElem? (i := 513) (by decide +kernel), List.mem_of_getElem? (i := 514) (by decide +kernel)⟩
theorem lw_p12 : lw_okq (⟨"HourEggs", "wrongSheet", "(I)I"⟩, 8) := ⟨⟨by decide +kernel, by decide +kernel⟩, List.mem_of_getElem? (i := 17) (by decide +kernel), List.mem_of_getElem? (i := 517) (by decide +kernel), List.mem_of_getElem? (i := 518) (by decide +kernel)⟩
theorem lw_p13 : lw_okq (⟨"HourEggs", "sheetAt", "(I)LHourEggs$Sheet;"⟩, 8) := ⟨⟨by decide +kernel, by decide +kernel⟩, List.mem_of_getElem? (i := 17) (by decide +kernel), List.mem_of_getElem? (i := 521) (by decide +kernel), List.mem_of_getElem? (i := 522) (by decide +kernel)⟩
theorem lw_p14 : lw_okq (⟨"HourEggs", "fits", "(LHourEggs$Sheet;II)Z"⟩, 8) := ⟨⟨by decide +kernel, by decide +kernel⟩, List.mem_of_getElem? (i := 17) (by decide +kernel), List.mem_of_getElem? (i := 529) (by decide +kernel), List.mem_of_getElem? (i := 530) (by decide +kernel)⟩
theorem lw_p15 : lw_okq (⟨"HourEggs$Reader", "advance", "()V"⟩, 6) := ⟨⟨by decide +kernel, by decide +kernel⟩, List.mem_of_getElem? (i := 576) (by decide +kernel), List.mem_of_getElem? (i := 605) (by decide +kernel), List.mem_of_getElem? (i := 606) (by decide +kernel)⟩
def lw_privs_1 : List (MethodName × Nat) := [(⟨"HourEggs", "finding", "(I)I"⟩, 8), (⟨"HourEggs", "replace", "(LHourEggs$Table;III)I"⟩, 8), (⟨"HourEggs$House", "eggsAge", "()I"⟩, 7), (⟨"HourEggs$House", "hensLay", "()V"⟩, 7), (⟨"HourEggs", "minutesWithEvery", "(III)I"⟩, 8), (⟨"HourEggs$Choices", "does", "(LHourEggs$House;II)Z"⟩, 3), (⟨"HourEggs$Choices", "isOfEggs", "(I)Z"⟩, 3), (⟨"HourEggs$Choices", "sumOf", "(I)I"⟩, 3), (⟨"HourEggs$Choices", "offer", "(II)V"⟩, 3), (⟨"HourEggs$Choices", "bestWithOneMore", "(III)I"⟩, 3), (⟨"HourEggs$Choices", "markOf", "(I)I"⟩, 3), (⟨"HourEggs", "wrongTold", "(II)I"⟩, 8), (⟨"HourEggs", "wrongSheet", "(I)I"⟩, 8), (⟨"HourEggs", "sheetAt", "(I)LHourEggs$Sheet;"⟩, 8), (⟨"HourEggs", "fits", "(LHourEggs$Sheet;II)Z"⟩, 8), (⟨"HourEggs$Reader", "advance", "()V"⟩, 6)]
theorem lw_r1 : ∀ q ∈ lw_privs_1, lw_okq q := List.forall_mem_cons.mpr ⟨lw_p0, List.forall_mem_cons.mpr ⟨lw_p1, List.forall_mem_cons.mpr ⟨lw_p2, List.forall_mem_cons.mpr ⟨lw_p3, List.forall_mem_cons.mpr ⟨lw_p4, List.forall_mem_cons.mpr ⟨lw_p5, List.forall_mem_cons.mpr ⟨lw_p6, List.forall_mem_cons.mpr ⟨lw_p7, List.forall_mem_cons.mpr ⟨lw_p8, List.forall_mem_cons.mpr ⟨lw_p9, List.forall_mem_cons.mpr ⟨lw_p10, List.forall_mem_cons.mpr ⟨lw_p11, List.forall_mem_cons.mpr ⟨lw_p12, List.forall_mem_cons.mpr ⟨lw_p13, List.forall_mem_cons.mpr ⟨lw_p14, List.forall_mem_cons.mpr ⟨lw_p15, fun _ h => absurd h List.not_mem_nil⟩⟩⟩⟩⟩⟩⟩⟩⟩⟩⟩⟩⟩⟩⟩⟩
theorem lw_p16 : lw_okq (⟨"HourEggs$Reader", "kindAhead", "()I"⟩, 6) := ⟨⟨by decide +kernel, by decide +kernel⟩, List.mem_of_getElem? (i := 576) (by decide +kernel), List.mem_of_getElem? (i := 618) (by decide +kernel), List.mem_of_getElem? (i := 619) (by decide +kernel)⟩
theorem lw_p17 : lw_okq (⟨"HourEggs$Reader", "isAhead", "(Ljava/lang/String;)Z"⟩, 6) := ⟨⟨by decide +kernel, by decide +kernel⟩, List.mem_of_getElem? (i := 576) (by decide +kernel), List.mem_of_getElem? (i := 632) (by decide +kernel), List.mem_of_getElem? (i := 633) (by decide +kernel)⟩
theorem lw_p18 : lw_okq (⟨"HourEggs$Reader", "readEgg", "(I)Z"⟩, 6) := ⟨⟨by decide +kernel, by decide +kernel⟩, List.mem_of_getElem? (i := 576) (by decide +kernel), List.mem_of_getElem? (i := 684) (by decide +kernel), List.mem_of_getElem? (i := 685) (by decide +kernel)⟩
theorem lw_p19 : lw_okq (⟨"HourEggs$Reader", "readNumber", "(II)I"⟩, 6) := ⟨⟨by decide +kernel, by decide +kernel⟩, List.mem_of_getElem? (i := 576) (by decide +kernel), List.mem_of_getElem? (i := 689) (by decide +kernel), List.mem_of_getElem? (i := 690) (by decide +kernel)⟩
theorem lw_p20 : lw_okq (⟨"HourEggs$Reader", "readPerhaps", "(Ljava/lang/String;II)I"⟩, 6) := ⟨⟨by decide +kernel, by decide +kernel⟩, List.mem_of_getElem? (i := 576) (by decide +kernel), List.mem_of_getElem? (i := 694) (by decide +kernel), List.mem_of_getElem? (i := 695) (by decide +kernel)⟩
theorem lw_p21 : lw_okq (⟨"HourEggs$Reader", "readHen", "()Z"⟩, 6) := ⟨⟨by decide +kernel, by decide +kernel⟩, List.mem_of_getElem? (i := 576) (by decide +kernel), List.mem_of_getElem? (i := 701) (by decide +kernel), List.mem_of_getElem? (i := 702) (by decide +kernel)⟩
theorem lw_p22 : lw_okq (⟨"HourEggs$Reader", "readWork", "()Z"⟩, 6) := ⟨⟨by decide +kernel, by decide +kernel⟩, List.mem_of_getElem? (i := 576) (by decide +kernel), List.mem_of_getElem? (i := 706) (by decide +kernel), List.mem_of_getElem? (i := 707) (by decide +kernel)⟩
theorem lw_p23 : lw_okq (⟨"HourEggsModel", "no", "(I)I"⟩, 21) := ⟨⟨by decide +kernel, by decide +kernel⟩, List.mem_of_getElem? (i := 802) (by decide +kernel), List.mem_of_getElem? (i := 882) (by decide +kernel), List.mem_of_getElem? (i := 883) (by decide +kernel)⟩
theorem lw_p24 : lw_okq (⟨"HourEggsModel", "lays", "(IIII)I"⟩, 21) := ⟨⟨by decide +kernel, by decide +kernel⟩, List.mem_of_getElem? (i := 802) (by decide +kernel), List.mem_of_getElem? (i := 887) (by decide +kernel), List.mem_of_getElem? (i := 888) (by decide +kernel)⟩
theorem lw_p25 : lw_okq (⟨"HourEggsModel", "free", "()I"⟩, 21) := ⟨⟨by decide +kernel, by decide +kernel⟩, List.mem_of_getElem? (i := 802) (by decide +kernel), List.mem_of_getElem? (i := 891) (by decide +kernel), List.mem_of_getElem? (i := 892) (by decide +kernel)⟩
theorem lw_p26 : lw_okq (⟨"HourEggsModel", "isThere", "(I)Z"⟩, 21) := ⟨⟨by decide +kernel, by decide +kernel⟩, List.mem_of_getElem? (i := 802) (by decide +kernel), List.mem_of_getElem? (i := 895) (by decide +kernel), List.mem_of_getElem? (i := 896) (by decide +kernel)⟩
theorem lw_p27 : lw_okq (⟨"HourEggsModel", "get", "(II)I"⟩, 21) := ⟨⟨by decide +kernel, by decide +kernel⟩, List.mem_of_getElem? (i := 802) (by decide +kernel), List.mem_of_getElem? (i := 899) (by decide +kernel), List.mem_of_getElem? (i := 900) (by decide +kernel)⟩
theorem lw_p28 : lw_okq (⟨"HourEggsModel", "puts", "(III)V"⟩, 21) := ⟨⟨by decide +kernel, by decide +kernel⟩, List.mem_of_getElem? (i := 802) (by decide +kernel), List.mem_of_getElem? (i := 903) (by decide +kernel), List.mem_of_getElem? (i := 904) (by decide +kernel)⟩
theorem lw_p29 : lw_okq (⟨"HourEggsModel", "isEgg", "(I)Z"⟩, 21) := ⟨⟨by decide +kernel, by decide +kernel⟩, List.mem_of_getElem? (i := 802) (by decide +kernel), List.mem_of_getElem? (i := 911) (by decide +kernel), List.mem_of_getElem? (i := 912) (by decide +kernel)⟩
theorem lw_p30 : lw_okq (⟨"HourEggsModel", "minutes", "(I)I"⟩, 21) := ⟨⟨by decide +kernel, by decide +kernel⟩, List.mem_of_getElem? (i := 802) (by decide +kernel), List.mem_of_getElem? (i := 918) (by decide +kernel), List.mem_of_getElem? (i := 919) (by decide +kernel)⟩
theorem lw_p31 : lw_okq (⟨"HourEggsModel", "hens", "(II)I"⟩, 21) := ⟨⟨by decide +kernel, by decide +kernel⟩, List.mem_of_getElem? (i := 802) (by decide +kernel), List.mem_of_getElem? (i := 945) (by decide +kernel), List.mem_of_getElem? (i := 946) (by decide +kernel)⟩
def lw_privs_2 : List (MethodName × Nat) := [(⟨"HourEggs$Reader", "kindAhead", "()I"⟩, 6), (⟨"HourEggs$Reader", "isAhead", "(Ljava/lang/String;)Z"⟩, 6), (⟨"HourEggs$Reader", "readEgg", "(I)Z"⟩, 6), (⟨"HourEggs$Reader", "readNumber", "(II)I"⟩, 6), (⟨"HourEggs$Reader", "readPerhaps", "(Ljava/lang/String;II)I"⟩, 6), (⟨"HourEggs$Reader", "readHen", "()Z"⟩, 6), (⟨"HourEggs$Reader", "readWork", "()Z"⟩, 6), (⟨"HourEggsModel", "no", "(I)I"⟩, 21), (⟨"HourEggsModel", "lays", "(IIII)I"⟩, 21), (⟨"HourEggsModel", "free", "()I"⟩, 21), (⟨"HourEggsModel", "isThere", "(I)Z"⟩, 21), (⟨"HourEggsModel", "get", "(II)I"⟩, 21), (⟨"HourEggsModel", "puts", "(III)V"⟩, 21), (⟨"HourEggsModel", "isEgg", "(I)Z"⟩, 21), (⟨"HourEggsModel", "minutes", "(I)I"⟩, 21), (⟨"HourEggsModel", "hens", "(II)I"⟩, 21)]
theorem lw_r2 : ∀ q ∈ lw_privs_2, lw_okq q := List.forall_mem_cons.mpr ⟨lw_p16, List.forall_mem_cons.mpr ⟨lw_p17, List.forall_mem_cons.mpr ⟨lw_p18, List.forall_mem_cons.mpr ⟨lw_p19, List.forall_mem_cons.mpr ⟨lw_p20, List.forall_mem_cons.mpr ⟨lw_p21, List.forall_mem_cons.mpr ⟨lw_p22, List.forall_mem_cons.mpr ⟨lw_p23, List.forall_mem_cons.mpr ⟨lw_p24, List.forall_mem_cons.mpr ⟨lw_p25, List.forall_mem_cons.mpr ⟨lw_p26, List.forall_mem_cons.mpr ⟨lw_p27, List.forall_mem_cons.mpr ⟨lw_p28, List.forall_mem_cons.mpr ⟨lw_p29, List.forall_mem_cons.mpr ⟨lw_p30, List.forall_mem_cons.mpr ⟨lw_p31, fun _ h => absurd h List.not_mem_nil⟩⟩⟩⟩⟩⟩⟩⟩⟩⟩⟩⟩⟩⟩⟩⟩
theorem lw_p32 : lw_okq (⟨"HourEggsModel", "works", "(II)I"⟩, 21) := ⟨⟨by decide +kernel, by decide +kernel⟩, List.mem_of_getElem? (i := 802) (by decide +kernel), List.mem_of_getElem? (i := 956) (by decide +kernel), List.mem_of_getElem? (i := 957) (by decide +kernel)⟩
theorem lw_p33 : lw_okq (⟨"HourEggsModel", "isDone", "(I)Z"⟩, 21) := ⟨⟨by decide +kernel, by decide +kernel⟩, List.mem_of_getElem? (i := 802) (by decide +kernel), List.mem_of_getElem? (i := 968) (by decide +kernel), List.mem_of_getElem? (i := 969) (by decide +kernel)⟩
theorem lw_p34 : lw_okq (⟨"HourEggsModel", "isOver", "(I)Z"⟩, 21) := ⟨⟨by decide +kernel, by decide +kernel⟩, List.mem_of_getElem? (i := 802) (by decide +kernel), List.mem_of_getElem? (i := 976) (by decide +kernel), List.mem_of_getElem? (i := 977) (by decide +kernel)⟩
theorem lw_p35 : lw_okq (⟨"HourEggsModel", "goesEgg", "(I)V"⟩, 21) := ⟨⟨by decide +kernel, by decide +kernel⟩, List.mem_of_getElem? (i := 802) (by decide +kernel), List.mem_of_getElem? (i := 980) (by decide +kernel), List.mem_of_getElem? (i := 981) (by decide +kernel)⟩
theorem lw_p36 : lw_okq (⟨"HourEggsModel", "day", "()I"⟩, 21) := ⟨⟨by decide +kernel, by decide +kernel⟩, List.mem_of_getElem? (i := 802) (by decide +kernel), List.mem_of_getElem? (i := 992) (by decide +kernel), List.mem_of_getElem? (i := 993) (by decide +kernel)⟩
theorem lw_p37 : lw_okq (⟨"HourEggsModel", "eggs", "()I"⟩, 21) := ⟨⟨by decide +kernel, by decide +kernel⟩, List.mem_of_getElem? (i := 802) (by decide +kernel), List.mem_of_getElem? (i := 996) (by decide +kernel), List.mem_of_getElem? (i := 997) (by decide +kernel)⟩
theorem lw_p38 : lw_okq (⟨"HourEggsModel", "allMinutes", "()I"⟩, 21) := ⟨⟨by decide +kernel, by decide +kernel⟩, List.mem_of_getElem? (i := 802) (by decide +kernel), List.mem_of_getElem? (i := 1007) (by decide +kernel), List.mem_of_getElem? (i := 1008) (by decide +kernel)⟩
theorem lw_p39 : lw_okq (⟨"HourEggsModel", "sumOf", "(I)I"⟩, 21) := ⟨⟨by decide +kernel, by decide +kernel⟩, List.mem_of_getElem? (i := 802) (by decide +kernel), List.mem_of_getElem? (i := 1011) (by decide +kernel), List.mem_of_getElem? (i := 1012) (by decide +kernel)⟩
theorem lw_p40 : lw_okq (⟨"HourEggsModel", "done", "()I"⟩, 21) := ⟨⟨by decide +kernel, by decide +kernel⟩, List.mem_of_getElem? (i := 802) (by decide +kernel), List.mem_of_getElem? (i := 1018) (by decide +kernel), List.mem_of_getElem? (i := 1019) (by decide +kernel)⟩
theorem lw_p41 : lw_okq (⟨"HourEggsModel", "setsAside", "()V"⟩, 21) := ⟨⟨by decide +kernel, by decide +kernel⟩, List.mem_of_getElem? (i := 802) (by decide +kernel), List.mem_of_getElem? (i := 1026) (by decide +kernel), List.mem_of_getElem? (i := 1027) (by decide +kernel)⟩
theorem lw_p42 : lw_okq (⟨"HourEggsModel", "laysBack", "()V"⟩, 21) := ⟨⟨by decide +kernel, by decide +kernel⟩, List.mem_of_getElem? (i := 802) (by decide +kernel), List.mem_of_getElem? (i := 1030) (by decide +kernel), List.mem_of_getElem? (i := 1031) (by decide +kernel)⟩
theorem lw_p43 : lw_okq (⟨"HourEggsModel", "then", "(IIII)I"⟩, 21) := ⟨⟨by decide +kernel, by decide +kernel⟩, List.mem_of_getElem? (i := 802) (by decide +kernel), List.mem_of_getElem? (i := 1042) (by decide +kernel), List.mem_of_getElem? (i := 1043) (by decide +kernel)⟩
theorem lw_p44 : lw_okq (⟨"HourEggsModel", "does", "(II)Z"⟩, 21) := ⟨⟨by decide +kernel, by decide +kernel⟩, List.mem_of_getElem? (i := 802) (by decide +kernel), List.mem_of_getElem? (i := 1066) (by decide +kernel), List.mem_of_getElem? (i := 1067) (by decide +kernel)⟩
theorem lw_p45 : lw_okq (⟨"HourEggsModel", "bestSet", "()I"⟩, 21) := ⟨⟨by decide +kernel, by decide +kernel⟩, List.mem_of_getElem? (i := 802) (by decide +kernel), List.mem_of_getElem? (i := 1078) (by decide +kernel), List.mem_of_getElem? (i := 1079) (by decide +kernel)⟩
theorem lw_p46 : lw_okq (⟨"HourEggsModel", "dealt", "(II)Z"⟩, 21) := ⟨⟨by decide +kernel, by decide +kernel⟩, List.mem_of_getElem? (i := 802) (by decide +kernel), List.mem_of_getElem? (i := 1082) (by decide +kernel), List.mem_of_getElem? (i := 1083) (by decide +kernel)⟩
theorem lw_p47 : lw_okq (⟨"HourEggsModel", "worthOf", "(I)I"⟩, 21) := ⟨⟨by decide +kernel, by decide +kernel⟩, List.mem_of_getElem? (i := 802) (by decide +kernel), List.mem_of_getElem? (i := 1089) (by decide +kernel), List.mem_of_getElem? (i := 1090) (by decide +kernel)⟩
def lw_privs_3 : List (MethodName × Nat) := [(⟨"HourEggsModel", "works", "(II)I"⟩, 21), (⟨"HourEggsModel", "isDone", "(I)Z"⟩, 21), (⟨"HourEggsModel", "isOver", "(I)Z"⟩, 21), (⟨"HourEggsModel", "goesEgg", "(I)V"⟩, 21), (⟨"HourEggsModel", "day", "()I"⟩, 21), (⟨"HourEggsModel", "eggs", "()I"⟩, 21), (⟨"HourEggsModel", "allMinutes", "()I"⟩, 21), (⟨"HourEggsModel", "sumOf", "(I)I"⟩, 21), (⟨"HourEggsModel", "done", "()I"⟩, 21), (⟨"HourEggsModel", "setsAside", "()V"⟩, 21), (⟨"HourEggsModel", "laysBack", "()V"⟩, 21), (⟨"HourEggsModel", "then", "(IIII)I"⟩, 21), (⟨"HourEggsModel", "does", "(II)Z"⟩, 21), (⟨"HourEggsModel", "bestSet", "()I"⟩, 21), (⟨"HourEggsModel", "dealt", "(II)Z"⟩, 21), (⟨"HourEggsModel", "worthOf", "(I)I"⟩, 21)]
theorem lw_r3 : ∀ q ∈ lw_privs_3, lw_okq q := List.forall_mem_cons.mpr ⟨lw_p32, List.forall_mem_cons.mpr ⟨lw_p33, List.forall_mem_cons.mpr ⟨lw_p34, List.forall_mem_cons.mpr ⟨lw_p35, List.forall_mem_cons.mpr ⟨lw_p36, List.forall_mem_cons.mpr ⟨lw_p37, List.forall_mem_cons.mpr ⟨lw_p38, List.forall_mem_cons.mpr ⟨lw_p39, List.forall_mem_cons.mpr ⟨lw_p40, List.forall_mem_cons.mpr ⟨lw_p41, List.forall_mem_cons.mpr ⟨lw_p42, List.forall_mem_cons.mpr ⟨lw_p43, List.forall_mem_cons.mpr ⟨lw_p44, List.forall_mem_cons.mpr ⟨lw_p45, List.forall_mem_cons.mpr ⟨lw_p46, List.forall_mem_cons.mpr ⟨lw_p47, fun _ h => absurd h List.not_mem_nil⟩⟩⟩⟩⟩⟩⟩⟩⟩⟩⟩⟩⟩⟩⟩⟩
theorem lw_p48 : lw_okq (⟨"HourEggsModel", "inNest", "(I)I"⟩, 21) := ⟨⟨by decide +kernel, by decide +kernel⟩, List.mem_of_getElem? (i := 802) (by decide +kernel), List.mem_of_getElem? (i := 1105) (by decide +kernel), List.mem_of_getElem? (i := 1106) (by decide +kernel)⟩
theorem lw_p49 : lw_okq (⟨"HourEggsModel", "bestHalf", "()I"⟩, 21) := ⟨⟨by decide +kernel, by decide +kernel⟩, List.mem_of_getElem? (i := 802) (by decide +kernel), List.mem_of_getElem? (i := 1117) (by decide +kernel), List.mem_of_getElem? (i := 1118) (by decide +kernel)⟩
theorem lw_p50 : lw_okq (⟨"HourEggsModel", "apartBy", "(I)I"⟩, 21) := ⟨⟨by decide +kernel, by decide +kernel⟩, List.mem_of_getElem? (i := 802) (by decide +kernel), List.mem_of_getElem? (i := 1121) (by decide +kernel), List.mem_of_getElem? (i := 1122) (by decide +kernel)⟩
theorem lw_p51 : lw_okq (⟨"HourEggsModel", "wrongAges", "(II)I"⟩, 21) := ⟨⟨by decide +kernel, by decide +kernel⟩, List.mem_of_getElem? (i := 802) (by decide +kernel), List.mem_of_getElem? (i := 1137) (by decide +kernel), List.mem_of_getElem? (i := 1138) (by decide +kernel)⟩
theorem lw_p52 : lw_okq (⟨"HourEggsModel", "wrongSheet", "(I)I"⟩, 21) := ⟨⟨by decide +kernel, by decide +kernel⟩, List.mem_of_getElem? (i := 802) (by decide +kernel), List.mem_of_getElem? (i := 1141) (by decide +kernel), List.mem_of_getElem? (i := 1142) (by decide +kernel)⟩
theorem lw_p53 : lw_okq (⟨"HourEggsModel", "agesSo", "(III)Z"⟩, 21) := ⟨⟨by decide +kernel, by decide +kernel⟩, List.mem_of_getElem? (i := 802) (by decide +kernel), List.mem_of_getElem? (i := 1148) (by decide +kernel), List.mem_of_getElem? (i := 1149) (by decide +kernel)⟩
theorem lw_p54 : lw_okq (⟨"HourEggsModel", "draw", "()I"⟩, 21) := ⟨⟨by decide +kernel, by decide +kernel⟩, List.mem_of_getElem? (i := 802) (by decide +kernel), List.mem_of_getElem? (i := 1160) (by decide +kernel), List.mem_of_getElem? (i := 1161) (by decide +kernel)⟩
theorem lw_p55 : lw_okq (⟨"HourEggsModel", "nextToken", "()V"⟩, 21) := ⟨⟨by decide +kernel, by decide +kernel⟩, List.mem_of_getElem? (i := 802) (by decide +kernel), List.mem_of_getElem? (i := 1187) (by decide +kernel), List.mem_of_getElem? (i := 1188) (by decide +kernel)⟩
theorem lw_p56 : lw_okq (⟨"HourEggsModel", "readsItem", "()Z"⟩, 21) := ⟨⟨by decide +kernel, by decide +kernel⟩, List.mem_of_getElem? (i := 802) (by decide +kernel), List.mem_of_getElem? (i := 1203) (by decide +kernel), List.mem_of_getElem? (i := 1204) (by decide +kernel)⟩
theorem lw_p57 : lw_okq (⟨"HourEggsModel", "wordOf", "([C)I"⟩, 21) := ⟨⟨by decide +kernel, by decide +kernel⟩, List.mem_of_getElem? (i := 802) (by decide +kernel), List.mem_of_getElem? (i := 1207) (by decide +kernel), List.mem_of_getElem? (i := 1208) (by decide +kernel)⟩
theorem lw_p58 : lw_okq (⟨"HourEggsModel", "readsEgg", "(I)Z"⟩, 21) := ⟨⟨by decide +kernel, by decide +kernel⟩, List.mem_of_getElem? (i := 802) (by decide +kernel), List.mem_of_getElem? (i := 1211) (by decide +kernel), List.mem_of_getElem? (i := 1212) (by decide +kernel)⟩
theorem lw_p59 : lw_okq (⟨"HourEggsModel", "takesNumber", "(II)I"⟩, 21) := ⟨⟨by decide +kernel, by decide +kernel⟩, List.mem_of_getElem? (i := 802) (by decide +kernel), List.mem_of_getElem? (i := 1215) (by decide +kernel), List.mem_of_getElem? (i := 1216) (by decide +kernel)⟩
theorem lw_p60 : lw_okq (⟨"HourEggsModel", "readsHen", "()Z"⟩, 21) := ⟨⟨by decide +kernel, by decide +kernel⟩, List.mem_of_getElem? (i := 802) (by decide +kernel), List.mem_of_getElem? (i := 1219) (by decide +kernel), List.mem_of_getElem? (i := 1220) (by decide +kernel)⟩
theorem lw_p61 : lw_okq (⟨"HourEggsModel", "readsWork", "()Z"⟩, 21) := ⟨⟨by decide +kernel, by decide +kernel⟩, List.mem_of_getElem? (i := 802) (by decide +kernel), List.mem_of_getElem? (i := 1223) (by decide +kernel), List.mem_of_getElem? (i := 1224) (by decide +kernel)⟩
def lw_privs_4 : List (MethodName × Nat) := [(⟨"HourEggsModel", "inNest", "(I)I"⟩, 21), (⟨"HourEggsModel", "bestHalf", "()I"⟩, 21), (⟨"HourEggsModel", "apartBy", "(I)I"⟩, 21), (⟨"HourEggsModel", "wrongAges", "(II)I"⟩, 21), (⟨"HourEggsModel", "wrongSheet", "(I)I"⟩, 21), (⟨"HourEggsModel", "agesSo", "(III)Z"⟩, 21), (⟨"HourEggsModel", "draw", "()I"⟩, 21), (⟨"HourEggsModel", "nextToken", "()V"⟩, 21), (⟨"HourEggsModel", "readsItem", "()Z"⟩, 21), (⟨"HourEggsModel", "wordOf", "([C)I"⟩, 21), (⟨"HourEggsModel", "readsEgg", "(I)Z"⟩, 21), (⟨"HourEggsModel", "takesNumber", "(II)I"⟩, 21), (⟨"HourEggsModel", "readsHen", "()Z"⟩, 21), (⟨"HourEggsModel", "readsWork", "()Z"⟩, 21)]
theorem lw_r4 : ∀ q ∈ lw_privs_4, lw_okq q := List.forall_mem_cons.mpr ⟨lw_p48, List.forall_mem_cons.mpr ⟨lw_p49, List.forall_mem_cons.mpr ⟨lw_p50, List.forall_mem_cons.mpr ⟨lw_p51, List.forall_mem_cons.mpr ⟨lw_p52, List.forall_mem_cons.mpr ⟨lw_p53, List.forall_mem_cons.mpr ⟨lw_p54, List.forall_mem_cons.mpr ⟨lw_p55, List.forall_mem_cons.mpr ⟨lw_p56, List.forall_mem_cons.mpr ⟨lw_p57, List.forall_mem_cons.mpr ⟨lw_p58, List.forall_mem_cons.mpr ⟨lw_p59, List.forall_mem_cons.mpr ⟨lw_p60, List.forall_mem_cons.mpr ⟨lw_p61, fun _ h => absurd h List.not_mem_nil⟩⟩⟩⟩⟩⟩⟩⟩⟩⟩⟩⟩⟩⟩
def lw_privs : List (MethodName × Nat) := lw_privs_1 ++ (lw_privs_2 ++ (lw_privs_3 ++ (lw_privs_4)))
def lw_tbl : List Cond := k2_sels lw_privs ++ tables_1
theorem lw_privs_ok : ∀ q ∈ lw_privs, lw_okq q := by
  show ∀ q ∈ lw_privs_1 ++ (lw_privs_2 ++ (lw_privs_3 ++ (lw_privs_4))), lw_okq q
  exact List.forall_mem_append.mpr ⟨lw_r1, List.forall_mem_append.mpr ⟨lw_r2, List.forall_mem_append.mpr ⟨lw_r3, lw_r4⟩⟩⟩

/-! ===== BEGIN printed: names, fields, word lists, decode rows ===== -/
def RX0 : String := "HourEggs$Choices"
def TX0 : u_T := fun k => match k with
  | 0 => ("HourEggs$Choices", "sums", "[I", true)
  | 1 => ("HourEggs$Choices", "marks", "[I", true)
  | _ => ("HourEggs$Choices", "places", "I", false)
def tyX0 : Nat → FieldType := fun k => match k with
  | 0 => .array .int
  | 1 => .array .int
  | _ => .int
theorem nmX0 : ∀ a, a < 3 → ∀ b, b < 3 → a ≠ b → (TX0 a).2.1 ≠ (TX0 b).2.1 := by decide +kernel
theorem tyX0_ok : ∀ k, k < 3 → parseFieldDescriptor (TX0 k).2.2.1 = some (tyX0 k) := by decide +kernel
abbrev cX0_init : ByteArray := prog_2_method_1_code
def yX0_init : MethodName := ⟨RX0, "<init>", "()V"⟩
abbrev cX0_lookAt : ByteArray := prog_2_method_2_code
def yX0_lookAt : MethodName := ⟨RX0, "lookAt", "(LHourEggs$House;)V"⟩
abbrev cX0_isOfEggs : ByteArray := prog_2_method_3_code
def yX0_isOfEggs : MethodName := ⟨RX0, "isOfEggs", "(I)Z"⟩
abbrev cX0_sumOf : ByteArray := prog_2_method_4_code
def yX0_sumOf : MethodName := ⟨RX0, "sumOf", "(I)I"⟩
abbrev cX0_does : ByteArray := prog_2_method_5_code
def yX0_does : MethodName := ⟨RX0, "does", "(LHourEggs$House;II)Z"⟩
abbrev cX0_fewestFor : ByteArray := prog_2_method_6_code
def yX0_fewestFor : MethodName := ⟨RX0, "fewestFor", "(LHourEggs$House;I)I"⟩
abbrev cX0_leastFor : ByteArray := prog_2_method_7_code
def yX0_leastFor : MethodName := ⟨RX0, "leastFor", "(LHourEggs$House;I)I"⟩
abbrev cX0_bestMark : ByteArray := prog_2_method_8_code
def yX0_bestMark : MethodName := ⟨RX0, "bestMark", "(LHourEggs$House;)I"⟩
abbrev cX0_offer : ByteArray := prog_2_method_9_code
def yX0_offer : MethodName := ⟨RX0, "offer", "(II)V"⟩
abbrev cX0_bestWithOneMore : ByteArray := prog_2_method_10_code
def yX0_bestWithOneMore : MethodName := ⟨RX0, "bestWithOneMore", "(III)I"⟩
abbrev cX0_markOf : ByteArray := prog_2_method_11_code
def yX0_markOf : MethodName := ⟨RX0, "markOf", "(I)I"⟩
abbrev cX0_worthOf : ByteArray := prog_2_method_12_code
def yX0_worthOf : MethodName := ⟨RX0, "worthOf", "(I)I"⟩
abbrev cX0_worksOf : ByteArray := prog_2_method_13_code
def yX0_worksOf : MethodName := ⟨RX0, "worksOf", "(I)I"⟩
abbrev cX0_nearestHalf : ByteArray := prog_2_method_14_code
def yX0_nearestHalf : MethodName := ⟨RX0, "nearestHalf", "()I"⟩
abbrev cX0_apartWith : ByteArray := prog_2_method_15_code
def yX0_apartWith : MethodName := ⟨RX0, "apartWith", "(I)I"⟩
abbrev cX0_setsOf : ByteArray := prog_2_method_16_code
def yX0_setsOf : MethodName := ⟨RX0, "setsOf", "(I)I"⟩
def RX1 : String := "HourEggs$House"
def TX1 : u_T := fun k => match k with
  | 0 => ("HourEggs$House", "eggs", "LHourEggs$Table;", true)
  | 1 => ("HourEggs$House", "hens", "LHourEggs$Table;", true)
  | 2 => ("HourEggs$House", "works", "LHourEggs$Table;", true)
  | 3 => ("HourEggs$House", "spots", "[I", true)
  | 4 => ("HourEggs$House", "day", "I", false)
  | 5 => ("HourEggs$House", "spoiled", "I", false)
  | _ => ("HourEggs$House", "z", "I", false)
def tyX1 : Nat → FieldType := fun k => match k with
  | 0 => .object "HourEggs$Table"
  | 1 => .object "HourEggs$Table"
  | 2 => .object "HourEggs$Table"
  | 3 => .array .int
  | 4 => .int
  | 5 => .int
  | _ => .int
theorem nmX1 : ∀ a, a < 7 → ∀ b, b < 7 → a ≠ b → (TX1 a).2.1 ≠ (TX1 b).2.1 := by decide +kernel
theorem tyX1_ok : ∀ k, k < 7 → parseFieldDescriptor (TX1 k).2.2.1 = some (tyX1 k) := by decide +kernel
abbrev cX1_init : ByteArray := prog_3_method_1_code
def yX1_init : MethodName := ⟨RX1, "<init>", "()V"⟩
abbrev cX1_become : ByteArray := prog_3_method_2_code
def yX1_become : MethodName := ⟨RX1, "become", "(LHourEggs$House;)V"⟩
abbrev cX1_hasEgg : ByteArray := prog_3_method_3_code
def yX1_hasEgg : MethodName := ⟨RX1, "hasEgg", "(I)Z"⟩
abbrev cX1_emptyPlace : ByteArray := prog_3_method_4_code
def yX1_emptyPlace : MethodName := ⟨RX1, "emptyPlace", "()I"⟩
abbrev cX1_places : ByteArray := prog_3_method_5_code
def yX1_places : MethodName := ⟨RX1, "places", "()I"⟩
abbrev cX1_layAt : ByteArray := prog_3_method_6_code
def yX1_layAt : MethodName := ⟨RX1, "layAt", "(IIIII)V"⟩
abbrev cX1_empty : ByteArray := prog_3_method_7_code
def yX1_empty : MethodName := ⟨RX1, "empty", "(I)V"⟩
abbrev cX1_minutesOf : ByteArray := prog_3_method_8_code
def yX1_minutesOf : MethodName := ⟨RX1, "minutesOf", "(I)I"⟩
abbrev cX1_minutesBehind : ByteArray := prog_3_method_9_code
def yX1_minutesBehind : MethodName := ⟨RX1, "minutesBehind", "(IIII)I"⟩
abbrev cX1_allMinutes : ByteArray := prog_3_method_10_code
def yX1_allMinutes : MethodName := ⟨RX1, "allMinutes", "()I"⟩
abbrev cX1_minutesIn : ByteArray := prog_3_method_11_code
def yX1_minutesIn : MethodName := ⟨RX1, "minutesIn", "(I)I"⟩
abbrev cX1_lacks : ByteArray := prog_3_method_12_code
def yX1_lacks : MethodName := ⟨RX1, "lacks", "(I)I"⟩
abbrev cX1_isDone : ByteArray := prog_3_method_13_code
def yX1_isDone : MethodName := ⟨RX1, "isDone", "(I)Z"⟩
abbrev cX1_isInTime : ByteArray := prog_3_method_14_code
def yX1_isInTime : MethodName := ⟨RX1, "isInTime", "(I)Z"⟩
abbrev cX1_doneWorks : ByteArray := prog_3_method_15_code
def yX1_doneWorks : MethodName := ⟨RX1, "doneWorks", "()I"⟩
abbrev cX1_spendOn : ByteArray := prog_3_method_16_code
def yX1_spendOn : MethodName := ⟨RX1, "spendOn", "(II)I"⟩
abbrev cX1_daysGoBy : ByteArray := prog_3_method_17_code
def yX1_daysGoBy : MethodName := ⟨RX1, "daysGoBy", "(I)I"⟩
abbrev cX1_eggsAge : ByteArray := prog_3_method_18_code
def yX1_eggsAge : MethodName := ⟨RX1, "eggsAge", "()I"⟩
abbrev cX1_hensLay : ByteArray := prog_3_method_19_code
def yX1_hensLay : MethodName := ⟨RX1, "hensLay", "()V"⟩
abbrev cX1_foxComes : ByteArray := prog_3_method_20_code
def yX1_foxComes : MethodName := ⟨RX1, "foxComes", "()I"⟩
abbrev cX1_spotAt : ByteArray := prog_3_method_21_code
def yX1_spotAt : MethodName := ⟨RX1, "spotAt", "(I)I"⟩
abbrev cX1_setSpot : ByteArray := prog_3_method_22_code
def yX1_setSpot : MethodName := ⟨RX1, "setSpot", "(II)V"⟩
abbrev cX1_heldSpots : ByteArray := prog_3_method_23_code
def yX1_heldSpots : MethodName := ⟨RX1, "heldSpots", "()I"⟩
def RX2 : String := "HourEggs$Kinds"
def TX2 : u_T := fun k => match k with
  | _ => ("", "", "", false)
def tyX2 : Nat → FieldType := fun k => match k with
  | _ => .int
theorem nmX2 : ∀ a, a < 0 → ∀ b, b < 0 → a ≠ b → (TX2 a).2.1 ≠ (TX2 b).2.1 := by decide +kernel
theorem tyX2_ok : ∀ k, k < 0 → parseFieldDescriptor (TX2 k).2.2.1 = some (tyX2 k) := by decide +kernel
abbrev cX2_minutes : ByteArray := prog_4_method_2_code
def yX2_minutes : MethodName := ⟨RX2, "minutes", "(IIII)I"⟩
abbrev cX2_keeps : ByteArray := prog_4_method_3_code
def yX2_keeps : MethodName := ⟨RX2, "keeps", "(I)I"⟩
abbrev cX2_stays : ByteArray := prog_4_method_4_code
def yX2_stays : MethodName := ⟨RX2, "stays", "(III)Z"⟩
abbrev cX2_isUnder : ByteArray := prog_4_method_5_code
def yX2_isUnder : MethodName := ⟨RX2, "isUnder", "(II)Z"⟩
def RX3 : String := "HourEggs$Reader"
def TX3 : u_T := fun k => match k with
  | 0 => ("HourEggs$Reader", "tape", "LHourEggs$Tape;", true)
  | 1 => ("HourEggs$Reader", "house", "LHourEggs$House;", true)
  | 2 => ("HourEggs$Reader", "token", "I", false)
  | 3 => ("HourEggs$Reader", "start", "I", false)
  | 4 => ("HourEggs$Reader", "end", "I", false)
  | _ => ("HourEggs$Reader", "value", "I", false)
def tyX3 : Nat → FieldType := fun k => match k with
  | 0 => .object "HourEggs$Tape"
  | 1 => .object "HourEggs$House"
  | 2 => .int
  | 3 => .int
  | 4 => .int
  | _ => .int
theorem nmX3 : ∀ a, a < 6 → ∀ b, b < 6 → a ≠ b → (TX3 a).2.1 ≠ (TX3 b).2.1 := by decide +kernel
theorem tyX3_ok : ∀ k, k < 6 → parseFieldDescriptor (TX3 k).2.2.1 = some (tyX3 k) := by decide +kernel
abbrev cX3_init : ByteArray := prog_5_method_1_code
def yX3_init : MethodName := ⟨RX3, "<init>", "(LHourEggs$Tape;LHourEggs$House;)V"⟩
abbrev cX3_readText : ByteArray := prog_5_method_2_code
def yX3_readText : MethodName := ⟨RX3, "readText", "()I"⟩
abbrev cX3_readEgg : ByteArray := prog_5_method_3_code
def yX3_readEgg : MethodName := ⟨RX3, "readEgg", "(I)Z"⟩
abbrev cX3_readHen : ByteArray := prog_5_method_4_code
def yX3_readHen : MethodName := ⟨RX3, "readHen", "()Z"⟩
abbrev cX3_readWork : ByteArray := prog_5_method_5_code
def yX3_readWork : MethodName := ⟨RX3, "readWork", "()Z"⟩
abbrev cX3_readPerhaps : ByteArray := prog_5_method_6_code
def yX3_readPerhaps : MethodName := ⟨RX3, "readPerhaps", "(Ljava/lang/String;II)I"⟩
abbrev cX3_readNumber : ByteArray := prog_5_method_7_code
def yX3_readNumber : MethodName := ⟨RX3, "readNumber", "(II)I"⟩
abbrev cX3_kindAhead : ByteArray := prog_5_method_8_code
def yX3_kindAhead : MethodName := ⟨RX3, "kindAhead", "()I"⟩
abbrev cX3_wordOf : ByteArray := prog_5_method_9_code
def yX3_wordOf : MethodName := ⟨RX3, "wordOf", "(I)Ljava/lang/String;"⟩
abbrev cX3_isAhead : ByteArray := prog_5_method_10_code
def yX3_isAhead : MethodName := ⟨RX3, "isAhead", "(Ljava/lang/String;)Z"⟩
abbrev cX3_advance : ByteArray := prog_5_method_11_code
def yX3_advance : MethodName := ⟨RX3, "advance", "()V"⟩
abbrev cX3_sortOf : ByteArray := prog_5_method_12_code
def yX3_sortOf : MethodName := ⟨RX3, "sortOf", "(I)I"⟩
def RX4 : String := "HourEggs$Sheet"
def TX4 : u_T := fun k => match k with
  | 0 => ("HourEggs$Sheet", "numbers", "[I", true)
  | 1 => ("HourEggs$Sheet", "bits", "I", false)
  | _ => ("HourEggs$Sheet", "length", "I", false)
def tyX4 : Nat → FieldType := fun k => match k with
  | 0 => .array .int
  | 1 => .int
  | _ => .int
theorem nmX4 : ∀ a, a < 3 → ∀ b, b < 3 → a ≠ b → (TX4 a).2.1 ≠ (TX4 b).2.1 := by decide +kernel
theorem tyX4_ok : ∀ k, k < 3 → parseFieldDescriptor (TX4 k).2.2.1 = some (tyX4 k) := by decide +kernel
abbrev cX4_init : ByteArray := prog_6_method_1_code
def yX4_init : MethodName := ⟨RX4, "<init>", "()V"⟩
abbrev cX4_hasWidth : ByteArray := prog_6_method_2_code
def yX4_hasWidth : MethodName := ⟨RX4, "hasWidth", "(I)Z"⟩
abbrev cX4_isMissing : ByteArray := prog_6_method_3_code
def yX4_isMissing : MethodName := ⟨RX4, "isMissing", "()Z"⟩
abbrev cX4_makeNew : ByteArray := prog_6_method_4_code
def yX4_makeNew : MethodName := ⟨RX4, "makeNew", "(II)V"⟩
abbrev cX4_hasNumbers : ByteArray := prog_6_method_5_code
def yX4_hasNumbers : MethodName := ⟨RX4, "hasNumbers", "(II)Z"⟩
abbrev cX4_at : ByteArray := prog_6_method_6_code
def yX4_at : MethodName := ⟨RX4, "at", "(I)I"⟩
abbrev cX4_put : ByteArray := prog_6_method_7_code
def yX4_put : MethodName := ⟨RX4, "put", "(II)V"⟩
def RX5 : String := "HourEggs$Table"
def TX5 : u_T := fun k => match k with
  | 0 => ("HourEggs$Table", "rows", "I", true)
  | 1 => ("HourEggs$Table", "least", "[I", true)
  | 2 => ("HourEggs$Table", "most", "[I", true)
  | _ => ("HourEggs$Table", "cells", "[I", true)
def tyX5 : Nat → FieldType := fun k => match k with
  | 0 => .int
  | 1 => .array .int
  | 2 => .array .int
  | _ => .array .int
theorem nmX5 : ∀ a, a < 4 → ∀ b, b < 4 → a ≠ b → (TX5 a).2.1 ≠ (TX5 b).2.1 := by decide +kernel
theorem tyX5_ok : ∀ k, k < 4 → parseFieldDescriptor (TX5 k).2.2.1 = some (tyX5 k) := by decide +kernel
abbrev cX5_init : ByteArray := prog_7_method_1_code
def yX5_init : MethodName := ⟨RX5, "<init>", "(I[I[I)V"⟩
abbrev cX5_hasRow : ByteArray := prog_7_method_2_code
def yX5_hasRow : MethodName := ⟨RX5, "hasRow", "(I)Z"⟩
abbrev cX5_hasColumn : ByteArray := prog_7_method_3_code
def yX5_hasColumn : MethodName := ⟨RX5, "hasColumn", "(I)Z"⟩
abbrev cX5_takes : ByteArray := prog_7_method_4_code
def yX5_takes : MethodName := ⟨RX5, "takes", "(II)Z"⟩
abbrev cX5_at : ByteArray := prog_7_method_5_code
def yX5_at : MethodName := ⟨RX5, "at", "(II)I"⟩
abbrev cX5_put : ByteArray := prog_7_method_6_code
def yX5_put : MethodName := ⟨RX5, "put", "(III)V"⟩
abbrev cX5_become : ByteArray := prog_7_method_7_code
def yX5_become : MethodName := ⟨RX5, "become", "(LHourEggs$Table;)V"⟩
def RX6 : String := "HourEggs$Tape"
def TX6 : u_T := fun k => match k with
  | 0 => ("HourEggs$Tape", "bytes", "[I", true)
  | _ => ("HourEggs$Tape", "length", "I", false)
def tyX6 : Nat → FieldType := fun k => match k with
  | 0 => .array .int
  | _ => .int
theorem nmX6 : ∀ a, a < 2 → ∀ b, b < 2 → a ≠ b → (TX6 a).2.1 ≠ (TX6 b).2.1 := by decide +kernel
theorem tyX6_ok : ∀ k, k < 2 → parseFieldDescriptor (TX6 k).2.2.1 = some (tyX6 k) := by decide +kernel
abbrev cX6_init : ByteArray := prog_8_method_1_code
def yX6_init : MethodName := ⟨RX6, "<init>", "()V"⟩
abbrev cX6_append : ByteArray := prog_8_method_2_code
def yX6_append : MethodName := ⟨RX6, "append", "(I)V"⟩
abbrev cX6_at : ByteArray := prog_8_method_3_code
def yX6_at : MethodName := ⟨RX6, "at", "(I)I"⟩
def RX7 : String := "HourEggs"
def TX7 : u_T := fun k => match k with
  | 0 => ("HourEggs", "house", "LHourEggs$House;", true)
  | 1 => ("HourEggs", "kept", "LHourEggs$House;", true)
  | 2 => ("HourEggs", "trial", "LHourEggs$House;", true)
  | 3 => ("HourEggs", "choices", "LHourEggs$Choices;", true)
  | 4 => ("HourEggs", "sheets", "[LHourEggs$Sheet;", true)
  | 5 => ("HourEggs", "tape", "LHourEggs$Tape;", true)
  | 6 => ("HourEggs", "findings", "[I", true)
  | _ => ("HourEggs", "isKept", "Z", false)
def tyX7 : Nat → FieldType := fun k => match k with
  | 0 => .object "HourEggs$House"
  | 1 => .object "HourEggs$House"
  | 2 => .object "HourEggs$House"
  | 3 => .object "HourEggs$Choices"
  | 4 => .array (.object "HourEggs$Sheet")
  | 5 => .object "HourEggs$Tape"
  | 6 => .array .int
  | _ => .boolean
theorem nmX7 : ∀ a, a < 8 → ∀ b, b < 8 → a ≠ b → (TX7 a).2.1 ≠ (TX7 b).2.1 := by decide +kernel
theorem tyX7_ok : ∀ k, k < 8 → parseFieldDescriptor (TX7 k).2.2.1 = some (tyX7 k) := by decide +kernel
abbrev cX7_init : ByteArray := prog_1_method_1_code
def yX7_init : MethodName := ⟨RX7, "<init>", "()V"⟩
abbrev cX7_egg : ByteArray := prog_1_method_2_code
def yX7_egg : MethodName := ⟨RX7, "egg", "(III)I"⟩
abbrev cX7_of : ByteArray := prog_1_method_3_code
def yX7_of : MethodName := ⟨RX7, "of", "(II)I"⟩
abbrev cX7_change : ByteArray := prog_1_method_4_code
def yX7_change : MethodName := ⟨RX7, "change", "(III)I"⟩
abbrev cX7_hen : ByteArray := prog_1_method_5_code
def yX7_hen : MethodName := ⟨RX7, "hen", "(III)I"⟩
abbrev cX7_work : ByteArray := prog_1_method_6_code
def yX7_work : MethodName := ⟨RX7, "work", "(III)I"⟩
abbrev cX7_henOf : ByteArray := prog_1_method_7_code
def yX7_henOf : MethodName := ⟨RX7, "henOf", "(II)I"⟩
abbrev cX7_workOf : ByteArray := prog_1_method_8_code
def yX7_workOf : MethodName := ⟨RX7, "workOf", "(II)I"⟩
abbrev cX7_spend : ByteArray := prog_1_method_9_code
def yX7_spend : MethodName := ⟨RX7, "spend", "(II)I"⟩
abbrev cX7_broken : ByteArray := prog_1_method_10_code
def yX7_broken : MethodName := ⟨RX7, "broken", "(I)I"⟩
abbrev cX7_go : ByteArray := prog_1_method_11_code
def yX7_go : MethodName := ⟨RX7, "go", "(I)I"⟩
abbrev cX7_now : ByteArray := prog_1_method_12_code
def yX7_now : MethodName := ⟨RX7, "now", "(I)I"⟩
abbrev cX7_ahead : ByteArray := prog_1_method_13_code
def yX7_ahead : MethodName := ⟨RX7, "ahead", "(I)I"⟩
abbrev cX7_spoils : ByteArray := prog_1_method_14_code
def yX7_spoils : MethodName := ⟨RX7, "spoils", "(I)I"⟩
abbrev cX7_ripe : ByteArray := prog_1_method_15_code
def yX7_ripe : MethodName := ⟨RX7, "ripe", "(I)I"⟩
abbrev cX7_lasts : ByteArray := prog_1_method_16_code
def yX7_lasts : MethodName := ⟨RX7, "lasts", "(I)I"⟩
abbrev cX7_when : ByteArray := prog_1_method_17_code
def yX7_when : MethodName := ⟨RX7, "when", "(I)I"⟩
abbrev cX7_kindFor : ByteArray := prog_1_method_18_code
def yX7_kindFor : MethodName := ⟨RX7, "kindFor", "(II)I"⟩
abbrev cX7_everyFor : ByteArray := prog_1_method_19_code
def yX7_everyFor : MethodName := ⟨RX7, "everyFor", "(II)I"⟩
abbrev cX7_minutesWithEvery : ByteArray := prog_1_method_20_code
def yX7_minutesWithEvery : MethodName := ⟨RX7, "minutesWithEvery", "(III)I"⟩
abbrev cX7_fewest : ByteArray := prog_1_method_21_code
def yX7_fewest : MethodName := ⟨RX7, "fewest", "(I)I"⟩
abbrev cX7_thrifty : ByteArray := prog_1_method_22_code
def yX7_thrifty : MethodName := ⟨RX7, "thrifty", "(I)I"⟩
abbrev cX7_best : ByteArray := prog_1_method_23_code
def yX7_best : MethodName := ⟨RX7, "best", "()I"⟩
abbrev cX7_bestWorks : ByteArray := prog_1_method_24_code
def yX7_bestWorks : MethodName := ⟨RX7, "bestWorks", "()I"⟩
abbrev cX7_soonest : ByteArray := prog_1_method_25_code
def yX7_soonest : MethodName := ⟨RX7, "soonest", "(I)I"⟩
abbrev cX7_nest : ByteArray := prog_1_method_26_code
def yX7_nest : MethodName := ⟨RX7, "nest", "(I)I"⟩
abbrev cX7_guard : ByteArray := prog_1_method_27_code
def yX7_guard : MethodName := ⟨RX7, "guard", "()I"⟩
abbrev cX7_halves : ByteArray := prog_1_method_28_code
def yX7_halves : MethodName := ⟨RX7, "halves", "()I"⟩
abbrev cX7_apart : ByteArray := prog_1_method_29_code
def yX7_apart : MethodName := ⟨RX7, "apart", "()I"⟩
abbrev cX7_sets : ByteArray := prog_1_method_30_code
def yX7_sets : MethodName := ⟨RX7, "sets", "(I)I"⟩
abbrev cX7_ages : ByteArray := prog_1_method_31_code
def yX7_ages : MethodName := ⟨RX7, "ages", "(II)I"⟩
abbrev cX7_youngest : ByteArray := prog_1_method_32_code
def yX7_youngest : MethodName := ⟨RX7, "youngest", "(II)I"⟩
abbrev cX7_wrongTold : ByteArray := prog_1_method_33_code
def yX7_wrongTold : MethodName := ⟨RX7, "wrongTold", "(II)I"⟩
abbrev cX7_fits : ByteArray := prog_1_method_34_code
def yX7_fits : MethodName := ⟨RX7, "fits", "(LHourEggs$Sheet;II)Z"⟩
abbrev cX7_foxes : ByteArray := prog_1_method_35_code
def yX7_foxes : MethodName := ⟨RX7, "foxes", "(I)I"⟩
abbrev cX7_odds : ByteArray := prog_1_method_36_code
def yX7_odds : MethodName := ⟨RX7, "odds", "(II)J"⟩
abbrev cX7_seed : ByteArray := prog_1_method_37_code
def yX7_seed : MethodName := ⟨RX7, "seed", "(I)I"⟩
abbrev cX7_feed : ByteArray := prog_1_method_38_code
def yX7_feed : MethodName := ⟨RX7, "feed", "(II)I"⟩
abbrev cX7_wipe : ByteArray := prog_1_method_39_code
def yX7_wipe : MethodName := ⟨RX7, "wipe", "()I"⟩
abbrev cX7_text : ByteArray := prog_1_method_40_code
def yX7_text : MethodName := ⟨RX7, "text", "()I"⟩
abbrev cX7_hold : ByteArray := prog_1_method_41_code
def yX7_hold : MethodName := ⟨RX7, "hold", "(II)I"⟩
abbrev cX7_as : ByteArray := prog_1_method_42_code
def yX7_as : MethodName := ⟨RX7, "as", "(II)I"⟩
abbrev cX7_sheet : ByteArray := prog_1_method_43_code
def yX7_sheet : MethodName := ⟨RX7, "sheet", "(III)I"⟩
abbrev cX7_write : ByteArray := prog_1_method_44_code
def yX7_write : MethodName := ⟨RX7, "write", "(III)I"⟩
abbrev cX7_copy : ByteArray := prog_1_method_45_code
def yX7_copy : MethodName := ⟨RX7, "copy", "(IIIII)I"⟩
abbrev cX7_copyNumbers : ByteArray := prog_1_method_46_code
def yX7_copyNumbers : MethodName := ⟨RX7, "copyNumbers", "(LHourEggs$Sheet;ILHourEggs$Sheet;II)V"⟩
abbrev cX7_load : ByteArray := prog_1_method_47_code
def yX7_load : MethodName := ⟨RX7, "load", "(I)I"⟩
abbrev cX7_judge : ByteArray := prog_1_method_48_code
def yX7_judge : MethodName := ⟨RX7, "judge", "(I)I"⟩
abbrev cX7_image : ByteArray := prog_1_method_49_code
def yX7_image : MethodName := ⟨RX7, "image", "()I"⟩
abbrev cX7_undo : ByteArray := prog_1_method_50_code
def yX7_undo : MethodName := ⟨RX7, "undo", "()I"⟩
abbrev cX7_tear : ByteArray := prog_1_method_51_code
def yX7_tear : MethodName := ⟨RX7, "tear", "()I"⟩
abbrev cX7_count : ByteArray := prog_1_method_52_code
def yX7_count : MethodName := ⟨RX7, "count", "(I)I"⟩
abbrev cX7_status : ByteArray := prog_1_method_53_code
def yX7_status : MethodName := ⟨RX7, "status", "(I)I"⟩
abbrev cX7_finding : ByteArray := prog_1_method_54_code
def yX7_finding : MethodName := ⟨RX7, "finding", "(I)I"⟩
abbrev cX7_replace : ByteArray := prog_1_method_55_code
def yX7_replace : MethodName := ⟨RX7, "replace", "(LHourEggs$Table;III)I"⟩
abbrev cX7_sheetAt : ByteArray := prog_1_method_56_code
def yX7_sheetAt : MethodName := ⟨RX7, "sheetAt", "(I)LHourEggs$Sheet;"⟩
abbrev cX7_wrongSheet : ByteArray := prog_1_method_57_code
def yX7_wrongSheet : MethodName := ⟨RX7, "wrongSheet", "(I)I"⟩
abbrev cX7_within : ByteArray := prog_1_method_58_code
def yX7_within : MethodName := ⟨RX7, "within", "(III)Z"⟩
abbrev cX7_copyRow : ByteArray := prog_1_method_59_code
def yX7_copyRow : MethodName := ⟨RX7, "copyRow", "([I[I)V"⟩
def RX8 : String := "HourEggsModel"
def TX8 : u_T := fun k => match k with
  | 0 => ("HourEggsModel", "s", "[I", true)
  | 1 => ("HourEggsModel", "kept", "[I", true)
  | 2 => ("HourEggsModel", "aside", "[I", true)
  | 3 => ("HourEggsModel", "isKept", "Z", false)
  | 4 => ("HourEggsModel", "found", "[I", true)
  | 5 => ("HourEggsModel", "canDo", "[Z", true)
  | 6 => ("HourEggsModel", "sums", "[I", true)
  | 7 => ("HourEggsModel", "tape", "[I", true)
  | 8 => ("HourEggsModel", "taped", "I", false)
  | 9 => ("HourEggsModel", "token", "I", false)
  | 10 => ("HourEggsModel", "begun", "I", false)
  | 11 => ("HourEggsModel", "ended", "I", false)
  | 12 => ("HourEggsModel", "value", "J", false)
  | 13 => ("HourEggsModel", "letters", "[C", true)
  | 14 => ("HourEggsModel", "more", "[C", true)
  | 15 => ("HourEggsModel", "about", "[C", true)
  | 16 => ("HourEggsModel", "others", "[C", true)
  | 17 => ("HourEggsModel", "widths", "[I", true)
  | 18 => ("HourEggsModel", "sizes", "[I", true)
  | 19 => ("HourEggsModel", "cells", "[I", true)
  | _ => ("HourEggsModel", "carried", "[I", true)
def tyX8 : Nat → FieldType := fun k => match k with
  | 0 => .array .int
  | 1 => .array .int
  | 2 => .array .int
  | 3 => .boolean
  | 4 => .array .int
  | 5 => .array .boolean
  | 6 => .array .int
  | 7 => .array .int
  | 8 => .int
  | 9 => .int
  | 10 => .int
  | 11 => .int
  | 12 => .long
  | 13 => .array .char
  | 14 => .array .char
  | 15 => .array .char
  | 16 => .array .char
  | 17 => .array .int
  | 18 => .array .int
  | 19 => .array .int
  | _ => .array .int
theorem nmX8 : ∀ a, a < 21 → ∀ b, b < 21 → a ≠ b → (TX8 a).2.1 ≠ (TX8 b).2.1 := by decide +kernel
theorem tyX8_ok : ∀ k, k < 21 → parseFieldDescriptor (TX8 k).2.2.1 = some (tyX8 k) := by decide +kernel
abbrev cX8_init : ByteArray := prog_10_method_1_code
def yX8_init : MethodName := ⟨RX8, "<init>", "()V"⟩
abbrev cX8_no : ByteArray := prog_10_method_2_code
def yX8_no : MethodName := ⟨RX8, "no", "(I)I"⟩
abbrev cX8_in1 : ByteArray := prog_10_method_3_code
def yX8_in1 : MethodName := ⟨RX8, "in1", "(III)Z"⟩
abbrev cX8_less : ByteArray := prog_10_method_4_code
def yX8_less : MethodName := ⟨RX8, "less", "(II)I"⟩
abbrev cX8_greater : ByteArray := prog_10_method_5_code
def yX8_greater : MethodName := ⟨RX8, "greater", "(II)I"⟩
abbrev cX8_bits : ByteArray := prog_10_method_6_code
def yX8_bits : MethodName := ⟨RX8, "bits", "(I)I"⟩
abbrev cX8_isIn : ByteArray := prog_10_method_7_code
def yX8_isIn : MethodName := ⟨RX8, "isIn", "(II)Z"⟩
abbrev cX8_isPlace : ByteArray := prog_10_method_8_code
def yX8_isPlace : MethodName := ⟨RX8, "isPlace", "(I)Z"⟩
abbrev cX8_get : ByteArray := prog_10_method_9_code
def yX8_get : MethodName := ⟨RX8, "get", "(II)I"⟩
abbrev cX8_puts : ByteArray := prog_10_method_10_code
def yX8_puts : MethodName := ⟨RX8, "puts", "(III)V"⟩
abbrev cX8_isThere : ByteArray := prog_10_method_11_code
def yX8_isThere : MethodName := ⟨RX8, "isThere", "(I)Z"⟩
abbrev cX8_isEgg : ByteArray := prog_10_method_12_code
def yX8_isEgg : MethodName := ⟨RX8, "isEgg", "(I)Z"⟩
abbrev cX8_isHen : ByteArray := prog_10_method_13_code
def yX8_isHen : MethodName := ⟨RX8, "isHen", "(I)Z"⟩
abbrev cX8_isWork : ByteArray := prog_10_method_14_code
def yX8_isWork : MethodName := ⟨RX8, "isWork", "(I)Z"⟩
abbrev cX8_hens : ByteArray := prog_10_method_15_code
def yX8_hens : MethodName := ⟨RX8, "hens", "(II)I"⟩
abbrev cX8_works : ByteArray := prog_10_method_16_code
def yX8_works : MethodName := ⟨RX8, "works", "(II)I"⟩
abbrev cX8_setsAside : ByteArray := prog_10_method_17_code
def yX8_setsAside : MethodName := ⟨RX8, "setsAside", "()V"⟩
abbrev cX8_laysBack : ByteArray := prog_10_method_18_code
def yX8_laysBack : MethodName := ⟨RX8, "laysBack", "()V"⟩
abbrev cX8_minutesBy : ByteArray := prog_10_method_19_code
def yX8_minutesBy : MethodName := ⟨RX8, "minutesBy", "(IIII)I"⟩
abbrev cX8_keepsBy : ByteArray := prog_10_method_20_code
def yX8_keepsBy : MethodName := ⟨RX8, "keepsBy", "(I)I"⟩
abbrev cX8_minutes : ByteArray := prog_10_method_21_code
def yX8_minutes : MethodName := ⟨RX8, "minutes", "(I)I"⟩
abbrev cX8_then : ByteArray := prog_10_method_22_code
def yX8_then : MethodName := ⟨RX8, "then", "(IIII)I"⟩
abbrev cX8_eggs : ByteArray := prog_10_method_23_code
def yX8_eggs : MethodName := ⟨RX8, "eggs", "()I"⟩
abbrev cX8_sumOf : ByteArray := prog_10_method_24_code
def yX8_sumOf : MethodName := ⟨RX8, "sumOf", "(I)I"⟩
abbrev cX8_allMinutes : ByteArray := prog_10_method_25_code
def yX8_allMinutes : MethodName := ⟨RX8, "allMinutes", "()I"⟩
abbrev cX8_free : ByteArray := prog_10_method_26_code
def yX8_free : MethodName := ⟨RX8, "free", "()I"⟩
abbrev cX8_lays : ByteArray := prog_10_method_27_code
def yX8_lays : MethodName := ⟨RX8, "lays", "(IIII)I"⟩
abbrev cX8_goesEgg : ByteArray := prog_10_method_28_code
def yX8_goesEgg : MethodName := ⟨RX8, "goesEgg", "(I)V"⟩
abbrev cX8_day : ByteArray := prog_10_method_29_code
def yX8_day : MethodName := ⟨RX8, "day", "()I"⟩
abbrev cX8_egg : ByteArray := prog_10_method_30_code
def yX8_egg : MethodName := ⟨RX8, "egg", "(III)I"⟩
abbrev cX8_of : ByteArray := prog_10_method_31_code
def yX8_of : MethodName := ⟨RX8, "of", "(II)I"⟩
abbrev cX8_change : ByteArray := prog_10_method_32_code
def yX8_change : MethodName := ⟨RX8, "change", "(III)I"⟩
abbrev cX8_hen : ByteArray := prog_10_method_33_code
def yX8_hen : MethodName := ⟨RX8, "hen", "(III)I"⟩
abbrev cX8_work : ByteArray := prog_10_method_34_code
def yX8_work : MethodName := ⟨RX8, "work", "(III)I"⟩
abbrev cX8_henOf : ByteArray := prog_10_method_35_code
def yX8_henOf : MethodName := ⟨RX8, "henOf", "(II)I"⟩
abbrev cX8_isDone : ByteArray := prog_10_method_36_code
def yX8_isDone : MethodName := ⟨RX8, "isDone", "(I)Z"⟩
abbrev cX8_workOf : ByteArray := prog_10_method_37_code
def yX8_workOf : MethodName := ⟨RX8, "workOf", "(II)I"⟩
abbrev cX8_isOver : ByteArray := prog_10_method_38_code
def yX8_isOver : MethodName := ⟨RX8, "isOver", "(I)Z"⟩
abbrev cX8_spend : ByteArray := prog_10_method_39_code
def yX8_spend : MethodName := ⟨RX8, "spend", "(II)I"⟩
abbrev cX8_broken : ByteArray := prog_10_method_40_code
def yX8_broken : MethodName := ⟨RX8, "broken", "(I)I"⟩
abbrev cX8_done : ByteArray := prog_10_method_41_code
def yX8_done : MethodName := ⟨RX8, "done", "()I"⟩
abbrev cX8_go : ByteArray := prog_10_method_42_code
def yX8_go : MethodName := ⟨RX8, "go", "(I)I"⟩
abbrev cX8_now : ByteArray := prog_10_method_43_code
def yX8_now : MethodName := ⟨RX8, "now", "(I)I"⟩
abbrev cX8_ahead : ByteArray := prog_10_method_44_code
def yX8_ahead : MethodName := ⟨RX8, "ahead", "(I)I"⟩
abbrev cX8_spoils : ByteArray := prog_10_method_45_code
def yX8_spoils : MethodName := ⟨RX8, "spoils", "(I)I"⟩
abbrev cX8_ripe : ByteArray := prog_10_method_46_code
def yX8_ripe : MethodName := ⟨RX8, "ripe", "(I)I"⟩
abbrev cX8_lasts : ByteArray := prog_10_method_47_code
def yX8_lasts : MethodName := ⟨RX8, "lasts", "(I)I"⟩
abbrev cX8_when : ByteArray := prog_10_method_48_code
def yX8_when : MethodName := ⟨RX8, "when", "(I)I"⟩
abbrev cX8_kindFor : ByteArray := prog_10_method_49_code
def yX8_kindFor : MethodName := ⟨RX8, "kindFor", "(II)I"⟩
abbrev cX8_everyFor : ByteArray := prog_10_method_50_code
def yX8_everyFor : MethodName := ⟨RX8, "everyFor", "(II)I"⟩
abbrev cX8_does : ByteArray := prog_10_method_51_code
def yX8_does : MethodName := ⟨RX8, "does", "(II)Z"⟩
abbrev cX8_fewest : ByteArray := prog_10_method_52_code
def yX8_fewest : MethodName := ⟨RX8, "fewest", "(I)I"⟩
abbrev cX8_thrifty : ByteArray := prog_10_method_53_code
def yX8_thrifty : MethodName := ⟨RX8, "thrifty", "(I)I"⟩
abbrev cX8_lowest : ByteArray := prog_10_method_54_code
def yX8_lowest : MethodName := ⟨RX8, "lowest", "(I)I"⟩
abbrev cX8_dealt : ByteArray := prog_10_method_55_code
def yX8_dealt : MethodName := ⟨RX8, "dealt", "(II)Z"⟩
abbrev cX8_worthOf : ByteArray := prog_10_method_56_code
def yX8_worthOf : MethodName := ⟨RX8, "worthOf", "(I)I"⟩
abbrev cX8_bestSet : ByteArray := prog_10_method_57_code
def yX8_bestSet : MethodName := ⟨RX8, "bestSet", "()I"⟩
abbrev cX8_best : ByteArray := prog_10_method_58_code
def yX8_best : MethodName := ⟨RX8, "best", "()I"⟩
abbrev cX8_bestWorks : ByteArray := prog_10_method_59_code
def yX8_bestWorks : MethodName := ⟨RX8, "bestWorks", "()I"⟩
abbrev cX8_soonest : ByteArray := prog_10_method_60_code
def yX8_soonest : MethodName := ⟨RX8, "soonest", "(I)I"⟩
abbrev cX8_inNest : ByteArray := prog_10_method_61_code
def yX8_inNest : MethodName := ⟨RX8, "inNest", "(I)I"⟩
abbrev cX8_nest : ByteArray := prog_10_method_62_code
def yX8_nest : MethodName := ⟨RX8, "nest", "(I)I"⟩
abbrev cX8_guard : ByteArray := prog_10_method_63_code
def yX8_guard : MethodName := ⟨RX8, "guard", "()I"⟩
abbrev cX8_apartBy : ByteArray := prog_10_method_64_code
def yX8_apartBy : MethodName := ⟨RX8, "apartBy", "(I)I"⟩
abbrev cX8_bestHalf : ByteArray := prog_10_method_65_code
def yX8_bestHalf : MethodName := ⟨RX8, "bestHalf", "()I"⟩
abbrev cX8_halves : ByteArray := prog_10_method_66_code
def yX8_halves : MethodName := ⟨RX8, "halves", "()I"⟩
abbrev cX8_apart : ByteArray := prog_10_method_67_code
def yX8_apart : MethodName := ⟨RX8, "apart", "()I"⟩
abbrev cX8_sets : ByteArray := prog_10_method_68_code
def yX8_sets : MethodName := ⟨RX8, "sets", "(I)I"⟩
abbrev cX8_isSheet : ByteArray := prog_10_method_69_code
def yX8_isSheet : MethodName := ⟨RX8, "isSheet", "(I)Z"⟩
abbrev cX8_wrongSheet : ByteArray := prog_10_method_70_code
def yX8_wrongSheet : MethodName := ⟨RX8, "wrongSheet", "(I)I"⟩
abbrev cX8_wrongAges : ByteArray := prog_10_method_71_code
def yX8_wrongAges : MethodName := ⟨RX8, "wrongAges", "(II)I"⟩
abbrev cX8_agesSo : ByteArray := prog_10_method_72_code
def yX8_agesSo : MethodName := ⟨RX8, "agesSo", "(III)Z"⟩
abbrev cX8_ages : ByteArray := prog_10_method_73_code
def yX8_ages : MethodName := ⟨RX8, "ages", "(II)I"⟩
abbrev cX8_youngest : ByteArray := prog_10_method_74_code
def yX8_youngest : MethodName := ⟨RX8, "youngest", "(II)I"⟩
abbrev cX8_draw : ByteArray := prog_10_method_75_code
def yX8_draw : MethodName := ⟨RX8, "draw", "()I"⟩
abbrev cX8_foxes : ByteArray := prog_10_method_76_code
def yX8_foxes : MethodName := ⟨RX8, "foxes", "(I)I"⟩
abbrev cX8_odds : ByteArray := prog_10_method_77_code
def yX8_odds : MethodName := ⟨RX8, "odds", "(II)J"⟩
abbrev cX8_seed : ByteArray := prog_10_method_78_code
def yX8_seed : MethodName := ⟨RX8, "seed", "(I)I"⟩
abbrev cX8_feed : ByteArray := prog_10_method_79_code
def yX8_feed : MethodName := ⟨RX8, "feed", "(II)I"⟩
abbrev cX8_wipe : ByteArray := prog_10_method_80_code
def yX8_wipe : MethodName := ⟨RX8, "wipe", "()I"⟩
abbrev cX8_isLetter : ByteArray := prog_10_method_81_code
def yX8_isLetter : MethodName := ⟨RX8, "isLetter", "(I)Z"⟩
abbrev cX8_isDigit : ByteArray := prog_10_method_82_code
def yX8_isDigit : MethodName := ⟨RX8, "isDigit", "(I)Z"⟩
abbrev cX8_nextToken : ByteArray := prog_10_method_83_code
def yX8_nextToken : MethodName := ⟨RX8, "nextToken", "()V"⟩
abbrev cX8_wordOf : ByteArray := prog_10_method_84_code
def yX8_wordOf : MethodName := ⟨RX8, "wordOf", "([C)I"⟩
abbrev cX8_takesNumber : ByteArray := prog_10_method_85_code
def yX8_takesNumber : MethodName := ⟨RX8, "takesNumber", "(II)I"⟩
abbrev cX8_readsEgg : ByteArray := prog_10_method_86_code
def yX8_readsEgg : MethodName := ⟨RX8, "readsEgg", "(I)Z"⟩
abbrev cX8_readsHen : ByteArray := prog_10_method_87_code
def yX8_readsHen : MethodName := ⟨RX8, "readsHen", "()Z"⟩
abbrev cX8_readsWork : ByteArray := prog_10_method_88_code
def yX8_readsWork : MethodName := ⟨RX8, "readsWork", "()Z"⟩
abbrev cX8_readsItem : ByteArray := prog_10_method_89_code
def yX8_readsItem : MethodName := ⟨RX8, "readsItem", "()Z"⟩
abbrev cX8_text : ByteArray := prog_10_method_90_code
def yX8_text : MethodName := ⟨RX8, "text", "()I"⟩
abbrev cX8_isSpot : ByteArray := prog_10_method_91_code
def yX8_isSpot : MethodName := ⟨RX8, "isSpot", "(I)Z"⟩
abbrev cX8_hold : ByteArray := prog_10_method_92_code
def yX8_hold : MethodName := ⟨RX8, "hold", "(II)I"⟩
abbrev cX8_above : ByteArray := prog_10_method_93_code
def yX8_above : MethodName := ⟨RX8, "above", "(I)I"⟩
abbrev cX8_as : ByteArray := prog_10_method_94_code
def yX8_as : MethodName := ⟨RX8, "as", "(II)I"⟩
abbrev cX8_sheet : ByteArray := prog_10_method_95_code
def yX8_sheet : MethodName := ⟨RX8, "sheet", "(III)I"⟩
abbrev cX8_write : ByteArray := prog_10_method_96_code
def yX8_write : MethodName := ⟨RX8, "write", "(III)I"⟩
abbrev cX8_copy : ByteArray := prog_10_method_97_code
def yX8_copy : MethodName := ⟨RX8, "copy", "(IIIII)I"⟩
abbrev cX8_load : ByteArray := prog_10_method_98_code
def yX8_load : MethodName := ⟨RX8, "load", "(I)I"⟩
abbrev cX8_judge : ByteArray := prog_10_method_99_code
def yX8_judge : MethodName := ⟨RX8, "judge", "(I)I"⟩
abbrev cX8_image : ByteArray := prog_10_method_100_code
def yX8_image : MethodName := ⟨RX8, "image", "()I"⟩
abbrev cX8_undo : ByteArray := prog_10_method_101_code
def yX8_undo : MethodName := ⟨RX8, "undo", "()I"⟩
abbrev cX8_tear : ByteArray := prog_10_method_102_code
def yX8_tear : MethodName := ⟨RX8, "tear", "()I"⟩
abbrev cX8_count : ByteArray := prog_10_method_103_code
def yX8_count : MethodName := ⟨RX8, "count", "(I)I"⟩
abbrev cX8_status : ByteArray := prog_10_method_104_code
def yX8_status : MethodName := ⟨RX8, "status", "(I)I"⟩
def RJ6 : String := "java/lang/Integer"
def TJ6 : u_T := fun k => match k with
  | _ => ("", "", "", false)
def tyJ6 : Nat → FieldType := fun k => match k with
  | _ => .int
theorem nmJ6 : ∀ a, a < 0 → ∀ b, b < 0 → a ≠ b → (TJ6 a).2.1 ≠ (TJ6 b).2.1 := by decide +kernel
theorem tyJ6_ok : ∀ k, k < 0 → parseFieldDescriptor (TJ6 k).2.2.1 = some (tyJ6 k) := by decide +kernel
abbrev cJ6_bitCount_0f7a4 : ByteArray := prog_11_method_49_code
def yJ6_bitCount_0f7a4 : MethodName := ⟨RJ6, "bitCount", "(I)I"⟩
def RJ9 : String := "java/lang/Math"
def TJ9 : u_T := fun k => match k with
  | _ => ("", "", "", false)
def tyJ9 : Nat → FieldType := fun k => match k with
  | _ => .int
theorem nmJ9 : ∀ a, a < 0 → ∀ b, b < 0 → a ≠ b → (TJ9 a).2.1 ≠ (TJ9 b).2.1 := by decide +kernel
theorem tyJ9_ok : ∀ k, k < 0 → parseFieldDescriptor (TJ9 k).2.2.1 = some (tyJ9 k) := by decide +kernel
abbrev cJ9_abs_0f7a4 : ByteArray := prog_12_method_59_code
def yJ9_abs_0f7a4 : MethodName := ⟨RJ9, "abs", "(I)I"⟩
abbrev cJ9_max_7cf53 : ByteArray := prog_12_method_65_code
def yJ9_max_7cf53 : MethodName := ⟨RJ9, "max", "(II)I"⟩
abbrev cJ9_min_7cf53 : ByteArray := prog_12_method_69_code
def yJ9_min_7cf53 : MethodName := ⟨RJ9, "min", "(II)I"⟩
def RJ0 : String := "java/lang/String"
def TJ0 : u_T := fun k => match k with
  | _ => ("", "", "", false)
def tyJ0 : Nat → FieldType := fun k => match k with
  | _ => .int
theorem nmJ0 : ∀ a, a < 0 → ∀ b, b < 0 → a ≠ b → (TJ0 a).2.1 ≠ (TJ0 b).2.1 := by decide +kernel
theorem tyJ0_ok : ∀ k, k < 0 → parseFieldDescriptor (TJ0 k).2.2.1 = some (tyJ0 k) := by decide +kernel
abbrev cJ0_length_8abf5 : ByteArray := prog_13_method_54_code
def yJ0_length_8abf5 : MethodName := ⟨RJ0, "length", "()I"⟩
abbrev cJ0_charAt_5068e : ByteArray := prog_13_method_56_code
def yJ0_charAt_5068e : MethodName := ⟨RJ0, "charAt", "(I)C"⟩
abbrev cJ0_coder_7d493 : ByteArray := prog_13_method_152_code
def yJ0_coder_7d493 : MethodName := ⟨RJ0, "coder", "()B"⟩
abbrev cJ0_isLatin1_aae02 : ByteArray := prog_13_method_154_code
def yJ0_isLatin1_aae02 : MethodName := ⟨RJ0, "isLatin1", "()Z"⟩
abbrev cJ0_checkIndex_df160 : ByteArray := prog_13_method_155_code
def yJ0_checkIndex_df160 : MethodName := ⟨RJ0, "checkIndex", "(II)V"⟩
def RJ1 : String := "java/lang/StringLatin1"
def TJ1 : u_T := fun k => match k with
  | _ => ("", "", "", false)
def tyJ1 : Nat → FieldType := fun k => match k with
  | _ => .int
theorem nmJ1 : ∀ a, a < 0 → ∀ b, b < 0 → a ≠ b → (TJ1 a).2.1 ≠ (TJ1 b).2.1 := by decide +kernel
theorem tyJ1_ok : ∀ k, k < 0 → parseFieldDescriptor (TJ1 k).2.2.1 = some (tyJ1 k) := by decide +kernel
abbrev cJ1_charAt_3b067 : ByteArray := prog_14_method_2_code
def yJ1_charAt_3b067 : MethodName := ⟨RJ1, "charAt", "([BI)C"⟩
def RJ2 : String := "java/lang/StringUTF16"
def TJ2 : u_T := fun k => match k with
  | _ => ("", "", "", false)
def tyJ2 : Nat → FieldType := fun k => match k with
  | _ => .int
theorem nmJ2 : ∀ a, a < 0 → ∀ b, b < 0 → a ≠ b → (TJ2 a).2.1 ≠ (TJ2 b).2.1 := by decide +kernel
theorem tyJ2_ok : ∀ k, k < 0 → parseFieldDescriptor (TJ2 k).2.2.1 = some (tyJ2 k) := by decide +kernel
abbrev cJ2_getChar_3b067 : ByteArray := prog_15_method_5_code
def yJ2_getChar_3b067 : MethodName := ⟨RJ2, "getChar", "([BI)C"⟩
abbrev cJ2_length_9d52b : ByteArray := prog_15_method_6_code
def yJ2_length_9d52b : MethodName := ⟨RJ2, "length", "([B)I"⟩
abbrev cJ2_charAt_3b067 : ByteArray := prog_15_method_83_code
def yJ2_charAt_3b067 : MethodName := ⟨RJ2, "charAt", "([BI)C"⟩
abbrev cJ2_checkIndex_2214a : ByteArray := prog_15_method_91_code
def yJ2_checkIndex_2214a : MethodName := ⟨RJ2, "checkIndex", "(I[B)V"⟩
def RJ3 : String := "jdk/internal/util/Preconditions"
def TJ3 : u_T := fun k => match k with
  | _ => ("", "", "", false)
def tyJ3 : Nat → FieldType := fun k => match k with
  | _ => .int
theorem nmJ3 : ∀ a, a < 0 → ∀ b, b < 0 → a ≠ b → (TJ3 a).2.1 ≠ (TJ3 b).2.1 := by decide +kernel
theorem tyJ3_ok : ∀ k, k < 0 → parseFieldDescriptor (TJ3 k).2.2.1 = some (tyJ3 k) := by decide +kernel
abbrev cJ3_checkIndex_8e157 : ByteArray := prog_16_method_11_code
def yJ3_checkIndex_8e157 : MethodName := ⟨RJ3, "checkIndex", "(IILjava/util/function/BiFunction;)I"⟩
def RL : String := "HourEggsLaw"
abbrev cL_law : ByteArray := code
def yL_law : MethodName := ⟨RL, "law", "([I)Z"⟩
abbrev vwCl : List vw_C := [(RX0, TX0, 3), (RX1, TX1, 7), (RX3, TX3, 6), (RX4, TX4, 3), (RX5, TX5, 4), (RX6, TX6, 2), (RX7, TX7, 8), (RX8, TX8, 21)]
theorem hinX0 : ∀ w ∈ u_ws RX0 TX0 3, w ∈ lw_tbl := by decide +kernel
theorem hinX1 : ∀ w ∈ u_ws RX1 TX1 7, w ∈ lw_tbl := by decide +kernel
theorem hinX3 : ∀ w ∈ u_ws RX3 TX3 6, w ∈ lw_tbl := by decide +kernel
theorem hinX4 : ∀ w ∈ u_ws RX4 TX4 3, w ∈ lw_tbl := by decide +kernel
theorem hinX5 : ∀ w ∈ u_ws RX5 TX5 4, w ∈ lw_tbl := by decide +kernel
theorem hinX6 : ∀ w ∈ u_ws RX6 TX6 2, w ∈ lw_tbl := by decide +kernel
theorem hinX7 : ∀ w ∈ u_ws RX7 TX7 8, w ∈ lw_tbl := by decide +kernel
theorem hinX8 : ∀ w ∈ u_ws RX8 TX8 21, w ∈ lw_tbl := by decide +kernel
