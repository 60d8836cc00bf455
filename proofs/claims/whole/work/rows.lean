section
-- ===== PART A: goes FIRST, ahead of the names: the tables' words, and 'selects' of the private methods out of them =====
/-- a private method of a class that the tables say can be made, by its rows of tables_1 -/
def lw_okq (q : MethodName × Nat) : Prop := (q.1.cls ≠ "java/lang/invoke/MethodHandle" ∧ q.1.cls ≠ "java/lang/invoke/VarHandle") ∧ Cond.instantiable q.1.cls q.2 ∈ tables_1 ∧ Cond.privateMethod q.1 ∈ tables_1 ∧ Cond.instanceMethod q.1 ∈ tables_1
theorem lw_p0 : lw_okq (⟨"HourEggs", "finding", "(I)I"⟩, 8) := ⟨⟨by decide +kernel, by decide +kernel⟩, List.mem_of_getElem? (i := 17) (by decide +kernel), List.mem_of_getElem? (i := 184) (by decide +kernel), List.mem_of_getElem? (i := 185) (by decide +kernel)⟩
theorem lw_p1 : lw_okq (⟨"HourEggs", "replace", "(LHourEggs$Table;III)I"⟩, 8) := ⟨⟨by decide +kernel, by decide +kernel⟩, List.mem_of_getElem? (i := 17) (by decide +kernel), List.mem_of_getElem? (i := 247) (by decide +kernel), List.mem_of_getElem? (i := 248) (by decide +kernel)⟩
theorem lw_p2 : lw_okq (⟨"HourEggs$House", "eggsAge", "()I"⟩, 7) := ⟨⟨by decide +kernel, by decide +kernel⟩, List.mem_of_getElem? (i := 25) (by decide +kernel), List.mem_of_getElem? (i := 313) (by decide +kernel), List.mem_of_getElem? (i := 314) (by decide +kernel)⟩
theorem lw_p3 : lw_okq (⟨"HourEggs$House", "hensLay", "()V"⟩, 7) := ⟨⟨by decide +kernel, by decide +kernel⟩, List.mem_of_getElem? (i := 25) (by decide +kernel), List.mem_of_getElem? (i := 318) (by decide +kernel), List.mem_of_getElem? (i := 319) (by decide +kernel)⟩
theorem lw_p4 : lw_okq (⟨"HourEggs", "minutesWithEvery", "(III)I"⟩, 8) := ⟨⟨by decide +kernel, by decide +kernel⟩, List.mem_of_getElem? (i := 17) (by decide +kernel), List.mem_of_getElem? (i := 389) (by decide +kernel), List.mem_of_getElem? (i := 390) (by decide +kernel)⟩
theorem lw_p5 : lw_okq (⟨"HourEggs$Choices", "does", "(LHourEggs$House;II)Z"⟩, 3) := ⟨⟨by decide +kernel, by decide +kernel⟩, List.mem_of_getElem? (i := 102) (by decide +kernel), List.mem_of_getElem? (i := 407) (by decide +kernel), List.mem_of_getElem? (i := 408) (by decide +kernel)⟩
theorem lw_p6 : lw_okq (⟨"HourEggs$Choices", "isOfEggs", "(I)Z"⟩, 3) := ⟨⟨by decide +kernel, by decide +kernel⟩, List.mem_of_getElem? (i := 102) (by decide +kernel), List.mem_of_getElem? (i := 411) (by decide +kernel), List.mem_of_getElem? (i := 412) (by decide +kernel)⟩
theorem lw_p7 : lw_okq (⟨"HourEggs$Choices", "sumOf", "(I)I"⟩, 3) := ⟨⟨by decide +kernel, by decide +kernel⟩, List.mem_of_getElem? (i := 102) (by decide +kernel), List.mem_of_getElem? (i := 416) (by decide +kernel), List.mem_of_getElem? (i := 417) (by decide +kernel)⟩
theorem lw_p8 : lw_okq (⟨"HourEggs$Choices", "offer", "(II)V"⟩, 3) := ⟨⟨by decide +kernel, by decide +kernel⟩, List.mem_of_getElem? (i := 102) (by decide +kernel), List.mem_of_getElem? (i := 440) (by decide +kernel), List.mem_of_getElem? (i := 441) (by decide +kernel)⟩
theorem lw_p9 : lw_okq (⟨"HourEggs$Choices", "bestWithOneMore", "(III)I"⟩, 3) := ⟨⟨by decide +kernel, by decide +kernel⟩, List.mem_of_getElem? (i := 102) (by decide +kernel), List.mem_of_getElem? (i := 444) (by decide +kernel), List.mem_of_getElem? (i := 445) (by decide +kernel)⟩
theorem lw_p10 : lw_okq (⟨"HourEggs$Choices", "markOf", "(I)I"⟩, 3) := ⟨⟨by decide +kernel, by decide +kernel⟩, List.mem_of_getElem? (i := 102) (by decide +kernel), List.mem_of_getElem? (i := 448) (by decide +kernel), List.mem_of_getElem? (i := 449) (by decide +kernel)⟩
theorem lw_p11 : lw_okq (⟨"HourEggs", "wrongTold", "(II)I"⟩, 8) := ⟨⟨by decide +kernel, by decide +kernel⟩, List.mem_of_getElem? (i := 17) (by decide +kernel), List.mem_of_getElem? (i := 513) (by decide +kernel), List.mem_of_getElem? (i := 514) (by decide +kernel)⟩
theorem lw_p12 : lw_okq (⟨"HourEggs", "wrongSheet", "(I)I"⟩, 8) := ⟨⟨by decide +kernel, by decide +kernel⟩, List.mem_of_getElem? (i := 17) (by decide +kernel), List.mem_of_getElem? (i := 517) (by decide +kernel), List.mem_of_getElem? (i := 518) (by decide +kernel)⟩
theorem lw_p13 : lw_okq (⟨"HourEggs", "sheetAt", "(I)LHourEggs$Sheet;"⟩, 8) := ⟨⟨by decide +kernel, by decide +kernel⟩, List.mem_of_getElem? (i := 17) (by decide +kernel), List.mem_of_getElem? (i := 521) (by decide +kernel), List.mem_of_getElem? (i := 522) (by decide +kernel)⟩
theorem lw_p14 : lw_okq (⟨"HourEggs", "fits", "(LHourEggs$Sheet;II)Z"⟩, 8) := ⟨⟨by decide +kernel, by decide +kernel⟩, List.mem_of_getElem? (i := 17) (by decide +kernel), List.mem_of_getElem? (i := 529) (by decide +kernel), List.mem_of_getElem? (i := 530) (by decide +kernel)⟩
theorem lw_p15 : lw_okq (⟨"HourEggs$Reader", "advance", "()V"⟩, 6) := ⟨⟨by decide +kernel, by decide +kernel⟩, List.mem_of_getElem? (i := 576) (by decide +kernel), List.mem_of_getElem? (i := 605) (by decide +kernel), List.mem_of_getElem? (i := 606) (by decide +kernel)⟩
def lw_privs_1 : List (MethodName × Nat) := [(⟨"HourEggs", "finding", "(I)I"⟩, 8), (⟨"HourEggs", "replace", "(LHourEggs$Table;III)I"⟩, 8), (⟨"HourEggs$House", "eggsAge", "()I"⟩, 7), (⟨"HourEggs$House", "hensLay", "()V"⟩, 7), (⟨"HourEggs", "minutesWithEvery", "(III)I"⟩, 8), (⟨"HourEggs$Choices", "does", "(LHourEggs$House;II)Z"⟩, 3), (⟨"HourEggs$Choices", "isOfEggs", "(I)Z"⟩, 3), (⟨"HourEggs$Choices", "sumOf", "(I)I"⟩, 3), (⟨"HourEggs$Choices", "offer", "(II)V"⟩, 3), (⟨"HourEggs$Choices", "bestWithOneMore", "(III)I"⟩, 3), (⟨"HourEggs$Choices", "markOf", "(I)I"⟩, 3), (⟨"HourEggs", "wrongTold", "(II)I"⟩, 8), (⟨"HourEggs", "wrongSheet", "(I)I"⟩, 8), (⟨"HourEggs", "sheetAt", "(I)LHourEggs$Sheet;"⟩, 8), (⟨"HourEggs", "fits", "(LHourEggs$Sheet;II)Z"⟩, 8), (⟨"HourEggs$Reader", "advance", "()V"⟩, 6)]
theorem lw_r1 : ∀ q ∈ lw_privs_1, lw_okq q := List.forall_mem_cons.mpr ⟨lw_p0, List.forall_mem_cons.mpr ⟨lw_p1, List.forall_mem_cons.mpr ⟨lw_p2, List.forall_mem_cons.mpr ⟨lw_p3, List.forall_mem_cons.mpr ⟨lw_p4, List.forall_mem_cons.mpr ⟨lw_p5, List.forall_mem_cons.mpr ⟨lw_p6, List.forall_mem_cons.mpr ⟨lw_p7, List.forall_mem_cons.mpr ⟨lw_p8, List.forall_mem_cons.mpr ⟨lw_p9, List.forall_mem_cons.mpr ⟨lw_p10, List.forall_mem_cons.mpr ⟨lw_p11, List.forall_mem_cons.mpr ⟨lw_p12, List.forall_mem_cons.mpr ⟨lw_p13, List.forall_mem_cons.mpr ⟨lw_p14, List.forall_mem_cons.mpr ⟨lw_p15, fun _ h => absurd h List.not_mem_nil⟩⟩⟩⟩⟩⟩⟩⟩⟩⟩⟩⟩⟩⟩⟩⟩
theorem lw_p16 : lw_okq (⟨"HourEggs$Reader", "kindAhead", "()I"⟩, 6) := ⟨⟨by decide +kernel, by decide +kernel⟩, List.mem_of_getElem? (i := 576) (by decide +kernel), List.mem_of_getElem? (i := 618) (by decide +kernel), List.mem_of_getElem? (i := 619) (by decide +kernel)⟩
theorem lw_p17 : lw_okq (⟨"HourEggs$Reader", "isAhead", "(Ljava/lang/String;)Z"⟩, 6) := ⟨⟨by decide +kernel, by decide +kernel⟩, List.mem_of_getElem? (i := 576) (by decide +kernel), List.mem_of_getElem? (i := 632) (by decide +kernel), List.mem_of_getElem? (i := 633) (by decide +kernel)⟩
theorem lw_p18 : lw_okq (⟨"HourEggs$Reader", "readEgg", "(I)Z"⟩, 6) := ⟨⟨by decide +kernel, by decide +kernel⟩, List.mem_of_getElem? (i := 576) (by decide +kernel), List.mem_of_getElem? (i := 684) (by decide +kernel), List.mem_of_getElem? (i := 685) (by decide +kernel)⟩
theorem lw_p19 : lw_okq (⟨"HourEggs$Reader", "readNumber", "(II)I"⟩, 6) := ⟨⟨by decide +kernel, by decide +kernel⟩, List.mem_of_getElem? (i := 576) (by decide +kernel), List.mem_of_getElem? (i := 689) (by decide +kernel), List.mem_of_getElem? (i := 690) (by decide +kernel)⟩
theorem lw_p20 : lw_okq (⟨"HourEggs$Reader", "readPerhaps", "(Ljava/lang/String;II)I"⟩, 6) := ⟨⟨by decide +kernel, by decide +kernel⟩, List.mem_of_getElem? (i := 576) (by decide +kernel), List.mem_of_getElem? (i := 694) (by decide +kernel), List.mem_of_getElem? (i := 695) (by decide +kernel)⟩
theorem lw_p21 : lw_okq (⟨"HourEggs$Reader", "readHen", "()Z"⟩, 6) := ⟨⟨by decide +kernel, by decide +kernel⟩, List.mem_of_getElem? (i := 576) (by decide +kernel), List.mem_of_getElem? (i := 701) (by decide +kernel), List.mem_of_getElem? (i := 702) (by decide +kernel)⟩
theorem lw_p22 : lw_okq (⟨"HourEggs$Reader", "readWork", "()Z"⟩, 6) := ⟨⟨by decide +kernel, by decide +kernel⟩, List.mem_of_getElem? (i := 576) (by decide +kernel), List.mem_of_getElem? (i := 706) (by decide +kernel), List.mem_of_getElem? (i := 707) (by decide +kernel)⟩
theorem lw_p23 : lw_okq (⟨"HourEggsModel", "no", "(I)I"⟩, 21) := ⟨⟨by decide +kernel, by decide +kernel⟩, List.mem_of_getElem? (i := 802) (by decide +kernel), List.mem_of_getElem? (i := 882) (by decide +kernel), List.mem_of_getElem? (i := 883) (by decide +kernel)⟩
theorem lw_p24 : lw_okq (⟨"HourEggsModel", "lays", "(IIII)I"⟩, 21) := ⟨⟨by decide +kernel, by decide +kernel⟩, List.mem_of_getElem? (i := 802) (by decide +kernel), List.mem_of_getElem? (i := 887) (by decide +kernel), List.mem_of_getElem? (i := 888) (by decide +kernel)⟩
theorem lw_p25 : lw_okq (⟨"HourEggsModel", "free", "()I"⟩, 21) := ⟨⟨by decide +kernel, by decide +kernel⟩, List.mem_of_getElem? (i := 802) (by decide +kernel), List.mem_of_getElem? (i := 891) (by decide +kernel), List.mem_of_getElem? (i := 892) (by decide +kernel)⟩
theorem lw_p26 : lw_okq (⟨"HourEggsModel", "isThere", "(I)Z"⟩, 21) := ⟨⟨by decide +kernel, by decide +kernel⟩, List.mem_of_getElem? (i := 802) (by decide +kernel), List.mem_of_getElem? (i := 895) (by decide +kernel), List.mem_of_getElem? (i := 896) (by decide +kernel)⟩
theorem lw_p27 : lw_okq (⟨"HourEggsModel", "get", "(II)I"⟩, 21) := ⟨⟨by decide +kernel, by decide +kernel⟩, List.mem_of_getElem? (i := 802) (by decide +kernel), List.mem_of_getElem? (i := 899) (by decide +kernel), List.mem_of_getElem? (i := 900) (by decide +kernel)⟩
theorem lw_p28 : lw_okq (⟨"HourEggsModel", "puts", "(III)V"⟩, 21) := ⟨⟨by decide +kernel, by decide +kernel⟩, List.mem_of_getElem? (i := 802) (by decide +kernel), List.mem_of_getElem? (i := 903) (by decide +kernel), List.mem_of_getElem? (i := 904) (by decide +kernel)⟩
theorem lw_p29 : lw_okq (⟨"HourEggsModel", "isEgg", "(I)Z"⟩, 21) := ⟨⟨by decide +kernel, by decide +kernel⟩, List.mem_of_getElem? (i := 802) (by decide +kernel), List.mem_of_getElem? (i := 911) (by decide +kernel), List.mem_of_getElem? (i := 912) (by decide +kernel)⟩
theorem lw_p30 : lw_okq (⟨"HourEggsModel", "minutes", "(I)I"⟩, 21) := ⟨⟨by decide +kernel, by decide +kernel⟩, List.mem_of_getElem? (i := 802) (by decide +kernel), List.mem_of_getElem? (i := 918) (by decide +kernel), List.mem_of_getElem? (i := 919) (by decide +kernel)⟩
theorem lw_p31 : lw_okq (⟨"HourEggsModel", "hens", "(II)I"⟩, 21) := ⟨⟨by decide +kernel, by decide +kernel⟩, List.mem_of_getElem? (i := 802) (by decide +kernel), List.mem_of_getElem? (i := 945) (by decide +kernel), List.mem_of_getElem? (i := 946) (by decide +kernel)⟩
def lw_privs_2 : List (MethodName × Nat) := [(⟨"HourEggs$Reader", "kindAhead", "()I"⟩, 6), (⟨"HourEggs$Reader", "isAhead", "(Ljava/lang/String;)Z"⟩, 6), (⟨"HourEggs$Reader", "readEgg", "(I)Z"⟩, 6), (⟨"HourEggs$Reader", "readNumber", "(II)I"⟩, 6), (⟨"HourEggs$Reader", "readPerhaps", "(Ljava/lang/String;II)I"⟩, 6), (⟨"HourEggs$Reader", "readHen", "()Z"⟩, 6), (⟨"HourEggs$Reader", "readWork", "()Z"⟩, 6), (⟨"HourEggsModel", "no", "(I)I"⟩, 21), (⟨"HourEggsModel", "lays", "(IIII)I"⟩, 21), (⟨"HourEggsModel", "free", "()I"⟩, 21), (⟨"HourEggsModel", "isThere", "(I)Z"⟩, 21), (⟨"HourEggsModel", "get", "(II)I"⟩, 21), (⟨"HourEggsModel", "puts", "(III)V"⟩, 21), (⟨"HourEggsModel", "isEgg", "(I)Z"⟩, 21), (⟨"HourEggsModel", "minutes", "(I)I"⟩, 21), (⟨"HourEggsModel", "hens", "(II)I"⟩, 21)]
theorem lw_r2 : ∀ q ∈ lw_privs_2, lw_okq q := List.forall_mem_cons.mpr ⟨lw_p16, List.forall_mem_cons.mpr ⟨lw_p17, List.forall_mem_cons.mpr ⟨lw_p18, List.forall_mem_cons.mpr ⟨lw_p19, List.forall_mem_cons.mpr ⟨lw_p20, List.forall_mem_cons.mpr ⟨lw_p21, List.forall_mem_cons.mpr ⟨lw_p22, List.forall_mem_cons.mpr ⟨lw_p23, List.forall_mem_cons.mpr ⟨lw_p24, List.forall_mem_cons.mpr ⟨lw_p25, List.forall_mem_cons.mpr ⟨lw_p26, List.forall_mem_cons.mpr ⟨lw_p27, List.forall_mem_cons.mpr ⟨lw_p28, List.forall_mem_cons.mpr ⟨lw_p29, List.forall_mem_cons.mpr ⟨lw_p30, List.forall_mem_cons.mpr ⟨lw_p31, fun _ h => absurd h List.not_mem_nil⟩⟩⟩⟩⟩⟩⟩⟩⟩⟩⟩⟩⟩⟩⟩⟩
theorem lw_p32 : lw_okq (⟨"HourEggsModel", "works", "(II)I"⟩, 21) := ⟨⟨by decide +kernel, by decide +kernel⟩, List.mem_of_getElem? (i := 802) (by decide +kernel), List.mem_of_getElem? (i := 956) (by decide +kernel), List.mem_of_getElem? (i := 957) (by decide +kernel)⟩
theorem lw_p33 : lw_okq (⟨"HourEggsModel", "isDone", "(I)Z"⟩, 21) := ⟨⟨by decide +kernel, by decide +kernel⟩, List.mem_of_getElem? (i := 802) (by decide +kernel), List.mem_of_getElem? (i := 968) (by decide +kernel), List.mem_of_getElem? (i := 969) (by decide +kernel)⟩
theorem lw_p34 : lw_okq (⟨"HourEggsModel", "isOver", "(I)Z"⟩, 21) := ⟨⟨by decide +kernel, by decide +kernel⟩, List.mem_of_getElem? (i := 802) (by decide +kernel), List.mem_of_getElem? (i := 976) (by decide +kernel), List.mem_of_getElem? (i := 977) (by decide +kernel)⟩
theorem lw_p35 : lw_okq (⟨"HourEggsModel", "goesEgg", "(I)V"⟩, 21) := ⟨⟨by decide +kernel, by decide +kernel⟩, List.mem_of_getElem? (i := 802) (by decide +kernel), List.mem_of_getElem? (i := 980) (by decide +kernel), List.mem_of_getElem? (i := 981) (by decide +kernel)⟩
theorem lw_p36 : lw_okq (⟨"HourEggsModel", "day", "()I"⟩, 21) := ⟨⟨by decide +kernel, by decide +kernel⟩, List.mem_of_getElem? (i := 802) (by decide +kernel), List.mem_of_getElem? (i := 992) (by decide +kernel), List.mem_of_getElem? (i := 993) (by decide +kernel)⟩
theorem lw_p37 : lw_okq (⟨"HourEggsModel", "eggs", "()I"⟩, 21) := ⟨⟨by decide +kernel, by decide +kernel⟩, List.mem_of_getElem? (i := 802) (by decide +kernel), List.mem_of_getElem? (i := 996) (by decide +kernel), List.mem_of_getElem? (i := 997) (by decide +kernel)⟩
theorem lw_p38 : lw_okq (⟨"HourEggsModel", "allMinutes", "()I"⟩, 21) := ⟨⟨by decide +kernel, by decide +kernel⟩, List.mem_of_getElem? (i := 802) (by decide +kernel), List.mem_of_getElem? (i := 1007) (by decide +kernel), List.mem_of_getElem? (i := 1008) (by decide +kernel)⟩
theorem lw_p39 : lw_okq (⟨"HourEggsModel", "sumOf", "(I)I"⟩, 21) := ⟨⟨by decide +kernel, by decide +kernel⟩, List.mem_of_getElem? (i := 802) (by decide +kernel), List.mem_of_getElem? (i := 1011) (by decide +kernel), List.mem_of_getElem? (i := 1012) (by decide +kernel)⟩
theorem lw_p40 : lw_okq (⟨"HourEggsModel", "done", "()I"⟩, 21) := ⟨⟨by decide +kernel, by decide +kernel⟩, List.mem_of_getElem? (i := 802) (by decide +kernel), List.mem_of_getElem? (i := 1018) (by decide +kernel), List.mem_of_getElem? (i := 1019) (by decide +kernel)⟩
theorem lw_p41 : lw_okq (⟨"HourEggsModel", "setsAside", "()V"⟩, 21) := ⟨⟨by decide +kernel, by decide +kernel⟩, List.mem_of_getElem? (i := 802) (by decide +kernel), List.mem_of_getElem? (i := 1026) (by decide +kernel), List.mem_of_getElem? (i := 1027) (by decide +kernel)⟩
theorem lw_p42 : lw_okq (⟨"HourEggsModel", "laysBack", "()V"⟩, 21) := ⟨⟨by decide +kernel, by decide +kernel⟩, List.mem_of_getElem? (i := 802) (by decide +kernel), List.mem_of_getElem? (i := 1030) (by decide +kernel), List.mem_of_getElem? (i := 1031) (by decide +kernel)⟩
theorem lw_p43 : lw_okq (⟨"HourEggsModel", "then", "(IIII)I"⟩, 21) := ⟨⟨by decide +kernel, by decide +kernel⟩, List.mem_of_getElem? (i := 802) (by decide +kernel), List.mem_of_getElem? (i := 1042) (by decide +kernel), List.mem_of_getElem? (i := 1043) (by decide +kernel)⟩
theorem lw_p44 : lw_okq (⟨"HourEggsModel", "does", "(II)Z"⟩, 21) := ⟨⟨by decide +kernel, by decide +kernel⟩, List.mem_of_getElem? (i := 802) (by decide +kernel), List.mem_of_getElem? (i := 1066) (by decide +kernel), List.mem_of_getElem? (i := 1067) (by decide +kernel)⟩
theorem lw_p45 : lw_okq (⟨"HourEggsModel", "bestSet", "()I"⟩, 21) := ⟨⟨by decide +kernel, by decide +kernel⟩, List.mem_of_getElem? (i := 802) (by decide +kernel), List.mem_of_getElem? (i := 1078) (by decide +kernel), List.mem_of_getElem? (i := 1079) (by decide +kernel)⟩
theorem lw_p46 : lw_okq (⟨"HourEggsModel", "dealt", "(II)Z"⟩, 21) := ⟨⟨by decide +kernel, by decide +kernel⟩, List.mem_of_getElem? (i := 802) (by decide +kernel), List.mem_of_getElem? (i := 1082) (by decide +kernel), List.mem_of_getElem? (i := 1083) (by decide +kernel)⟩
theorem lw_p47 : lw_okq (⟨"HourEggsModel", "worthOf", "(I)I"⟩, 21) := ⟨⟨by decide +kernel, by decide +kernel⟩, List.mem_of_getElem? (i := 802) (by decide +kernel), List.mem_of_getElem? (i := 1089) (by decide +kernel), List.mem_of_getElem? (i := 1090) (by decide +kernel)⟩
def lw_privs_3 : List (MethodName × Nat) := [(⟨"HourEggsModel", "works", "(II)I"⟩, 21), (⟨"HourEggsModel", "isDone", "(I)Z"⟩, 21), (⟨"HourEggsModel", "isOver", "(I)Z"⟩, 21), (⟨"HourEggsModel", "goesEgg", "(I)V"⟩, 21), (⟨"HourEggsModel", "day", "()I"⟩, 21), (⟨"HourEggsModel", "eggs", "()I"⟩, 21), (⟨"HourEggsModel", "allMinutes", "()I"⟩, 21), (⟨"HourEggsModel", "sumOf", "(I)I"⟩, 21), (⟨"HourEggsModel", "done", "()I"⟩, 21), (⟨"HourEggsModel", "setsAside", "()V"⟩, 21), (⟨"HourEggsModel", "laysBack", "()V"⟩, 21), (⟨"HourEggsModel", "then", "(IIII)I"⟩, 21), (⟨"HourEggsModel", "does", "(II)Z"⟩, 21), (⟨"HourEggsModel", "bestSet", "()I"⟩, 21), (⟨"HourEggsModel", "dealt", "(II)Z"⟩, 21), (⟨"HourEggsModel", "worthOf", "(I)I"⟩, 21)]
theorem lw_r3 : ∀ q ∈ lw_privs_3, lw_okq q := List.forall_mem_cons.mpr ⟨lw_p32, List.forall_mem_cons.mpr ⟨lw_p33, List.forall_mem_cons.mpr ⟨lw_p34, List.forall_mem_cons.mpr ⟨lw_p35, List.forall_mem_cons.mpr ⟨lw_p36, List.forall_mem_cons.mpr ⟨lw_p37, List.forall_mem_cons.mpr ⟨lw_p38, List.forall_mem_cons.mpr ⟨lw_p39, List.forall_mem_cons.mpr ⟨lw_p40, List.forall_mem_cons.mpr ⟨lw_p41, List.forall_mem_cons.mpr ⟨lw_p42, List.forall_mem_cons.mpr ⟨lw_p43, List.forall_mem_cons.mpr ⟨lw_p44, List.forall_mem_cons.mpr ⟨lw_p45, List.forall_mem_cons.mpr ⟨lw_p46, List.forall_mem_cons.mpr ⟨lw_p47, fun _ h => absurd h List.not_mem_nil⟩⟩⟩⟩⟩⟩⟩⟩⟩⟩⟩⟩⟩⟩⟩⟩
theorem lw_p48 : lw_okq (⟨"HourEggsModel", "inNest", "(I)I"⟩, 21) := ⟨⟨by decide +kernel, by decide +kernel⟩, List.mem_of_getElem? (i := 802) (by decide +kernel), List.mem_of_getElem? (i := 1105) (by decide +kernel), List.mem_of_getElem? (i := 1106) (by decide +kernel)⟩
theorem lw_p49 : lw_okq (⟨"HourEggsModel", "bestHalf", "()I"⟩, 21) := ⟨⟨by decide +kernel, by decide +kernel⟩, List.mem_of_getElem? (i := 802) (by decide +kernel), List.mem_of_getElem? (i := 1117) (by decide +kernel), List.mem_of_getElem? (i := 1118) (by decide +kernel)⟩
theorem lw_p50 : lw_okq (⟨"HourEggsModel", "apartBy", "(I)I"⟩, 21) := ⟨⟨by decide +kernel, by decide +kernel⟩, List.mem_of_getElem? (i := 802) (by decide +kernel), List.mem_of_getElem? (i := 1121) (by decide +kernel), List.mem_of_getElem? (i := 1122) (by decide +kernel)⟩
theorem lw_p51 : lw_okq (⟨"HourEggsModel", "wrongAges", "(II)I"⟩, 21) := ⟨⟨by decide +kernel, by decide +kernel⟩, List.mem_of_getElem? (i := 802) (by decide +kernel), List.mem_of_getElem? (i := 1137) (by decide +kernel), List.mem_of_getElem? (i := 1138) (by decide +kernel)⟩
theorem lw_p52 : lw_okq (⟨"HourEggsModel", "wrongSheet", "(I)I"⟩, 21) := ⟨⟨by decide +kernel, by decide +kernel⟩, List.mem_of_getElem? (i := 802) (by decide +kernel), List.mem_of_getElem? (i := 1141) (by decide +kernel), List.mem_of_getElem? (i := 1142) (by decide +kernel)⟩
theorem lw_p53 : lw_okq (⟨"HourEggsModel", "agesSo", "(III)Z"⟩, 21) := ⟨⟨by decide +kernel, by decide +kernel⟩, List.mem_of_getElem? (i := 802) (by decide +kernel), List.mem_of_getElem? (i := 1148) (by decide +kernel), List.mem_of_getElem? (i := 1149) (by decide +kernel)⟩
theorem lw_p54 : lw_okq (⟨"HourEggsModel", "draw", "()I"⟩, 21) := ⟨⟨by decide +kernel, by decide +kernel⟩, List.mem_of_getElem? (i := 802) (by decide +kernel), List.mem_of_getElem? (i := 1160) (by decide +kernel), List.mem_of_getElem? (i := 1161) (by decide +kernel)⟩
theorem lw_p55 : lw_okq (⟨"HourEggsModel", "nextToken", "()V"⟩, 21) := ⟨⟨by decide +kernel, by decide +kernel⟩, List.mem_of_getElem? (i := 802) (by decide +kernel), List.mem_of_getElem? (i := 1187) (by decide +kernel), List.mem_of_getElem? (i := 1188) (by decide +kernel)⟩
theorem lw_p56 : lw_okq (⟨"HourEggsModel", "readsItem", "()Z"⟩, 21) := ⟨⟨by decide +kernel, by decide +kernel⟩, List.mem_of_getElem? (i := 802) (by decide +kernel), List.mem_of_getElem? (i := 1203) (by decide +kernel), List.mem_of_getElem? (i := 1204) (by decide +kernel)⟩
theorem lw_p57 : lw_okq (⟨"HourEggsModel", "wordOf", "([C)I"⟩, 21) := ⟨⟨by decide +kernel, by decide +kernel⟩, List.mem_of_getElem? (i := 802) (by decide +kernel), List.mem_of_getElem? (i := 1207) (by decide +kernel), List.mem_of_getElem? (i := 1208) (by decide +kernel)⟩
theorem lw_p58 : lw_okq (⟨"HourEggsModel", "readsEgg", "(I)Z"⟩, 21) := ⟨⟨by decide +kernel, by decide +kernel⟩, List.mem_of_getElem? (i := 802) (by decide +kernel), List.mem_of_getElem? (i := 1211) (by decide +kernel), List.mem_of_getElem? (i := 1212) (by decide +kernel)⟩
theorem lw_p59 : lw_okq (⟨"HourEggsModel", "takesNumber", "(II)I"⟩, 21) := ⟨⟨by decide +kernel, by decide +kernel⟩, List.mem_of_getElem? (i := 802) (by decide +kernel), List.mem_of_getElem? (i := 1215) (by decide +kernel), List.mem_of_getElem? (i := 1216) (by decide +kernel)⟩
theorem lw_p60 : lw_okq (⟨"HourEggsModel", "readsHen", "()Z"⟩, 21) := ⟨⟨by decide +kernel, by decide +kernel⟩, List.mem_of_getElem? (i := 802) (by decide +kernel), List.mem_of_getElem? (i := 1219) (by decide +kernel), List.mem_of_getElem? (i := 1220) (by decide +kernel)⟩
theorem lw_p61 : lw_okq (⟨"HourEggsModel", "readsWork", "()Z"⟩, 21) := ⟨⟨by decide +kernel, by decide +kernel⟩, List.mem_of_getElem? (i := 802) (by decide +kernel), List.mem_of_getElem? (i := 1223) (by decide +kernel), List.mem_of_getElem? (i := 1224) (by decide +kernel)⟩
def lw_privs_4 : List (MethodName × Nat) := [(⟨"HourEggsModel", "inNest", "(I)I"⟩, 21), (⟨"HourEggsModel", "bestHalf", "()I"⟩, 21), (⟨"HourEggsModel", "apartBy", "(I)I"⟩, 21), (⟨"HourEggsModel", "wrongAges", "(II)I"⟩, 21), (⟨"HourEggsModel", "wrongSheet", "(I)I"⟩, 21), (⟨"HourEggsModel", "agesSo", "(III)Z"⟩, 21), (⟨"HourEggsModel", "draw", "()I"⟩, 21), (⟨"HourEggsModel", "nextToken", "()V"⟩, 21), (⟨"HourEggsModel", "readsItem", "()Z"⟩, 21), (⟨"HourEggsModel", "wordOf", "([C)I"⟩, 21), (⟨"HourEggsModel", "readsEgg", "(I)Z"⟩, 21), (⟨"HourEggsModel", "takesNumber", "(II)I"⟩, 21), (⟨"HourEggsModel", "readsHen", "()Z"⟩, 21), (⟨"HourEggsModel", "readsWork", "()Z"⟩, 21)]
theorem lw_r4 : ∀ q ∈ lw_privs_4, lw_okq q := List.forall_mem_cons.mpr ⟨lw_p48, List.forall_mem_cons.mpr ⟨lw_p49, List.forall_mem_cons.mpr ⟨lw_p50, List.forall_mem_cons.mpr ⟨lw_p51, List.forall_mem_cons.mpr ⟨lw_p52, List.forall_mem_cons.mpr ⟨lw_p53, List.forall_mem_cons.mpr ⟨lw_p54, List.forall_mem_cons.mpr ⟨lw_p55, List.forall_mem_cons.mpr ⟨lw_p56, List.forall_mem_cons.mpr ⟨lw_p57, List.forall_mem_cons.mpr ⟨lw_p58, List.forall_mem_cons.mpr ⟨lw_p59, List.forall_mem_cons.mpr ⟨lw_p60, List.forall_mem_cons.mpr ⟨lw_p61, fun _ h => absurd h List.not_mem_nil⟩⟩⟩⟩⟩⟩⟩⟩⟩⟩⟩⟩⟩⟩
def lw_privs : List (MethodName × Nat) := lw_privs_1 ++ (lw_privs_2 ++ (lw_privs_3 ++ (lw_privs_4)))
def lw_tbl : List Cond := k2_sels lw_privs ++ tables_1
theorem lw_privs_ok : ∀ q ∈ lw_privs, lw_okq q := by
  show ∀ q ∈ lw_privs_1 ++ (lw_privs_2 ++ (lw_privs_3 ++ (lw_privs_4))), lw_okq q
  exact List.forall_mem_append.mpr ⟨lw_r1, List.forall_mem_append.mpr ⟨lw_r2, List.forall_mem_append.mpr ⟨lw_r3, lw_r4⟩⟩⟩

/-! ===== BEGIN printed: names, fields, word lists, decode rows ===== -/
def RX0 : String := "HourEggs$Choices"
def TX0 : u_T := fun k => match k with
  | 0 => ("HourEggs$Choices", "sums", "[I", true)
  | 1 => ("HourEggs$Choices", "marks", "[I", true)
  | _ => ("HourEggs$Choices", "places", "I", false)
def tyX0 : Nat → FieldType := fun k => match k with
  | 0 => .array .int
  | 1 => .array .int
  | _ => .int
theorem nmX0 : ∀ a, a < 3 → ∀ b, b < 3 → a ≠ b → (TX0 a).2.1 ≠ (TX0 b).2.1 := by decide +kernel
theorem tyX0_ok : ∀ k, k < 3 → parseFieldDescriptor (TX0 k).2.2.1 = some (tyX0 k) := by decide +kernel
abbrev cX0_init : ByteArray := prog_2_method_1_code
def yX0_init : MethodName := ⟨RX0, "<init>", "()V"⟩
abbrev cX0_lookAt : ByteArray := prog_2_method_2_code
def yX0_lookAt : MethodName := ⟨RX0, "lookAt", "(LHourEggs$House;)V"⟩
abbrev cX0_isOfEggs : ByteArray := prog_2_method_3_code
def yX0_isOfEggs : MethodName := ⟨RX0, "isOfEggs", "(I)Z"⟩
abbrev cX0_sumOf : ByteArray := prog_2_method_4_code
def yX0_sumOf : MethodName := ⟨RX0, "sumOf", "(I)I"⟩
abbrev cX0_does : ByteArray := prog_2_method_5_code
def yX0_does : MethodName := ⟨RX0, "does", "(LHourEggs$House;II)Z"⟩
abbrev cX0_fewestFor : ByteArray := prog_2_method_6_code
def yX0_fewestFor : MethodName := ⟨RX0, "fewestFor", "(LHourEggs$House;I)I"⟩
abbrev cX0_leastFor : ByteArray := prog_2_method_7_code
def yX0_leastFor : MethodName := ⟨RX0, "leastFor", "(LHourEggs$House;I)I"⟩
abbrev cX0_bestMark : ByteArray := prog_2_method_8_code
def yX0_bestMark : MethodName := ⟨RX0, "bestMark", "(LHourEggs$House;)I"⟩
abbrev cX0_offer : ByteArray := prog_2_method_9_code
def yX0_offer : MethodName := ⟨RX0, "offer", "(II)V"⟩
abbrev cX0_bestWithOneMore : ByteArray := prog_2_method_10_code
def yX0_bestWithOneMore : MethodName := ⟨RX0, "bestWithOneMore", "(III)I"⟩
abbrev cX0_markOf : ByteArray := prog_2_method_11_code
def yX0_markOf : MethodName := ⟨RX0, "markOf", "(I)I"⟩
abbrev cX0_worthOf : ByteArray := prog_2_method_12_code
def yX0_worthOf : MethodName := ⟨RX0, "worthOf", "(I)I"⟩
abbrev cX0_worksOf : ByteArray := prog_2_method_13_code
def yX0_worksOf : MethodName := ⟨RX0, "worksOf", "(I)I"⟩
abbrev cX0_nearestHalf : ByteArray := prog_2_method_14_code
def yX0_nearestHalf : MethodName := ⟨RX0, "nearestHalf", "()I"⟩
abbrev cX0_apartWith : ByteArray := prog_2_method_15_code
def yX0_apartWith : MethodName := ⟨RX0, "apartWith", "(I)I"⟩
abbrev cX0_setsOf : ByteArray := prog_2_method_16_code
def yX0_setsOf : MethodName := ⟨RX0, "setsOf", "(I)I"⟩
def RX1 : String := "HourEggs$House"
def TX1 : u_T := fun k => match k with
  | 0 => ("HourEggs$House", "eggs", "LHourEggs$Table;", true)
  | 1 => ("HourEggs$House", "hens", "LHourEggs$Table;", true)
  | 2 => ("HourEggs$House", "works", "LHourEggs$Table;", true)
  | 3 => ("HourEggs$House", "spots", "[I", true)
  | 4 => ("HourEggs$House", "day", "I", false)
  | 5 => ("HourEggs$House", "spoiled", "I", false)
  | _ => ("HourEggs$House", "z", "I", false)
def tyX1 : Nat → FieldType := fun k => match k with
  | 0 => .object "HourEggs$Table"
  | 1 => .object "HourEggs$Table"
  | 2 => .object "HourEggs$Table"
  | 3 => .array .int
  | 4 => .int
  | 5 => .int
  | _ => .int
theorem nmX1 : ∀ a, a < 7 → ∀ b, b < 7 → a ≠ b → (TX1 a).2.1 ≠ (TX1 b).2.1 := by decide +kernel
theorem tyX1_ok : ∀ k, k < 7 → parseFieldDescriptor (TX1 k).2.2.1 = some (tyX1 k) := by decide +kernel
abbrev cX1_init : ByteArray := prog_3_method_1_code
def yX1_init : MethodName := ⟨RX1, "<init>", "()V"⟩
abbrev cX1_become : ByteArray := prog_3_method_2_code
def yX1_become : MethodName := ⟨RX1, "become", "(LHourEggs$House;)V"⟩
abbrev cX1_hasEgg : ByteArray := prog_3_method_3_code
def yX1_hasEgg : MethodName := ⟨RX1, "hasEgg", "(I)Z"⟩
abbrev cX1_emptyPlace : ByteArray := prog_3_method_4_code
def yX1_emptyPlace : MethodName := ⟨RX1, "emptyPlace", "()I"⟩
abbrev cX1_places : ByteArray := prog_3_method_5_code
def yX1_places : MethodName := ⟨RX1, "places", "()I"⟩
abbrev cX1_layAt : ByteArray := prog_3_method_6_code
def yX1_layAt : MethodName := ⟨RX1, "layAt", "(IIIII)V"⟩
abbrev cX1_empty : ByteArray := prog_3_method_7_code
def yX1_empty : MethodName := ⟨RX1, "empty", "(I)V"⟩
abbrev cX1_minutesOf : ByteArray := prog_3_method_8_code
def yX1_minutesOf : MethodName := ⟨RX1, "minutesOf", "(I)I"⟩
abbrev cX1_minutesBehind : ByteArray := prog_3_method_9_code
def yX1_minutesBehind : MethodName := ⟨RX1, "minutesBehind", "(IIII)I"⟩
abbrev cX1_allMinutes : ByteArray := prog_3_method_10_code
def yX1_allMinutes : MethodName := ⟨RX1, "allMinutes", "()I"⟩
abbrev cX1_minutesIn : ByteArray := prog_3_method_11_code
def yX1_minutesIn : MethodName := ⟨RX1, "minutesIn", "(I)I"⟩
abbrev cX1_lacks : ByteArray := prog_3_method_12_code
def yX1_lacks : MethodName := ⟨RX1, "lacks", "(I)I"⟩
abbrev cX1_isDone : ByteArray := prog_3_method_13_code
def yX1_isDone : MethodName := ⟨RX1, "isDone", "(I)Z"⟩
abbrev cX1_isInTime : ByteArray := prog_3_method_14_code
def yX1_isInTime : MethodName := ⟨RX1, "isInTime", "(I)Z"⟩
abbrev cX1_doneWorks : ByteArray := prog_3_method_15_code
def yX1_doneWorks : MethodName := ⟨RX1, "doneWorks", "()I"⟩
abbrev cX1_spendOn : ByteArray := prog_3_method_16_code
def yX1_spendOn : MethodName := ⟨RX1, "spendOn", "(II)I"⟩
abbrev cX1_daysGoBy : ByteArray := prog_3_method_17_code
def yX1_daysGoBy : MethodName := ⟨RX1, "daysGoBy", "(I)I"⟩
abbrev cX1_eggsAge : ByteArray := prog_3_method_18_code
def yX1_eggsAge : MethodName := ⟨RX1, "eggsAge", "()I"⟩
abbrev cX1_hensLay : ByteArray := prog_3_method_19_code
def yX1_hensLay : MethodName := ⟨RX1, "hensLay", "()V"⟩
abbrev cX1_foxComes : ByteArray := prog_3_method_20_code
def yX1_foxComes : MethodName := ⟨RX1, "foxComes", "()I"⟩
abbrev cX1_spotAt : ByteArray := prog_3_method_21_code
def yX1_spotAt : MethodName := ⟨RX1, "spotAt", "(I)I"⟩
abbrev cX1_setSpot : ByteArray := prog_3_method_22_code
def yX1_setSpot : MethodName := ⟨RX1, "setSpot", "(II)V"⟩
abbrev cX1_heldSpots : ByteArray := prog_3_method_23_code
def yX1_heldSpots : MethodName := ⟨RX1, "heldSpots", "()I"⟩
def RX2 : String := "HourEggs$Kinds"
def TX2 : u_T := fun k => match k with
  | _ => ("", "", "", false)
def tyX2 : Nat → FieldType := fun k => match k with
  | _ => .int
theorem nmX2 : ∀ a, a < 0 → ∀ b, b < 0 → a ≠ b → (TX2 a).2.1 ≠ (TX2 b).2.1 := by decide +kernel
theorem tyX2_ok : ∀ k, k < 0 → parseFieldDescriptor (TX2 k).2.2.1 = some (tyX2 k) := by decide +kernel
abbrev cX2_minutes : ByteArray := prog_4_method_2_code
def yX2_minutes : MethodName := ⟨RX2, "minutes", "(IIII)I"⟩
abbrev cX2_keeps : ByteArray := prog_4_method_3_code
def yX2_keeps : MethodName := ⟨RX2, "keeps", "(I)I"⟩
abbrev cX2_stays : ByteArray := prog_4_method_4_code
def yX2_stays : MethodName := ⟨RX2, "stays", "(III)Z"⟩
abbrev cX2_isUnder : ByteArray := prog_4_method_5_code
def yX2_isUnder : MethodName := ⟨RX2, "isUnder", "(II)Z"⟩
def RX3 : String := "HourEggs$Reader"
def TX3 : u_T := fun k => match k with
  | 0 => ("HourEggs$Reader", "tape", "LHourEggs$Tape;", true)
  | 1 => ("HourEggs$Reader", "house", "LHourEggs$House;", true)
  | 2 => ("HourEggs$Reader", "token", "I", false)
  | 3 => ("HourEggs$Reader", "start", "I", false)
  | 4 => ("HourEggs$Reader", "end", "I", false)
  | _ => ("HourEggs$Reader", "value", "I", false)
def tyX3 : Nat → FieldType := fun k => match k with
  | 0 => .object "HourEggs$Tape"
  | 1 => .object "HourEggs$House"
  | 2 => .int
  | 3 => .int
  | 4 => .int
  | _ => .int
theorem nmX3 : ∀ a, a < 6 → ∀ b, b < 6 → a ≠ b → (TX3 a).2.1 ≠ (TX3 b).2.1 := by decide +kernel
theorem tyX3_ok : ∀ k, k < 6 → parseFieldDescriptor (TX3 k).2.2.1 = some (tyX3 k) := by decide +kernel
abbrev cX3_init : ByteArray := prog_5_method_1_code
def yX3_init : MethodName := ⟨RX3, "<init>", "(LHourEggs$Tape;LHourEggs$House;)V"⟩
abbrev cX3_readText : ByteArray := prog_5_method_2_code
def yX3_readText : MethodName := ⟨RX3, "readText", "()I"⟩
abbrev cX3_readEgg : ByteArray := prog_5_method_3_code
def yX3_readEgg : MethodName := ⟨RX3, "readEgg", "(I)Z"⟩
abbrev cX3_readHen : ByteArray := prog_5_method_4_code
def yX3_readHen : MethodName := ⟨RX3, "readHen", "()Z"⟩
abbrev cX3_readWork : ByteArray := prog_5_method_5_code
def yX3_readWork : MethodName := ⟨RX3, "readWork", "()Z"⟩
abbrev cX3_readPerhaps : ByteArray := prog_5_method_6_code
def yX3_readPerhaps : MethodName := ⟨RX3, "readPerhaps", "(Ljava/lang/String;II)I"⟩
abbrev cX3_readNumber : ByteArray := prog_5_method_7_code
def yX3_readNumber : MethodName := ⟨RX3, "readNumber", "(II)I"⟩
abbrev cX3_kindAhead : ByteArray := prog_5_method_8_code
def yX3_kindAhead : MethodName := ⟨RX3, "kindAhead", "()I"⟩
abbrev cX3_wordOf : ByteArray := prog_5_method_9_code
def yX3_wordOf : MethodName := ⟨RX3, "wordOf", "(I)Ljava/lang/String;"⟩
abbrev cX3_isAhead : ByteArray := prog_5_method_10_code
def yX3_isAhead : MethodName := ⟨RX3, "isAhead", "(Ljava/lang/String;)Z"⟩
abbrev cX3_advance : ByteArray := prog_5_method_11_code
def yX3_advance : MethodName := ⟨RX3, "advance", "()V"⟩
abbrev cX3_sortOf : ByteArray := prog_5_method_12_code
def yX3_sortOf : MethodName := ⟨RX3, "sortOf", "(I)I"⟩
def RX4 : String := "HourEggs$Sheet"
def TX4 : u_T := fun k => match k with
  | 0 => ("HourEggs$Sheet", "numbers", "[I", true)
  | 1 => ("HourEggs$Sheet", "bits", "I", false)
  | _ => ("HourEggs$Sheet", "length", "I", false)
def tyX4 : Nat → FieldType := fun k => match k with
  | 0 => .array .int
  | 1 => .int
  | _ => .int
theorem nmX4 : ∀ a, a < 3 → ∀ b, b < 3 → a ≠ b → (TX4 a).2.1 ≠ (TX4 b).2.1 := by decide +kernel
theorem tyX4_ok : ∀ k, k < 3 → parseFieldDescriptor (TX4 k).2.2.1 = some (tyX4 k) := by decide +kernel
abbrev cX4_init : ByteArray := prog_6_method_1_code
def yX4_init : MethodName := ⟨RX4, "<init>", "()V"⟩
abbrev cX4_hasWidth : ByteArray := prog_6_method_2_code
def yX4_hasWidth : MethodName := ⟨RX4, "hasWidth", "(I)Z"⟩
abbrev cX4_isMissing : ByteArray := prog_6_method_3_code
def yX4_isMissing : MethodName := ⟨RX4, "isMissing", "()Z"⟩
abbrev cX4_makeNew : ByteArray := prog_6_method_4_code
def yX4_makeNew : MethodName := ⟨RX4, "makeNew", "(II)V"⟩
abbrev cX4_hasNumbers : ByteArray := prog_6_method_5_code
def yX4_hasNumbers : MethodName := ⟨RX4, "hasNumbers", "(II)Z"⟩
abbrev cX4_at : ByteArray := prog_6_method_6_code
def yX4_at : MethodName := ⟨RX4, "at", "(I)I"⟩
abbrev cX4_put : ByteArray := prog_6_method_7_code
def yX4_put : MethodName := ⟨RX4, "put", "(II)V"⟩
def RX5 : String := "HourEggs$Table"
def TX5 : u_T := fun k => match k with
  | 0 => ("HourEggs$Table", "rows", "I", true)
  | 1 => ("HourEggs$Table", "least", "[I", true)
  | 2 => ("HourEggs$Table", "most", "[I", true)
  | _ => ("HourEggs$Table", "cells", "[I", true)
def tyX5 : Nat → FieldType := fun k => match k with
  | 0 => .int
  | 1 => .array .int
  | 2 => .array .int
  | _ => .array .int
theorem nmX5 : ∀ a, a < 4 → ∀ b, b < 4 → a ≠ b → (TX5 a).2.1 ≠ (TX5 b).2.1 := by decide +kernel
theorem tyX5_ok : ∀ k, k < 4 → parseFieldDescriptor (TX5 k).2.2.1 = some (tyX5 k) := by decide +kernel
abbrev cX5_init : ByteArray := prog_7_method_1_code
def yX5_init : MethodName := ⟨RX5, "<init>", "(I[I[I)V"⟩
abbrev cX5_hasRow : ByteArray := prog_7_method_2_code
def yX5_hasRow : MethodName := ⟨RX5, "hasRow", "(I)Z"⟩
abbrev cX5_hasColumn : ByteArray := prog_7_method_3_code
def yX5_hasColumn : MethodName := ⟨RX5, "hasColumn", "(I)Z"⟩
abbrev cX5_takes : ByteArray := prog_7_method_4_code
def yX5_takes : MethodName := ⟨RX5, "takes", "(II)Z"⟩
abbrev cX5_at : ByteArray := prog_7_method_5_code
def yX5_at : MethodName := ⟨RX5, "at", "(II)I"⟩
abbrev cX5_put : ByteArray := prog_7_method_6_code
def yX5_put : MethodName := ⟨RX5, "put", "(III)V"⟩
abbrev cX5_become : ByteArray := prog_7_method_7_code
def yX5_become : MethodName := ⟨RX5, "become", "(LHourEggs$Table;)V"⟩
def RX6 : String := "HourEggs$Tape"
def TX6 : u_T := fun k => match k with
  | 0 => ("HourEggs$Tape", "bytes", "[I", true)
  | _ => ("HourEggs$Tape", "length", "I", false)
def tyX6 : Nat → FieldType := fun k => match k with
  | 0 => .array .int
  | _ => .int
theorem nmX6 : ∀ a, a < 2 → ∀ b, b < 2 → a ≠ b → (TX6 a).2.1 ≠ (TX6 b).2.1 := by decide +kernel
theorem tyX6_ok : ∀ k, k < 2 → parseFieldDescriptor (TX6 k).2.2.1 = some (tyX6 k) := by decide +kernel
abbrev cX6_init : ByteArray := prog_8_method_1_code
def yX6_init : MethodName := ⟨RX6, "<init>", "()V"⟩
abbrev cX6_append : ByteArray := prog_8_method_2_code
def yX6_append : MethodName := ⟨RX6, "append", "(I)V"⟩
abbrev cX6_at : ByteArray := prog_8_method_3_code
def yX6_at : MethodName := ⟨RX6, "at", "(I)I"⟩
def RX7 : String := "HourEggs"
def TX7 : u_T := fun k => match k with
  | 0 => ("HourEggs", "house", "LHourEggs$House;", true)
  | 1 => ("HourEggs", "kept", "LHourEggs$House;", true)
  | 2 => ("HourEggs", "trial", "LHourEggs$House;", true)
  | 3 => ("HourEggs", "choices", "LHourEggs$Choices;", true)
  | 4 => ("HourEggs", "sheets", "[LHourEggs$Sheet;", true)
  | 5 => ("HourEggs", "tape", "LHourEggs$Tape;", true)
  | 6 => ("HourEggs", "findings", "[I", true)
  | _ => ("HourEggs", "isKept", "Z", false)
def tyX7 : Nat → FieldType := fun k => match k with
  | 0 => .object "HourEggs$House"
  | 1 => .object "HourEggs$House"
  | 2 => .object "HourEggs$House"
  | 3 => .object "HourEggs$Choices"
  | 4 => .array (.object "HourEggs$Sheet")
  | 5 => .object "HourEggs$Tape"
  | 6 => .array .int
  | _ => .boolean
theorem nmX7 : ∀ a, a < 8 → ∀ b, b < 8 → a ≠ b → (TX7 a).2.1 ≠ (TX7 b).2.1 := by decide +kernel
theorem tyX7_ok : ∀ k, k < 8 → parseFieldDescriptor (TX7 k).2.2.1 = some (tyX7 k) := by decide +kernel
abbrev cX7_init : ByteArray := prog_1_method_1_code
def yX7_init : MethodName := ⟨RX7, "<init>", "()V"⟩
abbrev cX7_egg : ByteArray := prog_1_method_2_code
def yX7_egg : MethodName := ⟨RX7, "egg", "(III)I"⟩
abbrev cX7_of : ByteArray := prog_1_method_3_code
def yX7_of : MethodName := ⟨RX7, "of", "(II)I"⟩
abbrev cX7_change : ByteArray := prog_1_method_4_code
def yX7_change : MethodName := ⟨RX7, "change", "(III)I"⟩
abbrev cX7_hen : ByteArray := prog_1_method_5_code
def yX7_hen : MethodName := ⟨RX7, "hen", "(III)I"⟩
abbrev cX7_work : ByteArray := prog_1_method_6_code
def yX7_work : MethodName := ⟨RX7, "work", "(III)I"⟩
abbrev cX7_henOf : ByteArray := prog_1_method_7_code
def yX7_henOf : MethodName := ⟨RX7, "henOf", "(II)I"⟩
abbrev cX7_workOf : ByteArray := prog_1_method_8_code
def yX7_workOf : MethodName := ⟨RX7, "workOf", "(II)I"⟩
abbrev cX7_spend : ByteArray := prog_1_method_9_code
def yX7_spend : MethodName := ⟨RX7, "spend", "(II)I"⟩
abbrev cX7_broken : ByteArray := prog_1_method_10_code
def yX7_broken : MethodName := ⟨RX7, "broken", "(I)I"⟩
abbrev cX7_go : ByteArray := prog_1_method_11_code
def yX7_go : MethodName := ⟨RX7, "go", "(I)I"⟩
abbrev cX7_now : ByteArray := prog_1_method_12_code
def yX7_now : MethodName := ⟨RX7, "now", "(I)I"⟩
abbrev cX7_ahead : ByteArray := prog_1_method_13_code
def yX7_ahead : MethodName := ⟨RX7, "ahead", "(I)I"⟩
abbrev cX7_spoils : ByteArray := prog_1_method_14_code
def yX7_spoils : MethodName := ⟨RX7, "spoils", "(I)I"⟩
abbrev cX7_ripe : ByteArray := prog_1_method_15_code
def yX7_ripe : MethodName := ⟨RX7, "ripe", "(I)I"⟩
abbrev cX7_lasts : ByteArray := prog_1_method_16_code
def yX7_lasts : MethodName := ⟨RX7, "lasts", "(I)I"⟩
abbrev cX7_when : ByteArray := prog_1_method_17_code
def yX7_when : MethodName := ⟨RX7, "when", "(I)I"⟩
abbrev cX7_kindFor : ByteArray := prog_1_method_18_code
def yX7_kindFor : MethodName := ⟨RX7, "kindFor", "(II)I"⟩
abbrev cX7_everyFor : ByteArray := prog_1_method_19_code
def yX7_everyFor : MethodName := ⟨RX7, "everyFor", "(II)I"⟩
abbrev cX7_minutesWithEvery : ByteArray := prog_1_method_20_code
def yX7_minutesWithEvery : MethodName := ⟨RX7, "minutesWithEvery", "(III)I"⟩
abbrev cX7_fewest : ByteArray := prog_1_method_21_code
def yX7_fewest : MethodName := ⟨RX7, "fewest", "(I)I"⟩
abbrev cX7_thrifty : ByteArray := prog_1_method_22_code
def yX7_thrifty : MethodName := ⟨RX7, "thrifty", "(I)I"⟩
abbrev cX7_best : ByteArray := prog_1_method_23_code
def yX7_best : MethodName := ⟨RX7, "best", "()I"⟩
abbrev cX7_bestWorks : ByteArray := prog_1_method_24_code
def yX7_bestWorks : MethodName := ⟨RX7, "bestWorks", "()I"⟩
abbrev cX7_soonest : ByteArray := prog_1_method_25_code
def yX7_soonest : MethodName := ⟨RX7, "soonest", "(I)I"⟩
abbrev cX7_nest : ByteArray := prog_1_method_26_code
def yX7_nest : MethodName := ⟨RX7, "nest", "(I)I"⟩
abbrev cX7_guard : ByteArray := prog_1_method_27_code
def yX7_guard : MethodName := ⟨RX7, "guard", "()I"⟩
abbrev cX7_halves : ByteArray := prog_1_method_28_code
def yX7_halves : MethodName := ⟨RX7, "halves", "()I"⟩
abbrev cX7_apart : ByteArray := prog_1_method_29_code
def yX7_apart : MethodName := ⟨RX7, "apart", "()I"⟩
abbrev cX7_sets : ByteArray := prog_1_method_30_code
def yX7_sets : MethodName := ⟨RX7, "sets", "(I)I"⟩
abbrev cX7_ages : ByteArray := prog_1_method_31_code
def yX7_ages : MethodName := ⟨RX7, "ages", "(II)I"⟩
abbrev cX7_youngest : ByteArray := prog_1_method_32_code
def yX7_youngest : MethodName := ⟨RX7, "youngest", "(II)I"⟩
abbrev cX7_wrongTold : ByteArray := prog_1_method_33_code
def yX7_wrongTold : MethodName := ⟨RX7, "wrongTold", "(II)I"⟩
abbrev cX7_fits : ByteArray := prog_1_method_34_code
def yX7_fits : MethodName := ⟨RX7, "fits", "(LHourEggs$Sheet;II)Z"⟩
abbrev cX7_foxes : ByteArray := prog_1_method_35_code
def yX7_foxes : MethodName := ⟨RX7, "foxes", "(I)I"⟩
abbrev cX7_odds : ByteArray := prog_1_method_36_code
def yX7_odds : MethodName := ⟨RX7, "odds", "(II)J"⟩
abbrev cX7_seed : ByteArray := prog_1_method_37_code
def yX7_seed : MethodName := ⟨RX7, "seed", "(I)I"⟩
abbrev cX7_feed : ByteArray := prog_1_method_38_code
def yX7_feed : MethodName := ⟨RX7, "feed", "(II)I"⟩
abbrev cX7_wipe : ByteArray := prog_1_method_39_code
def yX7_wipe : MethodName := ⟨RX7, "wipe", "()I"⟩
abbrev cX7_text : ByteArray := prog_1_method_40_code
def yX7_text : MethodName := ⟨RX7, "text", "()I"⟩
abbrev cX7_hold : ByteArray := prog_1_method_41_code
def yX7_hold : MethodName := ⟨RX7, "hold", "(II)I"⟩
abbrev cX7_as : ByteArray := prog_1_method_42_code
def yX7_as : MethodName := ⟨RX7, "as", "(II)I"⟩
abbrev cX7_sheet : ByteArray := prog_1_method_43_code
def yX7_sheet : MethodName := ⟨RX7, "sheet", "(III)I"⟩
abbrev cX7_write : ByteArray := prog_1_method_44_code
def yX7_write : MethodName := ⟨RX7, "write", "(III)I"⟩
abbrev cX7_copy : ByteArray := prog_1_method_45_code
def yX7_copy : MethodName := ⟨RX7, "copy", "(IIIII)I"⟩
abbrev cX7_copyNumbers : ByteArray := prog_1_method_46_code
def yX7_copyNumbers : MethodName := ⟨RX7, "copyNumbers", "(LHourEggs$Sheet;ILHourEggs$Sheet;II)V"⟩
abbrev cX7_load : ByteArray := prog_1_method_47_code
def yX7_load : MethodName := ⟨RX7, "load", "(I)I"⟩
abbrev cX7_judge : ByteArray := prog_1_method_48_code
def yX7_judge : MethodName := ⟨RX7, "judge", "(I)I"⟩
abbrev cX7_image : ByteArray := prog_1_method_49_code
def yX7_image : MethodName := ⟨RX7, "image", "()I"⟩
abbrev cX7_undo : ByteArray := prog_1_method_50_code
def yX7_undo : MethodName := ⟨RX7, "undo", "()I"⟩
abbrev cX7_tear : ByteArray := prog_1_method_51_code
def yX7_tear : MethodName := ⟨RX7, "tear", "()I"⟩
abbrev cX7_count : ByteArray := prog_1_method_52_code
def yX7_count : MethodName := ⟨RX7, "count", "(I)I"⟩
abbrev cX7_status : ByteArray := prog_1_method_53_code
def yX7_status : MethodName := ⟨RX7, "status", "(I)I"⟩
abbrev cX7_finding : ByteArray := prog_1_method_54_code
def yX7_finding : MethodName := ⟨RX7, "finding", "(I)I"⟩
abbrev cX7_replace : ByteArray := prog_1_method_55_code
def yX7_replace : MethodName := ⟨RX7, "replace", "(LHourEggs$Table;III)I"⟩
abbrev cX7_sheetAt : ByteArray := prog_1_method_56_code
def yX7_sheetAt : MethodName := ⟨RX7, "sheetAt", "(I)LHourEggs$Sheet;"⟩
abbrev cX7_wrongSheet : ByteArray := prog_1_method_57_code
def yX7_wrongSheet : MethodName := ⟨RX7, "wrongSheet", "(I)I"⟩
abbrev cX7_within : ByteArray := prog_1_method_58_code
def yX7_within : MethodName := ⟨RX7, "within", "(III)Z"⟩
abbrev cX7_copyRow : ByteArray := prog_1_method_59_code
def yX7_copyRow : MethodName := ⟨RX7, "copyRow", "([I[I)V"⟩
def RX8 : String := "HourEggsModel"
def TX8 : u_T := fun k => match k with
  | 0 => ("HourEggsModel", "s", "[I", true)
  | 1 => ("HourEggsModel", "kept", "[I", true)
  | 2 => ("HourEggsModel", "aside", "[I", true)
  | 3 => ("HourEggsModel", "isKept", "Z", false)
  | 4 => ("HourEggsModel", "found", "[I", true)
  | 5 => ("HourEggsModel", "canDo", "[Z", true)
  | 6 => ("HourEggsModel", "sums", "[I", true)
  | 7 => ("HourEggsModel", "tape", "[I", true)
  | 8 => ("HourEggsModel", "taped", "I", false)
  | 9 => ("HourEggsModel", "token", "I", false)
  | 10 => ("HourEggsModel", "begun", "I", false)
  | 11 => ("HourEggsModel", "ended", "I", false)
  | 12 => ("HourEggsModel", "value", "J", false)
  | 13 => ("HourEggsModel", "letters", "[C", true)
  | 14 => ("HourEggsModel", "more", "[C", true)
  | 15 => ("HourEggsModel", "about", "[C", true)
  | 16 => ("HourEggsModel", "others", "[C", true)
  | 17 => ("HourEggsModel", "widths", "[I", true)
  | 18 => ("HourEggsModel", "sizes", "[I", true)
  | 19 => ("HourEggsModel", "cells", "[I", true)
  | _ => ("HourEggsModel", "carried", "[I", true)
def tyX8 : Nat → FieldType := fun k => match k with
  | 0 => .array .int
  | 1 => .array .int
  | 2 => .array .int
  | 3 => .boolean
  | 4 => .array .int
  | 5 => .array .boolean
  | 6 => .array .int
  | 7 => .array .int
  | 8 => .int
  | 9 => .int
  | 10 => .int
  | 11 => .int
  | 12 => .long
  | 13 => .array .char
  | 14 => .array .char
  | 15 => .array .char
  | 16 => .array .char
  | 17 => .array .int
  | 18 => .array .int
  | 19 => .array .int
  | _ => .array .int
theorem nmX8 : ∀ a, a < 21 → ∀ b, b < 21 → a ≠ b → (TX8 a).2.1 ≠ (TX8 b).2.1 := by decide +kernel
theorem tyX8_ok : ∀ k, k < 21 → parseFieldDescriptor (TX8 k).2.2.1 = some (tyX8 k) := by decide +kernel
abbrev cX8_init : ByteArray := prog_10_method_1_code
def yX8_init : MethodName := ⟨RX8, "<init>", "()V"⟩
abbrev cX8_no : ByteArray := prog_10_method_2_code
def yX8_no : MethodName := ⟨RX8, "no", "(I)I"⟩
abbrev cX8_in1 : ByteArray := prog_10_method_3_code
def yX8_in1 : MethodName := ⟨RX8, "in1", "(III)Z"⟩
abbrev cX8_less : ByteArray := prog_10_method_4_code
def yX8_less : MethodName := ⟨RX8, "less", "(II)I"⟩
abbrev cX8_greater : ByteArray := prog_10_method_5_code
def yX8_greater : MethodName := ⟨RX8, "greater", "(II)I"⟩
abbrev cX8_bits : ByteArray := prog_10_method_6_code
def yX8_bits : MethodName := ⟨RX8, "bits", "(I)I"⟩
abbrev cX8_isIn : ByteArray := prog_10_method_7_code
def yX8_isIn : MethodName := ⟨RX8, "isIn", "(II)Z"⟩
abbrev cX8_isPlace : ByteArray := prog_10_method_8_code
def yX8_isPlace : MethodName := ⟨RX8, "isPlace", "(I)Z"⟩
abbrev cX8_get : ByteArray := prog_10_method_9_code
def yX8_get : MethodName := ⟨RX8, "get", "(II)I"⟩
abbrev cX8_puts : ByteArray := prog_10_method_10_code
def yX8_puts : MethodName := ⟨RX8, "puts", "(III)V"⟩
abbrev cX8_isThere : ByteArray := prog_10_method_11_code
def yX8_isThere : MethodName := ⟨RX8, "isThere", "(I)Z"⟩
abbrev cX8_isEgg : ByteArray := prog_10_method_12_code
def yX8_isEgg : MethodName := ⟨RX8, "isEgg", "(I)Z"⟩
abbrev cX8_isHen : ByteArray := prog_10_method_13_code
def yX8_isHen : MethodName := ⟨RX8, "isHen", "(I)Z"⟩
abbrev cX8_isWork : ByteArray := prog_10_method_14_code
def yX8_isWork : MethodName := ⟨RX8, "isWork", "(I)Z"⟩
abbrev cX8_hens : ByteArray := prog_10_method_15_code
def yX8_hens : MethodName := ⟨RX8, "hens", "(II)I"⟩
abbrev cX8_works : ByteArray := prog_10_method_16_code
def yX8_works : MethodName := ⟨RX8, "works", "(II)I"⟩
abbrev cX8_setsAside : ByteArray := prog_10_method_17_code
def yX8_setsAside : MethodName := ⟨RX8, "setsAside", "()V"⟩
abbrev cX8_laysBack : ByteArray := prog_10_method_18_code
def yX8_laysBack : MethodName := ⟨RX8, "laysBack", "()V"⟩
abbrev cX8_minutesBy : ByteArray := prog_10_method_19_code
def yX8_minutesBy : MethodName := ⟨RX8, "minutesBy", "(IIII)I"⟩
abbrev cX8_keepsBy : ByteArray := prog_10_method_20_code
def yX8_keepsBy : MethodName := ⟨RX8, "keepsBy", "(I)I"⟩
abbrev cX8_minutes : ByteArray := prog_10_method_21_code
def yX8_minutes : MethodName := ⟨RX8, "minutes", "(I)I"⟩
abbrev cX8_then : ByteArray := prog_10_method_22_code
def yX8_then : MethodName := ⟨RX8, "then", "(IIII)I"⟩
abbrev cX8_eggs : ByteArray := prog_10_method_23_code
def yX8_eggs : MethodName := ⟨RX8, "eggs", "()I"⟩
abbrev cX8_sumOf : ByteArray := prog_10_method_24_code
def yX8_sumOf : MethodName := ⟨RX8, "sumOf", "(I)I"⟩
abbrev cX8_allMinutes : ByteArray := prog_10_method_25_code
def yX8_allMinutes : MethodName := ⟨RX8, "allMinutes", "()I"⟩
abbrev cX8_free : ByteArray := prog_10_method_26_code
def yX8_free : MethodName := ⟨RX8, "free", "()I"⟩
abbrev cX8_lays : ByteArray := prog_10_method_27_code
def yX8_lays : MethodName := ⟨RX8, "lays", "(IIII)I"⟩
abbrev cX8_goesEgg : ByteArray := prog_10_method_28_code
def yX8_goesEgg : MethodName := ⟨RX8, "goesEgg", "(I)V"⟩
abbrev cX8_day : ByteArray := prog_10_method_29_code
def yX8_day : MethodName := ⟨RX8, "day", "()I"⟩
abbrev cX8_egg : ByteArray := prog_10_method_30_code
def yX8_egg : MethodName := ⟨RX8, "egg", "(III)I"⟩
abbrev cX8_of : ByteArray := prog_10_method_31_code
def yX8_of : MethodName := ⟨RX8, "of", "(II)I"⟩
abbrev cX8_change : ByteArray := prog_10_method_32_code
def yX8_change : MethodName := ⟨RX8, "change", "(III)I"⟩
abbrev cX8_hen : ByteArray := prog_10_method_33_code
def yX8_hen : MethodName := ⟨RX8, "hen", "(III)I"⟩
abbrev cX8_work : ByteArray := prog_10_method_34_code
def yX8_work : MethodName := ⟨RX8, "work", "(III)I"⟩
abbrev cX8_henOf : ByteArray := prog_10_method_35_code
def yX8_henOf : MethodName := ⟨RX8, "henOf", "(II)I"⟩
abbrev cX8_isDone : ByteArray := prog_10_method_36_code
def yX8_isDone : MethodName := ⟨RX8, "isDone", "(I)Z"⟩
abbrev cX8_workOf : ByteArray := prog_10_method_37_code
def yX8_workOf : MethodName := ⟨RX8, "workOf", "(II)I"⟩
abbrev cX8_isOver : ByteArray := prog_10_method_38_code
def yX8_isOver : MethodName := ⟨RX8, "isOver", "(I)Z"⟩
abbrev cX8_spend : ByteArray := prog_10_method_39_code
def yX8_spend : MethodName := ⟨RX8, "spend", "(II)I"⟩
abbrev cX8_broken : ByteArray := prog_10_method_40_code
def yX8_broken : MethodName := ⟨RX8, "broken", "(I)I"⟩
abbrev cX8_done : ByteArray := prog_10_method_41_code
def yX8_done : MethodName := ⟨RX8, "done", "()I"⟩
abbrev cX8_go : ByteArray := prog_10_method_42_code
def yX8_go : MethodName := ⟨RX8, "go", "(I)I"⟩
abbrev cX8_now : ByteArray := prog_10_method_43_code
def yX8_now : MethodName := ⟨RX8, "now", "(I)I"⟩
abbrev cX8_ahead : ByteArray := prog_10_method_44_code
def yX8_ahead : MethodName := ⟨RX8, "ahead", "(I)I"⟩
abbrev cX8_spoils : ByteArray := prog_10_method_45_code
def yX8_spoils : MethodName := ⟨RX8, "spoils", "(I)I"⟩
abbrev cX8_ripe : ByteArray := prog_10_method_46_code
def yX8_ripe : MethodName := ⟨RX8, "ripe", "(I)I"⟩
abbrev cX8_lasts : ByteArray := prog_10_method_47_code
def yX8_lasts : MethodName := ⟨RX8, "lasts", "(I)I"⟩
abbrev cX8_when : ByteArray := prog_10_method_48_code
def yX8_when : MethodName := ⟨RX8, "when", "(I)I"⟩
abbrev cX8_kindFor : ByteArray := prog_10_method_49_code
def yX8_kindFor : MethodName := ⟨RX8, "kindFor", "(II)I"⟩
abbrev cX8_everyFor : ByteArray := prog_10_method_50_code
def yX8_everyFor : MethodName := ⟨RX8, "everyFor", "(II)I"⟩
abbrev cX8_does : ByteArray := prog_10_method_51_code
def yX8_does : MethodName := ⟨RX8, "does", "(II)Z"⟩
abbrev cX8_fewest : ByteArray := prog_10_method_52_code
def yX8_fewest : MethodName := ⟨RX8, "fewest", "(I)I"⟩
abbrev cX8_thrifty : ByteArray := prog_10_method_53_code
def yX8_thrifty : MethodName := ⟨RX8, "thrifty", "(I)I"⟩
abbrev cX8_lowest : ByteArray := prog_10_method_54_code
def yX8_lowest : MethodName := ⟨RX8, "lowest", "(I)I"⟩
abbrev cX8_dealt : ByteArray := prog_10_method_55_code
def yX8_dealt : MethodName := ⟨RX8, "dealt", "(II)Z"⟩
abbrev cX8_worthOf : ByteArray := prog_10_method_56_code
def yX8_worthOf : MethodName := ⟨RX8, "worthOf", "(I)I"⟩
abbrev cX8_bestSet : ByteArray := prog_10_method_57_code
def yX8_bestSet : MethodName := ⟨RX8, "bestSet", "()I"⟩
abbrev cX8_best : ByteArray := prog_10_method_58_code
def yX8_best : MethodName := ⟨RX8, "best", "()I"⟩
abbrev cX8_bestWorks : ByteArray := prog_10_method_59_code
def yX8_bestWorks : MethodName := ⟨RX8, "bestWorks", "()I"⟩
abbrev cX8_soonest : ByteArray := prog_10_method_60_code
def yX8_soonest : MethodName := ⟨RX8, "soonest", "(I)I"⟩
abbrev cX8_inNest : ByteArray := prog_10_method_61_code
def yX8_inNest : MethodName := ⟨RX8, "inNest", "(I)I"⟩
abbrev cX8_nest : ByteArray := prog_10_method_62_code
def yX8_nest : MethodName := ⟨RX8, "nest", "(I)I"⟩
abbrev cX8_guard : ByteArray := prog_10_method_63_code
def yX8_guard : MethodName := ⟨RX8, "guard", "()I"⟩
abbrev cX8_apartBy : ByteArray := prog_10_method_64_code
def yX8_apartBy : MethodName := ⟨RX8, "apartBy", "(I)I"⟩
abbrev cX8_bestHalf : ByteArray := prog_10_method_65_code
def yX8_bestHalf : MethodName := ⟨RX8, "bestHalf", "()I"⟩
abbrev cX8_halves : ByteArray := prog_10_method_66_code
def yX8_halves : MethodName := ⟨RX8, "halves", "()I"⟩
abbrev cX8_apart : ByteArray := prog_10_method_67_code
def yX8_apart : MethodName := ⟨RX8, "apart", "()I"⟩
abbrev cX8_sets : ByteArray := prog_10_method_68_code
def yX8_sets : MethodName := ⟨RX8, "sets", "(I)I"⟩
abbrev cX8_isSheet : ByteArray := prog_10_method_69_code
def yX8_isSheet : MethodName := ⟨RX8, "isSheet", "(I)Z"⟩
abbrev cX8_wrongSheet : ByteArray := prog_10_method_70_code
def yX8_wrongSheet : MethodName := ⟨RX8, "wrongSheet", "(I)I"⟩
abbrev cX8_wrongAges : ByteArray := prog_10_method_71_code
def yX8_wrongAges : MethodName := ⟨RX8, "wrongAges", "(II)I"⟩
abbrev cX8_agesSo : ByteArray := prog_10_method_72_code
def yX8_agesSo : MethodName := ⟨RX8, "agesSo", "(III)Z"⟩
abbrev cX8_ages : ByteArray := prog_10_method_73_code
def yX8_ages : MethodName := ⟨RX8, "ages", "(II)I"⟩
abbrev cX8_youngest : ByteArray := prog_10_method_74_code
def yX8_youngest : MethodName := ⟨RX8, "youngest", "(II)I"⟩
abbrev cX8_draw : ByteArray := prog_10_method_75_code
def yX8_draw : MethodName := ⟨RX8, "draw", "()I"⟩
abbrev cX8_foxes : ByteArray := prog_10_method_76_code
def yX8_foxes : MethodName := ⟨RX8, "foxes", "(I)I"⟩
abbrev cX8_odds : ByteArray := prog_10_method_77_code
def yX8_odds : MethodName := ⟨RX8, "odds", "(II)J"⟩
abbrev cX8_seed : ByteArray := prog_10_method_78_code
def yX8_seed : MethodName := ⟨RX8, "seed", "(I)I"⟩
abbrev cX8_feed : ByteArray := prog_10_method_79_code
def yX8_feed : MethodName := ⟨RX8, "feed", "(II)I"⟩
abbrev cX8_wipe : ByteArray := prog_10_method_80_code
def yX8_wipe : MethodName := ⟨RX8, "wipe", "()I"⟩
abbrev cX8_isLetter : ByteArray := prog_10_method_81_code
def yX8_isLetter : MethodName := ⟨RX8, "isLetter", "(I)Z"⟩
abbrev cX8_isDigit : ByteArray := prog_10_method_82_code
def yX8_isDigit : MethodName := ⟨RX8, "isDigit", "(I)Z"⟩
abbrev cX8_nextToken : ByteArray := prog_10_method_83_code
def yX8_nextToken : MethodName := ⟨RX8, "nextToken", "()V"⟩
abbrev cX8_wordOf : ByteArray := prog_10_method_84_code
def yX8_wordOf : MethodName := ⟨RX8, "wordOf", "([C)I"⟩
abbrev cX8_takesNumber : ByteArray := prog_10_method_85_code
def yX8_takesNumber : MethodName := ⟨RX8, "takesNumber", "(II)I"⟩
abbrev cX8_readsEgg : ByteArray := prog_10_method_86_code
def yX8_readsEgg : MethodName := ⟨RX8, "readsEgg", "(I)Z"⟩
abbrev cX8_readsHen : ByteArray := prog_10_method_87_code
def yX8_readsHen : MethodName := ⟨RX8, "readsHen", "()Z"⟩
abbrev cX8_readsWork : ByteArray := prog_10_method_88_code
def yX8_readsWork : MethodName := ⟨RX8, "readsWork", "()Z"⟩
abbrev cX8_readsItem : ByteArray := prog_10_method_89_code
def yX8_readsItem : MethodName := ⟨RX8, "readsItem", "()Z"⟩
abbrev cX8_text : ByteArray := prog_10_method_90_code
def yX8_text : MethodName := ⟨RX8, "text", "()I"⟩
abbrev cX8_isSpot : ByteArray := prog_10_method_91_code
def yX8_isSpot : MethodName := ⟨RX8, "isSpot", "(I)Z"⟩
abbrev cX8_hold : ByteArray := prog_10_method_92_code
def yX8_hold : MethodName := ⟨RX8, "hold", "(II)I"⟩
abbrev cX8_above : ByteArray := prog_10_method_93_code
def yX8_above : MethodName := ⟨RX8, "above", "(I)I"⟩
abbrev cX8_as : ByteArray := prog_10_method_94_code
def yX8_as : MethodName := ⟨RX8, "as", "(II)I"⟩
abbrev cX8_sheet : ByteArray := prog_10_method_95_code
def yX8_sheet : MethodName := ⟨RX8, "sheet", "(III)I"⟩
abbrev cX8_write : ByteArray := prog_10_method_96_code
def yX8_write : MethodName := ⟨RX8, "write", "(III)I"⟩
abbrev cX8_copy : ByteArray := prog_10_method_97_code
def yX8_copy : MethodName := ⟨RX8, "copy", "(IIIII)I"⟩
abbrev cX8_load : ByteArray := prog_10_method_98_code
def yX8_load : MethodName := ⟨RX8, "load", "(I)I"⟩
abbrev cX8_judge : ByteArray := prog_10_method_99_code
def yX8_judge : MethodName := ⟨RX8, "judge", "(I)I"⟩
abbrev cX8_image : ByteArray := prog_10_method_100_code
def yX8_image : MethodName := ⟨RX8, "image", "()I"⟩
abbrev cX8_undo : ByteArray := prog_10_method_101_code
def yX8_undo : MethodName := ⟨RX8, "undo", "()I"⟩
abbrev cX8_tear : ByteArray := prog_10_method_102_code
def yX8_tear : MethodName := ⟨RX8, "tear", "()I"⟩
abbrev cX8_count : ByteArray := prog_10_method_103_code
def yX8_count : MethodName := ⟨RX8, "count", "(I)I"⟩
abbrev cX8_status : ByteArray := prog_10_method_104_code
def yX8_status : MethodName := ⟨RX8, "status", "(I)I"⟩
def RJ6 : String := "java/lang/Integer"
def TJ6 : u_T := fun k => match k with
  | _ => ("", "", "", false)
def tyJ6 : Nat → FieldType := fun k => match k with
  | _ => .int
theorem nmJ6 : ∀ a, a < 0 → ∀ b, b < 0 → a ≠ b → (TJ6 a).2.1 ≠ (TJ6 b).2.1 := by decide +kernel
theorem tyJ6_ok : ∀ k, k < 0 → parseFieldDescriptor (TJ6 k).2.2.1 = some (tyJ6 k) := by decide +kernel
abbrev cJ6_bitCount_0f7a4 : ByteArray := prog_11_method_49_code
def yJ6_bitCount_0f7a4 : MethodName := ⟨RJ6, "bitCount", "(I)I"⟩
def RJ9 : String := "java/lang/Math"
def TJ9 : u_T := fun k => match k with
  | _ => ("", "", "", false)
def tyJ9 : Nat → FieldType := fun k => match k with
  | _ => .int
theorem nmJ9 : ∀ a, a < 0 → ∀ b, b < 0 → a ≠ b → (TJ9 a).2.1 ≠ (TJ9 b).2.1 := by decide +kernel
theorem tyJ9_ok : ∀ k, k < 0 → parseFieldDescriptor (TJ9 k).2.2.1 = some (tyJ9 k) := by decide +kernel
abbrev cJ9_abs_0f7a4 : ByteArray := prog_12_method_59_code
def yJ9_abs_0f7a4 : MethodName := ⟨RJ9, "abs", "(I)I"⟩
abbrev cJ9_max_7cf53 : ByteArray := prog_12_method_65_code
def yJ9_max_7cf53 : MethodName := ⟨RJ9, "max", "(II)I"⟩
abbrev cJ9_min_7cf53 : ByteArray := prog_12_method_69_code
def yJ9_min_7cf53 : MethodName := ⟨RJ9, "min", "(II)I"⟩
def RJ0 : String := "java/lang/String"
def TJ0 : u_T := fun k => match k with
  | _ => ("", "", "", false)
def tyJ0 : Nat → FieldType := fun k => match k with
  | _ => .int
theorem nmJ0 : ∀ a, a < 0 → ∀ b, b < 0 → a ≠ b → (TJ0 a).2.1 ≠ (TJ0 b).2.1 := by decide +kernel
theorem tyJ0_ok : ∀ k, k < 0 → parseFieldDescriptor (TJ0 k).2.2.1 = some (tyJ0 k) := by decide +kernel
abbrev cJ0_length_8abf5 : ByteArray := prog_13_method_54_code
def yJ0_length_8abf5 : MethodName := ⟨RJ0, "length", "()I"⟩
abbrev cJ0_charAt_5068e : ByteArray := prog_13_method_56_code
def yJ0_charAt_5068e : MethodName := ⟨RJ0, "charAt", "(I)C"⟩
abbrev cJ0_coder_7d493 : ByteArray := prog_13_method_152_code
def yJ0_coder_7d493 : MethodName := ⟨RJ0, "coder", "()B"⟩
abbrev cJ0_isLatin1_aae02 : ByteArray := prog_13_method_154_code
def yJ0_isLatin1_aae02 : MethodName := ⟨RJ0, "isLatin1", "()Z"⟩
abbrev cJ0_checkIndex_df160 : ByteArray := prog_13_method_155_code
def yJ0_checkIndex_df160 : MethodName := ⟨RJ0, "checkIndex", "(II)V"⟩
def RJ1 : String := "java/lang/StringLatin1"
def TJ1 : u_T := fun k => match k with
  | _ => ("", "", "", false)
def tyJ1 : Nat → FieldType := fun k => match k with
  | _ => .int
theorem nmJ1 : ∀ a, a < 0 → ∀ b, b < 0 → a ≠ b → (TJ1 a).2.1 ≠ (TJ1 b).2.1 := by decide +kernel
theorem tyJ1_ok : ∀ k, k < 0 → parseFieldDescriptor (TJ1 k).2.2.1 = some (tyJ1 k) := by decide +kernel
abbrev cJ1_charAt_3b067 : ByteArray := prog_14_method_2_code
def yJ1_charAt_3b067 : MethodName := ⟨RJ1, "charAt", "([BI)C"⟩
def RJ2 : String := "java/lang/StringUTF16"
def TJ2 : u_T := fun k => match k with
  | _ => ("", "", "", false)
def tyJ2 : Nat → FieldType := fun k => match k with
  | _ => .int
theorem nmJ2 : ∀ a, a < 0 → ∀ b, b < 0 → a ≠ b → (TJ2 a).2.1 ≠ (TJ2 b).2.1 := by decide +kernel
theorem tyJ2_ok : ∀ k, k < 0 → parseFieldDescriptor (TJ2 k).2.2.1 = some (tyJ2 k) := by decide +kernel
abbrev cJ2_getChar_3b067 : ByteArray := prog_15_method_5_code
def yJ2_getChar_3b067 : MethodName := ⟨RJ2, "getChar", "([BI)C"⟩
abbrev cJ2_length_9d52b : ByteArray := prog_15_method_6_code
def yJ2_length_9d52b : MethodName := ⟨RJ2, "length", "([B)I"⟩
abbrev cJ2_charAt_3b067 : ByteArray := prog_15_method_83_code
def yJ2_charAt_3b067 : MethodName := ⟨RJ2, "charAt", "([BI)C"⟩
abbrev cJ2_checkIndex_2214a : ByteArray := prog_15_method_91_code
def yJ2_checkIndex_2214a : MethodName := ⟨RJ2, "checkIndex", "(I[B)V"⟩
def RJ3 : String := "jdk/internal/util/Preconditions"
def TJ3 : u_T := fun k => match k with
  | _ => ("", "", "", false)
def tyJ3 : Nat → FieldType := fun k => match k with
  | _ => .int
theorem nmJ3 : ∀ a, a < 0 → ∀ b, b < 0 → a ≠ b → (TJ3 a).2.1 ≠ (TJ3 b).2.1 := by decide +kernel
theorem tyJ3_ok : ∀ k, k < 0 → parseFieldDescriptor (TJ3 k).2.2.1 = some (tyJ3 k) := by decide +kernel
abbrev cJ3_checkIndex_8e157 : ByteArray := prog_16_method_11_code
def yJ3_checkIndex_8e157 : MethodName := ⟨RJ3, "checkIndex", "(IILjava/util/function/BiFunction;)I"⟩
def RL : String := "HourEggsLaw"
abbrev cL_law : ByteArray := code
def yL_law : MethodName := ⟨RL, "law", "([I)Z"⟩
abbrev vwCl : List vw_C := [(RX0, TX0, 3), (RX1, TX1, 7), (RX3, TX3, 6), (RX4, TX4, 3), (RX5, TX5, 4), (RX6, TX6, 2), (RX7, TX7, 8), (RX8, TX8, 21)]
theorem hinX0 : ∀ w ∈ u_ws RX0 TX0 3, w ∈ lw_tbl := by decide +kernel
theorem hinX1 : ∀ w ∈ u_ws RX1 TX1 7, w ∈ lw_tbl := by decide +kernel
theorem hinX3 : ∀ w ∈ u_ws RX3 TX3 6, w ∈ lw_tbl := by decide +kernel
theorem hinX4 : ∀ w ∈ u_ws RX4 TX4 3, w ∈ lw_tbl := by decide +kernel
theorem hinX5 : ∀ w ∈ u_ws RX5 TX5 4, w ∈ lw_tbl := by decide +kernel
theorem hinX6 : ∀ w ∈ u_ws RX6 TX6 2, w ∈ lw_tbl := by decide +kernel
theorem hinX7 : ∀ w ∈ u_ws RX7 TX7 8, w ∈ lw_tbl := by decide +kernel
theorem hinX8 : ∀ w ∈ u_ws RX8 TX8 21, w ∈ lw_tbl := by decide +kernel
end
section
theorem dX0_init_0 : decode cX0_init 0 = .ok (.aload_n 0, 1) := by decide +kernel
theorem dX0_init_1 : decode cX0_init 1 = .ok (.invokespecial 3, 3) := by decide +kernel
theorem dX0_init_4 : decode cX0_init 4 = .ok (.aload_n 0, 1) := by decide +kernel
theorem dX0_init_5 : decode cX0_init 5 = .ok (.sipush 256, 3) := by decide +kernel
theorem dX0_init_8 : decode cX0_init 8 = .ok (.newarray .int, 2) := by decide +kernel
theorem dX0_init_10 : decode cX0_init 10 = .ok (.putfield 11, 3) := by decide +kernel
theorem dX0_init_13 : decode cX0_init 13 = .ok (.aload_n 0, 1) := by decide +kernel
theorem dX0_init_14 : decode cX0_init 14 = .ok (.sipush 256, 3) := by decide +kernel
theorem dX0_init_17 : decode cX0_init 17 = .ok (.newarray .int, 2) := by decide +kernel
theorem dX0_init_19 : decode cX0_init 19 = .ok (.putfield 15, 3) := by decide +kernel
theorem dX0_init_22 : decode cX0_init 22 = .ok (.return_, 1) := by decide +kernel
theorem dX0_lookAt_0 : decode cX0_lookAt 0 = .ok (.aload_n 0, 1) := by decide +kernel
theorem dX0_lookAt_1 : decode cX0_lookAt 1 = .ok (.aload_n 1, 1) := by decide +kernel
theorem dX0_lookAt_2 : decode cX0_lookAt 2 = .ok (.ifnonnull 7, 3) := by decide +kernel
theorem dX0_lookAt_5 : decode cX0_lookAt 5 = .ok (.iconst 0, 1) := by decide +kernel
theorem dX0_lookAt_6 : decode cX0_lookAt 6 = .ok (.goto 7, 3) := by decide +kernel
theorem dX0_lookAt_9 : decode cX0_lookAt 9 = .ok (.aload_n 1, 1) := by decide +kernel
theorem dX0_lookAt_10 : decode cX0_lookAt 10 = .ok (.invokevirtual 18, 3) := by decide +kernel
theorem dX0_lookAt_13 : decode cX0_lookAt 13 = .ok (.putfield 22, 3) := by decide +kernel
theorem dX0_lookAt_16 : decode cX0_lookAt 16 = .ok (.aload_n 0, 1) := by decide +kernel
theorem dX0_lookAt_17 : decode cX0_lookAt 17 = .ok (.getfield 11, 3) := by decide +kernel
theorem dX0_lookAt_20 : decode cX0_lookAt 20 = .ok (.iconst 0, 1) := by decide +kernel
theorem dX0_lookAt_21 : decode cX0_lookAt 21 = .ok (.iconst 0, 1) := by decide +kernel
theorem dX0_lookAt_22 : decode cX0_lookAt 22 = .ok (.iastore, 1) := by decide +kernel
theorem dX0_lookAt_23 : decode cX0_lookAt 23 = .ok (.iconst 0, 1) := by decide +kernel
theorem dX0_lookAt_24 : decode cX0_lookAt 24 = .ok (.istore_n 2, 1) := by decide +kernel
theorem dX0_lookAt_25 : decode cX0_lookAt 25 = .ok (.iload_n 2, 1) := by decide +kernel
theorem dX0_lookAt_26 : decode cX0_lookAt 26 = .ok (.bipush 8, 2) := by decide +kernel
theorem dX0_lookAt_28 : decode cX0_lookAt 28 = .ok (.if_icmp .ge 74, 3) := by decide +kernel
theorem dX0_lookAt_31 : decode cX0_lookAt 31 = .ok (.aload_n 1, 1) := by decide +kernel
theorem dX0_lookAt_32 : decode cX0_lookAt 32 = .ok (.ifnonnull 7, 3) := by decide +kernel
theorem dX0_lookAt_35 : decode cX0_lookAt 35 = .ok (.iconst 0, 1) := by decide +kernel
theorem dX0_lookAt_36 : decode cX0_lookAt 36 = .ok (.goto 8, 3) := by decide +kernel
theorem dX0_lookAt_39 : decode cX0_lookAt 39 = .ok (.aload_n 1, 1) := by decide +kernel
theorem dX0_lookAt_40 : decode cX0_lookAt 40 = .ok (.iload_n 2, 1) := by decide +kernel
theorem dX0_lookAt_41 : decode cX0_lookAt 41 = .ok (.invokevirtual 25, 3) := by decide +kernel
theorem dX0_lookAt_44 : decode cX0_lookAt 44 = .ok (.istore_n 3, 1) := by decide +kernel
theorem dX0_lookAt_45 : decode cX0_lookAt 45 = .ok (.iconst 1, 1) := by decide +kernel
theorem dX0_lookAt_46 : decode cX0_lookAt 46 = .ok (.iload_n 2, 1) := by decide +kernel
theorem dX0_lookAt_47 : decode cX0_lookAt 47 = .ok (.ishl, 1) := by decide +kernel
theorem dX0_lookAt_48 : decode cX0_lookAt 48 = .ok (.istore 4, 2) := by decide +kernel
theorem dX0_lookAt_50 : decode cX0_lookAt 50 = .ok (.iconst 0, 1) := by decide +kernel
theorem dX0_lookAt_51 : decode cX0_lookAt 51 = .ok (.istore 5, 2) := by decide +kernel
theorem dX0_lookAt_53 : decode cX0_lookAt 53 = .ok (.iload 5, 2) := by decide +kernel
theorem dX0_lookAt_55 : decode cX0_lookAt 55 = .ok (.iload 4, 2) := by decide +kernel
theorem dX0_lookAt_57 : decode cX0_lookAt 57 = .ok (.if_icmp .ge 39, 3) := by decide +kernel
theorem dX0_lookAt_60 : decode cX0_lookAt 60 = .ok (.iload 4, 2) := by decide +kernel
theorem dX0_lookAt_62 : decode cX0_lookAt 62 = .ok (.iload 5, 2) := by decide +kernel
theorem dX0_lookAt_64 : decode cX0_lookAt 64 = .ok (.iadd, 1) := by decide +kernel
theorem dX0_lookAt_65 : decode cX0_lookAt 65 = .ok (.sipush 256, 3) := by decide +kernel
theorem dX0_lookAt_68 : decode cX0_lookAt 68 = .ok (.if_icmp .ge 28, 3) := by decide +kernel
theorem dX0_lookAt_71 : decode cX0_lookAt 71 = .ok (.aload_n 0, 1) := by decide +kernel
theorem dX0_lookAt_72 : decode cX0_lookAt 72 = .ok (.getfield 11, 3) := by decide +kernel
theorem dX0_lookAt_75 : decode cX0_lookAt 75 = .ok (.iload 4, 2) := by decide +kernel
theorem dX0_lookAt_77 : decode cX0_lookAt 77 = .ok (.iload 5, 2) := by decide +kernel
theorem dX0_lookAt_79 : decode cX0_lookAt 79 = .ok (.iadd, 1) := by decide +kernel
theorem dX0_lookAt_80 : decode cX0_lookAt 80 = .ok (.aload_n 0, 1) := by decide +kernel
theorem dX0_lookAt_81 : decode cX0_lookAt 81 = .ok (.getfield 11, 3) := by decide +kernel
theorem dX0_lookAt_84 : decode cX0_lookAt 84 = .ok (.iload 5, 2) := by decide +kernel
theorem dX0_lookAt_86 : decode cX0_lookAt 86 = .ok (.iaload, 1) := by decide +kernel
theorem dX0_lookAt_87 : decode cX0_lookAt 87 = .ok (.iload_n 3, 1) := by decide +kernel
theorem dX0_lookAt_88 : decode cX0_lookAt 88 = .ok (.iadd, 1) := by decide +kernel
theorem dX0_lookAt_89 : decode cX0_lookAt 89 = .ok (.iastore, 1) := by decide +kernel
theorem dX0_lookAt_90 : decode cX0_lookAt 90 = .ok (.iinc 5 1, 3) := by decide +kernel
theorem dX0_lookAt_93 : decode cX0_lookAt 93 = .ok (.goto (-40), 3) := by decide +kernel
theorem dX0_lookAt_96 : decode cX0_lookAt 96 = .ok (.iinc 2 1, 3) := by decide +kernel
theorem dX0_lookAt_99 : decode cX0_lookAt 99 = .ok (.goto (-74), 3) := by decide +kernel
theorem dX0_lookAt_102 : decode cX0_lookAt 102 = .ok (.return_, 1) := by decide +kernel
theorem dX0_isOfEggs_0 : decode cX0_isOfEggs 0 = .ok (.iload_n 1, 1) := by decide +kernel
theorem dX0_isOfEggs_1 : decode cX0_isOfEggs 1 = .ok (.aload_n 0, 1) := by decide +kernel
theorem dX0_isOfEggs_2 : decode cX0_isOfEggs 2 = .ok (.getfield 22, 3) := by decide +kernel
theorem dX0_isOfEggs_5 : decode cX0_isOfEggs 5 = .ok (.iconst (-1), 1) := by decide +kernel
theorem dX0_isOfEggs_6 : decode cX0_isOfEggs 6 = .ok (.ixor, 1) := by decide +kernel
theorem dX0_isOfEggs_7 : decode cX0_isOfEggs 7 = .ok (.iand, 1) := by decide +kernel
theorem dX0_isOfEggs_8 : decode cX0_isOfEggs 8 = .ok (.ifCond .ne 7, 3) := by decide +kernel
theorem dX0_isOfEggs_11 : decode cX0_isOfEggs 11 = .ok (.iconst 1, 1) := by decide +kernel
theorem dX0_isOfEggs_12 : decode cX0_isOfEggs 12 = .ok (.goto 4, 3) := by decide +kernel
theorem dX0_isOfEggs_15 : decode cX0_isOfEggs 15 = .ok (.iconst 0, 1) := by decide +kernel
theorem dX0_isOfEggs_16 : decode cX0_isOfEggs 16 = .ok (.ireturn, 1) := by decide +kernel
theorem dX0_sumOf_0 : decode cX0_sumOf 0 = .ok (.iload_n 1, 1) := by decide +kernel
theorem dX0_sumOf_1 : decode cX0_sumOf 1 = .ok (.ifCond .lt 19, 3) := by decide +kernel
theorem dX0_sumOf_4 : decode cX0_sumOf 4 = .ok (.iload_n 1, 1) := by decide +kernel
theorem dX0_sumOf_5 : decode cX0_sumOf 5 = .ok (.sipush 256, 3) := by decide +kernel
theorem dX0_sumOf_8 : decode cX0_sumOf 8 = .ok (.if_icmp .ge 12, 3) := by decide +kernel
theorem dX0_sumOf_11 : decode cX0_sumOf 11 = .ok (.aload_n 0, 1) := by decide +kernel
theorem dX0_sumOf_12 : decode cX0_sumOf 12 = .ok (.getfield 11, 3) := by decide +kernel
theorem dX0_sumOf_15 : decode cX0_sumOf 15 = .ok (.iload_n 1, 1) := by decide +kernel
theorem dX0_sumOf_16 : decode cX0_sumOf 16 = .ok (.iaload, 1) := by decide +kernel
theorem dX0_sumOf_17 : decode cX0_sumOf 17 = .ok (.goto 4, 3) := by decide +kernel
theorem dX0_sumOf_20 : decode cX0_sumOf 20 = .ok (.iconst 0, 1) := by decide +kernel
theorem dX0_sumOf_21 : decode cX0_sumOf 21 = .ok (.ireturn, 1) := by decide +kernel
theorem dX0_does_0 : decode cX0_does 0 = .ok (.aload_n 1, 1) := by decide +kernel
theorem dX0_does_1 : decode cX0_does 1 = .ok (.ifnull 40, 3) := by decide +kernel
theorem dX0_does_4 : decode cX0_does 4 = .ok (.aload_n 0, 1) := by decide +kernel
theorem dX0_does_5 : decode cX0_does 5 = .ok (.iload_n 3, 1) := by decide +kernel
theorem dX0_does_6 : decode cX0_does 6 = .ok (.invokevirtual 29, 3) := by decide +kernel
theorem dX0_does_9 : decode cX0_does 9 = .ok (.ifCond .eq 32, 3) := by decide +kernel
theorem dX0_does_12 : decode cX0_does 12 = .ok (.iload_n 3, 1) := by decide +kernel
theorem dX0_does_13 : decode cX0_does 13 = .ok (.ifCond .eq 11, 3) := by decide +kernel
theorem dX0_does_16 : decode cX0_does 16 = .ok (.aload_n 1, 1) := by decide +kernel
theorem dX0_does_17 : decode cX0_does 17 = .ok (.iload_n 2, 1) := by decide +kernel
theorem dX0_does_18 : decode cX0_does 18 = .ok (.invokevirtual 33, 3) := by decide +kernel
theorem dX0_does_21 : decode cX0_does 21 = .ok (.ifCond .eq 20, 3) := by decide +kernel
theorem dX0_does_24 : decode cX0_does 24 = .ok (.aload_n 0, 1) := by decide +kernel
theorem dX0_does_25 : decode cX0_does 25 = .ok (.iload_n 3, 1) := by decide +kernel
theorem dX0_does_26 : decode cX0_does 26 = .ok (.invokevirtual 36, 3) := by decide +kernel
theorem dX0_does_29 : decode cX0_does 29 = .ok (.aload_n 1, 1) := by decide +kernel
theorem dX0_does_30 : decode cX0_does 30 = .ok (.iload_n 2, 1) := by decide +kernel
theorem dX0_does_31 : decode cX0_does 31 = .ok (.invokevirtual 39, 3) := by decide +kernel
theorem dX0_does_34 : decode cX0_does 34 = .ok (.if_icmp .lt 7, 3) := by decide +kernel
theorem dX0_does_37 : decode cX0_does 37 = .ok (.iconst 1, 1) := by decide +kernel
theorem dX0_does_38 : decode cX0_does 38 = .ok (.goto 4, 3) := by decide +kernel
theorem dX0_does_41 : decode cX0_does 41 = .ok (.iconst 0, 1) := by decide +kernel
theorem dX0_does_42 : decode cX0_does 42 = .ok (.ireturn, 1) := by decide +kernel
theorem dX0_fewestFor_0 : decode cX0_fewestFor 0 = .ok (.iconst (-1), 1) := by decide +kernel
theorem dX0_fewestFor_1 : decode cX0_fewestFor 1 = .ok (.istore_n 3, 1) := by decide +kernel
theorem dX0_fewestFor_2 : decode cX0_fewestFor 2 = .ok (.iconst 0, 1) := by decide +kernel
theorem dX0_fewestFor_3 : decode cX0_fewestFor 3 = .ok (.istore 4, 2) := by decide +kernel
theorem dX0_fewestFor_5 : decode cX0_fewestFor 5 = .ok (.iload 4, 2) := by decide +kernel
theorem dX0_fewestFor_7 : decode cX0_fewestFor 7 = .ok (.sipush 256, 3) := by decide +kernel
theorem dX0_fewestFor_10 : decode cX0_fewestFor 10 = .ok (.if_icmp .ge 39, 3) := by decide +kernel
theorem dX0_fewestFor_13 : decode cX0_fewestFor 13 = .ok (.aload_n 0, 1) := by decide +kernel
theorem dX0_fewestFor_14 : decode cX0_fewestFor 14 = .ok (.aload_n 1, 1) := by decide +kernel
theorem dX0_fewestFor_15 : decode cX0_fewestFor 15 = .ok (.iload_n 2, 1) := by decide +kernel
theorem dX0_fewestFor_16 : decode cX0_fewestFor 16 = .ok (.iload 4, 2) := by decide +kernel
theorem dX0_fewestFor_18 : decode cX0_fewestFor 18 = .ok (.invokevirtual 42, 3) := by decide +kernel
theorem dX0_fewestFor_21 : decode cX0_fewestFor 21 = .ok (.ifCond .eq 22, 3) := by decide +kernel
theorem dX0_fewestFor_24 : decode cX0_fewestFor 24 = .ok (.iload_n 3, 1) := by decide +kernel
theorem dX0_fewestFor_25 : decode cX0_fewestFor 25 = .ok (.ifCond .lt 15, 3) := by decide +kernel
theorem dX0_fewestFor_28 : decode cX0_fewestFor 28 = .ok (.iload 4, 2) := by decide +kernel
theorem dX0_fewestFor_30 : decode cX0_fewestFor 30 = .ok (.invokestatic 46, 3) := by decide +kernel
theorem dX0_fewestFor_33 : decode cX0_fewestFor 33 = .ok (.iload_n 3, 1) := by decide +kernel
theorem dX0_fewestFor_34 : decode cX0_fewestFor 34 = .ok (.invokestatic 46, 3) := by decide +kernel
theorem dX0_fewestFor_37 : decode cX0_fewestFor 37 = .ok (.if_icmp .ge 6, 3) := by decide +kernel
theorem dX0_fewestFor_40 : decode cX0_fewestFor 40 = .ok (.iload 4, 2) := by decide +kernel
theorem dX0_fewestFor_42 : decode cX0_fewestFor 42 = .ok (.istore_n 3, 1) := by decide +kernel
theorem dX0_fewestFor_43 : decode cX0_fewestFor 43 = .ok (.iinc 4 1, 3) := by decide +kernel
theorem dX0_fewestFor_46 : decode cX0_fewestFor 46 = .ok (.goto (-41), 3) := by decide +kernel
theorem dX0_fewestFor_49 : decode cX0_fewestFor 49 = .ok (.iload_n 3, 1) := by decide +kernel
theorem dX0_fewestFor_50 : decode cX0_fewestFor 50 = .ok (.ireturn, 1) := by decide +kernel
theorem dX0_leastFor_0 : decode cX0_leastFor 0 = .ok (.iconst (-1), 1) := by decide +kernel
theorem dX0_leastFor_1 : decode cX0_leastFor 1 = .ok (.istore_n 3, 1) := by decide +kernel
theorem dX0_leastFor_2 : decode cX0_leastFor 2 = .ok (.iconst 0, 1) := by decide +kernel
theorem dX0_leastFor_3 : decode cX0_leastFor 3 = .ok (.istore 4, 2) := by decide +kernel
theorem dX0_leastFor_5 : decode cX0_leastFor 5 = .ok (.iload 4, 2) := by decide +kernel
theorem dX0_leastFor_7 : decode cX0_leastFor 7 = .ok (.sipush 256, 3) := by decide +kernel
theorem dX0_leastFor_10 : decode cX0_leastFor 10 = .ok (.if_icmp .ge 41, 3) := by decide +kernel
theorem dX0_leastFor_13 : decode cX0_leastFor 13 = .ok (.aload_n 0, 1) := by decide +kernel
theorem dX0_leastFor_14 : decode cX0_leastFor 14 = .ok (.aload_n 1, 1) := by decide +kernel
theorem dX0_leastFor_15 : decode cX0_leastFor 15 = .ok (.iload_n 2, 1) := by decide +kernel
theorem dX0_leastFor_16 : decode cX0_leastFor 16 = .ok (.iload 4, 2) := by decide +kernel
theorem dX0_leastFor_18 : decode cX0_leastFor 18 = .ok (.invokevirtual 42, 3) := by decide +kernel
theorem dX0_leastFor_21 : decode cX0_leastFor 21 = .ok (.ifCond .eq 24, 3) := by decide +kernel
theorem dX0_leastFor_24 : decode cX0_leastFor 24 = .ok (.iload_n 3, 1) := by decide +kernel
theorem dX0_leastFor_25 : decode cX0_leastFor 25 = .ok (.ifCond .lt 17, 3) := by decide +kernel
theorem dX0_leastFor_28 : decode cX0_leastFor 28 = .ok (.aload_n 0, 1) := by decide +kernel
theorem dX0_leastFor_29 : decode cX0_leastFor 29 = .ok (.iload 4, 2) := by decide +kernel
theorem dX0_leastFor_31 : decode cX0_leastFor 31 = .ok (.invokevirtual 36, 3) := by decide +kernel
theorem dX0_leastFor_34 : decode cX0_leastFor 34 = .ok (.aload_n 0, 1) := by decide +kernel
theorem dX0_leastFor_35 : decode cX0_leastFor 35 = .ok (.iload_n 3, 1) := by decide +kernel
theorem dX0_leastFor_36 : decode cX0_leastFor 36 = .ok (.invokevirtual 36, 3) := by decide +kernel
theorem dX0_leastFor_39 : decode cX0_leastFor 39 = .ok (.if_icmp .ge 6, 3) := by decide +kernel
theorem dX0_leastFor_42 : decode cX0_leastFor 42 = .ok (.iload 4, 2) := by decide +kernel
theorem dX0_leastFor_44 : decode cX0_leastFor 44 = .ok (.istore_n 3, 1) := by decide +kernel
theorem dX0_leastFor_45 : decode cX0_leastFor 45 = .ok (.iinc 4 1, 3) := by decide +kernel
theorem dX0_leastFor_48 : decode cX0_leastFor 48 = .ok (.goto (-43), 3) := by decide +kernel
theorem dX0_leastFor_51 : decode cX0_leastFor 51 = .ok (.iload_n 3, 1) := by decide +kernel
theorem dX0_leastFor_52 : decode cX0_leastFor 52 = .ok (.ireturn, 1) := by decide +kernel
theorem dX0_bestMark_0 : decode cX0_bestMark 0 = .ok (.iconst 0, 1) := by decide +kernel
theorem dX0_bestMark_1 : decode cX0_bestMark 1 = .ok (.istore_n 2, 1) := by decide +kernel
theorem dX0_bestMark_2 : decode cX0_bestMark 2 = .ok (.iload_n 2, 1) := by decide +kernel
theorem dX0_bestMark_3 : decode cX0_bestMark 3 = .ok (.sipush 256, 3) := by decide +kernel
theorem dX0_bestMark_6 : decode cX0_bestMark 6 = .ok (.if_icmp .ge 16, 3) := by decide +kernel
theorem dX0_bestMark_9 : decode cX0_bestMark 9 = .ok (.aload_n 0, 1) := by decide +kernel
theorem dX0_bestMark_10 : decode cX0_bestMark 10 = .ok (.getfield 15, 3) := by decide +kernel
theorem dX0_bestMark_13 : decode cX0_bestMark 13 = .ok (.iload_n 2, 1) := by decide +kernel
theorem dX0_bestMark_14 : decode cX0_bestMark 14 = .ok (.iconst 0, 1) := by decide +kernel
theorem dX0_bestMark_15 : decode cX0_bestMark 15 = .ok (.iastore, 1) := by decide +kernel
theorem dX0_bestMark_16 : decode cX0_bestMark 16 = .ok (.iinc 2 1, 3) := by decide +kernel
theorem dX0_bestMark_19 : decode cX0_bestMark 19 = .ok (.goto (-17), 3) := by decide +kernel
theorem dX0_bestMark_22 : decode cX0_bestMark 22 = .ok (.iconst 0, 1) := by decide +kernel
theorem dX0_bestMark_23 : decode cX0_bestMark 23 = .ok (.istore_n 2, 1) := by decide +kernel
theorem dX0_bestMark_24 : decode cX0_bestMark 24 = .ok (.iconst 0, 1) := by decide +kernel
theorem dX0_bestMark_25 : decode cX0_bestMark 25 = .ok (.istore_n 3, 1) := by decide +kernel
theorem dX0_bestMark_26 : decode cX0_bestMark 26 = .ok (.aload_n 1, 1) := by decide +kernel
theorem dX0_bestMark_27 : decode cX0_bestMark 27 = .ok (.ifnull 80, 3) := by decide +kernel
theorem dX0_bestMark_30 : decode cX0_bestMark 30 = .ok (.iload_n 3, 1) := by decide +kernel
theorem dX0_bestMark_31 : decode cX0_bestMark 31 = .ok (.bipush 6, 2) := by decide +kernel
theorem dX0_bestMark_33 : decode cX0_bestMark 33 = .ok (.if_icmp .ge 74, 3) := by decide +kernel
theorem dX0_bestMark_36 : decode cX0_bestMark 36 = .ok (.aload_n 1, 1) := by decide +kernel
theorem dX0_bestMark_37 : decode cX0_bestMark 37 = .ok (.getfield 51, 3) := by decide +kernel
theorem dX0_bestMark_40 : decode cX0_bestMark 40 = .ok (.iload_n 3, 1) := by decide +kernel
theorem dX0_bestMark_41 : decode cX0_bestMark 41 = .ok (.iconst 2, 1) := by decide +kernel
theorem dX0_bestMark_42 : decode cX0_bestMark 42 = .ok (.invokevirtual 55, 3) := by decide +kernel
theorem dX0_bestMark_45 : decode cX0_bestMark 45 = .ok (.istore 4, 2) := by decide +kernel
theorem dX0_bestMark_47 : decode cX0_bestMark 47 = .ok (.iload 4, 2) := by decide +kernel
theorem dX0_bestMark_49 : decode cX0_bestMark 49 = .ok (.ifCond .gt 6, 3) := by decide +kernel
theorem dX0_bestMark_52 : decode cX0_bestMark 52 = .ok (.goto 49, 3) := by decide +kernel
theorem dX0_bestMark_55 : decode cX0_bestMark 55 = .ok (.iload 4, 2) := by decide +kernel
theorem dX0_bestMark_57 : decode cX0_bestMark 57 = .ok (.bipush 64, 2) := by decide +kernel
theorem dX0_bestMark_59 : decode cX0_bestMark 59 = .ok (.imul, 1) := by decide +kernel
theorem dX0_bestMark_60 : decode cX0_bestMark 60 = .ok (.iconst 1, 1) := by decide +kernel
theorem dX0_bestMark_61 : decode cX0_bestMark 61 = .ok (.iload_n 3, 1) := by decide +kernel
theorem dX0_bestMark_62 : decode cX0_bestMark 62 = .ok (.ishl, 1) := by decide +kernel
theorem dX0_bestMark_63 : decode cX0_bestMark 63 = .ok (.isub, 1) := by decide +kernel
theorem dX0_bestMark_64 : decode cX0_bestMark 64 = .ok (.istore 5, 2) := by decide +kernel
theorem dX0_bestMark_66 : decode cX0_bestMark 66 = .ok (.aload_n 1, 1) := by decide +kernel
theorem dX0_bestMark_67 : decode cX0_bestMark 67 = .ok (.iload_n 3, 1) := by decide +kernel
theorem dX0_bestMark_68 : decode cX0_bestMark 68 = .ok (.invokevirtual 61, 3) := by decide +kernel
theorem dX0_bestMark_71 : decode cX0_bestMark 71 = .ok (.ifCond .eq 11, 3) := by decide +kernel
theorem dX0_bestMark_74 : decode cX0_bestMark 74 = .ok (.iload_n 2, 1) := by decide +kernel
theorem dX0_bestMark_75 : decode cX0_bestMark 75 = .ok (.iload 5, 2) := by decide +kernel
theorem dX0_bestMark_77 : decode cX0_bestMark 77 = .ok (.iadd, 1) := by decide +kernel
theorem dX0_bestMark_78 : decode cX0_bestMark 78 = .ok (.istore_n 2, 1) := by decide +kernel
theorem dX0_bestMark_79 : decode cX0_bestMark 79 = .ok (.goto 22, 3) := by decide +kernel
theorem dX0_bestMark_82 : decode cX0_bestMark 82 = .ok (.aload_n 1, 1) := by decide +kernel
theorem dX0_bestMark_83 : decode cX0_bestMark 83 = .ok (.iload_n 3, 1) := by decide +kernel
theorem dX0_bestMark_84 : decode cX0_bestMark 84 = .ok (.invokevirtual 33, 3) := by decide +kernel
theorem dX0_bestMark_87 : decode cX0_bestMark 87 = .ok (.ifCond .eq 14, 3) := by decide +kernel
theorem dX0_bestMark_90 : decode cX0_bestMark 90 = .ok (.aload_n 0, 1) := by decide +kernel
theorem dX0_bestMark_91 : decode cX0_bestMark 91 = .ok (.aload_n 1, 1) := by decide +kernel
theorem dX0_bestMark_92 : decode cX0_bestMark 92 = .ok (.iload_n 3, 1) := by decide +kernel
theorem dX0_bestMark_93 : decode cX0_bestMark 93 = .ok (.invokevirtual 39, 3) := by decide +kernel
theorem dX0_bestMark_96 : decode cX0_bestMark 96 = .ok (.iload 5, 2) := by decide +kernel
theorem dX0_bestMark_98 : decode cX0_bestMark 98 = .ok (.invokevirtual 64, 3) := by decide +kernel
theorem dX0_bestMark_101 : decode cX0_bestMark 101 = .ok (.iinc 3 1, 3) := by decide +kernel
theorem dX0_bestMark_104 : decode cX0_bestMark 104 = .ok (.goto (-78), 3) := by decide +kernel
theorem dX0_bestMark_107 : decode cX0_bestMark 107 = .ok (.iload_n 2, 1) := by decide +kernel
theorem dX0_bestMark_108 : decode cX0_bestMark 108 = .ok (.aload_n 0, 1) := by decide +kernel
theorem dX0_bestMark_109 : decode cX0_bestMark 109 = .ok (.aload_n 0, 1) := by decide +kernel
theorem dX0_bestMark_110 : decode cX0_bestMark 110 = .ok (.getfield 22, 3) := by decide +kernel
theorem dX0_bestMark_113 : decode cX0_bestMark 113 = .ok (.invokevirtual 68, 3) := by decide +kernel
theorem dX0_bestMark_116 : decode cX0_bestMark 116 = .ok (.iadd, 1) := by decide +kernel
theorem dX0_bestMark_117 : decode cX0_bestMark 117 = .ok (.ireturn, 1) := by decide +kernel
theorem dX0_offer_0 : decode cX0_offer 0 = .ok (.sipush 255, 3) := by decide +kernel
theorem dX0_offer_3 : decode cX0_offer 3 = .ok (.istore_n 3, 1) := by decide +kernel
theorem dX0_offer_4 : decode cX0_offer 4 = .ok (.iload_n 3, 1) := by decide +kernel
theorem dX0_offer_5 : decode cX0_offer 5 = .ok (.ifCond .le 30, 3) := by decide +kernel
theorem dX0_offer_8 : decode cX0_offer 8 = .ok (.aload_n 0, 1) := by decide +kernel
theorem dX0_offer_9 : decode cX0_offer 9 = .ok (.iload_n 3, 1) := by decide +kernel
theorem dX0_offer_10 : decode cX0_offer 10 = .ok (.invokevirtual 29, 3) := by decide +kernel
theorem dX0_offer_13 : decode cX0_offer 13 = .ok (.ifCond .eq 16, 3) := by decide +kernel
theorem dX0_offer_16 : decode cX0_offer 16 = .ok (.aload_n 0, 1) := by decide +kernel
theorem dX0_offer_17 : decode cX0_offer 17 = .ok (.getfield 15, 3) := by decide +kernel
theorem dX0_offer_20 : decode cX0_offer 20 = .ok (.iload_n 3, 1) := by decide +kernel
theorem dX0_offer_21 : decode cX0_offer 21 = .ok (.aload_n 0, 1) := by decide +kernel
theorem dX0_offer_22 : decode cX0_offer 22 = .ok (.iload_n 3, 1) := by decide +kernel
theorem dX0_offer_23 : decode cX0_offer 23 = .ok (.iload_n 1, 1) := by decide +kernel
theorem dX0_offer_24 : decode cX0_offer 24 = .ok (.iload_n 2, 1) := by decide +kernel
theorem dX0_offer_25 : decode cX0_offer 25 = .ok (.invokevirtual 71, 3) := by decide +kernel
theorem dX0_offer_28 : decode cX0_offer 28 = .ok (.iastore, 1) := by decide +kernel
theorem dX0_offer_29 : decode cX0_offer 29 = .ok (.iinc 3 (-1), 3) := by decide +kernel
theorem dX0_offer_32 : decode cX0_offer 32 = .ok (.goto (-28), 3) := by decide +kernel
theorem dX0_offer_35 : decode cX0_offer 35 = .ok (.return_, 1) := by decide +kernel
theorem dX0_bestWithOneMore_0 : decode cX0_bestWithOneMore 0 = .ok (.aload_n 0, 1) := by decide +kernel
theorem dX0_bestWithOneMore_1 : decode cX0_bestWithOneMore 1 = .ok (.iload_n 1, 1) := by decide +kernel
theorem dX0_bestWithOneMore_2 : decode cX0_bestWithOneMore 2 = .ok (.invokevirtual 68, 3) := by decide +kernel
theorem dX0_bestWithOneMore_5 : decode cX0_bestWithOneMore 5 = .ok (.istore 4, 2) := by decide +kernel
theorem dX0_bestWithOneMore_7 : decode cX0_bestWithOneMore 7 = .ok (.iload_n 1, 1) := by decide +kernel
theorem dX0_bestWithOneMore_8 : decode cX0_bestWithOneMore 8 = .ok (.istore 5, 2) := by decide +kernel
theorem dX0_bestWithOneMore_10 : decode cX0_bestWithOneMore 10 = .ok (.iload 5, 2) := by decide +kernel
theorem dX0_bestWithOneMore_12 : decode cX0_bestWithOneMore 12 = .ok (.ifCond .le 41, 3) := by decide +kernel
theorem dX0_bestWithOneMore_15 : decode cX0_bestWithOneMore 15 = .ok (.aload_n 0, 1) := by decide +kernel
theorem dX0_bestWithOneMore_16 : decode cX0_bestWithOneMore 16 = .ok (.iload 5, 2) := by decide +kernel
theorem dX0_bestWithOneMore_18 : decode cX0_bestWithOneMore 18 = .ok (.invokevirtual 36, 3) := by decide +kernel
theorem dX0_bestWithOneMore_21 : decode cX0_bestWithOneMore 21 = .ok (.iload_n 2, 1) := by decide +kernel
theorem dX0_bestWithOneMore_22 : decode cX0_bestWithOneMore 22 = .ok (.if_icmp .lt 20, 3) := by decide +kernel
theorem dX0_bestWithOneMore_25 : decode cX0_bestWithOneMore 25 = .ok (.iload 4, 2) := by decide +kernel
theorem dX0_bestWithOneMore_27 : decode cX0_bestWithOneMore 27 = .ok (.aload_n 0, 1) := by decide +kernel
theorem dX0_bestWithOneMore_28 : decode cX0_bestWithOneMore 28 = .ok (.iload_n 1, 1) := by decide +kernel
theorem dX0_bestWithOneMore_29 : decode cX0_bestWithOneMore 29 = .ok (.iload 5, 2) := by decide +kernel
theorem dX0_bestWithOneMore_31 : decode cX0_bestWithOneMore 31 = .ok (.ixor, 1) := by decide +kernel
theorem dX0_bestWithOneMore_32 : decode cX0_bestWithOneMore 32 = .ok (.invokevirtual 68, 3) := by decide +kernel
theorem dX0_bestWithOneMore_35 : decode cX0_bestWithOneMore 35 = .ok (.iload_n 3, 1) := by decide +kernel
theorem dX0_bestWithOneMore_36 : decode cX0_bestWithOneMore 36 = .ok (.iadd, 1) := by decide +kernel
theorem dX0_bestWithOneMore_37 : decode cX0_bestWithOneMore 37 = .ok (.invokestatic 75, 3) := by decide +kernel
theorem dX0_bestWithOneMore_40 : decode cX0_bestWithOneMore 40 = .ok (.istore 4, 2) := by decide +kernel
theorem dX0_bestWithOneMore_42 : decode cX0_bestWithOneMore 42 = .ok (.iload 5, 2) := by decide +kernel
theorem dX0_bestWithOneMore_44 : decode cX0_bestWithOneMore 44 = .ok (.iconst 1, 1) := by decide +kernel
theorem dX0_bestWithOneMore_45 : decode cX0_bestWithOneMore 45 = .ok (.isub, 1) := by decide +kernel
theorem dX0_bestWithOneMore_46 : decode cX0_bestWithOneMore 46 = .ok (.iload_n 1, 1) := by decide +kernel
theorem dX0_bestWithOneMore_47 : decode cX0_bestWithOneMore 47 = .ok (.iand, 1) := by decide +kernel
theorem dX0_bestWithOneMore_48 : decode cX0_bestWithOneMore 48 = .ok (.istore 5, 2) := by decide +kernel
theorem dX0_bestWithOneMore_50 : decode cX0_bestWithOneMore 50 = .ok (.goto (-40), 3) := by decide +kernel
theorem dX0_bestWithOneMore_53 : decode cX0_bestWithOneMore 53 = .ok (.iload 4, 2) := by decide +kernel
theorem dX0_bestWithOneMore_55 : decode cX0_bestWithOneMore 55 = .ok (.ireturn, 1) := by decide +kernel
theorem dX0_markOf_0 : decode cX0_markOf 0 = .ok (.iload_n 1, 1) := by decide +kernel
theorem dX0_markOf_1 : decode cX0_markOf 1 = .ok (.ifCond .lt 19, 3) := by decide +kernel
theorem dX0_markOf_4 : decode cX0_markOf 4 = .ok (.iload_n 1, 1) := by decide +kernel
theorem dX0_markOf_5 : decode cX0_markOf 5 = .ok (.sipush 256, 3) := by decide +kernel
theorem dX0_markOf_8 : decode cX0_markOf 8 = .ok (.if_icmp .ge 12, 3) := by decide +kernel
theorem dX0_markOf_11 : decode cX0_markOf 11 = .ok (.aload_n 0, 1) := by decide +kernel
theorem dX0_markOf_12 : decode cX0_markOf 12 = .ok (.getfield 15, 3) := by decide +kernel
theorem dX0_markOf_15 : decode cX0_markOf 15 = .ok (.iload_n 1, 1) := by decide +kernel
theorem dX0_markOf_16 : decode cX0_markOf 16 = .ok (.iaload, 1) := by decide +kernel
theorem dX0_markOf_17 : decode cX0_markOf 17 = .ok (.goto 4, 3) := by decide +kernel
theorem dX0_markOf_20 : decode cX0_markOf 20 = .ok (.iconst 0, 1) := by decide +kernel
theorem dX0_markOf_21 : decode cX0_markOf 21 = .ok (.ireturn, 1) := by decide +kernel
theorem dX0_worthOf_0 : decode cX0_worthOf 0 = .ok (.iload_n 0, 1) := by decide +kernel
theorem dX0_worthOf_1 : decode cX0_worthOf 1 = .ok (.bipush 64, 2) := by decide +kernel
theorem dX0_worthOf_3 : decode cX0_worthOf 3 = .ok (.iadd, 1) := by decide +kernel
theorem dX0_worthOf_4 : decode cX0_worthOf 4 = .ok (.iconst 1, 1) := by decide +kernel
theorem dX0_worthOf_5 : decode cX0_worthOf 5 = .ok (.isub, 1) := by decide +kernel
theorem dX0_worthOf_6 : decode cX0_worthOf 6 = .ok (.bipush 64, 2) := by decide +kernel
theorem dX0_worthOf_8 : decode cX0_worthOf 8 = .ok (.idiv, 1) := by decide +kernel
theorem dX0_worthOf_9 : decode cX0_worthOf 9 = .ok (.ireturn, 1) := by decide +kernel
theorem dX0_worksOf_0 : decode cX0_worksOf 0 = .ok (.iload_n 0, 1) := by decide +kernel
theorem dX0_worksOf_1 : decode cX0_worksOf 1 = .ok (.invokestatic 80, 3) := by decide +kernel
theorem dX0_worksOf_4 : decode cX0_worksOf 4 = .ok (.bipush 64, 2) := by decide +kernel
theorem dX0_worksOf_6 : decode cX0_worksOf 6 = .ok (.imul, 1) := by decide +kernel
theorem dX0_worksOf_7 : decode cX0_worksOf 7 = .ok (.iload_n 0, 1) := by decide +kernel
theorem dX0_worksOf_8 : decode cX0_worksOf 8 = .ok (.isub, 1) := by decide +kernel
theorem dX0_worksOf_9 : decode cX0_worksOf 9 = .ok (.ireturn, 1) := by decide +kernel
theorem dX0_nearestHalf_0 : decode cX0_nearestHalf 0 = .ok (.iconst 0, 1) := by decide +kernel
theorem dX0_nearestHalf_1 : decode cX0_nearestHalf 1 = .ok (.istore_n 1, 1) := by decide +kernel
theorem dX0_nearestHalf_2 : decode cX0_nearestHalf 2 = .ok (.iconst 1, 1) := by decide +kernel
theorem dX0_nearestHalf_3 : decode cX0_nearestHalf 3 = .ok (.istore_n 2, 1) := by decide +kernel
theorem dX0_nearestHalf_4 : decode cX0_nearestHalf 4 = .ok (.iload_n 2, 1) := by decide +kernel
theorem dX0_nearestHalf_5 : decode cX0_nearestHalf 5 = .ok (.sipush 256, 3) := by decide +kernel
theorem dX0_nearestHalf_8 : decode cX0_nearestHalf 8 = .ok (.if_icmp .ge 32, 3) := by decide +kernel
theorem dX0_nearestHalf_11 : decode cX0_nearestHalf 11 = .ok (.aload_n 0, 1) := by decide +kernel
theorem dX0_nearestHalf_12 : decode cX0_nearestHalf 12 = .ok (.iload_n 2, 1) := by decide +kernel
theorem dX0_nearestHalf_13 : decode cX0_nearestHalf 13 = .ok (.invokevirtual 29, 3) := by decide +kernel
theorem dX0_nearestHalf_16 : decode cX0_nearestHalf 16 = .ok (.ifCond .eq 18, 3) := by decide +kernel
theorem dX0_nearestHalf_19 : decode cX0_nearestHalf 19 = .ok (.aload_n 0, 1) := by decide +kernel
theorem dX0_nearestHalf_20 : decode cX0_nearestHalf 20 = .ok (.iload_n 2, 1) := by decide +kernel
theorem dX0_nearestHalf_21 : decode cX0_nearestHalf 21 = .ok (.invokevirtual 83, 3) := by decide +kernel
theorem dX0_nearestHalf_24 : decode cX0_nearestHalf 24 = .ok (.aload_n 0, 1) := by decide +kernel
theorem dX0_nearestHalf_25 : decode cX0_nearestHalf 25 = .ok (.iload_n 1, 1) := by decide +kernel
theorem dX0_nearestHalf_26 : decode cX0_nearestHalf 26 = .ok (.invokevirtual 83, 3) := by decide +kernel
theorem dX0_nearestHalf_29 : decode cX0_nearestHalf 29 = .ok (.if_icmp .ge 5, 3) := by decide +kernel
theorem dX0_nearestHalf_32 : decode cX0_nearestHalf 32 = .ok (.iload_n 2, 1) := by decide +kernel
theorem dX0_nearestHalf_33 : decode cX0_nearestHalf 33 = .ok (.istore_n 1, 1) := by decide +kernel
theorem dX0_nearestHalf_34 : decode cX0_nearestHalf 34 = .ok (.iinc 2 1, 3) := by decide +kernel
theorem dX0_nearestHalf_37 : decode cX0_nearestHalf 37 = .ok (.goto (-33), 3) := by decide +kernel
theorem dX0_nearestHalf_40 : decode cX0_nearestHalf 40 = .ok (.iload_n 1, 1) := by decide +kernel
theorem dX0_nearestHalf_41 : decode cX0_nearestHalf 41 = .ok (.ireturn, 1) := by decide +kernel
theorem dX0_apartWith_0 : decode cX0_apartWith 0 = .ok (.iconst 2, 1) := by decide +kernel
theorem dX0_apartWith_1 : decode cX0_apartWith 1 = .ok (.aload_n 0, 1) := by decide +kernel
theorem dX0_apartWith_2 : decode cX0_apartWith 2 = .ok (.iload_n 1, 1) := by decide +kernel
theorem dX0_apartWith_3 : decode cX0_apartWith 3 = .ok (.invokevirtual 36, 3) := by decide +kernel
theorem dX0_apartWith_6 : decode cX0_apartWith 6 = .ok (.imul, 1) := by decide +kernel
theorem dX0_apartWith_7 : decode cX0_apartWith 7 = .ok (.aload_n 0, 1) := by decide +kernel
theorem dX0_apartWith_8 : decode cX0_apartWith 8 = .ok (.aload_n 0, 1) := by decide +kernel
theorem dX0_apartWith_9 : decode cX0_apartWith 9 = .ok (.getfield 22, 3) := by decide +kernel
theorem dX0_apartWith_12 : decode cX0_apartWith 12 = .ok (.invokevirtual 36, 3) := by decide +kernel
theorem dX0_apartWith_15 : decode cX0_apartWith 15 = .ok (.isub, 1) := by decide +kernel
theorem dX0_apartWith_16 : decode cX0_apartWith 16 = .ok (.invokestatic 86, 3) := by decide +kernel
theorem dX0_apartWith_19 : decode cX0_apartWith 19 = .ok (.ireturn, 1) := by decide +kernel
theorem dX0_setsOf_0 : decode cX0_setsOf 0 = .ok (.iconst 0, 1) := by decide +kernel
theorem dX0_setsOf_1 : decode cX0_setsOf 1 = .ok (.istore_n 2, 1) := by decide +kernel
theorem dX0_setsOf_2 : decode cX0_setsOf 2 = .ok (.iconst 0, 1) := by decide +kernel
theorem dX0_setsOf_3 : decode cX0_setsOf 3 = .ok (.istore_n 3, 1) := by decide +kernel
theorem dX0_setsOf_4 : decode cX0_setsOf 4 = .ok (.iload_n 3, 1) := by decide +kernel
theorem dX0_setsOf_5 : decode cX0_setsOf 5 = .ok (.sipush 256, 3) := by decide +kernel
theorem dX0_setsOf_8 : decode cX0_setsOf 8 = .ok (.if_icmp .ge 29, 3) := by decide +kernel
theorem dX0_setsOf_11 : decode cX0_setsOf 11 = .ok (.aload_n 0, 1) := by decide +kernel
theorem dX0_setsOf_12 : decode cX0_setsOf 12 = .ok (.iload_n 3, 1) := by decide +kernel
theorem dX0_setsOf_13 : decode cX0_setsOf 13 = .ok (.invokevirtual 29, 3) := by decide +kernel
theorem dX0_setsOf_16 : decode cX0_setsOf 16 = .ok (.ifCond .eq 15, 3) := by decide +kernel
theorem dX0_setsOf_19 : decode cX0_setsOf 19 = .ok (.aload_n 0, 1) := by decide +kernel
theorem dX0_setsOf_20 : decode cX0_setsOf 20 = .ok (.iload_n 3, 1) := by decide +kernel
theorem dX0_setsOf_21 : decode cX0_setsOf 21 = .ok (.invokevirtual 36, 3) := by decide +kernel
theorem dX0_setsOf_24 : decode cX0_setsOf 24 = .ok (.iload_n 1, 1) := by decide +kernel
theorem dX0_setsOf_25 : decode cX0_setsOf 25 = .ok (.if_icmp .ne 6, 3) := by decide +kernel
theorem dX0_setsOf_28 : decode cX0_setsOf 28 = .ok (.iinc 2 1, 3) := by decide +kernel
theorem dX0_setsOf_31 : decode cX0_setsOf 31 = .ok (.iinc 3 1, 3) := by decide +kernel
theorem dX0_setsOf_34 : decode cX0_setsOf 34 = .ok (.goto (-30), 3) := by decide +kernel
theorem dX0_setsOf_37 : decode cX0_setsOf 37 = .ok (.iload_n 2, 1) := by decide +kernel
theorem dX0_setsOf_38 : decode cX0_setsOf 38 = .ok (.ireturn, 1) := by decide +kernel
theorem dX1_init_0 : decode cX1_init 0 = .ok (.aload_n 0, 1) := by decide +kernel
theorem dX1_init_1 : decode cX1_init 1 = .ok (.invokespecial 1, 3) := by decide +kernel
theorem dX1_init_4 : decode cX1_init 4 = .ok (.aload_n 0, 1) := by decide +kernel
theorem dX1_init_5 : decode cX1_init 5 = .ok (.new 7, 3) := by decide +kernel
theorem dX1_init_8 : decode cX1_init 8 = .ok (.dup, 1) := by decide +kernel
theorem dX1_init_9 : decode cX1_init 9 = .ok (.bipush 8, 2) := by decide +kernel
theorem dX1_init_11 : decode cX1_init 11 = .ok (.getstatic 11, 3) := by decide +kernel
theorem dX1_init_14 : decode cX1_init 14 = .ok (.getstatic 15, 3) := by decide +kernel
theorem dX1_init_17 : decode cX1_init 17 = .ok (.invokespecial 18, 3) := by decide +kernel
theorem dX1_init_20 : decode cX1_init 20 = .ok (.putfield 21, 3) := by decide +kernel
theorem dX1_init_23 : decode cX1_init 23 = .ok (.iconst 0, 1) := by decide +kernel
theorem dX1_init_24 : decode cX1_init 24 = .ok (.istore_n 1, 1) := by decide +kernel
theorem dX1_init_25 : decode cX1_init 25 = .ok (.iload_n 1, 1) := by decide +kernel
theorem dX1_init_26 : decode cX1_init 26 = .ok (.bipush 8, 2) := by decide +kernel
theorem dX1_init_28 : decode cX1_init 28 = .ok (.if_icmp .ge 19, 3) := by decide +kernel
theorem dX1_init_31 : decode cX1_init 31 = .ok (.aload_n 0, 1) := by decide +kernel
theorem dX1_init_32 : decode cX1_init 32 = .ok (.getfield 21, 3) := by decide +kernel
theorem dX1_init_35 : decode cX1_init 35 = .ok (.iload_n 1, 1) := by decide +kernel
theorem dX1_init_36 : decode cX1_init 36 = .ok (.iconst 0, 1) := by decide +kernel
theorem dX1_init_37 : decode cX1_init 37 = .ok (.iconst (-1), 1) := by decide +kernel
theorem dX1_init_38 : decode cX1_init 38 = .ok (.invokevirtual 25, 3) := by decide +kernel
theorem dX1_init_41 : decode cX1_init 41 = .ok (.iinc 1 1, 3) := by decide +kernel
theorem dX1_init_44 : decode cX1_init 44 = .ok (.goto (-19), 3) := by decide +kernel
theorem dX1_init_47 : decode cX1_init 47 = .ok (.aload_n 0, 1) := by decide +kernel
theorem dX1_init_48 : decode cX1_init 48 = .ok (.new 7, 3) := by decide +kernel
theorem dX1_init_51 : decode cX1_init 51 = .ok (.dup, 1) := by decide +kernel
theorem dX1_init_52 : decode cX1_init 52 = .ok (.iconst 4, 1) := by decide +kernel
theorem dX1_init_53 : decode cX1_init 53 = .ok (.getstatic 29, 3) := by decide +kernel
theorem dX1_init_56 : decode cX1_init 56 = .ok (.getstatic 32, 3) := by decide +kernel
theorem dX1_init_59 : decode cX1_init 59 = .ok (.invokespecial 18, 3) := by decide +kernel
theorem dX1_init_62 : decode cX1_init 62 = .ok (.putfield 35, 3) := by decide +kernel
theorem dX1_init_65 : decode cX1_init 65 = .ok (.iconst 0, 1) := by decide +kernel
theorem dX1_init_66 : decode cX1_init 66 = .ok (.istore_n 1, 1) := by decide +kernel
theorem dX1_init_67 : decode cX1_init 67 = .ok (.iload_n 1, 1) := by decide +kernel
theorem dX1_init_68 : decode cX1_init 68 = .ok (.iconst 4, 1) := by decide +kernel
theorem dX1_init_69 : decode cX1_init 69 = .ok (.if_icmp .ge 30, 3) := by decide +kernel
theorem dX1_init_72 : decode cX1_init 72 = .ok (.aload_n 0, 1) := by decide +kernel
theorem dX1_init_73 : decode cX1_init 73 = .ok (.getfield 35, 3) := by decide +kernel
theorem dX1_init_76 : decode cX1_init 76 = .ok (.iload_n 1, 1) := by decide +kernel
theorem dX1_init_77 : decode cX1_init 77 = .ok (.iconst 2, 1) := by decide +kernel
theorem dX1_init_78 : decode cX1_init 78 = .ok (.bipush 60, 2) := by decide +kernel
theorem dX1_init_80 : decode cX1_init 80 = .ok (.invokevirtual 25, 3) := by decide +kernel
theorem dX1_init_83 : decode cX1_init 83 = .ok (.aload_n 0, 1) := by decide +kernel
theorem dX1_init_84 : decode cX1_init 84 = .ok (.getfield 35, 3) := by decide +kernel
theorem dX1_init_87 : decode cX1_init 87 = .ok (.iload_n 1, 1) := by decide +kernel
theorem dX1_init_88 : decode cX1_init 88 = .ok (.iconst 3, 1) := by decide +kernel
theorem dX1_init_89 : decode cX1_init 89 = .ok (.iload_n 1, 1) := by decide +kernel
theorem dX1_init_90 : decode cX1_init 90 = .ok (.invokevirtual 25, 3) := by decide +kernel
theorem dX1_init_93 : decode cX1_init 93 = .ok (.iinc 1 1, 3) := by decide +kernel
theorem dX1_init_96 : decode cX1_init 96 = .ok (.goto (-29), 3) := by decide +kernel
theorem dX1_init_99 : decode cX1_init 99 = .ok (.aload_n 0, 1) := by decide +kernel
theorem dX1_init_100 : decode cX1_init 100 = .ok (.new 7, 3) := by decide +kernel
theorem dX1_init_103 : decode cX1_init 103 = .ok (.dup, 1) := by decide +kernel
theorem dX1_init_104 : decode cX1_init 104 = .ok (.bipush 6, 2) := by decide +kernel
theorem dX1_init_106 : decode cX1_init 106 = .ok (.getstatic 38, 3) := by decide +kernel
theorem dX1_init_109 : decode cX1_init 109 = .ok (.getstatic 41, 3) := by decide +kernel
theorem dX1_init_112 : decode cX1_init 112 = .ok (.invokespecial 18, 3) := by decide +kernel
theorem dX1_init_115 : decode cX1_init 115 = .ok (.putfield 44, 3) := by decide +kernel
theorem dX1_init_118 : decode cX1_init 118 = .ok (.iconst 0, 1) := by decide +kernel
theorem dX1_init_119 : decode cX1_init 119 = .ok (.istore_n 1, 1) := by decide +kernel
theorem dX1_init_120 : decode cX1_init 120 = .ok (.iload_n 1, 1) := by decide +kernel
theorem dX1_init_121 : decode cX1_init 121 = .ok (.bipush 6, 2) := by decide +kernel
theorem dX1_init_123 : decode cX1_init 123 = .ok (.if_icmp .ge 20, 3) := by decide +kernel
theorem dX1_init_126 : decode cX1_init 126 = .ok (.aload_n 0, 1) := by decide +kernel
theorem dX1_init_127 : decode cX1_init 127 = .ok (.getfield 44, 3) := by decide +kernel
theorem dX1_init_130 : decode cX1_init 130 = .ok (.iload_n 1, 1) := by decide +kernel
theorem dX1_init_131 : decode cX1_init 131 = .ok (.iconst 1, 1) := by decide +kernel
theorem dX1_init_132 : decode cX1_init 132 = .ok (.ldc 47, 2) := by decide +kernel
theorem dX1_init_134 : decode cX1_init 134 = .ok (.invokevirtual 25, 3) := by decide +kernel
theorem dX1_init_137 : decode cX1_init 137 = .ok (.iinc 1 1, 3) := by decide +kernel
theorem dX1_init_140 : decode cX1_init 140 = .ok (.goto (-20), 3) := by decide +kernel
theorem dX1_init_143 : decode cX1_init 143 = .ok (.aload_n 0, 1) := by decide +kernel
theorem dX1_init_144 : decode cX1_init 144 = .ok (.bipush 10, 2) := by decide +kernel
theorem dX1_init_146 : decode cX1_init 146 = .ok (.newarray .int, 2) := by decide +kernel
theorem dX1_init_148 : decode cX1_init 148 = .ok (.putfield 48, 3) := by decide +kernel
theorem dX1_init_151 : decode cX1_init 151 = .ok (.iconst 0, 1) := by decide +kernel
theorem dX1_init_152 : decode cX1_init 152 = .ok (.istore_n 1, 1) := by decide +kernel
theorem dX1_init_153 : decode cX1_init 153 = .ok (.iload_n 1, 1) := by decide +kernel
theorem dX1_init_154 : decode cX1_init 154 = .ok (.bipush 10, 2) := by decide +kernel
theorem dX1_init_156 : decode cX1_init 156 = .ok (.if_icmp .ge 16, 3) := by decide +kernel
theorem dX1_init_159 : decode cX1_init 159 = .ok (.aload_n 0, 1) := by decide +kernel
theorem dX1_init_160 : decode cX1_init 160 = .ok (.getfield 48, 3) := by decide +kernel
theorem dX1_init_163 : decode cX1_init 163 = .ok (.iload_n 1, 1) := by decide +kernel
theorem dX1_init_164 : decode cX1_init 164 = .ok (.iconst (-1), 1) := by decide +kernel
theorem dX1_init_165 : decode cX1_init 165 = .ok (.iastore, 1) := by decide +kernel
theorem dX1_init_166 : decode cX1_init 166 = .ok (.iinc 1 1, 3) := by decide +kernel
theorem dX1_init_169 : decode cX1_init 169 = .ok (.goto (-16), 3) := by decide +kernel
theorem dX1_init_172 : decode cX1_init 172 = .ok (.aload_n 0, 1) := by decide +kernel
theorem dX1_init_173 : decode cX1_init 173 = .ok (.iconst 0, 1) := by decide +kernel
theorem dX1_init_174 : decode cX1_init 174 = .ok (.putfield 51, 3) := by decide +kernel
theorem dX1_init_177 : decode cX1_init 177 = .ok (.aload_n 0, 1) := by decide +kernel
theorem dX1_init_178 : decode cX1_init 178 = .ok (.iconst 0, 1) := by decide +kernel
theorem dX1_init_179 : decode cX1_init 179 = .ok (.putfield 55, 3) := by decide +kernel
theorem dX1_init_182 : decode cX1_init 182 = .ok (.aload_n 0, 1) := by decide +kernel
theorem dX1_init_183 : decode cX1_init 183 = .ok (.iconst 1, 1) := by decide +kernel
theorem dX1_init_184 : decode cX1_init 184 = .ok (.putfield 58, 3) := by decide +kernel
theorem dX1_init_187 : decode cX1_init 187 = .ok (.return_, 1) := by decide +kernel
theorem dX1_become_0 : decode cX1_become 0 = .ok (.aload_n 1, 1) := by decide +kernel
theorem dX1_become_1 : decode cX1_become 1 = .ok (.ifnonnull 4, 3) := by decide +kernel
theorem dX1_become_4 : decode cX1_become 4 = .ok (.return_, 1) := by decide +kernel
theorem dX1_become_5 : decode cX1_become 5 = .ok (.aload_n 0, 1) := by decide +kernel
theorem dX1_become_6 : decode cX1_become 6 = .ok (.getfield 21, 3) := by decide +kernel
theorem dX1_become_9 : decode cX1_become 9 = .ok (.aload_n 1, 1) := by decide +kernel
theorem dX1_become_10 : decode cX1_become 10 = .ok (.getfield 21, 3) := by decide +kernel
theorem dX1_become_13 : decode cX1_become 13 = .ok (.invokevirtual 61, 3) := by decide +kernel
theorem dX1_become_16 : decode cX1_become 16 = .ok (.aload_n 0, 1) := by decide +kernel
theorem dX1_become_17 : decode cX1_become 17 = .ok (.getfield 35, 3) := by decide +kernel
theorem dX1_become_20 : decode cX1_become 20 = .ok (.aload_n 1, 1) := by decide +kernel
theorem dX1_become_21 : decode cX1_become 21 = .ok (.getfield 35, 3) := by decide +kernel
theorem dX1_become_24 : decode cX1_become 24 = .ok (.invokevirtual 61, 3) := by decide +kernel
theorem dX1_become_27 : decode cX1_become 27 = .ok (.aload_n 0, 1) := by decide +kernel
theorem dX1_become_28 : decode cX1_become 28 = .ok (.getfield 44, 3) := by decide +kernel
theorem dX1_become_31 : decode cX1_become 31 = .ok (.aload_n 1, 1) := by decide +kernel
theorem dX1_become_32 : decode cX1_become 32 = .ok (.getfield 44, 3) := by decide +kernel
theorem dX1_become_35 : decode cX1_become 35 = .ok (.invokevirtual 61, 3) := by decide +kernel
theorem dX1_become_38 : decode cX1_become 38 = .ok (.aload_n 1, 1) := by decide +kernel
theorem dX1_become_39 : decode cX1_become 39 = .ok (.getfield 48, 3) := by decide +kernel
theorem dX1_become_42 : decode cX1_become 42 = .ok (.aload_n 0, 1) := by decide +kernel
theorem dX1_become_43 : decode cX1_become 43 = .ok (.getfield 48, 3) := by decide +kernel
theorem dX1_become_46 : decode cX1_become 46 = .ok (.invokestatic 65, 3) := by decide +kernel
theorem dX1_become_49 : decode cX1_become 49 = .ok (.aload_n 0, 1) := by decide +kernel
theorem dX1_become_50 : decode cX1_become 50 = .ok (.aload_n 1, 1) := by decide +kernel
theorem dX1_become_51 : decode cX1_become 51 = .ok (.getfield 51, 3) := by decide +kernel
theorem dX1_become_54 : decode cX1_become 54 = .ok (.putfield 51, 3) := by decide +kernel
theorem dX1_become_57 : decode cX1_become 57 = .ok (.aload_n 0, 1) := by decide +kernel
theorem dX1_become_58 : decode cX1_become 58 = .ok (.aload_n 1, 1) := by decide +kernel
theorem dX1_become_59 : decode cX1_become 59 = .ok (.getfield 55, 3) := by decide +kernel
theorem dX1_become_62 : decode cX1_become 62 = .ok (.putfield 55, 3) := by decide +kernel
theorem dX1_become_65 : decode cX1_become 65 = .ok (.aload_n 0, 1) := by decide +kernel
theorem dX1_become_66 : decode cX1_become 66 = .ok (.aload_n 1, 1) := by decide +kernel
theorem dX1_become_67 : decode cX1_become 67 = .ok (.getfield 58, 3) := by decide +kernel
theorem dX1_become_70 : decode cX1_become 70 = .ok (.putfield 58, 3) := by decide +kernel
theorem dX1_become_73 : decode cX1_become 73 = .ok (.return_, 1) := by decide +kernel
theorem dX1_hasEgg_0 : decode cX1_hasEgg 0 = .ok (.aload_n 0, 1) := by decide +kernel
theorem dX1_hasEgg_1 : decode cX1_hasEgg 1 = .ok (.getfield 21, 3) := by decide +kernel
theorem dX1_hasEgg_4 : decode cX1_hasEgg 4 = .ok (.iload_n 1, 1) := by decide +kernel
theorem dX1_hasEgg_5 : decode cX1_hasEgg 5 = .ok (.invokevirtual 71, 3) := by decide +kernel
theorem dX1_hasEgg_8 : decode cX1_hasEgg 8 = .ok (.ifCond .eq 20, 3) := by decide +kernel
theorem dX1_hasEgg_11 : decode cX1_hasEgg 11 = .ok (.aload_n 0, 1) := by decide +kernel
theorem dX1_hasEgg_12 : decode cX1_hasEgg 12 = .ok (.getfield 21, 3) := by decide +kernel
theorem dX1_hasEgg_15 : decode cX1_hasEgg 15 = .ok (.iload_n 1, 1) := by decide +kernel
theorem dX1_hasEgg_16 : decode cX1_hasEgg 16 = .ok (.iconst 0, 1) := by decide +kernel
theorem dX1_hasEgg_17 : decode cX1_hasEgg 17 = .ok (.invokevirtual 75, 3) := by decide +kernel
theorem dX1_hasEgg_20 : decode cX1_hasEgg 20 = .ok (.iconst (-1), 1) := by decide +kernel
theorem dX1_hasEgg_21 : decode cX1_hasEgg 21 = .ok (.if_icmp .eq 7, 3) := by decide +kernel
theorem dX1_hasEgg_24 : decode cX1_hasEgg 24 = .ok (.iconst 1, 1) := by decide +kernel
theorem dX1_hasEgg_25 : decode cX1_hasEgg 25 = .ok (.goto 4, 3) := by decide +kernel
theorem dX1_hasEgg_28 : decode cX1_hasEgg 28 = .ok (.iconst 0, 1) := by decide +kernel
theorem dX1_hasEgg_29 : decode cX1_hasEgg 29 = .ok (.ireturn, 1) := by decide +kernel
theorem dX1_emptyPlace_0 : decode cX1_emptyPlace 0 = .ok (.iconst 0, 1) := by decide +kernel
theorem dX1_emptyPlace_1 : decode cX1_emptyPlace 1 = .ok (.istore_n 1, 1) := by decide +kernel
theorem dX1_emptyPlace_2 : decode cX1_emptyPlace 2 = .ok (.iload_n 1, 1) := by decide +kernel
theorem dX1_emptyPlace_3 : decode cX1_emptyPlace 3 = .ok (.bipush 8, 2) := by decide +kernel
theorem dX1_emptyPlace_5 : decode cX1_emptyPlace 5 = .ok (.if_icmp .ge 19, 3) := by decide +kernel
theorem dX1_emptyPlace_8 : decode cX1_emptyPlace 8 = .ok (.aload_n 0, 1) := by decide +kernel
theorem dX1_emptyPlace_9 : decode cX1_emptyPlace 9 = .ok (.iload_n 1, 1) := by decide +kernel
theorem dX1_emptyPlace_10 : decode cX1_emptyPlace 10 = .ok (.invokevirtual 79, 3) := by decide +kernel
theorem dX1_emptyPlace_13 : decode cX1_emptyPlace 13 = .ok (.ifCond .ne 5, 3) := by decide +kernel
theorem dX1_emptyPlace_16 : decode cX1_emptyPlace 16 = .ok (.iload_n 1, 1) := by decide +kernel
theorem dX1_emptyPlace_17 : decode cX1_emptyPlace 17 = .ok (.ireturn, 1) := by decide +kernel
theorem dX1_emptyPlace_18 : decode cX1_emptyPlace 18 = .ok (.iinc 1 1, 3) := by decide +kernel
theorem dX1_emptyPlace_21 : decode cX1_emptyPlace 21 = .ok (.goto (-19), 3) := by decide +kernel
theorem dX1_emptyPlace_24 : decode cX1_emptyPlace 24 = .ok (.iconst (-1), 1) := by decide +kernel
theorem dX1_emptyPlace_25 : decode cX1_emptyPlace 25 = .ok (.ireturn, 1) := by decide +kernel
theorem dX1_places_0 : decode cX1_places 0 = .ok (.iconst 0, 1) := by decide +kernel
theorem dX1_places_1 : decode cX1_places 1 = .ok (.istore_n 1, 1) := by decide +kernel
theorem dX1_places_2 : decode cX1_places 2 = .ok (.iconst 0, 1) := by decide +kernel
theorem dX1_places_3 : decode cX1_places 3 = .ok (.istore_n 2, 1) := by decide +kernel
theorem dX1_places_4 : decode cX1_places 4 = .ok (.iload_n 2, 1) := by decide +kernel
theorem dX1_places_5 : decode cX1_places 5 = .ok (.bipush 8, 2) := by decide +kernel
theorem dX1_places_7 : decode cX1_places 7 = .ok (.if_icmp .ge 23, 3) := by decide +kernel
theorem dX1_places_10 : decode cX1_places 10 = .ok (.aload_n 0, 1) := by decide +kernel
theorem dX1_places_11 : decode cX1_places 11 = .ok (.iload_n 2, 1) := by decide +kernel
theorem dX1_places_12 : decode cX1_places 12 = .ok (.invokevirtual 79, 3) := by decide +kernel
theorem dX1_places_15 : decode cX1_places 15 = .ok (.ifCond .eq 9, 3) := by decide +kernel
theorem dX1_places_18 : decode cX1_places 18 = .ok (.iload_n 1, 1) := by decide +kernel
theorem dX1_places_19 : decode cX1_places 19 = .ok (.iconst 1, 1) := by decide +kernel
theorem dX1_places_20 : decode cX1_places 20 = .ok (.iload_n 2, 1) := by decide +kernel
theorem dX1_places_21 : decode cX1_places 21 = .ok (.ishl, 1) := by decide +kernel
theorem dX1_places_22 : decode cX1_places 22 = .ok (.ior, 1) := by decide +kernel
theorem dX1_places_23 : decode cX1_places 23 = .ok (.istore_n 1, 1) := by decide +kernel
theorem dX1_places_24 : decode cX1_places 24 = .ok (.iinc 2 1, 3) := by decide +kernel
theorem dX1_places_27 : decode cX1_places 27 = .ok (.goto (-23), 3) := by decide +kernel
theorem dX1_places_30 : decode cX1_places 30 = .ok (.iload_n 1, 1) := by decide +kernel
theorem dX1_places_31 : decode cX1_places 31 = .ok (.ireturn, 1) := by decide +kernel
theorem dX1_layAt_0 : decode cX1_layAt 0 = .ok (.aload_n 0, 1) := by decide +kernel
theorem dX1_layAt_1 : decode cX1_layAt 1 = .ok (.getfield 21, 3) := by decide +kernel
theorem dX1_layAt_4 : decode cX1_layAt 4 = .ok (.iload_n 1, 1) := by decide +kernel
theorem dX1_layAt_5 : decode cX1_layAt 5 = .ok (.iconst 0, 1) := by decide +kernel
theorem dX1_layAt_6 : decode cX1_layAt 6 = .ok (.iload_n 2, 1) := by decide +kernel
theorem dX1_layAt_7 : decode cX1_layAt 7 = .ok (.invokevirtual 25, 3) := by decide +kernel
theorem dX1_layAt_10 : decode cX1_layAt 10 = .ok (.aload_n 0, 1) := by decide +kernel
theorem dX1_layAt_11 : decode cX1_layAt 11 = .ok (.getfield 21, 3) := by decide +kernel
theorem dX1_layAt_14 : decode cX1_layAt 14 = .ok (.iload_n 1, 1) := by decide +kernel
theorem dX1_layAt_15 : decode cX1_layAt 15 = .ok (.iconst 1, 1) := by decide +kernel
theorem dX1_layAt_16 : decode cX1_layAt 16 = .ok (.iload_n 3, 1) := by decide +kernel
theorem dX1_layAt_17 : decode cX1_layAt 17 = .ok (.invokevirtual 25, 3) := by decide +kernel
theorem dX1_layAt_20 : decode cX1_layAt 20 = .ok (.aload_n 0, 1) := by decide +kernel
theorem dX1_layAt_21 : decode cX1_layAt 21 = .ok (.getfield 21, 3) := by decide +kernel
theorem dX1_layAt_24 : decode cX1_layAt 24 = .ok (.iload_n 1, 1) := by decide +kernel
theorem dX1_layAt_25 : decode cX1_layAt 25 = .ok (.iconst 2, 1) := by decide +kernel
theorem dX1_layAt_26 : decode cX1_layAt 26 = .ok (.iload 4, 2) := by decide +kernel
theorem dX1_layAt_28 : decode cX1_layAt 28 = .ok (.invokevirtual 25, 3) := by decide +kernel
theorem dX1_layAt_31 : decode cX1_layAt 31 = .ok (.aload_n 0, 1) := by decide +kernel
theorem dX1_layAt_32 : decode cX1_layAt 32 = .ok (.getfield 21, 3) := by decide +kernel
theorem dX1_layAt_35 : decode cX1_layAt 35 = .ok (.iload_n 1, 1) := by decide +kernel
theorem dX1_layAt_36 : decode cX1_layAt 36 = .ok (.iconst 3, 1) := by decide +kernel
theorem dX1_layAt_37 : decode cX1_layAt 37 = .ok (.iload 5, 2) := by decide +kernel
theorem dX1_layAt_39 : decode cX1_layAt 39 = .ok (.invokevirtual 25, 3) := by decide +kernel
theorem dX1_layAt_42 : decode cX1_layAt 42 = .ok (.return_, 1) := by decide +kernel
theorem dX1_empty_0 : decode cX1_empty 0 = .ok (.aload_n 0, 1) := by decide +kernel
theorem dX1_empty_1 : decode cX1_empty 1 = .ok (.getfield 21, 3) := by decide +kernel
theorem dX1_empty_4 : decode cX1_empty 4 = .ok (.iload_n 1, 1) := by decide +kernel
theorem dX1_empty_5 : decode cX1_empty 5 = .ok (.iconst 0, 1) := by decide +kernel
theorem dX1_empty_6 : decode cX1_empty 6 = .ok (.iconst (-1), 1) := by decide +kernel
theorem dX1_empty_7 : decode cX1_empty 7 = .ok (.invokevirtual 25, 3) := by decide +kernel
theorem dX1_empty_10 : decode cX1_empty 10 = .ok (.return_, 1) := by decide +kernel
theorem dX1_minutesOf_0 : decode cX1_minutesOf 0 = .ok (.aload_n 0, 1) := by decide +kernel
theorem dX1_minutesOf_1 : decode cX1_minutesOf 1 = .ok (.iload_n 1, 1) := by decide +kernel
theorem dX1_minutesOf_2 : decode cX1_minutesOf 2 = .ok (.invokevirtual 79, 3) := by decide +kernel
theorem dX1_minutesOf_5 : decode cX1_minutesOf 5 = .ok (.ifCond .ne 5, 3) := by decide +kernel
theorem dX1_minutesOf_8 : decode cX1_minutesOf 8 = .ok (.iconst 0, 1) := by decide +kernel
theorem dX1_minutesOf_9 : decode cX1_minutesOf 9 = .ok (.ireturn, 1) := by decide +kernel
theorem dX1_minutesOf_10 : decode cX1_minutesOf 10 = .ok (.aload_n 0, 1) := by decide +kernel
theorem dX1_minutesOf_11 : decode cX1_minutesOf 11 = .ok (.iload_n 1, 1) := by decide +kernel
theorem dX1_minutesOf_12 : decode cX1_minutesOf 12 = .ok (.aload_n 0, 1) := by decide +kernel
theorem dX1_minutesOf_13 : decode cX1_minutesOf 13 = .ok (.getfield 21, 3) := by decide +kernel
theorem dX1_minutesOf_16 : decode cX1_minutesOf 16 = .ok (.iload_n 1, 1) := by decide +kernel
theorem dX1_minutesOf_17 : decode cX1_minutesOf 17 = .ok (.iconst 0, 1) := by decide +kernel
theorem dX1_minutesOf_18 : decode cX1_minutesOf 18 = .ok (.invokevirtual 75, 3) := by decide +kernel
theorem dX1_minutesOf_21 : decode cX1_minutesOf 21 = .ok (.aload_n 0, 1) := by decide +kernel
theorem dX1_minutesOf_22 : decode cX1_minutesOf 22 = .ok (.getfield 21, 3) := by decide +kernel
theorem dX1_minutesOf_25 : decode cX1_minutesOf 25 = .ok (.iload_n 1, 1) := by decide +kernel
theorem dX1_minutesOf_26 : decode cX1_minutesOf 26 = .ok (.iconst 2, 1) := by decide +kernel
theorem dX1_minutesOf_27 : decode cX1_minutesOf 27 = .ok (.invokevirtual 75, 3) := by decide +kernel
theorem dX1_minutesOf_30 : decode cX1_minutesOf 30 = .ok (.iconst 0, 1) := by decide +kernel
theorem dX1_minutesOf_31 : decode cX1_minutesOf 31 = .ok (.invokevirtual 82, 3) := by decide +kernel
theorem dX1_minutesOf_34 : decode cX1_minutesOf 34 = .ok (.ireturn, 1) := by decide +kernel
theorem dX1_minutesBehind_0 : decode cX1_minutesBehind 0 = .ok (.iload_n 2, 1) := by decide +kernel
theorem dX1_minutesBehind_1 : decode cX1_minutesBehind 1 = .ok (.iload_n 3, 1) := by decide +kernel
theorem dX1_minutesBehind_2 : decode cX1_minutesBehind 2 = .ok (.iload 4, 2) := by decide +kernel
theorem dX1_minutesBehind_4 : decode cX1_minutesBehind 4 = .ok (.invokestatic 86, 3) := by decide +kernel
theorem dX1_minutesBehind_7 : decode cX1_minutesBehind 7 = .ok (.ifCond .ne 5, 3) := by decide +kernel
theorem dX1_minutesBehind_10 : decode cX1_minutesBehind 10 = .ok (.iconst 0, 1) := by decide +kernel
theorem dX1_minutesBehind_11 : decode cX1_minutesBehind 11 = .ok (.ireturn, 1) := by decide +kernel
theorem dX1_minutesBehind_12 : decode cX1_minutesBehind 12 = .ok (.iload_n 2, 1) := by decide +kernel
theorem dX1_minutesBehind_13 : decode cX1_minutesBehind 13 = .ok (.aload_n 0, 1) := by decide +kernel
theorem dX1_minutesBehind_14 : decode cX1_minutesBehind 14 = .ok (.getfield 21, 3) := by decide +kernel
theorem dX1_minutesBehind_17 : decode cX1_minutesBehind 17 = .ok (.iload_n 1, 1) := by decide +kernel
theorem dX1_minutesBehind_18 : decode cX1_minutesBehind 18 = .ok (.iconst 1, 1) := by decide +kernel
theorem dX1_minutesBehind_19 : decode cX1_minutesBehind 19 = .ok (.invokevirtual 75, 3) := by decide +kernel
theorem dX1_minutesBehind_22 : decode cX1_minutesBehind 22 = .ok (.iload_n 3, 1) := by decide +kernel
theorem dX1_minutesBehind_23 : decode cX1_minutesBehind 23 = .ok (.iload 4, 2) := by decide +kernel
theorem dX1_minutesBehind_25 : decode cX1_minutesBehind 25 = .ok (.iadd, 1) := by decide +kernel
theorem dX1_minutesBehind_26 : decode cX1_minutesBehind 26 = .ok (.aload_n 0, 1) := by decide +kernel
theorem dX1_minutesBehind_27 : decode cX1_minutesBehind 27 = .ok (.getfield 51, 3) := by decide +kernel
theorem dX1_minutesBehind_30 : decode cX1_minutesBehind 30 = .ok (.iload 4, 2) := by decide +kernel
theorem dX1_minutesBehind_32 : decode cX1_minutesBehind 32 = .ok (.iadd, 1) := by decide +kernel
theorem dX1_minutesBehind_33 : decode cX1_minutesBehind 33 = .ok (.ldc 47, 2) := by decide +kernel
theorem dX1_minutesBehind_35 : decode cX1_minutesBehind 35 = .ok (.invokestatic 92, 3) := by decide +kernel
theorem dX1_minutesBehind_38 : decode cX1_minutesBehind 38 = .ok (.invokestatic 97, 3) := by decide +kernel
theorem dX1_minutesBehind_41 : decode cX1_minutesBehind 41 = .ok (.ireturn, 1) := by decide +kernel
theorem dX1_allMinutes_0 : decode cX1_allMinutes 0 = .ok (.iconst 0, 1) := by decide +kernel
theorem dX1_allMinutes_1 : decode cX1_allMinutes 1 = .ok (.istore_n 1, 1) := by decide +kernel
theorem dX1_allMinutes_2 : decode cX1_allMinutes 2 = .ok (.iconst 0, 1) := by decide +kernel
theorem dX1_allMinutes_3 : decode cX1_allMinutes 3 = .ok (.istore_n 2, 1) := by decide +kernel
theorem dX1_allMinutes_4 : decode cX1_allMinutes 4 = .ok (.iload_n 2, 1) := by decide +kernel
theorem dX1_allMinutes_5 : decode cX1_allMinutes 5 = .ok (.bipush 8, 2) := by decide +kernel
theorem dX1_allMinutes_7 : decode cX1_allMinutes 7 = .ok (.if_icmp .ge 17, 3) := by decide +kernel
theorem dX1_allMinutes_10 : decode cX1_allMinutes 10 = .ok (.iload_n 1, 1) := by decide +kernel
theorem dX1_allMinutes_11 : decode cX1_allMinutes 11 = .ok (.aload_n 0, 1) := by decide +kernel
theorem dX1_allMinutes_12 : decode cX1_allMinutes 12 = .ok (.iload_n 2, 1) := by decide +kernel
theorem dX1_allMinutes_13 : decode cX1_allMinutes 13 = .ok (.invokevirtual 100, 3) := by decide +kernel
theorem dX1_allMinutes_16 : decode cX1_allMinutes 16 = .ok (.iadd, 1) := by decide +kernel
theorem dX1_allMinutes_17 : decode cX1_allMinutes 17 = .ok (.istore_n 1, 1) := by decide +kernel
theorem dX1_allMinutes_18 : decode cX1_allMinutes 18 = .ok (.iinc 2 1, 3) := by decide +kernel
theorem dX1_allMinutes_21 : decode cX1_allMinutes 21 = .ok (.goto (-17), 3) := by decide +kernel
theorem dX1_allMinutes_24 : decode cX1_allMinutes 24 = .ok (.iload_n 1, 1) := by decide +kernel
theorem dX1_allMinutes_25 : decode cX1_allMinutes 25 = .ok (.ireturn, 1) := by decide +kernel
theorem dX1_minutesIn_0 : decode cX1_minutesIn 0 = .ok (.iconst 0, 1) := by decide +kernel
theorem dX1_minutesIn_1 : decode cX1_minutesIn 1 = .ok (.istore_n 2, 1) := by decide +kernel
theorem dX1_minutesIn_2 : decode cX1_minutesIn 2 = .ok (.iconst 0, 1) := by decide +kernel
theorem dX1_minutesIn_3 : decode cX1_minutesIn 3 = .ok (.istore_n 3, 1) := by decide +kernel
theorem dX1_minutesIn_4 : decode cX1_minutesIn 4 = .ok (.iload_n 3, 1) := by decide +kernel
theorem dX1_minutesIn_5 : decode cX1_minutesIn 5 = .ok (.bipush 8, 2) := by decide +kernel
theorem dX1_minutesIn_7 : decode cX1_minutesIn 7 = .ok (.if_icmp .ge 30, 3) := by decide +kernel
theorem dX1_minutesIn_10 : decode cX1_minutesIn 10 = .ok (.aload_n 0, 1) := by decide +kernel
theorem dX1_minutesIn_11 : decode cX1_minutesIn 11 = .ok (.getfield 21, 3) := by decide +kernel
theorem dX1_minutesIn_14 : decode cX1_minutesIn 14 = .ok (.iload_n 3, 1) := by decide +kernel
theorem dX1_minutesIn_15 : decode cX1_minutesIn 15 = .ok (.iconst 3, 1) := by decide +kernel
theorem dX1_minutesIn_16 : decode cX1_minutesIn 16 = .ok (.invokevirtual 75, 3) := by decide +kernel
theorem dX1_minutesIn_19 : decode cX1_minutesIn 19 = .ok (.iload_n 1, 1) := by decide +kernel
theorem dX1_minutesIn_20 : decode cX1_minutesIn 20 = .ok (.if_icmp .ne 11, 3) := by decide +kernel
theorem dX1_minutesIn_23 : decode cX1_minutesIn 23 = .ok (.iload_n 2, 1) := by decide +kernel
theorem dX1_minutesIn_24 : decode cX1_minutesIn 24 = .ok (.aload_n 0, 1) := by decide +kernel
theorem dX1_minutesIn_25 : decode cX1_minutesIn 25 = .ok (.iload_n 3, 1) := by decide +kernel
theorem dX1_minutesIn_26 : decode cX1_minutesIn 26 = .ok (.invokevirtual 100, 3) := by decide +kernel
theorem dX1_minutesIn_29 : decode cX1_minutesIn 29 = .ok (.iadd, 1) := by decide +kernel
theorem dX1_minutesIn_30 : decode cX1_minutesIn 30 = .ok (.istore_n 2, 1) := by decide +kernel
theorem dX1_minutesIn_31 : decode cX1_minutesIn 31 = .ok (.iinc 3 1, 3) := by decide +kernel
theorem dX1_minutesIn_34 : decode cX1_minutesIn 34 = .ok (.goto (-30), 3) := by decide +kernel
theorem dX1_minutesIn_37 : decode cX1_minutesIn 37 = .ok (.iload_n 2, 1) := by decide +kernel
theorem dX1_minutesIn_38 : decode cX1_minutesIn 38 = .ok (.ireturn, 1) := by decide +kernel
theorem dX1_lacks_0 : decode cX1_lacks 0 = .ok (.aload_n 0, 1) := by decide +kernel
theorem dX1_lacks_1 : decode cX1_lacks 1 = .ok (.getfield 44, 3) := by decide +kernel
theorem dX1_lacks_4 : decode cX1_lacks 4 = .ok (.iload_n 1, 1) := by decide +kernel
theorem dX1_lacks_5 : decode cX1_lacks 5 = .ok (.iconst 0, 1) := by decide +kernel
theorem dX1_lacks_6 : decode cX1_lacks 6 = .ok (.invokevirtual 75, 3) := by decide +kernel
theorem dX1_lacks_9 : decode cX1_lacks 9 = .ok (.aload_n 0, 1) := by decide +kernel
theorem dX1_lacks_10 : decode cX1_lacks 10 = .ok (.getfield 44, 3) := by decide +kernel
theorem dX1_lacks_13 : decode cX1_lacks 13 = .ok (.iload_n 1, 1) := by decide +kernel
theorem dX1_lacks_14 : decode cX1_lacks 14 = .ok (.iconst 3, 1) := by decide +kernel
theorem dX1_lacks_15 : decode cX1_lacks 15 = .ok (.invokevirtual 75, 3) := by decide +kernel
theorem dX1_lacks_18 : decode cX1_lacks 18 = .ok (.isub, 1) := by decide +kernel
theorem dX1_lacks_19 : decode cX1_lacks 19 = .ok (.ireturn, 1) := by decide +kernel
theorem dX1_isDone_0 : decode cX1_isDone 0 = .ok (.aload_n 0, 1) := by decide +kernel
theorem dX1_isDone_1 : decode cX1_isDone 1 = .ok (.iload_n 1, 1) := by decide +kernel
theorem dX1_isDone_2 : decode cX1_isDone 2 = .ok (.invokevirtual 104, 3) := by decide +kernel
theorem dX1_isDone_5 : decode cX1_isDone 5 = .ok (.ifCond .gt 7, 3) := by decide +kernel
theorem dX1_isDone_8 : decode cX1_isDone 8 = .ok (.iconst 1, 1) := by decide +kernel
theorem dX1_isDone_9 : decode cX1_isDone 9 = .ok (.goto 4, 3) := by decide +kernel
theorem dX1_isDone_12 : decode cX1_isDone 12 = .ok (.iconst 0, 1) := by decide +kernel
theorem dX1_isDone_13 : decode cX1_isDone 13 = .ok (.ireturn, 1) := by decide +kernel
theorem dX1_isInTime_0 : decode cX1_isInTime 0 = .ok (.aload_n 0, 1) := by decide +kernel
theorem dX1_isInTime_1 : decode cX1_isInTime 1 = .ok (.getfield 51, 3) := by decide +kernel
theorem dX1_isInTime_4 : decode cX1_isInTime 4 = .ok (.aload_n 0, 1) := by decide +kernel
theorem dX1_isInTime_5 : decode cX1_isInTime 5 = .ok (.getfield 44, 3) := by decide +kernel
theorem dX1_isInTime_8 : decode cX1_isInTime 8 = .ok (.iload_n 1, 1) := by decide +kernel
theorem dX1_isInTime_9 : decode cX1_isInTime 9 = .ok (.iconst 1, 1) := by decide +kernel
theorem dX1_isInTime_10 : decode cX1_isInTime 10 = .ok (.invokevirtual 75, 3) := by decide +kernel
theorem dX1_isInTime_13 : decode cX1_isInTime 13 = .ok (.if_icmp .gt 7, 3) := by decide +kernel
theorem dX1_isInTime_16 : decode cX1_isInTime 16 = .ok (.iconst 1, 1) := by decide +kernel
theorem dX1_isInTime_17 : decode cX1_isInTime 17 = .ok (.goto 4, 3) := by decide +kernel
theorem dX1_isInTime_20 : decode cX1_isInTime 20 = .ok (.iconst 0, 1) := by decide +kernel
theorem dX1_isInTime_21 : decode cX1_isInTime 21 = .ok (.ireturn, 1) := by decide +kernel
theorem dX1_doneWorks_0 : decode cX1_doneWorks 0 = .ok (.iconst 0, 1) := by decide +kernel
theorem dX1_doneWorks_1 : decode cX1_doneWorks 1 = .ok (.istore_n 1, 1) := by decide +kernel
theorem dX1_doneWorks_2 : decode cX1_doneWorks 2 = .ok (.iconst 0, 1) := by decide +kernel
theorem dX1_doneWorks_3 : decode cX1_doneWorks 3 = .ok (.istore_n 2, 1) := by decide +kernel
theorem dX1_doneWorks_4 : decode cX1_doneWorks 4 = .ok (.iload_n 2, 1) := by decide +kernel
theorem dX1_doneWorks_5 : decode cX1_doneWorks 5 = .ok (.bipush 6, 2) := by decide +kernel
theorem dX1_doneWorks_7 : decode cX1_doneWorks 7 = .ok (.if_icmp .ge 23, 3) := by decide +kernel
theorem dX1_doneWorks_10 : decode cX1_doneWorks 10 = .ok (.aload_n 0, 1) := by decide +kernel
theorem dX1_doneWorks_11 : decode cX1_doneWorks 11 = .ok (.iload_n 2, 1) := by decide +kernel
theorem dX1_doneWorks_12 : decode cX1_doneWorks 12 = .ok (.invokevirtual 107, 3) := by decide +kernel
theorem dX1_doneWorks_15 : decode cX1_doneWorks 15 = .ok (.ifCond .eq 9, 3) := by decide +kernel
theorem dX1_doneWorks_18 : decode cX1_doneWorks 18 = .ok (.iload_n 1, 1) := by decide +kernel
theorem dX1_doneWorks_19 : decode cX1_doneWorks 19 = .ok (.iconst 1, 1) := by decide +kernel
theorem dX1_doneWorks_20 : decode cX1_doneWorks 20 = .ok (.iload_n 2, 1) := by decide +kernel
theorem dX1_doneWorks_21 : decode cX1_doneWorks 21 = .ok (.ishl, 1) := by decide +kernel
theorem dX1_doneWorks_22 : decode cX1_doneWorks 22 = .ok (.ior, 1) := by decide +kernel
theorem dX1_doneWorks_23 : decode cX1_doneWorks 23 = .ok (.istore_n 1, 1) := by decide +kernel
theorem dX1_doneWorks_24 : decode cX1_doneWorks 24 = .ok (.iinc 2 1, 3) := by decide +kernel
theorem dX1_doneWorks_27 : decode cX1_doneWorks 27 = .ok (.goto (-23), 3) := by decide +kernel
theorem dX1_doneWorks_30 : decode cX1_doneWorks 30 = .ok (.iload_n 1, 1) := by decide +kernel
theorem dX1_doneWorks_31 : decode cX1_doneWorks 31 = .ok (.ireturn, 1) := by decide +kernel
theorem dX1_spendOn_0 : decode cX1_spendOn 0 = .ok (.aload_n 0, 1) := by decide +kernel
theorem dX1_spendOn_1 : decode cX1_spendOn 1 = .ok (.getfield 44, 3) := by decide +kernel
theorem dX1_spendOn_4 : decode cX1_spendOn 4 = .ok (.iload_n 2, 1) := by decide +kernel
theorem dX1_spendOn_5 : decode cX1_spendOn 5 = .ok (.iconst 3, 1) := by decide +kernel
theorem dX1_spendOn_6 : decode cX1_spendOn 6 = .ok (.invokevirtual 75, 3) := by decide +kernel
theorem dX1_spendOn_9 : decode cX1_spendOn 9 = .ok (.aload_n 0, 1) := by decide +kernel
theorem dX1_spendOn_10 : decode cX1_spendOn 10 = .ok (.iload_n 1, 1) := by decide +kernel
theorem dX1_spendOn_11 : decode cX1_spendOn 11 = .ok (.invokevirtual 100, 3) := by decide +kernel
theorem dX1_spendOn_14 : decode cX1_spendOn 14 = .ok (.iadd, 1) := by decide +kernel
theorem dX1_spendOn_15 : decode cX1_spendOn 15 = .ok (.istore_n 3, 1) := by decide +kernel
theorem dX1_spendOn_16 : decode cX1_spendOn 16 = .ok (.sipush (-9999), 3) := by decide +kernel
theorem dX1_spendOn_19 : decode cX1_spendOn 19 = .ok (.sipush 9999, 3) := by decide +kernel
theorem dX1_spendOn_22 : decode cX1_spendOn 22 = .ok (.iload_n 3, 1) := by decide +kernel
theorem dX1_spendOn_23 : decode cX1_spendOn 23 = .ok (.invokestatic 92, 3) := by decide +kernel
theorem dX1_spendOn_26 : decode cX1_spendOn 26 = .ok (.invokestatic 110, 3) := by decide +kernel
theorem dX1_spendOn_29 : decode cX1_spendOn 29 = .ok (.istore 4, 2) := by decide +kernel
theorem dX1_spendOn_31 : decode cX1_spendOn 31 = .ok (.aload_n 0, 1) := by decide +kernel
theorem dX1_spendOn_32 : decode cX1_spendOn 32 = .ok (.getfield 44, 3) := by decide +kernel
theorem dX1_spendOn_35 : decode cX1_spendOn 35 = .ok (.iload_n 2, 1) := by decide +kernel
theorem dX1_spendOn_36 : decode cX1_spendOn 36 = .ok (.iconst 3, 1) := by decide +kernel
theorem dX1_spendOn_37 : decode cX1_spendOn 37 = .ok (.iload 4, 2) := by decide +kernel
theorem dX1_spendOn_39 : decode cX1_spendOn 39 = .ok (.invokevirtual 25, 3) := by decide +kernel
theorem dX1_spendOn_42 : decode cX1_spendOn 42 = .ok (.aload_n 0, 1) := by decide +kernel
theorem dX1_spendOn_43 : decode cX1_spendOn 43 = .ok (.iload_n 1, 1) := by decide +kernel
theorem dX1_spendOn_44 : decode cX1_spendOn 44 = .ok (.invokevirtual 113, 3) := by decide +kernel
theorem dX1_spendOn_47 : decode cX1_spendOn 47 = .ok (.iload 4, 2) := by decide +kernel
theorem dX1_spendOn_49 : decode cX1_spendOn 49 = .ok (.ireturn, 1) := by decide +kernel
theorem dX1_daysGoBy_0 : decode cX1_daysGoBy 0 = .ok (.iconst 0, 1) := by decide +kernel
theorem dX1_daysGoBy_1 : decode cX1_daysGoBy 1 = .ok (.istore_n 2, 1) := by decide +kernel
theorem dX1_daysGoBy_2 : decode cX1_daysGoBy 2 = .ok (.iconst 0, 1) := by decide +kernel
theorem dX1_daysGoBy_3 : decode cX1_daysGoBy 3 = .ok (.istore_n 3, 1) := by decide +kernel
theorem dX1_daysGoBy_4 : decode cX1_daysGoBy 4 = .ok (.iload_n 3, 1) := by decide +kernel
theorem dX1_daysGoBy_5 : decode cX1_daysGoBy 5 = .ok (.iload_n 1, 1) := by decide +kernel
theorem dX1_daysGoBy_6 : decode cX1_daysGoBy 6 = .ok (.if_icmp .ge 55, 3) := by decide +kernel
theorem dX1_daysGoBy_9 : decode cX1_daysGoBy 9 = .ok (.aload_n 0, 1) := by decide +kernel
theorem dX1_daysGoBy_10 : decode cX1_daysGoBy 10 = .ok (.invokevirtual 117, 3) := by decide +kernel
theorem dX1_daysGoBy_13 : decode cX1_daysGoBy 13 = .ok (.istore 4, 2) := by decide +kernel
theorem dX1_daysGoBy_15 : decode cX1_daysGoBy 15 = .ok (.aload_n 0, 1) := by decide +kernel
theorem dX1_daysGoBy_16 : decode cX1_daysGoBy 16 = .ok (.aload_n 0, 1) := by decide +kernel
theorem dX1_daysGoBy_17 : decode cX1_daysGoBy 17 = .ok (.getfield 55, 3) := by decide +kernel
theorem dX1_daysGoBy_20 : decode cX1_daysGoBy 20 = .ok (.iload 4, 2) := by decide +kernel
theorem dX1_daysGoBy_22 : decode cX1_daysGoBy 22 = .ok (.iadd, 1) := by decide +kernel
theorem dX1_daysGoBy_23 : decode cX1_daysGoBy 23 = .ok (.ldc 47, 2) := by decide +kernel
theorem dX1_daysGoBy_25 : decode cX1_daysGoBy 25 = .ok (.invokestatic 92, 3) := by decide +kernel
theorem dX1_daysGoBy_28 : decode cX1_daysGoBy 28 = .ok (.putfield 55, 3) := by decide +kernel
theorem dX1_daysGoBy_31 : decode cX1_daysGoBy 31 = .ok (.iload_n 2, 1) := by decide +kernel
theorem dX1_daysGoBy_32 : decode cX1_daysGoBy 32 = .ok (.iload 4, 2) := by decide +kernel
theorem dX1_daysGoBy_34 : decode cX1_daysGoBy 34 = .ok (.iadd, 1) := by decide +kernel
theorem dX1_daysGoBy_35 : decode cX1_daysGoBy 35 = .ok (.istore_n 2, 1) := by decide +kernel
theorem dX1_daysGoBy_36 : decode cX1_daysGoBy 36 = .ok (.aload_n 0, 1) := by decide +kernel
theorem dX1_daysGoBy_37 : decode cX1_daysGoBy 37 = .ok (.aload_n 0, 1) := by decide +kernel
theorem dX1_daysGoBy_38 : decode cX1_daysGoBy 38 = .ok (.getfield 51, 3) := by decide +kernel
theorem dX1_daysGoBy_41 : decode cX1_daysGoBy 41 = .ok (.iconst 1, 1) := by decide +kernel
theorem dX1_daysGoBy_42 : decode cX1_daysGoBy 42 = .ok (.iadd, 1) := by decide +kernel
theorem dX1_daysGoBy_43 : decode cX1_daysGoBy 43 = .ok (.ldc 47, 2) := by decide +kernel
theorem dX1_daysGoBy_45 : decode cX1_daysGoBy 45 = .ok (.invokestatic 92, 3) := by decide +kernel
theorem dX1_daysGoBy_48 : decode cX1_daysGoBy 48 = .ok (.putfield 51, 3) := by decide +kernel
theorem dX1_daysGoBy_51 : decode cX1_daysGoBy 51 = .ok (.aload_n 0, 1) := by decide +kernel
theorem dX1_daysGoBy_52 : decode cX1_daysGoBy 52 = .ok (.invokevirtual 121, 3) := by decide +kernel
theorem dX1_daysGoBy_55 : decode cX1_daysGoBy 55 = .ok (.iinc 3 1, 3) := by decide +kernel
theorem dX1_daysGoBy_58 : decode cX1_daysGoBy 58 = .ok (.goto (-54), 3) := by decide +kernel
theorem dX1_daysGoBy_61 : decode cX1_daysGoBy 61 = .ok (.iload_n 2, 1) := by decide +kernel
theorem dX1_daysGoBy_62 : decode cX1_daysGoBy 62 = .ok (.ireturn, 1) := by decide +kernel
theorem dX1_eggsAge_0 : decode cX1_eggsAge 0 = .ok (.iconst 0, 1) := by decide +kernel
theorem dX1_eggsAge_1 : decode cX1_eggsAge 1 = .ok (.istore_n 1, 1) := by decide +kernel
theorem dX1_eggsAge_2 : decode cX1_eggsAge 2 = .ok (.iconst 0, 1) := by decide +kernel
theorem dX1_eggsAge_3 : decode cX1_eggsAge 3 = .ok (.istore_n 2, 1) := by decide +kernel
theorem dX1_eggsAge_4 : decode cX1_eggsAge 4 = .ok (.iload_n 2, 1) := by decide +kernel
theorem dX1_eggsAge_5 : decode cX1_eggsAge 5 = .ok (.bipush 8, 2) := by decide +kernel
theorem dX1_eggsAge_7 : decode cX1_eggsAge 7 = .ok (.if_icmp .ge 66, 3) := by decide +kernel
theorem dX1_eggsAge_10 : decode cX1_eggsAge 10 = .ok (.aload_n 0, 1) := by decide +kernel
theorem dX1_eggsAge_11 : decode cX1_eggsAge 11 = .ok (.iload_n 2, 1) := by decide +kernel
theorem dX1_eggsAge_12 : decode cX1_eggsAge 12 = .ok (.invokevirtual 79, 3) := by decide +kernel
theorem dX1_eggsAge_15 : decode cX1_eggsAge 15 = .ok (.ifCond .ne 6, 3) := by decide +kernel
theorem dX1_eggsAge_18 : decode cX1_eggsAge 18 = .ok (.goto 49, 3) := by decide +kernel
theorem dX1_eggsAge_21 : decode cX1_eggsAge 21 = .ok (.aload_n 0, 1) := by decide +kernel
theorem dX1_eggsAge_22 : decode cX1_eggsAge 22 = .ok (.getfield 21, 3) := by decide +kernel
theorem dX1_eggsAge_25 : decode cX1_eggsAge 25 = .ok (.iload_n 2, 1) := by decide +kernel
theorem dX1_eggsAge_26 : decode cX1_eggsAge 26 = .ok (.iconst 2, 1) := by decide +kernel
theorem dX1_eggsAge_27 : decode cX1_eggsAge 27 = .ok (.invokevirtual 75, 3) := by decide +kernel
theorem dX1_eggsAge_30 : decode cX1_eggsAge 30 = .ok (.iconst 1, 1) := by decide +kernel
theorem dX1_eggsAge_31 : decode cX1_eggsAge 31 = .ok (.iadd, 1) := by decide +kernel
theorem dX1_eggsAge_32 : decode cX1_eggsAge 32 = .ok (.istore_n 3, 1) := by decide +kernel
theorem dX1_eggsAge_33 : decode cX1_eggsAge 33 = .ok (.aload_n 0, 1) := by decide +kernel
theorem dX1_eggsAge_34 : decode cX1_eggsAge 34 = .ok (.getfield 21, 3) := by decide +kernel
theorem dX1_eggsAge_37 : decode cX1_eggsAge 37 = .ok (.iload_n 2, 1) := by decide +kernel
theorem dX1_eggsAge_38 : decode cX1_eggsAge 38 = .ok (.iconst 2, 1) := by decide +kernel
theorem dX1_eggsAge_39 : decode cX1_eggsAge 39 = .ok (.iload_n 3, 1) := by decide +kernel
theorem dX1_eggsAge_40 : decode cX1_eggsAge 40 = .ok (.invokevirtual 25, 3) := by decide +kernel
theorem dX1_eggsAge_43 : decode cX1_eggsAge 43 = .ok (.iload_n 3, 1) := by decide +kernel
theorem dX1_eggsAge_44 : decode cX1_eggsAge 44 = .ok (.aload_n 0, 1) := by decide +kernel
theorem dX1_eggsAge_45 : decode cX1_eggsAge 45 = .ok (.getfield 21, 3) := by decide +kernel
theorem dX1_eggsAge_48 : decode cX1_eggsAge 48 = .ok (.iload_n 2, 1) := by decide +kernel
theorem dX1_eggsAge_49 : decode cX1_eggsAge 49 = .ok (.iconst 0, 1) := by decide +kernel
theorem dX1_eggsAge_50 : decode cX1_eggsAge 50 = .ok (.invokevirtual 75, 3) := by decide +kernel
theorem dX1_eggsAge_53 : decode cX1_eggsAge 53 = .ok (.invokestatic 124, 3) := by decide +kernel
theorem dX1_eggsAge_56 : decode cX1_eggsAge 56 = .ok (.if_icmp .le 11, 3) := by decide +kernel
theorem dX1_eggsAge_59 : decode cX1_eggsAge 59 = .ok (.aload_n 0, 1) := by decide +kernel
theorem dX1_eggsAge_60 : decode cX1_eggsAge 60 = .ok (.iload_n 2, 1) := by decide +kernel
theorem dX1_eggsAge_61 : decode cX1_eggsAge 61 = .ok (.invokevirtual 113, 3) := by decide +kernel
theorem dX1_eggsAge_64 : decode cX1_eggsAge 64 = .ok (.iinc 1 1, 3) := by decide +kernel
theorem dX1_eggsAge_67 : decode cX1_eggsAge 67 = .ok (.iinc 2 1, 3) := by decide +kernel
theorem dX1_eggsAge_70 : decode cX1_eggsAge 70 = .ok (.goto (-66), 3) := by decide +kernel
theorem dX1_eggsAge_73 : decode cX1_eggsAge 73 = .ok (.iload_n 1, 1) := by decide +kernel
theorem dX1_eggsAge_74 : decode cX1_eggsAge 74 = .ok (.ireturn, 1) := by decide +kernel
theorem dX1_hensLay_0 : decode cX1_hensLay 0 = .ok (.iconst 0, 1) := by decide +kernel
theorem dX1_hensLay_1 : decode cX1_hensLay 1 = .ok (.istore_n 1, 1) := by decide +kernel
theorem dX1_hensLay_2 : decode cX1_hensLay 2 = .ok (.iload_n 1, 1) := by decide +kernel
theorem dX1_hensLay_3 : decode cX1_hensLay 3 = .ok (.iconst 4, 1) := by decide +kernel
theorem dX1_hensLay_4 : decode cX1_hensLay 4 = .ok (.if_icmp .ge 77, 3) := by decide +kernel
theorem dX1_hensLay_7 : decode cX1_hensLay 7 = .ok (.aload_n 0, 1) := by decide +kernel
theorem dX1_hensLay_8 : decode cX1_hensLay 8 = .ok (.getfield 35, 3) := by decide +kernel
theorem dX1_hensLay_11 : decode cX1_hensLay 11 = .ok (.iload_n 1, 1) := by decide +kernel
theorem dX1_hensLay_12 : decode cX1_hensLay 12 = .ok (.iconst 0, 1) := by decide +kernel
theorem dX1_hensLay_13 : decode cX1_hensLay 13 = .ok (.invokevirtual 75, 3) := by decide +kernel
theorem dX1_hensLay_16 : decode cX1_hensLay 16 = .ok (.istore_n 2, 1) := by decide +kernel
theorem dX1_hensLay_17 : decode cX1_hensLay 17 = .ok (.iload_n 2, 1) := by decide +kernel
theorem dX1_hensLay_18 : decode cX1_hensLay 18 = .ok (.ifCond .le 57, 3) := by decide +kernel
theorem dX1_hensLay_21 : decode cX1_hensLay 21 = .ok (.aload_n 0, 1) := by decide +kernel
theorem dX1_hensLay_22 : decode cX1_hensLay 22 = .ok (.getfield 51, 3) := by decide +kernel
theorem dX1_hensLay_25 : decode cX1_hensLay 25 = .ok (.iload_n 2, 1) := by decide +kernel
theorem dX1_hensLay_26 : decode cX1_hensLay 26 = .ok (.irem, 1) := by decide +kernel
theorem dX1_hensLay_27 : decode cX1_hensLay 27 = .ok (.ifCond .eq 6, 3) := by decide +kernel
theorem dX1_hensLay_30 : decode cX1_hensLay 30 = .ok (.goto 45, 3) := by decide +kernel
theorem dX1_hensLay_33 : decode cX1_hensLay 33 = .ok (.aload_n 0, 1) := by decide +kernel
theorem dX1_hensLay_34 : decode cX1_hensLay 34 = .ok (.invokevirtual 127, 3) := by decide +kernel
theorem dX1_hensLay_37 : decode cX1_hensLay 37 = .ok (.istore_n 3, 1) := by decide +kernel
theorem dX1_hensLay_38 : decode cX1_hensLay 38 = .ok (.iload_n 3, 1) := by decide +kernel
theorem dX1_hensLay_39 : decode cX1_hensLay 39 = .ok (.ifCond .lt 36, 3) := by decide +kernel
theorem dX1_hensLay_42 : decode cX1_hensLay 42 = .ok (.aload_n 0, 1) := by decide +kernel
theorem dX1_hensLay_43 : decode cX1_hensLay 43 = .ok (.iload_n 3, 1) := by decide +kernel
theorem dX1_hensLay_44 : decode cX1_hensLay 44 = .ok (.aload_n 0, 1) := by decide +kernel
theorem dX1_hensLay_45 : decode cX1_hensLay 45 = .ok (.getfield 35, 3) := by decide +kernel
theorem dX1_hensLay_48 : decode cX1_hensLay 48 = .ok (.iload_n 1, 1) := by decide +kernel
theorem dX1_hensLay_49 : decode cX1_hensLay 49 = .ok (.iconst 1, 1) := by decide +kernel
theorem dX1_hensLay_50 : decode cX1_hensLay 50 = .ok (.invokevirtual 75, 3) := by decide +kernel
theorem dX1_hensLay_53 : decode cX1_hensLay 53 = .ok (.aload_n 0, 1) := by decide +kernel
theorem dX1_hensLay_54 : decode cX1_hensLay 54 = .ok (.getfield 35, 3) := by decide +kernel
theorem dX1_hensLay_57 : decode cX1_hensLay 57 = .ok (.iload_n 1, 1) := by decide +kernel
theorem dX1_hensLay_58 : decode cX1_hensLay 58 = .ok (.iconst 2, 1) := by decide +kernel
theorem dX1_hensLay_59 : decode cX1_hensLay 59 = .ok (.invokevirtual 75, 3) := by decide +kernel
theorem dX1_hensLay_62 : decode cX1_hensLay 62 = .ok (.iconst 0, 1) := by decide +kernel
theorem dX1_hensLay_63 : decode cX1_hensLay 63 = .ok (.aload_n 0, 1) := by decide +kernel
theorem dX1_hensLay_64 : decode cX1_hensLay 64 = .ok (.getfield 35, 3) := by decide +kernel
theorem dX1_hensLay_67 : decode cX1_hensLay 67 = .ok (.iload_n 1, 1) := by decide +kernel
theorem dX1_hensLay_68 : decode cX1_hensLay 68 = .ok (.iconst 3, 1) := by decide +kernel
theorem dX1_hensLay_69 : decode cX1_hensLay 69 = .ok (.invokevirtual 75, 3) := by decide +kernel
theorem dX1_hensLay_72 : decode cX1_hensLay 72 = .ok (.invokevirtual 130, 3) := by decide +kernel
theorem dX1_hensLay_75 : decode cX1_hensLay 75 = .ok (.iinc 1 1, 3) := by decide +kernel
theorem dX1_hensLay_78 : decode cX1_hensLay 78 = .ok (.goto (-76), 3) := by decide +kernel
theorem dX1_hensLay_81 : decode cX1_hensLay 81 = .ok (.return_, 1) := by decide +kernel
theorem dX1_foxComes_0 : decode cX1_foxComes 0 = .ok (.aload_n 0, 1) := by decide +kernel
theorem dX1_foxComes_1 : decode cX1_foxComes 1 = .ok (.aload_n 0, 1) := by decide +kernel
theorem dX1_foxComes_2 : decode cX1_foxComes 2 = .ok (.getfield 58, 3) := by decide +kernel
theorem dX1_foxComes_5 : decode cX1_foxComes 5 = .ok (.ldc 134, 2) := by decide +kernel
theorem dX1_foxComes_7 : decode cX1_foxComes 7 = .ok (.imul, 1) := by decide +kernel
theorem dX1_foxComes_8 : decode cX1_foxComes 8 = .ok (.sipush 12345, 3) := by decide +kernel
theorem dX1_foxComes_11 : decode cX1_foxComes 11 = .ok (.iadd, 1) := by decide +kernel
theorem dX1_foxComes_12 : decode cX1_foxComes 12 = .ok (.putfield 58, 3) := by decide +kernel
theorem dX1_foxComes_15 : decode cX1_foxComes 15 = .ok (.aload_n 0, 1) := by decide +kernel
theorem dX1_foxComes_16 : decode cX1_foxComes 16 = .ok (.getfield 58, 3) := by decide +kernel
theorem dX1_foxComes_19 : decode cX1_foxComes 19 = .ok (.bipush 8, 2) := by decide +kernel
theorem dX1_foxComes_21 : decode cX1_foxComes 21 = .ok (.iushr, 1) := by decide +kernel
theorem dX1_foxComes_22 : decode cX1_foxComes 22 = .ok (.iconst 4, 1) := by decide +kernel
theorem dX1_foxComes_23 : decode cX1_foxComes 23 = .ok (.irem, 1) := by decide +kernel
theorem dX1_foxComes_24 : decode cX1_foxComes 24 = .ok (.istore_n 1, 1) := by decide +kernel
theorem dX1_foxComes_25 : decode cX1_foxComes 25 = .ok (.iconst 0, 1) := by decide +kernel
theorem dX1_foxComes_26 : decode cX1_foxComes 26 = .ok (.istore_n 2, 1) := by decide +kernel
theorem dX1_foxComes_27 : decode cX1_foxComes 27 = .ok (.iconst 0, 1) := by decide +kernel
theorem dX1_foxComes_28 : decode cX1_foxComes 28 = .ok (.istore_n 3, 1) := by decide +kernel
theorem dX1_foxComes_29 : decode cX1_foxComes 29 = .ok (.iload_n 3, 1) := by decide +kernel
theorem dX1_foxComes_30 : decode cX1_foxComes 30 = .ok (.bipush 8, 2) := by decide +kernel
theorem dX1_foxComes_32 : decode cX1_foxComes 32 = .ok (.if_icmp .ge 38, 3) := by decide +kernel
theorem dX1_foxComes_35 : decode cX1_foxComes 35 = .ok (.aload_n 0, 1) := by decide +kernel
theorem dX1_foxComes_36 : decode cX1_foxComes 36 = .ok (.iload_n 3, 1) := by decide +kernel
theorem dX1_foxComes_37 : decode cX1_foxComes 37 = .ok (.invokevirtual 79, 3) := by decide +kernel
theorem dX1_foxComes_40 : decode cX1_foxComes 40 = .ok (.ifCond .eq 24, 3) := by decide +kernel
theorem dX1_foxComes_43 : decode cX1_foxComes 43 = .ok (.aload_n 0, 1) := by decide +kernel
theorem dX1_foxComes_44 : decode cX1_foxComes 44 = .ok (.getfield 21, 3) := by decide +kernel
theorem dX1_foxComes_47 : decode cX1_foxComes 47 = .ok (.iload_n 3, 1) := by decide +kernel
theorem dX1_foxComes_48 : decode cX1_foxComes 48 = .ok (.iconst 3, 1) := by decide +kernel
theorem dX1_foxComes_49 : decode cX1_foxComes 49 = .ok (.invokevirtual 75, 3) := by decide +kernel
theorem dX1_foxComes_52 : decode cX1_foxComes 52 = .ok (.iload_n 1, 1) := by decide +kernel
theorem dX1_foxComes_53 : decode cX1_foxComes 53 = .ok (.if_icmp .ne 11, 3) := by decide +kernel
theorem dX1_foxComes_56 : decode cX1_foxComes 56 = .ok (.aload_n 0, 1) := by decide +kernel
theorem dX1_foxComes_57 : decode cX1_foxComes 57 = .ok (.iload_n 3, 1) := by decide +kernel
theorem dX1_foxComes_58 : decode cX1_foxComes 58 = .ok (.invokevirtual 113, 3) := by decide +kernel
theorem dX1_foxComes_61 : decode cX1_foxComes 61 = .ok (.iinc 2 1, 3) := by decide +kernel
theorem dX1_foxComes_64 : decode cX1_foxComes 64 = .ok (.iinc 3 1, 3) := by decide +kernel
theorem dX1_foxComes_67 : decode cX1_foxComes 67 = .ok (.goto (-38), 3) := by decide +kernel
theorem dX1_foxComes_70 : decode cX1_foxComes 70 = .ok (.iload_n 2, 1) := by decide +kernel
theorem dX1_foxComes_71 : decode cX1_foxComes 71 = .ok (.ireturn, 1) := by decide +kernel
theorem dX1_spotAt_0 : decode cX1_spotAt 0 = .ok (.iload_n 1, 1) := by decide +kernel
theorem dX1_spotAt_1 : decode cX1_spotAt 1 = .ok (.ifCond .lt 21, 3) := by decide +kernel
theorem dX1_spotAt_4 : decode cX1_spotAt 4 = .ok (.iload_n 1, 1) := by decide +kernel
theorem dX1_spotAt_5 : decode cX1_spotAt 5 = .ok (.aload_n 0, 1) := by decide +kernel
theorem dX1_spotAt_6 : decode cX1_spotAt 6 = .ok (.getfield 48, 3) := by decide +kernel
theorem dX1_spotAt_9 : decode cX1_spotAt 9 = .ok (.arraylength, 1) := by decide +kernel
theorem dX1_spotAt_10 : decode cX1_spotAt 10 = .ok (.if_icmp .ge 12, 3) := by decide +kernel
theorem dX1_spotAt_13 : decode cX1_spotAt 13 = .ok (.aload_n 0, 1) := by decide +kernel
theorem dX1_spotAt_14 : decode cX1_spotAt 14 = .ok (.getfield 48, 3) := by decide +kernel
theorem dX1_spotAt_17 : decode cX1_spotAt 17 = .ok (.iload_n 1, 1) := by decide +kernel
theorem dX1_spotAt_18 : decode cX1_spotAt 18 = .ok (.iaload, 1) := by decide +kernel
theorem dX1_spotAt_19 : decode cX1_spotAt 19 = .ok (.goto 4, 3) := by decide +kernel
theorem dX1_spotAt_22 : decode cX1_spotAt 22 = .ok (.iconst (-1), 1) := by decide +kernel
theorem dX1_spotAt_23 : decode cX1_spotAt 23 = .ok (.ireturn, 1) := by decide +kernel
theorem dX1_setSpot_0 : decode cX1_setSpot 0 = .ok (.iload_n 1, 1) := by decide +kernel
theorem dX1_setSpot_1 : decode cX1_setSpot 1 = .ok (.ifCond .lt 19, 3) := by decide +kernel
theorem dX1_setSpot_4 : decode cX1_setSpot 4 = .ok (.iload_n 1, 1) := by decide +kernel
theorem dX1_setSpot_5 : decode cX1_setSpot 5 = .ok (.aload_n 0, 1) := by decide +kernel
theorem dX1_setSpot_6 : decode cX1_setSpot 6 = .ok (.getfield 48, 3) := by decide +kernel
theorem dX1_setSpot_9 : decode cX1_setSpot 9 = .ok (.arraylength, 1) := by decide +kernel
theorem dX1_setSpot_10 : decode cX1_setSpot 10 = .ok (.if_icmp .ge 10, 3) := by decide +kernel
theorem dX1_setSpot_13 : decode cX1_setSpot 13 = .ok (.aload_n 0, 1) := by decide +kernel
theorem dX1_setSpot_14 : decode cX1_setSpot 14 = .ok (.getfield 48, 3) := by decide +kernel
theorem dX1_setSpot_17 : decode cX1_setSpot 17 = .ok (.iload_n 1, 1) := by decide +kernel
theorem dX1_setSpot_18 : decode cX1_setSpot 18 = .ok (.iload_n 2, 1) := by decide +kernel
theorem dX1_setSpot_19 : decode cX1_setSpot 19 = .ok (.iastore, 1) := by decide +kernel
theorem dX1_setSpot_20 : decode cX1_setSpot 20 = .ok (.return_, 1) := by decide +kernel
theorem dX1_heldSpots_0 : decode cX1_heldSpots 0 = .ok (.iconst 0, 1) := by decide +kernel
theorem dX1_heldSpots_1 : decode cX1_heldSpots 1 = .ok (.istore_n 1, 1) := by decide +kernel
theorem dX1_heldSpots_2 : decode cX1_heldSpots 2 = .ok (.iconst 0, 1) := by decide +kernel
theorem dX1_heldSpots_3 : decode cX1_heldSpots 3 = .ok (.istore_n 2, 1) := by decide +kernel
theorem dX1_heldSpots_4 : decode cX1_heldSpots 4 = .ok (.iload_n 2, 1) := by decide +kernel
theorem dX1_heldSpots_5 : decode cX1_heldSpots 5 = .ok (.bipush 10, 2) := by decide +kernel
theorem dX1_heldSpots_7 : decode cX1_heldSpots 7 = .ok (.if_icmp .ge 20, 3) := by decide +kernel
theorem dX1_heldSpots_10 : decode cX1_heldSpots 10 = .ok (.aload_n 0, 1) := by decide +kernel
theorem dX1_heldSpots_11 : decode cX1_heldSpots 11 = .ok (.iload_n 2, 1) := by decide +kernel
theorem dX1_heldSpots_12 : decode cX1_heldSpots 12 = .ok (.invokevirtual 135, 3) := by decide +kernel
theorem dX1_heldSpots_15 : decode cX1_heldSpots 15 = .ok (.ifCond .lt 6, 3) := by decide +kernel
theorem dX1_heldSpots_18 : decode cX1_heldSpots 18 = .ok (.iinc 1 1, 3) := by decide +kernel
theorem dX1_heldSpots_21 : decode cX1_heldSpots 21 = .ok (.iinc 2 1, 3) := by decide +kernel
theorem dX1_heldSpots_24 : decode cX1_heldSpots 24 = .ok (.goto (-20), 3) := by decide +kernel
theorem dX1_heldSpots_27 : decode cX1_heldSpots 27 = .ok (.iload_n 1, 1) := by decide +kernel
theorem dX1_heldSpots_28 : decode cX1_heldSpots 28 = .ok (.ireturn, 1) := by decide +kernel
theorem dX2_minutes_0 : decode cX2_minutes 0 = .ok (.iconst 0, 1) := by decide +kernel
theorem dX2_minutes_1 : decode cX2_minutes 1 = .ok (.iload_n 1, 1) := by decide +kernel
theorem dX2_minutes_2 : decode cX2_minutes 2 = .ok (.iload_n 2, 1) := by decide +kernel
theorem dX2_minutes_3 : decode cX2_minutes 3 = .ok (.isub, 1) := by decide +kernel
theorem dX2_minutes_4 : decode cX2_minutes 4 = .ok (.invokestatic 7, 3) := by decide +kernel
theorem dX2_minutes_7 : decode cX2_minutes 7 = .ok (.istore 4, 2) := by decide +kernel
theorem dX2_minutes_9 : decode cX2_minutes 9 = .ok (.iload_n 3, 1) := by decide +kernel
theorem dX2_minutes_10 : decode cX2_minutes 10 = .ok (.iconst 4, 1) := by decide +kernel
theorem dX2_minutes_11 : decode cX2_minutes 11 = .ok (.irem, 1) := by decide +kernel
theorem dX2_minutes_12 : decode cX2_minutes 12 = .ok (.ifCond .ne 11, 3) := by decide +kernel
theorem dX2_minutes_15 : decode cX2_minutes 15 = .ok (.iload 4, 2) := by decide +kernel
theorem dX2_minutes_17 : decode cX2_minutes 17 = .ok (.bipush 10, 2) := by decide +kernel
theorem dX2_minutes_19 : decode cX2_minutes 19 = .ok (.iadd, 1) := by decide +kernel
theorem dX2_minutes_20 : decode cX2_minutes 20 = .ok (.goto 5, 3) := by decide +kernel
theorem dX2_minutes_23 : decode cX2_minutes 23 = .ok (.iload 4, 2) := by decide +kernel
theorem dX2_minutes_25 : decode cX2_minutes 25 = .ok (.istore 5, 2) := by decide +kernel
theorem dX2_minutes_27 : decode cX2_minutes 27 = .ok (.iload 4, 2) := by decide +kernel
theorem dX2_minutes_29 : decode cX2_minutes 29 = .ok (.iconst 2, 1) := by decide +kernel
theorem dX2_minutes_30 : decode cX2_minutes 30 = .ok (.iload_n 2, 1) := by decide +kernel
theorem dX2_minutes_31 : decode cX2_minutes 31 = .ok (.imul, 1) := by decide +kernel
theorem dX2_minutes_32 : decode cX2_minutes 32 = .ok (.bipush 30, 2) := by decide +kernel
theorem dX2_minutes_34 : decode cX2_minutes 34 = .ok (.invokestatic 13, 3) := by decide +kernel
theorem dX2_minutes_37 : decode cX2_minutes 37 = .ok (.iadd, 1) := by decide +kernel
theorem dX2_minutes_38 : decode cX2_minutes 38 = .ok (.bipush 15, 2) := by decide +kernel
theorem dX2_minutes_40 : decode cX2_minutes 40 = .ok (.isub, 1) := by decide +kernel
theorem dX2_minutes_41 : decode cX2_minutes 41 = .ok (.istore 6, 2) := by decide +kernel
theorem dX2_minutes_43 : decode cX2_minutes 43 = .ok (.iload_n 0, 1) := by decide +kernel
theorem dX2_minutes_44 : decode cX2_minutes 44 = .ok (.tableswitch 66 1 6 #[40, 43, 49, 52, 56, 61], 40) := by decide +kernel
theorem dX2_minutes_84 : decode cX2_minutes 84 = .ok (.iload 5, 2) := by decide +kernel
theorem dX2_minutes_86 : decode cX2_minutes 86 = .ok (.ireturn, 1) := by decide +kernel
theorem dX2_minutes_87 : decode cX2_minutes 87 = .ok (.iload 6, 2) := by decide +kernel
theorem dX2_minutes_89 : decode cX2_minutes 89 = .ok (.bipush 15, 2) := by decide +kernel
theorem dX2_minutes_91 : decode cX2_minutes 91 = .ok (.iadd, 1) := by decide +kernel
theorem dX2_minutes_92 : decode cX2_minutes 92 = .ok (.ireturn, 1) := by decide +kernel
theorem dX2_minutes_93 : decode cX2_minutes 93 = .ok (.iload 6, 2) := by decide +kernel
theorem dX2_minutes_95 : decode cX2_minutes 95 = .ok (.ireturn, 1) := by decide +kernel
theorem dX2_minutes_96 : decode cX2_minutes 96 = .ok (.iload 6, 2) := by decide +kernel
theorem dX2_minutes_98 : decode cX2_minutes 98 = .ok (.ineg, 1) := by decide +kernel
theorem dX2_minutes_99 : decode cX2_minutes 99 = .ok (.ireturn, 1) := by decide +kernel
theorem dX2_minutes_100 : decode cX2_minutes 100 = .ok (.iload 4, 2) := by decide +kernel
theorem dX2_minutes_102 : decode cX2_minutes 102 = .ok (.iconst 2, 1) := by decide +kernel
theorem dX2_minutes_103 : decode cX2_minutes 103 = .ok (.idiv, 1) := by decide +kernel
theorem dX2_minutes_104 : decode cX2_minutes 104 = .ok (.ireturn, 1) := by decide +kernel
theorem dX2_minutes_105 : decode cX2_minutes 105 = .ok (.iconst 2, 1) := by decide +kernel
theorem dX2_minutes_106 : decode cX2_minutes 106 = .ok (.iload 5, 2) := by decide +kernel
theorem dX2_minutes_108 : decode cX2_minutes 108 = .ok (.imul, 1) := by decide +kernel
theorem dX2_minutes_109 : decode cX2_minutes 109 = .ok (.ireturn, 1) := by decide +kernel
theorem dX2_minutes_110 : decode cX2_minutes 110 = .ok (.iload 4, 2) := by decide +kernel
theorem dX2_minutes_112 : decode cX2_minutes 112 = .ok (.ireturn, 1) := by decide +kernel
theorem dX2_keeps_0 : decode cX2_keeps 0 = .ok (.iload_n 0, 1) := by decide +kernel
theorem dX2_keeps_1 : decode cX2_keeps 1 = .ok (.ifCond .lt 19, 3) := by decide +kernel
theorem dX2_keeps_4 : decode cX2_keeps 4 = .ok (.iload_n 0, 1) := by decide +kernel
theorem dX2_keeps_5 : decode cX2_keeps 5 = .ok (.getstatic 16, 3) := by decide +kernel
theorem dX2_keeps_8 : decode cX2_keeps 8 = .ok (.arraylength, 1) := by decide +kernel
theorem dX2_keeps_9 : decode cX2_keeps 9 = .ok (.if_icmp .ge 11, 3) := by decide +kernel
theorem dX2_keeps_12 : decode cX2_keeps 12 = .ok (.getstatic 16, 3) := by decide +kernel
theorem dX2_keeps_15 : decode cX2_keeps 15 = .ok (.iload_n 0, 1) := by decide +kernel
theorem dX2_keeps_16 : decode cX2_keeps 16 = .ok (.iaload, 1) := by decide +kernel
theorem dX2_keeps_17 : decode cX2_keeps 17 = .ok (.goto 4, 3) := by decide +kernel
theorem dX2_keeps_20 : decode cX2_keeps 20 = .ok (.iconst 0, 1) := by decide +kernel
theorem dX2_keeps_21 : decode cX2_keeps 21 = .ok (.ireturn, 1) := by decide +kernel
theorem dX2_stays_0 : decode cX2_stays 0 = .ok (.iload_n 2, 1) := by decide +kernel
theorem dX2_stays_1 : decode cX2_stays 1 = .ok (.ifCond .le 13, 3) := by decide +kernel
theorem dX2_stays_4 : decode cX2_stays 4 = .ok (.iload_n 1, 1) := by decide +kernel
theorem dX2_stays_5 : decode cX2_stays 5 = .ok (.iload_n 2, 1) := by decide +kernel
theorem dX2_stays_6 : decode cX2_stays 6 = .ok (.iadd, 1) := by decide +kernel
theorem dX2_stays_7 : decode cX2_stays 7 = .ok (.iload_n 0, 1) := by decide +kernel
theorem dX2_stays_8 : decode cX2_stays 8 = .ok (.invokestatic 22, 3) := by decide +kernel
theorem dX2_stays_11 : decode cX2_stays 11 = .ok (.if_icmp .gt 7, 3) := by decide +kernel
theorem dX2_stays_14 : decode cX2_stays 14 = .ok (.iconst 1, 1) := by decide +kernel
theorem dX2_stays_15 : decode cX2_stays 15 = .ok (.goto 4, 3) := by decide +kernel
theorem dX2_stays_18 : decode cX2_stays 18 = .ok (.iconst 0, 1) := by decide +kernel
theorem dX2_stays_19 : decode cX2_stays 19 = .ok (.ireturn, 1) := by decide +kernel
theorem dX2_isUnder_0 : decode cX2_isUnder 0 = .ok (.iload_n 0, 1) := by decide +kernel
theorem dX2_isUnder_1 : decode cX2_isUnder 1 = .ok (.istore_n 2, 1) := by decide +kernel
theorem dX2_isUnder_2 : decode cX2_isUnder 2 = .ok (.iconst 0, 1) := by decide +kernel
theorem dX2_isUnder_3 : decode cX2_isUnder 3 = .ok (.istore_n 3, 1) := by decide +kernel
theorem dX2_isUnder_4 : decode cX2_isUnder 4 = .ok (.iload_n 3, 1) := by decide +kernel
theorem dX2_isUnder_5 : decode cX2_isUnder 5 = .ok (.bipush 7, 2) := by decide +kernel
theorem dX2_isUnder_7 : decode cX2_isUnder 7 = .ok (.if_icmp .ge 34, 3) := by decide +kernel
theorem dX2_isUnder_10 : decode cX2_isUnder 10 = .ok (.iload_n 2, 1) := by decide +kernel
theorem dX2_isUnder_11 : decode cX2_isUnder 11 = .ok (.ifCond .lt 30, 3) := by decide +kernel
theorem dX2_isUnder_14 : decode cX2_isUnder 14 = .ok (.iload_n 2, 1) := by decide +kernel
theorem dX2_isUnder_15 : decode cX2_isUnder 15 = .ok (.getstatic 26, 3) := by decide +kernel
theorem dX2_isUnder_18 : decode cX2_isUnder 18 = .ok (.arraylength, 1) := by decide +kernel
theorem dX2_isUnder_19 : decode cX2_isUnder 19 = .ok (.if_icmp .ge 22, 3) := by decide +kernel
theorem dX2_isUnder_22 : decode cX2_isUnder 22 = .ok (.iload_n 2, 1) := by decide +kernel
theorem dX2_isUnder_23 : decode cX2_isUnder 23 = .ok (.iload_n 1, 1) := by decide +kernel
theorem dX2_isUnder_24 : decode cX2_isUnder 24 = .ok (.if_icmp .ne 5, 3) := by decide +kernel
theorem dX2_isUnder_27 : decode cX2_isUnder 27 = .ok (.iconst 1, 1) := by decide +kernel
theorem dX2_isUnder_28 : decode cX2_isUnder 28 = .ok (.ireturn, 1) := by decide +kernel
theorem dX2_isUnder_29 : decode cX2_isUnder 29 = .ok (.getstatic 26, 3) := by decide +kernel
theorem dX2_isUnder_32 : decode cX2_isUnder 32 = .ok (.iload_n 2, 1) := by decide +kernel
theorem dX2_isUnder_33 : decode cX2_isUnder 33 = .ok (.iaload, 1) := by decide +kernel
theorem dX2_isUnder_34 : decode cX2_isUnder 34 = .ok (.istore_n 2, 1) := by decide +kernel
theorem dX2_isUnder_35 : decode cX2_isUnder 35 = .ok (.iinc 3 1, 3) := by decide +kernel
theorem dX2_isUnder_38 : decode cX2_isUnder 38 = .ok (.goto (-34), 3) := by decide +kernel
theorem dX2_isUnder_41 : decode cX2_isUnder 41 = .ok (.iconst 0, 1) := by decide +kernel
theorem dX2_isUnder_42 : decode cX2_isUnder 42 = .ok (.ireturn, 1) := by decide +kernel
theorem dX3_init_0 : decode cX3_init 0 = .ok (.aload_n 0, 1) := by decide +kernel
theorem dX3_init_1 : decode cX3_init 1 = .ok (.invokespecial 3, 3) := by decide +kernel
theorem dX3_init_4 : decode cX3_init 4 = .ok (.aload_n 0, 1) := by decide +kernel
theorem dX3_init_5 : decode cX3_init 5 = .ok (.aload_n 1, 1) := by decide +kernel
theorem dX3_init_6 : decode cX3_init 6 = .ok (.putfield 9, 3) := by decide +kernel
theorem dX3_init_9 : decode cX3_init 9 = .ok (.aload_n 0, 1) := by decide +kernel
theorem dX3_init_10 : decode cX3_init 10 = .ok (.aload_n 2, 1) := by decide +kernel
theorem dX3_init_11 : decode cX3_init 11 = .ok (.putfield 15, 3) := by decide +kernel
theorem dX3_init_14 : decode cX3_init 14 = .ok (.return_, 1) := by decide +kernel
theorem dX3_readText_0 : decode cX3_readText 0 = .ok (.aload_n 0, 1) := by decide +kernel
theorem dX3_readText_1 : decode cX3_readText 1 = .ok (.getfield 9, 3) := by decide +kernel
theorem dX3_readText_4 : decode cX3_readText 4 = .ok (.ifnull 10, 3) := by decide +kernel
theorem dX3_readText_7 : decode cX3_readText 7 = .ok (.aload_n 0, 1) := by decide +kernel
theorem dX3_readText_8 : decode cX3_readText 8 = .ok (.getfield 15, 3) := by decide +kernel
theorem dX3_readText_11 : decode cX3_readText 11 = .ok (.ifnonnull 5, 3) := by decide +kernel
theorem dX3_readText_14 : decode cX3_readText 14 = .ok (.iconst (-1), 1) := by decide +kernel
theorem dX3_readText_15 : decode cX3_readText 15 = .ok (.ireturn, 1) := by decide +kernel
theorem dX3_readText_16 : decode cX3_readText 16 = .ok (.aload_n 0, 1) := by decide +kernel
theorem dX3_readText_17 : decode cX3_readText 17 = .ok (.invokevirtual 19, 3) := by decide +kernel
theorem dX3_readText_20 : decode cX3_readText 20 = .ok (.iconst 1, 1) := by decide +kernel
theorem dX3_readText_21 : decode cX3_readText 21 = .ok (.istore_n 1, 1) := by decide +kernel
theorem dX3_readText_22 : decode cX3_readText 22 = .ok (.iload_n 1, 1) := by decide +kernel
theorem dX3_readText_23 : decode cX3_readText 23 = .ok (.bipush 120, 2) := by decide +kernel
theorem dX3_readText_25 : decode cX3_readText 25 = .ok (.if_icmp .gt 82, 3) := by decide +kernel
theorem dX3_readText_28 : decode cX3_readText 28 = .ok (.aload_n 0, 1) := by decide +kernel
theorem dX3_readText_29 : decode cX3_readText 29 = .ok (.invokevirtual 24, 3) := by decide +kernel
theorem dX3_readText_32 : decode cX3_readText 32 = .ok (.istore_n 2, 1) := by decide +kernel
theorem dX3_readText_33 : decode cX3_readText 33 = .ok (.iload_n 2, 1) := by decide +kernel
theorem dX3_readText_34 : decode cX3_readText 34 = .ok (.ifCond .lt 11, 3) := by decide +kernel
theorem dX3_readText_37 : decode cX3_readText 37 = .ok (.aload_n 0, 1) := by decide +kernel
theorem dX3_readText_38 : decode cX3_readText 38 = .ok (.iload_n 2, 1) := by decide +kernel
theorem dX3_readText_39 : decode cX3_readText 39 = .ok (.invokevirtual 28, 3) := by decide +kernel
theorem dX3_readText_42 : decode cX3_readText 42 = .ok (.goto 23, 3) := by decide +kernel
theorem dX3_readText_45 : decode cX3_readText 45 = .ok (.aload_n 0, 1) := by decide +kernel
theorem dX3_readText_46 : decode cX3_readText 46 = .ok (.ldc 32, 2) := by decide +kernel
theorem dX3_readText_48 : decode cX3_readText 48 = .ok (.invokevirtual 34, 3) := by decide +kernel
theorem dX3_readText_51 : decode cX3_readText 51 = .ok (.ifCond .eq 10, 3) := by decide +kernel
theorem dX3_readText_54 : decode cX3_readText 54 = .ok (.aload_n 0, 1) := by decide +kernel
theorem dX3_readText_55 : decode cX3_readText 55 = .ok (.invokevirtual 38, 3) := by decide +kernel
theorem dX3_readText_58 : decode cX3_readText 58 = .ok (.goto 7, 3) := by decide +kernel
theorem dX3_readText_61 : decode cX3_readText 61 = .ok (.aload_n 0, 1) := by decide +kernel
theorem dX3_readText_62 : decode cX3_readText 62 = .ok (.invokevirtual 42, 3) := by decide +kernel
theorem dX3_readText_65 : decode cX3_readText 65 = .ok (.istore_n 3, 1) := by decide +kernel
theorem dX3_readText_66 : decode cX3_readText 66 = .ok (.iload_n 3, 1) := by decide +kernel
theorem dX3_readText_67 : decode cX3_readText 67 = .ok (.ifCond .eq 40, 3) := by decide +kernel
theorem dX3_readText_70 : decode cX3_readText 70 = .ok (.aload_n 0, 1) := by decide +kernel
theorem dX3_readText_71 : decode cX3_readText 71 = .ok (.getfield 45, 3) := by decide +kernel
theorem dX3_readText_74 : decode cX3_readText 74 = .ok (.ifCond .eq 14, 3) := by decide +kernel
theorem dX3_readText_77 : decode cX3_readText 77 = .ok (.aload_n 0, 1) := by decide +kernel
theorem dX3_readText_78 : decode cX3_readText 78 = .ok (.getfield 45, 3) := by decide +kernel
theorem dX3_readText_81 : decode cX3_readText 81 = .ok (.iconst 3, 1) := by decide +kernel
theorem dX3_readText_82 : decode cX3_readText 82 = .ok (.if_icmp .eq 6, 3) := by decide +kernel
theorem dX3_readText_85 : decode cX3_readText 85 = .ok (.goto 22, 3) := by decide +kernel
theorem dX3_readText_88 : decode cX3_readText 88 = .ok (.aload_n 0, 1) := by decide +kernel
theorem dX3_readText_89 : decode cX3_readText 89 = .ok (.getfield 45, 3) := by decide +kernel
theorem dX3_readText_92 : decode cX3_readText 92 = .ok (.ifCond .ne 5, 3) := by decide +kernel
theorem dX3_readText_95 : decode cX3_readText 95 = .ok (.iload_n 1, 1) := by decide +kernel
theorem dX3_readText_96 : decode cX3_readText 96 = .ok (.ireturn, 1) := by decide +kernel
theorem dX3_readText_97 : decode cX3_readText 97 = .ok (.aload_n 0, 1) := by decide +kernel
theorem dX3_readText_98 : decode cX3_readText 98 = .ok (.invokevirtual 19, 3) := by decide +kernel
theorem dX3_readText_101 : decode cX3_readText 101 = .ok (.iinc 1 1, 3) := by decide +kernel
theorem dX3_readText_104 : decode cX3_readText 104 = .ok (.goto (-82), 3) := by decide +kernel
theorem dX3_readText_107 : decode cX3_readText 107 = .ok (.iconst (-1), 1) := by decide +kernel
theorem dX3_readText_108 : decode cX3_readText 108 = .ok (.aload_n 0, 1) := by decide +kernel
theorem dX3_readText_109 : decode cX3_readText 109 = .ok (.getfield 49, 3) := by decide +kernel
theorem dX3_readText_112 : decode cX3_readText 112 = .ok (.isub, 1) := by decide +kernel
theorem dX3_readText_113 : decode cX3_readText 113 = .ok (.ireturn, 1) := by decide +kernel
theorem dX3_readEgg_0 : decode cX3_readEgg 0 = .ok (.aload_n 0, 1) := by decide +kernel
theorem dX3_readEgg_1 : decode cX3_readEgg 1 = .ok (.getfield 15, 3) := by decide +kernel
theorem dX3_readEgg_4 : decode cX3_readEgg 4 = .ok (.invokevirtual 52, 3) := by decide +kernel
theorem dX3_readEgg_7 : decode cX3_readEgg 7 = .ok (.istore_n 2, 1) := by decide +kernel
theorem dX3_readEgg_8 : decode cX3_readEgg 8 = .ok (.iload_n 2, 1) := by decide +kernel
theorem dX3_readEgg_9 : decode cX3_readEgg 9 = .ok (.ifCond .ge 5, 3) := by decide +kernel
theorem dX3_readEgg_12 : decode cX3_readEgg 12 = .ok (.iconst 0, 1) := by decide +kernel
theorem dX3_readEgg_13 : decode cX3_readEgg 13 = .ok (.ireturn, 1) := by decide +kernel
theorem dX3_readEgg_14 : decode cX3_readEgg 14 = .ok (.aload_n 0, 1) := by decide +kernel
theorem dX3_readEgg_15 : decode cX3_readEgg 15 = .ok (.invokevirtual 19, 3) := by decide +kernel
theorem dX3_readEgg_18 : decode cX3_readEgg 18 = .ok (.aload_n 0, 1) := by decide +kernel
theorem dX3_readEgg_19 : decode cX3_readEgg 19 = .ok (.iconst 1, 1) := by decide +kernel
theorem dX3_readEgg_20 : decode cX3_readEgg 20 = .ok (.bipush 99, 2) := by decide +kernel
theorem dX3_readEgg_22 : decode cX3_readEgg 22 = .ok (.invokevirtual 57, 3) := by decide +kernel
theorem dX3_readEgg_25 : decode cX3_readEgg 25 = .ok (.istore_n 3, 1) := by decide +kernel
theorem dX3_readEgg_26 : decode cX3_readEgg 26 = .ok (.iload_n 3, 1) := by decide +kernel
theorem dX3_readEgg_27 : decode cX3_readEgg 27 = .ok (.ifCond .ge 7, 3) := by decide +kernel
theorem dX3_readEgg_30 : decode cX3_readEgg 30 = .ok (.iconst (-1), 1) := by decide +kernel
theorem dX3_readEgg_31 : decode cX3_readEgg 31 = .ok (.goto 12, 3) := by decide +kernel
theorem dX3_readEgg_34 : decode cX3_readEgg 34 = .ok (.aload_n 0, 1) := by decide +kernel
theorem dX3_readEgg_35 : decode cX3_readEgg 35 = .ok (.ldc 61, 2) := by decide +kernel
theorem dX3_readEgg_37 : decode cX3_readEgg 37 = .ok (.bipush 99, 2) := by decide +kernel
theorem dX3_readEgg_39 : decode cX3_readEgg 39 = .ok (.iconst 0, 1) := by decide +kernel
theorem dX3_readEgg_40 : decode cX3_readEgg 40 = .ok (.invokevirtual 63, 3) := by decide +kernel
theorem dX3_readEgg_43 : decode cX3_readEgg 43 = .ok (.istore 4, 2) := by decide +kernel
theorem dX3_readEgg_45 : decode cX3_readEgg 45 = .ok (.iload 4, 2) := by decide +kernel
theorem dX3_readEgg_47 : decode cX3_readEgg 47 = .ok (.ifCond .ge 7, 3) := by decide +kernel
theorem dX3_readEgg_50 : decode cX3_readEgg 50 = .ok (.iconst (-1), 1) := by decide +kernel
theorem dX3_readEgg_51 : decode cX3_readEgg 51 = .ok (.goto 11, 3) := by decide +kernel
theorem dX3_readEgg_54 : decode cX3_readEgg 54 = .ok (.aload_n 0, 1) := by decide +kernel
theorem dX3_readEgg_55 : decode cX3_readEgg 55 = .ok (.ldc 67, 2) := by decide +kernel
theorem dX3_readEgg_57 : decode cX3_readEgg 57 = .ok (.iconst 3, 1) := by decide +kernel
theorem dX3_readEgg_58 : decode cX3_readEgg 58 = .ok (.iconst 0, 1) := by decide +kernel
theorem dX3_readEgg_59 : decode cX3_readEgg 59 = .ok (.invokevirtual 63, 3) := by decide +kernel
theorem dX3_readEgg_62 : decode cX3_readEgg 62 = .ok (.istore 5, 2) := by decide +kernel
theorem dX3_readEgg_64 : decode cX3_readEgg 64 = .ok (.iload 5, 2) := by decide +kernel
theorem dX3_readEgg_66 : decode cX3_readEgg 66 = .ok (.ifCond .ge 5, 3) := by decide +kernel
theorem dX3_readEgg_69 : decode cX3_readEgg 69 = .ok (.iconst 0, 1) := by decide +kernel
theorem dX3_readEgg_70 : decode cX3_readEgg 70 = .ok (.ireturn, 1) := by decide +kernel
theorem dX3_readEgg_71 : decode cX3_readEgg 71 = .ok (.aload_n 0, 1) := by decide +kernel
theorem dX3_readEgg_72 : decode cX3_readEgg 72 = .ok (.getfield 15, 3) := by decide +kernel
theorem dX3_readEgg_75 : decode cX3_readEgg 75 = .ok (.iload_n 2, 1) := by decide +kernel
theorem dX3_readEgg_76 : decode cX3_readEgg 76 = .ok (.iload_n 1, 1) := by decide +kernel
theorem dX3_readEgg_77 : decode cX3_readEgg 77 = .ok (.iload_n 3, 1) := by decide +kernel
theorem dX3_readEgg_78 : decode cX3_readEgg 78 = .ok (.iload 4, 2) := by decide +kernel
theorem dX3_readEgg_80 : decode cX3_readEgg 80 = .ok (.iload 5, 2) := by decide +kernel
theorem dX3_readEgg_82 : decode cX3_readEgg 82 = .ok (.invokevirtual 69, 3) := by decide +kernel
theorem dX3_readEgg_85 : decode cX3_readEgg 85 = .ok (.iconst 1, 1) := by decide +kernel
theorem dX3_readEgg_86 : decode cX3_readEgg 86 = .ok (.ireturn, 1) := by decide +kernel
theorem dX3_readHen_0 : decode cX3_readHen 0 = .ok (.aload_n 0, 1) := by decide +kernel
theorem dX3_readHen_1 : decode cX3_readHen 1 = .ok (.invokevirtual 19, 3) := by decide +kernel
theorem dX3_readHen_4 : decode cX3_readHen 4 = .ok (.aload_n 0, 1) := by decide +kernel
theorem dX3_readHen_5 : decode cX3_readHen 5 = .ok (.iconst 0, 1) := by decide +kernel
theorem dX3_readHen_6 : decode cX3_readHen 6 = .ok (.iconst 3, 1) := by decide +kernel
theorem dX3_readHen_7 : decode cX3_readHen 7 = .ok (.invokevirtual 57, 3) := by decide +kernel
theorem dX3_readHen_10 : decode cX3_readHen 10 = .ok (.istore_n 1, 1) := by decide +kernel
theorem dX3_readHen_11 : decode cX3_readHen 11 = .ok (.iload_n 1, 1) := by decide +kernel
theorem dX3_readHen_12 : decode cX3_readHen 12 = .ok (.ifCond .ge 7, 3) := by decide +kernel
theorem dX3_readHen_15 : decode cX3_readHen 15 = .ok (.iconst (-1), 1) := by decide +kernel
theorem dX3_readHen_16 : decode cX3_readHen 16 = .ok (.goto 10, 3) := by decide +kernel
theorem dX3_readHen_19 : decode cX3_readHen 19 = .ok (.aload_n 0, 1) := by decide +kernel
theorem dX3_readHen_20 : decode cX3_readHen 20 = .ok (.iconst 0, 1) := by decide +kernel
theorem dX3_readHen_21 : decode cX3_readHen 21 = .ok (.bipush 30, 2) := by decide +kernel
theorem dX3_readHen_23 : decode cX3_readHen 23 = .ok (.invokevirtual 57, 3) := by decide +kernel
theorem dX3_readHen_26 : decode cX3_readHen 26 = .ok (.istore_n 2, 1) := by decide +kernel
theorem dX3_readHen_27 : decode cX3_readHen 27 = .ok (.iload_n 2, 1) := by decide +kernel
theorem dX3_readHen_28 : decode cX3_readHen 28 = .ok (.ifCond .ge 5, 3) := by decide +kernel
theorem dX3_readHen_31 : decode cX3_readHen 31 = .ok (.iconst 0, 1) := by decide +kernel
theorem dX3_readHen_32 : decode cX3_readHen 32 = .ok (.ireturn, 1) := by decide +kernel
theorem dX3_readHen_33 : decode cX3_readHen 33 = .ok (.aload_n 0, 1) := by decide +kernel
theorem dX3_readHen_34 : decode cX3_readHen 34 = .ok (.getfield 15, 3) := by decide +kernel
theorem dX3_readHen_37 : decode cX3_readHen 37 = .ok (.getfield 73, 3) := by decide +kernel
theorem dX3_readHen_40 : decode cX3_readHen 40 = .ok (.iload_n 1, 1) := by decide +kernel
theorem dX3_readHen_41 : decode cX3_readHen 41 = .ok (.iconst 0, 1) := by decide +kernel
theorem dX3_readHen_42 : decode cX3_readHen 42 = .ok (.iload_n 2, 1) := by decide +kernel
theorem dX3_readHen_43 : decode cX3_readHen 43 = .ok (.invokevirtual 77, 3) := by decide +kernel
theorem dX3_readHen_46 : decode cX3_readHen 46 = .ok (.iconst 1, 1) := by decide +kernel
theorem dX3_readHen_47 : decode cX3_readHen 47 = .ok (.ireturn, 1) := by decide +kernel
theorem dX3_readWork_0 : decode cX3_readWork 0 = .ok (.aload_n 0, 1) := by decide +kernel
theorem dX3_readWork_1 : decode cX3_readWork 1 = .ok (.ldc 83, 2) := by decide +kernel
theorem dX3_readWork_3 : decode cX3_readWork 3 = .ok (.invokevirtual 34, 3) := by decide +kernel
theorem dX3_readWork_6 : decode cX3_readWork 6 = .ok (.ifCond .ne 5, 3) := by decide +kernel
theorem dX3_readWork_9 : decode cX3_readWork 9 = .ok (.iconst 0, 1) := by decide +kernel
theorem dX3_readWork_10 : decode cX3_readWork 10 = .ok (.ireturn, 1) := by decide +kernel
theorem dX3_readWork_11 : decode cX3_readWork 11 = .ok (.aload_n 0, 1) := by decide +kernel
theorem dX3_readWork_12 : decode cX3_readWork 12 = .ok (.invokevirtual 19, 3) := by decide +kernel
theorem dX3_readWork_15 : decode cX3_readWork 15 = .ok (.aload_n 0, 1) := by decide +kernel
theorem dX3_readWork_16 : decode cX3_readWork 16 = .ok (.iconst 0, 1) := by decide +kernel
theorem dX3_readWork_17 : decode cX3_readWork 17 = .ok (.iconst 5, 1) := by decide +kernel
theorem dX3_readWork_18 : decode cX3_readWork 18 = .ok (.invokevirtual 57, 3) := by decide +kernel
theorem dX3_readWork_21 : decode cX3_readWork 21 = .ok (.istore_n 1, 1) := by decide +kernel
theorem dX3_readWork_22 : decode cX3_readWork 22 = .ok (.iload_n 1, 1) := by decide +kernel
theorem dX3_readWork_23 : decode cX3_readWork 23 = .ok (.ifCond .ge 7, 3) := by decide +kernel
theorem dX3_readWork_26 : decode cX3_readWork 26 = .ok (.iconst (-1), 1) := by decide +kernel
theorem dX3_readWork_27 : decode cX3_readWork 27 = .ok (.goto 11, 3) := by decide +kernel
theorem dX3_readWork_30 : decode cX3_readWork 30 = .ok (.aload_n 0, 1) := by decide +kernel
theorem dX3_readWork_31 : decode cX3_readWork 31 = .ok (.iconst 0, 1) := by decide +kernel
theorem dX3_readWork_32 : decode cX3_readWork 32 = .ok (.sipush 999, 3) := by decide +kernel
theorem dX3_readWork_35 : decode cX3_readWork 35 = .ok (.invokevirtual 57, 3) := by decide +kernel
theorem dX3_readWork_38 : decode cX3_readWork 38 = .ok (.istore_n 2, 1) := by decide +kernel
theorem dX3_readWork_39 : decode cX3_readWork 39 = .ok (.iload_n 2, 1) := by decide +kernel
theorem dX3_readWork_40 : decode cX3_readWork 40 = .ok (.ifCond .ge 7, 3) := by decide +kernel
theorem dX3_readWork_43 : decode cX3_readWork 43 = .ok (.iconst (-1), 1) := by decide +kernel
theorem dX3_readWork_44 : decode cX3_readWork 44 = .ok (.goto 23, 3) := by decide +kernel
theorem dX3_readWork_47 : decode cX3_readWork 47 = .ok (.aload_n 0, 1) := by decide +kernel
theorem dX3_readWork_48 : decode cX3_readWork 48 = .ok (.ldc 85, 2) := by decide +kernel
theorem dX3_readWork_50 : decode cX3_readWork 50 = .ok (.ldc 87, 2) := by decide +kernel
theorem dX3_readWork_52 : decode cX3_readWork 52 = .ok (.aload_n 0, 1) := by decide +kernel
theorem dX3_readWork_53 : decode cX3_readWork 53 = .ok (.getfield 15, 3) := by decide +kernel
theorem dX3_readWork_56 : decode cX3_readWork 56 = .ok (.getfield 88, 3) := by decide +kernel
theorem dX3_readWork_59 : decode cX3_readWork 59 = .ok (.iload_n 1, 1) := by decide +kernel
theorem dX3_readWork_60 : decode cX3_readWork 60 = .ok (.iconst 1, 1) := by decide +kernel
theorem dX3_readWork_61 : decode cX3_readWork 61 = .ok (.invokevirtual 91, 3) := by decide +kernel
theorem dX3_readWork_64 : decode cX3_readWork 64 = .ok (.invokevirtual 63, 3) := by decide +kernel
theorem dX3_readWork_67 : decode cX3_readWork 67 = .ok (.istore_n 3, 1) := by decide +kernel
theorem dX3_readWork_68 : decode cX3_readWork 68 = .ok (.iload_n 3, 1) := by decide +kernel
theorem dX3_readWork_69 : decode cX3_readWork 69 = .ok (.ifCond .ge 7, 3) := by decide +kernel
theorem dX3_readWork_72 : decode cX3_readWork 72 = .ok (.iconst (-1), 1) := by decide +kernel
theorem dX3_readWork_73 : decode cX3_readWork 73 = .ok (.goto 23, 3) := by decide +kernel
theorem dX3_readWork_76 : decode cX3_readWork 76 = .ok (.aload_n 0, 1) := by decide +kernel
theorem dX3_readWork_77 : decode cX3_readWork 77 = .ok (.ldc 94, 2) := by decide +kernel
theorem dX3_readWork_79 : decode cX3_readWork 79 = .ok (.bipush 99, 2) := by decide +kernel
theorem dX3_readWork_81 : decode cX3_readWork 81 = .ok (.aload_n 0, 1) := by decide +kernel
theorem dX3_readWork_82 : decode cX3_readWork 82 = .ok (.getfield 15, 3) := by decide +kernel
theorem dX3_readWork_85 : decode cX3_readWork 85 = .ok (.getfield 88, 3) := by decide +kernel
theorem dX3_readWork_88 : decode cX3_readWork 88 = .ok (.iload_n 1, 1) := by decide +kernel
theorem dX3_readWork_89 : decode cX3_readWork 89 = .ok (.iconst 2, 1) := by decide +kernel
theorem dX3_readWork_90 : decode cX3_readWork 90 = .ok (.invokevirtual 91, 3) := by decide +kernel
theorem dX3_readWork_93 : decode cX3_readWork 93 = .ok (.invokevirtual 63, 3) := by decide +kernel
theorem dX3_readWork_96 : decode cX3_readWork 96 = .ok (.istore 4, 2) := by decide +kernel
theorem dX3_readWork_98 : decode cX3_readWork 98 = .ok (.iload 4, 2) := by decide +kernel
theorem dX3_readWork_100 : decode cX3_readWork 100 = .ok (.ifCond .ge 5, 3) := by decide +kernel
theorem dX3_readWork_103 : decode cX3_readWork 103 = .ok (.iconst 0, 1) := by decide +kernel
theorem dX3_readWork_104 : decode cX3_readWork 104 = .ok (.ireturn, 1) := by decide +kernel
theorem dX3_readWork_105 : decode cX3_readWork 105 = .ok (.aload_n 0, 1) := by decide +kernel
theorem dX3_readWork_106 : decode cX3_readWork 106 = .ok (.getfield 15, 3) := by decide +kernel
theorem dX3_readWork_109 : decode cX3_readWork 109 = .ok (.getfield 88, 3) := by decide +kernel
theorem dX3_readWork_112 : decode cX3_readWork 112 = .ok (.iload_n 1, 1) := by decide +kernel
theorem dX3_readWork_113 : decode cX3_readWork 113 = .ok (.iconst 0, 1) := by decide +kernel
theorem dX3_readWork_114 : decode cX3_readWork 114 = .ok (.iload_n 2, 1) := by decide +kernel
theorem dX3_readWork_115 : decode cX3_readWork 115 = .ok (.invokevirtual 77, 3) := by decide +kernel
theorem dX3_readWork_118 : decode cX3_readWork 118 = .ok (.aload_n 0, 1) := by decide +kernel
theorem dX3_readWork_119 : decode cX3_readWork 119 = .ok (.getfield 15, 3) := by decide +kernel
theorem dX3_readWork_122 : decode cX3_readWork 122 = .ok (.getfield 88, 3) := by decide +kernel
theorem dX3_readWork_125 : decode cX3_readWork 125 = .ok (.iload_n 1, 1) := by decide +kernel
theorem dX3_readWork_126 : decode cX3_readWork 126 = .ok (.iconst 1, 1) := by decide +kernel
theorem dX3_readWork_127 : decode cX3_readWork 127 = .ok (.iload_n 3, 1) := by decide +kernel
theorem dX3_readWork_128 : decode cX3_readWork 128 = .ok (.invokevirtual 77, 3) := by decide +kernel
theorem dX3_readWork_131 : decode cX3_readWork 131 = .ok (.aload_n 0, 1) := by decide +kernel
theorem dX3_readWork_132 : decode cX3_readWork 132 = .ok (.getfield 15, 3) := by decide +kernel
theorem dX3_readWork_135 : decode cX3_readWork 135 = .ok (.getfield 88, 3) := by decide +kernel
theorem dX3_readWork_138 : decode cX3_readWork 138 = .ok (.iload_n 1, 1) := by decide +kernel
theorem dX3_readWork_139 : decode cX3_readWork 139 = .ok (.iconst 2, 1) := by decide +kernel
theorem dX3_readWork_140 : decode cX3_readWork 140 = .ok (.iload 4, 2) := by decide +kernel
theorem dX3_readWork_142 : decode cX3_readWork 142 = .ok (.invokevirtual 77, 3) := by decide +kernel
theorem dX3_readWork_145 : decode cX3_readWork 145 = .ok (.iconst 1, 1) := by decide +kernel
theorem dX3_readWork_146 : decode cX3_readWork 146 = .ok (.ireturn, 1) := by decide +kernel
theorem dX3_readPerhaps_0 : decode cX3_readPerhaps 0 = .ok (.aload_n 0, 1) := by decide +kernel
theorem dX3_readPerhaps_1 : decode cX3_readPerhaps 1 = .ok (.aload_n 1, 1) := by decide +kernel
theorem dX3_readPerhaps_2 : decode cX3_readPerhaps 2 = .ok (.invokevirtual 34, 3) := by decide +kernel
theorem dX3_readPerhaps_5 : decode cX3_readPerhaps 5 = .ok (.ifCond .ne 5, 3) := by decide +kernel
theorem dX3_readPerhaps_8 : decode cX3_readPerhaps 8 = .ok (.iload_n 3, 1) := by decide +kernel
theorem dX3_readPerhaps_9 : decode cX3_readPerhaps 9 = .ok (.ireturn, 1) := by decide +kernel
theorem dX3_readPerhaps_10 : decode cX3_readPerhaps 10 = .ok (.aload_n 0, 1) := by decide +kernel
theorem dX3_readPerhaps_11 : decode cX3_readPerhaps 11 = .ok (.invokevirtual 19, 3) := by decide +kernel
theorem dX3_readPerhaps_14 : decode cX3_readPerhaps 14 = .ok (.aload_n 0, 1) := by decide +kernel
theorem dX3_readPerhaps_15 : decode cX3_readPerhaps 15 = .ok (.iconst 0, 1) := by decide +kernel
theorem dX3_readPerhaps_16 : decode cX3_readPerhaps 16 = .ok (.iload_n 2, 1) := by decide +kernel
theorem dX3_readPerhaps_17 : decode cX3_readPerhaps 17 = .ok (.invokevirtual 57, 3) := by decide +kernel
theorem dX3_readPerhaps_20 : decode cX3_readPerhaps 20 = .ok (.ireturn, 1) := by decide +kernel
theorem dX3_readNumber_0 : decode cX3_readNumber 0 = .ok (.aload_n 0, 1) := by decide +kernel
theorem dX3_readNumber_1 : decode cX3_readNumber 1 = .ok (.getfield 45, 3) := by decide +kernel
theorem dX3_readNumber_4 : decode cX3_readNumber 4 = .ok (.iconst 2, 1) := by decide +kernel
theorem dX3_readNumber_5 : decode cX3_readNumber 5 = .ok (.if_icmp .ne 19, 3) := by decide +kernel
theorem dX3_readNumber_8 : decode cX3_readNumber 8 = .ok (.aload_n 0, 1) := by decide +kernel
theorem dX3_readNumber_9 : decode cX3_readNumber 9 = .ok (.getfield 96, 3) := by decide +kernel
theorem dX3_readNumber_12 : decode cX3_readNumber 12 = .ok (.iload_n 1, 1) := by decide +kernel
theorem dX3_readNumber_13 : decode cX3_readNumber 13 = .ok (.if_icmp .lt 11, 3) := by decide +kernel
theorem dX3_readNumber_16 : decode cX3_readNumber 16 = .ok (.aload_n 0, 1) := by decide +kernel
theorem dX3_readNumber_17 : decode cX3_readNumber 17 = .ok (.getfield 96, 3) := by decide +kernel
theorem dX3_readNumber_20 : decode cX3_readNumber 20 = .ok (.iload_n 2, 1) := by decide +kernel
theorem dX3_readNumber_21 : decode cX3_readNumber 21 = .ok (.if_icmp .le 5, 3) := by decide +kernel
theorem dX3_readNumber_24 : decode cX3_readNumber 24 = .ok (.iconst (-1), 1) := by decide +kernel
theorem dX3_readNumber_25 : decode cX3_readNumber 25 = .ok (.ireturn, 1) := by decide +kernel
theorem dX3_readNumber_26 : decode cX3_readNumber 26 = .ok (.aload_n 0, 1) := by decide +kernel
theorem dX3_readNumber_27 : decode cX3_readNumber 27 = .ok (.getfield 96, 3) := by decide +kernel
theorem dX3_readNumber_30 : decode cX3_readNumber 30 = .ok (.istore_n 3, 1) := by decide +kernel
theorem dX3_readNumber_31 : decode cX3_readNumber 31 = .ok (.aload_n 0, 1) := by decide +kernel
theorem dX3_readNumber_32 : decode cX3_readNumber 32 = .ok (.invokevirtual 19, 3) := by decide +kernel
theorem dX3_readNumber_35 : decode cX3_readNumber 35 = .ok (.iload_n 3, 1) := by decide +kernel
theorem dX3_readNumber_36 : decode cX3_readNumber 36 = .ok (.ireturn, 1) := by decide +kernel
theorem dX3_kindAhead_0 : decode cX3_kindAhead 0 = .ok (.iconst 0, 1) := by decide +kernel
theorem dX3_kindAhead_1 : decode cX3_kindAhead 1 = .ok (.istore_n 1, 1) := by decide +kernel
theorem dX3_kindAhead_2 : decode cX3_kindAhead 2 = .ok (.iload_n 1, 1) := by decide +kernel
theorem dX3_kindAhead_3 : decode cX3_kindAhead 3 = .ok (.bipush 7, 2) := by decide +kernel
theorem dX3_kindAhead_5 : decode cX3_kindAhead 5 = .ok (.if_icmp .ge 22, 3) := by decide +kernel
theorem dX3_kindAhead_8 : decode cX3_kindAhead 8 = .ok (.aload_n 0, 1) := by decide +kernel
theorem dX3_kindAhead_9 : decode cX3_kindAhead 9 = .ok (.iload_n 1, 1) := by decide +kernel
theorem dX3_kindAhead_10 : decode cX3_kindAhead 10 = .ok (.invokestatic 101, 3) := by decide +kernel
theorem dX3_kindAhead_13 : decode cX3_kindAhead 13 = .ok (.invokevirtual 34, 3) := by decide +kernel
theorem dX3_kindAhead_16 : decode cX3_kindAhead 16 = .ok (.ifCond .eq 5, 3) := by decide +kernel
theorem dX3_kindAhead_19 : decode cX3_kindAhead 19 = .ok (.iload_n 1, 1) := by decide +kernel
theorem dX3_kindAhead_20 : decode cX3_kindAhead 20 = .ok (.ireturn, 1) := by decide +kernel
theorem dX3_kindAhead_21 : decode cX3_kindAhead 21 = .ok (.iinc 1 1, 3) := by decide +kernel
theorem dX3_kindAhead_24 : decode cX3_kindAhead 24 = .ok (.goto (-22), 3) := by decide +kernel
theorem dX3_kindAhead_27 : decode cX3_kindAhead 27 = .ok (.iconst (-1), 1) := by decide +kernel
theorem dX3_kindAhead_28 : decode cX3_kindAhead 28 = .ok (.ireturn, 1) := by decide +kernel
theorem dX3_wordOf_0 : decode cX3_wordOf 0 = .ok (.iload_n 0, 1) := by decide +kernel
theorem dX3_wordOf_1 : decode cX3_wordOf 1 = .ok (.tableswitch 57 1 6 #[39, 42, 45, 48, 51, 54], 39) := by decide +kernel
theorem dX3_wordOf_40 : decode cX3_wordOf 40 = .ok (.ldc 105, 2) := by decide +kernel
theorem dX3_wordOf_42 : decode cX3_wordOf 42 = .ok (.areturn, 1) := by decide +kernel
theorem dX3_wordOf_43 : decode cX3_wordOf 43 = .ok (.ldc 107, 2) := by decide +kernel
theorem dX3_wordOf_45 : decode cX3_wordOf 45 = .ok (.areturn, 1) := by decide +kernel
theorem dX3_wordOf_46 : decode cX3_wordOf 46 = .ok (.ldc 109, 2) := by decide +kernel
theorem dX3_wordOf_48 : decode cX3_wordOf 48 = .ok (.areturn, 1) := by decide +kernel
theorem dX3_wordOf_49 : decode cX3_wordOf 49 = .ok (.ldc 111, 2) := by decide +kernel
theorem dX3_wordOf_51 : decode cX3_wordOf 51 = .ok (.areturn, 1) := by decide +kernel
theorem dX3_wordOf_52 : decode cX3_wordOf 52 = .ok (.ldc 113, 2) := by decide +kernel
theorem dX3_wordOf_54 : decode cX3_wordOf 54 = .ok (.areturn, 1) := by decide +kernel
theorem dX3_wordOf_55 : decode cX3_wordOf 55 = .ok (.ldc 115, 2) := by decide +kernel
theorem dX3_wordOf_57 : decode cX3_wordOf 57 = .ok (.areturn, 1) := by decide +kernel
theorem dX3_wordOf_58 : decode cX3_wordOf 58 = .ok (.ldc 117, 2) := by decide +kernel
theorem dX3_wordOf_60 : decode cX3_wordOf 60 = .ok (.areturn, 1) := by decide +kernel
theorem dX3_isAhead_0 : decode cX3_isAhead 0 = .ok (.aload_n 0, 1) := by decide +kernel
theorem dX3_isAhead_1 : decode cX3_isAhead 1 = .ok (.getfield 45, 3) := by decide +kernel
theorem dX3_isAhead_4 : decode cX3_isAhead 4 = .ok (.iconst 1, 1) := by decide +kernel
theorem dX3_isAhead_5 : decode cX3_isAhead 5 = .ok (.if_icmp .ne 23, 3) := by decide +kernel
theorem dX3_isAhead_8 : decode cX3_isAhead 8 = .ok (.aload_n 1, 1) := by decide +kernel
theorem dX3_isAhead_9 : decode cX3_isAhead 9 = .ok (.ifnull 19, 3) := by decide +kernel
theorem dX3_isAhead_12 : decode cX3_isAhead 12 = .ok (.aload_n 1, 1) := by decide +kernel
theorem dX3_isAhead_13 : decode cX3_isAhead 13 = .ok (.invokevirtual 119, 3) := by decide +kernel
theorem dX3_isAhead_16 : decode cX3_isAhead 16 = .ok (.aload_n 0, 1) := by decide +kernel
theorem dX3_isAhead_17 : decode cX3_isAhead 17 = .ok (.getfield 124, 3) := by decide +kernel
theorem dX3_isAhead_20 : decode cX3_isAhead 20 = .ok (.aload_n 0, 1) := by decide +kernel
theorem dX3_isAhead_21 : decode cX3_isAhead 21 = .ok (.getfield 49, 3) := by decide +kernel
theorem dX3_isAhead_24 : decode cX3_isAhead 24 = .ok (.isub, 1) := by decide +kernel
theorem dX3_isAhead_25 : decode cX3_isAhead 25 = .ok (.if_icmp .eq 5, 3) := by decide +kernel
theorem dX3_isAhead_28 : decode cX3_isAhead 28 = .ok (.iconst 0, 1) := by decide +kernel
theorem dX3_isAhead_29 : decode cX3_isAhead 29 = .ok (.ireturn, 1) := by decide +kernel
theorem dX3_isAhead_30 : decode cX3_isAhead 30 = .ok (.iconst 0, 1) := by decide +kernel
theorem dX3_isAhead_31 : decode cX3_isAhead 31 = .ok (.istore_n 2, 1) := by decide +kernel
theorem dX3_isAhead_32 : decode cX3_isAhead 32 = .ok (.iload_n 2, 1) := by decide +kernel
theorem dX3_isAhead_33 : decode cX3_isAhead 33 = .ok (.aload_n 1, 1) := by decide +kernel
theorem dX3_isAhead_34 : decode cX3_isAhead 34 = .ok (.invokevirtual 119, 3) := by decide +kernel
theorem dX3_isAhead_37 : decode cX3_isAhead 37 = .ok (.if_icmp .ge 32, 3) := by decide +kernel
theorem dX3_isAhead_40 : decode cX3_isAhead 40 = .ok (.aload_n 1, 1) := by decide +kernel
theorem dX3_isAhead_41 : decode cX3_isAhead 41 = .ok (.iload_n 2, 1) := by decide +kernel
theorem dX3_isAhead_42 : decode cX3_isAhead 42 = .ok (.invokevirtual 127, 3) := by decide +kernel
theorem dX3_isAhead_45 : decode cX3_isAhead 45 = .ok (.aload_n 0, 1) := by decide +kernel
theorem dX3_isAhead_46 : decode cX3_isAhead 46 = .ok (.getfield 9, 3) := by decide +kernel
theorem dX3_isAhead_49 : decode cX3_isAhead 49 = .ok (.aload_n 0, 1) := by decide +kernel
theorem dX3_isAhead_50 : decode cX3_isAhead 50 = .ok (.getfield 49, 3) := by decide +kernel
theorem dX3_isAhead_53 : decode cX3_isAhead 53 = .ok (.iload_n 2, 1) := by decide +kernel
theorem dX3_isAhead_54 : decode cX3_isAhead 54 = .ok (.iadd, 1) := by decide +kernel
theorem dX3_isAhead_55 : decode cX3_isAhead 55 = .ok (.invokevirtual 131, 3) := by decide +kernel
theorem dX3_isAhead_58 : decode cX3_isAhead 58 = .ok (.if_icmp .eq 5, 3) := by decide +kernel
theorem dX3_isAhead_61 : decode cX3_isAhead 61 = .ok (.iconst 0, 1) := by decide +kernel
theorem dX3_isAhead_62 : decode cX3_isAhead 62 = .ok (.ireturn, 1) := by decide +kernel
theorem dX3_isAhead_63 : decode cX3_isAhead 63 = .ok (.iinc 2 1, 3) := by decide +kernel
theorem dX3_isAhead_66 : decode cX3_isAhead 66 = .ok (.goto (-34), 3) := by decide +kernel
theorem dX3_isAhead_69 : decode cX3_isAhead 69 = .ok (.iconst 1, 1) := by decide +kernel
theorem dX3_isAhead_70 : decode cX3_isAhead 70 = .ok (.ireturn, 1) := by decide +kernel
theorem dX3_advance_0 : decode cX3_advance 0 = .ok (.aload_n 0, 1) := by decide +kernel
theorem dX3_advance_1 : decode cX3_advance 1 = .ok (.getfield 124, 3) := by decide +kernel
theorem dX3_advance_4 : decode cX3_advance 4 = .ok (.bipush 120, 2) := by decide +kernel
theorem dX3_advance_6 : decode cX3_advance 6 = .ok (.if_icmp .ge 32, 3) := by decide +kernel
theorem dX3_advance_9 : decode cX3_advance 9 = .ok (.aload_n 0, 1) := by decide +kernel
theorem dX3_advance_10 : decode cX3_advance 10 = .ok (.getfield 9, 3) := by decide +kernel
theorem dX3_advance_13 : decode cX3_advance 13 = .ok (.aload_n 0, 1) := by decide +kernel
theorem dX3_advance_14 : decode cX3_advance 14 = .ok (.getfield 124, 3) := by decide +kernel
theorem dX3_advance_17 : decode cX3_advance 17 = .ok (.invokevirtual 131, 3) := by decide +kernel
theorem dX3_advance_20 : decode cX3_advance 20 = .ok (.bipush 32, 2) := by decide +kernel
theorem dX3_advance_22 : decode cX3_advance 22 = .ok (.if_icmp .ne 16, 3) := by decide +kernel
theorem dX3_advance_25 : decode cX3_advance 25 = .ok (.aload_n 0, 1) := by decide +kernel
theorem dX3_advance_26 : decode cX3_advance 26 = .ok (.dup, 1) := by decide +kernel
theorem dX3_advance_27 : decode cX3_advance 27 = .ok (.getfield 124, 3) := by decide +kernel
theorem dX3_advance_30 : decode cX3_advance 30 = .ok (.iconst 1, 1) := by decide +kernel
theorem dX3_advance_31 : decode cX3_advance 31 = .ok (.iadd, 1) := by decide +kernel
theorem dX3_advance_32 : decode cX3_advance 32 = .ok (.putfield 124, 3) := by decide +kernel
theorem dX3_advance_35 : decode cX3_advance 35 = .ok (.goto (-35), 3) := by decide +kernel
theorem dX3_advance_38 : decode cX3_advance 38 = .ok (.aload_n 0, 1) := by decide +kernel
theorem dX3_advance_39 : decode cX3_advance 39 = .ok (.aload_n 0, 1) := by decide +kernel
theorem dX3_advance_40 : decode cX3_advance 40 = .ok (.getfield 124, 3) := by decide +kernel
theorem dX3_advance_43 : decode cX3_advance 43 = .ok (.putfield 49, 3) := by decide +kernel
theorem dX3_advance_46 : decode cX3_advance 46 = .ok (.aload_n 0, 1) := by decide +kernel
theorem dX3_advance_47 : decode cX3_advance 47 = .ok (.aload_n 0, 1) := by decide +kernel
theorem dX3_advance_48 : decode cX3_advance 48 = .ok (.getfield 9, 3) := by decide +kernel
theorem dX3_advance_51 : decode cX3_advance 51 = .ok (.aload_n 0, 1) := by decide +kernel
theorem dX3_advance_52 : decode cX3_advance 52 = .ok (.getfield 124, 3) := by decide +kernel
theorem dX3_advance_55 : decode cX3_advance 55 = .ok (.invokevirtual 131, 3) := by decide +kernel
theorem dX3_advance_58 : decode cX3_advance 58 = .ok (.invokestatic 134, 3) := by decide +kernel
theorem dX3_advance_61 : decode cX3_advance 61 = .ok (.putfield 45, 3) := by decide +kernel
theorem dX3_advance_64 : decode cX3_advance 64 = .ok (.aload_n 0, 1) := by decide +kernel
theorem dX3_advance_65 : decode cX3_advance 65 = .ok (.iconst 0, 1) := by decide +kernel
theorem dX3_advance_66 : decode cX3_advance 66 = .ok (.putfield 96, 3) := by decide +kernel
theorem dX3_advance_69 : decode cX3_advance 69 = .ok (.aload_n 0, 1) := by decide +kernel
theorem dX3_advance_70 : decode cX3_advance 70 = .ok (.getfield 45, 3) := by decide +kernel
theorem dX3_advance_73 : decode cX3_advance 73 = .ok (.iconst 3, 1) := by decide +kernel
theorem dX3_advance_74 : decode cX3_advance 74 = .ok (.if_icmp .eq 11, 3) := by decide +kernel
theorem dX3_advance_77 : decode cX3_advance 77 = .ok (.aload_n 0, 1) := by decide +kernel
theorem dX3_advance_78 : decode cX3_advance 78 = .ok (.getfield 45, 3) := by decide +kernel
theorem dX3_advance_81 : decode cX3_advance 81 = .ok (.iconst 4, 1) := by decide +kernel
theorem dX3_advance_82 : decode cX3_advance 82 = .ok (.if_icmp .ne 14, 3) := by decide +kernel
theorem dX3_advance_85 : decode cX3_advance 85 = .ok (.aload_n 0, 1) := by decide +kernel
theorem dX3_advance_86 : decode cX3_advance 86 = .ok (.dup, 1) := by decide +kernel
theorem dX3_advance_87 : decode cX3_advance 87 = .ok (.getfield 124, 3) := by decide +kernel
theorem dX3_advance_90 : decode cX3_advance 90 = .ok (.iconst 1, 1) := by decide +kernel
theorem dX3_advance_91 : decode cX3_advance 91 = .ok (.iadd, 1) := by decide +kernel
theorem dX3_advance_92 : decode cX3_advance 92 = .ok (.putfield 124, 3) := by decide +kernel
theorem dX3_advance_95 : decode cX3_advance 95 = .ok (.return_, 1) := by decide +kernel
theorem dX3_advance_96 : decode cX3_advance 96 = .ok (.aload_n 0, 1) := by decide +kernel
theorem dX3_advance_97 : decode cX3_advance 97 = .ok (.getfield 45, 3) := by decide +kernel
theorem dX3_advance_100 : decode cX3_advance 100 = .ok (.ifCond .eq 89, 3) := by decide +kernel
theorem dX3_advance_103 : decode cX3_advance 103 = .ok (.aload_n 0, 1) := by decide +kernel
theorem dX3_advance_104 : decode cX3_advance 104 = .ok (.getfield 124, 3) := by decide +kernel
theorem dX3_advance_107 : decode cX3_advance 107 = .ok (.bipush 120, 2) := by decide +kernel
theorem dX3_advance_109 : decode cX3_advance 109 = .ok (.if_icmp .ge 80, 3) := by decide +kernel
theorem dX3_advance_112 : decode cX3_advance 112 = .ok (.aload_n 0, 1) := by decide +kernel
theorem dX3_advance_113 : decode cX3_advance 113 = .ok (.getfield 9, 3) := by decide +kernel
theorem dX3_advance_116 : decode cX3_advance 116 = .ok (.aload_n 0, 1) := by decide +kernel
theorem dX3_advance_117 : decode cX3_advance 117 = .ok (.getfield 124, 3) := by decide +kernel
theorem dX3_advance_120 : decode cX3_advance 120 = .ok (.invokevirtual 131, 3) := by decide +kernel
theorem dX3_advance_123 : decode cX3_advance 123 = .ok (.invokestatic 134, 3) := by decide +kernel
theorem dX3_advance_126 : decode cX3_advance 126 = .ok (.aload_n 0, 1) := by decide +kernel
theorem dX3_advance_127 : decode cX3_advance 127 = .ok (.getfield 45, 3) := by decide +kernel
theorem dX3_advance_130 : decode cX3_advance 130 = .ok (.if_icmp .ne 59, 3) := by decide +kernel
theorem dX3_advance_133 : decode cX3_advance 133 = .ok (.aload_n 0, 1) := by decide +kernel
theorem dX3_advance_134 : decode cX3_advance 134 = .ok (.aload_n 0, 1) := by decide +kernel
theorem dX3_advance_135 : decode cX3_advance 135 = .ok (.getfield 45, 3) := by decide +kernel
theorem dX3_advance_138 : decode cX3_advance 138 = .ok (.iconst 2, 1) := by decide +kernel
theorem dX3_advance_139 : decode cX3_advance 139 = .ok (.if_icmp .ne 33, 3) := by decide +kernel
theorem dX3_advance_142 : decode cX3_advance 142 = .ok (.aload_n 0, 1) := by decide +kernel
theorem dX3_advance_143 : decode cX3_advance 143 = .ok (.getfield 96, 3) := by decide +kernel
theorem dX3_advance_146 : decode cX3_advance 146 = .ok (.bipush 10, 2) := by decide +kernel
theorem dX3_advance_148 : decode cX3_advance 148 = .ok (.imul, 1) := by decide +kernel
theorem dX3_advance_149 : decode cX3_advance 149 = .ok (.aload_n 0, 1) := by decide +kernel
theorem dX3_advance_150 : decode cX3_advance 150 = .ok (.getfield 9, 3) := by decide +kernel
theorem dX3_advance_153 : decode cX3_advance 153 = .ok (.aload_n 0, 1) := by decide +kernel
theorem dX3_advance_154 : decode cX3_advance 154 = .ok (.getfield 124, 3) := by decide +kernel
theorem dX3_advance_157 : decode cX3_advance 157 = .ok (.invokevirtual 131, 3) := by decide +kernel
theorem dX3_advance_160 : decode cX3_advance 160 = .ok (.iadd, 1) := by decide +kernel
theorem dX3_advance_161 : decode cX3_advance 161 = .ok (.bipush 48, 2) := by decide +kernel
theorem dX3_advance_163 : decode cX3_advance 163 = .ok (.isub, 1) := by decide +kernel
theorem dX3_advance_164 : decode cX3_advance 164 = .ok (.ldc 137, 2) := by decide +kernel
theorem dX3_advance_166 : decode cX3_advance 166 = .ok (.invokestatic 138, 3) := by decide +kernel
theorem dX3_advance_169 : decode cX3_advance 169 = .ok (.goto 4, 3) := by decide +kernel
theorem dX3_advance_172 : decode cX3_advance 172 = .ok (.iconst 0, 1) := by decide +kernel
theorem dX3_advance_173 : decode cX3_advance 173 = .ok (.putfield 96, 3) := by decide +kernel
theorem dX3_advance_176 : decode cX3_advance 176 = .ok (.aload_n 0, 1) := by decide +kernel
theorem dX3_advance_177 : decode cX3_advance 177 = .ok (.dup, 1) := by decide +kernel
theorem dX3_advance_178 : decode cX3_advance 178 = .ok (.getfield 124, 3) := by decide +kernel
theorem dX3_advance_181 : decode cX3_advance 181 = .ok (.iconst 1, 1) := by decide +kernel
theorem dX3_advance_182 : decode cX3_advance 182 = .ok (.iadd, 1) := by decide +kernel
theorem dX3_advance_183 : decode cX3_advance 183 = .ok (.putfield 124, 3) := by decide +kernel
theorem dX3_advance_186 : decode cX3_advance 186 = .ok (.goto (-90), 3) := by decide +kernel
theorem dX3_advance_189 : decode cX3_advance 189 = .ok (.return_, 1) := by decide +kernel
theorem dX3_sortOf_0 : decode cX3_sortOf 0 = .ok (.iload_n 0, 1) := by decide +kernel
theorem dX3_sortOf_1 : decode cX3_sortOf 1 = .ok (.bipush 97, 2) := by decide +kernel
theorem dX3_sortOf_3 : decode cX3_sortOf 3 = .ok (.if_icmp .lt 11, 3) := by decide +kernel
theorem dX3_sortOf_6 : decode cX3_sortOf 6 = .ok (.iload_n 0, 1) := by decide +kernel
theorem dX3_sortOf_7 : decode cX3_sortOf 7 = .ok (.bipush 122, 2) := by decide +kernel
theorem dX3_sortOf_9 : decode cX3_sortOf 9 = .ok (.if_icmp .gt 5, 3) := by decide +kernel
theorem dX3_sortOf_12 : decode cX3_sortOf 12 = .ok (.iconst 1, 1) := by decide +kernel
theorem dX3_sortOf_13 : decode cX3_sortOf 13 = .ok (.ireturn, 1) := by decide +kernel
theorem dX3_sortOf_14 : decode cX3_sortOf 14 = .ok (.iload_n 0, 1) := by decide +kernel
theorem dX3_sortOf_15 : decode cX3_sortOf 15 = .ok (.bipush 48, 2) := by decide +kernel
theorem dX3_sortOf_17 : decode cX3_sortOf 17 = .ok (.if_icmp .lt 11, 3) := by decide +kernel
theorem dX3_sortOf_20 : decode cX3_sortOf 20 = .ok (.iload_n 0, 1) := by decide +kernel
theorem dX3_sortOf_21 : decode cX3_sortOf 21 = .ok (.bipush 57, 2) := by decide +kernel
theorem dX3_sortOf_23 : decode cX3_sortOf 23 = .ok (.if_icmp .gt 5, 3) := by decide +kernel
theorem dX3_sortOf_26 : decode cX3_sortOf 26 = .ok (.iconst 2, 1) := by decide +kernel
theorem dX3_sortOf_27 : decode cX3_sortOf 27 = .ok (.ireturn, 1) := by decide +kernel
theorem dX3_sortOf_28 : decode cX3_sortOf 28 = .ok (.iload_n 0, 1) := by decide +kernel
theorem dX3_sortOf_29 : decode cX3_sortOf 29 = .ok (.ifCond .ge 5, 3) := by decide +kernel
theorem dX3_sortOf_32 : decode cX3_sortOf 32 = .ok (.iconst 0, 1) := by decide +kernel
theorem dX3_sortOf_33 : decode cX3_sortOf 33 = .ok (.ireturn, 1) := by decide +kernel
theorem dX3_sortOf_34 : decode cX3_sortOf 34 = .ok (.iload_n 0, 1) := by decide +kernel
theorem dX3_sortOf_35 : decode cX3_sortOf 35 = .ok (.bipush 59, 2) := by decide +kernel
theorem dX3_sortOf_37 : decode cX3_sortOf 37 = .ok (.if_icmp .ne 7, 3) := by decide +kernel
theorem dX3_sortOf_40 : decode cX3_sortOf 40 = .ok (.iconst 3, 1) := by decide +kernel
theorem dX3_sortOf_41 : decode cX3_sortOf 41 = .ok (.goto 4, 3) := by decide +kernel
theorem dX3_sortOf_44 : decode cX3_sortOf 44 = .ok (.iconst 4, 1) := by decide +kernel
theorem dX3_sortOf_45 : decode cX3_sortOf 45 = .ok (.ireturn, 1) := by decide +kernel
theorem dX4_init_0 : decode cX4_init 0 = .ok (.aload_n 0, 1) := by decide +kernel
theorem dX4_init_1 : decode cX4_init 1 = .ok (.invokespecial 1, 3) := by decide +kernel
theorem dX4_init_4 : decode cX4_init 4 = .ok (.aload_n 0, 1) := by decide +kernel
theorem dX4_init_5 : decode cX4_init 5 = .ok (.bipush 40, 2) := by decide +kernel
theorem dX4_init_7 : decode cX4_init 7 = .ok (.newarray .int, 2) := by decide +kernel
theorem dX4_init_9 : decode cX4_init 9 = .ok (.putfield 9, 3) := by decide +kernel
theorem dX4_init_12 : decode cX4_init 12 = .ok (.return_, 1) := by decide +kernel
theorem dX4_hasWidth_0 : decode cX4_hasWidth 0 = .ok (.iload_n 0, 1) := by decide +kernel
theorem dX4_hasWidth_1 : decode cX4_hasWidth 1 = .ok (.bipush 8, 2) := by decide +kernel
theorem dX4_hasWidth_3 : decode cX4_hasWidth 3 = .ok (.if_icmp .eq 15, 3) := by decide +kernel
theorem dX4_hasWidth_6 : decode cX4_hasWidth 6 = .ok (.iload_n 0, 1) := by decide +kernel
theorem dX4_hasWidth_7 : decode cX4_hasWidth 7 = .ok (.bipush 16, 2) := by decide +kernel
theorem dX4_hasWidth_9 : decode cX4_hasWidth 9 = .ok (.if_icmp .eq 9, 3) := by decide +kernel
theorem dX4_hasWidth_12 : decode cX4_hasWidth 12 = .ok (.iload_n 0, 1) := by decide +kernel
theorem dX4_hasWidth_13 : decode cX4_hasWidth 13 = .ok (.bipush 32, 2) := by decide +kernel
theorem dX4_hasWidth_15 : decode cX4_hasWidth 15 = .ok (.if_icmp .ne 7, 3) := by decide +kernel
theorem dX4_hasWidth_18 : decode cX4_hasWidth 18 = .ok (.iconst 1, 1) := by decide +kernel
theorem dX4_hasWidth_19 : decode cX4_hasWidth 19 = .ok (.goto 4, 3) := by decide +kernel
theorem dX4_hasWidth_22 : decode cX4_hasWidth 22 = .ok (.iconst 0, 1) := by decide +kernel
theorem dX4_hasWidth_23 : decode cX4_hasWidth 23 = .ok (.ireturn, 1) := by decide +kernel
theorem dX4_isMissing_0 : decode cX4_isMissing 0 = .ok (.aload_n 0, 1) := by decide +kernel
theorem dX4_isMissing_1 : decode cX4_isMissing 1 = .ok (.getfield 13, 3) := by decide +kernel
theorem dX4_isMissing_4 : decode cX4_isMissing 4 = .ok (.ifCond .ne 7, 3) := by decide +kernel
theorem dX4_isMissing_7 : decode cX4_isMissing 7 = .ok (.iconst 1, 1) := by decide +kernel
theorem dX4_isMissing_8 : decode cX4_isMissing 8 = .ok (.goto 4, 3) := by decide +kernel
theorem dX4_isMissing_11 : decode cX4_isMissing 11 = .ok (.iconst 0, 1) := by decide +kernel
theorem dX4_isMissing_12 : decode cX4_isMissing 12 = .ok (.ireturn, 1) := by decide +kernel
theorem dX4_makeNew_0 : decode cX4_makeNew 0 = .ok (.aload_n 0, 1) := by decide +kernel
theorem dX4_makeNew_1 : decode cX4_makeNew 1 = .ok (.iload_n 1, 1) := by decide +kernel
theorem dX4_makeNew_2 : decode cX4_makeNew 2 = .ok (.putfield 13, 3) := by decide +kernel
theorem dX4_makeNew_5 : decode cX4_makeNew 5 = .ok (.aload_n 0, 1) := by decide +kernel
theorem dX4_makeNew_6 : decode cX4_makeNew 6 = .ok (.iload_n 1, 1) := by decide +kernel
theorem dX4_makeNew_7 : decode cX4_makeNew 7 = .ok (.ifCond .ne 7, 3) := by decide +kernel
theorem dX4_makeNew_10 : decode cX4_makeNew 10 = .ok (.iconst 0, 1) := by decide +kernel
theorem dX4_makeNew_11 : decode cX4_makeNew 11 = .ok (.goto 13, 3) := by decide +kernel
theorem dX4_makeNew_14 : decode cX4_makeNew 14 = .ok (.iconst 0, 1) := by decide +kernel
theorem dX4_makeNew_15 : decode cX4_makeNew 15 = .ok (.iload_n 2, 1) := by decide +kernel
theorem dX4_makeNew_16 : decode cX4_makeNew 16 = .ok (.bipush 40, 2) := by decide +kernel
theorem dX4_makeNew_18 : decode cX4_makeNew 18 = .ok (.invokestatic 17, 3) := by decide +kernel
theorem dX4_makeNew_21 : decode cX4_makeNew 21 = .ok (.invokestatic 23, 3) := by decide +kernel
theorem dX4_makeNew_24 : decode cX4_makeNew 24 = .ok (.putfield 26, 3) := by decide +kernel
theorem dX4_makeNew_27 : decode cX4_makeNew 27 = .ok (.iconst 0, 1) := by decide +kernel
theorem dX4_makeNew_28 : decode cX4_makeNew 28 = .ok (.istore_n 3, 1) := by decide +kernel
theorem dX4_makeNew_29 : decode cX4_makeNew 29 = .ok (.iload_n 3, 1) := by decide +kernel
theorem dX4_makeNew_30 : decode cX4_makeNew 30 = .ok (.bipush 40, 2) := by decide +kernel
theorem dX4_makeNew_32 : decode cX4_makeNew 32 = .ok (.if_icmp .ge 16, 3) := by decide +kernel
theorem dX4_makeNew_35 : decode cX4_makeNew 35 = .ok (.aload_n 0, 1) := by decide +kernel
theorem dX4_makeNew_36 : decode cX4_makeNew 36 = .ok (.getfield 9, 3) := by decide +kernel
theorem dX4_makeNew_39 : decode cX4_makeNew 39 = .ok (.iload_n 3, 1) := by decide +kernel
theorem dX4_makeNew_40 : decode cX4_makeNew 40 = .ok (.iconst 0, 1) := by decide +kernel
theorem dX4_makeNew_41 : decode cX4_makeNew 41 = .ok (.iastore, 1) := by decide +kernel
theorem dX4_makeNew_42 : decode cX4_makeNew 42 = .ok (.iinc 3 1, 3) := by decide +kernel
theorem dX4_makeNew_45 : decode cX4_makeNew 45 = .ok (.goto (-16), 3) := by decide +kernel
theorem dX4_makeNew_48 : decode cX4_makeNew 48 = .ok (.return_, 1) := by decide +kernel
theorem dX4_hasNumbers_0 : decode cX4_hasNumbers 0 = .ok (.iload_n 1, 1) := by decide +kernel
theorem dX4_hasNumbers_1 : decode cX4_hasNumbers 1 = .ok (.ifCond .lt 29, 3) := by decide +kernel
theorem dX4_hasNumbers_4 : decode cX4_hasNumbers 4 = .ok (.iload_n 2, 1) := by decide +kernel
theorem dX4_hasNumbers_5 : decode cX4_hasNumbers 5 = .ok (.ifCond .lt 25, 3) := by decide +kernel
theorem dX4_hasNumbers_8 : decode cX4_hasNumbers 8 = .ok (.iload_n 1, 1) := by decide +kernel
theorem dX4_hasNumbers_9 : decode cX4_hasNumbers 9 = .ok (.aload_n 0, 1) := by decide +kernel
theorem dX4_hasNumbers_10 : decode cX4_hasNumbers 10 = .ok (.getfield 26, 3) := by decide +kernel
theorem dX4_hasNumbers_13 : decode cX4_hasNumbers 13 = .ok (.if_icmp .gt 17, 3) := by decide +kernel
theorem dX4_hasNumbers_16 : decode cX4_hasNumbers 16 = .ok (.iload_n 2, 1) := by decide +kernel
theorem dX4_hasNumbers_17 : decode cX4_hasNumbers 17 = .ok (.aload_n 0, 1) := by decide +kernel
theorem dX4_hasNumbers_18 : decode cX4_hasNumbers 18 = .ok (.getfield 26, 3) := by decide +kernel
theorem dX4_hasNumbers_21 : decode cX4_hasNumbers 21 = .ok (.iload_n 1, 1) := by decide +kernel
theorem dX4_hasNumbers_22 : decode cX4_hasNumbers 22 = .ok (.isub, 1) := by decide +kernel
theorem dX4_hasNumbers_23 : decode cX4_hasNumbers 23 = .ok (.if_icmp .gt 7, 3) := by decide +kernel
theorem dX4_hasNumbers_26 : decode cX4_hasNumbers 26 = .ok (.iconst 1, 1) := by decide +kernel
theorem dX4_hasNumbers_27 : decode cX4_hasNumbers 27 = .ok (.goto 4, 3) := by decide +kernel
theorem dX4_hasNumbers_30 : decode cX4_hasNumbers 30 = .ok (.iconst 0, 1) := by decide +kernel
theorem dX4_hasNumbers_31 : decode cX4_hasNumbers 31 = .ok (.ireturn, 1) := by decide +kernel
theorem dX4_at_0 : decode cX4_at 0 = .ok (.iload_n 1, 1) := by decide +kernel
theorem dX4_at_1 : decode cX4_at 1 = .ok (.ifCond .lt 21, 3) := by decide +kernel
theorem dX4_at_4 : decode cX4_at 4 = .ok (.iload_n 1, 1) := by decide +kernel
theorem dX4_at_5 : decode cX4_at 5 = .ok (.aload_n 0, 1) := by decide +kernel
theorem dX4_at_6 : decode cX4_at 6 = .ok (.getfield 9, 3) := by decide +kernel
theorem dX4_at_9 : decode cX4_at 9 = .ok (.arraylength, 1) := by decide +kernel
theorem dX4_at_10 : decode cX4_at 10 = .ok (.if_icmp .ge 12, 3) := by decide +kernel
theorem dX4_at_13 : decode cX4_at 13 = .ok (.aload_n 0, 1) := by decide +kernel
theorem dX4_at_14 : decode cX4_at 14 = .ok (.getfield 9, 3) := by decide +kernel
theorem dX4_at_17 : decode cX4_at 17 = .ok (.iload_n 1, 1) := by decide +kernel
theorem dX4_at_18 : decode cX4_at 18 = .ok (.iaload, 1) := by decide +kernel
theorem dX4_at_19 : decode cX4_at 19 = .ok (.goto 4, 3) := by decide +kernel
theorem dX4_at_22 : decode cX4_at 22 = .ok (.iconst 0, 1) := by decide +kernel
theorem dX4_at_23 : decode cX4_at 23 = .ok (.ireturn, 1) := by decide +kernel
theorem dX4_put_0 : decode cX4_put 0 = .ok (.iload_n 1, 1) := by decide +kernel
theorem dX4_put_1 : decode cX4_put 1 = .ok (.ifCond .lt 12, 3) := by decide +kernel
theorem dX4_put_4 : decode cX4_put 4 = .ok (.iload_n 1, 1) := by decide +kernel
theorem dX4_put_5 : decode cX4_put 5 = .ok (.aload_n 0, 1) := by decide +kernel
theorem dX4_put_6 : decode cX4_put 6 = .ok (.getfield 9, 3) := by decide +kernel
theorem dX4_put_9 : decode cX4_put 9 = .ok (.arraylength, 1) := by decide +kernel
theorem dX4_put_10 : decode cX4_put 10 = .ok (.if_icmp .lt 4, 3) := by decide +kernel
theorem dX4_put_13 : decode cX4_put 13 = .ok (.return_, 1) := by decide +kernel
theorem dX4_put_14 : decode cX4_put 14 = .ok (.aload_n 0, 1) := by decide +kernel
theorem dX4_put_15 : decode cX4_put 15 = .ok (.getfield 13, 3) := by decide +kernel
theorem dX4_put_18 : decode cX4_put 18 = .ok (.bipush 8, 2) := by decide +kernel
theorem dX4_put_20 : decode cX4_put 20 = .ok (.if_icmp .ne 14, 3) := by decide +kernel
theorem dX4_put_23 : decode cX4_put 23 = .ok (.aload_n 0, 1) := by decide +kernel
theorem dX4_put_24 : decode cX4_put 24 = .ok (.getfield 9, 3) := by decide +kernel
theorem dX4_put_27 : decode cX4_put 27 = .ok (.iload_n 1, 1) := by decide +kernel
theorem dX4_put_28 : decode cX4_put 28 = .ok (.iload_n 2, 1) := by decide +kernel
theorem dX4_put_29 : decode cX4_put 29 = .ok (.i2b, 1) := by decide +kernel
theorem dX4_put_30 : decode cX4_put 30 = .ok (.iastore, 1) := by decide +kernel
theorem dX4_put_31 : decode cX4_put 31 = .ok (.goto 30, 3) := by decide +kernel
theorem dX4_put_34 : decode cX4_put 34 = .ok (.aload_n 0, 1) := by decide +kernel
theorem dX4_put_35 : decode cX4_put 35 = .ok (.getfield 13, 3) := by decide +kernel
theorem dX4_put_38 : decode cX4_put 38 = .ok (.bipush 16, 2) := by decide +kernel
theorem dX4_put_40 : decode cX4_put 40 = .ok (.if_icmp .ne 14, 3) := by decide +kernel
theorem dX4_put_43 : decode cX4_put 43 = .ok (.aload_n 0, 1) := by decide +kernel
theorem dX4_put_44 : decode cX4_put 44 = .ok (.getfield 9, 3) := by decide +kernel
theorem dX4_put_47 : decode cX4_put 47 = .ok (.iload_n 1, 1) := by decide +kernel
theorem dX4_put_48 : decode cX4_put 48 = .ok (.iload_n 2, 1) := by decide +kernel
theorem dX4_put_49 : decode cX4_put 49 = .ok (.i2s, 1) := by decide +kernel
theorem dX4_put_50 : decode cX4_put 50 = .ok (.iastore, 1) := by decide +kernel
theorem dX4_put_51 : decode cX4_put 51 = .ok (.goto 10, 3) := by decide +kernel
theorem dX4_put_54 : decode cX4_put 54 = .ok (.aload_n 0, 1) := by decide +kernel
theorem dX4_put_55 : decode cX4_put 55 = .ok (.getfield 9, 3) := by decide +kernel
theorem dX4_put_58 : decode cX4_put 58 = .ok (.iload_n 1, 1) := by decide +kernel
theorem dX4_put_59 : decode cX4_put 59 = .ok (.iload_n 2, 1) := by decide +kernel
theorem dX4_put_60 : decode cX4_put 60 = .ok (.iastore, 1) := by decide +kernel
theorem dX4_put_61 : decode cX4_put 61 = .ok (.return_, 1) := by decide +kernel
theorem dX5_init_0 : decode cX5_init 0 = .ok (.aload_n 0, 1) := by decide +kernel
theorem dX5_init_1 : decode cX5_init 1 = .ok (.invokespecial 1, 3) := by decide +kernel
theorem dX5_init_4 : decode cX5_init 4 = .ok (.aload_n 0, 1) := by decide +kernel
theorem dX5_init_5 : decode cX5_init 5 = .ok (.iload_n 1, 1) := by decide +kernel
theorem dX5_init_6 : decode cX5_init 6 = .ok (.bipush 8, 2) := by decide +kernel
theorem dX5_init_8 : decode cX5_init 8 = .ok (.invokestatic 9, 3) := by decide +kernel
theorem dX5_init_11 : decode cX5_init 11 = .ok (.putfield 15, 3) := by decide +kernel
theorem dX5_init_14 : decode cX5_init 14 = .ok (.aload_n 0, 1) := by decide +kernel
theorem dX5_init_15 : decode cX5_init 15 = .ok (.aload_n 2, 1) := by decide +kernel
theorem dX5_init_16 : decode cX5_init 16 = .ok (.putfield 19, 3) := by decide +kernel
theorem dX5_init_19 : decode cX5_init 19 = .ok (.aload_n 0, 1) := by decide +kernel
theorem dX5_init_20 : decode cX5_init 20 = .ok (.aload_n 3, 1) := by decide +kernel
theorem dX5_init_21 : decode cX5_init 21 = .ok (.putfield 23, 3) := by decide +kernel
theorem dX5_init_24 : decode cX5_init 24 = .ok (.aload_n 0, 1) := by decide +kernel
theorem dX5_init_25 : decode cX5_init 25 = .ok (.bipush 32, 2) := by decide +kernel
theorem dX5_init_27 : decode cX5_init 27 = .ok (.newarray .int, 2) := by decide +kernel
theorem dX5_init_29 : decode cX5_init 29 = .ok (.putfield 26, 3) := by decide +kernel
theorem dX5_init_32 : decode cX5_init 32 = .ok (.return_, 1) := by decide +kernel
theorem dX5_hasRow_0 : decode cX5_hasRow 0 = .ok (.iload_n 1, 1) := by decide +kernel
theorem dX5_hasRow_1 : decode cX5_hasRow 1 = .ok (.ifCond .lt 15, 3) := by decide +kernel
theorem dX5_hasRow_4 : decode cX5_hasRow 4 = .ok (.iload_n 1, 1) := by decide +kernel
theorem dX5_hasRow_5 : decode cX5_hasRow 5 = .ok (.aload_n 0, 1) := by decide +kernel
theorem dX5_hasRow_6 : decode cX5_hasRow 6 = .ok (.getfield 15, 3) := by decide +kernel
theorem dX5_hasRow_9 : decode cX5_hasRow 9 = .ok (.if_icmp .ge 7, 3) := by decide +kernel
theorem dX5_hasRow_12 : decode cX5_hasRow 12 = .ok (.iconst 1, 1) := by decide +kernel
theorem dX5_hasRow_13 : decode cX5_hasRow 13 = .ok (.goto 4, 3) := by decide +kernel
theorem dX5_hasRow_16 : decode cX5_hasRow 16 = .ok (.iconst 0, 1) := by decide +kernel
theorem dX5_hasRow_17 : decode cX5_hasRow 17 = .ok (.ireturn, 1) := by decide +kernel
theorem dX5_hasColumn_0 : decode cX5_hasColumn 0 = .ok (.iload_n 1, 1) := by decide +kernel
theorem dX5_hasColumn_1 : decode cX5_hasColumn 1 = .ok (.ifCond .lt 12, 3) := by decide +kernel
theorem dX5_hasColumn_4 : decode cX5_hasColumn 4 = .ok (.iload_n 1, 1) := by decide +kernel
theorem dX5_hasColumn_5 : decode cX5_hasColumn 5 = .ok (.iconst 4, 1) := by decide +kernel
theorem dX5_hasColumn_6 : decode cX5_hasColumn 6 = .ok (.if_icmp .ge 7, 3) := by decide +kernel
theorem dX5_hasColumn_9 : decode cX5_hasColumn 9 = .ok (.iconst 1, 1) := by decide +kernel
theorem dX5_hasColumn_10 : decode cX5_hasColumn 10 = .ok (.goto 4, 3) := by decide +kernel
theorem dX5_hasColumn_13 : decode cX5_hasColumn 13 = .ok (.iconst 0, 1) := by decide +kernel
theorem dX5_hasColumn_14 : decode cX5_hasColumn 14 = .ok (.ireturn, 1) := by decide +kernel
theorem dX5_takes_0 : decode cX5_takes 0 = .ok (.iload_n 1, 1) := by decide +kernel
theorem dX5_takes_1 : decode cX5_takes 1 = .ok (.ifCond .lt 45, 3) := by decide +kernel
theorem dX5_takes_4 : decode cX5_takes 4 = .ok (.iload_n 1, 1) := by decide +kernel
theorem dX5_takes_5 : decode cX5_takes 5 = .ok (.aload_n 0, 1) := by decide +kernel
theorem dX5_takes_6 : decode cX5_takes 6 = .ok (.getfield 19, 3) := by decide +kernel
theorem dX5_takes_9 : decode cX5_takes 9 = .ok (.arraylength, 1) := by decide +kernel
theorem dX5_takes_10 : decode cX5_takes 10 = .ok (.if_icmp .ge 36, 3) := by decide +kernel
theorem dX5_takes_13 : decode cX5_takes 13 = .ok (.iload_n 1, 1) := by decide +kernel
theorem dX5_takes_14 : decode cX5_takes 14 = .ok (.aload_n 0, 1) := by decide +kernel
theorem dX5_takes_15 : decode cX5_takes 15 = .ok (.getfield 23, 3) := by decide +kernel
theorem dX5_takes_18 : decode cX5_takes 18 = .ok (.arraylength, 1) := by decide +kernel
theorem dX5_takes_19 : decode cX5_takes 19 = .ok (.if_icmp .ge 27, 3) := by decide +kernel
theorem dX5_takes_22 : decode cX5_takes 22 = .ok (.iload_n 2, 1) := by decide +kernel
theorem dX5_takes_23 : decode cX5_takes 23 = .ok (.aload_n 0, 1) := by decide +kernel
theorem dX5_takes_24 : decode cX5_takes 24 = .ok (.getfield 19, 3) := by decide +kernel
theorem dX5_takes_27 : decode cX5_takes 27 = .ok (.iload_n 1, 1) := by decide +kernel
theorem dX5_takes_28 : decode cX5_takes 28 = .ok (.iaload, 1) := by decide +kernel
theorem dX5_takes_29 : decode cX5_takes 29 = .ok (.if_icmp .lt 17, 3) := by decide +kernel
theorem dX5_takes_32 : decode cX5_takes 32 = .ok (.iload_n 2, 1) := by decide +kernel
theorem dX5_takes_33 : decode cX5_takes 33 = .ok (.aload_n 0, 1) := by decide +kernel
theorem dX5_takes_34 : decode cX5_takes 34 = .ok (.getfield 23, 3) := by decide +kernel
theorem dX5_takes_37 : decode cX5_takes 37 = .ok (.iload_n 1, 1) := by decide +kernel
theorem dX5_takes_38 : decode cX5_takes 38 = .ok (.iaload, 1) := by decide +kernel
theorem dX5_takes_39 : decode cX5_takes 39 = .ok (.if_icmp .gt 7, 3) := by decide +kernel
theorem dX5_takes_42 : decode cX5_takes 42 = .ok (.iconst 1, 1) := by decide +kernel
theorem dX5_takes_43 : decode cX5_takes 43 = .ok (.goto 4, 3) := by decide +kernel
theorem dX5_takes_46 : decode cX5_takes 46 = .ok (.iconst 0, 1) := by decide +kernel
theorem dX5_takes_47 : decode cX5_takes 47 = .ok (.ireturn, 1) := by decide +kernel
theorem dX5_at_0 : decode cX5_at 0 = .ok (.iload_n 1, 1) := by decide +kernel
theorem dX5_at_1 : decode cX5_at 1 = .ok (.ifCond .lt 20, 3) := by decide +kernel
theorem dX5_at_4 : decode cX5_at 4 = .ok (.iload_n 1, 1) := by decide +kernel
theorem dX5_at_5 : decode cX5_at 5 = .ok (.aload_n 0, 1) := by decide +kernel
theorem dX5_at_6 : decode cX5_at 6 = .ok (.getfield 15, 3) := by decide +kernel
theorem dX5_at_9 : decode cX5_at 9 = .ok (.if_icmp .ge 12, 3) := by decide +kernel
theorem dX5_at_12 : decode cX5_at 12 = .ok (.iload_n 2, 1) := by decide +kernel
theorem dX5_at_13 : decode cX5_at 13 = .ok (.ifCond .lt 8, 3) := by decide +kernel
theorem dX5_at_16 : decode cX5_at 16 = .ok (.iload_n 2, 1) := by decide +kernel
theorem dX5_at_17 : decode cX5_at 17 = .ok (.iconst 4, 1) := by decide +kernel
theorem dX5_at_18 : decode cX5_at 18 = .ok (.if_icmp .lt 5, 3) := by decide +kernel
theorem dX5_at_21 : decode cX5_at 21 = .ok (.iconst 0, 1) := by decide +kernel
theorem dX5_at_22 : decode cX5_at 22 = .ok (.ireturn, 1) := by decide +kernel
theorem dX5_at_23 : decode cX5_at 23 = .ok (.aload_n 0, 1) := by decide +kernel
theorem dX5_at_24 : decode cX5_at 24 = .ok (.getfield 26, 3) := by decide +kernel
theorem dX5_at_27 : decode cX5_at 27 = .ok (.iload_n 1, 1) := by decide +kernel
theorem dX5_at_28 : decode cX5_at 28 = .ok (.iconst 4, 1) := by decide +kernel
theorem dX5_at_29 : decode cX5_at 29 = .ok (.imul, 1) := by decide +kernel
theorem dX5_at_30 : decode cX5_at 30 = .ok (.iload_n 2, 1) := by decide +kernel
theorem dX5_at_31 : decode cX5_at 31 = .ok (.iadd, 1) := by decide +kernel
theorem dX5_at_32 : decode cX5_at 32 = .ok (.iaload, 1) := by decide +kernel
theorem dX5_at_33 : decode cX5_at 33 = .ok (.ireturn, 1) := by decide +kernel
theorem dX5_put_0 : decode cX5_put 0 = .ok (.iload_n 1, 1) := by decide +kernel
theorem dX5_put_1 : decode cX5_put 1 = .ok (.ifCond .lt 31, 3) := by decide +kernel
theorem dX5_put_4 : decode cX5_put 4 = .ok (.iload_n 1, 1) := by decide +kernel
theorem dX5_put_5 : decode cX5_put 5 = .ok (.aload_n 0, 1) := by decide +kernel
theorem dX5_put_6 : decode cX5_put 6 = .ok (.getfield 15, 3) := by decide +kernel
theorem dX5_put_9 : decode cX5_put 9 = .ok (.if_icmp .ge 23, 3) := by decide +kernel
theorem dX5_put_12 : decode cX5_put 12 = .ok (.iload_n 2, 1) := by decide +kernel
theorem dX5_put_13 : decode cX5_put 13 = .ok (.ifCond .lt 19, 3) := by decide +kernel
theorem dX5_put_16 : decode cX5_put 16 = .ok (.iload_n 2, 1) := by decide +kernel
theorem dX5_put_17 : decode cX5_put 17 = .ok (.iconst 4, 1) := by decide +kernel
theorem dX5_put_18 : decode cX5_put 18 = .ok (.if_icmp .ge 14, 3) := by decide +kernel
theorem dX5_put_21 : decode cX5_put 21 = .ok (.aload_n 0, 1) := by decide +kernel
theorem dX5_put_22 : decode cX5_put 22 = .ok (.getfield 26, 3) := by decide +kernel
theorem dX5_put_25 : decode cX5_put 25 = .ok (.iload_n 1, 1) := by decide +kernel
theorem dX5_put_26 : decode cX5_put 26 = .ok (.iconst 4, 1) := by decide +kernel
theorem dX5_put_27 : decode cX5_put 27 = .ok (.imul, 1) := by decide +kernel
theorem dX5_put_28 : decode cX5_put 28 = .ok (.iload_n 2, 1) := by decide +kernel
theorem dX5_put_29 : decode cX5_put 29 = .ok (.iadd, 1) := by decide +kernel
theorem dX5_put_30 : decode cX5_put 30 = .ok (.iload_n 3, 1) := by decide +kernel
theorem dX5_put_31 : decode cX5_put 31 = .ok (.iastore, 1) := by decide +kernel
theorem dX5_put_32 : decode cX5_put 32 = .ok (.return_, 1) := by decide +kernel
theorem dX5_become_0 : decode cX5_become 0 = .ok (.aload_n 1, 1) := by decide +kernel
theorem dX5_become_1 : decode cX5_become 1 = .ok (.ifnull 14, 3) := by decide +kernel
theorem dX5_become_4 : decode cX5_become 4 = .ok (.aload_n 1, 1) := by decide +kernel
theorem dX5_become_5 : decode cX5_become 5 = .ok (.getfield 26, 3) := by decide +kernel
theorem dX5_become_8 : decode cX5_become 8 = .ok (.aload_n 0, 1) := by decide +kernel
theorem dX5_become_9 : decode cX5_become 9 = .ok (.getfield 26, 3) := by decide +kernel
theorem dX5_become_12 : decode cX5_become 12 = .ok (.invokestatic 29, 3) := by decide +kernel
theorem dX5_become_15 : decode cX5_become 15 = .ok (.return_, 1) := by decide +kernel
theorem dX6_init_0 : decode cX6_init 0 = .ok (.aload_n 0, 1) := by decide +kernel
theorem dX6_init_1 : decode cX6_init 1 = .ok (.invokespecial 1, 3) := by decide +kernel
theorem dX6_init_4 : decode cX6_init 4 = .ok (.aload_n 0, 1) := by decide +kernel
theorem dX6_init_5 : decode cX6_init 5 = .ok (.bipush 120, 2) := by decide +kernel
theorem dX6_init_7 : decode cX6_init 7 = .ok (.newarray .int, 2) := by decide +kernel
theorem dX6_init_9 : decode cX6_init 9 = .ok (.putfield 9, 3) := by decide +kernel
theorem dX6_init_12 : decode cX6_init 12 = .ok (.return_, 1) := by decide +kernel
theorem dX6_append_0 : decode cX6_append 0 = .ok (.aload_n 0, 1) := by decide +kernel
theorem dX6_append_1 : decode cX6_append 1 = .ok (.getfield 13, 3) := by decide +kernel
theorem dX6_append_4 : decode cX6_append 4 = .ok (.ifCond .lt 36, 3) := by decide +kernel
theorem dX6_append_7 : decode cX6_append 7 = .ok (.aload_n 0, 1) := by decide +kernel
theorem dX6_append_8 : decode cX6_append 8 = .ok (.getfield 13, 3) := by decide +kernel
theorem dX6_append_11 : decode cX6_append 11 = .ok (.bipush 120, 2) := by decide +kernel
theorem dX6_append_13 : decode cX6_append 13 = .ok (.if_icmp .ge 27, 3) := by decide +kernel
theorem dX6_append_16 : decode cX6_append 16 = .ok (.aload_n 0, 1) := by decide +kernel
theorem dX6_append_17 : decode cX6_append 17 = .ok (.getfield 9, 3) := by decide +kernel
theorem dX6_append_20 : decode cX6_append 20 = .ok (.aload_n 0, 1) := by decide +kernel
theorem dX6_append_21 : decode cX6_append 21 = .ok (.getfield 13, 3) := by decide +kernel
theorem dX6_append_24 : decode cX6_append 24 = .ok (.iload_n 1, 1) := by decide +kernel
theorem dX6_append_25 : decode cX6_append 25 = .ok (.sipush 255, 3) := by decide +kernel
theorem dX6_append_28 : decode cX6_append 28 = .ok (.iand, 1) := by decide +kernel
theorem dX6_append_29 : decode cX6_append 29 = .ok (.iastore, 1) := by decide +kernel
theorem dX6_append_30 : decode cX6_append 30 = .ok (.aload_n 0, 1) := by decide +kernel
theorem dX6_append_31 : decode cX6_append 31 = .ok (.dup, 1) := by decide +kernel
theorem dX6_append_32 : decode cX6_append 32 = .ok (.getfield 13, 3) := by decide +kernel
theorem dX6_append_35 : decode cX6_append 35 = .ok (.iconst 1, 1) := by decide +kernel
theorem dX6_append_36 : decode cX6_append 36 = .ok (.iadd, 1) := by decide +kernel
theorem dX6_append_37 : decode cX6_append 37 = .ok (.putfield 13, 3) := by decide +kernel
theorem dX6_append_40 : decode cX6_append 40 = .ok (.return_, 1) := by decide +kernel
theorem dX6_at_0 : decode cX6_at 0 = .ok (.iload_n 1, 1) := by decide +kernel
theorem dX6_at_1 : decode cX6_at 1 = .ok (.ifCond .lt 26, 3) := by decide +kernel
theorem dX6_at_4 : decode cX6_at 4 = .ok (.iload_n 1, 1) := by decide +kernel
theorem dX6_at_5 : decode cX6_at 5 = .ok (.aload_n 0, 1) := by decide +kernel
theorem dX6_at_6 : decode cX6_at 6 = .ok (.getfield 13, 3) := by decide +kernel
theorem dX6_at_9 : decode cX6_at 9 = .ok (.if_icmp .ge 18, 3) := by decide +kernel
theorem dX6_at_12 : decode cX6_at 12 = .ok (.iload_n 1, 1) := by decide +kernel
theorem dX6_at_13 : decode cX6_at 13 = .ok (.bipush 120, 2) := by decide +kernel
theorem dX6_at_15 : decode cX6_at 15 = .ok (.if_icmp .ge 12, 3) := by decide +kernel
theorem dX6_at_18 : decode cX6_at 18 = .ok (.aload_n 0, 1) := by decide +kernel
theorem dX6_at_19 : decode cX6_at 19 = .ok (.getfield 9, 3) := by decide +kernel
theorem dX6_at_22 : decode cX6_at 22 = .ok (.iload_n 1, 1) := by decide +kernel
theorem dX6_at_23 : decode cX6_at 23 = .ok (.iaload, 1) := by decide +kernel
theorem dX6_at_24 : decode cX6_at 24 = .ok (.goto 4, 3) := by decide +kernel
theorem dX6_at_27 : decode cX6_at 27 = .ok (.iconst (-1), 1) := by decide +kernel
theorem dX6_at_28 : decode cX6_at 28 = .ok (.ireturn, 1) := by decide +kernel
theorem dX7_init_0 : decode cX7_init 0 = .ok (.aload_n 0, 1) := by decide +kernel
theorem dX7_init_1 : decode cX7_init 1 = .ok (.invokespecial 1, 3) := by decide +kernel
theorem dX7_init_4 : decode cX7_init 4 = .ok (.aload_n 0, 1) := by decide +kernel
theorem dX7_init_5 : decode cX7_init 5 = .ok (.new 7, 3) := by decide +kernel
theorem dX7_init_8 : decode cX7_init 8 = .ok (.dup, 1) := by decide +kernel
theorem dX7_init_9 : decode cX7_init 9 = .ok (.invokespecial 9, 3) := by decide +kernel
theorem dX7_init_12 : decode cX7_init 12 = .ok (.putfield 10, 3) := by decide +kernel
theorem dX7_init_15 : decode cX7_init 15 = .ok (.aload_n 0, 1) := by decide +kernel
theorem dX7_init_16 : decode cX7_init 16 = .ok (.new 7, 3) := by decide +kernel
theorem dX7_init_19 : decode cX7_init 19 = .ok (.dup, 1) := by decide +kernel
theorem dX7_init_20 : decode cX7_init 20 = .ok (.invokespecial 9, 3) := by decide +kernel
theorem dX7_init_23 : decode cX7_init 23 = .ok (.putfield 16, 3) := by decide +kernel
theorem dX7_init_26 : decode cX7_init 26 = .ok (.aload_n 0, 1) := by decide +kernel
theorem dX7_init_27 : decode cX7_init 27 = .ok (.new 7, 3) := by decide +kernel
theorem dX7_init_30 : decode cX7_init 30 = .ok (.dup, 1) := by decide +kernel
theorem dX7_init_31 : decode cX7_init 31 = .ok (.invokespecial 9, 3) := by decide +kernel
theorem dX7_init_34 : decode cX7_init 34 = .ok (.putfield 19, 3) := by decide +kernel
theorem dX7_init_37 : decode cX7_init 37 = .ok (.aload_n 0, 1) := by decide +kernel
theorem dX7_init_38 : decode cX7_init 38 = .ok (.new 22, 3) := by decide +kernel
theorem dX7_init_41 : decode cX7_init 41 = .ok (.dup, 1) := by decide +kernel
theorem dX7_init_42 : decode cX7_init 42 = .ok (.invokespecial 24, 3) := by decide +kernel
theorem dX7_init_45 : decode cX7_init 45 = .ok (.putfield 25, 3) := by decide +kernel
theorem dX7_init_48 : decode cX7_init 48 = .ok (.aload_n 0, 1) := by decide +kernel
theorem dX7_init_49 : decode cX7_init 49 = .ok (.iconst 4, 1) := by decide +kernel
theorem dX7_init_50 : decode cX7_init 50 = .ok (.anewarray 29, 3) := by decide +kernel
theorem dX7_init_53 : decode cX7_init 53 = .ok (.putfield 31, 3) := by decide +kernel
theorem dX7_init_56 : decode cX7_init 56 = .ok (.iconst 0, 1) := by decide +kernel
theorem dX7_init_57 : decode cX7_init 57 = .ok (.istore_n 1, 1) := by decide +kernel
theorem dX7_init_58 : decode cX7_init 58 = .ok (.iload_n 1, 1) := by decide +kernel
theorem dX7_init_59 : decode cX7_init 59 = .ok (.iconst 4, 1) := by decide +kernel
theorem dX7_init_60 : decode cX7_init 60 = .ok (.if_icmp .ge 22, 3) := by decide +kernel
theorem dX7_init_63 : decode cX7_init 63 = .ok (.aload_n 0, 1) := by decide +kernel
theorem dX7_init_64 : decode cX7_init 64 = .ok (.getfield 31, 3) := by decide +kernel
theorem dX7_init_67 : decode cX7_init 67 = .ok (.iload_n 1, 1) := by decide +kernel
theorem dX7_init_68 : decode cX7_init 68 = .ok (.new 29, 3) := by decide +kernel
theorem dX7_init_71 : decode cX7_init 71 = .ok (.dup, 1) := by decide +kernel
theorem dX7_init_72 : decode cX7_init 72 = .ok (.invokespecial 35, 3) := by decide +kernel
theorem dX7_init_75 : decode cX7_init 75 = .ok (.aastore, 1) := by decide +kernel
theorem dX7_init_76 : decode cX7_init 76 = .ok (.iinc 1 1, 3) := by decide +kernel
theorem dX7_init_79 : decode cX7_init 79 = .ok (.goto (-21), 3) := by decide +kernel
theorem dX7_init_82 : decode cX7_init 82 = .ok (.aload_n 0, 1) := by decide +kernel
theorem dX7_init_83 : decode cX7_init 83 = .ok (.new 36, 3) := by decide +kernel
theorem dX7_init_86 : decode cX7_init 86 = .ok (.dup, 1) := by decide +kernel
theorem dX7_init_87 : decode cX7_init 87 = .ok (.invokespecial 38, 3) := by decide +kernel
theorem dX7_init_90 : decode cX7_init 90 = .ok (.putfield 39, 3) := by decide +kernel
theorem dX7_init_93 : decode cX7_init 93 = .ok (.aload_n 0, 1) := by decide +kernel
theorem dX7_init_94 : decode cX7_init 94 = .ok (.bipush 7, 2) := by decide +kernel
theorem dX7_init_96 : decode cX7_init 96 = .ok (.newarray .int, 2) := by decide +kernel
theorem dX7_init_98 : decode cX7_init 98 = .ok (.putfield 43, 3) := by decide +kernel
theorem dX7_init_101 : decode cX7_init 101 = .ok (.aload_n 0, 1) := by decide +kernel
theorem dX7_init_102 : decode cX7_init 102 = .ok (.iconst 0, 1) := by decide +kernel
theorem dX7_init_103 : decode cX7_init 103 = .ok (.putfield 47, 3) := by decide +kernel
theorem dX7_init_106 : decode cX7_init 106 = .ok (.return_, 1) := by decide +kernel
theorem dX7_egg_0 : decode cX7_egg 0 = .ok (.aload_n 0, 1) := by decide +kernel
theorem dX7_egg_1 : decode cX7_egg 1 = .ok (.getfield 10, 3) := by decide +kernel
theorem dX7_egg_4 : decode cX7_egg 4 = .ok (.getfield 51, 3) := by decide +kernel
theorem dX7_egg_7 : decode cX7_egg 7 = .ok (.astore 4, 2) := by decide +kernel
theorem dX7_egg_9 : decode cX7_egg 9 = .ok (.aload 4, 2) := by decide +kernel
theorem dX7_egg_11 : decode cX7_egg 11 = .ok (.iconst 0, 1) := by decide +kernel
theorem dX7_egg_12 : decode cX7_egg 12 = .ok (.iload_n 1, 1) := by decide +kernel
theorem dX7_egg_13 : decode cX7_egg 13 = .ok (.invokevirtual 55, 3) := by decide +kernel
theorem dX7_egg_16 : decode cX7_egg 16 = .ok (.ifCond .eq 23, 3) := by decide +kernel
theorem dX7_egg_19 : decode cX7_egg 19 = .ok (.aload 4, 2) := by decide +kernel
theorem dX7_egg_21 : decode cX7_egg 21 = .ok (.iconst 1, 1) := by decide +kernel
theorem dX7_egg_22 : decode cX7_egg 22 = .ok (.iload_n 2, 1) := by decide +kernel
theorem dX7_egg_23 : decode cX7_egg 23 = .ok (.invokevirtual 55, 3) := by decide +kernel
theorem dX7_egg_26 : decode cX7_egg 26 = .ok (.ifCond .eq 13, 3) := by decide +kernel
theorem dX7_egg_29 : decode cX7_egg 29 = .ok (.aload 4, 2) := by decide +kernel
theorem dX7_egg_31 : decode cX7_egg 31 = .ok (.iconst 3, 1) := by decide +kernel
theorem dX7_egg_32 : decode cX7_egg 32 = .ok (.iload_n 3, 1) := by decide +kernel
theorem dX7_egg_33 : decode cX7_egg 33 = .ok (.invokevirtual 55, 3) := by decide +kernel
theorem dX7_egg_36 : decode cX7_egg 36 = .ok (.ifCond .ne 9, 3) := by decide +kernel
theorem dX7_egg_39 : decode cX7_egg 39 = .ok (.aload_n 0, 1) := by decide +kernel
theorem dX7_egg_40 : decode cX7_egg 40 = .ok (.iconst 0, 1) := by decide +kernel
theorem dX7_egg_41 : decode cX7_egg 41 = .ok (.invokevirtual 61, 3) := by decide +kernel
theorem dX7_egg_44 : decode cX7_egg 44 = .ok (.ireturn, 1) := by decide +kernel
theorem dX7_egg_45 : decode cX7_egg 45 = .ok (.aload_n 0, 1) := by decide +kernel
theorem dX7_egg_46 : decode cX7_egg 46 = .ok (.getfield 10, 3) := by decide +kernel
theorem dX7_egg_49 : decode cX7_egg 49 = .ok (.invokevirtual 65, 3) := by decide +kernel
theorem dX7_egg_52 : decode cX7_egg 52 = .ok (.istore 5, 2) := by decide +kernel
theorem dX7_egg_54 : decode cX7_egg 54 = .ok (.iload 5, 2) := by decide +kernel
theorem dX7_egg_56 : decode cX7_egg 56 = .ok (.ifCond .ge 9, 3) := by decide +kernel
theorem dX7_egg_59 : decode cX7_egg 59 = .ok (.aload_n 0, 1) := by decide +kernel
theorem dX7_egg_60 : decode cX7_egg 60 = .ok (.iconst 1, 1) := by decide +kernel
theorem dX7_egg_61 : decode cX7_egg 61 = .ok (.invokevirtual 61, 3) := by decide +kernel
theorem dX7_egg_64 : decode cX7_egg 64 = .ok (.ireturn, 1) := by decide +kernel
theorem dX7_egg_65 : decode cX7_egg 65 = .ok (.aload_n 0, 1) := by decide +kernel
theorem dX7_egg_66 : decode cX7_egg 66 = .ok (.getfield 10, 3) := by decide +kernel
theorem dX7_egg_69 : decode cX7_egg 69 = .ok (.iload 5, 2) := by decide +kernel
theorem dX7_egg_71 : decode cX7_egg 71 = .ok (.iload_n 1, 1) := by decide +kernel
theorem dX7_egg_72 : decode cX7_egg 72 = .ok (.iload_n 2, 1) := by decide +kernel
theorem dX7_egg_73 : decode cX7_egg 73 = .ok (.iconst 0, 1) := by decide +kernel
theorem dX7_egg_74 : decode cX7_egg 74 = .ok (.iload_n 3, 1) := by decide +kernel
theorem dX7_egg_75 : decode cX7_egg 75 = .ok (.invokevirtual 69, 3) := by decide +kernel
theorem dX7_egg_78 : decode cX7_egg 78 = .ok (.iload 5, 2) := by decide +kernel
theorem dX7_egg_80 : decode cX7_egg 80 = .ok (.ireturn, 1) := by decide +kernel
theorem dX7_of_0 : decode cX7_of 0 = .ok (.aload_n 0, 1) := by decide +kernel
theorem dX7_of_1 : decode cX7_of 1 = .ok (.getfield 10, 3) := by decide +kernel
theorem dX7_of_4 : decode cX7_of 4 = .ok (.iload_n 1, 1) := by decide +kernel
theorem dX7_of_5 : decode cX7_of 5 = .ok (.invokevirtual 73, 3) := by decide +kernel
theorem dX7_of_8 : decode cX7_of 8 = .ok (.ifCond .eq 12, 3) := by decide +kernel
theorem dX7_of_11 : decode cX7_of 11 = .ok (.iload_n 2, 1) := by decide +kernel
theorem dX7_of_12 : decode cX7_of 12 = .ok (.iconst 0, 1) := by decide +kernel
theorem dX7_of_13 : decode cX7_of 13 = .ok (.iconst 5, 1) := by decide +kernel
theorem dX7_of_14 : decode cX7_of 14 = .ok (.invokestatic 77, 3) := by decide +kernel
theorem dX7_of_17 : decode cX7_of 17 = .ok (.ifCond .ne 9, 3) := by decide +kernel
theorem dX7_of_20 : decode cX7_of 20 = .ok (.aload_n 0, 1) := by decide +kernel
theorem dX7_of_21 : decode cX7_of 21 = .ok (.iconst 0, 1) := by decide +kernel
theorem dX7_of_22 : decode cX7_of 22 = .ok (.invokevirtual 61, 3) := by decide +kernel
theorem dX7_of_25 : decode cX7_of 25 = .ok (.ireturn, 1) := by decide +kernel
theorem dX7_of_26 : decode cX7_of 26 = .ok (.iload_n 2, 1) := by decide +kernel
theorem dX7_of_27 : decode cX7_of 27 = .ok (.iconst 4, 1) := by decide +kernel
theorem dX7_of_28 : decode cX7_of 28 = .ok (.if_icmp .ne 12, 3) := by decide +kernel
theorem dX7_of_31 : decode cX7_of 31 = .ok (.aload_n 0, 1) := by decide +kernel
theorem dX7_of_32 : decode cX7_of 32 = .ok (.getfield 10, 3) := by decide +kernel
theorem dX7_of_35 : decode cX7_of 35 = .ok (.iload_n 1, 1) := by decide +kernel
theorem dX7_of_36 : decode cX7_of 36 = .ok (.invokevirtual 81, 3) := by decide +kernel
theorem dX7_of_39 : decode cX7_of 39 = .ok (.ireturn, 1) := by decide +kernel
theorem dX7_of_40 : decode cX7_of 40 = .ok (.iload_n 2, 1) := by decide +kernel
theorem dX7_of_41 : decode cX7_of 41 = .ok (.iconst 5, 1) := by decide +kernel
theorem dX7_of_42 : decode cX7_of 42 = .ok (.if_icmp .ne 19, 3) := by decide +kernel
theorem dX7_of_45 : decode cX7_of 45 = .ok (.aload_n 0, 1) := by decide +kernel
theorem dX7_of_46 : decode cX7_of 46 = .ok (.getfield 10, 3) := by decide +kernel
theorem dX7_of_49 : decode cX7_of 49 = .ok (.getfield 51, 3) := by decide +kernel
theorem dX7_of_52 : decode cX7_of 52 = .ok (.iload_n 1, 1) := by decide +kernel
theorem dX7_of_53 : decode cX7_of 53 = .ok (.iconst 0, 1) := by decide +kernel
theorem dX7_of_54 : decode cX7_of 54 = .ok (.invokevirtual 84, 3) := by decide +kernel
theorem dX7_of_57 : decode cX7_of 57 = .ok (.invokestatic 88, 3) := by decide +kernel
theorem dX7_of_60 : decode cX7_of 60 = .ok (.ireturn, 1) := by decide +kernel
theorem dX7_of_61 : decode cX7_of 61 = .ok (.aload_n 0, 1) := by decide +kernel
theorem dX7_of_62 : decode cX7_of 62 = .ok (.getfield 10, 3) := by decide +kernel
theorem dX7_of_65 : decode cX7_of 65 = .ok (.getfield 51, 3) := by decide +kernel
theorem dX7_of_68 : decode cX7_of 68 = .ok (.iload_n 1, 1) := by decide +kernel
theorem dX7_of_69 : decode cX7_of 69 = .ok (.iload_n 2, 1) := by decide +kernel
theorem dX7_of_70 : decode cX7_of 70 = .ok (.invokevirtual 84, 3) := by decide +kernel
theorem dX7_of_73 : decode cX7_of 73 = .ok (.ireturn, 1) := by decide +kernel
theorem dX7_change_0 : decode cX7_change 0 = .ok (.aload_n 0, 1) := by decide +kernel
theorem dX7_change_1 : decode cX7_change 1 = .ok (.getfield 10, 3) := by decide +kernel
theorem dX7_change_4 : decode cX7_change 4 = .ok (.iload_n 1, 1) := by decide +kernel
theorem dX7_change_5 : decode cX7_change 5 = .ok (.invokevirtual 73, 3) := by decide +kernel
theorem dX7_change_8 : decode cX7_change 8 = .ok (.ifCond .eq 20, 3) := by decide +kernel
theorem dX7_change_11 : decode cX7_change 11 = .ok (.aload_n 0, 1) := by decide +kernel
theorem dX7_change_12 : decode cX7_change 12 = .ok (.aload_n 0, 1) := by decide +kernel
theorem dX7_change_13 : decode cX7_change 13 = .ok (.getfield 10, 3) := by decide +kernel
theorem dX7_change_16 : decode cX7_change 16 = .ok (.getfield 51, 3) := by decide +kernel
theorem dX7_change_19 : decode cX7_change 19 = .ok (.iload_n 1, 1) := by decide +kernel
theorem dX7_change_20 : decode cX7_change 20 = .ok (.iload_n 2, 1) := by decide +kernel
theorem dX7_change_21 : decode cX7_change 21 = .ok (.iload_n 3, 1) := by decide +kernel
theorem dX7_change_22 : decode cX7_change 22 = .ok (.invokevirtual 93, 3) := by decide +kernel
theorem dX7_change_25 : decode cX7_change 25 = .ok (.goto 8, 3) := by decide +kernel
theorem dX7_change_28 : decode cX7_change 28 = .ok (.aload_n 0, 1) := by decide +kernel
theorem dX7_change_29 : decode cX7_change 29 = .ok (.iconst 0, 1) := by decide +kernel
theorem dX7_change_30 : decode cX7_change 30 = .ok (.invokevirtual 61, 3) := by decide +kernel
theorem dX7_change_33 : decode cX7_change 33 = .ok (.ireturn, 1) := by decide +kernel
theorem dX7_hen_0 : decode cX7_hen 0 = .ok (.aload_n 0, 1) := by decide +kernel
theorem dX7_hen_1 : decode cX7_hen 1 = .ok (.aload_n 0, 1) := by decide +kernel
theorem dX7_hen_2 : decode cX7_hen 2 = .ok (.getfield 10, 3) := by decide +kernel
theorem dX7_hen_5 : decode cX7_hen 5 = .ok (.getfield 97, 3) := by decide +kernel
theorem dX7_hen_8 : decode cX7_hen 8 = .ok (.iload_n 1, 1) := by decide +kernel
theorem dX7_hen_9 : decode cX7_hen 9 = .ok (.iload_n 2, 1) := by decide +kernel
theorem dX7_hen_10 : decode cX7_hen 10 = .ok (.iload_n 3, 1) := by decide +kernel
theorem dX7_hen_11 : decode cX7_hen 11 = .ok (.invokevirtual 93, 3) := by decide +kernel
theorem dX7_hen_14 : decode cX7_hen 14 = .ok (.ireturn, 1) := by decide +kernel
theorem dX7_work_0 : decode cX7_work 0 = .ok (.aload_n 0, 1) := by decide +kernel
theorem dX7_work_1 : decode cX7_work 1 = .ok (.aload_n 0, 1) := by decide +kernel
theorem dX7_work_2 : decode cX7_work 2 = .ok (.getfield 10, 3) := by decide +kernel
theorem dX7_work_5 : decode cX7_work 5 = .ok (.getfield 100, 3) := by decide +kernel
theorem dX7_work_8 : decode cX7_work 8 = .ok (.iload_n 1, 1) := by decide +kernel
theorem dX7_work_9 : decode cX7_work 9 = .ok (.iload_n 2, 1) := by decide +kernel
theorem dX7_work_10 : decode cX7_work 10 = .ok (.iload_n 3, 1) := by decide +kernel
theorem dX7_work_11 : decode cX7_work 11 = .ok (.invokevirtual 93, 3) := by decide +kernel
theorem dX7_work_14 : decode cX7_work 14 = .ok (.ireturn, 1) := by decide +kernel
theorem dX7_henOf_0 : decode cX7_henOf 0 = .ok (.aload_n 0, 1) := by decide +kernel
theorem dX7_henOf_1 : decode cX7_henOf 1 = .ok (.getfield 10, 3) := by decide +kernel
theorem dX7_henOf_4 : decode cX7_henOf 4 = .ok (.getfield 97, 3) := by decide +kernel
theorem dX7_henOf_7 : decode cX7_henOf 7 = .ok (.iload_n 1, 1) := by decide +kernel
theorem dX7_henOf_8 : decode cX7_henOf 8 = .ok (.invokevirtual 103, 3) := by decide +kernel
theorem dX7_henOf_11 : decode cX7_henOf 11 = .ok (.ifCond .eq 17, 3) := by decide +kernel
theorem dX7_henOf_14 : decode cX7_henOf 14 = .ok (.aload_n 0, 1) := by decide +kernel
theorem dX7_henOf_15 : decode cX7_henOf 15 = .ok (.getfield 10, 3) := by decide +kernel
theorem dX7_henOf_18 : decode cX7_henOf 18 = .ok (.getfield 97, 3) := by decide +kernel
theorem dX7_henOf_21 : decode cX7_henOf 21 = .ok (.iload_n 2, 1) := by decide +kernel
theorem dX7_henOf_22 : decode cX7_henOf 22 = .ok (.invokevirtual 106, 3) := by decide +kernel
theorem dX7_henOf_25 : decode cX7_henOf 25 = .ok (.ifCond .ne 9, 3) := by decide +kernel
theorem dX7_henOf_28 : decode cX7_henOf 28 = .ok (.aload_n 0, 1) := by decide +kernel
theorem dX7_henOf_29 : decode cX7_henOf 29 = .ok (.iconst 0, 1) := by decide +kernel
theorem dX7_henOf_30 : decode cX7_henOf 30 = .ok (.invokevirtual 61, 3) := by decide +kernel
theorem dX7_henOf_33 : decode cX7_henOf 33 = .ok (.ireturn, 1) := by decide +kernel
theorem dX7_henOf_34 : decode cX7_henOf 34 = .ok (.aload_n 0, 1) := by decide +kernel
theorem dX7_henOf_35 : decode cX7_henOf 35 = .ok (.getfield 10, 3) := by decide +kernel
theorem dX7_henOf_38 : decode cX7_henOf 38 = .ok (.getfield 97, 3) := by decide +kernel
theorem dX7_henOf_41 : decode cX7_henOf 41 = .ok (.iload_n 1, 1) := by decide +kernel
theorem dX7_henOf_42 : decode cX7_henOf 42 = .ok (.iload_n 2, 1) := by decide +kernel
theorem dX7_henOf_43 : decode cX7_henOf 43 = .ok (.invokevirtual 84, 3) := by decide +kernel
theorem dX7_henOf_46 : decode cX7_henOf 46 = .ok (.ireturn, 1) := by decide +kernel
theorem dX7_workOf_0 : decode cX7_workOf 0 = .ok (.aload_n 0, 1) := by decide +kernel
theorem dX7_workOf_1 : decode cX7_workOf 1 = .ok (.getfield 10, 3) := by decide +kernel
theorem dX7_workOf_4 : decode cX7_workOf 4 = .ok (.getfield 100, 3) := by decide +kernel
theorem dX7_workOf_7 : decode cX7_workOf 7 = .ok (.iload_n 1, 1) := by decide +kernel
theorem dX7_workOf_8 : decode cX7_workOf 8 = .ok (.invokevirtual 103, 3) := by decide +kernel
theorem dX7_workOf_11 : decode cX7_workOf 11 = .ok (.ifCond .eq 12, 3) := by decide +kernel
theorem dX7_workOf_14 : decode cX7_workOf 14 = .ok (.iload_n 2, 1) := by decide +kernel
theorem dX7_workOf_15 : decode cX7_workOf 15 = .ok (.iconst 0, 1) := by decide +kernel
theorem dX7_workOf_16 : decode cX7_workOf 16 = .ok (.iconst 4, 1) := by decide +kernel
theorem dX7_workOf_17 : decode cX7_workOf 17 = .ok (.invokestatic 77, 3) := by decide +kernel
theorem dX7_workOf_20 : decode cX7_workOf 20 = .ok (.ifCond .ne 9, 3) := by decide +kernel
theorem dX7_workOf_23 : decode cX7_workOf 23 = .ok (.aload_n 0, 1) := by decide +kernel
theorem dX7_workOf_24 : decode cX7_workOf 24 = .ok (.iconst 0, 1) := by decide +kernel
theorem dX7_workOf_25 : decode cX7_workOf 25 = .ok (.invokevirtual 61, 3) := by decide +kernel
theorem dX7_workOf_28 : decode cX7_workOf 28 = .ok (.ireturn, 1) := by decide +kernel
theorem dX7_workOf_29 : decode cX7_workOf 29 = .ok (.iload_n 2, 1) := by decide +kernel
theorem dX7_workOf_30 : decode cX7_workOf 30 = .ok (.iconst 4, 1) := by decide +kernel
theorem dX7_workOf_31 : decode cX7_workOf 31 = .ok (.if_icmp .ne 20, 3) := by decide +kernel
theorem dX7_workOf_34 : decode cX7_workOf 34 = .ok (.aload_n 0, 1) := by decide +kernel
theorem dX7_workOf_35 : decode cX7_workOf 35 = .ok (.getfield 10, 3) := by decide +kernel
theorem dX7_workOf_38 : decode cX7_workOf 38 = .ok (.iload_n 1, 1) := by decide +kernel
theorem dX7_workOf_39 : decode cX7_workOf 39 = .ok (.invokevirtual 109, 3) := by decide +kernel
theorem dX7_workOf_42 : decode cX7_workOf 42 = .ok (.ifCond .eq 7, 3) := by decide +kernel
theorem dX7_workOf_45 : decode cX7_workOf 45 = .ok (.iconst 1, 1) := by decide +kernel
theorem dX7_workOf_46 : decode cX7_workOf 46 = .ok (.goto 4, 3) := by decide +kernel
theorem dX7_workOf_49 : decode cX7_workOf 49 = .ok (.iconst 0, 1) := by decide +kernel
theorem dX7_workOf_50 : decode cX7_workOf 50 = .ok (.ireturn, 1) := by decide +kernel
theorem dX7_workOf_51 : decode cX7_workOf 51 = .ok (.aload_n 0, 1) := by decide +kernel
theorem dX7_workOf_52 : decode cX7_workOf 52 = .ok (.getfield 10, 3) := by decide +kernel
theorem dX7_workOf_55 : decode cX7_workOf 55 = .ok (.getfield 100, 3) := by decide +kernel
theorem dX7_workOf_58 : decode cX7_workOf 58 = .ok (.iload_n 1, 1) := by decide +kernel
theorem dX7_workOf_59 : decode cX7_workOf 59 = .ok (.iload_n 2, 1) := by decide +kernel
theorem dX7_workOf_60 : decode cX7_workOf 60 = .ok (.invokevirtual 84, 3) := by decide +kernel
theorem dX7_workOf_63 : decode cX7_workOf 63 = .ok (.ireturn, 1) := by decide +kernel
theorem dX7_spend_0 : decode cX7_spend 0 = .ok (.aload_n 0, 1) := by decide +kernel
theorem dX7_spend_1 : decode cX7_spend 1 = .ok (.getfield 10, 3) := by decide +kernel
theorem dX7_spend_4 : decode cX7_spend 4 = .ok (.iload_n 1, 1) := by decide +kernel
theorem dX7_spend_5 : decode cX7_spend 5 = .ok (.invokevirtual 73, 3) := by decide +kernel
theorem dX7_spend_8 : decode cX7_spend 8 = .ok (.ifCond .eq 17, 3) := by decide +kernel
theorem dX7_spend_11 : decode cX7_spend 11 = .ok (.aload_n 0, 1) := by decide +kernel
theorem dX7_spend_12 : decode cX7_spend 12 = .ok (.getfield 10, 3) := by decide +kernel
theorem dX7_spend_15 : decode cX7_spend 15 = .ok (.getfield 100, 3) := by decide +kernel
theorem dX7_spend_18 : decode cX7_spend 18 = .ok (.iload_n 2, 1) := by decide +kernel
theorem dX7_spend_19 : decode cX7_spend 19 = .ok (.invokevirtual 103, 3) := by decide +kernel
theorem dX7_spend_22 : decode cX7_spend 22 = .ok (.ifCond .ne 9, 3) := by decide +kernel
theorem dX7_spend_25 : decode cX7_spend 25 = .ok (.aload_n 0, 1) := by decide +kernel
theorem dX7_spend_26 : decode cX7_spend 26 = .ok (.iconst 0, 1) := by decide +kernel
theorem dX7_spend_27 : decode cX7_spend 27 = .ok (.invokevirtual 61, 3) := by decide +kernel
theorem dX7_spend_30 : decode cX7_spend 30 = .ok (.ireturn, 1) := by decide +kernel
theorem dX7_spend_31 : decode cX7_spend 31 = .ok (.aload_n 0, 1) := by decide +kernel
theorem dX7_spend_32 : decode cX7_spend 32 = .ok (.getfield 10, 3) := by decide +kernel
theorem dX7_spend_35 : decode cX7_spend 35 = .ok (.iload_n 2, 1) := by decide +kernel
theorem dX7_spend_36 : decode cX7_spend 36 = .ok (.invokevirtual 112, 3) := by decide +kernel
theorem dX7_spend_39 : decode cX7_spend 39 = .ok (.ifCond .ne 9, 3) := by decide +kernel
theorem dX7_spend_42 : decode cX7_spend 42 = .ok (.aload_n 0, 1) := by decide +kernel
theorem dX7_spend_43 : decode cX7_spend 43 = .ok (.iconst 4, 1) := by decide +kernel
theorem dX7_spend_44 : decode cX7_spend 44 = .ok (.invokevirtual 61, 3) := by decide +kernel
theorem dX7_spend_47 : decode cX7_spend 47 = .ok (.ireturn, 1) := by decide +kernel
theorem dX7_spend_48 : decode cX7_spend 48 = .ok (.aload_n 0, 1) := by decide +kernel
theorem dX7_spend_49 : decode cX7_spend 49 = .ok (.getfield 10, 3) := by decide +kernel
theorem dX7_spend_52 : decode cX7_spend 52 = .ok (.iload_n 1, 1) := by decide +kernel
theorem dX7_spend_53 : decode cX7_spend 53 = .ok (.iload_n 2, 1) := by decide +kernel
theorem dX7_spend_54 : decode cX7_spend 54 = .ok (.invokevirtual 115, 3) := by decide +kernel
theorem dX7_spend_57 : decode cX7_spend 57 = .ok (.ireturn, 1) := by decide +kernel
theorem dX7_broken_0 : decode cX7_broken 0 = .ok (.aload_n 0, 1) := by decide +kernel
theorem dX7_broken_1 : decode cX7_broken 1 = .ok (.getfield 10, 3) := by decide +kernel
theorem dX7_broken_4 : decode cX7_broken 4 = .ok (.iload_n 1, 1) := by decide +kernel
theorem dX7_broken_5 : decode cX7_broken 5 = .ok (.invokevirtual 73, 3) := by decide +kernel
theorem dX7_broken_8 : decode cX7_broken 8 = .ok (.ifCond .ne 9, 3) := by decide +kernel
theorem dX7_broken_11 : decode cX7_broken 11 = .ok (.aload_n 0, 1) := by decide +kernel
theorem dX7_broken_12 : decode cX7_broken 12 = .ok (.iconst 0, 1) := by decide +kernel
theorem dX7_broken_13 : decode cX7_broken 13 = .ok (.invokevirtual 61, 3) := by decide +kernel
theorem dX7_broken_16 : decode cX7_broken 16 = .ok (.ireturn, 1) := by decide +kernel
theorem dX7_broken_17 : decode cX7_broken 17 = .ok (.aload_n 0, 1) := by decide +kernel
theorem dX7_broken_18 : decode cX7_broken 18 = .ok (.getfield 10, 3) := by decide +kernel
theorem dX7_broken_21 : decode cX7_broken 21 = .ok (.iload_n 1, 1) := by decide +kernel
theorem dX7_broken_22 : decode cX7_broken 22 = .ok (.invokevirtual 81, 3) := by decide +kernel
theorem dX7_broken_25 : decode cX7_broken 25 = .ok (.istore_n 2, 1) := by decide +kernel
theorem dX7_broken_26 : decode cX7_broken 26 = .ok (.aload_n 0, 1) := by decide +kernel
theorem dX7_broken_27 : decode cX7_broken 27 = .ok (.getfield 10, 3) := by decide +kernel
theorem dX7_broken_30 : decode cX7_broken 30 = .ok (.iload_n 1, 1) := by decide +kernel
theorem dX7_broken_31 : decode cX7_broken 31 = .ok (.invokevirtual 118, 3) := by decide +kernel
theorem dX7_broken_34 : decode cX7_broken 34 = .ok (.iload_n 2, 1) := by decide +kernel
theorem dX7_broken_35 : decode cX7_broken 35 = .ok (.ireturn, 1) := by decide +kernel
theorem dX7_go_0 : decode cX7_go 0 = .ok (.iload_n 1, 1) := by decide +kernel
theorem dX7_go_1 : decode cX7_go 1 = .ok (.iconst 1, 1) := by decide +kernel
theorem dX7_go_2 : decode cX7_go 2 = .ok (.bipush 60, 2) := by decide +kernel
theorem dX7_go_4 : decode cX7_go 4 = .ok (.invokestatic 77, 3) := by decide +kernel
theorem dX7_go_7 : decode cX7_go 7 = .ok (.ifCond .ne 9, 3) := by decide +kernel
theorem dX7_go_10 : decode cX7_go 10 = .ok (.aload_n 0, 1) := by decide +kernel
theorem dX7_go_11 : decode cX7_go 11 = .ok (.iconst 0, 1) := by decide +kernel
theorem dX7_go_12 : decode cX7_go 12 = .ok (.invokevirtual 61, 3) := by decide +kernel
theorem dX7_go_15 : decode cX7_go 15 = .ok (.ireturn, 1) := by decide +kernel
theorem dX7_go_16 : decode cX7_go 16 = .ok (.aload_n 0, 1) := by decide +kernel
theorem dX7_go_17 : decode cX7_go 17 = .ok (.getfield 10, 3) := by decide +kernel
theorem dX7_go_20 : decode cX7_go 20 = .ok (.getfield 122, 3) := by decide +kernel
theorem dX7_go_23 : decode cX7_go 23 = .ok (.iload_n 1, 1) := by decide +kernel
theorem dX7_go_24 : decode cX7_go 24 = .ok (.iadd, 1) := by decide +kernel
theorem dX7_go_25 : decode cX7_go 25 = .ok (.ldc 126, 2) := by decide +kernel
theorem dX7_go_27 : decode cX7_go 27 = .ok (.if_icmp .le 9, 3) := by decide +kernel
theorem dX7_go_30 : decode cX7_go 30 = .ok (.aload_n 0, 1) := by decide +kernel
theorem dX7_go_31 : decode cX7_go 31 = .ok (.iconst 4, 1) := by decide +kernel
theorem dX7_go_32 : decode cX7_go 32 = .ok (.invokevirtual 61, 3) := by decide +kernel
theorem dX7_go_35 : decode cX7_go 35 = .ok (.ireturn, 1) := by decide +kernel
theorem dX7_go_36 : decode cX7_go 36 = .ok (.aload_n 0, 1) := by decide +kernel
theorem dX7_go_37 : decode cX7_go 37 = .ok (.getfield 10, 3) := by decide +kernel
theorem dX7_go_40 : decode cX7_go 40 = .ok (.iload_n 1, 1) := by decide +kernel
theorem dX7_go_41 : decode cX7_go 41 = .ok (.invokevirtual 127, 3) := by decide +kernel
theorem dX7_go_44 : decode cX7_go 44 = .ok (.pop, 1) := by decide +kernel
theorem dX7_go_45 : decode cX7_go 45 = .ok (.aload_n 0, 1) := by decide +kernel
theorem dX7_go_46 : decode cX7_go 46 = .ok (.getfield 10, 3) := by decide +kernel
theorem dX7_go_49 : decode cX7_go 49 = .ok (.invokevirtual 130, 3) := by decide +kernel
theorem dX7_go_52 : decode cX7_go 52 = .ok (.invokestatic 133, 3) := by decide +kernel
theorem dX7_go_55 : decode cX7_go 55 = .ok (.ireturn, 1) := by decide +kernel
theorem dX7_now_0 : decode cX7_now 0 = .ok (.iload_n 1, 1) := by decide +kernel
theorem dX7_now_1 : decode cX7_now 1 = .ok (.tableswitch 75 0 4 #[35, 43, 51, 59, 67], 35) := by decide +kernel
theorem dX7_now_36 : decode cX7_now 36 = .ok (.aload_n 0, 1) := by decide +kernel
theorem dX7_now_37 : decode cX7_now 37 = .ok (.getfield 10, 3) := by decide +kernel
theorem dX7_now_40 : decode cX7_now 40 = .ok (.getfield 122, 3) := by decide +kernel
theorem dX7_now_43 : decode cX7_now 43 = .ok (.ireturn, 1) := by decide +kernel
theorem dX7_now_44 : decode cX7_now 44 = .ok (.aload_n 0, 1) := by decide +kernel
theorem dX7_now_45 : decode cX7_now 45 = .ok (.getfield 10, 3) := by decide +kernel
theorem dX7_now_48 : decode cX7_now 48 = .ok (.invokevirtual 130, 3) := by decide +kernel
theorem dX7_now_51 : decode cX7_now 51 = .ok (.ireturn, 1) := by decide +kernel
theorem dX7_now_52 : decode cX7_now 52 = .ok (.aload_n 0, 1) := by decide +kernel
theorem dX7_now_53 : decode cX7_now 53 = .ok (.getfield 10, 3) := by decide +kernel
theorem dX7_now_56 : decode cX7_now 56 = .ok (.invokevirtual 138, 3) := by decide +kernel
theorem dX7_now_59 : decode cX7_now 59 = .ok (.ireturn, 1) := by decide +kernel
theorem dX7_now_60 : decode cX7_now 60 = .ok (.aload_n 0, 1) := by decide +kernel
theorem dX7_now_61 : decode cX7_now 61 = .ok (.getfield 10, 3) := by decide +kernel
theorem dX7_now_64 : decode cX7_now 64 = .ok (.invokevirtual 141, 3) := by decide +kernel
theorem dX7_now_67 : decode cX7_now 67 = .ok (.ireturn, 1) := by decide +kernel
theorem dX7_now_68 : decode cX7_now 68 = .ok (.aload_n 0, 1) := by decide +kernel
theorem dX7_now_69 : decode cX7_now 69 = .ok (.getfield 10, 3) := by decide +kernel
theorem dX7_now_72 : decode cX7_now 72 = .ok (.getfield 144, 3) := by decide +kernel
theorem dX7_now_75 : decode cX7_now 75 = .ok (.ireturn, 1) := by decide +kernel
theorem dX7_now_76 : decode cX7_now 76 = .ok (.aload_n 0, 1) := by decide +kernel
theorem dX7_now_77 : decode cX7_now 77 = .ok (.iconst 0, 1) := by decide +kernel
theorem dX7_now_78 : decode cX7_now 78 = .ok (.invokevirtual 61, 3) := by decide +kernel
theorem dX7_now_81 : decode cX7_now 81 = .ok (.ireturn, 1) := by decide +kernel
theorem dX7_ahead_0 : decode cX7_ahead 0 = .ok (.iload_n 1, 1) := by decide +kernel
theorem dX7_ahead_1 : decode cX7_ahead 1 = .ok (.iconst 0, 1) := by decide +kernel
theorem dX7_ahead_2 : decode cX7_ahead 2 = .ok (.bipush 100, 2) := by decide +kernel
theorem dX7_ahead_4 : decode cX7_ahead 4 = .ok (.invokestatic 77, 3) := by decide +kernel
theorem dX7_ahead_7 : decode cX7_ahead 7 = .ok (.ifCond .ne 9, 3) := by decide +kernel
theorem dX7_ahead_10 : decode cX7_ahead 10 = .ok (.aload_n 0, 1) := by decide +kernel
theorem dX7_ahead_11 : decode cX7_ahead 11 = .ok (.iconst 0, 1) := by decide +kernel
theorem dX7_ahead_12 : decode cX7_ahead 12 = .ok (.invokevirtual 61, 3) := by decide +kernel
theorem dX7_ahead_15 : decode cX7_ahead 15 = .ok (.ireturn, 1) := by decide +kernel
theorem dX7_ahead_16 : decode cX7_ahead 16 = .ok (.aload_n 0, 1) := by decide +kernel
theorem dX7_ahead_17 : decode cX7_ahead 17 = .ok (.getfield 19, 3) := by decide +kernel
theorem dX7_ahead_20 : decode cX7_ahead 20 = .ok (.aload_n 0, 1) := by decide +kernel
theorem dX7_ahead_21 : decode cX7_ahead 21 = .ok (.getfield 10, 3) := by decide +kernel
theorem dX7_ahead_24 : decode cX7_ahead 24 = .ok (.invokevirtual 147, 3) := by decide +kernel
theorem dX7_ahead_27 : decode cX7_ahead 27 = .ok (.aload_n 0, 1) := by decide +kernel
theorem dX7_ahead_28 : decode cX7_ahead 28 = .ok (.getfield 19, 3) := by decide +kernel
theorem dX7_ahead_31 : decode cX7_ahead 31 = .ok (.iload_n 1, 1) := by decide +kernel
theorem dX7_ahead_32 : decode cX7_ahead 32 = .ok (.invokevirtual 127, 3) := by decide +kernel
theorem dX7_ahead_35 : decode cX7_ahead 35 = .ok (.pop, 1) := by decide +kernel
theorem dX7_ahead_36 : decode cX7_ahead 36 = .ok (.aload_n 0, 1) := by decide +kernel
theorem dX7_ahead_37 : decode cX7_ahead 37 = .ok (.getfield 19, 3) := by decide +kernel
theorem dX7_ahead_40 : decode cX7_ahead 40 = .ok (.invokevirtual 138, 3) := by decide +kernel
theorem dX7_ahead_43 : decode cX7_ahead 43 = .ok (.ireturn, 1) := by decide +kernel
theorem dX7_spoils_0 : decode cX7_spoils 0 = .ok (.iload_n 1, 1) := by decide +kernel
theorem dX7_spoils_1 : decode cX7_spoils 1 = .ok (.iconst 0, 1) := by decide +kernel
theorem dX7_spoils_2 : decode cX7_spoils 2 = .ok (.bipush 100, 2) := by decide +kernel
theorem dX7_spoils_4 : decode cX7_spoils 4 = .ok (.invokestatic 77, 3) := by decide +kernel
theorem dX7_spoils_7 : decode cX7_spoils 7 = .ok (.ifCond .ne 9, 3) := by decide +kernel
theorem dX7_spoils_10 : decode cX7_spoils 10 = .ok (.aload_n 0, 1) := by decide +kernel
theorem dX7_spoils_11 : decode cX7_spoils 11 = .ok (.iconst 0, 1) := by decide +kernel
theorem dX7_spoils_12 : decode cX7_spoils 12 = .ok (.invokevirtual 61, 3) := by decide +kernel
theorem dX7_spoils_15 : decode cX7_spoils 15 = .ok (.ireturn, 1) := by decide +kernel
theorem dX7_spoils_16 : decode cX7_spoils 16 = .ok (.aload_n 0, 1) := by decide +kernel
theorem dX7_spoils_17 : decode cX7_spoils 17 = .ok (.getfield 19, 3) := by decide +kernel
theorem dX7_spoils_20 : decode cX7_spoils 20 = .ok (.aload_n 0, 1) := by decide +kernel
theorem dX7_spoils_21 : decode cX7_spoils 21 = .ok (.getfield 10, 3) := by decide +kernel
theorem dX7_spoils_24 : decode cX7_spoils 24 = .ok (.invokevirtual 147, 3) := by decide +kernel
theorem dX7_spoils_27 : decode cX7_spoils 27 = .ok (.aload_n 0, 1) := by decide +kernel
theorem dX7_spoils_28 : decode cX7_spoils 28 = .ok (.getfield 19, 3) := by decide +kernel
theorem dX7_spoils_31 : decode cX7_spoils 31 = .ok (.iload_n 1, 1) := by decide +kernel
theorem dX7_spoils_32 : decode cX7_spoils 32 = .ok (.invokevirtual 127, 3) := by decide +kernel
theorem dX7_spoils_35 : decode cX7_spoils 35 = .ok (.ireturn, 1) := by decide +kernel
theorem dX7_ripe_0 : decode cX7_ripe 0 = .ok (.aload_n 0, 1) := by decide +kernel
theorem dX7_ripe_1 : decode cX7_ripe 1 = .ok (.getfield 10, 3) := by decide +kernel
theorem dX7_ripe_4 : decode cX7_ripe 4 = .ok (.iload_n 1, 1) := by decide +kernel
theorem dX7_ripe_5 : decode cX7_ripe 5 = .ok (.invokevirtual 73, 3) := by decide +kernel
theorem dX7_ripe_8 : decode cX7_ripe 8 = .ok (.ifCond .ne 9, 3) := by decide +kernel
theorem dX7_ripe_11 : decode cX7_ripe 11 = .ok (.aload_n 0, 1) := by decide +kernel
theorem dX7_ripe_12 : decode cX7_ripe 12 = .ok (.iconst 0, 1) := by decide +kernel
theorem dX7_ripe_13 : decode cX7_ripe 13 = .ok (.invokevirtual 61, 3) := by decide +kernel
theorem dX7_ripe_16 : decode cX7_ripe 16 = .ok (.ireturn, 1) := by decide +kernel
theorem dX7_ripe_17 : decode cX7_ripe 17 = .ok (.aload_n 0, 1) := by decide +kernel
theorem dX7_ripe_18 : decode cX7_ripe 18 = .ok (.getfield 10, 3) := by decide +kernel
theorem dX7_ripe_21 : decode cX7_ripe 21 = .ok (.getfield 51, 3) := by decide +kernel
theorem dX7_ripe_24 : decode cX7_ripe 24 = .ok (.iload_n 1, 1) := by decide +kernel
theorem dX7_ripe_25 : decode cX7_ripe 25 = .ok (.iconst 0, 1) := by decide +kernel
theorem dX7_ripe_26 : decode cX7_ripe 26 = .ok (.invokevirtual 84, 3) := by decide +kernel
theorem dX7_ripe_29 : decode cX7_ripe 29 = .ok (.istore_n 2, 1) := by decide +kernel
theorem dX7_ripe_30 : decode cX7_ripe 30 = .ok (.aload_n 0, 1) := by decide +kernel
theorem dX7_ripe_31 : decode cX7_ripe 31 = .ok (.getfield 10, 3) := by decide +kernel
theorem dX7_ripe_34 : decode cX7_ripe 34 = .ok (.getfield 51, 3) := by decide +kernel
theorem dX7_ripe_37 : decode cX7_ripe 37 = .ok (.iload_n 1, 1) := by decide +kernel
theorem dX7_ripe_38 : decode cX7_ripe 38 = .ok (.iconst 2, 1) := by decide +kernel
theorem dX7_ripe_39 : decode cX7_ripe 39 = .ok (.invokevirtual 84, 3) := by decide +kernel
theorem dX7_ripe_42 : decode cX7_ripe 42 = .ok (.istore_n 3, 1) := by decide +kernel
theorem dX7_ripe_43 : decode cX7_ripe 43 = .ok (.iconst 0, 1) := by decide +kernel
theorem dX7_ripe_44 : decode cX7_ripe 44 = .ok (.istore 4, 2) := by decide +kernel
theorem dX7_ripe_46 : decode cX7_ripe 46 = .ok (.aload_n 0, 1) := by decide +kernel
theorem dX7_ripe_47 : decode cX7_ripe 47 = .ok (.getfield 10, 3) := by decide +kernel
theorem dX7_ripe_50 : decode cX7_ripe 50 = .ok (.iload_n 1, 1) := by decide +kernel
theorem dX7_ripe_51 : decode cX7_ripe 51 = .ok (.invokevirtual 81, 3) := by decide +kernel
theorem dX7_ripe_54 : decode cX7_ripe 54 = .ok (.istore 5, 2) := by decide +kernel
theorem dX7_ripe_56 : decode cX7_ripe 56 = .ok (.iconst 1, 1) := by decide +kernel
theorem dX7_ripe_57 : decode cX7_ripe 57 = .ok (.istore 6, 2) := by decide +kernel
theorem dX7_ripe_59 : decode cX7_ripe 59 = .ok (.iload 6, 2) := by decide +kernel
theorem dX7_ripe_61 : decode cX7_ripe 61 = .ok (.bipush 100, 2) := by decide +kernel
theorem dX7_ripe_63 : decode cX7_ripe 63 = .ok (.if_icmp .gt 48, 3) := by decide +kernel
theorem dX7_ripe_66 : decode cX7_ripe 66 = .ok (.iload_n 2, 1) := by decide +kernel
theorem dX7_ripe_67 : decode cX7_ripe 67 = .ok (.iload_n 3, 1) := by decide +kernel
theorem dX7_ripe_68 : decode cX7_ripe 68 = .ok (.iload 6, 2) := by decide +kernel
theorem dX7_ripe_70 : decode cX7_ripe 70 = .ok (.invokestatic 151, 3) := by decide +kernel
theorem dX7_ripe_73 : decode cX7_ripe 73 = .ok (.ifCond .eq 38, 3) := by decide +kernel
theorem dX7_ripe_76 : decode cX7_ripe 76 = .ok (.aload_n 0, 1) := by decide +kernel
theorem dX7_ripe_77 : decode cX7_ripe 77 = .ok (.getfield 10, 3) := by decide +kernel
theorem dX7_ripe_80 : decode cX7_ripe 80 = .ok (.iload_n 1, 1) := by decide +kernel
theorem dX7_ripe_81 : decode cX7_ripe 81 = .ok (.iload_n 2, 1) := by decide +kernel
theorem dX7_ripe_82 : decode cX7_ripe 82 = .ok (.iload_n 3, 1) := by decide +kernel
theorem dX7_ripe_83 : decode cX7_ripe 83 = .ok (.iload 6, 2) := by decide +kernel
theorem dX7_ripe_85 : decode cX7_ripe 85 = .ok (.invokevirtual 154, 3) := by decide +kernel
theorem dX7_ripe_88 : decode cX7_ripe 88 = .ok (.istore 7, 2) := by decide +kernel
theorem dX7_ripe_90 : decode cX7_ripe 90 = .ok (.iload 7, 2) := by decide +kernel
theorem dX7_ripe_92 : decode cX7_ripe 92 = .ok (.iload 5, 2) := by decide +kernel
theorem dX7_ripe_94 : decode cX7_ripe 94 = .ok (.if_icmp .le 11, 3) := by decide +kernel
theorem dX7_ripe_97 : decode cX7_ripe 97 = .ok (.iload 7, 2) := by decide +kernel
theorem dX7_ripe_99 : decode cX7_ripe 99 = .ok (.istore 5, 2) := by decide +kernel
theorem dX7_ripe_101 : decode cX7_ripe 101 = .ok (.iload 6, 2) := by decide +kernel
theorem dX7_ripe_103 : decode cX7_ripe 103 = .ok (.istore 4, 2) := by decide +kernel
theorem dX7_ripe_105 : decode cX7_ripe 105 = .ok (.iinc 6 1, 3) := by decide +kernel
theorem dX7_ripe_108 : decode cX7_ripe 108 = .ok (.goto (-49), 3) := by decide +kernel
theorem dX7_ripe_111 : decode cX7_ripe 111 = .ok (.iload 4, 2) := by decide +kernel
theorem dX7_ripe_113 : decode cX7_ripe 113 = .ok (.ireturn, 1) := by decide +kernel
theorem dX7_lasts_0 : decode cX7_lasts 0 = .ok (.aload_n 0, 1) := by decide +kernel
theorem dX7_lasts_1 : decode cX7_lasts 1 = .ok (.getfield 10, 3) := by decide +kernel
theorem dX7_lasts_4 : decode cX7_lasts 4 = .ok (.iload_n 1, 1) := by decide +kernel
theorem dX7_lasts_5 : decode cX7_lasts 5 = .ok (.invokevirtual 73, 3) := by decide +kernel
theorem dX7_lasts_8 : decode cX7_lasts 8 = .ok (.ifCond .ne 9, 3) := by decide +kernel
theorem dX7_lasts_11 : decode cX7_lasts 11 = .ok (.aload_n 0, 1) := by decide +kernel
theorem dX7_lasts_12 : decode cX7_lasts 12 = .ok (.iconst 0, 1) := by decide +kernel
theorem dX7_lasts_13 : decode cX7_lasts 13 = .ok (.invokevirtual 61, 3) := by decide +kernel
theorem dX7_lasts_16 : decode cX7_lasts 16 = .ok (.ireturn, 1) := by decide +kernel
theorem dX7_lasts_17 : decode cX7_lasts 17 = .ok (.aload_n 0, 1) := by decide +kernel
theorem dX7_lasts_18 : decode cX7_lasts 18 = .ok (.getfield 10, 3) := by decide +kernel
theorem dX7_lasts_21 : decode cX7_lasts 21 = .ok (.getfield 51, 3) := by decide +kernel
theorem dX7_lasts_24 : decode cX7_lasts 24 = .ok (.iload_n 1, 1) := by decide +kernel
theorem dX7_lasts_25 : decode cX7_lasts 25 = .ok (.iconst 0, 1) := by decide +kernel
theorem dX7_lasts_26 : decode cX7_lasts 26 = .ok (.invokevirtual 84, 3) := by decide +kernel
theorem dX7_lasts_29 : decode cX7_lasts 29 = .ok (.istore_n 2, 1) := by decide +kernel
theorem dX7_lasts_30 : decode cX7_lasts 30 = .ok (.aload_n 0, 1) := by decide +kernel
theorem dX7_lasts_31 : decode cX7_lasts 31 = .ok (.getfield 10, 3) := by decide +kernel
theorem dX7_lasts_34 : decode cX7_lasts 34 = .ok (.getfield 51, 3) := by decide +kernel
theorem dX7_lasts_37 : decode cX7_lasts 37 = .ok (.iload_n 1, 1) := by decide +kernel
theorem dX7_lasts_38 : decode cX7_lasts 38 = .ok (.iconst 2, 1) := by decide +kernel
theorem dX7_lasts_39 : decode cX7_lasts 39 = .ok (.invokevirtual 84, 3) := by decide +kernel
theorem dX7_lasts_42 : decode cX7_lasts 42 = .ok (.istore_n 3, 1) := by decide +kernel
theorem dX7_lasts_43 : decode cX7_lasts 43 = .ok (.iconst 0, 1) := by decide +kernel
theorem dX7_lasts_44 : decode cX7_lasts 44 = .ok (.istore 4, 2) := by decide +kernel
theorem dX7_lasts_46 : decode cX7_lasts 46 = .ok (.iload 4, 2) := by decide +kernel
theorem dX7_lasts_48 : decode cX7_lasts 48 = .ok (.bipush 100, 2) := by decide +kernel
theorem dX7_lasts_50 : decode cX7_lasts 50 = .ok (.if_icmp .ge 19, 3) := by decide +kernel
theorem dX7_lasts_53 : decode cX7_lasts 53 = .ok (.iload_n 2, 1) := by decide +kernel
theorem dX7_lasts_54 : decode cX7_lasts 54 = .ok (.iload_n 3, 1) := by decide +kernel
theorem dX7_lasts_55 : decode cX7_lasts 55 = .ok (.iload 4, 2) := by decide +kernel
theorem dX7_lasts_57 : decode cX7_lasts 57 = .ok (.invokestatic 151, 3) := by decide +kernel
theorem dX7_lasts_60 : decode cX7_lasts 60 = .ok (.ifCond .eq 9, 3) := by decide +kernel
theorem dX7_lasts_63 : decode cX7_lasts 63 = .ok (.iinc 4 1, 3) := by decide +kernel
theorem dX7_lasts_66 : decode cX7_lasts 66 = .ok (.goto (-20), 3) := by decide +kernel
theorem dX7_lasts_69 : decode cX7_lasts 69 = .ok (.iload 4, 2) := by decide +kernel
theorem dX7_lasts_71 : decode cX7_lasts 71 = .ok (.ireturn, 1) := by decide +kernel
theorem dX7_when_0 : decode cX7_when 0 = .ok (.iload_n 1, 1) := by decide +kernel
theorem dX7_when_1 : decode cX7_when 1 = .ok (.iconst 0, 1) := by decide +kernel
theorem dX7_when_2 : decode cX7_when 2 = .ok (.sipush 9999, 3) := by decide +kernel
theorem dX7_when_5 : decode cX7_when 5 = .ok (.invokestatic 77, 3) := by decide +kernel
theorem dX7_when_8 : decode cX7_when 8 = .ok (.ifCond .ne 9, 3) := by decide +kernel
theorem dX7_when_11 : decode cX7_when 11 = .ok (.aload_n 0, 1) := by decide +kernel
theorem dX7_when_12 : decode cX7_when 12 = .ok (.iconst 0, 1) := by decide +kernel
theorem dX7_when_13 : decode cX7_when 13 = .ok (.invokevirtual 61, 3) := by decide +kernel
theorem dX7_when_16 : decode cX7_when 16 = .ok (.ireturn, 1) := by decide +kernel
theorem dX7_when_17 : decode cX7_when 17 = .ok (.aload_n 0, 1) := by decide +kernel
theorem dX7_when_18 : decode cX7_when 18 = .ok (.getfield 19, 3) := by decide +kernel
theorem dX7_when_21 : decode cX7_when 21 = .ok (.aload_n 0, 1) := by decide +kernel
theorem dX7_when_22 : decode cX7_when 22 = .ok (.getfield 10, 3) := by decide +kernel
theorem dX7_when_25 : decode cX7_when 25 = .ok (.invokevirtual 147, 3) := by decide +kernel
theorem dX7_when_28 : decode cX7_when 28 = .ok (.iconst 0, 1) := by decide +kernel
theorem dX7_when_29 : decode cX7_when 29 = .ok (.istore_n 2, 1) := by decide +kernel
theorem dX7_when_30 : decode cX7_when 30 = .ok (.iload_n 2, 1) := by decide +kernel
theorem dX7_when_31 : decode cX7_when 31 = .ok (.bipush 100, 2) := by decide +kernel
theorem dX7_when_33 : decode cX7_when 33 = .ok (.if_icmp .gt 31, 3) := by decide +kernel
theorem dX7_when_36 : decode cX7_when 36 = .ok (.aload_n 0, 1) := by decide +kernel
theorem dX7_when_37 : decode cX7_when 37 = .ok (.getfield 19, 3) := by decide +kernel
theorem dX7_when_40 : decode cX7_when 40 = .ok (.invokevirtual 138, 3) := by decide +kernel
theorem dX7_when_43 : decode cX7_when 43 = .ok (.iload_n 1, 1) := by decide +kernel
theorem dX7_when_44 : decode cX7_when 44 = .ok (.if_icmp .lt 5, 3) := by decide +kernel
theorem dX7_when_47 : decode cX7_when 47 = .ok (.iload_n 2, 1) := by decide +kernel
theorem dX7_when_48 : decode cX7_when 48 = .ok (.ireturn, 1) := by decide +kernel
theorem dX7_when_49 : decode cX7_when 49 = .ok (.aload_n 0, 1) := by decide +kernel
theorem dX7_when_50 : decode cX7_when 50 = .ok (.getfield 19, 3) := by decide +kernel
theorem dX7_when_53 : decode cX7_when 53 = .ok (.iconst 1, 1) := by decide +kernel
theorem dX7_when_54 : decode cX7_when 54 = .ok (.invokevirtual 127, 3) := by decide +kernel
theorem dX7_when_57 : decode cX7_when 57 = .ok (.pop, 1) := by decide +kernel
theorem dX7_when_58 : decode cX7_when 58 = .ok (.iinc 2 1, 3) := by decide +kernel
theorem dX7_when_61 : decode cX7_when 61 = .ok (.goto (-31), 3) := by decide +kernel
theorem dX7_when_64 : decode cX7_when 64 = .ok (.aload_n 0, 1) := by decide +kernel
theorem dX7_when_65 : decode cX7_when 65 = .ok (.iconst 3, 1) := by decide +kernel
theorem dX7_when_66 : decode cX7_when 66 = .ok (.invokevirtual 61, 3) := by decide +kernel
theorem dX7_when_69 : decode cX7_when 69 = .ok (.ireturn, 1) := by decide +kernel
theorem dX7_kindFor_0 : decode cX7_kindFor 0 = .ok (.aload_n 0, 1) := by decide +kernel
theorem dX7_kindFor_1 : decode cX7_kindFor 1 = .ok (.getfield 10, 3) := by decide +kernel
theorem dX7_kindFor_4 : decode cX7_kindFor 4 = .ok (.iload_n 1, 1) := by decide +kernel
theorem dX7_kindFor_5 : decode cX7_kindFor 5 = .ok (.invokevirtual 73, 3) := by decide +kernel
theorem dX7_kindFor_8 : decode cX7_kindFor 8 = .ok (.ifCond .eq 13, 3) := by decide +kernel
theorem dX7_kindFor_11 : decode cX7_kindFor 11 = .ok (.iload_n 2, 1) := by decide +kernel
theorem dX7_kindFor_12 : decode cX7_kindFor 12 = .ok (.iconst 0, 1) := by decide +kernel
theorem dX7_kindFor_13 : decode cX7_kindFor 13 = .ok (.bipush 100, 2) := by decide +kernel
theorem dX7_kindFor_15 : decode cX7_kindFor 15 = .ok (.invokestatic 77, 3) := by decide +kernel
theorem dX7_kindFor_18 : decode cX7_kindFor 18 = .ok (.ifCond .ne 9, 3) := by decide +kernel
theorem dX7_kindFor_21 : decode cX7_kindFor 21 = .ok (.aload_n 0, 1) := by decide +kernel
theorem dX7_kindFor_22 : decode cX7_kindFor 22 = .ok (.iconst 0, 1) := by decide +kernel
theorem dX7_kindFor_23 : decode cX7_kindFor 23 = .ok (.invokevirtual 61, 3) := by decide +kernel
theorem dX7_kindFor_26 : decode cX7_kindFor 26 = .ok (.ireturn, 1) := by decide +kernel
theorem dX7_kindFor_27 : decode cX7_kindFor 27 = .ok (.aload_n 0, 1) := by decide +kernel
theorem dX7_kindFor_28 : decode cX7_kindFor 28 = .ok (.getfield 10, 3) := by decide +kernel
theorem dX7_kindFor_31 : decode cX7_kindFor 31 = .ok (.getfield 51, 3) := by decide +kernel
theorem dX7_kindFor_34 : decode cX7_kindFor 34 = .ok (.iload_n 1, 1) := by decide +kernel
theorem dX7_kindFor_35 : decode cX7_kindFor 35 = .ok (.iconst 2, 1) := by decide +kernel
theorem dX7_kindFor_36 : decode cX7_kindFor 36 = .ok (.invokevirtual 84, 3) := by decide +kernel
theorem dX7_kindFor_39 : decode cX7_kindFor 39 = .ok (.istore_n 3, 1) := by decide +kernel
theorem dX7_kindFor_40 : decode cX7_kindFor 40 = .ok (.iconst 0, 1) := by decide +kernel
theorem dX7_kindFor_41 : decode cX7_kindFor 41 = .ok (.istore 4, 2) := by decide +kernel
theorem dX7_kindFor_43 : decode cX7_kindFor 43 = .ok (.aload_n 0, 1) := by decide +kernel
theorem dX7_kindFor_44 : decode cX7_kindFor 44 = .ok (.getfield 10, 3) := by decide +kernel
theorem dX7_kindFor_47 : decode cX7_kindFor 47 = .ok (.iload_n 1, 1) := by decide +kernel
theorem dX7_kindFor_48 : decode cX7_kindFor 48 = .ok (.iconst 0, 1) := by decide +kernel
theorem dX7_kindFor_49 : decode cX7_kindFor 49 = .ok (.iload_n 3, 1) := by decide +kernel
theorem dX7_kindFor_50 : decode cX7_kindFor 50 = .ok (.iload_n 2, 1) := by decide +kernel
theorem dX7_kindFor_51 : decode cX7_kindFor 51 = .ok (.invokevirtual 154, 3) := by decide +kernel
theorem dX7_kindFor_54 : decode cX7_kindFor 54 = .ok (.istore 5, 2) := by decide +kernel
theorem dX7_kindFor_56 : decode cX7_kindFor 56 = .ok (.iconst 1, 1) := by decide +kernel
theorem dX7_kindFor_57 : decode cX7_kindFor 57 = .ok (.istore 6, 2) := by decide +kernel
theorem dX7_kindFor_59 : decode cX7_kindFor 59 = .ok (.iload 6, 2) := by decide +kernel
theorem dX7_kindFor_61 : decode cX7_kindFor 61 = .ok (.bipush 7, 2) := by decide +kernel
theorem dX7_kindFor_63 : decode cX7_kindFor 63 = .ok (.if_icmp .ge 38, 3) := by decide +kernel
theorem dX7_kindFor_66 : decode cX7_kindFor 66 = .ok (.aload_n 0, 1) := by decide +kernel
theorem dX7_kindFor_67 : decode cX7_kindFor 67 = .ok (.getfield 10, 3) := by decide +kernel
theorem dX7_kindFor_70 : decode cX7_kindFor 70 = .ok (.iload_n 1, 1) := by decide +kernel
theorem dX7_kindFor_71 : decode cX7_kindFor 71 = .ok (.iload 6, 2) := by decide +kernel
theorem dX7_kindFor_73 : decode cX7_kindFor 73 = .ok (.iload_n 3, 1) := by decide +kernel
theorem dX7_kindFor_74 : decode cX7_kindFor 74 = .ok (.iload_n 2, 1) := by decide +kernel
theorem dX7_kindFor_75 : decode cX7_kindFor 75 = .ok (.invokevirtual 154, 3) := by decide +kernel
theorem dX7_kindFor_78 : decode cX7_kindFor 78 = .ok (.istore 7, 2) := by decide +kernel
theorem dX7_kindFor_80 : decode cX7_kindFor 80 = .ok (.iload 7, 2) := by decide +kernel
theorem dX7_kindFor_82 : decode cX7_kindFor 82 = .ok (.iload 5, 2) := by decide +kernel
theorem dX7_kindFor_84 : decode cX7_kindFor 84 = .ok (.if_icmp .le 11, 3) := by decide +kernel
theorem dX7_kindFor_87 : decode cX7_kindFor 87 = .ok (.iload 7, 2) := by decide +kernel
theorem dX7_kindFor_89 : decode cX7_kindFor 89 = .ok (.istore 5, 2) := by decide +kernel
theorem dX7_kindFor_91 : decode cX7_kindFor 91 = .ok (.iload 6, 2) := by decide +kernel
theorem dX7_kindFor_93 : decode cX7_kindFor 93 = .ok (.istore 4, 2) := by decide +kernel
theorem dX7_kindFor_95 : decode cX7_kindFor 95 = .ok (.iinc 6 1, 3) := by decide +kernel
theorem dX7_kindFor_98 : decode cX7_kindFor 98 = .ok (.goto (-39), 3) := by decide +kernel
theorem dX7_kindFor_101 : decode cX7_kindFor 101 = .ok (.iload 4, 2) := by decide +kernel
theorem dX7_kindFor_103 : decode cX7_kindFor 103 = .ok (.ireturn, 1) := by decide +kernel
theorem dX7_everyFor_0 : decode cX7_everyFor 0 = .ok (.aload_n 0, 1) := by decide +kernel
theorem dX7_everyFor_1 : decode cX7_everyFor 1 = .ok (.getfield 10, 3) := by decide +kernel
theorem dX7_everyFor_4 : decode cX7_everyFor 4 = .ok (.getfield 97, 3) := by decide +kernel
theorem dX7_everyFor_7 : decode cX7_everyFor 7 = .ok (.iload_n 1, 1) := by decide +kernel
theorem dX7_everyFor_8 : decode cX7_everyFor 8 = .ok (.invokevirtual 103, 3) := by decide +kernel
theorem dX7_everyFor_11 : decode cX7_everyFor 11 = .ok (.ifCond .eq 13, 3) := by decide +kernel
theorem dX7_everyFor_14 : decode cX7_everyFor 14 = .ok (.iload_n 2, 1) := by decide +kernel
theorem dX7_everyFor_15 : decode cX7_everyFor 15 = .ok (.iconst 0, 1) := by decide +kernel
theorem dX7_everyFor_16 : decode cX7_everyFor 16 = .ok (.bipush 60, 2) := by decide +kernel
theorem dX7_everyFor_18 : decode cX7_everyFor 18 = .ok (.invokestatic 77, 3) := by decide +kernel
theorem dX7_everyFor_21 : decode cX7_everyFor 21 = .ok (.ifCond .ne 9, 3) := by decide +kernel
theorem dX7_everyFor_24 : decode cX7_everyFor 24 = .ok (.aload_n 0, 1) := by decide +kernel
theorem dX7_everyFor_25 : decode cX7_everyFor 25 = .ok (.iconst 0, 1) := by decide +kernel
theorem dX7_everyFor_26 : decode cX7_everyFor 26 = .ok (.invokevirtual 61, 3) := by decide +kernel
theorem dX7_everyFor_29 : decode cX7_everyFor 29 = .ok (.ireturn, 1) := by decide +kernel
theorem dX7_everyFor_30 : decode cX7_everyFor 30 = .ok (.iconst 1, 1) := by decide +kernel
theorem dX7_everyFor_31 : decode cX7_everyFor 31 = .ok (.istore_n 3, 1) := by decide +kernel
theorem dX7_everyFor_32 : decode cX7_everyFor 32 = .ok (.aload_n 0, 1) := by decide +kernel
theorem dX7_everyFor_33 : decode cX7_everyFor 33 = .ok (.iload_n 1, 1) := by decide +kernel
theorem dX7_everyFor_34 : decode cX7_everyFor 34 = .ok (.iconst 1, 1) := by decide +kernel
theorem dX7_everyFor_35 : decode cX7_everyFor 35 = .ok (.iload_n 2, 1) := by decide +kernel
theorem dX7_everyFor_36 : decode cX7_everyFor 36 = .ok (.invokevirtual 158, 3) := by decide +kernel
theorem dX7_everyFor_39 : decode cX7_everyFor 39 = .ok (.istore 4, 2) := by decide +kernel
theorem dX7_everyFor_41 : decode cX7_everyFor 41 = .ok (.iconst 2, 1) := by decide +kernel
theorem dX7_everyFor_42 : decode cX7_everyFor 42 = .ok (.istore 5, 2) := by decide +kernel
theorem dX7_everyFor_44 : decode cX7_everyFor 44 = .ok (.iload 5, 2) := by decide +kernel
theorem dX7_everyFor_46 : decode cX7_everyFor 46 = .ok (.bipush 30, 2) := by decide +kernel
theorem dX7_everyFor_48 : decode cX7_everyFor 48 = .ok (.if_icmp .gt 33, 3) := by decide +kernel
theorem dX7_everyFor_51 : decode cX7_everyFor 51 = .ok (.aload_n 0, 1) := by decide +kernel
theorem dX7_everyFor_52 : decode cX7_everyFor 52 = .ok (.iload_n 1, 1) := by decide +kernel
theorem dX7_everyFor_53 : decode cX7_everyFor 53 = .ok (.iload 5, 2) := by decide +kernel
theorem dX7_everyFor_55 : decode cX7_everyFor 55 = .ok (.iload_n 2, 1) := by decide +kernel
theorem dX7_everyFor_56 : decode cX7_everyFor 56 = .ok (.invokevirtual 158, 3) := by decide +kernel
theorem dX7_everyFor_59 : decode cX7_everyFor 59 = .ok (.istore 6, 2) := by decide +kernel
theorem dX7_everyFor_61 : decode cX7_everyFor 61 = .ok (.iload 6, 2) := by decide +kernel
theorem dX7_everyFor_63 : decode cX7_everyFor 63 = .ok (.iload 4, 2) := by decide +kernel
theorem dX7_everyFor_65 : decode cX7_everyFor 65 = .ok (.if_icmp .le 10, 3) := by decide +kernel
theorem dX7_everyFor_68 : decode cX7_everyFor 68 = .ok (.iload 6, 2) := by decide +kernel
theorem dX7_everyFor_70 : decode cX7_everyFor 70 = .ok (.istore 4, 2) := by decide +kernel
theorem dX7_everyFor_72 : decode cX7_everyFor 72 = .ok (.iload 5, 2) := by decide +kernel
theorem dX7_everyFor_74 : decode cX7_everyFor 74 = .ok (.istore_n 3, 1) := by decide +kernel
theorem dX7_everyFor_75 : decode cX7_everyFor 75 = .ok (.iinc 5 1, 3) := by decide +kernel
theorem dX7_everyFor_78 : decode cX7_everyFor 78 = .ok (.goto (-34), 3) := by decide +kernel
theorem dX7_everyFor_81 : decode cX7_everyFor 81 = .ok (.iload_n 3, 1) := by decide +kernel
theorem dX7_everyFor_82 : decode cX7_everyFor 82 = .ok (.ireturn, 1) := by decide +kernel
theorem dX7_minutesWithEvery_0 : decode cX7_minutesWithEvery 0 = .ok (.aload_n 0, 1) := by decide +kernel
theorem dX7_minutesWithEvery_1 : decode cX7_minutesWithEvery 1 = .ok (.getfield 19, 3) := by decide +kernel
theorem dX7_minutesWithEvery_4 : decode cX7_minutesWithEvery 4 = .ok (.aload_n 0, 1) := by decide +kernel
theorem dX7_minutesWithEvery_5 : decode cX7_minutesWithEvery 5 = .ok (.getfield 10, 3) := by decide +kernel
theorem dX7_minutesWithEvery_8 : decode cX7_minutesWithEvery 8 = .ok (.invokevirtual 147, 3) := by decide +kernel
theorem dX7_minutesWithEvery_11 : decode cX7_minutesWithEvery 11 = .ok (.aload_n 0, 1) := by decide +kernel
theorem dX7_minutesWithEvery_12 : decode cX7_minutesWithEvery 12 = .ok (.getfield 19, 3) := by decide +kernel
theorem dX7_minutesWithEvery_15 : decode cX7_minutesWithEvery 15 = .ok (.getfield 97, 3) := by decide +kernel
theorem dX7_minutesWithEvery_18 : decode cX7_minutesWithEvery 18 = .ok (.iload_n 1, 1) := by decide +kernel
theorem dX7_minutesWithEvery_19 : decode cX7_minutesWithEvery 19 = .ok (.iconst 0, 1) := by decide +kernel
theorem dX7_minutesWithEvery_20 : decode cX7_minutesWithEvery 20 = .ok (.iload_n 2, 1) := by decide +kernel
theorem dX7_minutesWithEvery_21 : decode cX7_minutesWithEvery 21 = .ok (.invokevirtual 162, 3) := by decide +kernel
theorem dX7_minutesWithEvery_24 : decode cX7_minutesWithEvery 24 = .ok (.aload_n 0, 1) := by decide +kernel
theorem dX7_minutesWithEvery_25 : decode cX7_minutesWithEvery 25 = .ok (.getfield 19, 3) := by decide +kernel
theorem dX7_minutesWithEvery_28 : decode cX7_minutesWithEvery 28 = .ok (.iload_n 3, 1) := by decide +kernel
theorem dX7_minutesWithEvery_29 : decode cX7_minutesWithEvery 29 = .ok (.invokevirtual 127, 3) := by decide +kernel
theorem dX7_minutesWithEvery_32 : decode cX7_minutesWithEvery 32 = .ok (.pop, 1) := by decide +kernel
theorem dX7_minutesWithEvery_33 : decode cX7_minutesWithEvery 33 = .ok (.aload_n 0, 1) := by decide +kernel
theorem dX7_minutesWithEvery_34 : decode cX7_minutesWithEvery 34 = .ok (.getfield 19, 3) := by decide +kernel
theorem dX7_minutesWithEvery_37 : decode cX7_minutesWithEvery 37 = .ok (.invokevirtual 138, 3) := by decide +kernel
theorem dX7_minutesWithEvery_40 : decode cX7_minutesWithEvery 40 = .ok (.ireturn, 1) := by decide +kernel
theorem dX7_fewest_0 : decode cX7_fewest 0 = .ok (.aload_n 0, 1) := by decide +kernel
theorem dX7_fewest_1 : decode cX7_fewest 1 = .ok (.getfield 10, 3) := by decide +kernel
theorem dX7_fewest_4 : decode cX7_fewest 4 = .ok (.getfield 100, 3) := by decide +kernel
theorem dX7_fewest_7 : decode cX7_fewest 7 = .ok (.iload_n 1, 1) := by decide +kernel
theorem dX7_fewest_8 : decode cX7_fewest 8 = .ok (.invokevirtual 103, 3) := by decide +kernel
theorem dX7_fewest_11 : decode cX7_fewest 11 = .ok (.ifCond .ne 9, 3) := by decide +kernel
theorem dX7_fewest_14 : decode cX7_fewest 14 = .ok (.aload_n 0, 1) := by decide +kernel
theorem dX7_fewest_15 : decode cX7_fewest 15 = .ok (.iconst 0, 1) := by decide +kernel
theorem dX7_fewest_16 : decode cX7_fewest 16 = .ok (.invokevirtual 61, 3) := by decide +kernel
theorem dX7_fewest_19 : decode cX7_fewest 19 = .ok (.ireturn, 1) := by decide +kernel
theorem dX7_fewest_20 : decode cX7_fewest 20 = .ok (.aload_n 0, 1) := by decide +kernel
theorem dX7_fewest_21 : decode cX7_fewest 21 = .ok (.getfield 25, 3) := by decide +kernel
theorem dX7_fewest_24 : decode cX7_fewest 24 = .ok (.aload_n 0, 1) := by decide +kernel
theorem dX7_fewest_25 : decode cX7_fewest 25 = .ok (.getfield 10, 3) := by decide +kernel
theorem dX7_fewest_28 : decode cX7_fewest 28 = .ok (.invokevirtual 166, 3) := by decide +kernel
theorem dX7_fewest_31 : decode cX7_fewest 31 = .ok (.aload_n 0, 1) := by decide +kernel
theorem dX7_fewest_32 : decode cX7_fewest 32 = .ok (.getfield 25, 3) := by decide +kernel
theorem dX7_fewest_35 : decode cX7_fewest 35 = .ok (.aload_n 0, 1) := by decide +kernel
theorem dX7_fewest_36 : decode cX7_fewest 36 = .ok (.getfield 10, 3) := by decide +kernel
theorem dX7_fewest_39 : decode cX7_fewest 39 = .ok (.iload_n 1, 1) := by decide +kernel
theorem dX7_fewest_40 : decode cX7_fewest 40 = .ok (.invokevirtual 169, 3) := by decide +kernel
theorem dX7_fewest_43 : decode cX7_fewest 43 = .ok (.istore_n 2, 1) := by decide +kernel
theorem dX7_fewest_44 : decode cX7_fewest 44 = .ok (.iload_n 2, 1) := by decide +kernel
theorem dX7_fewest_45 : decode cX7_fewest 45 = .ok (.ifCond .ge 11, 3) := by decide +kernel
theorem dX7_fewest_48 : decode cX7_fewest 48 = .ok (.aload_n 0, 1) := by decide +kernel
theorem dX7_fewest_49 : decode cX7_fewest 49 = .ok (.iconst 3, 1) := by decide +kernel
theorem dX7_fewest_50 : decode cX7_fewest 50 = .ok (.invokevirtual 61, 3) := by decide +kernel
theorem dX7_fewest_53 : decode cX7_fewest 53 = .ok (.goto 4, 3) := by decide +kernel
theorem dX7_fewest_56 : decode cX7_fewest 56 = .ok (.iload_n 2, 1) := by decide +kernel
theorem dX7_fewest_57 : decode cX7_fewest 57 = .ok (.ireturn, 1) := by decide +kernel
theorem dX7_thrifty_0 : decode cX7_thrifty 0 = .ok (.aload_n 0, 1) := by decide +kernel
theorem dX7_thrifty_1 : decode cX7_thrifty 1 = .ok (.getfield 10, 3) := by decide +kernel
theorem dX7_thrifty_4 : decode cX7_thrifty 4 = .ok (.getfield 100, 3) := by decide +kernel
theorem dX7_thrifty_7 : decode cX7_thrifty 7 = .ok (.iload_n 1, 1) := by decide +kernel
theorem dX7_thrifty_8 : decode cX7_thrifty 8 = .ok (.invokevirtual 103, 3) := by decide +kernel
theorem dX7_thrifty_11 : decode cX7_thrifty 11 = .ok (.ifCond .ne 9, 3) := by decide +kernel
theorem dX7_thrifty_14 : decode cX7_thrifty 14 = .ok (.aload_n 0, 1) := by decide +kernel
theorem dX7_thrifty_15 : decode cX7_thrifty 15 = .ok (.iconst 0, 1) := by decide +kernel
theorem dX7_thrifty_16 : decode cX7_thrifty 16 = .ok (.invokevirtual 61, 3) := by decide +kernel
theorem dX7_thrifty_19 : decode cX7_thrifty 19 = .ok (.ireturn, 1) := by decide +kernel
theorem dX7_thrifty_20 : decode cX7_thrifty 20 = .ok (.aload_n 0, 1) := by decide +kernel
theorem dX7_thrifty_21 : decode cX7_thrifty 21 = .ok (.getfield 25, 3) := by decide +kernel
theorem dX7_thrifty_24 : decode cX7_thrifty 24 = .ok (.aload_n 0, 1) := by decide +kernel
theorem dX7_thrifty_25 : decode cX7_thrifty 25 = .ok (.getfield 10, 3) := by decide +kernel
theorem dX7_thrifty_28 : decode cX7_thrifty 28 = .ok (.invokevirtual 166, 3) := by decide +kernel
theorem dX7_thrifty_31 : decode cX7_thrifty 31 = .ok (.aload_n 0, 1) := by decide +kernel
theorem dX7_thrifty_32 : decode cX7_thrifty 32 = .ok (.getfield 25, 3) := by decide +kernel
theorem dX7_thrifty_35 : decode cX7_thrifty 35 = .ok (.aload_n 0, 1) := by decide +kernel
theorem dX7_thrifty_36 : decode cX7_thrifty 36 = .ok (.getfield 10, 3) := by decide +kernel
theorem dX7_thrifty_39 : decode cX7_thrifty 39 = .ok (.iload_n 1, 1) := by decide +kernel
theorem dX7_thrifty_40 : decode cX7_thrifty 40 = .ok (.invokevirtual 173, 3) := by decide +kernel
theorem dX7_thrifty_43 : decode cX7_thrifty 43 = .ok (.istore_n 2, 1) := by decide +kernel
theorem dX7_thrifty_44 : decode cX7_thrifty 44 = .ok (.iload_n 2, 1) := by decide +kernel
theorem dX7_thrifty_45 : decode cX7_thrifty 45 = .ok (.ifCond .ge 11, 3) := by decide +kernel
theorem dX7_thrifty_48 : decode cX7_thrifty 48 = .ok (.aload_n 0, 1) := by decide +kernel
theorem dX7_thrifty_49 : decode cX7_thrifty 49 = .ok (.iconst 3, 1) := by decide +kernel
theorem dX7_thrifty_50 : decode cX7_thrifty 50 = .ok (.invokevirtual 61, 3) := by decide +kernel
theorem dX7_thrifty_53 : decode cX7_thrifty 53 = .ok (.goto 4, 3) := by decide +kernel
theorem dX7_thrifty_56 : decode cX7_thrifty 56 = .ok (.iload_n 2, 1) := by decide +kernel
theorem dX7_thrifty_57 : decode cX7_thrifty 57 = .ok (.ireturn, 1) := by decide +kernel
theorem dX7_best_0 : decode cX7_best 0 = .ok (.aload_n 0, 1) := by decide +kernel
theorem dX7_best_1 : decode cX7_best 1 = .ok (.getfield 25, 3) := by decide +kernel
theorem dX7_best_4 : decode cX7_best 4 = .ok (.aload_n 0, 1) := by decide +kernel
theorem dX7_best_5 : decode cX7_best 5 = .ok (.getfield 10, 3) := by decide +kernel
theorem dX7_best_8 : decode cX7_best 8 = .ok (.invokevirtual 166, 3) := by decide +kernel
theorem dX7_best_11 : decode cX7_best 11 = .ok (.aload_n 0, 1) := by decide +kernel
theorem dX7_best_12 : decode cX7_best 12 = .ok (.getfield 25, 3) := by decide +kernel
theorem dX7_best_15 : decode cX7_best 15 = .ok (.aload_n 0, 1) := by decide +kernel
theorem dX7_best_16 : decode cX7_best 16 = .ok (.getfield 10, 3) := by decide +kernel
theorem dX7_best_19 : decode cX7_best 19 = .ok (.invokevirtual 176, 3) := by decide +kernel
theorem dX7_best_22 : decode cX7_best 22 = .ok (.invokestatic 180, 3) := by decide +kernel
theorem dX7_best_25 : decode cX7_best 25 = .ok (.ireturn, 1) := by decide +kernel
theorem dX7_bestWorks_0 : decode cX7_bestWorks 0 = .ok (.aload_n 0, 1) := by decide +kernel
theorem dX7_bestWorks_1 : decode cX7_bestWorks 1 = .ok (.getfield 25, 3) := by decide +kernel
theorem dX7_bestWorks_4 : decode cX7_bestWorks 4 = .ok (.aload_n 0, 1) := by decide +kernel
theorem dX7_bestWorks_5 : decode cX7_bestWorks 5 = .ok (.getfield 10, 3) := by decide +kernel
theorem dX7_bestWorks_8 : decode cX7_bestWorks 8 = .ok (.invokevirtual 166, 3) := by decide +kernel
theorem dX7_bestWorks_11 : decode cX7_bestWorks 11 = .ok (.aload_n 0, 1) := by decide +kernel
theorem dX7_bestWorks_12 : decode cX7_bestWorks 12 = .ok (.getfield 25, 3) := by decide +kernel
theorem dX7_bestWorks_15 : decode cX7_bestWorks 15 = .ok (.aload_n 0, 1) := by decide +kernel
theorem dX7_bestWorks_16 : decode cX7_bestWorks 16 = .ok (.getfield 10, 3) := by decide +kernel
theorem dX7_bestWorks_19 : decode cX7_bestWorks 19 = .ok (.invokevirtual 176, 3) := by decide +kernel
theorem dX7_bestWorks_22 : decode cX7_bestWorks 22 = .ok (.invokestatic 183, 3) := by decide +kernel
theorem dX7_bestWorks_25 : decode cX7_bestWorks 25 = .ok (.ireturn, 1) := by decide +kernel
theorem dX7_soonest_0 : decode cX7_soonest 0 = .ok (.aload_n 0, 1) := by decide +kernel
theorem dX7_soonest_1 : decode cX7_soonest 1 = .ok (.getfield 10, 3) := by decide +kernel
theorem dX7_soonest_4 : decode cX7_soonest 4 = .ok (.getfield 100, 3) := by decide +kernel
theorem dX7_soonest_7 : decode cX7_soonest 7 = .ok (.iload_n 1, 1) := by decide +kernel
theorem dX7_soonest_8 : decode cX7_soonest 8 = .ok (.invokevirtual 103, 3) := by decide +kernel
theorem dX7_soonest_11 : decode cX7_soonest 11 = .ok (.ifCond .ne 9, 3) := by decide +kernel
theorem dX7_soonest_14 : decode cX7_soonest 14 = .ok (.aload_n 0, 1) := by decide +kernel
theorem dX7_soonest_15 : decode cX7_soonest 15 = .ok (.iconst 0, 1) := by decide +kernel
theorem dX7_soonest_16 : decode cX7_soonest 16 = .ok (.invokevirtual 61, 3) := by decide +kernel
theorem dX7_soonest_19 : decode cX7_soonest 19 = .ok (.ireturn, 1) := by decide +kernel
theorem dX7_soonest_20 : decode cX7_soonest 20 = .ok (.aload_n 0, 1) := by decide +kernel
theorem dX7_soonest_21 : decode cX7_soonest 21 = .ok (.getfield 19, 3) := by decide +kernel
theorem dX7_soonest_24 : decode cX7_soonest 24 = .ok (.aload_n 0, 1) := by decide +kernel
theorem dX7_soonest_25 : decode cX7_soonest 25 = .ok (.getfield 10, 3) := by decide +kernel
theorem dX7_soonest_28 : decode cX7_soonest 28 = .ok (.invokevirtual 147, 3) := by decide +kernel
theorem dX7_soonest_31 : decode cX7_soonest 31 = .ok (.iconst 0, 1) := by decide +kernel
theorem dX7_soonest_32 : decode cX7_soonest 32 = .ok (.istore_n 2, 1) := by decide +kernel
theorem dX7_soonest_33 : decode cX7_soonest 33 = .ok (.iload_n 2, 1) := by decide +kernel
theorem dX7_soonest_34 : decode cX7_soonest 34 = .ok (.bipush 60, 2) := by decide +kernel
theorem dX7_soonest_36 : decode cX7_soonest 36 = .ok (.if_icmp .gt 49, 3) := by decide +kernel
theorem dX7_soonest_39 : decode cX7_soonest 39 = .ok (.aload_n 0, 1) := by decide +kernel
theorem dX7_soonest_40 : decode cX7_soonest 40 = .ok (.getfield 19, 3) := by decide +kernel
theorem dX7_soonest_43 : decode cX7_soonest 43 = .ok (.iload_n 1, 1) := by decide +kernel
theorem dX7_soonest_44 : decode cX7_soonest 44 = .ok (.invokevirtual 112, 3) := by decide +kernel
theorem dX7_soonest_47 : decode cX7_soonest 47 = .ok (.ifCond .eq 38, 3) := by decide +kernel
theorem dX7_soonest_50 : decode cX7_soonest 50 = .ok (.aload_n 0, 1) := by decide +kernel
theorem dX7_soonest_51 : decode cX7_soonest 51 = .ok (.getfield 19, 3) := by decide +kernel
theorem dX7_soonest_54 : decode cX7_soonest 54 = .ok (.iload_n 1, 1) := by decide +kernel
theorem dX7_soonest_55 : decode cX7_soonest 55 = .ok (.invokevirtual 186, 3) := by decide +kernel
theorem dX7_soonest_58 : decode cX7_soonest 58 = .ok (.aload_n 0, 1) := by decide +kernel
theorem dX7_soonest_59 : decode cX7_soonest 59 = .ok (.getfield 19, 3) := by decide +kernel
theorem dX7_soonest_62 : decode cX7_soonest 62 = .ok (.invokevirtual 138, 3) := by decide +kernel
theorem dX7_soonest_65 : decode cX7_soonest 65 = .ok (.if_icmp .gt 5, 3) := by decide +kernel
theorem dX7_soonest_68 : decode cX7_soonest 68 = .ok (.iload_n 2, 1) := by decide +kernel
theorem dX7_soonest_69 : decode cX7_soonest 69 = .ok (.ireturn, 1) := by decide +kernel
theorem dX7_soonest_70 : decode cX7_soonest 70 = .ok (.aload_n 0, 1) := by decide +kernel
theorem dX7_soonest_71 : decode cX7_soonest 71 = .ok (.getfield 19, 3) := by decide +kernel
theorem dX7_soonest_74 : decode cX7_soonest 74 = .ok (.iconst 1, 1) := by decide +kernel
theorem dX7_soonest_75 : decode cX7_soonest 75 = .ok (.invokevirtual 127, 3) := by decide +kernel
theorem dX7_soonest_78 : decode cX7_soonest 78 = .ok (.pop, 1) := by decide +kernel
theorem dX7_soonest_79 : decode cX7_soonest 79 = .ok (.iinc 2 1, 3) := by decide +kernel
theorem dX7_soonest_82 : decode cX7_soonest 82 = .ok (.goto (-49), 3) := by decide +kernel
theorem dX7_soonest_85 : decode cX7_soonest 85 = .ok (.aload_n 0, 1) := by decide +kernel
theorem dX7_soonest_86 : decode cX7_soonest 86 = .ok (.iconst 3, 1) := by decide +kernel
theorem dX7_soonest_87 : decode cX7_soonest 87 = .ok (.invokevirtual 61, 3) := by decide +kernel
theorem dX7_soonest_90 : decode cX7_soonest 90 = .ok (.ireturn, 1) := by decide +kernel
theorem dX7_nest_0 : decode cX7_nest 0 = .ok (.iload_n 1, 1) := by decide +kernel
theorem dX7_nest_1 : decode cX7_nest 1 = .ok (.iconst 0, 1) := by decide +kernel
theorem dX7_nest_2 : decode cX7_nest 2 = .ok (.iconst 3, 1) := by decide +kernel
theorem dX7_nest_3 : decode cX7_nest 3 = .ok (.invokestatic 77, 3) := by decide +kernel
theorem dX7_nest_6 : decode cX7_nest 6 = .ok (.ifCond .eq 14, 3) := by decide +kernel
theorem dX7_nest_9 : decode cX7_nest 9 = .ok (.aload_n 0, 1) := by decide +kernel
theorem dX7_nest_10 : decode cX7_nest 10 = .ok (.getfield 10, 3) := by decide +kernel
theorem dX7_nest_13 : decode cX7_nest 13 = .ok (.iload_n 1, 1) := by decide +kernel
theorem dX7_nest_14 : decode cX7_nest 14 = .ok (.invokevirtual 189, 3) := by decide +kernel
theorem dX7_nest_17 : decode cX7_nest 17 = .ok (.goto 8, 3) := by decide +kernel
theorem dX7_nest_20 : decode cX7_nest 20 = .ok (.aload_n 0, 1) := by decide +kernel
theorem dX7_nest_21 : decode cX7_nest 21 = .ok (.iconst 0, 1) := by decide +kernel
theorem dX7_nest_22 : decode cX7_nest 22 = .ok (.invokevirtual 61, 3) := by decide +kernel
theorem dX7_nest_25 : decode cX7_nest 25 = .ok (.ireturn, 1) := by decide +kernel
theorem dX7_guard_0 : decode cX7_guard 0 = .ok (.iconst 0, 1) := by decide +kernel
theorem dX7_guard_1 : decode cX7_guard 1 = .ok (.istore_n 1, 1) := by decide +kernel
theorem dX7_guard_2 : decode cX7_guard 2 = .ok (.iconst 1, 1) := by decide +kernel
theorem dX7_guard_3 : decode cX7_guard 3 = .ok (.istore_n 2, 1) := by decide +kernel
theorem dX7_guard_4 : decode cX7_guard 4 = .ok (.iload_n 2, 1) := by decide +kernel
theorem dX7_guard_5 : decode cX7_guard 5 = .ok (.iconst 4, 1) := by decide +kernel
theorem dX7_guard_6 : decode cX7_guard 6 = .ok (.if_icmp .ge 30, 3) := by decide +kernel
theorem dX7_guard_9 : decode cX7_guard 9 = .ok (.aload_n 0, 1) := by decide +kernel
theorem dX7_guard_10 : decode cX7_guard 10 = .ok (.getfield 10, 3) := by decide +kernel
theorem dX7_guard_13 : decode cX7_guard 13 = .ok (.iload_n 2, 1) := by decide +kernel
theorem dX7_guard_14 : decode cX7_guard 14 = .ok (.invokevirtual 189, 3) := by decide +kernel
theorem dX7_guard_17 : decode cX7_guard 17 = .ok (.aload_n 0, 1) := by decide +kernel
theorem dX7_guard_18 : decode cX7_guard 18 = .ok (.getfield 10, 3) := by decide +kernel
theorem dX7_guard_21 : decode cX7_guard 21 = .ok (.iload_n 1, 1) := by decide +kernel
theorem dX7_guard_22 : decode cX7_guard 22 = .ok (.invokevirtual 189, 3) := by decide +kernel
theorem dX7_guard_25 : decode cX7_guard 25 = .ok (.if_icmp .le 5, 3) := by decide +kernel
theorem dX7_guard_28 : decode cX7_guard 28 = .ok (.iload_n 2, 1) := by decide +kernel
theorem dX7_guard_29 : decode cX7_guard 29 = .ok (.istore_n 1, 1) := by decide +kernel
theorem dX7_guard_30 : decode cX7_guard 30 = .ok (.iinc 2 1, 3) := by decide +kernel
theorem dX7_guard_33 : decode cX7_guard 33 = .ok (.goto (-29), 3) := by decide +kernel
theorem dX7_guard_36 : decode cX7_guard 36 = .ok (.iload_n 1, 1) := by decide +kernel
theorem dX7_guard_37 : decode cX7_guard 37 = .ok (.ireturn, 1) := by decide +kernel
theorem dX7_halves_0 : decode cX7_halves 0 = .ok (.aload_n 0, 1) := by decide +kernel
theorem dX7_halves_1 : decode cX7_halves 1 = .ok (.getfield 25, 3) := by decide +kernel
theorem dX7_halves_4 : decode cX7_halves 4 = .ok (.aload_n 0, 1) := by decide +kernel
theorem dX7_halves_5 : decode cX7_halves 5 = .ok (.getfield 10, 3) := by decide +kernel
theorem dX7_halves_8 : decode cX7_halves 8 = .ok (.invokevirtual 166, 3) := by decide +kernel
theorem dX7_halves_11 : decode cX7_halves 11 = .ok (.aload_n 0, 1) := by decide +kernel
theorem dX7_halves_12 : decode cX7_halves 12 = .ok (.getfield 25, 3) := by decide +kernel
theorem dX7_halves_15 : decode cX7_halves 15 = .ok (.invokevirtual 192, 3) := by decide +kernel
theorem dX7_halves_18 : decode cX7_halves 18 = .ok (.ireturn, 1) := by decide +kernel
theorem dX7_apart_0 : decode cX7_apart 0 = .ok (.aload_n 0, 1) := by decide +kernel
theorem dX7_apart_1 : decode cX7_apart 1 = .ok (.getfield 25, 3) := by decide +kernel
theorem dX7_apart_4 : decode cX7_apart 4 = .ok (.aload_n 0, 1) := by decide +kernel
theorem dX7_apart_5 : decode cX7_apart 5 = .ok (.getfield 10, 3) := by decide +kernel
theorem dX7_apart_8 : decode cX7_apart 8 = .ok (.invokevirtual 166, 3) := by decide +kernel
theorem dX7_apart_11 : decode cX7_apart 11 = .ok (.aload_n 0, 1) := by decide +kernel
theorem dX7_apart_12 : decode cX7_apart 12 = .ok (.getfield 25, 3) := by decide +kernel
theorem dX7_apart_15 : decode cX7_apart 15 = .ok (.aload_n 0, 1) := by decide +kernel
theorem dX7_apart_16 : decode cX7_apart 16 = .ok (.getfield 25, 3) := by decide +kernel
theorem dX7_apart_19 : decode cX7_apart 19 = .ok (.invokevirtual 192, 3) := by decide +kernel
theorem dX7_apart_22 : decode cX7_apart 22 = .ok (.invokevirtual 195, 3) := by decide +kernel
theorem dX7_apart_25 : decode cX7_apart 25 = .ok (.ireturn, 1) := by decide +kernel
theorem dX7_sets_0 : decode cX7_sets 0 = .ok (.iload_n 1, 1) := by decide +kernel
theorem dX7_sets_1 : decode cX7_sets 1 = .ok (.sipush (-9999), 3) := by decide +kernel
theorem dX7_sets_4 : decode cX7_sets 4 = .ok (.sipush 9999, 3) := by decide +kernel
theorem dX7_sets_7 : decode cX7_sets 7 = .ok (.invokestatic 77, 3) := by decide +kernel
theorem dX7_sets_10 : decode cX7_sets 10 = .ok (.ifCond .ne 9, 3) := by decide +kernel
theorem dX7_sets_13 : decode cX7_sets 13 = .ok (.aload_n 0, 1) := by decide +kernel
theorem dX7_sets_14 : decode cX7_sets 14 = .ok (.iconst 0, 1) := by decide +kernel
theorem dX7_sets_15 : decode cX7_sets 15 = .ok (.invokevirtual 61, 3) := by decide +kernel
theorem dX7_sets_18 : decode cX7_sets 18 = .ok (.ireturn, 1) := by decide +kernel
theorem dX7_sets_19 : decode cX7_sets 19 = .ok (.aload_n 0, 1) := by decide +kernel
theorem dX7_sets_20 : decode cX7_sets 20 = .ok (.getfield 25, 3) := by decide +kernel
theorem dX7_sets_23 : decode cX7_sets 23 = .ok (.aload_n 0, 1) := by decide +kernel
theorem dX7_sets_24 : decode cX7_sets 24 = .ok (.getfield 10, 3) := by decide +kernel
theorem dX7_sets_27 : decode cX7_sets 27 = .ok (.invokevirtual 166, 3) := by decide +kernel
theorem dX7_sets_30 : decode cX7_sets 30 = .ok (.aload_n 0, 1) := by decide +kernel
theorem dX7_sets_31 : decode cX7_sets 31 = .ok (.getfield 25, 3) := by decide +kernel
theorem dX7_sets_34 : decode cX7_sets 34 = .ok (.iload_n 1, 1) := by decide +kernel
theorem dX7_sets_35 : decode cX7_sets 35 = .ok (.invokevirtual 198, 3) := by decide +kernel
theorem dX7_sets_38 : decode cX7_sets 38 = .ok (.ireturn, 1) := by decide +kernel
theorem dX7_ages_0 : decode cX7_ages 0 = .ok (.aload_n 0, 1) := by decide +kernel
theorem dX7_ages_1 : decode cX7_ages 1 = .ok (.iload_n 1, 1) := by decide +kernel
theorem dX7_ages_2 : decode cX7_ages 2 = .ok (.iload_n 2, 1) := by decide +kernel
theorem dX7_ages_3 : decode cX7_ages 3 = .ok (.invokevirtual 201, 3) := by decide +kernel
theorem dX7_ages_6 : decode cX7_ages 6 = .ok (.istore_n 3, 1) := by decide +kernel
theorem dX7_ages_7 : decode cX7_ages 7 = .ok (.iload_n 3, 1) := by decide +kernel
theorem dX7_ages_8 : decode cX7_ages 8 = .ok (.ifCond .lt 9, 3) := by decide +kernel
theorem dX7_ages_11 : decode cX7_ages 11 = .ok (.aload_n 0, 1) := by decide +kernel
theorem dX7_ages_12 : decode cX7_ages 12 = .ok (.iload_n 3, 1) := by decide +kernel
theorem dX7_ages_13 : decode cX7_ages 13 = .ok (.invokevirtual 61, 3) := by decide +kernel
theorem dX7_ages_16 : decode cX7_ages 16 = .ok (.ireturn, 1) := by decide +kernel
theorem dX7_ages_17 : decode cX7_ages 17 = .ok (.iconst 0, 1) := by decide +kernel
theorem dX7_ages_18 : decode cX7_ages 18 = .ok (.istore 4, 2) := by decide +kernel
theorem dX7_ages_20 : decode cX7_ages 20 = .ok (.iconst 0, 1) := by decide +kernel
theorem dX7_ages_21 : decode cX7_ages 21 = .ok (.istore 5, 2) := by decide +kernel
theorem dX7_ages_23 : decode cX7_ages 23 = .ok (.iload 5, 2) := by decide +kernel
theorem dX7_ages_25 : decode cX7_ages 25 = .ok (.bipush 99, 2) := by decide +kernel
theorem dX7_ages_27 : decode cX7_ages 27 = .ok (.if_icmp .gt 27, 3) := by decide +kernel
theorem dX7_ages_30 : decode cX7_ages 30 = .ok (.aload_n 0, 1) := by decide +kernel
theorem dX7_ages_31 : decode cX7_ages 31 = .ok (.aload_n 0, 1) := by decide +kernel
theorem dX7_ages_32 : decode cX7_ages 32 = .ok (.iload_n 1, 1) := by decide +kernel
theorem dX7_ages_33 : decode cX7_ages 33 = .ok (.invokevirtual 204, 3) := by decide +kernel
theorem dX7_ages_36 : decode cX7_ages 36 = .ok (.iload_n 2, 1) := by decide +kernel
theorem dX7_ages_37 : decode cX7_ages 37 = .ok (.iload 5, 2) := by decide +kernel
theorem dX7_ages_39 : decode cX7_ages 39 = .ok (.invokevirtual 208, 3) := by decide +kernel
theorem dX7_ages_42 : decode cX7_ages 42 = .ok (.ifCond .eq 6, 3) := by decide +kernel
theorem dX7_ages_45 : decode cX7_ages 45 = .ok (.iinc 4 1, 3) := by decide +kernel
theorem dX7_ages_48 : decode cX7_ages 48 = .ok (.iinc 5 1, 3) := by decide +kernel
theorem dX7_ages_51 : decode cX7_ages 51 = .ok (.goto (-28), 3) := by decide +kernel
theorem dX7_ages_54 : decode cX7_ages 54 = .ok (.iload 4, 2) := by decide +kernel
theorem dX7_ages_56 : decode cX7_ages 56 = .ok (.ireturn, 1) := by decide +kernel
theorem dX7_youngest_0 : decode cX7_youngest 0 = .ok (.aload_n 0, 1) := by decide +kernel
theorem dX7_youngest_1 : decode cX7_youngest 1 = .ok (.iload_n 1, 1) := by decide +kernel
theorem dX7_youngest_2 : decode cX7_youngest 2 = .ok (.iload_n 2, 1) := by decide +kernel
theorem dX7_youngest_3 : decode cX7_youngest 3 = .ok (.invokevirtual 201, 3) := by decide +kernel
theorem dX7_youngest_6 : decode cX7_youngest 6 = .ok (.istore_n 3, 1) := by decide +kernel
theorem dX7_youngest_7 : decode cX7_youngest 7 = .ok (.iload_n 3, 1) := by decide +kernel
theorem dX7_youngest_8 : decode cX7_youngest 8 = .ok (.ifCond .lt 9, 3) := by decide +kernel
theorem dX7_youngest_11 : decode cX7_youngest 11 = .ok (.aload_n 0, 1) := by decide +kernel
theorem dX7_youngest_12 : decode cX7_youngest 12 = .ok (.iload_n 3, 1) := by decide +kernel
theorem dX7_youngest_13 : decode cX7_youngest 13 = .ok (.invokevirtual 61, 3) := by decide +kernel
theorem dX7_youngest_16 : decode cX7_youngest 16 = .ok (.ireturn, 1) := by decide +kernel
theorem dX7_youngest_17 : decode cX7_youngest 17 = .ok (.iconst 0, 1) := by decide +kernel
theorem dX7_youngest_18 : decode cX7_youngest 18 = .ok (.istore 4, 2) := by decide +kernel
theorem dX7_youngest_20 : decode cX7_youngest 20 = .ok (.iload 4, 2) := by decide +kernel
theorem dX7_youngest_22 : decode cX7_youngest 22 = .ok (.bipush 99, 2) := by decide +kernel
theorem dX7_youngest_24 : decode cX7_youngest 24 = .ok (.if_icmp .gt 27, 3) := by decide +kernel
theorem dX7_youngest_27 : decode cX7_youngest 27 = .ok (.aload_n 0, 1) := by decide +kernel
theorem dX7_youngest_28 : decode cX7_youngest 28 = .ok (.aload_n 0, 1) := by decide +kernel
theorem dX7_youngest_29 : decode cX7_youngest 29 = .ok (.iload_n 1, 1) := by decide +kernel
theorem dX7_youngest_30 : decode cX7_youngest 30 = .ok (.invokevirtual 204, 3) := by decide +kernel
theorem dX7_youngest_33 : decode cX7_youngest 33 = .ok (.iload_n 2, 1) := by decide +kernel
theorem dX7_youngest_34 : decode cX7_youngest 34 = .ok (.iload 4, 2) := by decide +kernel
theorem dX7_youngest_36 : decode cX7_youngest 36 = .ok (.invokevirtual 208, 3) := by decide +kernel
theorem dX7_youngest_39 : decode cX7_youngest 39 = .ok (.ifCond .eq 6, 3) := by decide +kernel
theorem dX7_youngest_42 : decode cX7_youngest 42 = .ok (.iload 4, 2) := by decide +kernel
theorem dX7_youngest_44 : decode cX7_youngest 44 = .ok (.ireturn, 1) := by decide +kernel
theorem dX7_youngest_45 : decode cX7_youngest 45 = .ok (.iinc 4 1, 3) := by decide +kernel
theorem dX7_youngest_48 : decode cX7_youngest 48 = .ok (.goto (-28), 3) := by decide +kernel
theorem dX7_youngest_51 : decode cX7_youngest 51 = .ok (.aload_n 0, 1) := by decide +kernel
theorem dX7_youngest_52 : decode cX7_youngest 52 = .ok (.iconst 3, 1) := by decide +kernel
theorem dX7_youngest_53 : decode cX7_youngest 53 = .ok (.invokevirtual 61, 3) := by decide +kernel
theorem dX7_youngest_56 : decode cX7_youngest 56 = .ok (.ireturn, 1) := by decide +kernel
theorem dX7_wrongTold_0 : decode cX7_wrongTold 0 = .ok (.aload_n 0, 1) := by decide +kernel
theorem dX7_wrongTold_1 : decode cX7_wrongTold 1 = .ok (.iload_n 1, 1) := by decide +kernel
theorem dX7_wrongTold_2 : decode cX7_wrongTold 2 = .ok (.invokevirtual 212, 3) := by decide +kernel
theorem dX7_wrongTold_5 : decode cX7_wrongTold 5 = .ok (.istore_n 3, 1) := by decide +kernel
theorem dX7_wrongTold_6 : decode cX7_wrongTold 6 = .ok (.iload_n 3, 1) := by decide +kernel
theorem dX7_wrongTold_7 : decode cX7_wrongTold 7 = .ok (.ifCond .lt 5, 3) := by decide +kernel
theorem dX7_wrongTold_10 : decode cX7_wrongTold 10 = .ok (.iload_n 3, 1) := by decide +kernel
theorem dX7_wrongTold_11 : decode cX7_wrongTold 11 = .ok (.ireturn, 1) := by decide +kernel
theorem dX7_wrongTold_12 : decode cX7_wrongTold 12 = .ok (.aload_n 0, 1) := by decide +kernel
theorem dX7_wrongTold_13 : decode cX7_wrongTold 13 = .ok (.getfield 10, 3) := by decide +kernel
theorem dX7_wrongTold_16 : decode cX7_wrongTold 16 = .ok (.iload_n 2, 1) := by decide +kernel
theorem dX7_wrongTold_17 : decode cX7_wrongTold 17 = .ok (.invokevirtual 73, 3) := by decide +kernel
theorem dX7_wrongTold_20 : decode cX7_wrongTold 20 = .ok (.ifCond .eq 7, 3) := by decide +kernel
theorem dX7_wrongTold_23 : decode cX7_wrongTold 23 = .ok (.iconst (-1), 1) := by decide +kernel
theorem dX7_wrongTold_24 : decode cX7_wrongTold 24 = .ok (.goto 4, 3) := by decide +kernel
theorem dX7_wrongTold_27 : decode cX7_wrongTold 27 = .ok (.iconst 0, 1) := by decide +kernel
theorem dX7_wrongTold_28 : decode cX7_wrongTold 28 = .ok (.ireturn, 1) := by decide +kernel
theorem dX7_fits_0 : decode cX7_fits 0 = .ok (.aload_n 1, 1) := by decide +kernel
theorem dX7_fits_1 : decode cX7_fits 1 = .ok (.ifnonnull 5, 3) := by decide +kernel
theorem dX7_fits_4 : decode cX7_fits 4 = .ok (.iconst 0, 1) := by decide +kernel
theorem dX7_fits_5 : decode cX7_fits 5 = .ok (.ireturn, 1) := by decide +kernel
theorem dX7_fits_6 : decode cX7_fits 6 = .ok (.aload_n 0, 1) := by decide +kernel
theorem dX7_fits_7 : decode cX7_fits 7 = .ok (.getfield 10, 3) := by decide +kernel
theorem dX7_fits_10 : decode cX7_fits 10 = .ok (.getfield 51, 3) := by decide +kernel
theorem dX7_fits_13 : decode cX7_fits 13 = .ok (.iload_n 2, 1) := by decide +kernel
theorem dX7_fits_14 : decode cX7_fits 14 = .ok (.iconst 0, 1) := by decide +kernel
theorem dX7_fits_15 : decode cX7_fits 15 = .ok (.invokevirtual 84, 3) := by decide +kernel
theorem dX7_fits_18 : decode cX7_fits 18 = .ok (.istore 4, 2) := by decide +kernel
theorem dX7_fits_20 : decode cX7_fits 20 = .ok (.iconst 0, 1) := by decide +kernel
theorem dX7_fits_21 : decode cX7_fits 21 = .ok (.istore 5, 2) := by decide +kernel
theorem dX7_fits_23 : decode cX7_fits 23 = .ok (.iload 5, 2) := by decide +kernel
theorem dX7_fits_25 : decode cX7_fits 25 = .ok (.aload_n 1, 1) := by decide +kernel
theorem dX7_fits_26 : decode cX7_fits 26 = .ok (.getfield 215, 3) := by decide +kernel
theorem dX7_fits_29 : decode cX7_fits 29 = .ok (.if_icmp .ge 43, 3) := by decide +kernel
theorem dX7_fits_32 : decode cX7_fits 32 = .ok (.aload_n 1, 1) := by decide +kernel
theorem dX7_fits_33 : decode cX7_fits 33 = .ok (.iload 5, 2) := by decide +kernel
theorem dX7_fits_35 : decode cX7_fits 35 = .ok (.invokevirtual 218, 3) := by decide +kernel
theorem dX7_fits_38 : decode cX7_fits 38 = .ok (.istore 6, 2) := by decide +kernel
theorem dX7_fits_40 : decode cX7_fits 40 = .ok (.iload 6, 2) := by decide +kernel
theorem dX7_fits_42 : decode cX7_fits 42 = .ok (.iconst (-1), 1) := by decide +kernel
theorem dX7_fits_43 : decode cX7_fits 43 = .ok (.if_icmp .eq 23, 3) := by decide +kernel
theorem dX7_fits_46 : decode cX7_fits 46 = .ok (.iload 6, 2) := by decide +kernel
theorem dX7_fits_48 : decode cX7_fits 48 = .ok (.aload_n 0, 1) := by decide +kernel
theorem dX7_fits_49 : decode cX7_fits 49 = .ok (.getfield 10, 3) := by decide +kernel
theorem dX7_fits_52 : decode cX7_fits 52 = .ok (.iload_n 2, 1) := by decide +kernel
theorem dX7_fits_53 : decode cX7_fits 53 = .ok (.iload 4, 2) := by decide +kernel
theorem dX7_fits_55 : decode cX7_fits 55 = .ok (.iload_n 3, 1) := by decide +kernel
theorem dX7_fits_56 : decode cX7_fits 56 = .ok (.iload 5, 2) := by decide +kernel
theorem dX7_fits_58 : decode cX7_fits 58 = .ok (.invokevirtual 154, 3) := by decide +kernel
theorem dX7_fits_61 : decode cX7_fits 61 = .ok (.if_icmp .eq 5, 3) := by decide +kernel
theorem dX7_fits_64 : decode cX7_fits 64 = .ok (.iconst 0, 1) := by decide +kernel
theorem dX7_fits_65 : decode cX7_fits 65 = .ok (.ireturn, 1) := by decide +kernel
theorem dX7_fits_66 : decode cX7_fits 66 = .ok (.iinc 5 1, 3) := by decide +kernel
theorem dX7_fits_69 : decode cX7_fits 69 = .ok (.goto (-46), 3) := by decide +kernel
theorem dX7_fits_72 : decode cX7_fits 72 = .ok (.iconst 1, 1) := by decide +kernel
theorem dX7_fits_73 : decode cX7_fits 73 = .ok (.ireturn, 1) := by decide +kernel
theorem dX7_foxes_0 : decode cX7_foxes 0 = .ok (.iload_n 1, 1) := by decide +kernel
theorem dX7_foxes_1 : decode cX7_foxes 1 = .ok (.iconst 1, 1) := by decide +kernel
theorem dX7_foxes_2 : decode cX7_foxes 2 = .ok (.bipush 20, 2) := by decide +kernel
theorem dX7_foxes_4 : decode cX7_foxes 4 = .ok (.invokestatic 77, 3) := by decide +kernel
theorem dX7_foxes_7 : decode cX7_foxes 7 = .ok (.ifCond .ne 9, 3) := by decide +kernel
theorem dX7_foxes_10 : decode cX7_foxes 10 = .ok (.aload_n 0, 1) := by decide +kernel
theorem dX7_foxes_11 : decode cX7_foxes 11 = .ok (.iconst 0, 1) := by decide +kernel
theorem dX7_foxes_12 : decode cX7_foxes 12 = .ok (.invokevirtual 61, 3) := by decide +kernel
theorem dX7_foxes_15 : decode cX7_foxes 15 = .ok (.ireturn, 1) := by decide +kernel
theorem dX7_foxes_16 : decode cX7_foxes 16 = .ok (.aload_n 0, 1) := by decide +kernel
theorem dX7_foxes_17 : decode cX7_foxes 17 = .ok (.getfield 10, 3) := by decide +kernel
theorem dX7_foxes_20 : decode cX7_foxes 20 = .ok (.getfield 122, 3) := by decide +kernel
theorem dX7_foxes_23 : decode cX7_foxes 23 = .ok (.iload_n 1, 1) := by decide +kernel
theorem dX7_foxes_24 : decode cX7_foxes 24 = .ok (.iadd, 1) := by decide +kernel
theorem dX7_foxes_25 : decode cX7_foxes 25 = .ok (.ldc 126, 2) := by decide +kernel
theorem dX7_foxes_27 : decode cX7_foxes 27 = .ok (.if_icmp .le 9, 3) := by decide +kernel
theorem dX7_foxes_30 : decode cX7_foxes 30 = .ok (.aload_n 0, 1) := by decide +kernel
theorem dX7_foxes_31 : decode cX7_foxes 31 = .ok (.iconst 4, 1) := by decide +kernel
theorem dX7_foxes_32 : decode cX7_foxes 32 = .ok (.invokevirtual 61, 3) := by decide +kernel
theorem dX7_foxes_35 : decode cX7_foxes 35 = .ok (.ireturn, 1) := by decide +kernel
theorem dX7_foxes_36 : decode cX7_foxes 36 = .ok (.iconst 0, 1) := by decide +kernel
theorem dX7_foxes_37 : decode cX7_foxes 37 = .ok (.istore_n 2, 1) := by decide +kernel
theorem dX7_foxes_38 : decode cX7_foxes 38 = .ok (.iconst 0, 1) := by decide +kernel
theorem dX7_foxes_39 : decode cX7_foxes 39 = .ok (.istore_n 3, 1) := by decide +kernel
theorem dX7_foxes_40 : decode cX7_foxes 40 = .ok (.iload_n 3, 1) := by decide +kernel
theorem dX7_foxes_41 : decode cX7_foxes 41 = .ok (.iload_n 1, 1) := by decide +kernel
theorem dX7_foxes_42 : decode cX7_foxes 42 = .ok (.if_icmp .ge 28, 3) := by decide +kernel
theorem dX7_foxes_45 : decode cX7_foxes 45 = .ok (.iload_n 2, 1) := by decide +kernel
theorem dX7_foxes_46 : decode cX7_foxes 46 = .ok (.aload_n 0, 1) := by decide +kernel
theorem dX7_foxes_47 : decode cX7_foxes 47 = .ok (.getfield 10, 3) := by decide +kernel
theorem dX7_foxes_50 : decode cX7_foxes 50 = .ok (.invokevirtual 220, 3) := by decide +kernel
theorem dX7_foxes_53 : decode cX7_foxes 53 = .ok (.iadd, 1) := by decide +kernel
theorem dX7_foxes_54 : decode cX7_foxes 54 = .ok (.istore_n 2, 1) := by decide +kernel
theorem dX7_foxes_55 : decode cX7_foxes 55 = .ok (.aload_n 0, 1) := by decide +kernel
theorem dX7_foxes_56 : decode cX7_foxes 56 = .ok (.getfield 10, 3) := by decide +kernel
theorem dX7_foxes_59 : decode cX7_foxes 59 = .ok (.iconst 1, 1) := by decide +kernel
theorem dX7_foxes_60 : decode cX7_foxes 60 = .ok (.invokevirtual 127, 3) := by decide +kernel
theorem dX7_foxes_63 : decode cX7_foxes 63 = .ok (.pop, 1) := by decide +kernel
theorem dX7_foxes_64 : decode cX7_foxes 64 = .ok (.iinc 3 1, 3) := by decide +kernel
theorem dX7_foxes_67 : decode cX7_foxes 67 = .ok (.goto (-27), 3) := by decide +kernel
theorem dX7_foxes_70 : decode cX7_foxes 70 = .ok (.iload_n 2, 1) := by decide +kernel
theorem dX7_foxes_71 : decode cX7_foxes 71 = .ok (.ireturn, 1) := by decide +kernel
theorem dX7_odds_0 : decode cX7_odds 0 = .ok (.iload_n 1, 1) := by decide +kernel
theorem dX7_odds_1 : decode cX7_odds 1 = .ok (.iconst 0, 1) := by decide +kernel
theorem dX7_odds_2 : decode cX7_odds 2 = .ok (.bipush 20, 2) := by decide +kernel
theorem dX7_odds_4 : decode cX7_odds 4 = .ok (.invokestatic 77, 3) := by decide +kernel
theorem dX7_odds_7 : decode cX7_odds 7 = .ok (.ifCond .eq 12, 3) := by decide +kernel
theorem dX7_odds_10 : decode cX7_odds 10 = .ok (.iload_n 2, 1) := by decide +kernel
theorem dX7_odds_11 : decode cX7_odds 11 = .ok (.iconst 0, 1) := by decide +kernel
theorem dX7_odds_12 : decode cX7_odds 12 = .ok (.iconst 1, 1) := by decide +kernel
theorem dX7_odds_13 : decode cX7_odds 13 = .ok (.invokestatic 77, 3) := by decide +kernel
theorem dX7_odds_16 : decode cX7_odds 16 = .ok (.ifCond .ne 10, 3) := by decide +kernel
theorem dX7_odds_19 : decode cX7_odds 19 = .ok (.aload_n 0, 1) := by decide +kernel
theorem dX7_odds_20 : decode cX7_odds 20 = .ok (.iconst 0, 1) := by decide +kernel
theorem dX7_odds_21 : decode cX7_odds 21 = .ok (.invokevirtual 61, 3) := by decide +kernel
theorem dX7_odds_24 : decode cX7_odds 24 = .ok (.i2l, 1) := by decide +kernel
theorem dX7_odds_25 : decode cX7_odds 25 = .ok (.lreturn, 1) := by decide +kernel
theorem dX7_odds_26 : decode cX7_odds 26 = .ok (.lconst 1, 1) := by decide +kernel
theorem dX7_odds_27 : decode cX7_odds 27 = .ok (.lstore_n 3, 1) := by decide +kernel
theorem dX7_odds_28 : decode cX7_odds 28 = .ok (.iconst 0, 1) := by decide +kernel
theorem dX7_odds_29 : decode cX7_odds 29 = .ok (.istore 5, 2) := by decide +kernel
theorem dX7_odds_31 : decode cX7_odds 31 = .ok (.iload 5, 2) := by decide +kernel
theorem dX7_odds_33 : decode cX7_odds 33 = .ok (.iload_n 1, 1) := by decide +kernel
theorem dX7_odds_34 : decode cX7_odds 34 = .ok (.if_icmp .ge 25, 3) := by decide +kernel
theorem dX7_odds_37 : decode cX7_odds 37 = .ok (.lload_n 3, 1) := by decide +kernel
theorem dX7_odds_38 : decode cX7_odds 38 = .ok (.iload_n 2, 1) := by decide +kernel
theorem dX7_odds_39 : decode cX7_odds 39 = .ok (.ifCond .ne 9, 3) := by decide +kernel
theorem dX7_odds_42 : decode cX7_odds 42 = .ok (.ldc2_w 223, 3) := by decide +kernel
theorem dX7_odds_45 : decode cX7_odds 45 = .ok (.goto 6, 3) := by decide +kernel
theorem dX7_odds_48 : decode cX7_odds 48 = .ok (.ldc2_w 225, 3) := by decide +kernel
theorem dX7_odds_51 : decode cX7_odds 51 = .ok (.lmul, 1) := by decide +kernel
theorem dX7_odds_52 : decode cX7_odds 52 = .ok (.lstore_n 3, 1) := by decide +kernel
theorem dX7_odds_53 : decode cX7_odds 53 = .ok (.iinc 5 1, 3) := by decide +kernel
theorem dX7_odds_56 : decode cX7_odds 56 = .ok (.goto (-25), 3) := by decide +kernel
theorem dX7_odds_59 : decode cX7_odds 59 = .ok (.lload_n 3, 1) := by decide +kernel
theorem dX7_odds_60 : decode cX7_odds 60 = .ok (.lreturn, 1) := by decide +kernel
theorem dX7_seed_0 : decode cX7_seed 0 = .ok (.aload_n 0, 1) := by decide +kernel
theorem dX7_seed_1 : decode cX7_seed 1 = .ok (.getfield 10, 3) := by decide +kernel
theorem dX7_seed_4 : decode cX7_seed 4 = .ok (.getfield 227, 3) := by decide +kernel
theorem dX7_seed_7 : decode cX7_seed 7 = .ok (.istore_n 2, 1) := by decide +kernel
theorem dX7_seed_8 : decode cX7_seed 8 = .ok (.aload_n 0, 1) := by decide +kernel
theorem dX7_seed_9 : decode cX7_seed 9 = .ok (.getfield 10, 3) := by decide +kernel
theorem dX7_seed_12 : decode cX7_seed 12 = .ok (.iload_n 1, 1) := by decide +kernel
theorem dX7_seed_13 : decode cX7_seed 13 = .ok (.putfield 227, 3) := by decide +kernel
theorem dX7_seed_16 : decode cX7_seed 16 = .ok (.iload_n 2, 1) := by decide +kernel
theorem dX7_seed_17 : decode cX7_seed 17 = .ok (.ireturn, 1) := by decide +kernel
theorem dX7_feed_0 : decode cX7_feed 0 = .ok (.iload_n 2, 1) := by decide +kernel
theorem dX7_feed_1 : decode cX7_feed 1 = .ok (.iconst 1, 1) := by decide +kernel
theorem dX7_feed_2 : decode cX7_feed 2 = .ok (.iconst 4, 1) := by decide +kernel
theorem dX7_feed_3 : decode cX7_feed 3 = .ok (.invokestatic 77, 3) := by decide +kernel
theorem dX7_feed_6 : decode cX7_feed 6 = .ok (.ifCond .ne 9, 3) := by decide +kernel
theorem dX7_feed_9 : decode cX7_feed 9 = .ok (.aload_n 0, 1) := by decide +kernel
theorem dX7_feed_10 : decode cX7_feed 10 = .ok (.iconst 0, 1) := by decide +kernel
theorem dX7_feed_11 : decode cX7_feed 11 = .ok (.invokevirtual 61, 3) := by decide +kernel
theorem dX7_feed_14 : decode cX7_feed 14 = .ok (.ireturn, 1) := by decide +kernel
theorem dX7_feed_15 : decode cX7_feed 15 = .ok (.aload_n 0, 1) := by decide +kernel
theorem dX7_feed_16 : decode cX7_feed 16 = .ok (.getfield 39, 3) := by decide +kernel
theorem dX7_feed_19 : decode cX7_feed 19 = .ok (.getfield 230, 3) := by decide +kernel
theorem dX7_feed_22 : decode cX7_feed 22 = .ok (.iload_n 2, 1) := by decide +kernel
theorem dX7_feed_23 : decode cX7_feed 23 = .ok (.iadd, 1) := by decide +kernel
theorem dX7_feed_24 : decode cX7_feed 24 = .ok (.bipush 120, 2) := by decide +kernel
theorem dX7_feed_26 : decode cX7_feed 26 = .ok (.if_icmp .le 9, 3) := by decide +kernel
theorem dX7_feed_29 : decode cX7_feed 29 = .ok (.aload_n 0, 1) := by decide +kernel
theorem dX7_feed_30 : decode cX7_feed 30 = .ok (.iconst 1, 1) := by decide +kernel
theorem dX7_feed_31 : decode cX7_feed 31 = .ok (.invokevirtual 61, 3) := by decide +kernel
theorem dX7_feed_34 : decode cX7_feed 34 = .ok (.ireturn, 1) := by decide +kernel
theorem dX7_feed_35 : decode cX7_feed 35 = .ok (.iload_n 2, 1) := by decide +kernel
theorem dX7_feed_36 : decode cX7_feed 36 = .ok (.iconst 1, 1) := by decide +kernel
theorem dX7_feed_37 : decode cX7_feed 37 = .ok (.isub, 1) := by decide +kernel
theorem dX7_feed_38 : decode cX7_feed 38 = .ok (.istore_n 3, 1) := by decide +kernel
theorem dX7_feed_39 : decode cX7_feed 39 = .ok (.iload_n 3, 1) := by decide +kernel
theorem dX7_feed_40 : decode cX7_feed 40 = .ok (.ifCond .lt 22, 3) := by decide +kernel
theorem dX7_feed_43 : decode cX7_feed 43 = .ok (.aload_n 0, 1) := by decide +kernel
theorem dX7_feed_44 : decode cX7_feed 44 = .ok (.getfield 39, 3) := by decide +kernel
theorem dX7_feed_47 : decode cX7_feed 47 = .ok (.iload_n 1, 1) := by decide +kernel
theorem dX7_feed_48 : decode cX7_feed 48 = .ok (.bipush 8, 2) := by decide +kernel
theorem dX7_feed_50 : decode cX7_feed 50 = .ok (.iload_n 3, 1) := by decide +kernel
theorem dX7_feed_51 : decode cX7_feed 51 = .ok (.imul, 1) := by decide +kernel
theorem dX7_feed_52 : decode cX7_feed 52 = .ok (.iushr, 1) := by decide +kernel
theorem dX7_feed_53 : decode cX7_feed 53 = .ok (.invokevirtual 231, 3) := by decide +kernel
theorem dX7_feed_56 : decode cX7_feed 56 = .ok (.iinc 3 (-1), 3) := by decide +kernel
theorem dX7_feed_59 : decode cX7_feed 59 = .ok (.goto (-20), 3) := by decide +kernel
theorem dX7_feed_62 : decode cX7_feed 62 = .ok (.aload_n 0, 1) := by decide +kernel
theorem dX7_feed_63 : decode cX7_feed 63 = .ok (.getfield 39, 3) := by decide +kernel
theorem dX7_feed_66 : decode cX7_feed 66 = .ok (.getfield 230, 3) := by decide +kernel
theorem dX7_feed_69 : decode cX7_feed 69 = .ok (.ireturn, 1) := by decide +kernel
theorem dX7_wipe_0 : decode cX7_wipe 0 = .ok (.aload_n 0, 1) := by decide +kernel
theorem dX7_wipe_1 : decode cX7_wipe 1 = .ok (.getfield 39, 3) := by decide +kernel
theorem dX7_wipe_4 : decode cX7_wipe 4 = .ok (.getfield 230, 3) := by decide +kernel
theorem dX7_wipe_7 : decode cX7_wipe 7 = .ok (.istore_n 1, 1) := by decide +kernel
theorem dX7_wipe_8 : decode cX7_wipe 8 = .ok (.aload_n 0, 1) := by decide +kernel
theorem dX7_wipe_9 : decode cX7_wipe 9 = .ok (.getfield 39, 3) := by decide +kernel
theorem dX7_wipe_12 : decode cX7_wipe 12 = .ok (.iconst 0, 1) := by decide +kernel
theorem dX7_wipe_13 : decode cX7_wipe 13 = .ok (.putfield 230, 3) := by decide +kernel
theorem dX7_wipe_16 : decode cX7_wipe 16 = .ok (.iload_n 1, 1) := by decide +kernel
theorem dX7_wipe_17 : decode cX7_wipe 17 = .ok (.ireturn, 1) := by decide +kernel
theorem dX7_text_0 : decode cX7_text 0 = .ok (.aload_n 0, 1) := by decide +kernel
theorem dX7_text_1 : decode cX7_text 1 = .ok (.getfield 19, 3) := by decide +kernel
theorem dX7_text_4 : decode cX7_text 4 = .ok (.aload_n 0, 1) := by decide +kernel
theorem dX7_text_5 : decode cX7_text 5 = .ok (.getfield 10, 3) := by decide +kernel
theorem dX7_text_8 : decode cX7_text 8 = .ok (.invokevirtual 147, 3) := by decide +kernel
theorem dX7_text_11 : decode cX7_text 11 = .ok (.new 234, 3) := by decide +kernel
theorem dX7_text_14 : decode cX7_text 14 = .ok (.dup, 1) := by decide +kernel
theorem dX7_text_15 : decode cX7_text 15 = .ok (.aload_n 0, 1) := by decide +kernel
theorem dX7_text_16 : decode cX7_text 16 = .ok (.getfield 39, 3) := by decide +kernel
theorem dX7_text_19 : decode cX7_text 19 = .ok (.aload_n 0, 1) := by decide +kernel
theorem dX7_text_20 : decode cX7_text 20 = .ok (.getfield 19, 3) := by decide +kernel
theorem dX7_text_23 : decode cX7_text 23 = .ok (.invokespecial 236, 3) := by decide +kernel
theorem dX7_text_26 : decode cX7_text 26 = .ok (.invokevirtual 239, 3) := by decide +kernel
theorem dX7_text_29 : decode cX7_text 29 = .ok (.istore_n 1, 1) := by decide +kernel
theorem dX7_text_30 : decode cX7_text 30 = .ok (.iload_n 1, 1) := by decide +kernel
theorem dX7_text_31 : decode cX7_text 31 = .ok (.ifCond .lt 14, 3) := by decide +kernel
theorem dX7_text_34 : decode cX7_text 34 = .ok (.aload_n 0, 1) := by decide +kernel
theorem dX7_text_35 : decode cX7_text 35 = .ok (.getfield 10, 3) := by decide +kernel
theorem dX7_text_38 : decode cX7_text 38 = .ok (.aload_n 0, 1) := by decide +kernel
theorem dX7_text_39 : decode cX7_text 39 = .ok (.getfield 19, 3) := by decide +kernel
theorem dX7_text_42 : decode cX7_text 42 = .ok (.invokevirtual 147, 3) := by decide +kernel
theorem dX7_text_45 : decode cX7_text 45 = .ok (.aload_n 0, 1) := by decide +kernel
theorem dX7_text_46 : decode cX7_text 46 = .ok (.getfield 39, 3) := by decide +kernel
theorem dX7_text_49 : decode cX7_text 49 = .ok (.iconst 0, 1) := by decide +kernel
theorem dX7_text_50 : decode cX7_text 50 = .ok (.putfield 230, 3) := by decide +kernel
theorem dX7_text_53 : decode cX7_text 53 = .ok (.iload_n 1, 1) := by decide +kernel
theorem dX7_text_54 : decode cX7_text 54 = .ok (.ireturn, 1) := by decide +kernel
theorem dX7_hold_0 : decode cX7_hold 0 = .ok (.iload_n 1, 1) := by decide +kernel
theorem dX7_hold_1 : decode cX7_hold 1 = .ok (.iconst 0, 1) := by decide +kernel
theorem dX7_hold_2 : decode cX7_hold 2 = .ok (.bipush 9, 2) := by decide +kernel
theorem dX7_hold_4 : decode cX7_hold 4 = .ok (.invokestatic 77, 3) := by decide +kernel
theorem dX7_hold_7 : decode cX7_hold 7 = .ok (.ifCond .eq 13, 3) := by decide +kernel
theorem dX7_hold_10 : decode cX7_hold 10 = .ok (.iload_n 2, 1) := by decide +kernel
theorem dX7_hold_11 : decode cX7_hold 11 = .ok (.iconst (-1), 1) := by decide +kernel
theorem dX7_hold_12 : decode cX7_hold 12 = .ok (.bipush 7, 2) := by decide +kernel
theorem dX7_hold_14 : decode cX7_hold 14 = .ok (.invokestatic 77, 3) := by decide +kernel
theorem dX7_hold_17 : decode cX7_hold 17 = .ok (.ifCond .ne 9, 3) := by decide +kernel
theorem dX7_hold_20 : decode cX7_hold 20 = .ok (.aload_n 0, 1) := by decide +kernel
theorem dX7_hold_21 : decode cX7_hold 21 = .ok (.iconst 0, 1) := by decide +kernel
theorem dX7_hold_22 : decode cX7_hold 22 = .ok (.invokevirtual 61, 3) := by decide +kernel
theorem dX7_hold_25 : decode cX7_hold 25 = .ok (.ireturn, 1) := by decide +kernel
theorem dX7_hold_26 : decode cX7_hold 26 = .ok (.aload_n 0, 1) := by decide +kernel
theorem dX7_hold_27 : decode cX7_hold 27 = .ok (.getfield 10, 3) := by decide +kernel
theorem dX7_hold_30 : decode cX7_hold 30 = .ok (.iload_n 1, 1) := by decide +kernel
theorem dX7_hold_31 : decode cX7_hold 31 = .ok (.iload_n 2, 1) := by decide +kernel
theorem dX7_hold_32 : decode cX7_hold 32 = .ok (.invokevirtual 242, 3) := by decide +kernel
theorem dX7_hold_35 : decode cX7_hold 35 = .ok (.iconst 1, 1) := by decide +kernel
theorem dX7_hold_36 : decode cX7_hold 36 = .ok (.ireturn, 1) := by decide +kernel
theorem dX7_as_0 : decode cX7_as 0 = .ok (.iload_n 1, 1) := by decide +kernel
theorem dX7_as_1 : decode cX7_as 1 = .ok (.iconst 0, 1) := by decide +kernel
theorem dX7_as_2 : decode cX7_as 2 = .ok (.bipush 9, 2) := by decide +kernel
theorem dX7_as_4 : decode cX7_as 4 = .ok (.invokestatic 77, 3) := by decide +kernel
theorem dX7_as_7 : decode cX7_as 7 = .ok (.ifCond .eq 13, 3) := by decide +kernel
theorem dX7_as_10 : decode cX7_as 10 = .ok (.iload_n 2, 1) := by decide +kernel
theorem dX7_as_11 : decode cX7_as 11 = .ok (.iconst 0, 1) := by decide +kernel
theorem dX7_as_12 : decode cX7_as 12 = .ok (.bipush 6, 2) := by decide +kernel
theorem dX7_as_14 : decode cX7_as 14 = .ok (.invokestatic 77, 3) := by decide +kernel
theorem dX7_as_17 : decode cX7_as 17 = .ok (.ifCond .ne 9, 3) := by decide +kernel
theorem dX7_as_20 : decode cX7_as 20 = .ok (.aload_n 0, 1) := by decide +kernel
theorem dX7_as_21 : decode cX7_as 21 = .ok (.iconst 0, 1) := by decide +kernel
theorem dX7_as_22 : decode cX7_as 22 = .ok (.invokevirtual 61, 3) := by decide +kernel
theorem dX7_as_25 : decode cX7_as 25 = .ok (.ireturn, 1) := by decide +kernel
theorem dX7_as_26 : decode cX7_as 26 = .ok (.aload_n 0, 1) := by decide +kernel
theorem dX7_as_27 : decode cX7_as 27 = .ok (.getfield 10, 3) := by decide +kernel
theorem dX7_as_30 : decode cX7_as 30 = .ok (.iload_n 1, 1) := by decide +kernel
theorem dX7_as_31 : decode cX7_as 31 = .ok (.invokevirtual 246, 3) := by decide +kernel
theorem dX7_as_34 : decode cX7_as 34 = .ok (.istore_n 3, 1) := by decide +kernel
theorem dX7_as_35 : decode cX7_as 35 = .ok (.aload_n 0, 1) := by decide +kernel
theorem dX7_as_36 : decode cX7_as 36 = .ok (.getfield 10, 3) := by decide +kernel
theorem dX7_as_39 : decode cX7_as 39 = .ok (.iload_n 3, 1) := by decide +kernel
theorem dX7_as_40 : decode cX7_as 40 = .ok (.invokevirtual 73, 3) := by decide +kernel
theorem dX7_as_43 : decode cX7_as 43 = .ok (.ifCond .ne 9, 3) := by decide +kernel
theorem dX7_as_46 : decode cX7_as 46 = .ok (.aload_n 0, 1) := by decide +kernel
theorem dX7_as_47 : decode cX7_as 47 = .ok (.iconst 5, 1) := by decide +kernel
theorem dX7_as_48 : decode cX7_as 48 = .ok (.invokevirtual 61, 3) := by decide +kernel
theorem dX7_as_51 : decode cX7_as 51 = .ok (.ireturn, 1) := by decide +kernel
theorem dX7_as_52 : decode cX7_as 52 = .ok (.aload_n 0, 1) := by decide +kernel
theorem dX7_as_53 : decode cX7_as 53 = .ok (.getfield 10, 3) := by decide +kernel
theorem dX7_as_56 : decode cX7_as 56 = .ok (.getfield 51, 3) := by decide +kernel
theorem dX7_as_59 : decode cX7_as 59 = .ok (.iload_n 3, 1) := by decide +kernel
theorem dX7_as_60 : decode cX7_as 60 = .ok (.iconst 0, 1) := by decide +kernel
theorem dX7_as_61 : decode cX7_as 61 = .ok (.invokevirtual 84, 3) := by decide +kernel
theorem dX7_as_64 : decode cX7_as 64 = .ok (.iload_n 2, 1) := by decide +kernel
theorem dX7_as_65 : decode cX7_as 65 = .ok (.invokestatic 249, 3) := by decide +kernel
theorem dX7_as_68 : decode cX7_as 68 = .ok (.ifCond .eq 7, 3) := by decide +kernel
theorem dX7_as_71 : decode cX7_as 71 = .ok (.iload_n 3, 1) := by decide +kernel
theorem dX7_as_72 : decode cX7_as 72 = .ok (.goto 8, 3) := by decide +kernel
theorem dX7_as_75 : decode cX7_as 75 = .ok (.aload_n 0, 1) := by decide +kernel
theorem dX7_as_76 : decode cX7_as 76 = .ok (.iconst 2, 1) := by decide +kernel
theorem dX7_as_77 : decode cX7_as 77 = .ok (.invokevirtual 61, 3) := by decide +kernel
theorem dX7_as_80 : decode cX7_as 80 = .ok (.ireturn, 1) := by decide +kernel
theorem dX7_sheet_0 : decode cX7_sheet 0 = .ok (.aload_n 0, 1) := by decide +kernel
theorem dX7_sheet_1 : decode cX7_sheet 1 = .ok (.iload_n 1, 1) := by decide +kernel
theorem dX7_sheet_2 : decode cX7_sheet 2 = .ok (.invokevirtual 204, 3) := by decide +kernel
theorem dX7_sheet_5 : decode cX7_sheet 5 = .ok (.astore 4, 2) := by decide +kernel
theorem dX7_sheet_7 : decode cX7_sheet 7 = .ok (.aload 4, 2) := by decide +kernel
theorem dX7_sheet_9 : decode cX7_sheet 9 = .ok (.ifnull 14, 3) := by decide +kernel
theorem dX7_sheet_12 : decode cX7_sheet 12 = .ok (.iload_n 2, 1) := by decide +kernel
theorem dX7_sheet_13 : decode cX7_sheet 13 = .ok (.ifCond .eq 16, 3) := by decide +kernel
theorem dX7_sheet_16 : decode cX7_sheet 16 = .ok (.iload_n 2, 1) := by decide +kernel
theorem dX7_sheet_17 : decode cX7_sheet 17 = .ok (.invokestatic 252, 3) := by decide +kernel
theorem dX7_sheet_20 : decode cX7_sheet 20 = .ok (.ifCond .ne 9, 3) := by decide +kernel
theorem dX7_sheet_23 : decode cX7_sheet 23 = .ok (.aload_n 0, 1) := by decide +kernel
theorem dX7_sheet_24 : decode cX7_sheet 24 = .ok (.iconst 0, 1) := by decide +kernel
theorem dX7_sheet_25 : decode cX7_sheet 25 = .ok (.invokevirtual 61, 3) := by decide +kernel
theorem dX7_sheet_28 : decode cX7_sheet 28 = .ok (.ireturn, 1) := by decide +kernel
theorem dX7_sheet_29 : decode cX7_sheet 29 = .ok (.iload_n 3, 1) := by decide +kernel
theorem dX7_sheet_30 : decode cX7_sheet 30 = .ok (.ifCond .ge 10, 3) := by decide +kernel
theorem dX7_sheet_33 : decode cX7_sheet 33 = .ok (.aload_n 0, 1) := by decide +kernel
theorem dX7_sheet_34 : decode cX7_sheet 34 = .ok (.bipush 6, 2) := by decide +kernel
theorem dX7_sheet_36 : decode cX7_sheet 36 = .ok (.invokevirtual 61, 3) := by decide +kernel
theorem dX7_sheet_39 : decode cX7_sheet 39 = .ok (.ireturn, 1) := by decide +kernel
theorem dX7_sheet_40 : decode cX7_sheet 40 = .ok (.iload_n 3, 1) := by decide +kernel
theorem dX7_sheet_41 : decode cX7_sheet 41 = .ok (.bipush 40, 2) := by decide +kernel
theorem dX7_sheet_43 : decode cX7_sheet 43 = .ok (.if_icmp .le 9, 3) := by decide +kernel
theorem dX7_sheet_46 : decode cX7_sheet 46 = .ok (.aload_n 0, 1) := by decide +kernel
theorem dX7_sheet_47 : decode cX7_sheet 47 = .ok (.iconst 0, 1) := by decide +kernel
theorem dX7_sheet_48 : decode cX7_sheet 48 = .ok (.invokevirtual 61, 3) := by decide +kernel
theorem dX7_sheet_51 : decode cX7_sheet 51 = .ok (.ireturn, 1) := by decide +kernel
theorem dX7_sheet_52 : decode cX7_sheet 52 = .ok (.aload 4, 2) := by decide +kernel
theorem dX7_sheet_54 : decode cX7_sheet 54 = .ok (.iload_n 2, 1) := by decide +kernel
theorem dX7_sheet_55 : decode cX7_sheet 55 = .ok (.iload_n 3, 1) := by decide +kernel
theorem dX7_sheet_56 : decode cX7_sheet 56 = .ok (.invokevirtual 255, 3) := by decide +kernel
theorem dX7_sheet_59 : decode cX7_sheet 59 = .ok (.aload 4, 2) := by decide +kernel
theorem dX7_sheet_61 : decode cX7_sheet 61 = .ok (.getfield 215, 3) := by decide +kernel
theorem dX7_sheet_64 : decode cX7_sheet 64 = .ok (.ireturn, 1) := by decide +kernel
theorem dX7_write_0 : decode cX7_write 0 = .ok (.aload_n 0, 1) := by decide +kernel
theorem dX7_write_1 : decode cX7_write 1 = .ok (.iload_n 1, 1) := by decide +kernel
theorem dX7_write_2 : decode cX7_write 2 = .ok (.invokevirtual 212, 3) := by decide +kernel
theorem dX7_write_5 : decode cX7_write 5 = .ok (.istore 4, 2) := by decide +kernel
theorem dX7_write_7 : decode cX7_write 7 = .ok (.iload 4, 2) := by decide +kernel
theorem dX7_write_9 : decode cX7_write 9 = .ok (.ifCond .lt 10, 3) := by decide +kernel
theorem dX7_write_12 : decode cX7_write 12 = .ok (.aload_n 0, 1) := by decide +kernel
theorem dX7_write_13 : decode cX7_write 13 = .ok (.iload 4, 2) := by decide +kernel
theorem dX7_write_15 : decode cX7_write 15 = .ok (.invokevirtual 61, 3) := by decide +kernel
theorem dX7_write_18 : decode cX7_write 18 = .ok (.ireturn, 1) := by decide +kernel
theorem dX7_write_19 : decode cX7_write 19 = .ok (.aload_n 0, 1) := by decide +kernel
theorem dX7_write_20 : decode cX7_write 20 = .ok (.iload_n 1, 1) := by decide +kernel
theorem dX7_write_21 : decode cX7_write 21 = .ok (.invokevirtual 204, 3) := by decide +kernel
theorem dX7_write_24 : decode cX7_write 24 = .ok (.astore 5, 2) := by decide +kernel
theorem dX7_write_26 : decode cX7_write 26 = .ok (.aload 5, 2) := by decide +kernel
theorem dX7_write_28 : decode cX7_write 28 = .ok (.ifnull 18, 3) := by decide +kernel
theorem dX7_write_31 : decode cX7_write 31 = .ok (.iload_n 2, 1) := by decide +kernel
theorem dX7_write_32 : decode cX7_write 32 = .ok (.iconst 0, 1) := by decide +kernel
theorem dX7_write_33 : decode cX7_write 33 = .ok (.aload 5, 2) := by decide +kernel
theorem dX7_write_35 : decode cX7_write 35 = .ok (.getfield 215, 3) := by decide +kernel
theorem dX7_write_38 : decode cX7_write 38 = .ok (.iconst 1, 1) := by decide +kernel
theorem dX7_write_39 : decode cX7_write 39 = .ok (.isub, 1) := by decide +kernel
theorem dX7_write_40 : decode cX7_write 40 = .ok (.invokestatic 77, 3) := by decide +kernel
theorem dX7_write_43 : decode cX7_write 43 = .ok (.ifCond .ne 9, 3) := by decide +kernel
theorem dX7_write_46 : decode cX7_write 46 = .ok (.aload_n 0, 1) := by decide +kernel
theorem dX7_write_47 : decode cX7_write 47 = .ok (.iconst 0, 1) := by decide +kernel
theorem dX7_write_48 : decode cX7_write 48 = .ok (.invokevirtual 61, 3) := by decide +kernel
theorem dX7_write_51 : decode cX7_write 51 = .ok (.ireturn, 1) := by decide +kernel
theorem dX7_write_52 : decode cX7_write 52 = .ok (.aload 5, 2) := by decide +kernel
theorem dX7_write_54 : decode cX7_write 54 = .ok (.iload_n 2, 1) := by decide +kernel
theorem dX7_write_55 : decode cX7_write 55 = .ok (.iload_n 3, 1) := by decide +kernel
theorem dX7_write_56 : decode cX7_write 56 = .ok (.invokevirtual 258, 3) := by decide +kernel
theorem dX7_write_59 : decode cX7_write 59 = .ok (.iconst 1, 1) := by decide +kernel
theorem dX7_write_60 : decode cX7_write 60 = .ok (.ireturn, 1) := by decide +kernel
theorem dX7_copy_0 : decode cX7_copy 0 = .ok (.aload_n 0, 1) := by decide +kernel
theorem dX7_copy_1 : decode cX7_copy 1 = .ok (.iload_n 1, 1) := by decide +kernel
theorem dX7_copy_2 : decode cX7_copy 2 = .ok (.invokevirtual 204, 3) := by decide +kernel
theorem dX7_copy_5 : decode cX7_copy 5 = .ok (.astore 6, 2) := by decide +kernel
theorem dX7_copy_7 : decode cX7_copy 7 = .ok (.aload_n 0, 1) := by decide +kernel
theorem dX7_copy_8 : decode cX7_copy 8 = .ok (.iload_n 3, 1) := by decide +kernel
theorem dX7_copy_9 : decode cX7_copy 9 = .ok (.invokevirtual 204, 3) := by decide +kernel
theorem dX7_copy_12 : decode cX7_copy 12 = .ok (.astore 7, 2) := by decide +kernel
theorem dX7_copy_14 : decode cX7_copy 14 = .ok (.aload 6, 2) := by decide +kernel
theorem dX7_copy_16 : decode cX7_copy 16 = .ok (.ifnull 8, 3) := by decide +kernel
theorem dX7_copy_19 : decode cX7_copy 19 = .ok (.aload 7, 2) := by decide +kernel
theorem dX7_copy_21 : decode cX7_copy 21 = .ok (.ifnonnull 9, 3) := by decide +kernel
theorem dX7_copy_24 : decode cX7_copy 24 = .ok (.aload_n 0, 1) := by decide +kernel
theorem dX7_copy_25 : decode cX7_copy 25 = .ok (.iconst 0, 1) := by decide +kernel
theorem dX7_copy_26 : decode cX7_copy 26 = .ok (.invokevirtual 61, 3) := by decide +kernel
theorem dX7_copy_29 : decode cX7_copy 29 = .ok (.ireturn, 1) := by decide +kernel
theorem dX7_copy_30 : decode cX7_copy 30 = .ok (.aload 6, 2) := by decide +kernel
theorem dX7_copy_32 : decode cX7_copy 32 = .ok (.invokevirtual 260, 3) := by decide +kernel
theorem dX7_copy_35 : decode cX7_copy 35 = .ok (.ifCond .ne 11, 3) := by decide +kernel
theorem dX7_copy_38 : decode cX7_copy 38 = .ok (.aload 7, 2) := by decide +kernel
theorem dX7_copy_40 : decode cX7_copy 40 = .ok (.invokevirtual 260, 3) := by decide +kernel
theorem dX7_copy_43 : decode cX7_copy 43 = .ok (.ifCond .eq 9, 3) := by decide +kernel
theorem dX7_copy_46 : decode cX7_copy 46 = .ok (.aload_n 0, 1) := by decide +kernel
theorem dX7_copy_47 : decode cX7_copy 47 = .ok (.iconst 5, 1) := by decide +kernel
theorem dX7_copy_48 : decode cX7_copy 48 = .ok (.invokevirtual 61, 3) := by decide +kernel
theorem dX7_copy_51 : decode cX7_copy 51 = .ok (.ireturn, 1) := by decide +kernel
theorem dX7_copy_52 : decode cX7_copy 52 = .ok (.aload 6, 2) := by decide +kernel
theorem dX7_copy_54 : decode cX7_copy 54 = .ok (.getfield 264, 3) := by decide +kernel
theorem dX7_copy_57 : decode cX7_copy 57 = .ok (.aload 7, 2) := by decide +kernel
theorem dX7_copy_59 : decode cX7_copy 59 = .ok (.getfield 264, 3) := by decide +kernel
theorem dX7_copy_62 : decode cX7_copy 62 = .ok (.if_icmp .eq 9, 3) := by decide +kernel
theorem dX7_copy_65 : decode cX7_copy 65 = .ok (.aload_n 0, 1) := by decide +kernel
theorem dX7_copy_66 : decode cX7_copy 66 = .ok (.iconst 2, 1) := by decide +kernel
theorem dX7_copy_67 : decode cX7_copy 67 = .ok (.invokevirtual 61, 3) := by decide +kernel
theorem dX7_copy_70 : decode cX7_copy 70 = .ok (.ireturn, 1) := by decide +kernel
theorem dX7_copy_71 : decode cX7_copy 71 = .ok (.aload 6, 2) := by decide +kernel
theorem dX7_copy_73 : decode cX7_copy 73 = .ok (.iload_n 2, 1) := by decide +kernel
theorem dX7_copy_74 : decode cX7_copy 74 = .ok (.iload 5, 2) := by decide +kernel
theorem dX7_copy_76 : decode cX7_copy 76 = .ok (.invokevirtual 267, 3) := by decide +kernel
theorem dX7_copy_79 : decode cX7_copy 79 = .ok (.ifCond .eq 15, 3) := by decide +kernel
theorem dX7_copy_82 : decode cX7_copy 82 = .ok (.aload 7, 2) := by decide +kernel
theorem dX7_copy_84 : decode cX7_copy 84 = .ok (.iload 4, 2) := by decide +kernel
theorem dX7_copy_86 : decode cX7_copy 86 = .ok (.iload 5, 2) := by decide +kernel
theorem dX7_copy_88 : decode cX7_copy 88 = .ok (.invokevirtual 267, 3) := by decide +kernel
theorem dX7_copy_91 : decode cX7_copy 91 = .ok (.ifCond .ne 9, 3) := by decide +kernel
theorem dX7_copy_94 : decode cX7_copy 94 = .ok (.aload_n 0, 1) := by decide +kernel
theorem dX7_copy_95 : decode cX7_copy 95 = .ok (.iconst 0, 1) := by decide +kernel
theorem dX7_copy_96 : decode cX7_copy 96 = .ok (.invokevirtual 61, 3) := by decide +kernel
theorem dX7_copy_99 : decode cX7_copy 99 = .ok (.ireturn, 1) := by decide +kernel
theorem dX7_copy_100 : decode cX7_copy 100 = .ok (.aload 6, 2) := by decide +kernel
theorem dX7_copy_102 : decode cX7_copy 102 = .ok (.iload_n 2, 1) := by decide +kernel
theorem dX7_copy_103 : decode cX7_copy 103 = .ok (.aload 7, 2) := by decide +kernel
theorem dX7_copy_105 : decode cX7_copy 105 = .ok (.iload 4, 2) := by decide +kernel
theorem dX7_copy_107 : decode cX7_copy 107 = .ok (.iload 5, 2) := by decide +kernel
theorem dX7_copy_109 : decode cX7_copy 109 = .ok (.invokestatic 270, 3) := by decide +kernel
theorem dX7_copy_112 : decode cX7_copy 112 = .ok (.iload 5, 2) := by decide +kernel
theorem dX7_copy_114 : decode cX7_copy 114 = .ok (.ireturn, 1) := by decide +kernel
theorem dX7_copyNumbers_0 : decode cX7_copyNumbers 0 = .ok (.aload_n 0, 1) := by decide +kernel
theorem dX7_copyNumbers_1 : decode cX7_copyNumbers 1 = .ok (.ifnull 7, 3) := by decide +kernel
theorem dX7_copyNumbers_4 : decode cX7_copyNumbers 4 = .ok (.aload_n 2, 1) := by decide +kernel
theorem dX7_copyNumbers_5 : decode cX7_copyNumbers 5 = .ok (.ifnonnull 4, 3) := by decide +kernel
theorem dX7_copyNumbers_8 : decode cX7_copyNumbers 8 = .ok (.return_, 1) := by decide +kernel
theorem dX7_copyNumbers_9 : decode cX7_copyNumbers 9 = .ok (.iload_n 3, 1) := by decide +kernel
theorem dX7_copyNumbers_10 : decode cX7_copyNumbers 10 = .ok (.iload_n 1, 1) := by decide +kernel
theorem dX7_copyNumbers_11 : decode cX7_copyNumbers 11 = .ok (.if_icmp .le 7, 3) := by decide +kernel
theorem dX7_copyNumbers_14 : decode cX7_copyNumbers 14 = .ok (.iconst 1, 1) := by decide +kernel
theorem dX7_copyNumbers_15 : decode cX7_copyNumbers 15 = .ok (.goto 4, 3) := by decide +kernel
theorem dX7_copyNumbers_18 : decode cX7_copyNumbers 18 = .ok (.iconst 0, 1) := by decide +kernel
theorem dX7_copyNumbers_19 : decode cX7_copyNumbers 19 = .ok (.istore 5, 2) := by decide +kernel
theorem dX7_copyNumbers_21 : decode cX7_copyNumbers 21 = .ok (.iconst 0, 1) := by decide +kernel
theorem dX7_copyNumbers_22 : decode cX7_copyNumbers 22 = .ok (.istore 6, 2) := by decide +kernel
theorem dX7_copyNumbers_24 : decode cX7_copyNumbers 24 = .ok (.iload 6, 2) := by decide +kernel
theorem dX7_copyNumbers_26 : decode cX7_copyNumbers 26 = .ok (.iload 4, 2) := by decide +kernel
theorem dX7_copyNumbers_28 : decode cX7_copyNumbers 28 = .ok (.if_icmp .ge 44, 3) := by decide +kernel
theorem dX7_copyNumbers_31 : decode cX7_copyNumbers 31 = .ok (.iload 5, 2) := by decide +kernel
theorem dX7_copyNumbers_33 : decode cX7_copyNumbers 33 = .ok (.ifCond .eq 13, 3) := by decide +kernel
theorem dX7_copyNumbers_36 : decode cX7_copyNumbers 36 = .ok (.iload 4, 2) := by decide +kernel
theorem dX7_copyNumbers_38 : decode cX7_copyNumbers 38 = .ok (.iconst 1, 1) := by decide +kernel
theorem dX7_copyNumbers_39 : decode cX7_copyNumbers 39 = .ok (.isub, 1) := by decide +kernel
theorem dX7_copyNumbers_40 : decode cX7_copyNumbers 40 = .ok (.iload 6, 2) := by decide +kernel
theorem dX7_copyNumbers_42 : decode cX7_copyNumbers 42 = .ok (.isub, 1) := by decide +kernel
theorem dX7_copyNumbers_43 : decode cX7_copyNumbers 43 = .ok (.goto 5, 3) := by decide +kernel
theorem dX7_copyNumbers_46 : decode cX7_copyNumbers 46 = .ok (.iload 6, 2) := by decide +kernel
theorem dX7_copyNumbers_48 : decode cX7_copyNumbers 48 = .ok (.istore 7, 2) := by decide +kernel
theorem dX7_copyNumbers_50 : decode cX7_copyNumbers 50 = .ok (.aload_n 2, 1) := by decide +kernel
theorem dX7_copyNumbers_51 : decode cX7_copyNumbers 51 = .ok (.iload_n 3, 1) := by decide +kernel
theorem dX7_copyNumbers_52 : decode cX7_copyNumbers 52 = .ok (.iload 7, 2) := by decide +kernel
theorem dX7_copyNumbers_54 : decode cX7_copyNumbers 54 = .ok (.iadd, 1) := by decide +kernel
theorem dX7_copyNumbers_55 : decode cX7_copyNumbers 55 = .ok (.aload_n 0, 1) := by decide +kernel
theorem dX7_copyNumbers_56 : decode cX7_copyNumbers 56 = .ok (.iload_n 1, 1) := by decide +kernel
theorem dX7_copyNumbers_57 : decode cX7_copyNumbers 57 = .ok (.iload 7, 2) := by decide +kernel
theorem dX7_copyNumbers_59 : decode cX7_copyNumbers 59 = .ok (.iadd, 1) := by decide +kernel
theorem dX7_copyNumbers_60 : decode cX7_copyNumbers 60 = .ok (.invokevirtual 218, 3) := by decide +kernel
theorem dX7_copyNumbers_63 : decode cX7_copyNumbers 63 = .ok (.invokevirtual 258, 3) := by decide +kernel
theorem dX7_copyNumbers_66 : decode cX7_copyNumbers 66 = .ok (.iinc 6 1, 3) := by decide +kernel
theorem dX7_copyNumbers_69 : decode cX7_copyNumbers 69 = .ok (.goto (-45), 3) := by decide +kernel
theorem dX7_copyNumbers_72 : decode cX7_copyNumbers 72 = .ok (.return_, 1) := by decide +kernel
theorem dX7_load_0 : decode cX7_load 0 = .ok (.aload_n 0, 1) := by decide +kernel
theorem dX7_load_1 : decode cX7_load 1 = .ok (.iload_n 1, 1) := by decide +kernel
theorem dX7_load_2 : decode cX7_load 2 = .ok (.invokevirtual 212, 3) := by decide +kernel
theorem dX7_load_5 : decode cX7_load 5 = .ok (.istore_n 2, 1) := by decide +kernel
theorem dX7_load_6 : decode cX7_load 6 = .ok (.iload_n 2, 1) := by decide +kernel
theorem dX7_load_7 : decode cX7_load 7 = .ok (.ifCond .lt 9, 3) := by decide +kernel
theorem dX7_load_10 : decode cX7_load 10 = .ok (.aload_n 0, 1) := by decide +kernel
theorem dX7_load_11 : decode cX7_load 11 = .ok (.iload_n 2, 1) := by decide +kernel
theorem dX7_load_12 : decode cX7_load 12 = .ok (.invokevirtual 61, 3) := by decide +kernel
theorem dX7_load_15 : decode cX7_load 15 = .ok (.ireturn, 1) := by decide +kernel
theorem dX7_load_16 : decode cX7_load 16 = .ok (.aload_n 0, 1) := by decide +kernel
theorem dX7_load_17 : decode cX7_load 17 = .ok (.iload_n 1, 1) := by decide +kernel
theorem dX7_load_18 : decode cX7_load 18 = .ok (.invokevirtual 204, 3) := by decide +kernel
theorem dX7_load_21 : decode cX7_load 21 = .ok (.astore_n 3, 1) := by decide +kernel
theorem dX7_load_22 : decode cX7_load 22 = .ok (.iconst 0, 1) := by decide +kernel
theorem dX7_load_23 : decode cX7_load 23 = .ok (.istore 4, 2) := by decide +kernel
theorem dX7_load_25 : decode cX7_load 25 = .ok (.aload_n 3, 1) := by decide +kernel
theorem dX7_load_26 : decode cX7_load 26 = .ok (.ifnull 64, 3) := by decide +kernel
theorem dX7_load_29 : decode cX7_load 29 = .ok (.iload 4, 2) := by decide +kernel
theorem dX7_load_31 : decode cX7_load 31 = .ok (.aload_n 3, 1) := by decide +kernel
theorem dX7_load_32 : decode cX7_load 32 = .ok (.getfield 215, 3) := by decide +kernel
theorem dX7_load_35 : decode cX7_load 35 = .ok (.if_icmp .ge 55, 3) := by decide +kernel
theorem dX7_load_38 : decode cX7_load 38 = .ok (.iload 4, 2) := by decide +kernel
theorem dX7_load_40 : decode cX7_load 40 = .ok (.bipush 6, 2) := by decide +kernel
theorem dX7_load_42 : decode cX7_load 42 = .ok (.if_icmp .ge 48, 3) := by decide +kernel
theorem dX7_load_45 : decode cX7_load 45 = .ok (.aload_n 0, 1) := by decide +kernel
theorem dX7_load_46 : decode cX7_load 46 = .ok (.getfield 10, 3) := by decide +kernel
theorem dX7_load_49 : decode cX7_load 49 = .ok (.getfield 100, 3) := by decide +kernel
theorem dX7_load_52 : decode cX7_load 52 = .ok (.iconst 0, 1) := by decide +kernel
theorem dX7_load_53 : decode cX7_load 53 = .ok (.aload_n 3, 1) := by decide +kernel
theorem dX7_load_54 : decode cX7_load 54 = .ok (.iload 4, 2) := by decide +kernel
theorem dX7_load_56 : decode cX7_load 56 = .ok (.invokevirtual 218, 3) := by decide +kernel
theorem dX7_load_59 : decode cX7_load 59 = .ok (.invokevirtual 55, 3) := by decide +kernel
theorem dX7_load_62 : decode cX7_load 62 = .ok (.ifCond .eq 28, 3) := by decide +kernel
theorem dX7_load_65 : decode cX7_load 65 = .ok (.aload_n 0, 1) := by decide +kernel
theorem dX7_load_66 : decode cX7_load 66 = .ok (.getfield 10, 3) := by decide +kernel
theorem dX7_load_69 : decode cX7_load 69 = .ok (.getfield 100, 3) := by decide +kernel
theorem dX7_load_72 : decode cX7_load 72 = .ok (.iload 4, 2) := by decide +kernel
theorem dX7_load_74 : decode cX7_load 74 = .ok (.iconst 0, 1) := by decide +kernel
theorem dX7_load_75 : decode cX7_load 75 = .ok (.aload_n 3, 1) := by decide +kernel
theorem dX7_load_76 : decode cX7_load 76 = .ok (.iload 4, 2) := by decide +kernel
theorem dX7_load_78 : decode cX7_load 78 = .ok (.invokevirtual 218, 3) := by decide +kernel
theorem dX7_load_81 : decode cX7_load 81 = .ok (.invokevirtual 162, 3) := by decide +kernel
theorem dX7_load_84 : decode cX7_load 84 = .ok (.iinc 4 1, 3) := by decide +kernel
theorem dX7_load_87 : decode cX7_load 87 = .ok (.goto (-62), 3) := by decide +kernel
theorem dX7_load_90 : decode cX7_load 90 = .ok (.iload 4, 2) := by decide +kernel
theorem dX7_load_92 : decode cX7_load 92 = .ok (.ireturn, 1) := by decide +kernel
theorem dX7_judge_0 : decode cX7_judge 0 = .ok (.aload_n 0, 1) := by decide +kernel
theorem dX7_judge_1 : decode cX7_judge 1 = .ok (.iload_n 1, 1) := by decide +kernel
theorem dX7_judge_2 : decode cX7_judge 2 = .ok (.invokevirtual 212, 3) := by decide +kernel
theorem dX7_judge_5 : decode cX7_judge 5 = .ok (.istore_n 2, 1) := by decide +kernel
theorem dX7_judge_6 : decode cX7_judge 6 = .ok (.iload_n 2, 1) := by decide +kernel
theorem dX7_judge_7 : decode cX7_judge 7 = .ok (.ifCond .lt 9, 3) := by decide +kernel
theorem dX7_judge_10 : decode cX7_judge 10 = .ok (.aload_n 0, 1) := by decide +kernel
theorem dX7_judge_11 : decode cX7_judge 11 = .ok (.iload_n 2, 1) := by decide +kernel
theorem dX7_judge_12 : decode cX7_judge 12 = .ok (.invokevirtual 61, 3) := by decide +kernel
theorem dX7_judge_15 : decode cX7_judge 15 = .ok (.ireturn, 1) := by decide +kernel
theorem dX7_judge_16 : decode cX7_judge 16 = .ok (.aload_n 0, 1) := by decide +kernel
theorem dX7_judge_17 : decode cX7_judge 17 = .ok (.iload_n 1, 1) := by decide +kernel
theorem dX7_judge_18 : decode cX7_judge 18 = .ok (.invokevirtual 204, 3) := by decide +kernel
theorem dX7_judge_21 : decode cX7_judge 21 = .ok (.astore_n 3, 1) := by decide +kernel
theorem dX7_judge_22 : decode cX7_judge 22 = .ok (.iconst 0, 1) := by decide +kernel
theorem dX7_judge_23 : decode cX7_judge 23 = .ok (.istore 4, 2) := by decide +kernel
theorem dX7_judge_25 : decode cX7_judge 25 = .ok (.iconst 0, 1) := by decide +kernel
theorem dX7_judge_26 : decode cX7_judge 26 = .ok (.istore 5, 2) := by decide +kernel
theorem dX7_judge_28 : decode cX7_judge 28 = .ok (.aload_n 3, 1) := by decide +kernel
theorem dX7_judge_29 : decode cX7_judge 29 = .ok (.ifnull 99, 3) := by decide +kernel
theorem dX7_judge_32 : decode cX7_judge 32 = .ok (.iload 5, 2) := by decide +kernel
theorem dX7_judge_34 : decode cX7_judge 34 = .ok (.aload_n 3, 1) := by decide +kernel
theorem dX7_judge_35 : decode cX7_judge 35 = .ok (.getfield 215, 3) := by decide +kernel
theorem dX7_judge_38 : decode cX7_judge 38 = .ok (.if_icmp .ge 90, 3) := by decide +kernel
theorem dX7_judge_41 : decode cX7_judge 41 = .ok (.aload_n 3, 1) := by decide +kernel
theorem dX7_judge_42 : decode cX7_judge 42 = .ok (.iload 5, 2) := by decide +kernel
theorem dX7_judge_44 : decode cX7_judge 44 = .ok (.invokevirtual 218, 3) := by decide +kernel
theorem dX7_judge_47 : decode cX7_judge 47 = .ok (.istore 6, 2) := by decide +kernel
theorem dX7_judge_49 : decode cX7_judge 49 = .ok (.aload_n 0, 1) := by decide +kernel
theorem dX7_judge_50 : decode cX7_judge 50 = .ok (.getfield 10, 3) := by decide +kernel
theorem dX7_judge_53 : decode cX7_judge 53 = .ok (.iload 6, 2) := by decide +kernel
theorem dX7_judge_55 : decode cX7_judge 55 = .ok (.invokevirtual 73, 3) := by decide +kernel
theorem dX7_judge_58 : decode cX7_judge 58 = .ok (.ifCond .eq 13, 3) := by decide +kernel
theorem dX7_judge_61 : decode cX7_judge 61 = .ok (.iload 4, 2) := by decide +kernel
theorem dX7_judge_63 : decode cX7_judge 63 = .ok (.iconst 1, 1) := by decide +kernel
theorem dX7_judge_64 : decode cX7_judge 64 = .ok (.iload 6, 2) := by decide +kernel
theorem dX7_judge_66 : decode cX7_judge 66 = .ok (.ishl, 1) := by decide +kernel
theorem dX7_judge_67 : decode cX7_judge 67 = .ok (.iand, 1) := by decide +kernel
theorem dX7_judge_68 : decode cX7_judge 68 = .ok (.ifCond .eq 8, 3) := by decide +kernel
theorem dX7_judge_71 : decode cX7_judge 71 = .ok (.iconst 1, 1) := by decide +kernel
theorem dX7_judge_72 : decode cX7_judge 72 = .ok (.iload 5, 2) := by decide +kernel
theorem dX7_judge_74 : decode cX7_judge 74 = .ok (.iadd, 1) := by decide +kernel
theorem dX7_judge_75 : decode cX7_judge 75 = .ok (.ireturn, 1) := by decide +kernel
theorem dX7_judge_76 : decode cX7_judge 76 = .ok (.iload 5, 2) := by decide +kernel
theorem dX7_judge_78 : decode cX7_judge 78 = .ok (.ifCond .le 35, 3) := by decide +kernel
theorem dX7_judge_81 : decode cX7_judge 81 = .ok (.aload_n 0, 1) := by decide +kernel
theorem dX7_judge_82 : decode cX7_judge 82 = .ok (.getfield 10, 3) := by decide +kernel
theorem dX7_judge_85 : decode cX7_judge 85 = .ok (.iload 6, 2) := by decide +kernel
theorem dX7_judge_87 : decode cX7_judge 87 = .ok (.invokevirtual 81, 3) := by decide +kernel
theorem dX7_judge_90 : decode cX7_judge 90 = .ok (.aload_n 0, 1) := by decide +kernel
theorem dX7_judge_91 : decode cX7_judge 91 = .ok (.getfield 10, 3) := by decide +kernel
theorem dX7_judge_94 : decode cX7_judge 94 = .ok (.aload_n 3, 1) := by decide +kernel
theorem dX7_judge_95 : decode cX7_judge 95 = .ok (.iload 5, 2) := by decide +kernel
theorem dX7_judge_97 : decode cX7_judge 97 = .ok (.iconst 1, 1) := by decide +kernel
theorem dX7_judge_98 : decode cX7_judge 98 = .ok (.isub, 1) := by decide +kernel
theorem dX7_judge_99 : decode cX7_judge 99 = .ok (.invokevirtual 218, 3) := by decide +kernel
theorem dX7_judge_102 : decode cX7_judge 102 = .ok (.invokevirtual 81, 3) := by decide +kernel
theorem dX7_judge_105 : decode cX7_judge 105 = .ok (.if_icmp .le 8, 3) := by decide +kernel
theorem dX7_judge_108 : decode cX7_judge 108 = .ok (.iconst 1, 1) := by decide +kernel
theorem dX7_judge_109 : decode cX7_judge 109 = .ok (.iload 5, 2) := by decide +kernel
theorem dX7_judge_111 : decode cX7_judge 111 = .ok (.iadd, 1) := by decide +kernel
theorem dX7_judge_112 : decode cX7_judge 112 = .ok (.ireturn, 1) := by decide +kernel
theorem dX7_judge_113 : decode cX7_judge 113 = .ok (.iload 4, 2) := by decide +kernel
theorem dX7_judge_115 : decode cX7_judge 115 = .ok (.iconst 1, 1) := by decide +kernel
theorem dX7_judge_116 : decode cX7_judge 116 = .ok (.iload 6, 2) := by decide +kernel
theorem dX7_judge_118 : decode cX7_judge 118 = .ok (.ishl, 1) := by decide +kernel
theorem dX7_judge_119 : decode cX7_judge 119 = .ok (.ior, 1) := by decide +kernel
theorem dX7_judge_120 : decode cX7_judge 120 = .ok (.istore 4, 2) := by decide +kernel
theorem dX7_judge_122 : decode cX7_judge 122 = .ok (.iinc 5 1, 3) := by decide +kernel
theorem dX7_judge_125 : decode cX7_judge 125 = .ok (.goto (-97), 3) := by decide +kernel
theorem dX7_judge_128 : decode cX7_judge 128 = .ok (.iconst 0, 1) := by decide +kernel
theorem dX7_judge_129 : decode cX7_judge 129 = .ok (.ireturn, 1) := by decide +kernel
theorem dX7_image_0 : decode cX7_image 0 = .ok (.aload_n 0, 1) := by decide +kernel
theorem dX7_image_1 : decode cX7_image 1 = .ok (.getfield 16, 3) := by decide +kernel
theorem dX7_image_4 : decode cX7_image 4 = .ok (.aload_n 0, 1) := by decide +kernel
theorem dX7_image_5 : decode cX7_image 5 = .ok (.getfield 10, 3) := by decide +kernel
theorem dX7_image_8 : decode cX7_image 8 = .ok (.invokevirtual 147, 3) := by decide +kernel
theorem dX7_image_11 : decode cX7_image 11 = .ok (.aload_n 0, 1) := by decide +kernel
theorem dX7_image_12 : decode cX7_image 12 = .ok (.iconst 1, 1) := by decide +kernel
theorem dX7_image_13 : decode cX7_image 13 = .ok (.putfield 47, 3) := by decide +kernel
theorem dX7_image_16 : decode cX7_image 16 = .ok (.iconst 1, 1) := by decide +kernel
theorem dX7_image_17 : decode cX7_image 17 = .ok (.ireturn, 1) := by decide +kernel
theorem dX7_undo_0 : decode cX7_undo 0 = .ok (.aload_n 0, 1) := by decide +kernel
theorem dX7_undo_1 : decode cX7_undo 1 = .ok (.getfield 47, 3) := by decide +kernel
theorem dX7_undo_4 : decode cX7_undo 4 = .ok (.ifCond .ne 9, 3) := by decide +kernel
theorem dX7_undo_7 : decode cX7_undo 7 = .ok (.aload_n 0, 1) := by decide +kernel
theorem dX7_undo_8 : decode cX7_undo 8 = .ok (.iconst 3, 1) := by decide +kernel
theorem dX7_undo_9 : decode cX7_undo 9 = .ok (.invokevirtual 61, 3) := by decide +kernel
theorem dX7_undo_12 : decode cX7_undo 12 = .ok (.ireturn, 1) := by decide +kernel
theorem dX7_undo_13 : decode cX7_undo 13 = .ok (.aload_n 0, 1) := by decide +kernel
theorem dX7_undo_14 : decode cX7_undo 14 = .ok (.getfield 10, 3) := by decide +kernel
theorem dX7_undo_17 : decode cX7_undo 17 = .ok (.aload_n 0, 1) := by decide +kernel
theorem dX7_undo_18 : decode cX7_undo 18 = .ok (.getfield 16, 3) := by decide +kernel
theorem dX7_undo_21 : decode cX7_undo 21 = .ok (.invokevirtual 147, 3) := by decide +kernel
theorem dX7_undo_24 : decode cX7_undo 24 = .ok (.aload_n 0, 1) := by decide +kernel
theorem dX7_undo_25 : decode cX7_undo 25 = .ok (.getfield 10, 3) := by decide +kernel
theorem dX7_undo_28 : decode cX7_undo 28 = .ok (.getfield 122, 3) := by decide +kernel
theorem dX7_undo_31 : decode cX7_undo 31 = .ok (.ireturn, 1) := by decide +kernel
theorem dX7_tear_0 : decode cX7_tear 0 = .ok (.aload_n 0, 1) := by decide +kernel
theorem dX7_tear_1 : decode cX7_tear 1 = .ok (.getfield 47, 3) := by decide +kernel
theorem dX7_tear_4 : decode cX7_tear 4 = .ok (.ifCond .eq 7, 3) := by decide +kernel
theorem dX7_tear_7 : decode cX7_tear 7 = .ok (.iconst 1, 1) := by decide +kernel
theorem dX7_tear_8 : decode cX7_tear 8 = .ok (.goto 4, 3) := by decide +kernel
theorem dX7_tear_11 : decode cX7_tear 11 = .ok (.iconst 0, 1) := by decide +kernel
theorem dX7_tear_12 : decode cX7_tear 12 = .ok (.istore_n 1, 1) := by decide +kernel
theorem dX7_tear_13 : decode cX7_tear 13 = .ok (.aload_n 0, 1) := by decide +kernel
theorem dX7_tear_14 : decode cX7_tear 14 = .ok (.iconst 0, 1) := by decide +kernel
theorem dX7_tear_15 : decode cX7_tear 15 = .ok (.putfield 47, 3) := by decide +kernel
theorem dX7_tear_18 : decode cX7_tear 18 = .ok (.iload_n 1, 1) := by decide +kernel
theorem dX7_tear_19 : decode cX7_tear 19 = .ok (.ireturn, 1) := by decide +kernel
theorem dX7_count_0 : decode cX7_count 0 = .ok (.iload_n 1, 1) := by decide +kernel
theorem dX7_count_1 : decode cX7_count 1 = .ok (.tableswitch 117 0 7 #[47, 55, 66, 77, 85, 93, 101, 109], 47) := by decide +kernel
theorem dX7_count_48 : decode cX7_count 48 = .ok (.aload_n 0, 1) := by decide +kernel
theorem dX7_count_49 : decode cX7_count 49 = .ok (.getfield 10, 3) := by decide +kernel
theorem dX7_count_52 : decode cX7_count 52 = .ok (.getfield 122, 3) := by decide +kernel
theorem dX7_count_55 : decode cX7_count 55 = .ok (.ireturn, 1) := by decide +kernel
theorem dX7_count_56 : decode cX7_count 56 = .ok (.aload_n 0, 1) := by decide +kernel
theorem dX7_count_57 : decode cX7_count 57 = .ok (.getfield 10, 3) := by decide +kernel
theorem dX7_count_60 : decode cX7_count 60 = .ok (.invokevirtual 130, 3) := by decide +kernel
theorem dX7_count_63 : decode cX7_count 63 = .ok (.invokestatic 133, 3) := by decide +kernel
theorem dX7_count_66 : decode cX7_count 66 = .ok (.ireturn, 1) := by decide +kernel
theorem dX7_count_67 : decode cX7_count 67 = .ok (.aload_n 0, 1) := by decide +kernel
theorem dX7_count_68 : decode cX7_count 68 = .ok (.getfield 10, 3) := by decide +kernel
theorem dX7_count_71 : decode cX7_count 71 = .ok (.invokevirtual 141, 3) := by decide +kernel
theorem dX7_count_74 : decode cX7_count 74 = .ok (.invokestatic 133, 3) := by decide +kernel
theorem dX7_count_77 : decode cX7_count 77 = .ok (.ireturn, 1) := by decide +kernel
theorem dX7_count_78 : decode cX7_count 78 = .ok (.aload_n 0, 1) := by decide +kernel
theorem dX7_count_79 : decode cX7_count 79 = .ok (.getfield 10, 3) := by decide +kernel
theorem dX7_count_82 : decode cX7_count 82 = .ok (.getfield 144, 3) := by decide +kernel
theorem dX7_count_85 : decode cX7_count 85 = .ok (.ireturn, 1) := by decide +kernel
theorem dX7_count_86 : decode cX7_count 86 = .ok (.aload_n 0, 1) := by decide +kernel
theorem dX7_count_87 : decode cX7_count 87 = .ok (.getfield 10, 3) := by decide +kernel
theorem dX7_count_90 : decode cX7_count 90 = .ok (.invokevirtual 138, 3) := by decide +kernel
theorem dX7_count_93 : decode cX7_count 93 = .ok (.ireturn, 1) := by decide +kernel
theorem dX7_count_94 : decode cX7_count 94 = .ok (.aload_n 0, 1) := by decide +kernel
theorem dX7_count_95 : decode cX7_count 95 = .ok (.getfield 39, 3) := by decide +kernel
theorem dX7_count_98 : decode cX7_count 98 = .ok (.getfield 230, 3) := by decide +kernel
theorem dX7_count_101 : decode cX7_count 101 = .ok (.ireturn, 1) := by decide +kernel
theorem dX7_count_102 : decode cX7_count 102 = .ok (.aload_n 0, 1) := by decide +kernel
theorem dX7_count_103 : decode cX7_count 103 = .ok (.getfield 10, 3) := by decide +kernel
theorem dX7_count_106 : decode cX7_count 106 = .ok (.getfield 227, 3) := by decide +kernel
theorem dX7_count_109 : decode cX7_count 109 = .ok (.ireturn, 1) := by decide +kernel
theorem dX7_count_110 : decode cX7_count 110 = .ok (.aload_n 0, 1) := by decide +kernel
theorem dX7_count_111 : decode cX7_count 111 = .ok (.getfield 10, 3) := by decide +kernel
theorem dX7_count_114 : decode cX7_count 114 = .ok (.invokevirtual 274, 3) := by decide +kernel
theorem dX7_count_117 : decode cX7_count 117 = .ok (.ireturn, 1) := by decide +kernel
theorem dX7_count_118 : decode cX7_count 118 = .ok (.aload_n 0, 1) := by decide +kernel
theorem dX7_count_119 : decode cX7_count 119 = .ok (.iconst 0, 1) := by decide +kernel
theorem dX7_count_120 : decode cX7_count 120 = .ok (.invokevirtual 61, 3) := by decide +kernel
theorem dX7_count_123 : decode cX7_count 123 = .ok (.ireturn, 1) := by decide +kernel
theorem dX7_status_0 : decode cX7_status 0 = .ok (.iload_n 1, 1) := by decide +kernel
theorem dX7_status_1 : decode cX7_status 1 = .ok (.iconst (-1), 1) := by decide +kernel
theorem dX7_status_2 : decode cX7_status 2 = .ok (.if_icmp .ne 33, 3) := by decide +kernel
theorem dX7_status_5 : decode cX7_status 5 = .ok (.iconst 0, 1) := by decide +kernel
theorem dX7_status_6 : decode cX7_status 6 = .ok (.istore_n 2, 1) := by decide +kernel
theorem dX7_status_7 : decode cX7_status 7 = .ok (.iconst 0, 1) := by decide +kernel
theorem dX7_status_8 : decode cX7_status 8 = .ok (.istore_n 3, 1) := by decide +kernel
theorem dX7_status_9 : decode cX7_status 9 = .ok (.iload_n 3, 1) := by decide +kernel
theorem dX7_status_10 : decode cX7_status 10 = .ok (.aload_n 0, 1) := by decide +kernel
theorem dX7_status_11 : decode cX7_status 11 = .ok (.getfield 43, 3) := by decide +kernel
theorem dX7_status_14 : decode cX7_status 14 = .ok (.arraylength, 1) := by decide +kernel
theorem dX7_status_15 : decode cX7_status 15 = .ok (.if_icmp .ge 18, 3) := by decide +kernel
theorem dX7_status_18 : decode cX7_status 18 = .ok (.iload_n 2, 1) := by decide +kernel
theorem dX7_status_19 : decode cX7_status 19 = .ok (.aload_n 0, 1) := by decide +kernel
theorem dX7_status_20 : decode cX7_status 20 = .ok (.getfield 43, 3) := by decide +kernel
theorem dX7_status_23 : decode cX7_status 23 = .ok (.iload_n 3, 1) := by decide +kernel
theorem dX7_status_24 : decode cX7_status 24 = .ok (.iaload, 1) := by decide +kernel
theorem dX7_status_25 : decode cX7_status 25 = .ok (.iadd, 1) := by decide +kernel
theorem dX7_status_26 : decode cX7_status 26 = .ok (.istore_n 2, 1) := by decide +kernel
theorem dX7_status_27 : decode cX7_status 27 = .ok (.iinc 3 1, 3) := by decide +kernel
theorem dX7_status_30 : decode cX7_status 30 = .ok (.goto (-21), 3) := by decide +kernel
theorem dX7_status_33 : decode cX7_status 33 = .ok (.iload_n 2, 1) := by decide +kernel
theorem dX7_status_34 : decode cX7_status 34 = .ok (.ireturn, 1) := by decide +kernel
theorem dX7_status_35 : decode cX7_status 35 = .ok (.iload_n 1, 1) := by decide +kernel
theorem dX7_status_36 : decode cX7_status 36 = .ok (.ifCond .lt 12, 3) := by decide +kernel
theorem dX7_status_39 : decode cX7_status 39 = .ok (.iload_n 1, 1) := by decide +kernel
theorem dX7_status_40 : decode cX7_status 40 = .ok (.aload_n 0, 1) := by decide +kernel
theorem dX7_status_41 : decode cX7_status 41 = .ok (.getfield 43, 3) := by decide +kernel
theorem dX7_status_44 : decode cX7_status 44 = .ok (.arraylength, 1) := by decide +kernel
theorem dX7_status_45 : decode cX7_status 45 = .ok (.if_icmp .lt 9, 3) := by decide +kernel
theorem dX7_status_48 : decode cX7_status 48 = .ok (.aload_n 0, 1) := by decide +kernel
theorem dX7_status_49 : decode cX7_status 49 = .ok (.iconst 0, 1) := by decide +kernel
theorem dX7_status_50 : decode cX7_status 50 = .ok (.invokevirtual 61, 3) := by decide +kernel
theorem dX7_status_53 : decode cX7_status 53 = .ok (.ireturn, 1) := by decide +kernel
theorem dX7_status_54 : decode cX7_status 54 = .ok (.aload_n 0, 1) := by decide +kernel
theorem dX7_status_55 : decode cX7_status 55 = .ok (.getfield 43, 3) := by decide +kernel
theorem dX7_status_58 : decode cX7_status 58 = .ok (.iload_n 1, 1) := by decide +kernel
theorem dX7_status_59 : decode cX7_status 59 = .ok (.iaload, 1) := by decide +kernel
theorem dX7_status_60 : decode cX7_status 60 = .ok (.ireturn, 1) := by decide +kernel
theorem dX7_finding_0 : decode cX7_finding 0 = .ok (.iload_n 1, 1) := by decide +kernel
theorem dX7_finding_1 : decode cX7_finding 1 = .ok (.ifCond .lt 22, 3) := by decide +kernel
theorem dX7_finding_4 : decode cX7_finding 4 = .ok (.iload_n 1, 1) := by decide +kernel
theorem dX7_finding_5 : decode cX7_finding 5 = .ok (.aload_n 0, 1) := by decide +kernel
theorem dX7_finding_6 : decode cX7_finding 6 = .ok (.getfield 43, 3) := by decide +kernel
theorem dX7_finding_9 : decode cX7_finding 9 = .ok (.arraylength, 1) := by decide +kernel
theorem dX7_finding_10 : decode cX7_finding 10 = .ok (.if_icmp .ge 13, 3) := by decide +kernel
theorem dX7_finding_13 : decode cX7_finding 13 = .ok (.aload_n 0, 1) := by decide +kernel
theorem dX7_finding_14 : decode cX7_finding 14 = .ok (.getfield 43, 3) := by decide +kernel
theorem dX7_finding_17 : decode cX7_finding 17 = .ok (.iload_n 1, 1) := by decide +kernel
theorem dX7_finding_18 : decode cX7_finding 18 = .ok (.dup2, 1) := by decide +kernel
theorem dX7_finding_19 : decode cX7_finding 19 = .ok (.iaload, 1) := by decide +kernel
theorem dX7_finding_20 : decode cX7_finding 20 = .ok (.iconst 1, 1) := by decide +kernel
theorem dX7_finding_21 : decode cX7_finding 21 = .ok (.iadd, 1) := by decide +kernel
theorem dX7_finding_22 : decode cX7_finding 22 = .ok (.iastore, 1) := by decide +kernel
theorem dX7_finding_23 : decode cX7_finding 23 = .ok (.ldc_w 277, 3) := by decide +kernel
theorem dX7_finding_26 : decode cX7_finding 26 = .ok (.iload_n 1, 1) := by decide +kernel
theorem dX7_finding_27 : decode cX7_finding 27 = .ok (.isub, 1) := by decide +kernel
theorem dX7_finding_28 : decode cX7_finding 28 = .ok (.ireturn, 1) := by decide +kernel
theorem dX7_replace_0 : decode cX7_replace 0 = .ok (.aload_n 1, 1) := by decide +kernel
theorem dX7_replace_1 : decode cX7_replace 1 = .ok (.ifnull 21, 3) := by decide +kernel
theorem dX7_replace_4 : decode cX7_replace 4 = .ok (.aload_n 1, 1) := by decide +kernel
theorem dX7_replace_5 : decode cX7_replace 5 = .ok (.iload_n 2, 1) := by decide +kernel
theorem dX7_replace_6 : decode cX7_replace 6 = .ok (.invokevirtual 103, 3) := by decide +kernel
theorem dX7_replace_9 : decode cX7_replace 9 = .ok (.ifCond .eq 13, 3) := by decide +kernel
theorem dX7_replace_12 : decode cX7_replace 12 = .ok (.aload_n 1, 1) := by decide +kernel
theorem dX7_replace_13 : decode cX7_replace 13 = .ok (.iload_n 3, 1) := by decide +kernel
theorem dX7_replace_14 : decode cX7_replace 14 = .ok (.iload 4, 2) := by decide +kernel
theorem dX7_replace_16 : decode cX7_replace 16 = .ok (.invokevirtual 55, 3) := by decide +kernel
theorem dX7_replace_19 : decode cX7_replace 19 = .ok (.ifCond .ne 9, 3) := by decide +kernel
theorem dX7_replace_22 : decode cX7_replace 22 = .ok (.aload_n 0, 1) := by decide +kernel
theorem dX7_replace_23 : decode cX7_replace 23 = .ok (.iconst 0, 1) := by decide +kernel
theorem dX7_replace_24 : decode cX7_replace 24 = .ok (.invokevirtual 61, 3) := by decide +kernel
theorem dX7_replace_27 : decode cX7_replace 27 = .ok (.ireturn, 1) := by decide +kernel
theorem dX7_replace_28 : decode cX7_replace 28 = .ok (.aload_n 1, 1) := by decide +kernel
theorem dX7_replace_29 : decode cX7_replace 29 = .ok (.iload_n 2, 1) := by decide +kernel
theorem dX7_replace_30 : decode cX7_replace 30 = .ok (.iload_n 3, 1) := by decide +kernel
theorem dX7_replace_31 : decode cX7_replace 31 = .ok (.invokevirtual 84, 3) := by decide +kernel
theorem dX7_replace_34 : decode cX7_replace 34 = .ok (.istore 5, 2) := by decide +kernel
theorem dX7_replace_36 : decode cX7_replace 36 = .ok (.aload_n 1, 1) := by decide +kernel
theorem dX7_replace_37 : decode cX7_replace 37 = .ok (.iload_n 2, 1) := by decide +kernel
theorem dX7_replace_38 : decode cX7_replace 38 = .ok (.iload_n 3, 1) := by decide +kernel
theorem dX7_replace_39 : decode cX7_replace 39 = .ok (.iload 4, 2) := by decide +kernel
theorem dX7_replace_41 : decode cX7_replace 41 = .ok (.invokevirtual 162, 3) := by decide +kernel
theorem dX7_replace_44 : decode cX7_replace 44 = .ok (.iload 5, 2) := by decide +kernel
theorem dX7_replace_46 : decode cX7_replace 46 = .ok (.ireturn, 1) := by decide +kernel
theorem dX7_sheetAt_0 : decode cX7_sheetAt 0 = .ok (.iload_n 1, 1) := by decide +kernel
theorem dX7_sheetAt_1 : decode cX7_sheetAt 1 = .ok (.ifCond .lt 21, 3) := by decide +kernel
theorem dX7_sheetAt_4 : decode cX7_sheetAt 4 = .ok (.iload_n 1, 1) := by decide +kernel
theorem dX7_sheetAt_5 : decode cX7_sheetAt 5 = .ok (.aload_n 0, 1) := by decide +kernel
theorem dX7_sheetAt_6 : decode cX7_sheetAt 6 = .ok (.getfield 31, 3) := by decide +kernel
theorem dX7_sheetAt_9 : decode cX7_sheetAt 9 = .ok (.arraylength, 1) := by decide +kernel
theorem dX7_sheetAt_10 : decode cX7_sheetAt 10 = .ok (.if_icmp .ge 12, 3) := by decide +kernel
theorem dX7_sheetAt_13 : decode cX7_sheetAt 13 = .ok (.aload_n 0, 1) := by decide +kernel
theorem dX7_sheetAt_14 : decode cX7_sheetAt 14 = .ok (.getfield 31, 3) := by decide +kernel
theorem dX7_sheetAt_17 : decode cX7_sheetAt 17 = .ok (.iload_n 1, 1) := by decide +kernel
theorem dX7_sheetAt_18 : decode cX7_sheetAt 18 = .ok (.aaload, 1) := by decide +kernel
theorem dX7_sheetAt_19 : decode cX7_sheetAt 19 = .ok (.goto 4, 3) := by decide +kernel
theorem dX7_sheetAt_22 : decode cX7_sheetAt 22 = .ok (.aconst_null, 1) := by decide +kernel
theorem dX7_sheetAt_23 : decode cX7_sheetAt 23 = .ok (.areturn, 1) := by decide +kernel
theorem dX7_wrongSheet_0 : decode cX7_wrongSheet 0 = .ok (.aload_n 0, 1) := by decide +kernel
theorem dX7_wrongSheet_1 : decode cX7_wrongSheet 1 = .ok (.iload_n 1, 1) := by decide +kernel
theorem dX7_wrongSheet_2 : decode cX7_wrongSheet 2 = .ok (.invokevirtual 204, 3) := by decide +kernel
theorem dX7_wrongSheet_5 : decode cX7_wrongSheet 5 = .ok (.astore_n 2, 1) := by decide +kernel
theorem dX7_wrongSheet_6 : decode cX7_wrongSheet 6 = .ok (.aload_n 2, 1) := by decide +kernel
theorem dX7_wrongSheet_7 : decode cX7_wrongSheet 7 = .ok (.ifnonnull 5, 3) := by decide +kernel
theorem dX7_wrongSheet_10 : decode cX7_wrongSheet 10 = .ok (.iconst 0, 1) := by decide +kernel
theorem dX7_wrongSheet_11 : decode cX7_wrongSheet 11 = .ok (.ireturn, 1) := by decide +kernel
theorem dX7_wrongSheet_12 : decode cX7_wrongSheet 12 = .ok (.aload_n 2, 1) := by decide +kernel
theorem dX7_wrongSheet_13 : decode cX7_wrongSheet 13 = .ok (.invokevirtual 260, 3) := by decide +kernel
theorem dX7_wrongSheet_16 : decode cX7_wrongSheet 16 = .ok (.ifCond .eq 7, 3) := by decide +kernel
theorem dX7_wrongSheet_19 : decode cX7_wrongSheet 19 = .ok (.iconst 5, 1) := by decide +kernel
theorem dX7_wrongSheet_20 : decode cX7_wrongSheet 20 = .ok (.goto 4, 3) := by decide +kernel
theorem dX7_wrongSheet_23 : decode cX7_wrongSheet 23 = .ok (.iconst (-1), 1) := by decide +kernel
theorem dX7_wrongSheet_24 : decode cX7_wrongSheet 24 = .ok (.ireturn, 1) := by decide +kernel
theorem dX7_within_0 : decode cX7_within 0 = .ok (.iload_n 0, 1) := by decide +kernel
theorem dX7_within_1 : decode cX7_within 1 = .ok (.iload_n 1, 1) := by decide +kernel
theorem dX7_within_2 : decode cX7_within 2 = .ok (.if_icmp .lt 12, 3) := by decide +kernel
theorem dX7_within_5 : decode cX7_within 5 = .ok (.iload_n 0, 1) := by decide +kernel
theorem dX7_within_6 : decode cX7_within 6 = .ok (.iload_n 2, 1) := by decide +kernel
theorem dX7_within_7 : decode cX7_within 7 = .ok (.if_icmp .gt 7, 3) := by decide +kernel
theorem dX7_within_10 : decode cX7_within 10 = .ok (.iconst 1, 1) := by decide +kernel
theorem dX7_within_11 : decode cX7_within 11 = .ok (.goto 4, 3) := by decide +kernel
theorem dX7_within_14 : decode cX7_within 14 = .ok (.iconst 0, 1) := by decide +kernel
theorem dX7_within_15 : decode cX7_within 15 = .ok (.ireturn, 1) := by decide +kernel
theorem dX7_copyRow_0 : decode cX7_copyRow 0 = .ok (.aload_n 0, 1) := by decide +kernel
theorem dX7_copyRow_1 : decode cX7_copyRow 1 = .ok (.ifnull 7, 3) := by decide +kernel
theorem dX7_copyRow_4 : decode cX7_copyRow 4 = .ok (.aload_n 1, 1) := by decide +kernel
theorem dX7_copyRow_5 : decode cX7_copyRow 5 = .ok (.ifnonnull 4, 3) := by decide +kernel
theorem dX7_copyRow_8 : decode cX7_copyRow 8 = .ok (.return_, 1) := by decide +kernel
theorem dX7_copyRow_9 : decode cX7_copyRow 9 = .ok (.iconst 0, 1) := by decide +kernel
theorem dX7_copyRow_10 : decode cX7_copyRow 10 = .ok (.istore_n 2, 1) := by decide +kernel
theorem dX7_copyRow_11 : decode cX7_copyRow 11 = .ok (.iload_n 2, 1) := by decide +kernel
theorem dX7_copyRow_12 : decode cX7_copyRow 12 = .ok (.aload_n 0, 1) := by decide +kernel
theorem dX7_copyRow_13 : decode cX7_copyRow 13 = .ok (.arraylength, 1) := by decide +kernel
theorem dX7_copyRow_14 : decode cX7_copyRow 14 = .ok (.if_icmp .ge 21, 3) := by decide +kernel
theorem dX7_copyRow_17 : decode cX7_copyRow 17 = .ok (.iload_n 2, 1) := by decide +kernel
theorem dX7_copyRow_18 : decode cX7_copyRow 18 = .ok (.aload_n 1, 1) := by decide +kernel
theorem dX7_copyRow_19 : decode cX7_copyRow 19 = .ok (.arraylength, 1) := by decide +kernel
theorem dX7_copyRow_20 : decode cX7_copyRow 20 = .ok (.if_icmp .ge 15, 3) := by decide +kernel
theorem dX7_copyRow_23 : decode cX7_copyRow 23 = .ok (.aload_n 1, 1) := by decide +kernel
theorem dX7_copyRow_24 : decode cX7_copyRow 24 = .ok (.iload_n 2, 1) := by decide +kernel
theorem dX7_copyRow_25 : decode cX7_copyRow 25 = .ok (.aload_n 0, 1) := by decide +kernel
theorem dX7_copyRow_26 : decode cX7_copyRow 26 = .ok (.iload_n 2, 1) := by decide +kernel
theorem dX7_copyRow_27 : decode cX7_copyRow 27 = .ok (.iaload, 1) := by decide +kernel
theorem dX7_copyRow_28 : decode cX7_copyRow 28 = .ok (.iastore, 1) := by decide +kernel
theorem dX7_copyRow_29 : decode cX7_copyRow 29 = .ok (.iinc 2 1, 3) := by decide +kernel
theorem dX7_copyRow_32 : decode cX7_copyRow 32 = .ok (.goto (-21), 3) := by decide +kernel
theorem dX7_copyRow_35 : decode cX7_copyRow 35 = .ok (.return_, 1) := by decide +kernel
theorem dJ6_bitCount_0f7a4_0 : decode cJ6_bitCount_0f7a4 0 = .ok (.iload_n 0, 1) := by decide +kernel
theorem dJ6_bitCount_0f7a4_1 : decode cJ6_bitCount_0f7a4 1 = .ok (.iload_n 0, 1) := by decide +kernel
theorem dJ6_bitCount_0f7a4_2 : decode cJ6_bitCount_0f7a4 2 = .ok (.iconst 1, 1) := by decide +kernel
theorem dJ6_bitCount_0f7a4_3 : decode cJ6_bitCount_0f7a4 3 = .ok (.iushr, 1) := by decide +kernel
theorem dJ6_bitCount_0f7a4_4 : decode cJ6_bitCount_0f7a4 4 = .ok (.ldc_w 265, 3) := by decide +kernel
theorem dJ6_bitCount_0f7a4_7 : decode cJ6_bitCount_0f7a4 7 = .ok (.iand, 1) := by decide +kernel
theorem dJ6_bitCount_0f7a4_8 : decode cJ6_bitCount_0f7a4 8 = .ok (.isub, 1) := by decide +kernel
theorem dJ6_bitCount_0f7a4_9 : decode cJ6_bitCount_0f7a4 9 = .ok (.istore_n 0, 1) := by decide +kernel
theorem dJ6_bitCount_0f7a4_10 : decode cJ6_bitCount_0f7a4 10 = .ok (.iload_n 0, 1) := by decide +kernel
theorem dJ6_bitCount_0f7a4_11 : decode cJ6_bitCount_0f7a4 11 = .ok (.ldc_w 266, 3) := by decide +kernel
theorem dJ6_bitCount_0f7a4_14 : decode cJ6_bitCount_0f7a4 14 = .ok (.iand, 1) := by decide +kernel
theorem dJ6_bitCount_0f7a4_15 : decode cJ6_bitCount_0f7a4 15 = .ok (.iload_n 0, 1) := by decide +kernel
theorem dJ6_bitCount_0f7a4_16 : decode cJ6_bitCount_0f7a4 16 = .ok (.iconst 2, 1) := by decide +kernel
theorem dJ6_bitCount_0f7a4_17 : decode cJ6_bitCount_0f7a4 17 = .ok (.iushr, 1) := by decide +kernel
theorem dJ6_bitCount_0f7a4_18 : decode cJ6_bitCount_0f7a4 18 = .ok (.ldc_w 266, 3) := by decide +kernel
theorem dJ6_bitCount_0f7a4_21 : decode cJ6_bitCount_0f7a4 21 = .ok (.iand, 1) := by decide +kernel
theorem dJ6_bitCount_0f7a4_22 : decode cJ6_bitCount_0f7a4 22 = .ok (.iadd, 1) := by decide +kernel
theorem dJ6_bitCount_0f7a4_23 : decode cJ6_bitCount_0f7a4 23 = .ok (.istore_n 0, 1) := by decide +kernel
theorem dJ6_bitCount_0f7a4_24 : decode cJ6_bitCount_0f7a4 24 = .ok (.iload_n 0, 1) := by decide +kernel
theorem dJ6_bitCount_0f7a4_25 : decode cJ6_bitCount_0f7a4 25 = .ok (.iload_n 0, 1) := by decide +kernel
theorem dJ6_bitCount_0f7a4_26 : decode cJ6_bitCount_0f7a4 26 = .ok (.iconst 4, 1) := by decide +kernel
theorem dJ6_bitCount_0f7a4_27 : decode cJ6_bitCount_0f7a4 27 = .ok (.iushr, 1) := by decide +kernel
theorem dJ6_bitCount_0f7a4_28 : decode cJ6_bitCount_0f7a4 28 = .ok (.iadd, 1) := by decide +kernel
theorem dJ6_bitCount_0f7a4_29 : decode cJ6_bitCount_0f7a4 29 = .ok (.ldc_w 267, 3) := by decide +kernel
theorem dJ6_bitCount_0f7a4_32 : decode cJ6_bitCount_0f7a4 32 = .ok (.iand, 1) := by decide +kernel
theorem dJ6_bitCount_0f7a4_33 : decode cJ6_bitCount_0f7a4 33 = .ok (.istore_n 0, 1) := by decide +kernel
theorem dJ6_bitCount_0f7a4_34 : decode cJ6_bitCount_0f7a4 34 = .ok (.iload_n 0, 1) := by decide +kernel
theorem dJ6_bitCount_0f7a4_35 : decode cJ6_bitCount_0f7a4 35 = .ok (.iload_n 0, 1) := by decide +kernel
theorem dJ6_bitCount_0f7a4_36 : decode cJ6_bitCount_0f7a4 36 = .ok (.bipush 8, 2) := by decide +kernel
theorem dJ6_bitCount_0f7a4_38 : decode cJ6_bitCount_0f7a4 38 = .ok (.iushr, 1) := by decide +kernel
theorem dJ6_bitCount_0f7a4_39 : decode cJ6_bitCount_0f7a4 39 = .ok (.iadd, 1) := by decide +kernel
theorem dJ6_bitCount_0f7a4_40 : decode cJ6_bitCount_0f7a4 40 = .ok (.istore_n 0, 1) := by decide +kernel
theorem dJ6_bitCount_0f7a4_41 : decode cJ6_bitCount_0f7a4 41 = .ok (.iload_n 0, 1) := by decide +kernel
theorem dJ6_bitCount_0f7a4_42 : decode cJ6_bitCount_0f7a4 42 = .ok (.iload_n 0, 1) := by decide +kernel
theorem dJ6_bitCount_0f7a4_43 : decode cJ6_bitCount_0f7a4 43 = .ok (.bipush 16, 2) := by decide +kernel
theorem dJ6_bitCount_0f7a4_45 : decode cJ6_bitCount_0f7a4 45 = .ok (.iushr, 1) := by decide +kernel
theorem dJ6_bitCount_0f7a4_46 : decode cJ6_bitCount_0f7a4 46 = .ok (.iadd, 1) := by decide +kernel
theorem dJ6_bitCount_0f7a4_47 : decode cJ6_bitCount_0f7a4 47 = .ok (.istore_n 0, 1) := by decide +kernel
theorem dJ6_bitCount_0f7a4_48 : decode cJ6_bitCount_0f7a4 48 = .ok (.iload_n 0, 1) := by decide +kernel
theorem dJ6_bitCount_0f7a4_49 : decode cJ6_bitCount_0f7a4 49 = .ok (.bipush 63, 2) := by decide +kernel
theorem dJ6_bitCount_0f7a4_51 : decode cJ6_bitCount_0f7a4 51 = .ok (.iand, 1) := by decide +kernel
theorem dJ6_bitCount_0f7a4_52 : decode cJ6_bitCount_0f7a4 52 = .ok (.ireturn, 1) := by decide +kernel
theorem dJ9_abs_0f7a4_0 : decode cJ9_abs_0f7a4 0 = .ok (.iload_n 0, 1) := by decide +kernel
theorem dJ9_abs_0f7a4_1 : decode cJ9_abs_0f7a4 1 = .ok (.ifCond .ge 8, 3) := by decide +kernel
theorem dJ9_abs_0f7a4_4 : decode cJ9_abs_0f7a4 4 = .ok (.iload_n 0, 1) := by decide +kernel
theorem dJ9_abs_0f7a4_5 : decode cJ9_abs_0f7a4 5 = .ok (.ineg, 1) := by decide +kernel
theorem dJ9_abs_0f7a4_6 : decode cJ9_abs_0f7a4 6 = .ok (.goto 4, 3) := by decide +kernel
theorem dJ9_abs_0f7a4_9 : decode cJ9_abs_0f7a4 9 = .ok (.iload_n 0, 1) := by decide +kernel
theorem dJ9_abs_0f7a4_10 : decode cJ9_abs_0f7a4 10 = .ok (.ireturn, 1) := by decide +kernel
theorem dJ9_max_7cf53_0 : decode cJ9_max_7cf53 0 = .ok (.iload_n 0, 1) := by decide +kernel
theorem dJ9_max_7cf53_1 : decode cJ9_max_7cf53 1 = .ok (.iload_n 1, 1) := by decide +kernel
theorem dJ9_max_7cf53_2 : decode cJ9_max_7cf53 2 = .ok (.if_icmp .lt 7, 3) := by decide +kernel
theorem dJ9_max_7cf53_5 : decode cJ9_max_7cf53 5 = .ok (.iload_n 0, 1) := by decide +kernel
theorem dJ9_max_7cf53_6 : decode cJ9_max_7cf53 6 = .ok (.goto 4, 3) := by decide +kernel
theorem dJ9_max_7cf53_9 : decode cJ9_max_7cf53 9 = .ok (.iload_n 1, 1) := by decide +kernel
theorem dJ9_max_7cf53_10 : decode cJ9_max_7cf53 10 = .ok (.ireturn, 1) := by decide +kernel
theorem dJ9_min_7cf53_0 : decode cJ9_min_7cf53 0 = .ok (.iload_n 0, 1) := by decide +kernel
theorem dJ9_min_7cf53_1 : decode cJ9_min_7cf53 1 = .ok (.iload_n 1, 1) := by decide +kernel
theorem dJ9_min_7cf53_2 : decode cJ9_min_7cf53 2 = .ok (.if_icmp .gt 7, 3) := by decide +kernel
theorem dJ9_min_7cf53_5 : decode cJ9_min_7cf53 5 = .ok (.iload_n 0, 1) := by decide +kernel
theorem dJ9_min_7cf53_6 : decode cJ9_min_7cf53 6 = .ok (.goto 4, 3) := by decide +kernel
theorem dJ9_min_7cf53_9 : decode cJ9_min_7cf53 9 = .ok (.iload_n 1, 1) := by decide +kernel
theorem dJ9_min_7cf53_10 : decode cJ9_min_7cf53 10 = .ok (.ireturn, 1) := by decide +kernel
theorem dJ0_length_8abf5_0 : decode cJ0_length_8abf5 0 = .ok (.aload_n 0, 1) := by decide +kernel
theorem dJ0_length_8abf5_1 : decode cJ0_length_8abf5 1 = .ok (.getfield 9, 3) := by decide +kernel
theorem dJ0_length_8abf5_4 : decode cJ0_length_8abf5 4 = .ok (.arraylength, 1) := by decide +kernel
theorem dJ0_length_8abf5_5 : decode cJ0_length_8abf5 5 = .ok (.aload_n 0, 1) := by decide +kernel
theorem dJ0_length_8abf5_6 : decode cJ0_length_8abf5 6 = .ok (.invokevirtual 335, 3) := by decide +kernel
theorem dJ0_length_8abf5_9 : decode cJ0_length_8abf5 9 = .ok (.ishr, 1) := by decide +kernel
theorem dJ0_length_8abf5_10 : decode cJ0_length_8abf5 10 = .ok (.ireturn, 1) := by decide +kernel
theorem dJ0_charAt_5068e_0 : decode cJ0_charAt_5068e 0 = .ok (.aload_n 0, 1) := by decide +kernel
theorem dJ0_charAt_5068e_1 : decode cJ0_charAt_5068e 1 = .ok (.invokevirtual 492, 3) := by decide +kernel
theorem dJ0_charAt_5068e_4 : decode cJ0_charAt_5068e 4 = .ok (.ifCond .eq 12, 3) := by decide +kernel
theorem dJ0_charAt_5068e_7 : decode cJ0_charAt_5068e 7 = .ok (.aload_n 0, 1) := by decide +kernel
theorem dJ0_charAt_5068e_8 : decode cJ0_charAt_5068e 8 = .ok (.getfield 9, 3) := by decide +kernel
theorem dJ0_charAt_5068e_11 : decode cJ0_charAt_5068e 11 = .ok (.iload_n 1, 1) := by decide +kernel
theorem dJ0_charAt_5068e_12 : decode cJ0_charAt_5068e 12 = .ok (.invokestatic 495, 3) := by decide +kernel
theorem dJ0_charAt_5068e_15 : decode cJ0_charAt_5068e 15 = .ok (.ireturn, 1) := by decide +kernel
theorem dJ0_charAt_5068e_16 : decode cJ0_charAt_5068e 16 = .ok (.aload_n 0, 1) := by decide +kernel
theorem dJ0_charAt_5068e_17 : decode cJ0_charAt_5068e 17 = .ok (.getfield 9, 3) := by decide +kernel
theorem dJ0_charAt_5068e_20 : decode cJ0_charAt_5068e 20 = .ok (.iload_n 1, 1) := by decide +kernel
theorem dJ0_charAt_5068e_21 : decode cJ0_charAt_5068e 21 = .ok (.invokestatic 498, 3) := by decide +kernel
theorem dJ0_charAt_5068e_24 : decode cJ0_charAt_5068e 24 = .ok (.ireturn, 1) := by decide +kernel
theorem dJ0_coder_7d493_0 : decode cJ0_coder_7d493 0 = .ok (.getstatic 38, 3) := by decide +kernel
theorem dJ0_coder_7d493_3 : decode cJ0_coder_7d493 3 = .ok (.ifCond .eq 10, 3) := by decide +kernel
theorem dJ0_coder_7d493_6 : decode cJ0_coder_7d493 6 = .ok (.aload_n 0, 1) := by decide +kernel
theorem dJ0_coder_7d493_7 : decode cJ0_coder_7d493 7 = .ok (.getfield 15, 3) := by decide +kernel
theorem dJ0_coder_7d493_10 : decode cJ0_coder_7d493 10 = .ok (.goto 4, 3) := by decide +kernel
theorem dJ0_coder_7d493_13 : decode cJ0_coder_7d493 13 = .ok (.iconst 1, 1) := by decide +kernel
theorem dJ0_coder_7d493_14 : decode cJ0_coder_7d493 14 = .ok (.ireturn, 1) := by decide +kernel
theorem dJ0_isLatin1_aae02_0 : decode cJ0_isLatin1_aae02 0 = .ok (.getstatic 38, 3) := by decide +kernel
theorem dJ0_isLatin1_aae02_3 : decode cJ0_isLatin1_aae02 3 = .ok (.ifCond .eq 14, 3) := by decide +kernel
theorem dJ0_isLatin1_aae02_6 : decode cJ0_isLatin1_aae02 6 = .ok (.aload_n 0, 1) := by decide +kernel
theorem dJ0_isLatin1_aae02_7 : decode cJ0_isLatin1_aae02 7 = .ok (.getfield 15, 3) := by decide +kernel
theorem dJ0_isLatin1_aae02_10 : decode cJ0_isLatin1_aae02 10 = .ok (.ifCond .ne 7, 3) := by decide +kernel
theorem dJ0_isLatin1_aae02_13 : decode cJ0_isLatin1_aae02 13 = .ok (.iconst 1, 1) := by decide +kernel
theorem dJ0_isLatin1_aae02_14 : decode cJ0_isLatin1_aae02 14 = .ok (.goto 4, 3) := by decide +kernel
theorem dJ0_isLatin1_aae02_17 : decode cJ0_isLatin1_aae02 17 = .ok (.iconst 0, 1) := by decide +kernel
theorem dJ0_isLatin1_aae02_18 : decode cJ0_isLatin1_aae02 18 = .ok (.ireturn, 1) := by decide +kernel
theorem dJ0_checkIndex_df160_0 : decode cJ0_checkIndex_df160 0 = .ok (.iload_n 0, 1) := by decide +kernel
theorem dJ0_checkIndex_df160_1 : decode cJ0_checkIndex_df160 1 = .ok (.iload_n 1, 1) := by decide +kernel
theorem dJ0_checkIndex_df160_2 : decode cJ0_checkIndex_df160 2 = .ok (.getstatic 1053, 3) := by decide +kernel
theorem dJ0_checkIndex_df160_5 : decode cJ0_checkIndex_df160 5 = .ok (.invokestatic 1059, 3) := by decide +kernel
theorem dJ0_checkIndex_df160_8 : decode cJ0_checkIndex_df160 8 = .ok (.pop, 1) := by decide +kernel
theorem dJ0_checkIndex_df160_9 : decode cJ0_checkIndex_df160 9 = .ok (.return_, 1) := by decide +kernel
theorem dJ1_charAt_3b067_0 : decode cJ1_charAt_3b067 0 = .ok (.iload_n 1, 1) := by decide +kernel
theorem dJ1_charAt_3b067_1 : decode cJ1_charAt_3b067 1 = .ok (.aload_n 0, 1) := by decide +kernel
theorem dJ1_charAt_3b067_2 : decode cJ1_charAt_3b067 2 = .ok (.arraylength, 1) := by decide +kernel
theorem dJ1_charAt_3b067_3 : decode cJ1_charAt_3b067 3 = .ok (.invokestatic 9, 3) := by decide +kernel
theorem dJ1_charAt_3b067_6 : decode cJ1_charAt_3b067 6 = .ok (.aload_n 0, 1) := by decide +kernel
theorem dJ1_charAt_3b067_7 : decode cJ1_charAt_3b067 7 = .ok (.iload_n 1, 1) := by decide +kernel
theorem dJ1_charAt_3b067_8 : decode cJ1_charAt_3b067 8 = .ok (.baload, 1) := by decide +kernel
theorem dJ1_charAt_3b067_9 : decode cJ1_charAt_3b067 9 = .ok (.sipush 255, 3) := by decide +kernel
theorem dJ1_charAt_3b067_12 : decode cJ1_charAt_3b067 12 = .ok (.iand, 1) := by decide +kernel
theorem dJ1_charAt_3b067_13 : decode cJ1_charAt_3b067 13 = .ok (.i2c, 1) := by decide +kernel
theorem dJ1_charAt_3b067_14 : decode cJ1_charAt_3b067 14 = .ok (.ireturn, 1) := by decide +kernel
theorem dJ2_getChar_3b067_0 : decode cJ2_getChar_3b067 0 = .ok (.getstatic 44, 3) := by decide +kernel
theorem dJ2_getChar_3b067_3 : decode cJ2_getChar_3b067 3 = .ok (.ifCond .ne 25, 3) := by decide +kernel
theorem dJ2_getChar_3b067_6 : decode cJ2_getChar_3b067 6 = .ok (.iload_n 1, 1) := by decide +kernel
theorem dJ2_getChar_3b067_7 : decode cJ2_getChar_3b067 7 = .ok (.ifCond .lt 11, 3) := by decide +kernel
theorem dJ2_getChar_3b067_10 : decode cJ2_getChar_3b067 10 = .ok (.iload_n 1, 1) := by decide +kernel
theorem dJ2_getChar_3b067_11 : decode cJ2_getChar_3b067 11 = .ok (.aload_n 0, 1) := by decide +kernel
theorem dJ2_getChar_3b067_12 : decode cJ2_getChar_3b067 12 = .ok (.invokestatic 48, 3) := by decide +kernel
theorem dJ2_getChar_3b067_15 : decode cJ2_getChar_3b067 15 = .ok (.if_icmp .lt 13, 3) := by decide +kernel
theorem dJ2_getChar_3b067_18 : decode cJ2_getChar_3b067 18 = .ok (.new 52, 3) := by decide +kernel
theorem dJ2_getChar_3b067_21 : decode cJ2_getChar_3b067 21 = .ok (.dup, 1) := by decide +kernel
theorem dJ2_getChar_3b067_22 : decode cJ2_getChar_3b067 22 = .ok (.ldc 54, 2) := by decide +kernel
theorem dJ2_getChar_3b067_24 : decode cJ2_getChar_3b067 24 = .ok (.invokespecial 56, 3) := by decide +kernel
theorem dJ2_getChar_3b067_27 : decode cJ2_getChar_3b067 27 = .ok (.athrow, 1) := by decide +kernel
theorem dJ2_getChar_3b067_28 : decode cJ2_getChar_3b067 28 = .ok (.iload_n 1, 1) := by decide +kernel
theorem dJ2_getChar_3b067_29 : decode cJ2_getChar_3b067 29 = .ok (.iconst 1, 1) := by decide +kernel
theorem dJ2_getChar_3b067_30 : decode cJ2_getChar_3b067 30 = .ok (.ishl, 1) := by decide +kernel
theorem dJ2_getChar_3b067_31 : decode cJ2_getChar_3b067 31 = .ok (.istore_n 1, 1) := by decide +kernel
theorem dJ2_getChar_3b067_32 : decode cJ2_getChar_3b067 32 = .ok (.aload_n 0, 1) := by decide +kernel
theorem dJ2_getChar_3b067_33 : decode cJ2_getChar_3b067 33 = .ok (.iload_n 1, 1) := by decide +kernel
theorem dJ2_getChar_3b067_34 : decode cJ2_getChar_3b067 34 = .ok (.iinc 1 1, 3) := by decide +kernel
theorem dJ2_getChar_3b067_37 : decode cJ2_getChar_3b067 37 = .ok (.baload, 1) := by decide +kernel
theorem dJ2_getChar_3b067_38 : decode cJ2_getChar_3b067 38 = .ok (.sipush 255, 3) := by decide +kernel
theorem dJ2_getChar_3b067_41 : decode cJ2_getChar_3b067 41 = .ok (.iand, 1) := by decide +kernel
theorem dJ2_getChar_3b067_42 : decode cJ2_getChar_3b067 42 = .ok (.getstatic 59, 3) := by decide +kernel
theorem dJ2_getChar_3b067_45 : decode cJ2_getChar_3b067 45 = .ok (.ishl, 1) := by decide +kernel
theorem dJ2_getChar_3b067_46 : decode cJ2_getChar_3b067 46 = .ok (.aload_n 0, 1) := by decide +kernel
theorem dJ2_getChar_3b067_47 : decode cJ2_getChar_3b067 47 = .ok (.iload_n 1, 1) := by decide +kernel
theorem dJ2_getChar_3b067_48 : decode cJ2_getChar_3b067 48 = .ok (.baload, 1) := by decide +kernel
theorem dJ2_getChar_3b067_49 : decode cJ2_getChar_3b067 49 = .ok (.sipush 255, 3) := by decide +kernel
theorem dJ2_getChar_3b067_52 : decode cJ2_getChar_3b067 52 = .ok (.iand, 1) := by decide +kernel
theorem dJ2_getChar_3b067_53 : decode cJ2_getChar_3b067 53 = .ok (.getstatic 63, 3) := by decide +kernel
theorem dJ2_getChar_3b067_56 : decode cJ2_getChar_3b067 56 = .ok (.ishl, 1) := by decide +kernel
theorem dJ2_getChar_3b067_57 : decode cJ2_getChar_3b067 57 = .ok (.ior, 1) := by decide +kernel
theorem dJ2_getChar_3b067_58 : decode cJ2_getChar_3b067 58 = .ok (.i2c, 1) := by decide +kernel
theorem dJ2_getChar_3b067_59 : decode cJ2_getChar_3b067 59 = .ok (.ireturn, 1) := by decide +kernel
theorem dJ2_length_9d52b_0 : decode cJ2_length_9d52b 0 = .ok (.aload_n 0, 1) := by decide +kernel
theorem dJ2_length_9d52b_1 : decode cJ2_length_9d52b 1 = .ok (.arraylength, 1) := by decide +kernel
theorem dJ2_length_9d52b_2 : decode cJ2_length_9d52b 2 = .ok (.iconst 1, 1) := by decide +kernel
theorem dJ2_length_9d52b_3 : decode cJ2_length_9d52b 3 = .ok (.ishr, 1) := by decide +kernel
theorem dJ2_length_9d52b_4 : decode cJ2_length_9d52b 4 = .ok (.ireturn, 1) := by decide +kernel
theorem dJ2_charAt_3b067_0 : decode cJ2_charAt_3b067 0 = .ok (.iload_n 1, 1) := by decide +kernel
theorem dJ2_charAt_3b067_1 : decode cJ2_charAt_3b067 1 = .ok (.aload_n 0, 1) := by decide +kernel
theorem dJ2_charAt_3b067_2 : decode cJ2_charAt_3b067 2 = .ok (.invokestatic 67, 3) := by decide +kernel
theorem dJ2_charAt_3b067_5 : decode cJ2_charAt_3b067 5 = .ok (.aload_n 0, 1) := by decide +kernel
theorem dJ2_charAt_3b067_6 : decode cJ2_charAt_3b067 6 = .ok (.iload_n 1, 1) := by decide +kernel
theorem dJ2_charAt_3b067_7 : decode cJ2_charAt_3b067 7 = .ok (.invokestatic 71, 3) := by decide +kernel
theorem dJ2_charAt_3b067_10 : decode cJ2_charAt_3b067 10 = .ok (.ireturn, 1) := by decide +kernel
theorem dJ2_checkIndex_2214a_0 : decode cJ2_checkIndex_2214a 0 = .ok (.iload_n 0, 1) := by decide +kernel
theorem dJ2_checkIndex_2214a_1 : decode cJ2_checkIndex_2214a 1 = .ok (.aload_n 1, 1) := by decide +kernel
theorem dJ2_checkIndex_2214a_2 : decode cJ2_checkIndex_2214a 2 = .ok (.invokestatic 48, 3) := by decide +kernel
theorem dJ2_checkIndex_2214a_5 : decode cJ2_checkIndex_2214a 5 = .ok (.invokestatic 414, 3) := by decide +kernel
theorem dJ2_checkIndex_2214a_8 : decode cJ2_checkIndex_2214a 8 = .ok (.return_, 1) := by decide +kernel
theorem dJ3_checkIndex_8e157_0 : decode cJ3_checkIndex_8e157 0 = .ok (.iload_n 0, 1) := by decide +kernel
theorem dJ3_checkIndex_8e157_1 : decode cJ3_checkIndex_8e157 1 = .ok (.ifCond .lt 8, 3) := by decide +kernel
theorem dJ3_checkIndex_8e157_4 : decode cJ3_checkIndex_8e157 4 = .ok (.iload_n 0, 1) := by decide +kernel
theorem dJ3_checkIndex_8e157_5 : decode cJ3_checkIndex_8e157 5 = .ok (.iload_n 1, 1) := by decide +kernel
theorem dJ3_checkIndex_8e157_6 : decode cJ3_checkIndex_8e157 6 = .ok (.if_icmp .lt 10, 3) := by decide +kernel
theorem dJ3_checkIndex_8e157_9 : decode cJ3_checkIndex_8e157 9 = .ok (.aload_n 2, 1) := by decide +kernel
theorem dJ3_checkIndex_8e157_10 : decode cJ3_checkIndex_8e157 10 = .ok (.iload_n 0, 1) := by decide +kernel
theorem dJ3_checkIndex_8e157_11 : decode cJ3_checkIndex_8e157 11 = .ok (.iload_n 1, 1) := by decide +kernel
theorem dJ3_checkIndex_8e157_12 : decode cJ3_checkIndex_8e157 12 = .ok (.invokestatic 95, 3) := by decide +kernel
theorem dJ3_checkIndex_8e157_15 : decode cJ3_checkIndex_8e157 15 = .ok (.athrow, 1) := by decide +kernel
theorem dJ3_checkIndex_8e157_16 : decode cJ3_checkIndex_8e157 16 = .ok (.iload_n 0, 1) := by decide +kernel
theorem dJ3_checkIndex_8e157_17 : decode cJ3_checkIndex_8e157 17 = .ok (.ireturn, 1) := by decide +kernel
end
section
theorem dX8_init_0 : decode cX8_init 0 = .ok (.aload_n 0, 1) := by decide +kernel
theorem dX8_init_1 : decode cX8_init 1 = .ok (.invokespecial 1, 3) := by decide +kernel
theorem dX8_init_4 : decode cX8_init 4 = .ok (.aload_n 0, 1) := by decide +kernel
theorem dX8_init_5 : decode cX8_init 5 = .ok (.bipush 93, 2) := by decide +kernel
theorem dX8_init_7 : decode cX8_init 7 = .ok (.newarray .int, 2) := by decide +kernel
theorem dX8_init_9 : decode cX8_init 9 = .ok (.putfield 9, 3) := by decide +kernel
theorem dX8_init_12 : decode cX8_init 12 = .ok (.aload_n 0, 1) := by decide +kernel
theorem dX8_init_13 : decode cX8_init 13 = .ok (.bipush 93, 2) := by decide +kernel
theorem dX8_init_15 : decode cX8_init 15 = .ok (.newarray .int, 2) := by decide +kernel
theorem dX8_init_17 : decode cX8_init 17 = .ok (.putfield 13, 3) := by decide +kernel
theorem dX8_init_20 : decode cX8_init 20 = .ok (.aload_n 0, 1) := by decide +kernel
theorem dX8_init_21 : decode cX8_init 21 = .ok (.bipush 93, 2) := by decide +kernel
theorem dX8_init_23 : decode cX8_init 23 = .ok (.newarray .int, 2) := by decide +kernel
theorem dX8_init_25 : decode cX8_init 25 = .ok (.putfield 16, 3) := by decide +kernel
theorem dX8_init_28 : decode cX8_init 28 = .ok (.aload_n 0, 1) := by decide +kernel
theorem dX8_init_29 : decode cX8_init 29 = .ok (.bipush 7, 2) := by decide +kernel
theorem dX8_init_31 : decode cX8_init 31 = .ok (.newarray .int, 2) := by decide +kernel
theorem dX8_init_33 : decode cX8_init 33 = .ok (.putfield 19, 3) := by decide +kernel
theorem dX8_init_36 : decode cX8_init 36 = .ok (.aload_n 0, 1) := by decide +kernel
theorem dX8_init_37 : decode cX8_init 37 = .ok (.sipush 16384, 3) := by decide +kernel
theorem dX8_init_40 : decode cX8_init 40 = .ok (.newarray .boolean, 2) := by decide +kernel
theorem dX8_init_42 : decode cX8_init 42 = .ok (.putfield 22, 3) := by decide +kernel
theorem dX8_init_45 : decode cX8_init 45 = .ok (.aload_n 0, 1) := by decide +kernel
theorem dX8_init_46 : decode cX8_init 46 = .ok (.sipush 256, 3) := by decide +kernel
theorem dX8_init_49 : decode cX8_init 49 = .ok (.newarray .int, 2) := by decide +kernel
theorem dX8_init_51 : decode cX8_init 51 = .ok (.putfield 26, 3) := by decide +kernel
theorem dX8_init_54 : decode cX8_init 54 = .ok (.aload_n 0, 1) := by decide +kernel
theorem dX8_init_55 : decode cX8_init 55 = .ok (.bipush 120, 2) := by decide +kernel
theorem dX8_init_57 : decode cX8_init 57 = .ok (.newarray .int, 2) := by decide +kernel
theorem dX8_init_59 : decode cX8_init 59 = .ok (.putfield 29, 3) := by decide +kernel
theorem dX8_init_62 : decode cX8_init 62 = .ok (.aload_n 0, 1) := by decide +kernel
theorem dX8_init_63 : decode cX8_init 63 = .ok (.bipush 56, 2) := by decide +kernel
theorem dX8_init_65 : decode cX8_init 65 = .ok (.newarray .char, 2) := by decide +kernel
theorem dX8_init_67 : decode cX8_init 67 = .ok (.dup, 1) := by decide +kernel
theorem dX8_init_68 : decode cX8_init 68 = .ok (.iconst 0, 1) := by decide +kernel
theorem dX8_init_69 : decode cX8_init 69 = .ok (.bipush 101, 2) := by decide +kernel
theorem dX8_init_71 : decode cX8_init 71 = .ok (.castore, 1) := by decide +kernel
theorem dX8_init_72 : decode cX8_init 72 = .ok (.dup, 1) := by decide +kernel
theorem dX8_init_73 : decode cX8_init 73 = .ok (.iconst 1, 1) := by decide +kernel
theorem dX8_init_74 : decode cX8_init 74 = .ok (.bipush 103, 2) := by decide +kernel
theorem dX8_init_76 : decode cX8_init 76 = .ok (.castore, 1) := by decide +kernel
theorem dX8_init_77 : decode cX8_init 77 = .ok (.dup, 1) := by decide +kernel
theorem dX8_init_78 : decode cX8_init 78 = .ok (.iconst 2, 1) := by decide +kernel
theorem dX8_init_79 : decode cX8_init 79 = .ok (.bipush 103, 2) := by decide +kernel
theorem dX8_init_81 : decode cX8_init 81 = .ok (.castore, 1) := by decide +kernel
theorem dX8_init_82 : decode cX8_init 82 = .ok (.dup, 1) := by decide +kernel
theorem dX8_init_83 : decode cX8_init 83 = .ok (.iconst 3, 1) := by decide +kernel
theorem dX8_init_84 : decode cX8_init 84 = .ok (.bipush 32, 2) := by decide +kernel
theorem dX8_init_86 : decode cX8_init 86 = .ok (.castore, 1) := by decide +kernel
theorem dX8_init_87 : decode cX8_init 87 = .ok (.dup, 1) := by decide +kernel
theorem dX8_init_88 : decode cX8_init 88 = .ok (.iconst 4, 1) := by decide +kernel
theorem dX8_init_89 : decode cX8_init 89 = .ok (.bipush 32, 2) := by decide +kernel
theorem dX8_init_91 : decode cX8_init 91 = .ok (.castore, 1) := by decide +kernel
theorem dX8_init_92 : decode cX8_init 92 = .ok (.dup, 1) := by decide +kernel
theorem dX8_init_93 : decode cX8_init 93 = .ok (.iconst 5, 1) := by decide +kernel
theorem dX8_init_94 : decode cX8_init 94 = .ok (.bipush 32, 2) := by decide +kernel
theorem dX8_init_96 : decode cX8_init 96 = .ok (.castore, 1) := by decide +kernel
theorem dX8_init_97 : decode cX8_init 97 = .ok (.dup, 1) := by decide +kernel
theorem dX8_init_98 : decode cX8_init 98 = .ok (.bipush 6, 2) := by decide +kernel
theorem dX8_init_100 : decode cX8_init 100 = .ok (.bipush 32, 2) := by decide +kernel
theorem dX8_init_102 : decode cX8_init 102 = .ok (.castore, 1) := by decide +kernel
theorem dX8_init_103 : decode cX8_init 103 = .ok (.dup, 1) := by decide +kernel
theorem dX8_init_104 : decode cX8_init 104 = .ok (.bipush 7, 2) := by decide +kernel
theorem dX8_init_106 : decode cX8_init 106 = .ok (.bipush 32, 2) := by decide +kernel
theorem dX8_init_108 : decode cX8_init 108 = .ok (.castore, 1) := by decide +kernel
theorem dX8_init_109 : decode cX8_init 109 = .ok (.dup, 1) := by decide +kernel
theorem dX8_init_110 : decode cX8_init 110 = .ok (.bipush 8, 2) := by decide +kernel
theorem dX8_init_112 : decode cX8_init 112 = .ok (.bipush 108, 2) := by decide +kernel
theorem dX8_init_114 : decode cX8_init 114 = .ok (.castore, 1) := by decide +kernel
theorem dX8_init_115 : decode cX8_init 115 = .ok (.dup, 1) := by decide +kernel
theorem dX8_init_116 : decode cX8_init 116 = .ok (.bipush 9, 2) := by decide +kernel
theorem dX8_init_118 : decode cX8_init 118 = .ok (.bipush 101, 2) := by decide +kernel
theorem dX8_init_120 : decode cX8_init 120 = .ok (.castore, 1) := by decide +kernel
theorem dX8_init_121 : decode cX8_init 121 = .ok (.dup, 1) := by decide +kernel
theorem dX8_init_122 : decode cX8_init 122 = .ok (.bipush 10, 2) := by decide +kernel
theorem dX8_init_124 : decode cX8_init 124 = .ok (.bipush 97, 2) := by decide +kernel
theorem dX8_init_126 : decode cX8_init 126 = .ok (.castore, 1) := by decide +kernel
theorem dX8_init_127 : decode cX8_init 127 = .ok (.dup, 1) := by decide +kernel
theorem dX8_init_128 : decode cX8_init 128 = .ok (.bipush 11, 2) := by decide +kernel
theorem dX8_init_130 : decode cX8_init 130 = .ok (.bipush 112, 2) := by decide +kernel
theorem dX8_init_132 : decode cX8_init 132 = .ok (.castore, 1) := by decide +kernel
theorem dX8_init_133 : decode cX8_init 133 = .ok (.dup, 1) := by decide +kernel
theorem dX8_init_134 : decode cX8_init 134 = .ok (.bipush 12, 2) := by decide +kernel
theorem dX8_init_136 : decode cX8_init 136 = .ok (.bipush 32, 2) := by decide +kernel
theorem dX8_init_138 : decode cX8_init 138 = .ok (.castore, 1) := by decide +kernel
theorem dX8_init_139 : decode cX8_init 139 = .ok (.dup, 1) := by decide +kernel
theorem dX8_init_140 : decode cX8_init 140 = .ok (.bipush 13, 2) := by decide +kernel
theorem dX8_init_142 : decode cX8_init 142 = .ok (.bipush 32, 2) := by decide +kernel
theorem dX8_init_144 : decode cX8_init 144 = .ok (.castore, 1) := by decide +kernel
theorem dX8_init_145 : decode cX8_init 145 = .ok (.dup, 1) := by decide +kernel
theorem dX8_init_146 : decode cX8_init 146 = .ok (.bipush 14, 2) := by decide +kernel
theorem dX8_init_148 : decode cX8_init 148 = .ok (.bipush 32, 2) := by decide +kernel
theorem dX8_init_150 : decode cX8_init 150 = .ok (.castore, 1) := by decide +kernel
theorem dX8_init_151 : decode cX8_init 151 = .ok (.dup, 1) := by decide +kernel
theorem dX8_init_152 : decode cX8_init 152 = .ok (.bipush 15, 2) := by decide +kernel
theorem dX8_init_154 : decode cX8_init 154 = .ok (.bipush 32, 2) := by decide +kernel
theorem dX8_init_156 : decode cX8_init 156 = .ok (.castore, 1) := by decide +kernel
theorem dX8_init_157 : decode cX8_init 157 = .ok (.dup, 1) := by decide +kernel
theorem dX8_init_158 : decode cX8_init 158 = .ok (.bipush 16, 2) := by decide +kernel
theorem dX8_init_160 : decode cX8_init 160 = .ok (.bipush 119, 2) := by decide +kernel
theorem dX8_init_162 : decode cX8_init 162 = .ok (.castore, 1) := by decide +kernel
theorem dX8_init_163 : decode cX8_init 163 = .ok (.dup, 1) := by decide +kernel
theorem dX8_init_164 : decode cX8_init 164 = .ok (.bipush 17, 2) := by decide +kernel
theorem dX8_init_166 : decode cX8_init 166 = .ok (.bipush 97, 2) := by decide +kernel
theorem dX8_init_168 : decode cX8_init 168 = .ok (.castore, 1) := by decide +kernel
theorem dX8_init_169 : decode cX8_init 169 = .ok (.dup, 1) := by decide +kernel
theorem dX8_init_170 : decode cX8_init 170 = .ok (.bipush 18, 2) := by decide +kernel
theorem dX8_init_172 : decode cX8_init 172 = .ok (.bipush 114, 2) := by decide +kernel
theorem dX8_init_174 : decode cX8_init 174 = .ok (.castore, 1) := by decide +kernel
theorem dX8_init_175 : decode cX8_init 175 = .ok (.dup, 1) := by decide +kernel
theorem dX8_init_176 : decode cX8_init 176 = .ok (.bipush 19, 2) := by decide +kernel
theorem dX8_init_178 : decode cX8_init 178 = .ok (.bipush 109, 2) := by decide +kernel
theorem dX8_init_180 : decode cX8_init 180 = .ok (.castore, 1) := by decide +kernel
theorem dX8_init_181 : decode cX8_init 181 = .ok (.dup, 1) := by decide +kernel
theorem dX8_init_182 : decode cX8_init 182 = .ok (.bipush 20, 2) := by decide +kernel
theorem dX8_init_184 : decode cX8_init 184 = .ok (.bipush 32, 2) := by decide +kernel
theorem dX8_init_186 : decode cX8_init 186 = .ok (.castore, 1) := by decide +kernel
theorem dX8_init_187 : decode cX8_init 187 = .ok (.dup, 1) := by decide +kernel
theorem dX8_init_188 : decode cX8_init 188 = .ok (.bipush 21, 2) := by decide +kernel
theorem dX8_init_190 : decode cX8_init 190 = .ok (.bipush 32, 2) := by decide +kernel
theorem dX8_init_192 : decode cX8_init 192 = .ok (.castore, 1) := by decide +kernel
theorem dX8_init_193 : decode cX8_init 193 = .ok (.dup, 1) := by decide +kernel
theorem dX8_init_194 : decode cX8_init 194 = .ok (.bipush 22, 2) := by decide +kernel
theorem dX8_init_196 : decode cX8_init 196 = .ok (.bipush 32, 2) := by decide +kernel
theorem dX8_init_198 : decode cX8_init 198 = .ok (.castore, 1) := by decide +kernel
theorem dX8_init_199 : decode cX8_init 199 = .ok (.dup, 1) := by decide +kernel
theorem dX8_init_200 : decode cX8_init 200 = .ok (.bipush 23, 2) := by decide +kernel
theorem dX8_init_202 : decode cX8_init 202 = .ok (.bipush 32, 2) := by decide +kernel
theorem dX8_init_204 : decode cX8_init 204 = .ok (.castore, 1) := by decide +kernel
theorem dX8_init_205 : decode cX8_init 205 = .ok (.dup, 1) := by decide +kernel
theorem dX8_init_206 : decode cX8_init 206 = .ok (.bipush 24, 2) := by decide +kernel
theorem dX8_init_208 : decode cX8_init 208 = .ok (.bipush 98, 2) := by decide +kernel
theorem dX8_init_210 : decode cX8_init 210 = .ok (.castore, 1) := by decide +kernel
theorem dX8_init_211 : decode cX8_init 211 = .ok (.dup, 1) := by decide +kernel
theorem dX8_init_212 : decode cX8_init 212 = .ok (.bipush 25, 2) := by decide +kernel
theorem dX8_init_214 : decode cX8_init 214 = .ok (.bipush 111, 2) := by decide +kernel
theorem dX8_init_216 : decode cX8_init 216 = .ok (.castore, 1) := by decide +kernel
theorem dX8_init_217 : decode cX8_init 217 = .ok (.dup, 1) := by decide +kernel
theorem dX8_init_218 : decode cX8_init 218 = .ok (.bipush 26, 2) := by decide +kernel
theorem dX8_init_220 : decode cX8_init 220 = .ok (.bipush 114, 2) := by decide +kernel
theorem dX8_init_222 : decode cX8_init 222 = .ok (.castore, 1) := by decide +kernel
theorem dX8_init_223 : decode cX8_init 223 = .ok (.dup, 1) := by decide +kernel
theorem dX8_init_224 : decode cX8_init 224 = .ok (.bipush 27, 2) := by decide +kernel
theorem dX8_init_226 : decode cX8_init 226 = .ok (.bipush 114, 2) := by decide +kernel
theorem dX8_init_228 : decode cX8_init 228 = .ok (.castore, 1) := by decide +kernel
theorem dX8_init_229 : decode cX8_init 229 = .ok (.dup, 1) := by decide +kernel
theorem dX8_init_230 : decode cX8_init 230 = .ok (.bipush 28, 2) := by decide +kernel
theorem dX8_init_232 : decode cX8_init 232 = .ok (.bipush 111, 2) := by decide +kernel
theorem dX8_init_234 : decode cX8_init 234 = .ok (.castore, 1) := by decide +kernel
theorem dX8_init_235 : decode cX8_init 235 = .ok (.dup, 1) := by decide +kernel
theorem dX8_init_236 : decode cX8_init 236 = .ok (.bipush 29, 2) := by decide +kernel
theorem dX8_init_238 : decode cX8_init 238 = .ok (.bipush 119, 2) := by decide +kernel
theorem dX8_init_240 : decode cX8_init 240 = .ok (.castore, 1) := by decide +kernel
theorem dX8_init_241 : decode cX8_init 241 = .ok (.dup, 1) := by decide +kernel
theorem dX8_init_242 : decode cX8_init 242 = .ok (.bipush 30, 2) := by decide +kernel
theorem dX8_init_244 : decode cX8_init 244 = .ok (.bipush 101, 2) := by decide +kernel
theorem dX8_init_246 : decode cX8_init 246 = .ok (.castore, 1) := by decide +kernel
theorem dX8_init_247 : decode cX8_init 247 = .ok (.dup, 1) := by decide +kernel
theorem dX8_init_248 : decode cX8_init 248 = .ok (.bipush 31, 2) := by decide +kernel
theorem dX8_init_250 : decode cX8_init 250 = .ok (.bipush 100, 2) := by decide +kernel
theorem dX8_init_252 : decode cX8_init 252 = .ok (.castore, 1) := by decide +kernel
theorem dX8_init_253 : decode cX8_init 253 = .ok (.dup, 1) := by decide +kernel
theorem dX8_init_254 : decode cX8_init 254 = .ok (.bipush 32, 2) := by decide +kernel
theorem dX8_init_256 : decode cX8_init 256 = .ok (.bipush 114, 2) := by decide +kernel
theorem dX8_init_258 : decode cX8_init 258 = .ok (.castore, 1) := by decide +kernel
theorem dX8_init_259 : decode cX8_init 259 = .ok (.dup, 1) := by decide +kernel
theorem dX8_init_260 : decode cX8_init 260 = .ok (.bipush 33, 2) := by decide +kernel
theorem dX8_init_262 : decode cX8_init 262 = .ok (.bipush 111, 2) := by decide +kernel
theorem dX8_init_264 : decode cX8_init 264 = .ok (.castore, 1) := by decide +kernel
theorem dX8_init_265 : decode cX8_init 265 = .ok (.dup, 1) := by decide +kernel
theorem dX8_init_266 : decode cX8_init 266 = .ok (.bipush 34, 2) := by decide +kernel
theorem dX8_init_268 : decode cX8_init 268 = .ok (.bipush 116, 2) := by decide +kernel
theorem dX8_init_270 : decode cX8_init 270 = .ok (.castore, 1) := by decide +kernel
theorem dX8_init_271 : decode cX8_init 271 = .ok (.dup, 1) := by decide +kernel
theorem dX8_init_272 : decode cX8_init 272 = .ok (.bipush 35, 2) := by decide +kernel
theorem dX8_init_274 : decode cX8_init 274 = .ok (.bipush 116, 2) := by decide +kernel
theorem dX8_init_276 : decode cX8_init 276 = .ok (.castore, 1) := by decide +kernel
theorem dX8_init_277 : decode cX8_init 277 = .ok (.dup, 1) := by decide +kernel
theorem dX8_init_278 : decode cX8_init 278 = .ok (.bipush 36, 2) := by decide +kernel
theorem dX8_init_280 : decode cX8_init 280 = .ok (.bipush 101, 2) := by decide +kernel
theorem dX8_init_282 : decode cX8_init 282 = .ok (.castore, 1) := by decide +kernel
theorem dX8_init_283 : decode cX8_init 283 = .ok (.dup, 1) := by decide +kernel
theorem dX8_init_284 : decode cX8_init 284 = .ok (.bipush 37, 2) := by decide +kernel
theorem dX8_init_286 : decode cX8_init 286 = .ok (.bipush 110, 2) := by decide +kernel
theorem dX8_init_288 : decode cX8_init 288 = .ok (.castore, 1) := by decide +kernel
theorem dX8_init_289 : decode cX8_init 289 = .ok (.dup, 1) := by decide +kernel
theorem dX8_init_290 : decode cX8_init 290 = .ok (.bipush 38, 2) := by decide +kernel
theorem dX8_init_292 : decode cX8_init 292 = .ok (.bipush 32, 2) := by decide +kernel
theorem dX8_init_294 : decode cX8_init 294 = .ok (.castore, 1) := by decide +kernel
theorem dX8_init_295 : decode cX8_init 295 = .ok (.dup, 1) := by decide +kernel
theorem dX8_init_296 : decode cX8_init 296 = .ok (.bipush 39, 2) := by decide +kernel
theorem dX8_init_298 : decode cX8_init 298 = .ok (.bipush 32, 2) := by decide +kernel
theorem dX8_init_300 : decode cX8_init 300 = .ok (.castore, 1) := by decide +kernel
theorem dX8_init_301 : decode cX8_init 301 = .ok (.dup, 1) := by decide +kernel
theorem dX8_init_302 : decode cX8_init 302 = .ok (.bipush 40, 2) := by decide +kernel
theorem dX8_init_304 : decode cX8_init 304 = .ok (.bipush 119, 2) := by decide +kernel
theorem dX8_init_306 : decode cX8_init 306 = .ok (.castore, 1) := by decide +kernel
theorem dX8_init_307 : decode cX8_init 307 = .ok (.dup, 1) := by decide +kernel
theorem dX8_init_308 : decode cX8_init 308 = .ok (.bipush 41, 2) := by decide +kernel
theorem dX8_init_310 : decode cX8_init 310 = .ok (.bipush 105, 2) := by decide +kernel
theorem dX8_init_312 : decode cX8_init 312 = .ok (.castore, 1) := by decide +kernel
theorem dX8_init_313 : decode cX8_init 313 = .ok (.dup, 1) := by decide +kernel
theorem dX8_init_314 : decode cX8_init 314 = .ok (.bipush 42, 2) := by decide +kernel
theorem dX8_init_316 : decode cX8_init 316 = .ok (.bipush 110, 2) := by decide +kernel
theorem dX8_init_318 : decode cX8_init 318 = .ok (.castore, 1) := by decide +kernel
theorem dX8_init_319 : decode cX8_init 319 = .ok (.dup, 1) := by decide +kernel
theorem dX8_init_320 : decode cX8_init 320 = .ok (.bipush 43, 2) := by decide +kernel
theorem dX8_init_322 : decode cX8_init 322 = .ok (.bipush 100, 2) := by decide +kernel
theorem dX8_init_324 : decode cX8_init 324 = .ok (.castore, 1) := by decide +kernel
theorem dX8_init_325 : decode cX8_init 325 = .ok (.dup, 1) := by decide +kernel
theorem dX8_init_326 : decode cX8_init 326 = .ok (.bipush 44, 2) := by decide +kernel
theorem dX8_init_328 : decode cX8_init 328 = .ok (.bipush 32, 2) := by decide +kernel
theorem dX8_init_330 : decode cX8_init 330 = .ok (.castore, 1) := by decide +kernel
theorem dX8_init_331 : decode cX8_init 331 = .ok (.dup, 1) := by decide +kernel
theorem dX8_init_332 : decode cX8_init 332 = .ok (.bipush 45, 2) := by decide +kernel
theorem dX8_init_334 : decode cX8_init 334 = .ok (.bipush 32, 2) := by decide +kernel
theorem dX8_init_336 : decode cX8_init 336 = .ok (.castore, 1) := by decide +kernel
theorem dX8_init_337 : decode cX8_init 337 = .ok (.dup, 1) := by decide +kernel
theorem dX8_init_338 : decode cX8_init 338 = .ok (.bipush 46, 2) := by decide +kernel
theorem dX8_init_340 : decode cX8_init 340 = .ok (.bipush 32, 2) := by decide +kernel
theorem dX8_init_342 : decode cX8_init 342 = .ok (.castore, 1) := by decide +kernel
theorem dX8_init_343 : decode cX8_init 343 = .ok (.dup, 1) := by decide +kernel
theorem dX8_init_344 : decode cX8_init 344 = .ok (.bipush 47, 2) := by decide +kernel
theorem dX8_init_346 : decode cX8_init 346 = .ok (.bipush 32, 2) := by decide +kernel
theorem dX8_init_348 : decode cX8_init 348 = .ok (.castore, 1) := by decide +kernel
theorem dX8_init_349 : decode cX8_init 349 = .ok (.dup, 1) := by decide +kernel
theorem dX8_init_350 : decode cX8_init 350 = .ok (.bipush 48, 2) := by decide +kernel
theorem dX8_init_352 : decode cX8_init 352 = .ok (.bipush 100, 2) := by decide +kernel
theorem dX8_init_354 : decode cX8_init 354 = .ok (.castore, 1) := by decide +kernel
theorem dX8_init_355 : decode cX8_init 355 = .ok (.dup, 1) := by decide +kernel
theorem dX8_init_356 : decode cX8_init 356 = .ok (.bipush 49, 2) := by decide +kernel
theorem dX8_init_358 : decode cX8_init 358 = .ok (.bipush 111, 2) := by decide +kernel
theorem dX8_init_360 : decode cX8_init 360 = .ok (.castore, 1) := by decide +kernel
theorem dX8_init_361 : decode cX8_init 361 = .ok (.dup, 1) := by decide +kernel
theorem dX8_init_362 : decode cX8_init 362 = .ok (.bipush 50, 2) := by decide +kernel
theorem dX8_init_364 : decode cX8_init 364 = .ok (.bipush 117, 2) := by decide +kernel
theorem dX8_init_366 : decode cX8_init 366 = .ok (.castore, 1) := by decide +kernel
theorem dX8_init_367 : decode cX8_init 367 = .ok (.dup, 1) := by decide +kernel
theorem dX8_init_368 : decode cX8_init 368 = .ok (.bipush 51, 2) := by decide +kernel
theorem dX8_init_370 : decode cX8_init 370 = .ok (.bipush 98, 2) := by decide +kernel
theorem dX8_init_372 : decode cX8_init 372 = .ok (.castore, 1) := by decide +kernel
theorem dX8_init_373 : decode cX8_init 373 = .ok (.dup, 1) := by decide +kernel
theorem dX8_init_374 : decode cX8_init 374 = .ok (.bipush 52, 2) := by decide +kernel
theorem dX8_init_376 : decode cX8_init 376 = .ok (.bipush 108, 2) := by decide +kernel
theorem dX8_init_378 : decode cX8_init 378 = .ok (.castore, 1) := by decide +kernel
theorem dX8_init_379 : decode cX8_init 379 = .ok (.dup, 1) := by decide +kernel
theorem dX8_init_380 : decode cX8_init 380 = .ok (.bipush 53, 2) := by decide +kernel
theorem dX8_init_382 : decode cX8_init 382 = .ok (.bipush 101, 2) := by decide +kernel
theorem dX8_init_384 : decode cX8_init 384 = .ok (.castore, 1) := by decide +kernel
theorem dX8_init_385 : decode cX8_init 385 = .ok (.dup, 1) := by decide +kernel
theorem dX8_init_386 : decode cX8_init 386 = .ok (.bipush 54, 2) := by decide +kernel
theorem dX8_init_388 : decode cX8_init 388 = .ok (.bipush 32, 2) := by decide +kernel
theorem dX8_init_390 : decode cX8_init 390 = .ok (.castore, 1) := by decide +kernel
theorem dX8_init_391 : decode cX8_init 391 = .ok (.dup, 1) := by decide +kernel
theorem dX8_init_392 : decode cX8_init 392 = .ok (.bipush 55, 2) := by decide +kernel
theorem dX8_init_394 : decode cX8_init 394 = .ok (.bipush 32, 2) := by decide +kernel
theorem dX8_init_396 : decode cX8_init 396 = .ok (.castore, 1) := by decide +kernel
theorem dX8_init_397 : decode cX8_init 397 = .ok (.putfield 32, 3) := by decide +kernel
theorem dX8_init_400 : decode cX8_init 400 = .ok (.aload_n 0, 1) := by decide +kernel
theorem dX8_init_401 : decode cX8_init 401 = .ok (.bipush 16, 2) := by decide +kernel
theorem dX8_init_403 : decode cX8_init 403 = .ok (.newarray .char, 2) := by decide +kernel
theorem dX8_init_405 : decode cX8_init 405 = .ok (.dup, 1) := by decide +kernel
theorem dX8_init_406 : decode cX8_init 406 = .ok (.iconst 0, 1) := by decide +kernel
theorem dX8_init_407 : decode cX8_init 407 = .ok (.bipush 97, 2) := by decide +kernel
theorem dX8_init_409 : decode cX8_init 409 = .ok (.castore, 1) := by decide +kernel
theorem dX8_init_410 : decode cX8_init 410 = .ok (.dup, 1) := by decide +kernel
theorem dX8_init_411 : decode cX8_init 411 = .ok (.iconst 1, 1) := by decide +kernel
theorem dX8_init_412 : decode cX8_init 412 = .ok (.bipush 103, 2) := by decide +kernel
theorem dX8_init_414 : decode cX8_init 414 = .ok (.castore, 1) := by decide +kernel
theorem dX8_init_415 : decode cX8_init 415 = .ok (.dup, 1) := by decide +kernel
theorem dX8_init_416 : decode cX8_init 416 = .ok (.iconst 2, 1) := by decide +kernel
theorem dX8_init_417 : decode cX8_init 417 = .ok (.bipush 101, 2) := by decide +kernel
theorem dX8_init_419 : decode cX8_init 419 = .ok (.castore, 1) := by decide +kernel
theorem dX8_init_420 : decode cX8_init 420 = .ok (.dup, 1) := by decide +kernel
theorem dX8_init_421 : decode cX8_init 421 = .ok (.iconst 3, 1) := by decide +kernel
theorem dX8_init_422 : decode cX8_init 422 = .ok (.bipush 100, 2) := by decide +kernel
theorem dX8_init_424 : decode cX8_init 424 = .ok (.castore, 1) := by decide +kernel
theorem dX8_init_425 : decode cX8_init 425 = .ok (.dup, 1) := by decide +kernel
theorem dX8_init_426 : decode cX8_init 426 = .ok (.iconst 4, 1) := by decide +kernel
theorem dX8_init_427 : decode cX8_init 427 = .ok (.bipush 32, 2) := by decide +kernel
theorem dX8_init_429 : decode cX8_init 429 = .ok (.castore, 1) := by decide +kernel
theorem dX8_init_430 : decode cX8_init 430 = .ok (.dup, 1) := by decide +kernel
theorem dX8_init_431 : decode cX8_init 431 = .ok (.iconst 5, 1) := by decide +kernel
theorem dX8_init_432 : decode cX8_init 432 = .ok (.bipush 32, 2) := by decide +kernel
theorem dX8_init_434 : decode cX8_init 434 = .ok (.castore, 1) := by decide +kernel
theorem dX8_init_435 : decode cX8_init 435 = .ok (.dup, 1) := by decide +kernel
theorem dX8_init_436 : decode cX8_init 436 = .ok (.bipush 6, 2) := by decide +kernel
theorem dX8_init_438 : decode cX8_init 438 = .ok (.bipush 32, 2) := by decide +kernel
theorem dX8_init_440 : decode cX8_init 440 = .ok (.castore, 1) := by decide +kernel
theorem dX8_init_441 : decode cX8_init 441 = .ok (.dup, 1) := by decide +kernel
theorem dX8_init_442 : decode cX8_init 442 = .ok (.bipush 7, 2) := by decide +kernel
theorem dX8_init_444 : decode cX8_init 444 = .ok (.bipush 32, 2) := by decide +kernel
theorem dX8_init_446 : decode cX8_init 446 = .ok (.castore, 1) := by decide +kernel
theorem dX8_init_447 : decode cX8_init 447 = .ok (.dup, 1) := by decide +kernel
theorem dX8_init_448 : decode cX8_init 448 = .ok (.bipush 8, 2) := by decide +kernel
theorem dX8_init_450 : decode cX8_init 450 = .ok (.bipush 105, 2) := by decide +kernel
theorem dX8_init_452 : decode cX8_init 452 = .ok (.castore, 1) := by decide +kernel
theorem dX8_init_453 : decode cX8_init 453 = .ok (.dup, 1) := by decide +kernel
theorem dX8_init_454 : decode cX8_init 454 = .ok (.bipush 9, 2) := by decide +kernel
theorem dX8_init_456 : decode cX8_init 456 = .ok (.bipush 110, 2) := by decide +kernel
theorem dX8_init_458 : decode cX8_init 458 = .ok (.castore, 1) := by decide +kernel
theorem dX8_init_459 : decode cX8_init 459 = .ok (.dup, 1) := by decide +kernel
theorem dX8_init_460 : decode cX8_init 460 = .ok (.bipush 10, 2) := by decide +kernel
theorem dX8_init_462 : decode cX8_init 462 = .ok (.bipush 32, 2) := by decide +kernel
theorem dX8_init_464 : decode cX8_init 464 = .ok (.castore, 1) := by decide +kernel
theorem dX8_init_465 : decode cX8_init 465 = .ok (.dup, 1) := by decide +kernel
theorem dX8_init_466 : decode cX8_init 466 = .ok (.bipush 11, 2) := by decide +kernel
theorem dX8_init_468 : decode cX8_init 468 = .ok (.bipush 32, 2) := by decide +kernel
theorem dX8_init_470 : decode cX8_init 470 = .ok (.castore, 1) := by decide +kernel
theorem dX8_init_471 : decode cX8_init 471 = .ok (.dup, 1) := by decide +kernel
theorem dX8_init_472 : decode cX8_init 472 = .ok (.bipush 12, 2) := by decide +kernel
theorem dX8_init_474 : decode cX8_init 474 = .ok (.bipush 32, 2) := by decide +kernel
theorem dX8_init_476 : decode cX8_init 476 = .ok (.castore, 1) := by decide +kernel
theorem dX8_init_477 : decode cX8_init 477 = .ok (.dup, 1) := by decide +kernel
theorem dX8_init_478 : decode cX8_init 478 = .ok (.bipush 13, 2) := by decide +kernel
theorem dX8_init_480 : decode cX8_init 480 = .ok (.bipush 32, 2) := by decide +kernel
theorem dX8_init_482 : decode cX8_init 482 = .ok (.castore, 1) := by decide +kernel
theorem dX8_init_483 : decode cX8_init 483 = .ok (.dup, 1) := by decide +kernel
theorem dX8_init_484 : decode cX8_init 484 = .ok (.bipush 14, 2) := by decide +kernel
theorem dX8_init_486 : decode cX8_init 486 = .ok (.bipush 32, 2) := by decide +kernel
theorem dX8_init_488 : decode cX8_init 488 = .ok (.castore, 1) := by decide +kernel
theorem dX8_init_489 : decode cX8_init 489 = .ok (.dup, 1) := by decide +kernel
theorem dX8_init_490 : decode cX8_init 490 = .ok (.bipush 15, 2) := by decide +kernel
theorem dX8_init_492 : decode cX8_init 492 = .ok (.bipush 32, 2) := by decide +kernel
theorem dX8_init_494 : decode cX8_init 494 = .ok (.castore, 1) := by decide +kernel
theorem dX8_init_495 : decode cX8_init 495 = .ok (.putfield 36, 3) := by decide +kernel
theorem dX8_init_498 : decode cX8_init 498 = .ok (.aload_n 0, 1) := by decide +kernel
theorem dX8_init_499 : decode cX8_init 499 = .ok (.bipush 16, 2) := by decide +kernel
theorem dX8_init_501 : decode cX8_init 501 = .ok (.newarray .char, 2) := by decide +kernel
theorem dX8_init_503 : decode cX8_init 503 = .ok (.dup, 1) := by decide +kernel
theorem dX8_init_504 : decode cX8_init 504 = .ok (.iconst 0, 1) := by decide +kernel
theorem dX8_init_505 : decode cX8_init 505 = .ok (.bipush 100, 2) := by decide +kernel
theorem dX8_init_507 : decode cX8_init 507 = .ok (.castore, 1) := by decide +kernel
theorem dX8_init_508 : decode cX8_init 508 = .ok (.dup, 1) := by decide +kernel
theorem dX8_init_509 : decode cX8_init 509 = .ok (.iconst 1, 1) := by decide +kernel
theorem dX8_init_510 : decode cX8_init 510 = .ok (.bipush 117, 2) := by decide +kernel
theorem dX8_init_512 : decode cX8_init 512 = .ok (.castore, 1) := by decide +kernel
theorem dX8_init_513 : decode cX8_init 513 = .ok (.dup, 1) := by decide +kernel
theorem dX8_init_514 : decode cX8_init 514 = .ok (.iconst 2, 1) := by decide +kernel
theorem dX8_init_515 : decode cX8_init 515 = .ok (.bipush 101, 2) := by decide +kernel
theorem dX8_init_517 : decode cX8_init 517 = .ok (.castore, 1) := by decide +kernel
theorem dX8_init_518 : decode cX8_init 518 = .ok (.dup, 1) := by decide +kernel
theorem dX8_init_519 : decode cX8_init 519 = .ok (.iconst 3, 1) := by decide +kernel
theorem dX8_init_520 : decode cX8_init 520 = .ok (.bipush 32, 2) := by decide +kernel
theorem dX8_init_522 : decode cX8_init 522 = .ok (.castore, 1) := by decide +kernel
theorem dX8_init_523 : decode cX8_init 523 = .ok (.dup, 1) := by decide +kernel
theorem dX8_init_524 : decode cX8_init 524 = .ok (.iconst 4, 1) := by decide +kernel
theorem dX8_init_525 : decode cX8_init 525 = .ok (.bipush 32, 2) := by decide +kernel
theorem dX8_init_527 : decode cX8_init 527 = .ok (.castore, 1) := by decide +kernel
theorem dX8_init_528 : decode cX8_init 528 = .ok (.dup, 1) := by decide +kernel
theorem dX8_init_529 : decode cX8_init 529 = .ok (.iconst 5, 1) := by decide +kernel
theorem dX8_init_530 : decode cX8_init 530 = .ok (.bipush 32, 2) := by decide +kernel
theorem dX8_init_532 : decode cX8_init 532 = .ok (.castore, 1) := by decide +kernel
theorem dX8_init_533 : decode cX8_init 533 = .ok (.dup, 1) := by decide +kernel
theorem dX8_init_534 : decode cX8_init 534 = .ok (.bipush 6, 2) := by decide +kernel
theorem dX8_init_536 : decode cX8_init 536 = .ok (.bipush 32, 2) := by decide +kernel
theorem dX8_init_538 : decode cX8_init 538 = .ok (.castore, 1) := by decide +kernel
theorem dX8_init_539 : decode cX8_init 539 = .ok (.dup, 1) := by decide +kernel
theorem dX8_init_540 : decode cX8_init 540 = .ok (.bipush 7, 2) := by decide +kernel
theorem dX8_init_542 : decode cX8_init 542 = .ok (.bipush 32, 2) := by decide +kernel
theorem dX8_init_544 : decode cX8_init 544 = .ok (.castore, 1) := by decide +kernel
theorem dX8_init_545 : decode cX8_init 545 = .ok (.dup, 1) := by decide +kernel
theorem dX8_init_546 : decode cX8_init 546 = .ok (.bipush 8, 2) := by decide +kernel
theorem dX8_init_548 : decode cX8_init 548 = .ok (.bipush 119, 2) := by decide +kernel
theorem dX8_init_550 : decode cX8_init 550 = .ok (.castore, 1) := by decide +kernel
theorem dX8_init_551 : decode cX8_init 551 = .ok (.dup, 1) := by decide +kernel
theorem dX8_init_552 : decode cX8_init 552 = .ok (.bipush 9, 2) := by decide +kernel
theorem dX8_init_554 : decode cX8_init 554 = .ok (.bipush 111, 2) := by decide +kernel
theorem dX8_init_556 : decode cX8_init 556 = .ok (.castore, 1) := by decide +kernel
theorem dX8_init_557 : decode cX8_init 557 = .ok (.dup, 1) := by decide +kernel
theorem dX8_init_558 : decode cX8_init 558 = .ok (.bipush 10, 2) := by decide +kernel
theorem dX8_init_560 : decode cX8_init 560 = .ok (.bipush 114, 2) := by decide +kernel
theorem dX8_init_562 : decode cX8_init 562 = .ok (.castore, 1) := by decide +kernel
theorem dX8_init_563 : decode cX8_init 563 = .ok (.dup, 1) := by decide +kernel
theorem dX8_init_564 : decode cX8_init 564 = .ok (.bipush 11, 2) := by decide +kernel
theorem dX8_init_566 : decode cX8_init 566 = .ok (.bipush 116, 2) := by decide +kernel
theorem dX8_init_568 : decode cX8_init 568 = .ok (.castore, 1) := by decide +kernel
theorem dX8_init_569 : decode cX8_init 569 = .ok (.dup, 1) := by decide +kernel
theorem dX8_init_570 : decode cX8_init 570 = .ok (.bipush 12, 2) := by decide +kernel
theorem dX8_init_572 : decode cX8_init 572 = .ok (.bipush 104, 2) := by decide +kernel
theorem dX8_init_574 : decode cX8_init 574 = .ok (.castore, 1) := by decide +kernel
theorem dX8_init_575 : decode cX8_init 575 = .ok (.dup, 1) := by decide +kernel
theorem dX8_init_576 : decode cX8_init 576 = .ok (.bipush 13, 2) := by decide +kernel
theorem dX8_init_578 : decode cX8_init 578 = .ok (.bipush 32, 2) := by decide +kernel
theorem dX8_init_580 : decode cX8_init 580 = .ok (.castore, 1) := by decide +kernel
theorem dX8_init_581 : decode cX8_init 581 = .ok (.dup, 1) := by decide +kernel
theorem dX8_init_582 : decode cX8_init 582 = .ok (.bipush 14, 2) := by decide +kernel
theorem dX8_init_584 : decode cX8_init 584 = .ok (.bipush 32, 2) := by decide +kernel
theorem dX8_init_586 : decode cX8_init 586 = .ok (.castore, 1) := by decide +kernel
theorem dX8_init_587 : decode cX8_init 587 = .ok (.dup, 1) := by decide +kernel
theorem dX8_init_588 : decode cX8_init 588 = .ok (.bipush 15, 2) := by decide +kernel
theorem dX8_init_590 : decode cX8_init 590 = .ok (.bipush 32, 2) := by decide +kernel
theorem dX8_init_592 : decode cX8_init 592 = .ok (.castore, 1) := by decide +kernel
theorem dX8_init_593 : decode cX8_init 593 = .ok (.putfield 39, 3) := by decide +kernel
theorem dX8_init_596 : decode cX8_init 596 = .ok (.aload_n 0, 1) := by decide +kernel
theorem dX8_init_597 : decode cX8_init 597 = .ok (.bipush 16, 2) := by decide +kernel
theorem dX8_init_599 : decode cX8_init 599 = .ok (.newarray .char, 2) := by decide +kernel
theorem dX8_init_601 : decode cX8_init 601 = .ok (.dup, 1) := by decide +kernel
theorem dX8_init_602 : decode cX8_init 602 = .ok (.iconst 0, 1) := by decide +kernel
theorem dX8_init_603 : decode cX8_init 603 = .ok (.bipush 104, 2) := by decide +kernel
theorem dX8_init_605 : decode cX8_init 605 = .ok (.castore, 1) := by decide +kernel
theorem dX8_init_606 : decode cX8_init 606 = .ok (.dup, 1) := by decide +kernel
theorem dX8_init_607 : decode cX8_init 607 = .ok (.iconst 1, 1) := by decide +kernel
theorem dX8_init_608 : decode cX8_init 608 = .ok (.bipush 101, 2) := by decide +kernel
theorem dX8_init_610 : decode cX8_init 610 = .ok (.castore, 1) := by decide +kernel
theorem dX8_init_611 : decode cX8_init 611 = .ok (.dup, 1) := by decide +kernel
theorem dX8_init_612 : decode cX8_init 612 = .ok (.iconst 2, 1) := by decide +kernel
theorem dX8_init_613 : decode cX8_init 613 = .ok (.bipush 110, 2) := by decide +kernel
theorem dX8_init_615 : decode cX8_init 615 = .ok (.castore, 1) := by decide +kernel
theorem dX8_init_616 : decode cX8_init 616 = .ok (.dup, 1) := by decide +kernel
theorem dX8_init_617 : decode cX8_init 617 = .ok (.iconst 3, 1) := by decide +kernel
theorem dX8_init_618 : decode cX8_init 618 = .ok (.bipush 32, 2) := by decide +kernel
theorem dX8_init_620 : decode cX8_init 620 = .ok (.castore, 1) := by decide +kernel
theorem dX8_init_621 : decode cX8_init 621 = .ok (.dup, 1) := by decide +kernel
theorem dX8_init_622 : decode cX8_init 622 = .ok (.iconst 4, 1) := by decide +kernel
theorem dX8_init_623 : decode cX8_init 623 = .ok (.bipush 32, 2) := by decide +kernel
theorem dX8_init_625 : decode cX8_init 625 = .ok (.castore, 1) := by decide +kernel
theorem dX8_init_626 : decode cX8_init 626 = .ok (.dup, 1) := by decide +kernel
theorem dX8_init_627 : decode cX8_init 627 = .ok (.iconst 5, 1) := by decide +kernel
theorem dX8_init_628 : decode cX8_init 628 = .ok (.bipush 32, 2) := by decide +kernel
theorem dX8_init_630 : decode cX8_init 630 = .ok (.castore, 1) := by decide +kernel
theorem dX8_init_631 : decode cX8_init 631 = .ok (.dup, 1) := by decide +kernel
theorem dX8_init_632 : decode cX8_init 632 = .ok (.bipush 6, 2) := by decide +kernel
theorem dX8_init_634 : decode cX8_init 634 = .ok (.bipush 32, 2) := by decide +kernel
theorem dX8_init_636 : decode cX8_init 636 = .ok (.castore, 1) := by decide +kernel
theorem dX8_init_637 : decode cX8_init 637 = .ok (.dup, 1) := by decide +kernel
theorem dX8_init_638 : decode cX8_init 638 = .ok (.bipush 7, 2) := by decide +kernel
theorem dX8_init_640 : decode cX8_init 640 = .ok (.bipush 32, 2) := by decide +kernel
theorem dX8_init_642 : decode cX8_init 642 = .ok (.castore, 1) := by decide +kernel
theorem dX8_init_643 : decode cX8_init 643 = .ok (.dup, 1) := by decide +kernel
theorem dX8_init_644 : decode cX8_init 644 = .ok (.bipush 8, 2) := by decide +kernel
theorem dX8_init_646 : decode cX8_init 646 = .ok (.bipush 119, 2) := by decide +kernel
theorem dX8_init_648 : decode cX8_init 648 = .ok (.castore, 1) := by decide +kernel
theorem dX8_init_649 : decode cX8_init 649 = .ok (.dup, 1) := by decide +kernel
theorem dX8_init_650 : decode cX8_init 650 = .ok (.bipush 9, 2) := by decide +kernel
theorem dX8_init_652 : decode cX8_init 652 = .ok (.bipush 111, 2) := by decide +kernel
theorem dX8_init_654 : decode cX8_init 654 = .ok (.castore, 1) := by decide +kernel
theorem dX8_init_655 : decode cX8_init 655 = .ok (.dup, 1) := by decide +kernel
theorem dX8_init_656 : decode cX8_init 656 = .ok (.bipush 10, 2) := by decide +kernel
theorem dX8_init_658 : decode cX8_init 658 = .ok (.bipush 114, 2) := by decide +kernel
theorem dX8_init_660 : decode cX8_init 660 = .ok (.castore, 1) := by decide +kernel
theorem dX8_init_661 : decode cX8_init 661 = .ok (.dup, 1) := by decide +kernel
theorem dX8_init_662 : decode cX8_init 662 = .ok (.bipush 11, 2) := by decide +kernel
theorem dX8_init_664 : decode cX8_init 664 = .ok (.bipush 107, 2) := by decide +kernel
theorem dX8_init_666 : decode cX8_init 666 = .ok (.castore, 1) := by decide +kernel
theorem dX8_init_667 : decode cX8_init 667 = .ok (.dup, 1) := by decide +kernel
theorem dX8_init_668 : decode cX8_init 668 = .ok (.bipush 12, 2) := by decide +kernel
theorem dX8_init_670 : decode cX8_init 670 = .ok (.bipush 32, 2) := by decide +kernel
theorem dX8_init_672 : decode cX8_init 672 = .ok (.castore, 1) := by decide +kernel
theorem dX8_init_673 : decode cX8_init 673 = .ok (.dup, 1) := by decide +kernel
theorem dX8_init_674 : decode cX8_init 674 = .ok (.bipush 13, 2) := by decide +kernel
theorem dX8_init_676 : decode cX8_init 676 = .ok (.bipush 32, 2) := by decide +kernel
theorem dX8_init_678 : decode cX8_init 678 = .ok (.castore, 1) := by decide +kernel
theorem dX8_init_679 : decode cX8_init 679 = .ok (.dup, 1) := by decide +kernel
theorem dX8_init_680 : decode cX8_init 680 = .ok (.bipush 14, 2) := by decide +kernel
theorem dX8_init_682 : decode cX8_init 682 = .ok (.bipush 32, 2) := by decide +kernel
theorem dX8_init_684 : decode cX8_init 684 = .ok (.castore, 1) := by decide +kernel
theorem dX8_init_685 : decode cX8_init 685 = .ok (.dup, 1) := by decide +kernel
theorem dX8_init_686 : decode cX8_init 686 = .ok (.bipush 15, 2) := by decide +kernel
theorem dX8_init_688 : decode cX8_init 688 = .ok (.bipush 32, 2) := by decide +kernel
theorem dX8_init_690 : decode cX8_init 690 = .ok (.castore, 1) := by decide +kernel
theorem dX8_init_691 : decode cX8_init 691 = .ok (.putfield 42, 3) := by decide +kernel
theorem dX8_init_694 : decode cX8_init 694 = .ok (.aload_n 0, 1) := by decide +kernel
theorem dX8_init_695 : decode cX8_init 695 = .ok (.iconst 4, 1) := by decide +kernel
theorem dX8_init_696 : decode cX8_init 696 = .ok (.newarray .int, 2) := by decide +kernel
theorem dX8_init_698 : decode cX8_init 698 = .ok (.putfield 45, 3) := by decide +kernel
theorem dX8_init_701 : decode cX8_init 701 = .ok (.aload_n 0, 1) := by decide +kernel
theorem dX8_init_702 : decode cX8_init 702 = .ok (.iconst 4, 1) := by decide +kernel
theorem dX8_init_703 : decode cX8_init 703 = .ok (.newarray .int, 2) := by decide +kernel
theorem dX8_init_705 : decode cX8_init 705 = .ok (.putfield 48, 3) := by decide +kernel
theorem dX8_init_708 : decode cX8_init 708 = .ok (.aload_n 0, 1) := by decide +kernel
theorem dX8_init_709 : decode cX8_init 709 = .ok (.sipush 160, 3) := by decide +kernel
theorem dX8_init_712 : decode cX8_init 712 = .ok (.newarray .int, 2) := by decide +kernel
theorem dX8_init_714 : decode cX8_init 714 = .ok (.putfield 51, 3) := by decide +kernel
theorem dX8_init_717 : decode cX8_init 717 = .ok (.aload_n 0, 1) := by decide +kernel
theorem dX8_init_718 : decode cX8_init 718 = .ok (.bipush 40, 2) := by decide +kernel
theorem dX8_init_720 : decode cX8_init 720 = .ok (.newarray .int, 2) := by decide +kernel
theorem dX8_init_722 : decode cX8_init 722 = .ok (.putfield 54, 3) := by decide +kernel
theorem dX8_init_725 : decode cX8_init 725 = .ok (.aload_n 0, 1) := by decide +kernel
theorem dX8_init_726 : decode cX8_init 726 = .ok (.getfield 9, 3) := by decide +kernel
theorem dX8_init_729 : decode cX8_init 729 = .ok (.iconst 2, 1) := by decide +kernel
theorem dX8_init_730 : decode cX8_init 730 = .ok (.iconst 1, 1) := by decide +kernel
theorem dX8_init_731 : decode cX8_init 731 = .ok (.iastore, 1) := by decide +kernel
theorem dX8_init_732 : decode cX8_init 732 = .ok (.iconst 0, 1) := by decide +kernel
theorem dX8_init_733 : decode cX8_init 733 = .ok (.istore_n 1, 1) := by decide +kernel
theorem dX8_init_734 : decode cX8_init 734 = .ok (.iload_n 1, 1) := by decide +kernel
theorem dX8_init_735 : decode cX8_init 735 = .ok (.iconst 4, 1) := by decide +kernel
theorem dX8_init_736 : decode cX8_init 736 = .ok (.if_icmp .ge 38, 3) := by decide +kernel
theorem dX8_init_739 : decode cX8_init 739 = .ok (.aload_n 0, 1) := by decide +kernel
theorem dX8_init_740 : decode cX8_init 740 = .ok (.getfield 9, 3) := by decide +kernel
theorem dX8_init_743 : decode cX8_init 743 = .ok (.bipush 43, 2) := by decide +kernel
theorem dX8_init_745 : decode cX8_init 745 = .ok (.iconst 4, 1) := by decide +kernel
theorem dX8_init_746 : decode cX8_init 746 = .ok (.iload_n 1, 1) := by decide +kernel
theorem dX8_init_747 : decode cX8_init 747 = .ok (.imul, 1) := by decide +kernel
theorem dX8_init_748 : decode cX8_init 748 = .ok (.iadd, 1) := by decide +kernel
theorem dX8_init_749 : decode cX8_init 749 = .ok (.iconst 2, 1) := by decide +kernel
theorem dX8_init_750 : decode cX8_init 750 = .ok (.iadd, 1) := by decide +kernel
theorem dX8_init_751 : decode cX8_init 751 = .ok (.bipush 60, 2) := by decide +kernel
theorem dX8_init_753 : decode cX8_init 753 = .ok (.iastore, 1) := by decide +kernel
theorem dX8_init_754 : decode cX8_init 754 = .ok (.aload_n 0, 1) := by decide +kernel
theorem dX8_init_755 : decode cX8_init 755 = .ok (.getfield 9, 3) := by decide +kernel
theorem dX8_init_758 : decode cX8_init 758 = .ok (.bipush 43, 2) := by decide +kernel
theorem dX8_init_760 : decode cX8_init 760 = .ok (.iconst 4, 1) := by decide +kernel
theorem dX8_init_761 : decode cX8_init 761 = .ok (.iload_n 1, 1) := by decide +kernel
theorem dX8_init_762 : decode cX8_init 762 = .ok (.imul, 1) := by decide +kernel
theorem dX8_init_763 : decode cX8_init 763 = .ok (.iadd, 1) := by decide +kernel
theorem dX8_init_764 : decode cX8_init 764 = .ok (.iconst 3, 1) := by decide +kernel
theorem dX8_init_765 : decode cX8_init 765 = .ok (.iadd, 1) := by decide +kernel
theorem dX8_init_766 : decode cX8_init 766 = .ok (.iload_n 1, 1) := by decide +kernel
theorem dX8_init_767 : decode cX8_init 767 = .ok (.iastore, 1) := by decide +kernel
theorem dX8_init_768 : decode cX8_init 768 = .ok (.iinc 1 1, 3) := by decide +kernel
theorem dX8_init_771 : decode cX8_init 771 = .ok (.goto (-37), 3) := by decide +kernel
theorem dX8_init_774 : decode cX8_init 774 = .ok (.iconst 0, 1) := by decide +kernel
theorem dX8_init_775 : decode cX8_init 775 = .ok (.istore_n 1, 1) := by decide +kernel
theorem dX8_init_776 : decode cX8_init 776 = .ok (.iload_n 1, 1) := by decide +kernel
theorem dX8_init_777 : decode cX8_init 777 = .ok (.bipush 6, 2) := by decide +kernel
theorem dX8_init_779 : decode cX8_init 779 = .ok (.if_icmp .ge 24, 3) := by decide +kernel
theorem dX8_init_782 : decode cX8_init 782 = .ok (.aload_n 0, 1) := by decide +kernel
theorem dX8_init_783 : decode cX8_init 783 = .ok (.getfield 9, 3) := by decide +kernel
theorem dX8_init_786 : decode cX8_init 786 = .ok (.bipush 59, 2) := by decide +kernel
theorem dX8_init_788 : decode cX8_init 788 = .ok (.iconst 4, 1) := by decide +kernel
theorem dX8_init_789 : decode cX8_init 789 = .ok (.iload_n 1, 1) := by decide +kernel
theorem dX8_init_790 : decode cX8_init 790 = .ok (.imul, 1) := by decide +kernel
theorem dX8_init_791 : decode cX8_init 791 = .ok (.iadd, 1) := by decide +kernel
theorem dX8_init_792 : decode cX8_init 792 = .ok (.iconst 1, 1) := by decide +kernel
theorem dX8_init_793 : decode cX8_init 793 = .ok (.iadd, 1) := by decide +kernel
theorem dX8_init_794 : decode cX8_init 794 = .ok (.ldc 57, 2) := by decide +kernel
theorem dX8_init_796 : decode cX8_init 796 = .ok (.iastore, 1) := by decide +kernel
theorem dX8_init_797 : decode cX8_init 797 = .ok (.iinc 1 1, 3) := by decide +kernel
theorem dX8_init_800 : decode cX8_init 800 = .ok (.goto (-24), 3) := by decide +kernel
theorem dX8_init_803 : decode cX8_init 803 = .ok (.iconst 0, 1) := by decide +kernel
theorem dX8_init_804 : decode cX8_init 804 = .ok (.istore_n 1, 1) := by decide +kernel
theorem dX8_init_805 : decode cX8_init 805 = .ok (.iload_n 1, 1) := by decide +kernel
theorem dX8_init_806 : decode cX8_init 806 = .ok (.bipush 10, 2) := by decide +kernel
theorem dX8_init_808 : decode cX8_init 808 = .ok (.if_icmp .ge 19, 3) := by decide +kernel
theorem dX8_init_811 : decode cX8_init 811 = .ok (.aload_n 0, 1) := by decide +kernel
theorem dX8_init_812 : decode cX8_init 812 = .ok (.getfield 9, 3) := by decide +kernel
theorem dX8_init_815 : decode cX8_init 815 = .ok (.bipush 83, 2) := by decide +kernel
theorem dX8_init_817 : decode cX8_init 817 = .ok (.iload_n 1, 1) := by decide +kernel
theorem dX8_init_818 : decode cX8_init 818 = .ok (.iadd, 1) := by decide +kernel
theorem dX8_init_819 : decode cX8_init 819 = .ok (.iconst (-1), 1) := by decide +kernel
theorem dX8_init_820 : decode cX8_init 820 = .ok (.iastore, 1) := by decide +kernel
theorem dX8_init_821 : decode cX8_init 821 = .ok (.iinc 1 1, 3) := by decide +kernel
theorem dX8_init_824 : decode cX8_init 824 = .ok (.goto (-19), 3) := by decide +kernel
theorem dX8_init_827 : decode cX8_init 827 = .ok (.return_, 1) := by decide +kernel
theorem dX8_no_0 : decode cX8_no 0 = .ok (.aload_n 0, 1) := by decide +kernel
theorem dX8_no_1 : decode cX8_no 1 = .ok (.getfield 19, 3) := by decide +kernel
theorem dX8_no_4 : decode cX8_no 4 = .ok (.iload_n 1, 1) := by decide +kernel
theorem dX8_no_5 : decode cX8_no 5 = .ok (.dup2, 1) := by decide +kernel
theorem dX8_no_6 : decode cX8_no 6 = .ok (.iaload, 1) := by decide +kernel
theorem dX8_no_7 : decode cX8_no 7 = .ok (.iconst 1, 1) := by decide +kernel
theorem dX8_no_8 : decode cX8_no 8 = .ok (.iadd, 1) := by decide +kernel
theorem dX8_no_9 : decode cX8_no 9 = .ok (.iastore, 1) := by decide +kernel
theorem dX8_no_10 : decode cX8_no 10 = .ok (.ldc 58, 2) := by decide +kernel
theorem dX8_no_12 : decode cX8_no 12 = .ok (.iload_n 1, 1) := by decide +kernel
theorem dX8_no_13 : decode cX8_no 13 = .ok (.isub, 1) := by decide +kernel
theorem dX8_no_14 : decode cX8_no 14 = .ok (.ireturn, 1) := by decide +kernel
theorem dX8_in1_0 : decode cX8_in1 0 = .ok (.iload_n 0, 1) := by decide +kernel
theorem dX8_in1_1 : decode cX8_in1 1 = .ok (.iload_n 1, 1) := by decide +kernel
theorem dX8_in1_2 : decode cX8_in1 2 = .ok (.if_icmp .lt 12, 3) := by decide +kernel
theorem dX8_in1_5 : decode cX8_in1 5 = .ok (.iload_n 0, 1) := by decide +kernel
theorem dX8_in1_6 : decode cX8_in1 6 = .ok (.iload_n 2, 1) := by decide +kernel
theorem dX8_in1_7 : decode cX8_in1 7 = .ok (.if_icmp .gt 7, 3) := by decide +kernel
theorem dX8_in1_10 : decode cX8_in1 10 = .ok (.iconst 1, 1) := by decide +kernel
theorem dX8_in1_11 : decode cX8_in1 11 = .ok (.goto 4, 3) := by decide +kernel
theorem dX8_in1_14 : decode cX8_in1 14 = .ok (.iconst 0, 1) := by decide +kernel
theorem dX8_in1_15 : decode cX8_in1 15 = .ok (.ireturn, 1) := by decide +kernel
theorem dX8_less_0 : decode cX8_less 0 = .ok (.iload_n 0, 1) := by decide +kernel
theorem dX8_less_1 : decode cX8_less 1 = .ok (.iload_n 1, 1) := by decide +kernel
theorem dX8_less_2 : decode cX8_less 2 = .ok (.if_icmp .ge 7, 3) := by decide +kernel
theorem dX8_less_5 : decode cX8_less 5 = .ok (.iload_n 0, 1) := by decide +kernel
theorem dX8_less_6 : decode cX8_less 6 = .ok (.goto 4, 3) := by decide +kernel
theorem dX8_less_9 : decode cX8_less 9 = .ok (.iload_n 1, 1) := by decide +kernel
theorem dX8_less_10 : decode cX8_less 10 = .ok (.ireturn, 1) := by decide +kernel
theorem dX8_greater_0 : decode cX8_greater 0 = .ok (.iload_n 0, 1) := by decide +kernel
theorem dX8_greater_1 : decode cX8_greater 1 = .ok (.iload_n 1, 1) := by decide +kernel
theorem dX8_greater_2 : decode cX8_greater 2 = .ok (.if_icmp .le 7, 3) := by decide +kernel
theorem dX8_greater_5 : decode cX8_greater 5 = .ok (.iload_n 0, 1) := by decide +kernel
theorem dX8_greater_6 : decode cX8_greater 6 = .ok (.goto 4, 3) := by decide +kernel
theorem dX8_greater_9 : decode cX8_greater 9 = .ok (.iload_n 1, 1) := by decide +kernel
theorem dX8_greater_10 : decode cX8_greater 10 = .ok (.ireturn, 1) := by decide +kernel
theorem dX8_bits_0 : decode cX8_bits 0 = .ok (.iconst 0, 1) := by decide +kernel
theorem dX8_bits_1 : decode cX8_bits 1 = .ok (.istore_n 1, 1) := by decide +kernel
theorem dX8_bits_2 : decode cX8_bits 2 = .ok (.iload_n 0, 1) := by decide +kernel
theorem dX8_bits_3 : decode cX8_bits 3 = .ok (.istore_n 2, 1) := by decide +kernel
theorem dX8_bits_4 : decode cX8_bits 4 = .ok (.iload_n 2, 1) := by decide +kernel
theorem dX8_bits_5 : decode cX8_bits 5 = .ok (.ifCond .eq 15, 3) := by decide +kernel
theorem dX8_bits_8 : decode cX8_bits 8 = .ok (.iinc 1 1, 3) := by decide +kernel
theorem dX8_bits_11 : decode cX8_bits 11 = .ok (.iload_n 2, 1) := by decide +kernel
theorem dX8_bits_12 : decode cX8_bits 12 = .ok (.iload_n 2, 1) := by decide +kernel
theorem dX8_bits_13 : decode cX8_bits 13 = .ok (.iconst 1, 1) := by decide +kernel
theorem dX8_bits_14 : decode cX8_bits 14 = .ok (.isub, 1) := by decide +kernel
theorem dX8_bits_15 : decode cX8_bits 15 = .ok (.iand, 1) := by decide +kernel
theorem dX8_bits_16 : decode cX8_bits 16 = .ok (.istore_n 2, 1) := by decide +kernel
theorem dX8_bits_17 : decode cX8_bits 17 = .ok (.goto (-13), 3) := by decide +kernel
theorem dX8_bits_20 : decode cX8_bits 20 = .ok (.iload_n 1, 1) := by decide +kernel
theorem dX8_bits_21 : decode cX8_bits 21 = .ok (.ireturn, 1) := by decide +kernel
theorem dX8_isIn_0 : decode cX8_isIn 0 = .ok (.iload_n 0, 1) := by decide +kernel
theorem dX8_isIn_1 : decode cX8_isIn 1 = .ok (.iload_n 1, 1) := by decide +kernel
theorem dX8_isIn_2 : decode cX8_isIn 2 = .ok (.ishr, 1) := by decide +kernel
theorem dX8_isIn_3 : decode cX8_isIn 3 = .ok (.iconst 1, 1) := by decide +kernel
theorem dX8_isIn_4 : decode cX8_isIn 4 = .ok (.iand, 1) := by decide +kernel
theorem dX8_isIn_5 : decode cX8_isIn 5 = .ok (.iconst 1, 1) := by decide +kernel
theorem dX8_isIn_6 : decode cX8_isIn 6 = .ok (.if_icmp .ne 7, 3) := by decide +kernel
theorem dX8_isIn_9 : decode cX8_isIn 9 = .ok (.iconst 1, 1) := by decide +kernel
theorem dX8_isIn_10 : decode cX8_isIn 10 = .ok (.goto 4, 3) := by decide +kernel
theorem dX8_isIn_13 : decode cX8_isIn 13 = .ok (.iconst 0, 1) := by decide +kernel
theorem dX8_isIn_14 : decode cX8_isIn 14 = .ok (.ireturn, 1) := by decide +kernel
theorem dX8_isPlace_0 : decode cX8_isPlace 0 = .ok (.iload_n 0, 1) := by decide +kernel
theorem dX8_isPlace_1 : decode cX8_isPlace 1 = .ok (.iconst 0, 1) := by decide +kernel
theorem dX8_isPlace_2 : decode cX8_isPlace 2 = .ok (.bipush 7, 2) := by decide +kernel
theorem dX8_isPlace_4 : decode cX8_isPlace 4 = .ok (.invokestatic 59, 3) := by decide +kernel
theorem dX8_isPlace_7 : decode cX8_isPlace 7 = .ok (.ireturn, 1) := by decide +kernel
theorem dX8_get_0 : decode cX8_get 0 = .ok (.aload_n 0, 1) := by decide +kernel
theorem dX8_get_1 : decode cX8_get 1 = .ok (.getfield 9, 3) := by decide +kernel
theorem dX8_get_4 : decode cX8_get 4 = .ok (.iconst 3, 1) := by decide +kernel
theorem dX8_get_5 : decode cX8_get 5 = .ok (.iconst 5, 1) := by decide +kernel
theorem dX8_get_6 : decode cX8_get 6 = .ok (.iload_n 1, 1) := by decide +kernel
theorem dX8_get_7 : decode cX8_get 7 = .ok (.imul, 1) := by decide +kernel
theorem dX8_get_8 : decode cX8_get 8 = .ok (.iadd, 1) := by decide +kernel
theorem dX8_get_9 : decode cX8_get 9 = .ok (.iload_n 2, 1) := by decide +kernel
theorem dX8_get_10 : decode cX8_get 10 = .ok (.iadd, 1) := by decide +kernel
theorem dX8_get_11 : decode cX8_get 11 = .ok (.iaload, 1) := by decide +kernel
theorem dX8_get_12 : decode cX8_get 12 = .ok (.ireturn, 1) := by decide +kernel
theorem dX8_puts_0 : decode cX8_puts 0 = .ok (.aload_n 0, 1) := by decide +kernel
theorem dX8_puts_1 : decode cX8_puts 1 = .ok (.getfield 9, 3) := by decide +kernel
theorem dX8_puts_4 : decode cX8_puts 4 = .ok (.iconst 3, 1) := by decide +kernel
theorem dX8_puts_5 : decode cX8_puts 5 = .ok (.iconst 5, 1) := by decide +kernel
theorem dX8_puts_6 : decode cX8_puts 6 = .ok (.iload_n 1, 1) := by decide +kernel
theorem dX8_puts_7 : decode cX8_puts 7 = .ok (.imul, 1) := by decide +kernel
theorem dX8_puts_8 : decode cX8_puts 8 = .ok (.iadd, 1) := by decide +kernel
theorem dX8_puts_9 : decode cX8_puts 9 = .ok (.iload_n 2, 1) := by decide +kernel
theorem dX8_puts_10 : decode cX8_puts 10 = .ok (.iadd, 1) := by decide +kernel
theorem dX8_puts_11 : decode cX8_puts 11 = .ok (.iload_n 3, 1) := by decide +kernel
theorem dX8_puts_12 : decode cX8_puts 12 = .ok (.iastore, 1) := by decide +kernel
theorem dX8_puts_13 : decode cX8_puts 13 = .ok (.return_, 1) := by decide +kernel
theorem dX8_isThere_0 : decode cX8_isThere 0 = .ok (.aload_n 0, 1) := by decide +kernel
theorem dX8_isThere_1 : decode cX8_isThere 1 = .ok (.iload_n 1, 1) := by decide +kernel
theorem dX8_isThere_2 : decode cX8_isThere 2 = .ok (.iconst 4, 1) := by decide +kernel
theorem dX8_isThere_3 : decode cX8_isThere 3 = .ok (.invokevirtual 63, 3) := by decide +kernel
theorem dX8_isThere_6 : decode cX8_isThere 6 = .ok (.iconst 1, 1) := by decide +kernel
theorem dX8_isThere_7 : decode cX8_isThere 7 = .ok (.if_icmp .ne 7, 3) := by decide +kernel
theorem dX8_isThere_10 : decode cX8_isThere 10 = .ok (.iconst 1, 1) := by decide +kernel
theorem dX8_isThere_11 : decode cX8_isThere 11 = .ok (.goto 4, 3) := by decide +kernel
theorem dX8_isThere_14 : decode cX8_isThere 14 = .ok (.iconst 0, 1) := by decide +kernel
theorem dX8_isThere_15 : decode cX8_isThere 15 = .ok (.ireturn, 1) := by decide +kernel
theorem dX8_isEgg_0 : decode cX8_isEgg 0 = .ok (.iload_n 1, 1) := by decide +kernel
theorem dX8_isEgg_1 : decode cX8_isEgg 1 = .ok (.invokestatic 67, 3) := by decide +kernel
theorem dX8_isEgg_4 : decode cX8_isEgg 4 = .ok (.ifCond .eq 15, 3) := by decide +kernel
theorem dX8_isEgg_7 : decode cX8_isEgg 7 = .ok (.aload_n 0, 1) := by decide +kernel
theorem dX8_isEgg_8 : decode cX8_isEgg 8 = .ok (.iload_n 1, 1) := by decide +kernel
theorem dX8_isEgg_9 : decode cX8_isEgg 9 = .ok (.invokevirtual 71, 3) := by decide +kernel
theorem dX8_isEgg_12 : decode cX8_isEgg 12 = .ok (.ifCond .eq 7, 3) := by decide +kernel
theorem dX8_isEgg_15 : decode cX8_isEgg 15 = .ok (.iconst 1, 1) := by decide +kernel
theorem dX8_isEgg_16 : decode cX8_isEgg 16 = .ok (.goto 4, 3) := by decide +kernel
theorem dX8_isEgg_19 : decode cX8_isEgg 19 = .ok (.iconst 0, 1) := by decide +kernel
theorem dX8_isEgg_20 : decode cX8_isEgg 20 = .ok (.ireturn, 1) := by decide +kernel
theorem dX8_isHen_0 : decode cX8_isHen 0 = .ok (.iload_n 0, 1) := by decide +kernel
theorem dX8_isHen_1 : decode cX8_isHen 1 = .ok (.iconst 0, 1) := by decide +kernel
theorem dX8_isHen_2 : decode cX8_isHen 2 = .ok (.iconst 3, 1) := by decide +kernel
theorem dX8_isHen_3 : decode cX8_isHen 3 = .ok (.invokestatic 59, 3) := by decide +kernel
theorem dX8_isHen_6 : decode cX8_isHen 6 = .ok (.ireturn, 1) := by decide +kernel
theorem dX8_isWork_0 : decode cX8_isWork 0 = .ok (.iload_n 0, 1) := by decide +kernel
theorem dX8_isWork_1 : decode cX8_isWork 1 = .ok (.iconst 0, 1) := by decide +kernel
theorem dX8_isWork_2 : decode cX8_isWork 2 = .ok (.iconst 5, 1) := by decide +kernel
theorem dX8_isWork_3 : decode cX8_isWork 3 = .ok (.invokestatic 59, 3) := by decide +kernel
theorem dX8_isWork_6 : decode cX8_isWork 6 = .ok (.ireturn, 1) := by decide +kernel
theorem dX8_hens_0 : decode cX8_hens 0 = .ok (.aload_n 0, 1) := by decide +kernel
theorem dX8_hens_1 : decode cX8_hens 1 = .ok (.getfield 9, 3) := by decide +kernel
theorem dX8_hens_4 : decode cX8_hens 4 = .ok (.bipush 43, 2) := by decide +kernel
theorem dX8_hens_6 : decode cX8_hens 6 = .ok (.iconst 4, 1) := by decide +kernel
theorem dX8_hens_7 : decode cX8_hens 7 = .ok (.iload_n 1, 1) := by decide +kernel
theorem dX8_hens_8 : decode cX8_hens 8 = .ok (.imul, 1) := by decide +kernel
theorem dX8_hens_9 : decode cX8_hens 9 = .ok (.iadd, 1) := by decide +kernel
theorem dX8_hens_10 : decode cX8_hens 10 = .ok (.iload_n 2, 1) := by decide +kernel
theorem dX8_hens_11 : decode cX8_hens 11 = .ok (.iadd, 1) := by decide +kernel
theorem dX8_hens_12 : decode cX8_hens 12 = .ok (.iaload, 1) := by decide +kernel
theorem dX8_hens_13 : decode cX8_hens 13 = .ok (.ireturn, 1) := by decide +kernel
theorem dX8_works_0 : decode cX8_works 0 = .ok (.aload_n 0, 1) := by decide +kernel
theorem dX8_works_1 : decode cX8_works 1 = .ok (.getfield 9, 3) := by decide +kernel
theorem dX8_works_4 : decode cX8_works 4 = .ok (.bipush 59, 2) := by decide +kernel
theorem dX8_works_6 : decode cX8_works 6 = .ok (.iconst 4, 1) := by decide +kernel
theorem dX8_works_7 : decode cX8_works 7 = .ok (.iload_n 1, 1) := by decide +kernel
theorem dX8_works_8 : decode cX8_works 8 = .ok (.imul, 1) := by decide +kernel
theorem dX8_works_9 : decode cX8_works 9 = .ok (.iadd, 1) := by decide +kernel
theorem dX8_works_10 : decode cX8_works 10 = .ok (.iload_n 2, 1) := by decide +kernel
theorem dX8_works_11 : decode cX8_works 11 = .ok (.iadd, 1) := by decide +kernel
theorem dX8_works_12 : decode cX8_works 12 = .ok (.iaload, 1) := by decide +kernel
theorem dX8_works_13 : decode cX8_works 13 = .ok (.ireturn, 1) := by decide +kernel
theorem dX8_setsAside_0 : decode cX8_setsAside 0 = .ok (.iconst 0, 1) := by decide +kernel
theorem dX8_setsAside_1 : decode cX8_setsAside 1 = .ok (.istore_n 1, 1) := by decide +kernel
theorem dX8_setsAside_2 : decode cX8_setsAside 2 = .ok (.iload_n 1, 1) := by decide +kernel
theorem dX8_setsAside_3 : decode cX8_setsAside 3 = .ok (.bipush 93, 2) := by decide +kernel
theorem dX8_setsAside_5 : decode cX8_setsAside 5 = .ok (.if_icmp .ge 21, 3) := by decide +kernel
theorem dX8_setsAside_8 : decode cX8_setsAside 8 = .ok (.aload_n 0, 1) := by decide +kernel
theorem dX8_setsAside_9 : decode cX8_setsAside 9 = .ok (.getfield 16, 3) := by decide +kernel
theorem dX8_setsAside_12 : decode cX8_setsAside 12 = .ok (.iload_n 1, 1) := by decide +kernel
theorem dX8_setsAside_13 : decode cX8_setsAside 13 = .ok (.aload_n 0, 1) := by decide +kernel
theorem dX8_setsAside_14 : decode cX8_setsAside 14 = .ok (.getfield 9, 3) := by decide +kernel
theorem dX8_setsAside_17 : decode cX8_setsAside 17 = .ok (.iload_n 1, 1) := by decide +kernel
theorem dX8_setsAside_18 : decode cX8_setsAside 18 = .ok (.iaload, 1) := by decide +kernel
theorem dX8_setsAside_19 : decode cX8_setsAside 19 = .ok (.iastore, 1) := by decide +kernel
theorem dX8_setsAside_20 : decode cX8_setsAside 20 = .ok (.iinc 1 1, 3) := by decide +kernel
theorem dX8_setsAside_23 : decode cX8_setsAside 23 = .ok (.goto (-21), 3) := by decide +kernel
theorem dX8_setsAside_26 : decode cX8_setsAside 26 = .ok (.return_, 1) := by decide +kernel
theorem dX8_laysBack_0 : decode cX8_laysBack 0 = .ok (.iconst 0, 1) := by decide +kernel
theorem dX8_laysBack_1 : decode cX8_laysBack 1 = .ok (.istore_n 1, 1) := by decide +kernel
theorem dX8_laysBack_2 : decode cX8_laysBack 2 = .ok (.iload_n 1, 1) := by decide +kernel
theorem dX8_laysBack_3 : decode cX8_laysBack 3 = .ok (.bipush 93, 2) := by decide +kernel
theorem dX8_laysBack_5 : decode cX8_laysBack 5 = .ok (.if_icmp .ge 21, 3) := by decide +kernel
theorem dX8_laysBack_8 : decode cX8_laysBack 8 = .ok (.aload_n 0, 1) := by decide +kernel
theorem dX8_laysBack_9 : decode cX8_laysBack 9 = .ok (.getfield 9, 3) := by decide +kernel
theorem dX8_laysBack_12 : decode cX8_laysBack 12 = .ok (.iload_n 1, 1) := by decide +kernel
theorem dX8_laysBack_13 : decode cX8_laysBack 13 = .ok (.aload_n 0, 1) := by decide +kernel
theorem dX8_laysBack_14 : decode cX8_laysBack 14 = .ok (.getfield 16, 3) := by decide +kernel
theorem dX8_laysBack_17 : decode cX8_laysBack 17 = .ok (.iload_n 1, 1) := by decide +kernel
theorem dX8_laysBack_18 : decode cX8_laysBack 18 = .ok (.iaload, 1) := by decide +kernel
theorem dX8_laysBack_19 : decode cX8_laysBack 19 = .ok (.iastore, 1) := by decide +kernel
theorem dX8_laysBack_20 : decode cX8_laysBack 20 = .ok (.iinc 1 1, 3) := by decide +kernel
theorem dX8_laysBack_23 : decode cX8_laysBack 23 = .ok (.goto (-21), 3) := by decide +kernel
theorem dX8_laysBack_26 : decode cX8_laysBack 26 = .ok (.return_, 1) := by decide +kernel
theorem dX8_minutesBy_0 : decode cX8_minutesBy 0 = .ok (.iconst 0, 1) := by decide +kernel
theorem dX8_minutesBy_1 : decode cX8_minutesBy 1 = .ok (.iload_n 1, 1) := by decide +kernel
theorem dX8_minutesBy_2 : decode cX8_minutesBy 2 = .ok (.iload_n 2, 1) := by decide +kernel
theorem dX8_minutesBy_3 : decode cX8_minutesBy 3 = .ok (.isub, 1) := by decide +kernel
theorem dX8_minutesBy_4 : decode cX8_minutesBy 4 = .ok (.invokestatic 74, 3) := by decide +kernel
theorem dX8_minutesBy_7 : decode cX8_minutesBy 7 = .ok (.istore 4, 2) := by decide +kernel
theorem dX8_minutesBy_9 : decode cX8_minutesBy 9 = .ok (.iload 4, 2) := by decide +kernel
theorem dX8_minutesBy_11 : decode cX8_minutesBy 11 = .ok (.iload_n 3, 1) := by decide +kernel
theorem dX8_minutesBy_12 : decode cX8_minutesBy 12 = .ok (.iconst 4, 1) := by decide +kernel
theorem dX8_minutesBy_13 : decode cX8_minutesBy 13 = .ok (.irem, 1) := by decide +kernel
theorem dX8_minutesBy_14 : decode cX8_minutesBy 14 = .ok (.ifCond .ne 8, 3) := by decide +kernel
theorem dX8_minutesBy_17 : decode cX8_minutesBy 17 = .ok (.bipush 10, 2) := by decide +kernel
theorem dX8_minutesBy_19 : decode cX8_minutesBy 19 = .ok (.goto 4, 3) := by decide +kernel
theorem dX8_minutesBy_22 : decode cX8_minutesBy 22 = .ok (.iconst 0, 1) := by decide +kernel
theorem dX8_minutesBy_23 : decode cX8_minutesBy 23 = .ok (.iadd, 1) := by decide +kernel
theorem dX8_minutesBy_24 : decode cX8_minutesBy 24 = .ok (.istore 5, 2) := by decide +kernel
theorem dX8_minutesBy_26 : decode cX8_minutesBy 26 = .ok (.iload 4, 2) := by decide +kernel
theorem dX8_minutesBy_28 : decode cX8_minutesBy 28 = .ok (.bipush 30, 2) := by decide +kernel
theorem dX8_minutesBy_30 : decode cX8_minutesBy 30 = .ok (.iconst 2, 1) := by decide +kernel
theorem dX8_minutesBy_31 : decode cX8_minutesBy 31 = .ok (.iload_n 2, 1) := by decide +kernel
theorem dX8_minutesBy_32 : decode cX8_minutesBy 32 = .ok (.imul, 1) := by decide +kernel
theorem dX8_minutesBy_33 : decode cX8_minutesBy 33 = .ok (.invokestatic 77, 3) := by decide +kernel
theorem dX8_minutesBy_36 : decode cX8_minutesBy 36 = .ok (.iadd, 1) := by decide +kernel
theorem dX8_minutesBy_37 : decode cX8_minutesBy 37 = .ok (.istore 6, 2) := by decide +kernel
theorem dX8_minutesBy_39 : decode cX8_minutesBy 39 = .ok (.iload_n 0, 1) := by decide +kernel
theorem dX8_minutesBy_40 : decode cX8_minutesBy 40 = .ok (.tableswitch 68 1 6 #[40, 43, 46, 52, 58, 63], 40) := by decide +kernel
theorem dX8_minutesBy_80 : decode cX8_minutesBy 80 = .ok (.iload 5, 2) := by decide +kernel
theorem dX8_minutesBy_82 : decode cX8_minutesBy 82 = .ok (.ireturn, 1) := by decide +kernel
theorem dX8_minutesBy_83 : decode cX8_minutesBy 83 = .ok (.iload 6, 2) := by decide +kernel
theorem dX8_minutesBy_85 : decode cX8_minutesBy 85 = .ok (.ireturn, 1) := by decide +kernel
theorem dX8_minutesBy_86 : decode cX8_minutesBy 86 = .ok (.iload 6, 2) := by decide +kernel
theorem dX8_minutesBy_88 : decode cX8_minutesBy 88 = .ok (.bipush 15, 2) := by decide +kernel
theorem dX8_minutesBy_90 : decode cX8_minutesBy 90 = .ok (.isub, 1) := by decide +kernel
theorem dX8_minutesBy_91 : decode cX8_minutesBy 91 = .ok (.ireturn, 1) := by decide +kernel
theorem dX8_minutesBy_92 : decode cX8_minutesBy 92 = .ok (.bipush 15, 2) := by decide +kernel
theorem dX8_minutesBy_94 : decode cX8_minutesBy 94 = .ok (.iload 6, 2) := by decide +kernel
theorem dX8_minutesBy_96 : decode cX8_minutesBy 96 = .ok (.isub, 1) := by decide +kernel
theorem dX8_minutesBy_97 : decode cX8_minutesBy 97 = .ok (.ireturn, 1) := by decide +kernel
theorem dX8_minutesBy_98 : decode cX8_minutesBy 98 = .ok (.iload 4, 2) := by decide +kernel
theorem dX8_minutesBy_100 : decode cX8_minutesBy 100 = .ok (.iconst 2, 1) := by decide +kernel
theorem dX8_minutesBy_101 : decode cX8_minutesBy 101 = .ok (.idiv, 1) := by decide +kernel
theorem dX8_minutesBy_102 : decode cX8_minutesBy 102 = .ok (.ireturn, 1) := by decide +kernel
theorem dX8_minutesBy_103 : decode cX8_minutesBy 103 = .ok (.iconst 2, 1) := by decide +kernel
theorem dX8_minutesBy_104 : decode cX8_minutesBy 104 = .ok (.iload 5, 2) := by decide +kernel
theorem dX8_minutesBy_106 : decode cX8_minutesBy 106 = .ok (.imul, 1) := by decide +kernel
theorem dX8_minutesBy_107 : decode cX8_minutesBy 107 = .ok (.ireturn, 1) := by decide +kernel
theorem dX8_minutesBy_108 : decode cX8_minutesBy 108 = .ok (.iload 4, 2) := by decide +kernel
theorem dX8_minutesBy_110 : decode cX8_minutesBy 110 = .ok (.ireturn, 1) := by decide +kernel
theorem dX8_keepsBy_0 : decode cX8_keepsBy 0 = .ok (.iload_n 0, 1) := by decide +kernel
theorem dX8_keepsBy_1 : decode cX8_keepsBy 1 = .ok (.iconst 2, 1) := by decide +kernel
theorem dX8_keepsBy_2 : decode cX8_keepsBy 2 = .ok (.if_icmp .eq 8, 3) := by decide +kernel
theorem dX8_keepsBy_5 : decode cX8_keepsBy 5 = .ok (.iload_n 0, 1) := by decide +kernel
theorem dX8_keepsBy_6 : decode cX8_keepsBy 6 = .ok (.iconst 3, 1) := by decide +kernel
theorem dX8_keepsBy_7 : decode cX8_keepsBy 7 = .ok (.if_icmp .ne 8, 3) := by decide +kernel
theorem dX8_keepsBy_10 : decode cX8_keepsBy 10 = .ok (.bipush 60, 2) := by decide +kernel
theorem dX8_keepsBy_12 : decode cX8_keepsBy 12 = .ok (.goto 35, 3) := by decide +kernel
theorem dX8_keepsBy_15 : decode cX8_keepsBy 15 = .ok (.iload_n 0, 1) := by decide +kernel
theorem dX8_keepsBy_16 : decode cX8_keepsBy 16 = .ok (.iconst 4, 1) := by decide +kernel
theorem dX8_keepsBy_17 : decode cX8_keepsBy 17 = .ok (.if_icmp .ne 8, 3) := by decide +kernel
theorem dX8_keepsBy_20 : decode cX8_keepsBy 20 = .ok (.bipush 9, 2) := by decide +kernel
theorem dX8_keepsBy_22 : decode cX8_keepsBy 22 = .ok (.goto 25, 3) := by decide +kernel
theorem dX8_keepsBy_25 : decode cX8_keepsBy 25 = .ok (.iload_n 0, 1) := by decide +kernel
theorem dX8_keepsBy_26 : decode cX8_keepsBy 26 = .ok (.iconst 5, 1) := by decide +kernel
theorem dX8_keepsBy_27 : decode cX8_keepsBy 27 = .ok (.if_icmp .ne 7, 3) := by decide +kernel
theorem dX8_keepsBy_30 : decode cX8_keepsBy 30 = .ok (.iconst 5, 1) := by decide +kernel
theorem dX8_keepsBy_31 : decode cX8_keepsBy 31 = .ok (.goto 16, 3) := by decide +kernel
theorem dX8_keepsBy_34 : decode cX8_keepsBy 34 = .ok (.iload_n 0, 1) := by decide +kernel
theorem dX8_keepsBy_35 : decode cX8_keepsBy 35 = .ok (.bipush 6, 2) := by decide +kernel
theorem dX8_keepsBy_37 : decode cX8_keepsBy 37 = .ok (.if_icmp .ne 8, 3) := by decide +kernel
theorem dX8_keepsBy_40 : decode cX8_keepsBy 40 = .ok (.bipush 20, 2) := by decide +kernel
theorem dX8_keepsBy_42 : decode cX8_keepsBy 42 = .ok (.goto 5, 3) := by decide +kernel
theorem dX8_keepsBy_45 : decode cX8_keepsBy 45 = .ok (.bipush 30, 2) := by decide +kernel
theorem dX8_keepsBy_47 : decode cX8_keepsBy 47 = .ok (.ireturn, 1) := by decide +kernel
theorem dX8_minutes_0 : decode cX8_minutes 0 = .ok (.aload_n 0, 1) := by decide +kernel
theorem dX8_minutes_1 : decode cX8_minutes 1 = .ok (.iload_n 1, 1) := by decide +kernel
theorem dX8_minutes_2 : decode cX8_minutes 2 = .ok (.iconst 0, 1) := by decide +kernel
theorem dX8_minutes_3 : decode cX8_minutes 3 = .ok (.invokevirtual 63, 3) := by decide +kernel
theorem dX8_minutes_6 : decode cX8_minutes 6 = .ok (.aload_n 0, 1) := by decide +kernel
theorem dX8_minutes_7 : decode cX8_minutes 7 = .ok (.iload_n 1, 1) := by decide +kernel
theorem dX8_minutes_8 : decode cX8_minutes 8 = .ok (.iconst 1, 1) := by decide +kernel
theorem dX8_minutes_9 : decode cX8_minutes 9 = .ok (.invokevirtual 63, 3) := by decide +kernel
theorem dX8_minutes_12 : decode cX8_minutes 12 = .ok (.aload_n 0, 1) := by decide +kernel
theorem dX8_minutes_13 : decode cX8_minutes 13 = .ok (.iload_n 1, 1) := by decide +kernel
theorem dX8_minutes_14 : decode cX8_minutes 14 = .ok (.iconst 2, 1) := by decide +kernel
theorem dX8_minutes_15 : decode cX8_minutes 15 = .ok (.invokevirtual 63, 3) := by decide +kernel
theorem dX8_minutes_18 : decode cX8_minutes 18 = .ok (.aload_n 0, 1) := by decide +kernel
theorem dX8_minutes_19 : decode cX8_minutes 19 = .ok (.getfield 9, 3) := by decide +kernel
theorem dX8_minutes_22 : decode cX8_minutes 22 = .ok (.iconst 0, 1) := by decide +kernel
theorem dX8_minutes_23 : decode cX8_minutes 23 = .ok (.iaload, 1) := by decide +kernel
theorem dX8_minutes_24 : decode cX8_minutes 24 = .ok (.invokestatic 80, 3) := by decide +kernel
theorem dX8_minutes_27 : decode cX8_minutes 27 = .ok (.ireturn, 1) := by decide +kernel
theorem dX8_then_0 : decode cX8_then 0 = .ok (.iload 4, 2) := by decide +kernel
theorem dX8_then_2 : decode cX8_then 2 = .ok (.ifCond .le 18, 3) := by decide +kernel
theorem dX8_then_5 : decode cX8_then 5 = .ok (.iload_n 3, 1) := by decide +kernel
theorem dX8_then_6 : decode cX8_then 6 = .ok (.iload 4, 2) := by decide +kernel
theorem dX8_then_8 : decode cX8_then 8 = .ok (.iadd, 1) := by decide +kernel
theorem dX8_then_9 : decode cX8_then 9 = .ok (.iload_n 2, 1) := by decide +kernel
theorem dX8_then_10 : decode cX8_then 10 = .ok (.invokestatic 84, 3) := by decide +kernel
theorem dX8_then_13 : decode cX8_then 13 = .ok (.if_icmp .le 7, 3) := by decide +kernel
theorem dX8_then_16 : decode cX8_then 16 = .ok (.iconst 1, 1) := by decide +kernel
theorem dX8_then_17 : decode cX8_then 17 = .ok (.goto 4, 3) := by decide +kernel
theorem dX8_then_20 : decode cX8_then 20 = .ok (.iconst 0, 1) := by decide +kernel
theorem dX8_then_21 : decode cX8_then 21 = .ok (.istore 5, 2) := by decide +kernel
theorem dX8_then_23 : decode cX8_then 23 = .ok (.iload 5, 2) := by decide +kernel
theorem dX8_then_25 : decode cX8_then 25 = .ok (.ifCond .eq 7, 3) := by decide +kernel
theorem dX8_then_28 : decode cX8_then 28 = .ok (.iconst 0, 1) := by decide +kernel
theorem dX8_then_29 : decode cX8_then 29 = .ok (.goto 31, 3) := by decide +kernel
theorem dX8_then_32 : decode cX8_then 32 = .ok (.iload_n 2, 1) := by decide +kernel
theorem dX8_then_33 : decode cX8_then 33 = .ok (.aload_n 0, 1) := by decide +kernel
theorem dX8_then_34 : decode cX8_then 34 = .ok (.iload_n 1, 1) := by decide +kernel
theorem dX8_then_35 : decode cX8_then 35 = .ok (.iconst 1, 1) := by decide +kernel
theorem dX8_then_36 : decode cX8_then 36 = .ok (.invokevirtual 63, 3) := by decide +kernel
theorem dX8_then_39 : decode cX8_then 39 = .ok (.iload_n 3, 1) := by decide +kernel
theorem dX8_then_40 : decode cX8_then 40 = .ok (.iload 4, 2) := by decide +kernel
theorem dX8_then_42 : decode cX8_then 42 = .ok (.iadd, 1) := by decide +kernel
theorem dX8_then_43 : decode cX8_then 43 = .ok (.ldc 57, 2) := by decide +kernel
theorem dX8_then_45 : decode cX8_then 45 = .ok (.aload_n 0, 1) := by decide +kernel
theorem dX8_then_46 : decode cX8_then 46 = .ok (.getfield 9, 3) := by decide +kernel
theorem dX8_then_49 : decode cX8_then 49 = .ok (.iconst 0, 1) := by decide +kernel
theorem dX8_then_50 : decode cX8_then 50 = .ok (.iaload, 1) := by decide +kernel
theorem dX8_then_51 : decode cX8_then 51 = .ok (.iload 4, 2) := by decide +kernel
theorem dX8_then_53 : decode cX8_then 53 = .ok (.iadd, 1) := by decide +kernel
theorem dX8_then_54 : decode cX8_then 54 = .ok (.invokestatic 77, 3) := by decide +kernel
theorem dX8_then_57 : decode cX8_then 57 = .ok (.invokestatic 80, 3) := by decide +kernel
theorem dX8_then_60 : decode cX8_then 60 = .ok (.ireturn, 1) := by decide +kernel
theorem dX8_eggs_0 : decode cX8_eggs 0 = .ok (.iconst 0, 1) := by decide +kernel
theorem dX8_eggs_1 : decode cX8_eggs 1 = .ok (.istore_n 1, 1) := by decide +kernel
theorem dX8_eggs_2 : decode cX8_eggs 2 = .ok (.iconst 0, 1) := by decide +kernel
theorem dX8_eggs_3 : decode cX8_eggs 3 = .ok (.istore_n 2, 1) := by decide +kernel
theorem dX8_eggs_4 : decode cX8_eggs 4 = .ok (.iload_n 2, 1) := by decide +kernel
theorem dX8_eggs_5 : decode cX8_eggs 5 = .ok (.bipush 8, 2) := by decide +kernel
theorem dX8_eggs_7 : decode cX8_eggs 7 = .ok (.if_icmp .ge 27, 3) := by decide +kernel
theorem dX8_eggs_10 : decode cX8_eggs 10 = .ok (.iload_n 1, 1) := by decide +kernel
theorem dX8_eggs_11 : decode cX8_eggs 11 = .ok (.aload_n 0, 1) := by decide +kernel
theorem dX8_eggs_12 : decode cX8_eggs 12 = .ok (.iload_n 2, 1) := by decide +kernel
theorem dX8_eggs_13 : decode cX8_eggs 13 = .ok (.invokevirtual 71, 3) := by decide +kernel
theorem dX8_eggs_16 : decode cX8_eggs 16 = .ok (.ifCond .eq 9, 3) := by decide +kernel
theorem dX8_eggs_19 : decode cX8_eggs 19 = .ok (.iconst 1, 1) := by decide +kernel
theorem dX8_eggs_20 : decode cX8_eggs 20 = .ok (.iload_n 2, 1) := by decide +kernel
theorem dX8_eggs_21 : decode cX8_eggs 21 = .ok (.ishl, 1) := by decide +kernel
theorem dX8_eggs_22 : decode cX8_eggs 22 = .ok (.goto 4, 3) := by decide +kernel
theorem dX8_eggs_25 : decode cX8_eggs 25 = .ok (.iconst 0, 1) := by decide +kernel
theorem dX8_eggs_26 : decode cX8_eggs 26 = .ok (.ior, 1) := by decide +kernel
theorem dX8_eggs_27 : decode cX8_eggs 27 = .ok (.istore_n 1, 1) := by decide +kernel
theorem dX8_eggs_28 : decode cX8_eggs 28 = .ok (.iinc 2 1, 3) := by decide +kernel
theorem dX8_eggs_31 : decode cX8_eggs 31 = .ok (.goto (-27), 3) := by decide +kernel
theorem dX8_eggs_34 : decode cX8_eggs 34 = .ok (.iload_n 1, 1) := by decide +kernel
theorem dX8_eggs_35 : decode cX8_eggs 35 = .ok (.ireturn, 1) := by decide +kernel
theorem dX8_sumOf_0 : decode cX8_sumOf 0 = .ok (.iconst 0, 1) := by decide +kernel
theorem dX8_sumOf_1 : decode cX8_sumOf 1 = .ok (.istore_n 2, 1) := by decide +kernel
theorem dX8_sumOf_2 : decode cX8_sumOf 2 = .ok (.iconst 0, 1) := by decide +kernel
theorem dX8_sumOf_3 : decode cX8_sumOf 3 = .ok (.istore_n 3, 1) := by decide +kernel
theorem dX8_sumOf_4 : decode cX8_sumOf 4 = .ok (.iload_n 3, 1) := by decide +kernel
theorem dX8_sumOf_5 : decode cX8_sumOf 5 = .ok (.bipush 8, 2) := by decide +kernel
theorem dX8_sumOf_7 : decode cX8_sumOf 7 = .ok (.if_icmp .ge 29, 3) := by decide +kernel
theorem dX8_sumOf_10 : decode cX8_sumOf 10 = .ok (.iload_n 2, 1) := by decide +kernel
theorem dX8_sumOf_11 : decode cX8_sumOf 11 = .ok (.iload_n 1, 1) := by decide +kernel
theorem dX8_sumOf_12 : decode cX8_sumOf 12 = .ok (.iload_n 3, 1) := by decide +kernel
theorem dX8_sumOf_13 : decode cX8_sumOf 13 = .ok (.invokestatic 88, 3) := by decide +kernel
theorem dX8_sumOf_16 : decode cX8_sumOf 16 = .ok (.ifCond .eq 11, 3) := by decide +kernel
theorem dX8_sumOf_19 : decode cX8_sumOf 19 = .ok (.aload_n 0, 1) := by decide +kernel
theorem dX8_sumOf_20 : decode cX8_sumOf 20 = .ok (.iload_n 3, 1) := by decide +kernel
theorem dX8_sumOf_21 : decode cX8_sumOf 21 = .ok (.invokevirtual 92, 3) := by decide +kernel
theorem dX8_sumOf_24 : decode cX8_sumOf 24 = .ok (.goto 4, 3) := by decide +kernel
theorem dX8_sumOf_27 : decode cX8_sumOf 27 = .ok (.iconst 0, 1) := by decide +kernel
theorem dX8_sumOf_28 : decode cX8_sumOf 28 = .ok (.iadd, 1) := by decide +kernel
theorem dX8_sumOf_29 : decode cX8_sumOf 29 = .ok (.istore_n 2, 1) := by decide +kernel
theorem dX8_sumOf_30 : decode cX8_sumOf 30 = .ok (.iinc 3 1, 3) := by decide +kernel
theorem dX8_sumOf_33 : decode cX8_sumOf 33 = .ok (.goto (-29), 3) := by decide +kernel
theorem dX8_sumOf_36 : decode cX8_sumOf 36 = .ok (.iload_n 2, 1) := by decide +kernel
theorem dX8_sumOf_37 : decode cX8_sumOf 37 = .ok (.ireturn, 1) := by decide +kernel
theorem dX8_allMinutes_0 : decode cX8_allMinutes 0 = .ok (.aload_n 0, 1) := by decide +kernel
theorem dX8_allMinutes_1 : decode cX8_allMinutes 1 = .ok (.aload_n 0, 1) := by decide +kernel
theorem dX8_allMinutes_2 : decode cX8_allMinutes 2 = .ok (.invokevirtual 95, 3) := by decide +kernel
theorem dX8_allMinutes_5 : decode cX8_allMinutes 5 = .ok (.invokevirtual 99, 3) := by decide +kernel
theorem dX8_allMinutes_8 : decode cX8_allMinutes 8 = .ok (.ireturn, 1) := by decide +kernel
theorem dX8_free_0 : decode cX8_free 0 = .ok (.iconst 0, 1) := by decide +kernel
theorem dX8_free_1 : decode cX8_free 1 = .ok (.istore_n 1, 1) := by decide +kernel
theorem dX8_free_2 : decode cX8_free 2 = .ok (.iload_n 1, 1) := by decide +kernel
theorem dX8_free_3 : decode cX8_free 3 = .ok (.bipush 8, 2) := by decide +kernel
theorem dX8_free_5 : decode cX8_free 5 = .ok (.if_icmp .ge 17, 3) := by decide +kernel
theorem dX8_free_8 : decode cX8_free 8 = .ok (.aload_n 0, 1) := by decide +kernel
theorem dX8_free_9 : decode cX8_free 9 = .ok (.iload_n 1, 1) := by decide +kernel
theorem dX8_free_10 : decode cX8_free 10 = .ok (.invokevirtual 71, 3) := by decide +kernel
theorem dX8_free_13 : decode cX8_free 13 = .ok (.ifCond .eq 9, 3) := by decide +kernel
theorem dX8_free_16 : decode cX8_free 16 = .ok (.iinc 1 1, 3) := by decide +kernel
theorem dX8_free_19 : decode cX8_free 19 = .ok (.goto (-17), 3) := by decide +kernel
theorem dX8_free_22 : decode cX8_free 22 = .ok (.iload_n 1, 1) := by decide +kernel
theorem dX8_free_23 : decode cX8_free 23 = .ok (.bipush 8, 2) := by decide +kernel
theorem dX8_free_25 : decode cX8_free 25 = .ok (.if_icmp .ge 7, 3) := by decide +kernel
theorem dX8_free_28 : decode cX8_free 28 = .ok (.iload_n 1, 1) := by decide +kernel
theorem dX8_free_29 : decode cX8_free 29 = .ok (.goto 4, 3) := by decide +kernel
theorem dX8_free_32 : decode cX8_free 32 = .ok (.iconst (-1), 1) := by decide +kernel
theorem dX8_free_33 : decode cX8_free 33 = .ok (.ireturn, 1) := by decide +kernel
theorem dX8_lays_0 : decode cX8_lays 0 = .ok (.aload_n 0, 1) := by decide +kernel
theorem dX8_lays_1 : decode cX8_lays 1 = .ok (.invokevirtual 102, 3) := by decide +kernel
theorem dX8_lays_4 : decode cX8_lays 4 = .ok (.istore 5, 2) := by decide +kernel
theorem dX8_lays_6 : decode cX8_lays 6 = .ok (.iload 5, 2) := by decide +kernel
theorem dX8_lays_8 : decode cX8_lays 8 = .ok (.ifCond .lt 44, 3) := by decide +kernel
theorem dX8_lays_11 : decode cX8_lays 11 = .ok (.aload_n 0, 1) := by decide +kernel
theorem dX8_lays_12 : decode cX8_lays 12 = .ok (.iload 5, 2) := by decide +kernel
theorem dX8_lays_14 : decode cX8_lays 14 = .ok (.iconst 0, 1) := by decide +kernel
theorem dX8_lays_15 : decode cX8_lays 15 = .ok (.iload_n 1, 1) := by decide +kernel
theorem dX8_lays_16 : decode cX8_lays 16 = .ok (.invokevirtual 105, 3) := by decide +kernel
theorem dX8_lays_19 : decode cX8_lays 19 = .ok (.aload_n 0, 1) := by decide +kernel
theorem dX8_lays_20 : decode cX8_lays 20 = .ok (.iload 5, 2) := by decide +kernel
theorem dX8_lays_22 : decode cX8_lays 22 = .ok (.iconst 1, 1) := by decide +kernel
theorem dX8_lays_23 : decode cX8_lays 23 = .ok (.iload_n 2, 1) := by decide +kernel
theorem dX8_lays_24 : decode cX8_lays 24 = .ok (.invokevirtual 105, 3) := by decide +kernel
theorem dX8_lays_27 : decode cX8_lays 27 = .ok (.aload_n 0, 1) := by decide +kernel
theorem dX8_lays_28 : decode cX8_lays 28 = .ok (.iload 5, 2) := by decide +kernel
theorem dX8_lays_30 : decode cX8_lays 30 = .ok (.iconst 2, 1) := by decide +kernel
theorem dX8_lays_31 : decode cX8_lays 31 = .ok (.iload_n 3, 1) := by decide +kernel
theorem dX8_lays_32 : decode cX8_lays 32 = .ok (.invokevirtual 105, 3) := by decide +kernel
theorem dX8_lays_35 : decode cX8_lays 35 = .ok (.aload_n 0, 1) := by decide +kernel
theorem dX8_lays_36 : decode cX8_lays 36 = .ok (.iload 5, 2) := by decide +kernel
theorem dX8_lays_38 : decode cX8_lays 38 = .ok (.iconst 3, 1) := by decide +kernel
theorem dX8_lays_39 : decode cX8_lays 39 = .ok (.iload 4, 2) := by decide +kernel
theorem dX8_lays_41 : decode cX8_lays 41 = .ok (.invokevirtual 105, 3) := by decide +kernel
theorem dX8_lays_44 : decode cX8_lays 44 = .ok (.aload_n 0, 1) := by decide +kernel
theorem dX8_lays_45 : decode cX8_lays 45 = .ok (.iload 5, 2) := by decide +kernel
theorem dX8_lays_47 : decode cX8_lays 47 = .ok (.iconst 4, 1) := by decide +kernel
theorem dX8_lays_48 : decode cX8_lays 48 = .ok (.iconst 1, 1) := by decide +kernel
theorem dX8_lays_49 : decode cX8_lays 49 = .ok (.invokevirtual 105, 3) := by decide +kernel
theorem dX8_lays_52 : decode cX8_lays 52 = .ok (.iload 5, 2) := by decide +kernel
theorem dX8_lays_54 : decode cX8_lays 54 = .ok (.ireturn, 1) := by decide +kernel
theorem dX8_goesEgg_0 : decode cX8_goesEgg 0 = .ok (.aload_n 0, 1) := by decide +kernel
theorem dX8_goesEgg_1 : decode cX8_goesEgg 1 = .ok (.iload_n 1, 1) := by decide +kernel
theorem dX8_goesEgg_2 : decode cX8_goesEgg 2 = .ok (.iconst 4, 1) := by decide +kernel
theorem dX8_goesEgg_3 : decode cX8_goesEgg 3 = .ok (.iconst 0, 1) := by decide +kernel
theorem dX8_goesEgg_4 : decode cX8_goesEgg 4 = .ok (.invokevirtual 105, 3) := by decide +kernel
theorem dX8_goesEgg_7 : decode cX8_goesEgg 7 = .ok (.aload_n 0, 1) := by decide +kernel
theorem dX8_goesEgg_8 : decode cX8_goesEgg 8 = .ok (.iload_n 1, 1) := by decide +kernel
theorem dX8_goesEgg_9 : decode cX8_goesEgg 9 = .ok (.iconst 0, 1) := by decide +kernel
theorem dX8_goesEgg_10 : decode cX8_goesEgg 10 = .ok (.iconst 0, 1) := by decide +kernel
theorem dX8_goesEgg_11 : decode cX8_goesEgg 11 = .ok (.invokevirtual 105, 3) := by decide +kernel
theorem dX8_goesEgg_14 : decode cX8_goesEgg 14 = .ok (.aload_n 0, 1) := by decide +kernel
theorem dX8_goesEgg_15 : decode cX8_goesEgg 15 = .ok (.iload_n 1, 1) := by decide +kernel
theorem dX8_goesEgg_16 : decode cX8_goesEgg 16 = .ok (.iconst 1, 1) := by decide +kernel
theorem dX8_goesEgg_17 : decode cX8_goesEgg 17 = .ok (.iconst 0, 1) := by decide +kernel
theorem dX8_goesEgg_18 : decode cX8_goesEgg 18 = .ok (.invokevirtual 105, 3) := by decide +kernel
theorem dX8_goesEgg_21 : decode cX8_goesEgg 21 = .ok (.aload_n 0, 1) := by decide +kernel
theorem dX8_goesEgg_22 : decode cX8_goesEgg 22 = .ok (.iload_n 1, 1) := by decide +kernel
theorem dX8_goesEgg_23 : decode cX8_goesEgg 23 = .ok (.iconst 2, 1) := by decide +kernel
theorem dX8_goesEgg_24 : decode cX8_goesEgg 24 = .ok (.iconst 0, 1) := by decide +kernel
theorem dX8_goesEgg_25 : decode cX8_goesEgg 25 = .ok (.invokevirtual 105, 3) := by decide +kernel
theorem dX8_goesEgg_28 : decode cX8_goesEgg 28 = .ok (.aload_n 0, 1) := by decide +kernel
theorem dX8_goesEgg_29 : decode cX8_goesEgg 29 = .ok (.iload_n 1, 1) := by decide +kernel
theorem dX8_goesEgg_30 : decode cX8_goesEgg 30 = .ok (.iconst 3, 1) := by decide +kernel
theorem dX8_goesEgg_31 : decode cX8_goesEgg 31 = .ok (.iconst 0, 1) := by decide +kernel
theorem dX8_goesEgg_32 : decode cX8_goesEgg 32 = .ok (.invokevirtual 105, 3) := by decide +kernel
theorem dX8_goesEgg_35 : decode cX8_goesEgg 35 = .ok (.return_, 1) := by decide +kernel
theorem dX8_day_0 : decode cX8_day 0 = .ok (.iconst 0, 1) := by decide +kernel
theorem dX8_day_1 : decode cX8_day 1 = .ok (.istore_n 1, 1) := by decide +kernel
theorem dX8_day_2 : decode cX8_day 2 = .ok (.iconst 0, 1) := by decide +kernel
theorem dX8_day_3 : decode cX8_day 3 = .ok (.istore_n 2, 1) := by decide +kernel
theorem dX8_day_4 : decode cX8_day 4 = .ok (.iload_n 2, 1) := by decide +kernel
theorem dX8_day_5 : decode cX8_day 5 = .ok (.bipush 8, 2) := by decide +kernel
theorem dX8_day_7 : decode cX8_day 7 = .ok (.if_icmp .ge 57, 3) := by decide +kernel
theorem dX8_day_10 : decode cX8_day 10 = .ok (.aload_n 0, 1) := by decide +kernel
theorem dX8_day_11 : decode cX8_day 11 = .ok (.iload_n 2, 1) := by decide +kernel
theorem dX8_day_12 : decode cX8_day 12 = .ok (.invokevirtual 71, 3) := by decide +kernel
theorem dX8_day_15 : decode cX8_day 15 = .ok (.ifCond .eq 43, 3) := by decide +kernel
theorem dX8_day_18 : decode cX8_day 18 = .ok (.aload_n 0, 1) := by decide +kernel
theorem dX8_day_19 : decode cX8_day 19 = .ok (.iload_n 2, 1) := by decide +kernel
theorem dX8_day_20 : decode cX8_day 20 = .ok (.iconst 2, 1) := by decide +kernel
theorem dX8_day_21 : decode cX8_day 21 = .ok (.aload_n 0, 1) := by decide +kernel
theorem dX8_day_22 : decode cX8_day 22 = .ok (.iload_n 2, 1) := by decide +kernel
theorem dX8_day_23 : decode cX8_day 23 = .ok (.iconst 2, 1) := by decide +kernel
theorem dX8_day_24 : decode cX8_day 24 = .ok (.invokevirtual 63, 3) := by decide +kernel
theorem dX8_day_27 : decode cX8_day 27 = .ok (.iconst 1, 1) := by decide +kernel
theorem dX8_day_28 : decode cX8_day 28 = .ok (.iadd, 1) := by decide +kernel
theorem dX8_day_29 : decode cX8_day 29 = .ok (.invokevirtual 105, 3) := by decide +kernel
theorem dX8_day_32 : decode cX8_day 32 = .ok (.aload_n 0, 1) := by decide +kernel
theorem dX8_day_33 : decode cX8_day 33 = .ok (.iload_n 2, 1) := by decide +kernel
theorem dX8_day_34 : decode cX8_day 34 = .ok (.iconst 2, 1) := by decide +kernel
theorem dX8_day_35 : decode cX8_day 35 = .ok (.invokevirtual 63, 3) := by decide +kernel
theorem dX8_day_38 : decode cX8_day 38 = .ok (.aload_n 0, 1) := by decide +kernel
theorem dX8_day_39 : decode cX8_day 39 = .ok (.iload_n 2, 1) := by decide +kernel
theorem dX8_day_40 : decode cX8_day 40 = .ok (.iconst 0, 1) := by decide +kernel
theorem dX8_day_41 : decode cX8_day 41 = .ok (.invokevirtual 63, 3) := by decide +kernel
theorem dX8_day_44 : decode cX8_day 44 = .ok (.invokestatic 84, 3) := by decide +kernel
theorem dX8_day_47 : decode cX8_day 47 = .ok (.if_icmp .le 11, 3) := by decide +kernel
theorem dX8_day_50 : decode cX8_day 50 = .ok (.aload_n 0, 1) := by decide +kernel
theorem dX8_day_51 : decode cX8_day 51 = .ok (.iload_n 2, 1) := by decide +kernel
theorem dX8_day_52 : decode cX8_day 52 = .ok (.invokevirtual 109, 3) := by decide +kernel
theorem dX8_day_55 : decode cX8_day 55 = .ok (.iinc 1 1, 3) := by decide +kernel
theorem dX8_day_58 : decode cX8_day 58 = .ok (.iinc 2 1, 3) := by decide +kernel
theorem dX8_day_61 : decode cX8_day 61 = .ok (.goto (-57), 3) := by decide +kernel
theorem dX8_day_64 : decode cX8_day 64 = .ok (.aload_n 0, 1) := by decide +kernel
theorem dX8_day_65 : decode cX8_day 65 = .ok (.getfield 9, 3) := by decide +kernel
theorem dX8_day_68 : decode cX8_day 68 = .ok (.iconst 1, 1) := by decide +kernel
theorem dX8_day_69 : decode cX8_day 69 = .ok (.ldc 57, 2) := by decide +kernel
theorem dX8_day_71 : decode cX8_day 71 = .ok (.aload_n 0, 1) := by decide +kernel
theorem dX8_day_72 : decode cX8_day 72 = .ok (.getfield 9, 3) := by decide +kernel
theorem dX8_day_75 : decode cX8_day 75 = .ok (.iconst 1, 1) := by decide +kernel
theorem dX8_day_76 : decode cX8_day 76 = .ok (.iaload, 1) := by decide +kernel
theorem dX8_day_77 : decode cX8_day 77 = .ok (.iload_n 1, 1) := by decide +kernel
theorem dX8_day_78 : decode cX8_day 78 = .ok (.iadd, 1) := by decide +kernel
theorem dX8_day_79 : decode cX8_day 79 = .ok (.invokestatic 77, 3) := by decide +kernel
theorem dX8_day_82 : decode cX8_day 82 = .ok (.iastore, 1) := by decide +kernel
theorem dX8_day_83 : decode cX8_day 83 = .ok (.aload_n 0, 1) := by decide +kernel
theorem dX8_day_84 : decode cX8_day 84 = .ok (.getfield 9, 3) := by decide +kernel
theorem dX8_day_87 : decode cX8_day 87 = .ok (.iconst 0, 1) := by decide +kernel
theorem dX8_day_88 : decode cX8_day 88 = .ok (.ldc 57, 2) := by decide +kernel
theorem dX8_day_90 : decode cX8_day 90 = .ok (.aload_n 0, 1) := by decide +kernel
theorem dX8_day_91 : decode cX8_day 91 = .ok (.getfield 9, 3) := by decide +kernel
theorem dX8_day_94 : decode cX8_day 94 = .ok (.iconst 0, 1) := by decide +kernel
theorem dX8_day_95 : decode cX8_day 95 = .ok (.iaload, 1) := by decide +kernel
theorem dX8_day_96 : decode cX8_day 96 = .ok (.iconst 1, 1) := by decide +kernel
theorem dX8_day_97 : decode cX8_day 97 = .ok (.iadd, 1) := by decide +kernel
theorem dX8_day_98 : decode cX8_day 98 = .ok (.invokestatic 77, 3) := by decide +kernel
theorem dX8_day_101 : decode cX8_day 101 = .ok (.iastore, 1) := by decide +kernel
theorem dX8_day_102 : decode cX8_day 102 = .ok (.iconst 0, 1) := by decide +kernel
theorem dX8_day_103 : decode cX8_day 103 = .ok (.istore_n 2, 1) := by decide +kernel
theorem dX8_day_104 : decode cX8_day 104 = .ok (.iload_n 2, 1) := by decide +kernel
theorem dX8_day_105 : decode cX8_day 105 = .ok (.iconst 4, 1) := by decide +kernel
theorem dX8_day_106 : decode cX8_day 106 = .ok (.if_icmp .ge 58, 3) := by decide +kernel
theorem dX8_day_109 : decode cX8_day 109 = .ok (.aload_n 0, 1) := by decide +kernel
theorem dX8_day_110 : decode cX8_day 110 = .ok (.iload_n 2, 1) := by decide +kernel
theorem dX8_day_111 : decode cX8_day 111 = .ok (.iconst 0, 1) := by decide +kernel
theorem dX8_day_112 : decode cX8_day 112 = .ok (.invokevirtual 113, 3) := by decide +kernel
theorem dX8_day_115 : decode cX8_day 115 = .ok (.ifCond .le 43, 3) := by decide +kernel
theorem dX8_day_118 : decode cX8_day 118 = .ok (.aload_n 0, 1) := by decide +kernel
theorem dX8_day_119 : decode cX8_day 119 = .ok (.getfield 9, 3) := by decide +kernel
theorem dX8_day_122 : decode cX8_day 122 = .ok (.iconst 0, 1) := by decide +kernel
theorem dX8_day_123 : decode cX8_day 123 = .ok (.iaload, 1) := by decide +kernel
theorem dX8_day_124 : decode cX8_day 124 = .ok (.aload_n 0, 1) := by decide +kernel
theorem dX8_day_125 : decode cX8_day 125 = .ok (.iload_n 2, 1) := by decide +kernel
theorem dX8_day_126 : decode cX8_day 126 = .ok (.iconst 0, 1) := by decide +kernel
theorem dX8_day_127 : decode cX8_day 127 = .ok (.invokevirtual 113, 3) := by decide +kernel
theorem dX8_day_130 : decode cX8_day 130 = .ok (.irem, 1) := by decide +kernel
theorem dX8_day_131 : decode cX8_day 131 = .ok (.ifCond .ne 27, 3) := by decide +kernel
theorem dX8_day_134 : decode cX8_day 134 = .ok (.aload_n 0, 1) := by decide +kernel
theorem dX8_day_135 : decode cX8_day 135 = .ok (.aload_n 0, 1) := by decide +kernel
theorem dX8_day_136 : decode cX8_day 136 = .ok (.iload_n 2, 1) := by decide +kernel
theorem dX8_day_137 : decode cX8_day 137 = .ok (.iconst 1, 1) := by decide +kernel
theorem dX8_day_138 : decode cX8_day 138 = .ok (.invokevirtual 113, 3) := by decide +kernel
theorem dX8_day_141 : decode cX8_day 141 = .ok (.aload_n 0, 1) := by decide +kernel
theorem dX8_day_142 : decode cX8_day 142 = .ok (.iload_n 2, 1) := by decide +kernel
theorem dX8_day_143 : decode cX8_day 143 = .ok (.iconst 2, 1) := by decide +kernel
theorem dX8_day_144 : decode cX8_day 144 = .ok (.invokevirtual 113, 3) := by decide +kernel
theorem dX8_day_147 : decode cX8_day 147 = .ok (.iconst 0, 1) := by decide +kernel
theorem dX8_day_148 : decode cX8_day 148 = .ok (.aload_n 0, 1) := by decide +kernel
theorem dX8_day_149 : decode cX8_day 149 = .ok (.iload_n 2, 1) := by decide +kernel
theorem dX8_day_150 : decode cX8_day 150 = .ok (.iconst 3, 1) := by decide +kernel
theorem dX8_day_151 : decode cX8_day 151 = .ok (.invokevirtual 113, 3) := by decide +kernel
theorem dX8_day_154 : decode cX8_day 154 = .ok (.invokevirtual 116, 3) := by decide +kernel
theorem dX8_day_157 : decode cX8_day 157 = .ok (.istore_n 3, 1) := by decide +kernel
theorem dX8_day_158 : decode cX8_day 158 = .ok (.iinc 2 1, 3) := by decide +kernel
theorem dX8_day_161 : decode cX8_day 161 = .ok (.goto (-57), 3) := by decide +kernel
theorem dX8_day_164 : decode cX8_day 164 = .ok (.iload_n 1, 1) := by decide +kernel
theorem dX8_day_165 : decode cX8_day 165 = .ok (.ireturn, 1) := by decide +kernel
theorem dX8_egg_0 : decode cX8_egg 0 = .ok (.iload_n 1, 1) := by decide +kernel
theorem dX8_egg_1 : decode cX8_egg 1 = .ok (.iconst 0, 1) := by decide +kernel
theorem dX8_egg_2 : decode cX8_egg 2 = .ok (.bipush 6, 2) := by decide +kernel
theorem dX8_egg_4 : decode cX8_egg 4 = .ok (.invokestatic 59, 3) := by decide +kernel
theorem dX8_egg_7 : decode cX8_egg 7 = .ok (.ifCond .eq 22, 3) := by decide +kernel
theorem dX8_egg_10 : decode cX8_egg 10 = .ok (.iload_n 2, 1) := by decide +kernel
theorem dX8_egg_11 : decode cX8_egg 11 = .ok (.iconst 1, 1) := by decide +kernel
theorem dX8_egg_12 : decode cX8_egg 12 = .ok (.bipush 99, 2) := by decide +kernel
theorem dX8_egg_14 : decode cX8_egg 14 = .ok (.invokestatic 59, 3) := by decide +kernel
theorem dX8_egg_17 : decode cX8_egg 17 = .ok (.ifCond .eq 12, 3) := by decide +kernel
theorem dX8_egg_20 : decode cX8_egg 20 = .ok (.iload_n 3, 1) := by decide +kernel
theorem dX8_egg_21 : decode cX8_egg 21 = .ok (.iconst 0, 1) := by decide +kernel
theorem dX8_egg_22 : decode cX8_egg 22 = .ok (.iconst 3, 1) := by decide +kernel
theorem dX8_egg_23 : decode cX8_egg 23 = .ok (.invokestatic 59, 3) := by decide +kernel
theorem dX8_egg_26 : decode cX8_egg 26 = .ok (.ifCond .ne 9, 3) := by decide +kernel
theorem dX8_egg_29 : decode cX8_egg 29 = .ok (.aload_n 0, 1) := by decide +kernel
theorem dX8_egg_30 : decode cX8_egg 30 = .ok (.iconst 0, 1) := by decide +kernel
theorem dX8_egg_31 : decode cX8_egg 31 = .ok (.invokevirtual 119, 3) := by decide +kernel
theorem dX8_egg_34 : decode cX8_egg 34 = .ok (.ireturn, 1) := by decide +kernel
theorem dX8_egg_35 : decode cX8_egg 35 = .ok (.aload_n 0, 1) := by decide +kernel
theorem dX8_egg_36 : decode cX8_egg 36 = .ok (.iload_n 1, 1) := by decide +kernel
theorem dX8_egg_37 : decode cX8_egg 37 = .ok (.iload_n 2, 1) := by decide +kernel
theorem dX8_egg_38 : decode cX8_egg 38 = .ok (.iconst 0, 1) := by decide +kernel
theorem dX8_egg_39 : decode cX8_egg 39 = .ok (.iload_n 3, 1) := by decide +kernel
theorem dX8_egg_40 : decode cX8_egg 40 = .ok (.invokevirtual 116, 3) := by decide +kernel
theorem dX8_egg_43 : decode cX8_egg 43 = .ok (.istore 4, 2) := by decide +kernel
theorem dX8_egg_45 : decode cX8_egg 45 = .ok (.iload 4, 2) := by decide +kernel
theorem dX8_egg_47 : decode cX8_egg 47 = .ok (.ifCond .ge 11, 3) := by decide +kernel
theorem dX8_egg_50 : decode cX8_egg 50 = .ok (.aload_n 0, 1) := by decide +kernel
theorem dX8_egg_51 : decode cX8_egg 51 = .ok (.iconst 1, 1) := by decide +kernel
theorem dX8_egg_52 : decode cX8_egg 52 = .ok (.invokevirtual 119, 3) := by decide +kernel
theorem dX8_egg_55 : decode cX8_egg 55 = .ok (.goto 5, 3) := by decide +kernel
theorem dX8_egg_58 : decode cX8_egg 58 = .ok (.iload 4, 2) := by decide +kernel
theorem dX8_egg_60 : decode cX8_egg 60 = .ok (.ireturn, 1) := by decide +kernel
theorem dX8_of_0 : decode cX8_of 0 = .ok (.aload_n 0, 1) := by decide +kernel
theorem dX8_of_1 : decode cX8_of 1 = .ok (.iload_n 1, 1) := by decide +kernel
theorem dX8_of_2 : decode cX8_of 2 = .ok (.invokevirtual 122, 3) := by decide +kernel
theorem dX8_of_5 : decode cX8_of 5 = .ok (.ifCond .eq 12, 3) := by decide +kernel
theorem dX8_of_8 : decode cX8_of 8 = .ok (.iload_n 2, 1) := by decide +kernel
theorem dX8_of_9 : decode cX8_of 9 = .ok (.iconst 0, 1) := by decide +kernel
theorem dX8_of_10 : decode cX8_of 10 = .ok (.iconst 5, 1) := by decide +kernel
theorem dX8_of_11 : decode cX8_of 11 = .ok (.invokestatic 59, 3) := by decide +kernel
theorem dX8_of_14 : decode cX8_of 14 = .ok (.ifCond .ne 9, 3) := by decide +kernel
theorem dX8_of_17 : decode cX8_of 17 = .ok (.aload_n 0, 1) := by decide +kernel
theorem dX8_of_18 : decode cX8_of 18 = .ok (.iconst 0, 1) := by decide +kernel
theorem dX8_of_19 : decode cX8_of 19 = .ok (.invokevirtual 119, 3) := by decide +kernel
theorem dX8_of_22 : decode cX8_of 22 = .ok (.ireturn, 1) := by decide +kernel
theorem dX8_of_23 : decode cX8_of 23 = .ok (.iload_n 2, 1) := by decide +kernel
theorem dX8_of_24 : decode cX8_of 24 = .ok (.iconst 4, 1) := by decide +kernel
theorem dX8_of_25 : decode cX8_of 25 = .ok (.if_icmp .ge 12, 3) := by decide +kernel
theorem dX8_of_28 : decode cX8_of 28 = .ok (.aload_n 0, 1) := by decide +kernel
theorem dX8_of_29 : decode cX8_of 29 = .ok (.iload_n 1, 1) := by decide +kernel
theorem dX8_of_30 : decode cX8_of 30 = .ok (.iload_n 2, 1) := by decide +kernel
theorem dX8_of_31 : decode cX8_of 31 = .ok (.invokevirtual 63, 3) := by decide +kernel
theorem dX8_of_34 : decode cX8_of 34 = .ok (.goto 25, 3) := by decide +kernel
theorem dX8_of_37 : decode cX8_of 37 = .ok (.iload_n 2, 1) := by decide +kernel
theorem dX8_of_38 : decode cX8_of 38 = .ok (.iconst 4, 1) := by decide +kernel
theorem dX8_of_39 : decode cX8_of 39 = .ok (.if_icmp .ne 11, 3) := by decide +kernel
theorem dX8_of_42 : decode cX8_of 42 = .ok (.aload_n 0, 1) := by decide +kernel
theorem dX8_of_43 : decode cX8_of 43 = .ok (.iload_n 1, 1) := by decide +kernel
theorem dX8_of_44 : decode cX8_of 44 = .ok (.invokevirtual 92, 3) := by decide +kernel
theorem dX8_of_47 : decode cX8_of 47 = .ok (.goto 12, 3) := by decide +kernel
theorem dX8_of_50 : decode cX8_of 50 = .ok (.aload_n 0, 1) := by decide +kernel
theorem dX8_of_51 : decode cX8_of 51 = .ok (.iload_n 1, 1) := by decide +kernel
theorem dX8_of_52 : decode cX8_of 52 = .ok (.iconst 0, 1) := by decide +kernel
theorem dX8_of_53 : decode cX8_of 53 = .ok (.invokevirtual 63, 3) := by decide +kernel
theorem dX8_of_56 : decode cX8_of 56 = .ok (.invokestatic 84, 3) := by decide +kernel
theorem dX8_of_59 : decode cX8_of 59 = .ok (.ireturn, 1) := by decide +kernel
theorem dX8_change_0 : decode cX8_change 0 = .ok (.iload_n 2, 1) := by decide +kernel
theorem dX8_change_1 : decode cX8_change 1 = .ok (.ifCond .ne 8, 3) := by decide +kernel
theorem dX8_change_4 : decode cX8_change 4 = .ok (.bipush 6, 2) := by decide +kernel
theorem dX8_change_6 : decode cX8_change 6 = .ok (.goto 14, 3) := by decide +kernel
theorem dX8_change_9 : decode cX8_change 9 = .ok (.iload_n 2, 1) := by decide +kernel
theorem dX8_change_10 : decode cX8_change 10 = .ok (.iconst 3, 1) := by decide +kernel
theorem dX8_change_11 : decode cX8_change 11 = .ok (.if_icmp .ne 7, 3) := by decide +kernel
theorem dX8_change_14 : decode cX8_change 14 = .ok (.iconst 3, 1) := by decide +kernel
theorem dX8_change_15 : decode cX8_change 15 = .ok (.goto 5, 3) := by decide +kernel
theorem dX8_change_18 : decode cX8_change 18 = .ok (.bipush 99, 2) := by decide +kernel
theorem dX8_change_20 : decode cX8_change 20 = .ok (.istore 4, 2) := by decide +kernel
theorem dX8_change_22 : decode cX8_change 22 = .ok (.aload_n 0, 1) := by decide +kernel
theorem dX8_change_23 : decode cX8_change 23 = .ok (.iload_n 1, 1) := by decide +kernel
theorem dX8_change_24 : decode cX8_change 24 = .ok (.invokevirtual 122, 3) := by decide +kernel
theorem dX8_change_27 : decode cX8_change 27 = .ok (.ifCond .eq 31, 3) := by decide +kernel
theorem dX8_change_30 : decode cX8_change 30 = .ok (.iload_n 2, 1) := by decide +kernel
theorem dX8_change_31 : decode cX8_change 31 = .ok (.iconst 0, 1) := by decide +kernel
theorem dX8_change_32 : decode cX8_change 32 = .ok (.iconst 3, 1) := by decide +kernel
theorem dX8_change_33 : decode cX8_change 33 = .ok (.invokestatic 59, 3) := by decide +kernel
theorem dX8_change_36 : decode cX8_change 36 = .ok (.ifCond .eq 22, 3) := by decide +kernel
theorem dX8_change_39 : decode cX8_change 39 = .ok (.iload_n 3, 1) := by decide +kernel
theorem dX8_change_40 : decode cX8_change 40 = .ok (.iload_n 2, 1) := by decide +kernel
theorem dX8_change_41 : decode cX8_change 41 = .ok (.iconst 1, 1) := by decide +kernel
theorem dX8_change_42 : decode cX8_change 42 = .ok (.if_icmp .ne 7, 3) := by decide +kernel
theorem dX8_change_45 : decode cX8_change 45 = .ok (.iconst 1, 1) := by decide +kernel
theorem dX8_change_46 : decode cX8_change 46 = .ok (.goto 4, 3) := by decide +kernel
theorem dX8_change_49 : decode cX8_change 49 = .ok (.iconst 0, 1) := by decide +kernel
theorem dX8_change_50 : decode cX8_change 50 = .ok (.iload 4, 2) := by decide +kernel
theorem dX8_change_52 : decode cX8_change 52 = .ok (.invokestatic 59, 3) := by decide +kernel
theorem dX8_change_55 : decode cX8_change 55 = .ok (.ifCond .ne 9, 3) := by decide +kernel
theorem dX8_change_58 : decode cX8_change 58 = .ok (.aload_n 0, 1) := by decide +kernel
theorem dX8_change_59 : decode cX8_change 59 = .ok (.iconst 0, 1) := by decide +kernel
theorem dX8_change_60 : decode cX8_change 60 = .ok (.invokevirtual 119, 3) := by decide +kernel
theorem dX8_change_63 : decode cX8_change 63 = .ok (.ireturn, 1) := by decide +kernel
theorem dX8_change_64 : decode cX8_change 64 = .ok (.aload_n 0, 1) := by decide +kernel
theorem dX8_change_65 : decode cX8_change 65 = .ok (.iload_n 1, 1) := by decide +kernel
theorem dX8_change_66 : decode cX8_change 66 = .ok (.iload_n 2, 1) := by decide +kernel
theorem dX8_change_67 : decode cX8_change 67 = .ok (.invokevirtual 63, 3) := by decide +kernel
theorem dX8_change_70 : decode cX8_change 70 = .ok (.istore 5, 2) := by decide +kernel
theorem dX8_change_72 : decode cX8_change 72 = .ok (.aload_n 0, 1) := by decide +kernel
theorem dX8_change_73 : decode cX8_change 73 = .ok (.iload_n 1, 1) := by decide +kernel
theorem dX8_change_74 : decode cX8_change 74 = .ok (.iload_n 2, 1) := by decide +kernel
theorem dX8_change_75 : decode cX8_change 75 = .ok (.iload_n 3, 1) := by decide +kernel
theorem dX8_change_76 : decode cX8_change 76 = .ok (.invokevirtual 105, 3) := by decide +kernel
theorem dX8_change_79 : decode cX8_change 79 = .ok (.iload 5, 2) := by decide +kernel
theorem dX8_change_81 : decode cX8_change 81 = .ok (.ireturn, 1) := by decide +kernel
theorem dX8_hen_0 : decode cX8_hen 0 = .ok (.iload_n 2, 1) := by decide +kernel
theorem dX8_hen_1 : decode cX8_hen 1 = .ok (.ifCond .ne 8, 3) := by decide +kernel
theorem dX8_hen_4 : decode cX8_hen 4 = .ok (.bipush 30, 2) := by decide +kernel
theorem dX8_hen_6 : decode cX8_hen 6 = .ok (.goto 24, 3) := by decide +kernel
theorem dX8_hen_9 : decode cX8_hen 9 = .ok (.iload_n 2, 1) := by decide +kernel
theorem dX8_hen_10 : decode cX8_hen 10 = .ok (.iconst 1, 1) := by decide +kernel
theorem dX8_hen_11 : decode cX8_hen 11 = .ok (.if_icmp .ne 8, 3) := by decide +kernel
theorem dX8_hen_14 : decode cX8_hen 14 = .ok (.bipush 6, 2) := by decide +kernel
theorem dX8_hen_16 : decode cX8_hen 16 = .ok (.goto 14, 3) := by decide +kernel
theorem dX8_hen_19 : decode cX8_hen 19 = .ok (.iload_n 2, 1) := by decide +kernel
theorem dX8_hen_20 : decode cX8_hen 20 = .ok (.iconst 2, 1) := by decide +kernel
theorem dX8_hen_21 : decode cX8_hen 21 = .ok (.if_icmp .ne 8, 3) := by decide +kernel
theorem dX8_hen_24 : decode cX8_hen 24 = .ok (.bipush 99, 2) := by decide +kernel
theorem dX8_hen_26 : decode cX8_hen 26 = .ok (.goto 4, 3) := by decide +kernel
theorem dX8_hen_29 : decode cX8_hen 29 = .ok (.iconst 3, 1) := by decide +kernel
theorem dX8_hen_30 : decode cX8_hen 30 = .ok (.istore 4, 2) := by decide +kernel
theorem dX8_hen_32 : decode cX8_hen 32 = .ok (.iload_n 1, 1) := by decide +kernel
theorem dX8_hen_33 : decode cX8_hen 33 = .ok (.invokestatic 125, 3) := by decide +kernel
theorem dX8_hen_36 : decode cX8_hen 36 = .ok (.ifCond .eq 31, 3) := by decide +kernel
theorem dX8_hen_39 : decode cX8_hen 39 = .ok (.iload_n 2, 1) := by decide +kernel
theorem dX8_hen_40 : decode cX8_hen 40 = .ok (.iconst 0, 1) := by decide +kernel
theorem dX8_hen_41 : decode cX8_hen 41 = .ok (.iconst 3, 1) := by decide +kernel
theorem dX8_hen_42 : decode cX8_hen 42 = .ok (.invokestatic 59, 3) := by decide +kernel
theorem dX8_hen_45 : decode cX8_hen 45 = .ok (.ifCond .eq 22, 3) := by decide +kernel
theorem dX8_hen_48 : decode cX8_hen 48 = .ok (.iload_n 3, 1) := by decide +kernel
theorem dX8_hen_49 : decode cX8_hen 49 = .ok (.iload_n 2, 1) := by decide +kernel
theorem dX8_hen_50 : decode cX8_hen 50 = .ok (.iconst 2, 1) := by decide +kernel
theorem dX8_hen_51 : decode cX8_hen 51 = .ok (.if_icmp .ne 7, 3) := by decide +kernel
theorem dX8_hen_54 : decode cX8_hen 54 = .ok (.iconst 1, 1) := by decide +kernel
theorem dX8_hen_55 : decode cX8_hen 55 = .ok (.goto 4, 3) := by decide +kernel
theorem dX8_hen_58 : decode cX8_hen 58 = .ok (.iconst 0, 1) := by decide +kernel
theorem dX8_hen_59 : decode cX8_hen 59 = .ok (.iload 4, 2) := by decide +kernel
theorem dX8_hen_61 : decode cX8_hen 61 = .ok (.invokestatic 59, 3) := by decide +kernel
theorem dX8_hen_64 : decode cX8_hen 64 = .ok (.ifCond .ne 9, 3) := by decide +kernel
theorem dX8_hen_67 : decode cX8_hen 67 = .ok (.aload_n 0, 1) := by decide +kernel
theorem dX8_hen_68 : decode cX8_hen 68 = .ok (.iconst 0, 1) := by decide +kernel
theorem dX8_hen_69 : decode cX8_hen 69 = .ok (.invokevirtual 119, 3) := by decide +kernel
theorem dX8_hen_72 : decode cX8_hen 72 = .ok (.ireturn, 1) := by decide +kernel
theorem dX8_hen_73 : decode cX8_hen 73 = .ok (.aload_n 0, 1) := by decide +kernel
theorem dX8_hen_74 : decode cX8_hen 74 = .ok (.iload_n 1, 1) := by decide +kernel
theorem dX8_hen_75 : decode cX8_hen 75 = .ok (.iload_n 2, 1) := by decide +kernel
theorem dX8_hen_76 : decode cX8_hen 76 = .ok (.invokevirtual 113, 3) := by decide +kernel
theorem dX8_hen_79 : decode cX8_hen 79 = .ok (.istore 5, 2) := by decide +kernel
theorem dX8_hen_81 : decode cX8_hen 81 = .ok (.aload_n 0, 1) := by decide +kernel
theorem dX8_hen_82 : decode cX8_hen 82 = .ok (.getfield 9, 3) := by decide +kernel
theorem dX8_hen_85 : decode cX8_hen 85 = .ok (.bipush 43, 2) := by decide +kernel
theorem dX8_hen_87 : decode cX8_hen 87 = .ok (.iconst 4, 1) := by decide +kernel
theorem dX8_hen_88 : decode cX8_hen 88 = .ok (.iload_n 1, 1) := by decide +kernel
theorem dX8_hen_89 : decode cX8_hen 89 = .ok (.imul, 1) := by decide +kernel
theorem dX8_hen_90 : decode cX8_hen 90 = .ok (.iadd, 1) := by decide +kernel
theorem dX8_hen_91 : decode cX8_hen 91 = .ok (.iload_n 2, 1) := by decide +kernel
theorem dX8_hen_92 : decode cX8_hen 92 = .ok (.iadd, 1) := by decide +kernel
theorem dX8_hen_93 : decode cX8_hen 93 = .ok (.iload_n 3, 1) := by decide +kernel
theorem dX8_hen_94 : decode cX8_hen 94 = .ok (.iastore, 1) := by decide +kernel
theorem dX8_hen_95 : decode cX8_hen 95 = .ok (.iload 5, 2) := by decide +kernel
theorem dX8_hen_97 : decode cX8_hen 97 = .ok (.ireturn, 1) := by decide +kernel
theorem dX8_work_0 : decode cX8_work 0 = .ok (.iload_n 2, 1) := by decide +kernel
theorem dX8_work_1 : decode cX8_work 1 = .ok (.ifCond .ne 9, 3) := by decide +kernel
theorem dX8_work_4 : decode cX8_work 4 = .ok (.sipush 999, 3) := by decide +kernel
theorem dX8_work_7 : decode cX8_work 7 = .ok (.goto 26, 3) := by decide +kernel
theorem dX8_work_10 : decode cX8_work 10 = .ok (.iload_n 2, 1) := by decide +kernel
theorem dX8_work_11 : decode cX8_work 11 = .ok (.iconst 1, 1) := by decide +kernel
theorem dX8_work_12 : decode cX8_work 12 = .ok (.if_icmp .ne 8, 3) := by decide +kernel
theorem dX8_work_15 : decode cX8_work 15 = .ok (.ldc 57, 2) := by decide +kernel
theorem dX8_work_17 : decode cX8_work 17 = .ok (.goto 16, 3) := by decide +kernel
theorem dX8_work_20 : decode cX8_work 20 = .ok (.iload_n 2, 1) := by decide +kernel
theorem dX8_work_21 : decode cX8_work 21 = .ok (.iconst 2, 1) := by decide +kernel
theorem dX8_work_22 : decode cX8_work 22 = .ok (.if_icmp .ne 8, 3) := by decide +kernel
theorem dX8_work_25 : decode cX8_work 25 = .ok (.bipush 99, 2) := by decide +kernel
theorem dX8_work_27 : decode cX8_work 27 = .ok (.goto 6, 3) := by decide +kernel
theorem dX8_work_30 : decode cX8_work 30 = .ok (.sipush 9999, 3) := by decide +kernel
theorem dX8_work_33 : decode cX8_work 33 = .ok (.istore 4, 2) := by decide +kernel
theorem dX8_work_35 : decode cX8_work 35 = .ok (.iload_n 1, 1) := by decide +kernel
theorem dX8_work_36 : decode cX8_work 36 = .ok (.invokestatic 128, 3) := by decide +kernel
theorem dX8_work_39 : decode cX8_work 39 = .ok (.ifCond .eq 33, 3) := by decide +kernel
theorem dX8_work_42 : decode cX8_work 42 = .ok (.iload_n 2, 1) := by decide +kernel
theorem dX8_work_43 : decode cX8_work 43 = .ok (.iconst 0, 1) := by decide +kernel
theorem dX8_work_44 : decode cX8_work 44 = .ok (.iconst 3, 1) := by decide +kernel
theorem dX8_work_45 : decode cX8_work 45 = .ok (.invokestatic 59, 3) := by decide +kernel
theorem dX8_work_48 : decode cX8_work 48 = .ok (.ifCond .eq 24, 3) := by decide +kernel
theorem dX8_work_51 : decode cX8_work 51 = .ok (.iload_n 3, 1) := by decide +kernel
theorem dX8_work_52 : decode cX8_work 52 = .ok (.iload_n 2, 1) := by decide +kernel
theorem dX8_work_53 : decode cX8_work 53 = .ok (.iconst 3, 1) := by decide +kernel
theorem dX8_work_54 : decode cX8_work 54 = .ok (.if_icmp .ne 9, 3) := by decide +kernel
theorem dX8_work_57 : decode cX8_work 57 = .ok (.sipush (-9999), 3) := by decide +kernel
theorem dX8_work_60 : decode cX8_work 60 = .ok (.goto 4, 3) := by decide +kernel
theorem dX8_work_63 : decode cX8_work 63 = .ok (.iconst 0, 1) := by decide +kernel
theorem dX8_work_64 : decode cX8_work 64 = .ok (.iload 4, 2) := by decide +kernel
theorem dX8_work_66 : decode cX8_work 66 = .ok (.invokestatic 59, 3) := by decide +kernel
theorem dX8_work_69 : decode cX8_work 69 = .ok (.ifCond .ne 9, 3) := by decide +kernel
theorem dX8_work_72 : decode cX8_work 72 = .ok (.aload_n 0, 1) := by decide +kernel
theorem dX8_work_73 : decode cX8_work 73 = .ok (.iconst 0, 1) := by decide +kernel
theorem dX8_work_74 : decode cX8_work 74 = .ok (.invokevirtual 119, 3) := by decide +kernel
theorem dX8_work_77 : decode cX8_work 77 = .ok (.ireturn, 1) := by decide +kernel
theorem dX8_work_78 : decode cX8_work 78 = .ok (.aload_n 0, 1) := by decide +kernel
theorem dX8_work_79 : decode cX8_work 79 = .ok (.iload_n 1, 1) := by decide +kernel
theorem dX8_work_80 : decode cX8_work 80 = .ok (.iload_n 2, 1) := by decide +kernel
theorem dX8_work_81 : decode cX8_work 81 = .ok (.invokevirtual 131, 3) := by decide +kernel
theorem dX8_work_84 : decode cX8_work 84 = .ok (.istore 5, 2) := by decide +kernel
theorem dX8_work_86 : decode cX8_work 86 = .ok (.aload_n 0, 1) := by decide +kernel
theorem dX8_work_87 : decode cX8_work 87 = .ok (.getfield 9, 3) := by decide +kernel
theorem dX8_work_90 : decode cX8_work 90 = .ok (.bipush 59, 2) := by decide +kernel
theorem dX8_work_92 : decode cX8_work 92 = .ok (.iconst 4, 1) := by decide +kernel
theorem dX8_work_93 : decode cX8_work 93 = .ok (.iload_n 1, 1) := by decide +kernel
theorem dX8_work_94 : decode cX8_work 94 = .ok (.imul, 1) := by decide +kernel
theorem dX8_work_95 : decode cX8_work 95 = .ok (.iadd, 1) := by decide +kernel
theorem dX8_work_96 : decode cX8_work 96 = .ok (.iload_n 2, 1) := by decide +kernel
theorem dX8_work_97 : decode cX8_work 97 = .ok (.iadd, 1) := by decide +kernel
theorem dX8_work_98 : decode cX8_work 98 = .ok (.iload_n 3, 1) := by decide +kernel
theorem dX8_work_99 : decode cX8_work 99 = .ok (.iastore, 1) := by decide +kernel
theorem dX8_work_100 : decode cX8_work 100 = .ok (.iload 5, 2) := by decide +kernel
theorem dX8_work_102 : decode cX8_work 102 = .ok (.ireturn, 1) := by decide +kernel
theorem dX8_henOf_0 : decode cX8_henOf 0 = .ok (.iload_n 1, 1) := by decide +kernel
theorem dX8_henOf_1 : decode cX8_henOf 1 = .ok (.invokestatic 125, 3) := by decide +kernel
theorem dX8_henOf_4 : decode cX8_henOf 4 = .ok (.ifCond .eq 21, 3) := by decide +kernel
theorem dX8_henOf_7 : decode cX8_henOf 7 = .ok (.iload_n 2, 1) := by decide +kernel
theorem dX8_henOf_8 : decode cX8_henOf 8 = .ok (.iconst 0, 1) := by decide +kernel
theorem dX8_henOf_9 : decode cX8_henOf 9 = .ok (.iconst 3, 1) := by decide +kernel
theorem dX8_henOf_10 : decode cX8_henOf 10 = .ok (.invokestatic 59, 3) := by decide +kernel
theorem dX8_henOf_13 : decode cX8_henOf 13 = .ok (.ifCond .eq 12, 3) := by decide +kernel
theorem dX8_henOf_16 : decode cX8_henOf 16 = .ok (.aload_n 0, 1) := by decide +kernel
theorem dX8_henOf_17 : decode cX8_henOf 17 = .ok (.iload_n 1, 1) := by decide +kernel
theorem dX8_henOf_18 : decode cX8_henOf 18 = .ok (.iload_n 2, 1) := by decide +kernel
theorem dX8_henOf_19 : decode cX8_henOf 19 = .ok (.invokevirtual 113, 3) := by decide +kernel
theorem dX8_henOf_22 : decode cX8_henOf 22 = .ok (.goto 8, 3) := by decide +kernel
theorem dX8_henOf_25 : decode cX8_henOf 25 = .ok (.aload_n 0, 1) := by decide +kernel
theorem dX8_henOf_26 : decode cX8_henOf 26 = .ok (.iconst 0, 1) := by decide +kernel
theorem dX8_henOf_27 : decode cX8_henOf 27 = .ok (.invokevirtual 119, 3) := by decide +kernel
theorem dX8_henOf_30 : decode cX8_henOf 30 = .ok (.ireturn, 1) := by decide +kernel
theorem dX8_isDone_0 : decode cX8_isDone 0 = .ok (.aload_n 0, 1) := by decide +kernel
theorem dX8_isDone_1 : decode cX8_isDone 1 = .ok (.iload_n 1, 1) := by decide +kernel
theorem dX8_isDone_2 : decode cX8_isDone 2 = .ok (.iconst 3, 1) := by decide +kernel
theorem dX8_isDone_3 : decode cX8_isDone 3 = .ok (.invokevirtual 131, 3) := by decide +kernel
theorem dX8_isDone_6 : decode cX8_isDone 6 = .ok (.aload_n 0, 1) := by decide +kernel
theorem dX8_isDone_7 : decode cX8_isDone 7 = .ok (.iload_n 1, 1) := by decide +kernel
theorem dX8_isDone_8 : decode cX8_isDone 8 = .ok (.iconst 0, 1) := by decide +kernel
theorem dX8_isDone_9 : decode cX8_isDone 9 = .ok (.invokevirtual 131, 3) := by decide +kernel
theorem dX8_isDone_12 : decode cX8_isDone 12 = .ok (.if_icmp .lt 7, 3) := by decide +kernel
theorem dX8_isDone_15 : decode cX8_isDone 15 = .ok (.iconst 1, 1) := by decide +kernel
theorem dX8_isDone_16 : decode cX8_isDone 16 = .ok (.goto 4, 3) := by decide +kernel
theorem dX8_isDone_19 : decode cX8_isDone 19 = .ok (.iconst 0, 1) := by decide +kernel
theorem dX8_isDone_20 : decode cX8_isDone 20 = .ok (.ireturn, 1) := by decide +kernel
theorem dX8_workOf_0 : decode cX8_workOf 0 = .ok (.iload_n 1, 1) := by decide +kernel
theorem dX8_workOf_1 : decode cX8_workOf 1 = .ok (.invokestatic 128, 3) := by decide +kernel
theorem dX8_workOf_4 : decode cX8_workOf 4 = .ok (.ifCond .eq 12, 3) := by decide +kernel
theorem dX8_workOf_7 : decode cX8_workOf 7 = .ok (.iload_n 2, 1) := by decide +kernel
theorem dX8_workOf_8 : decode cX8_workOf 8 = .ok (.iconst 0, 1) := by decide +kernel
theorem dX8_workOf_9 : decode cX8_workOf 9 = .ok (.iconst 4, 1) := by decide +kernel
theorem dX8_workOf_10 : decode cX8_workOf 10 = .ok (.invokestatic 59, 3) := by decide +kernel
theorem dX8_workOf_13 : decode cX8_workOf 13 = .ok (.ifCond .ne 9, 3) := by decide +kernel
theorem dX8_workOf_16 : decode cX8_workOf 16 = .ok (.aload_n 0, 1) := by decide +kernel
theorem dX8_workOf_17 : decode cX8_workOf 17 = .ok (.iconst 0, 1) := by decide +kernel
theorem dX8_workOf_18 : decode cX8_workOf 18 = .ok (.invokevirtual 119, 3) := by decide +kernel
theorem dX8_workOf_21 : decode cX8_workOf 21 = .ok (.ireturn, 1) := by decide +kernel
theorem dX8_workOf_22 : decode cX8_workOf 22 = .ok (.iload_n 2, 1) := by decide +kernel
theorem dX8_workOf_23 : decode cX8_workOf 23 = .ok (.iconst 4, 1) := by decide +kernel
theorem dX8_workOf_24 : decode cX8_workOf 24 = .ok (.if_icmp .ge 12, 3) := by decide +kernel
theorem dX8_workOf_27 : decode cX8_workOf 27 = .ok (.aload_n 0, 1) := by decide +kernel
theorem dX8_workOf_28 : decode cX8_workOf 28 = .ok (.iload_n 1, 1) := by decide +kernel
theorem dX8_workOf_29 : decode cX8_workOf 29 = .ok (.iload_n 2, 1) := by decide +kernel
theorem dX8_workOf_30 : decode cX8_workOf 30 = .ok (.invokevirtual 131, 3) := by decide +kernel
theorem dX8_workOf_33 : decode cX8_workOf 33 = .ok (.goto 16, 3) := by decide +kernel
theorem dX8_workOf_36 : decode cX8_workOf 36 = .ok (.aload_n 0, 1) := by decide +kernel
theorem dX8_workOf_37 : decode cX8_workOf 37 = .ok (.iload_n 1, 1) := by decide +kernel
theorem dX8_workOf_38 : decode cX8_workOf 38 = .ok (.invokevirtual 134, 3) := by decide +kernel
theorem dX8_workOf_41 : decode cX8_workOf 41 = .ok (.ifCond .eq 7, 3) := by decide +kernel
theorem dX8_workOf_44 : decode cX8_workOf 44 = .ok (.iconst 1, 1) := by decide +kernel
theorem dX8_workOf_45 : decode cX8_workOf 45 = .ok (.goto 4, 3) := by decide +kernel
theorem dX8_workOf_48 : decode cX8_workOf 48 = .ok (.iconst 0, 1) := by decide +kernel
theorem dX8_workOf_49 : decode cX8_workOf 49 = .ok (.ireturn, 1) := by decide +kernel
theorem dX8_isOver_0 : decode cX8_isOver 0 = .ok (.aload_n 0, 1) := by decide +kernel
theorem dX8_isOver_1 : decode cX8_isOver 1 = .ok (.getfield 9, 3) := by decide +kernel
theorem dX8_isOver_4 : decode cX8_isOver 4 = .ok (.iconst 0, 1) := by decide +kernel
theorem dX8_isOver_5 : decode cX8_isOver 5 = .ok (.iaload, 1) := by decide +kernel
theorem dX8_isOver_6 : decode cX8_isOver 6 = .ok (.aload_n 0, 1) := by decide +kernel
theorem dX8_isOver_7 : decode cX8_isOver 7 = .ok (.iload_n 1, 1) := by decide +kernel
theorem dX8_isOver_8 : decode cX8_isOver 8 = .ok (.iconst 1, 1) := by decide +kernel
theorem dX8_isOver_9 : decode cX8_isOver 9 = .ok (.invokevirtual 131, 3) := by decide +kernel
theorem dX8_isOver_12 : decode cX8_isOver 12 = .ok (.if_icmp .le 7, 3) := by decide +kernel
theorem dX8_isOver_15 : decode cX8_isOver 15 = .ok (.iconst 1, 1) := by decide +kernel
theorem dX8_isOver_16 : decode cX8_isOver 16 = .ok (.goto 4, 3) := by decide +kernel
theorem dX8_isOver_19 : decode cX8_isOver 19 = .ok (.iconst 0, 1) := by decide +kernel
theorem dX8_isOver_20 : decode cX8_isOver 20 = .ok (.ireturn, 1) := by decide +kernel
theorem dX8_spend_0 : decode cX8_spend 0 = .ok (.aload_n 0, 1) := by decide +kernel
theorem dX8_spend_1 : decode cX8_spend 1 = .ok (.iload_n 1, 1) := by decide +kernel
theorem dX8_spend_2 : decode cX8_spend 2 = .ok (.invokevirtual 122, 3) := by decide +kernel
theorem dX8_spend_5 : decode cX8_spend 5 = .ok (.ifCond .eq 10, 3) := by decide +kernel
theorem dX8_spend_8 : decode cX8_spend 8 = .ok (.iload_n 2, 1) := by decide +kernel
theorem dX8_spend_9 : decode cX8_spend 9 = .ok (.invokestatic 128, 3) := by decide +kernel
theorem dX8_spend_12 : decode cX8_spend 12 = .ok (.ifCond .ne 9, 3) := by decide +kernel
theorem dX8_spend_15 : decode cX8_spend 15 = .ok (.aload_n 0, 1) := by decide +kernel
theorem dX8_spend_16 : decode cX8_spend 16 = .ok (.iconst 0, 1) := by decide +kernel
theorem dX8_spend_17 : decode cX8_spend 17 = .ok (.invokevirtual 119, 3) := by decide +kernel
theorem dX8_spend_20 : decode cX8_spend 20 = .ok (.ireturn, 1) := by decide +kernel
theorem dX8_spend_21 : decode cX8_spend 21 = .ok (.aload_n 0, 1) := by decide +kernel
theorem dX8_spend_22 : decode cX8_spend 22 = .ok (.iload_n 2, 1) := by decide +kernel
theorem dX8_spend_23 : decode cX8_spend 23 = .ok (.invokevirtual 137, 3) := by decide +kernel
theorem dX8_spend_26 : decode cX8_spend 26 = .ok (.ifCond .eq 9, 3) := by decide +kernel
theorem dX8_spend_29 : decode cX8_spend 29 = .ok (.aload_n 0, 1) := by decide +kernel
theorem dX8_spend_30 : decode cX8_spend 30 = .ok (.iconst 4, 1) := by decide +kernel
theorem dX8_spend_31 : decode cX8_spend 31 = .ok (.invokevirtual 119, 3) := by decide +kernel
theorem dX8_spend_34 : decode cX8_spend 34 = .ok (.ireturn, 1) := by decide +kernel
theorem dX8_spend_35 : decode cX8_spend 35 = .ok (.sipush (-9999), 3) := by decide +kernel
theorem dX8_spend_38 : decode cX8_spend 38 = .ok (.sipush 9999, 3) := by decide +kernel
theorem dX8_spend_41 : decode cX8_spend 41 = .ok (.aload_n 0, 1) := by decide +kernel
theorem dX8_spend_42 : decode cX8_spend 42 = .ok (.iload_n 2, 1) := by decide +kernel
theorem dX8_spend_43 : decode cX8_spend 43 = .ok (.iconst 3, 1) := by decide +kernel
theorem dX8_spend_44 : decode cX8_spend 44 = .ok (.invokevirtual 131, 3) := by decide +kernel
theorem dX8_spend_47 : decode cX8_spend 47 = .ok (.aload_n 0, 1) := by decide +kernel
theorem dX8_spend_48 : decode cX8_spend 48 = .ok (.iload_n 1, 1) := by decide +kernel
theorem dX8_spend_49 : decode cX8_spend 49 = .ok (.invokevirtual 92, 3) := by decide +kernel
theorem dX8_spend_52 : decode cX8_spend 52 = .ok (.iadd, 1) := by decide +kernel
theorem dX8_spend_53 : decode cX8_spend 53 = .ok (.invokestatic 77, 3) := by decide +kernel
theorem dX8_spend_56 : decode cX8_spend 56 = .ok (.invokestatic 74, 3) := by decide +kernel
theorem dX8_spend_59 : decode cX8_spend 59 = .ok (.istore_n 3, 1) := by decide +kernel
theorem dX8_spend_60 : decode cX8_spend 60 = .ok (.aload_n 0, 1) := by decide +kernel
theorem dX8_spend_61 : decode cX8_spend 61 = .ok (.getfield 9, 3) := by decide +kernel
theorem dX8_spend_64 : decode cX8_spend 64 = .ok (.bipush 59, 2) := by decide +kernel
theorem dX8_spend_66 : decode cX8_spend 66 = .ok (.iconst 4, 1) := by decide +kernel
theorem dX8_spend_67 : decode cX8_spend 67 = .ok (.iload_n 2, 1) := by decide +kernel
theorem dX8_spend_68 : decode cX8_spend 68 = .ok (.imul, 1) := by decide +kernel
theorem dX8_spend_69 : decode cX8_spend 69 = .ok (.iadd, 1) := by decide +kernel
theorem dX8_spend_70 : decode cX8_spend 70 = .ok (.iconst 3, 1) := by decide +kernel
theorem dX8_spend_71 : decode cX8_spend 71 = .ok (.iadd, 1) := by decide +kernel
theorem dX8_spend_72 : decode cX8_spend 72 = .ok (.iload_n 3, 1) := by decide +kernel
theorem dX8_spend_73 : decode cX8_spend 73 = .ok (.iastore, 1) := by decide +kernel
theorem dX8_spend_74 : decode cX8_spend 74 = .ok (.aload_n 0, 1) := by decide +kernel
theorem dX8_spend_75 : decode cX8_spend 75 = .ok (.iload_n 1, 1) := by decide +kernel
theorem dX8_spend_76 : decode cX8_spend 76 = .ok (.invokevirtual 109, 3) := by decide +kernel
theorem dX8_spend_79 : decode cX8_spend 79 = .ok (.iload_n 3, 1) := by decide +kernel
theorem dX8_spend_80 : decode cX8_spend 80 = .ok (.ireturn, 1) := by decide +kernel
theorem dX8_broken_0 : decode cX8_broken 0 = .ok (.aload_n 0, 1) := by decide +kernel
theorem dX8_broken_1 : decode cX8_broken 1 = .ok (.iload_n 1, 1) := by decide +kernel
theorem dX8_broken_2 : decode cX8_broken 2 = .ok (.invokevirtual 122, 3) := by decide +kernel
theorem dX8_broken_5 : decode cX8_broken 5 = .ok (.ifCond .ne 9, 3) := by decide +kernel
theorem dX8_broken_8 : decode cX8_broken 8 = .ok (.aload_n 0, 1) := by decide +kernel
theorem dX8_broken_9 : decode cX8_broken 9 = .ok (.iconst 0, 1) := by decide +kernel
theorem dX8_broken_10 : decode cX8_broken 10 = .ok (.invokevirtual 119, 3) := by decide +kernel
theorem dX8_broken_13 : decode cX8_broken 13 = .ok (.ireturn, 1) := by decide +kernel
theorem dX8_broken_14 : decode cX8_broken 14 = .ok (.aload_n 0, 1) := by decide +kernel
theorem dX8_broken_15 : decode cX8_broken 15 = .ok (.iload_n 1, 1) := by decide +kernel
theorem dX8_broken_16 : decode cX8_broken 16 = .ok (.invokevirtual 92, 3) := by decide +kernel
theorem dX8_broken_19 : decode cX8_broken 19 = .ok (.istore_n 2, 1) := by decide +kernel
theorem dX8_broken_20 : decode cX8_broken 20 = .ok (.aload_n 0, 1) := by decide +kernel
theorem dX8_broken_21 : decode cX8_broken 21 = .ok (.iload_n 1, 1) := by decide +kernel
theorem dX8_broken_22 : decode cX8_broken 22 = .ok (.invokevirtual 109, 3) := by decide +kernel
theorem dX8_broken_25 : decode cX8_broken 25 = .ok (.iload_n 2, 1) := by decide +kernel
theorem dX8_broken_26 : decode cX8_broken 26 = .ok (.ireturn, 1) := by decide +kernel
theorem dX8_done_0 : decode cX8_done 0 = .ok (.iconst 0, 1) := by decide +kernel
theorem dX8_done_1 : decode cX8_done 1 = .ok (.istore_n 1, 1) := by decide +kernel
theorem dX8_done_2 : decode cX8_done 2 = .ok (.iconst 0, 1) := by decide +kernel
theorem dX8_done_3 : decode cX8_done 3 = .ok (.istore_n 2, 1) := by decide +kernel
theorem dX8_done_4 : decode cX8_done 4 = .ok (.iload_n 2, 1) := by decide +kernel
theorem dX8_done_5 : decode cX8_done 5 = .ok (.bipush 6, 2) := by decide +kernel
theorem dX8_done_7 : decode cX8_done 7 = .ok (.if_icmp .ge 27, 3) := by decide +kernel
theorem dX8_done_10 : decode cX8_done 10 = .ok (.iload_n 1, 1) := by decide +kernel
theorem dX8_done_11 : decode cX8_done 11 = .ok (.aload_n 0, 1) := by decide +kernel
theorem dX8_done_12 : decode cX8_done 12 = .ok (.iload_n 2, 1) := by decide +kernel
theorem dX8_done_13 : decode cX8_done 13 = .ok (.invokevirtual 134, 3) := by decide +kernel
theorem dX8_done_16 : decode cX8_done 16 = .ok (.ifCond .eq 9, 3) := by decide +kernel
theorem dX8_done_19 : decode cX8_done 19 = .ok (.iconst 1, 1) := by decide +kernel
theorem dX8_done_20 : decode cX8_done 20 = .ok (.iload_n 2, 1) := by decide +kernel
theorem dX8_done_21 : decode cX8_done 21 = .ok (.ishl, 1) := by decide +kernel
theorem dX8_done_22 : decode cX8_done 22 = .ok (.goto 4, 3) := by decide +kernel
theorem dX8_done_25 : decode cX8_done 25 = .ok (.iconst 0, 1) := by decide +kernel
theorem dX8_done_26 : decode cX8_done 26 = .ok (.ior, 1) := by decide +kernel
theorem dX8_done_27 : decode cX8_done 27 = .ok (.istore_n 1, 1) := by decide +kernel
theorem dX8_done_28 : decode cX8_done 28 = .ok (.iinc 2 1, 3) := by decide +kernel
theorem dX8_done_31 : decode cX8_done 31 = .ok (.goto (-27), 3) := by decide +kernel
theorem dX8_done_34 : decode cX8_done 34 = .ok (.iload_n 1, 1) := by decide +kernel
theorem dX8_done_35 : decode cX8_done 35 = .ok (.ireturn, 1) := by decide +kernel
theorem dX8_go_0 : decode cX8_go 0 = .ok (.iload_n 1, 1) := by decide +kernel
theorem dX8_go_1 : decode cX8_go 1 = .ok (.iconst 1, 1) := by decide +kernel
theorem dX8_go_2 : decode cX8_go 2 = .ok (.bipush 60, 2) := by decide +kernel
theorem dX8_go_4 : decode cX8_go 4 = .ok (.invokestatic 59, 3) := by decide +kernel
theorem dX8_go_7 : decode cX8_go 7 = .ok (.ifCond .ne 9, 3) := by decide +kernel
theorem dX8_go_10 : decode cX8_go 10 = .ok (.aload_n 0, 1) := by decide +kernel
theorem dX8_go_11 : decode cX8_go 11 = .ok (.iconst 0, 1) := by decide +kernel
theorem dX8_go_12 : decode cX8_go 12 = .ok (.invokevirtual 119, 3) := by decide +kernel
theorem dX8_go_15 : decode cX8_go 15 = .ok (.ireturn, 1) := by decide +kernel
theorem dX8_go_16 : decode cX8_go 16 = .ok (.aload_n 0, 1) := by decide +kernel
theorem dX8_go_17 : decode cX8_go 17 = .ok (.getfield 9, 3) := by decide +kernel
theorem dX8_go_20 : decode cX8_go 20 = .ok (.iconst 0, 1) := by decide +kernel
theorem dX8_go_21 : decode cX8_go 21 = .ok (.iaload, 1) := by decide +kernel
theorem dX8_go_22 : decode cX8_go 22 = .ok (.iload_n 1, 1) := by decide +kernel
theorem dX8_go_23 : decode cX8_go 23 = .ok (.iadd, 1) := by decide +kernel
theorem dX8_go_24 : decode cX8_go 24 = .ok (.ldc 57, 2) := by decide +kernel
theorem dX8_go_26 : decode cX8_go 26 = .ok (.if_icmp .le 9, 3) := by decide +kernel
theorem dX8_go_29 : decode cX8_go 29 = .ok (.aload_n 0, 1) := by decide +kernel
theorem dX8_go_30 : decode cX8_go 30 = .ok (.iconst 4, 1) := by decide +kernel
theorem dX8_go_31 : decode cX8_go 31 = .ok (.invokevirtual 119, 3) := by decide +kernel
theorem dX8_go_34 : decode cX8_go 34 = .ok (.ireturn, 1) := by decide +kernel
theorem dX8_go_35 : decode cX8_go 35 = .ok (.iconst 0, 1) := by decide +kernel
theorem dX8_go_36 : decode cX8_go 36 = .ok (.istore_n 2, 1) := by decide +kernel
theorem dX8_go_37 : decode cX8_go 37 = .ok (.iconst 0, 1) := by decide +kernel
theorem dX8_go_38 : decode cX8_go 38 = .ok (.istore_n 3, 1) := by decide +kernel
theorem dX8_go_39 : decode cX8_go 39 = .ok (.iload_n 3, 1) := by decide +kernel
theorem dX8_go_40 : decode cX8_go 40 = .ok (.iload_n 1, 1) := by decide +kernel
theorem dX8_go_41 : decode cX8_go 41 = .ok (.if_icmp .ge 16, 3) := by decide +kernel
theorem dX8_go_44 : decode cX8_go 44 = .ok (.iload_n 2, 1) := by decide +kernel
theorem dX8_go_45 : decode cX8_go 45 = .ok (.aload_n 0, 1) := by decide +kernel
theorem dX8_go_46 : decode cX8_go 46 = .ok (.invokevirtual 140, 3) := by decide +kernel
theorem dX8_go_49 : decode cX8_go 49 = .ok (.iadd, 1) := by decide +kernel
theorem dX8_go_50 : decode cX8_go 50 = .ok (.istore_n 2, 1) := by decide +kernel
theorem dX8_go_51 : decode cX8_go 51 = .ok (.iinc 3 1, 3) := by decide +kernel
theorem dX8_go_54 : decode cX8_go 54 = .ok (.goto (-15), 3) := by decide +kernel
theorem dX8_go_57 : decode cX8_go 57 = .ok (.aload_n 0, 1) := by decide +kernel
theorem dX8_go_58 : decode cX8_go 58 = .ok (.invokevirtual 95, 3) := by decide +kernel
theorem dX8_go_61 : decode cX8_go 61 = .ok (.invokestatic 143, 3) := by decide +kernel
theorem dX8_go_64 : decode cX8_go 64 = .ok (.ireturn, 1) := by decide +kernel
theorem dX8_now_0 : decode cX8_now 0 = .ok (.iload_n 1, 1) := by decide +kernel
theorem dX8_now_1 : decode cX8_now 1 = .ok (.tableswitch 64 0 4 #[35, 42, 47, 52, 57], 35) := by decide +kernel
theorem dX8_now_36 : decode cX8_now 36 = .ok (.aload_n 0, 1) := by decide +kernel
theorem dX8_now_37 : decode cX8_now 37 = .ok (.getfield 9, 3) := by decide +kernel
theorem dX8_now_40 : decode cX8_now 40 = .ok (.iconst 0, 1) := by decide +kernel
theorem dX8_now_41 : decode cX8_now 41 = .ok (.iaload, 1) := by decide +kernel
theorem dX8_now_42 : decode cX8_now 42 = .ok (.ireturn, 1) := by decide +kernel
theorem dX8_now_43 : decode cX8_now 43 = .ok (.aload_n 0, 1) := by decide +kernel
theorem dX8_now_44 : decode cX8_now 44 = .ok (.invokevirtual 95, 3) := by decide +kernel
theorem dX8_now_47 : decode cX8_now 47 = .ok (.ireturn, 1) := by decide +kernel
theorem dX8_now_48 : decode cX8_now 48 = .ok (.aload_n 0, 1) := by decide +kernel
theorem dX8_now_49 : decode cX8_now 49 = .ok (.invokevirtual 146, 3) := by decide +kernel
theorem dX8_now_52 : decode cX8_now 52 = .ok (.ireturn, 1) := by decide +kernel
theorem dX8_now_53 : decode cX8_now 53 = .ok (.aload_n 0, 1) := by decide +kernel
theorem dX8_now_54 : decode cX8_now 54 = .ok (.invokevirtual 149, 3) := by decide +kernel
theorem dX8_now_57 : decode cX8_now 57 = .ok (.ireturn, 1) := by decide +kernel
theorem dX8_now_58 : decode cX8_now 58 = .ok (.aload_n 0, 1) := by decide +kernel
theorem dX8_now_59 : decode cX8_now 59 = .ok (.getfield 9, 3) := by decide +kernel
theorem dX8_now_62 : decode cX8_now 62 = .ok (.iconst 1, 1) := by decide +kernel
theorem dX8_now_63 : decode cX8_now 63 = .ok (.iaload, 1) := by decide +kernel
theorem dX8_now_64 : decode cX8_now 64 = .ok (.ireturn, 1) := by decide +kernel
theorem dX8_now_65 : decode cX8_now 65 = .ok (.aload_n 0, 1) := by decide +kernel
theorem dX8_now_66 : decode cX8_now 66 = .ok (.iconst 0, 1) := by decide +kernel
theorem dX8_now_67 : decode cX8_now 67 = .ok (.invokevirtual 119, 3) := by decide +kernel
theorem dX8_now_70 : decode cX8_now 70 = .ok (.ireturn, 1) := by decide +kernel
theorem dX8_ahead_0 : decode cX8_ahead 0 = .ok (.iload_n 1, 1) := by decide +kernel
theorem dX8_ahead_1 : decode cX8_ahead 1 = .ok (.iconst 0, 1) := by decide +kernel
theorem dX8_ahead_2 : decode cX8_ahead 2 = .ok (.bipush 100, 2) := by decide +kernel
theorem dX8_ahead_4 : decode cX8_ahead 4 = .ok (.invokestatic 59, 3) := by decide +kernel
theorem dX8_ahead_7 : decode cX8_ahead 7 = .ok (.ifCond .ne 9, 3) := by decide +kernel
theorem dX8_ahead_10 : decode cX8_ahead 10 = .ok (.aload_n 0, 1) := by decide +kernel
theorem dX8_ahead_11 : decode cX8_ahead 11 = .ok (.iconst 0, 1) := by decide +kernel
theorem dX8_ahead_12 : decode cX8_ahead 12 = .ok (.invokevirtual 119, 3) := by decide +kernel
theorem dX8_ahead_15 : decode cX8_ahead 15 = .ok (.ireturn, 1) := by decide +kernel
theorem dX8_ahead_16 : decode cX8_ahead 16 = .ok (.aload_n 0, 1) := by decide +kernel
theorem dX8_ahead_17 : decode cX8_ahead 17 = .ok (.invokevirtual 152, 3) := by decide +kernel
theorem dX8_ahead_20 : decode cX8_ahead 20 = .ok (.iconst 0, 1) := by decide +kernel
theorem dX8_ahead_21 : decode cX8_ahead 21 = .ok (.istore_n 2, 1) := by decide +kernel
theorem dX8_ahead_22 : decode cX8_ahead 22 = .ok (.iconst 0, 1) := by decide +kernel
theorem dX8_ahead_23 : decode cX8_ahead 23 = .ok (.istore_n 3, 1) := by decide +kernel
theorem dX8_ahead_24 : decode cX8_ahead 24 = .ok (.iload_n 3, 1) := by decide +kernel
theorem dX8_ahead_25 : decode cX8_ahead 25 = .ok (.iload_n 1, 1) := by decide +kernel
theorem dX8_ahead_26 : decode cX8_ahead 26 = .ok (.if_icmp .ge 16, 3) := by decide +kernel
theorem dX8_ahead_29 : decode cX8_ahead 29 = .ok (.iload_n 2, 1) := by decide +kernel
theorem dX8_ahead_30 : decode cX8_ahead 30 = .ok (.aload_n 0, 1) := by decide +kernel
theorem dX8_ahead_31 : decode cX8_ahead 31 = .ok (.invokevirtual 140, 3) := by decide +kernel
theorem dX8_ahead_34 : decode cX8_ahead 34 = .ok (.iadd, 1) := by decide +kernel
theorem dX8_ahead_35 : decode cX8_ahead 35 = .ok (.istore_n 2, 1) := by decide +kernel
theorem dX8_ahead_36 : decode cX8_ahead 36 = .ok (.iinc 3 1, 3) := by decide +kernel
theorem dX8_ahead_39 : decode cX8_ahead 39 = .ok (.goto (-15), 3) := by decide +kernel
theorem dX8_ahead_42 : decode cX8_ahead 42 = .ok (.aload_n 0, 1) := by decide +kernel
theorem dX8_ahead_43 : decode cX8_ahead 43 = .ok (.invokevirtual 146, 3) := by decide +kernel
theorem dX8_ahead_46 : decode cX8_ahead 46 = .ok (.istore_n 3, 1) := by decide +kernel
theorem dX8_ahead_47 : decode cX8_ahead 47 = .ok (.aload_n 0, 1) := by decide +kernel
theorem dX8_ahead_48 : decode cX8_ahead 48 = .ok (.invokevirtual 155, 3) := by decide +kernel
theorem dX8_ahead_51 : decode cX8_ahead 51 = .ok (.iload_n 3, 1) := by decide +kernel
theorem dX8_ahead_52 : decode cX8_ahead 52 = .ok (.ireturn, 1) := by decide +kernel
theorem dX8_spoils_0 : decode cX8_spoils 0 = .ok (.iload_n 1, 1) := by decide +kernel
theorem dX8_spoils_1 : decode cX8_spoils 1 = .ok (.iconst 0, 1) := by decide +kernel
theorem dX8_spoils_2 : decode cX8_spoils 2 = .ok (.bipush 100, 2) := by decide +kernel
theorem dX8_spoils_4 : decode cX8_spoils 4 = .ok (.invokestatic 59, 3) := by decide +kernel
theorem dX8_spoils_7 : decode cX8_spoils 7 = .ok (.ifCond .ne 9, 3) := by decide +kernel
theorem dX8_spoils_10 : decode cX8_spoils 10 = .ok (.aload_n 0, 1) := by decide +kernel
theorem dX8_spoils_11 : decode cX8_spoils 11 = .ok (.iconst 0, 1) := by decide +kernel
theorem dX8_spoils_12 : decode cX8_spoils 12 = .ok (.invokevirtual 119, 3) := by decide +kernel
theorem dX8_spoils_15 : decode cX8_spoils 15 = .ok (.ireturn, 1) := by decide +kernel
theorem dX8_spoils_16 : decode cX8_spoils 16 = .ok (.aload_n 0, 1) := by decide +kernel
theorem dX8_spoils_17 : decode cX8_spoils 17 = .ok (.invokevirtual 152, 3) := by decide +kernel
theorem dX8_spoils_20 : decode cX8_spoils 20 = .ok (.iconst 0, 1) := by decide +kernel
theorem dX8_spoils_21 : decode cX8_spoils 21 = .ok (.istore_n 2, 1) := by decide +kernel
theorem dX8_spoils_22 : decode cX8_spoils 22 = .ok (.iconst 0, 1) := by decide +kernel
theorem dX8_spoils_23 : decode cX8_spoils 23 = .ok (.istore_n 3, 1) := by decide +kernel
theorem dX8_spoils_24 : decode cX8_spoils 24 = .ok (.iload_n 3, 1) := by decide +kernel
theorem dX8_spoils_25 : decode cX8_spoils 25 = .ok (.iload_n 1, 1) := by decide +kernel
theorem dX8_spoils_26 : decode cX8_spoils 26 = .ok (.if_icmp .ge 16, 3) := by decide +kernel
theorem dX8_spoils_29 : decode cX8_spoils 29 = .ok (.iload_n 2, 1) := by decide +kernel
theorem dX8_spoils_30 : decode cX8_spoils 30 = .ok (.aload_n 0, 1) := by decide +kernel
theorem dX8_spoils_31 : decode cX8_spoils 31 = .ok (.invokevirtual 140, 3) := by decide +kernel
theorem dX8_spoils_34 : decode cX8_spoils 34 = .ok (.iadd, 1) := by decide +kernel
theorem dX8_spoils_35 : decode cX8_spoils 35 = .ok (.istore_n 2, 1) := by decide +kernel
theorem dX8_spoils_36 : decode cX8_spoils 36 = .ok (.iinc 3 1, 3) := by decide +kernel
theorem dX8_spoils_39 : decode cX8_spoils 39 = .ok (.goto (-15), 3) := by decide +kernel
theorem dX8_spoils_42 : decode cX8_spoils 42 = .ok (.aload_n 0, 1) := by decide +kernel
theorem dX8_spoils_43 : decode cX8_spoils 43 = .ok (.invokevirtual 155, 3) := by decide +kernel
theorem dX8_spoils_46 : decode cX8_spoils 46 = .ok (.iload_n 2, 1) := by decide +kernel
theorem dX8_spoils_47 : decode cX8_spoils 47 = .ok (.ireturn, 1) := by decide +kernel
theorem dX8_ripe_0 : decode cX8_ripe 0 = .ok (.aload_n 0, 1) := by decide +kernel
theorem dX8_ripe_1 : decode cX8_ripe 1 = .ok (.iload_n 1, 1) := by decide +kernel
theorem dX8_ripe_2 : decode cX8_ripe 2 = .ok (.invokevirtual 122, 3) := by decide +kernel
theorem dX8_ripe_5 : decode cX8_ripe 5 = .ok (.ifCond .ne 9, 3) := by decide +kernel
theorem dX8_ripe_8 : decode cX8_ripe 8 = .ok (.aload_n 0, 1) := by decide +kernel
theorem dX8_ripe_9 : decode cX8_ripe 9 = .ok (.iconst 0, 1) := by decide +kernel
theorem dX8_ripe_10 : decode cX8_ripe 10 = .ok (.invokevirtual 119, 3) := by decide +kernel
theorem dX8_ripe_13 : decode cX8_ripe 13 = .ok (.ireturn, 1) := by decide +kernel
theorem dX8_ripe_14 : decode cX8_ripe 14 = .ok (.aload_n 0, 1) := by decide +kernel
theorem dX8_ripe_15 : decode cX8_ripe 15 = .ok (.iload_n 1, 1) := by decide +kernel
theorem dX8_ripe_16 : decode cX8_ripe 16 = .ok (.iconst 0, 1) := by decide +kernel
theorem dX8_ripe_17 : decode cX8_ripe 17 = .ok (.invokevirtual 63, 3) := by decide +kernel
theorem dX8_ripe_20 : decode cX8_ripe 20 = .ok (.istore_n 2, 1) := by decide +kernel
theorem dX8_ripe_21 : decode cX8_ripe 21 = .ok (.aload_n 0, 1) := by decide +kernel
theorem dX8_ripe_22 : decode cX8_ripe 22 = .ok (.iload_n 1, 1) := by decide +kernel
theorem dX8_ripe_23 : decode cX8_ripe 23 = .ok (.iconst 2, 1) := by decide +kernel
theorem dX8_ripe_24 : decode cX8_ripe 24 = .ok (.invokevirtual 63, 3) := by decide +kernel
theorem dX8_ripe_27 : decode cX8_ripe 27 = .ok (.istore_n 3, 1) := by decide +kernel
theorem dX8_ripe_28 : decode cX8_ripe 28 = .ok (.iconst 0, 1) := by decide +kernel
theorem dX8_ripe_29 : decode cX8_ripe 29 = .ok (.istore 4, 2) := by decide +kernel
theorem dX8_ripe_31 : decode cX8_ripe 31 = .ok (.iconst 1, 1) := by decide +kernel
theorem dX8_ripe_32 : decode cX8_ripe 32 = .ok (.istore 5, 2) := by decide +kernel
theorem dX8_ripe_34 : decode cX8_ripe 34 = .ok (.iload 5, 2) := by decide +kernel
theorem dX8_ripe_36 : decode cX8_ripe 36 = .ok (.bipush 100, 2) := by decide +kernel
theorem dX8_ripe_38 : decode cX8_ripe 38 = .ok (.if_icmp .gt 50, 3) := by decide +kernel
theorem dX8_ripe_41 : decode cX8_ripe 41 = .ok (.iload_n 3, 1) := by decide +kernel
theorem dX8_ripe_42 : decode cX8_ripe 42 = .ok (.iload 5, 2) := by decide +kernel
theorem dX8_ripe_44 : decode cX8_ripe 44 = .ok (.iadd, 1) := by decide +kernel
theorem dX8_ripe_45 : decode cX8_ripe 45 = .ok (.iload_n 2, 1) := by decide +kernel
theorem dX8_ripe_46 : decode cX8_ripe 46 = .ok (.invokestatic 84, 3) := by decide +kernel
theorem dX8_ripe_49 : decode cX8_ripe 49 = .ok (.if_icmp .gt 39, 3) := by decide +kernel
theorem dX8_ripe_52 : decode cX8_ripe 52 = .ok (.aload_n 0, 1) := by decide +kernel
theorem dX8_ripe_53 : decode cX8_ripe 53 = .ok (.iload_n 1, 1) := by decide +kernel
theorem dX8_ripe_54 : decode cX8_ripe 54 = .ok (.iload_n 2, 1) := by decide +kernel
theorem dX8_ripe_55 : decode cX8_ripe 55 = .ok (.iload_n 3, 1) := by decide +kernel
theorem dX8_ripe_56 : decode cX8_ripe 56 = .ok (.iload 5, 2) := by decide +kernel
theorem dX8_ripe_58 : decode cX8_ripe 58 = .ok (.invokevirtual 158, 3) := by decide +kernel
theorem dX8_ripe_61 : decode cX8_ripe 61 = .ok (.aload_n 0, 1) := by decide +kernel
theorem dX8_ripe_62 : decode cX8_ripe 62 = .ok (.iload_n 1, 1) := by decide +kernel
theorem dX8_ripe_63 : decode cX8_ripe 63 = .ok (.iload_n 2, 1) := by decide +kernel
theorem dX8_ripe_64 : decode cX8_ripe 64 = .ok (.iload_n 3, 1) := by decide +kernel
theorem dX8_ripe_65 : decode cX8_ripe 65 = .ok (.iload 4, 2) := by decide +kernel
theorem dX8_ripe_67 : decode cX8_ripe 67 = .ok (.invokevirtual 158, 3) := by decide +kernel
theorem dX8_ripe_70 : decode cX8_ripe 70 = .ok (.if_icmp .le 8, 3) := by decide +kernel
theorem dX8_ripe_73 : decode cX8_ripe 73 = .ok (.iload 5, 2) := by decide +kernel
theorem dX8_ripe_75 : decode cX8_ripe 75 = .ok (.goto 5, 3) := by decide +kernel
theorem dX8_ripe_78 : decode cX8_ripe 78 = .ok (.iload 4, 2) := by decide +kernel
theorem dX8_ripe_80 : decode cX8_ripe 80 = .ok (.istore 4, 2) := by decide +kernel
theorem dX8_ripe_82 : decode cX8_ripe 82 = .ok (.iinc 5 1, 3) := by decide +kernel
theorem dX8_ripe_85 : decode cX8_ripe 85 = .ok (.goto (-51), 3) := by decide +kernel
theorem dX8_ripe_88 : decode cX8_ripe 88 = .ok (.iload 4, 2) := by decide +kernel
theorem dX8_ripe_90 : decode cX8_ripe 90 = .ok (.ireturn, 1) := by decide +kernel
theorem dX8_lasts_0 : decode cX8_lasts 0 = .ok (.aload_n 0, 1) := by decide +kernel
theorem dX8_lasts_1 : decode cX8_lasts 1 = .ok (.iload_n 1, 1) := by decide +kernel
theorem dX8_lasts_2 : decode cX8_lasts 2 = .ok (.invokevirtual 122, 3) := by decide +kernel
theorem dX8_lasts_5 : decode cX8_lasts 5 = .ok (.ifCond .eq 28, 3) := by decide +kernel
theorem dX8_lasts_8 : decode cX8_lasts 8 = .ok (.iconst 1, 1) := by decide +kernel
theorem dX8_lasts_9 : decode cX8_lasts 9 = .ok (.aload_n 0, 1) := by decide +kernel
theorem dX8_lasts_10 : decode cX8_lasts 10 = .ok (.iload_n 1, 1) := by decide +kernel
theorem dX8_lasts_11 : decode cX8_lasts 11 = .ok (.iconst 0, 1) := by decide +kernel
theorem dX8_lasts_12 : decode cX8_lasts 12 = .ok (.invokevirtual 63, 3) := by decide +kernel
theorem dX8_lasts_15 : decode cX8_lasts 15 = .ok (.invokestatic 84, 3) := by decide +kernel
theorem dX8_lasts_18 : decode cX8_lasts 18 = .ok (.aload_n 0, 1) := by decide +kernel
theorem dX8_lasts_19 : decode cX8_lasts 19 = .ok (.iload_n 1, 1) := by decide +kernel
theorem dX8_lasts_20 : decode cX8_lasts 20 = .ok (.iconst 2, 1) := by decide +kernel
theorem dX8_lasts_21 : decode cX8_lasts 21 = .ok (.invokevirtual 63, 3) := by decide +kernel
theorem dX8_lasts_24 : decode cX8_lasts 24 = .ok (.isub, 1) := by decide +kernel
theorem dX8_lasts_25 : decode cX8_lasts 25 = .ok (.iconst 1, 1) := by decide +kernel
theorem dX8_lasts_26 : decode cX8_lasts 26 = .ok (.iadd, 1) := by decide +kernel
theorem dX8_lasts_27 : decode cX8_lasts 27 = .ok (.invokestatic 74, 3) := by decide +kernel
theorem dX8_lasts_30 : decode cX8_lasts 30 = .ok (.goto 8, 3) := by decide +kernel
theorem dX8_lasts_33 : decode cX8_lasts 33 = .ok (.aload_n 0, 1) := by decide +kernel
theorem dX8_lasts_34 : decode cX8_lasts 34 = .ok (.iconst 0, 1) := by decide +kernel
theorem dX8_lasts_35 : decode cX8_lasts 35 = .ok (.invokevirtual 119, 3) := by decide +kernel
theorem dX8_lasts_38 : decode cX8_lasts 38 = .ok (.ireturn, 1) := by decide +kernel
theorem dX8_when_0 : decode cX8_when 0 = .ok (.iload_n 1, 1) := by decide +kernel
theorem dX8_when_1 : decode cX8_when 1 = .ok (.iconst 0, 1) := by decide +kernel
theorem dX8_when_2 : decode cX8_when 2 = .ok (.sipush 9999, 3) := by decide +kernel
theorem dX8_when_5 : decode cX8_when 5 = .ok (.invokestatic 59, 3) := by decide +kernel
theorem dX8_when_8 : decode cX8_when 8 = .ok (.ifCond .ne 9, 3) := by decide +kernel
theorem dX8_when_11 : decode cX8_when 11 = .ok (.aload_n 0, 1) := by decide +kernel
theorem dX8_when_12 : decode cX8_when 12 = .ok (.iconst 0, 1) := by decide +kernel
theorem dX8_when_13 : decode cX8_when 13 = .ok (.invokevirtual 119, 3) := by decide +kernel
theorem dX8_when_16 : decode cX8_when 16 = .ok (.ireturn, 1) := by decide +kernel
theorem dX8_when_17 : decode cX8_when 17 = .ok (.aload_n 0, 1) := by decide +kernel
theorem dX8_when_18 : decode cX8_when 18 = .ok (.invokevirtual 152, 3) := by decide +kernel
theorem dX8_when_21 : decode cX8_when 21 = .ok (.iconst 0, 1) := by decide +kernel
theorem dX8_when_22 : decode cX8_when 22 = .ok (.istore_n 2, 1) := by decide +kernel
theorem dX8_when_23 : decode cX8_when 23 = .ok (.iconst 0, 1) := by decide +kernel
theorem dX8_when_24 : decode cX8_when 24 = .ok (.istore_n 3, 1) := by decide +kernel
theorem dX8_when_25 : decode cX8_when 25 = .ok (.iload_n 2, 1) := by decide +kernel
theorem dX8_when_26 : decode cX8_when 26 = .ok (.bipush 100, 2) := by decide +kernel
theorem dX8_when_28 : decode cX8_when 28 = .ok (.if_icmp .gt 24, 3) := by decide +kernel
theorem dX8_when_31 : decode cX8_when 31 = .ok (.aload_n 0, 1) := by decide +kernel
theorem dX8_when_32 : decode cX8_when 32 = .ok (.invokevirtual 146, 3) := by decide +kernel
theorem dX8_when_35 : decode cX8_when 35 = .ok (.iload_n 1, 1) := by decide +kernel
theorem dX8_when_36 : decode cX8_when 36 = .ok (.if_icmp .ge 16, 3) := by decide +kernel
theorem dX8_when_39 : decode cX8_when 39 = .ok (.iload_n 3, 1) := by decide +kernel
theorem dX8_when_40 : decode cX8_when 40 = .ok (.aload_n 0, 1) := by decide +kernel
theorem dX8_when_41 : decode cX8_when 41 = .ok (.invokevirtual 140, 3) := by decide +kernel
theorem dX8_when_44 : decode cX8_when 44 = .ok (.iadd, 1) := by decide +kernel
theorem dX8_when_45 : decode cX8_when 45 = .ok (.istore_n 3, 1) := by decide +kernel
theorem dX8_when_46 : decode cX8_when 46 = .ok (.iinc 2 1, 3) := by decide +kernel
theorem dX8_when_49 : decode cX8_when 49 = .ok (.goto (-24), 3) := by decide +kernel
theorem dX8_when_52 : decode cX8_when 52 = .ok (.aload_n 0, 1) := by decide +kernel
theorem dX8_when_53 : decode cX8_when 53 = .ok (.invokevirtual 155, 3) := by decide +kernel
theorem dX8_when_56 : decode cX8_when 56 = .ok (.iload_n 2, 1) := by decide +kernel
theorem dX8_when_57 : decode cX8_when 57 = .ok (.bipush 100, 2) := by decide +kernel
theorem dX8_when_59 : decode cX8_when 59 = .ok (.if_icmp .le 11, 3) := by decide +kernel
theorem dX8_when_62 : decode cX8_when 62 = .ok (.aload_n 0, 1) := by decide +kernel
theorem dX8_when_63 : decode cX8_when 63 = .ok (.iconst 3, 1) := by decide +kernel
theorem dX8_when_64 : decode cX8_when 64 = .ok (.invokevirtual 119, 3) := by decide +kernel
theorem dX8_when_67 : decode cX8_when 67 = .ok (.goto 4, 3) := by decide +kernel
theorem dX8_when_70 : decode cX8_when 70 = .ok (.iload_n 2, 1) := by decide +kernel
theorem dX8_when_71 : decode cX8_when 71 = .ok (.ireturn, 1) := by decide +kernel
theorem dX8_kindFor_0 : decode cX8_kindFor 0 = .ok (.aload_n 0, 1) := by decide +kernel
theorem dX8_kindFor_1 : decode cX8_kindFor 1 = .ok (.iload_n 1, 1) := by decide +kernel
theorem dX8_kindFor_2 : decode cX8_kindFor 2 = .ok (.invokevirtual 122, 3) := by decide +kernel
theorem dX8_kindFor_5 : decode cX8_kindFor 5 = .ok (.ifCond .eq 13, 3) := by decide +kernel
theorem dX8_kindFor_8 : decode cX8_kindFor 8 = .ok (.iload_n 2, 1) := by decide +kernel
theorem dX8_kindFor_9 : decode cX8_kindFor 9 = .ok (.iconst 0, 1) := by decide +kernel
theorem dX8_kindFor_10 : decode cX8_kindFor 10 = .ok (.bipush 100, 2) := by decide +kernel
theorem dX8_kindFor_12 : decode cX8_kindFor 12 = .ok (.invokestatic 59, 3) := by decide +kernel
theorem dX8_kindFor_15 : decode cX8_kindFor 15 = .ok (.ifCond .ne 9, 3) := by decide +kernel
theorem dX8_kindFor_18 : decode cX8_kindFor 18 = .ok (.aload_n 0, 1) := by decide +kernel
theorem dX8_kindFor_19 : decode cX8_kindFor 19 = .ok (.iconst 0, 1) := by decide +kernel
theorem dX8_kindFor_20 : decode cX8_kindFor 20 = .ok (.invokevirtual 119, 3) := by decide +kernel
theorem dX8_kindFor_23 : decode cX8_kindFor 23 = .ok (.ireturn, 1) := by decide +kernel
theorem dX8_kindFor_24 : decode cX8_kindFor 24 = .ok (.iconst 0, 1) := by decide +kernel
theorem dX8_kindFor_25 : decode cX8_kindFor 25 = .ok (.istore_n 3, 1) := by decide +kernel
theorem dX8_kindFor_26 : decode cX8_kindFor 26 = .ok (.iconst 1, 1) := by decide +kernel
theorem dX8_kindFor_27 : decode cX8_kindFor 27 = .ok (.istore 4, 2) := by decide +kernel
theorem dX8_kindFor_29 : decode cX8_kindFor 29 = .ok (.iload 4, 2) := by decide +kernel
theorem dX8_kindFor_31 : decode cX8_kindFor 31 = .ok (.bipush 6, 2) := by decide +kernel
theorem dX8_kindFor_33 : decode cX8_kindFor 33 = .ok (.if_icmp .gt 46, 3) := by decide +kernel
theorem dX8_kindFor_36 : decode cX8_kindFor 36 = .ok (.aload_n 0, 1) := by decide +kernel
theorem dX8_kindFor_37 : decode cX8_kindFor 37 = .ok (.iload_n 1, 1) := by decide +kernel
theorem dX8_kindFor_38 : decode cX8_kindFor 38 = .ok (.iload 4, 2) := by decide +kernel
theorem dX8_kindFor_40 : decode cX8_kindFor 40 = .ok (.aload_n 0, 1) := by decide +kernel
theorem dX8_kindFor_41 : decode cX8_kindFor 41 = .ok (.iload_n 1, 1) := by decide +kernel
theorem dX8_kindFor_42 : decode cX8_kindFor 42 = .ok (.iconst 2, 1) := by decide +kernel
theorem dX8_kindFor_43 : decode cX8_kindFor 43 = .ok (.invokevirtual 63, 3) := by decide +kernel
theorem dX8_kindFor_46 : decode cX8_kindFor 46 = .ok (.iload_n 2, 1) := by decide +kernel
theorem dX8_kindFor_47 : decode cX8_kindFor 47 = .ok (.invokevirtual 158, 3) := by decide +kernel
theorem dX8_kindFor_50 : decode cX8_kindFor 50 = .ok (.aload_n 0, 1) := by decide +kernel
theorem dX8_kindFor_51 : decode cX8_kindFor 51 = .ok (.iload_n 1, 1) := by decide +kernel
theorem dX8_kindFor_52 : decode cX8_kindFor 52 = .ok (.iload_n 3, 1) := by decide +kernel
theorem dX8_kindFor_53 : decode cX8_kindFor 53 = .ok (.aload_n 0, 1) := by decide +kernel
theorem dX8_kindFor_54 : decode cX8_kindFor 54 = .ok (.iload_n 1, 1) := by decide +kernel
theorem dX8_kindFor_55 : decode cX8_kindFor 55 = .ok (.iconst 2, 1) := by decide +kernel
theorem dX8_kindFor_56 : decode cX8_kindFor 56 = .ok (.invokevirtual 63, 3) := by decide +kernel
theorem dX8_kindFor_59 : decode cX8_kindFor 59 = .ok (.iload_n 2, 1) := by decide +kernel
theorem dX8_kindFor_60 : decode cX8_kindFor 60 = .ok (.invokevirtual 158, 3) := by decide +kernel
theorem dX8_kindFor_63 : decode cX8_kindFor 63 = .ok (.if_icmp .le 8, 3) := by decide +kernel
theorem dX8_kindFor_66 : decode cX8_kindFor 66 = .ok (.iload 4, 2) := by decide +kernel
theorem dX8_kindFor_68 : decode cX8_kindFor 68 = .ok (.goto 4, 3) := by decide +kernel
theorem dX8_kindFor_71 : decode cX8_kindFor 71 = .ok (.iload_n 3, 1) := by decide +kernel
theorem dX8_kindFor_72 : decode cX8_kindFor 72 = .ok (.istore_n 3, 1) := by decide +kernel
theorem dX8_kindFor_73 : decode cX8_kindFor 73 = .ok (.iinc 4 1, 3) := by decide +kernel
theorem dX8_kindFor_76 : decode cX8_kindFor 76 = .ok (.goto (-47), 3) := by decide +kernel
theorem dX8_kindFor_79 : decode cX8_kindFor 79 = .ok (.iload_n 3, 1) := by decide +kernel
theorem dX8_kindFor_80 : decode cX8_kindFor 80 = .ok (.ireturn, 1) := by decide +kernel
theorem dX8_everyFor_0 : decode cX8_everyFor 0 = .ok (.iload_n 1, 1) := by decide +kernel
theorem dX8_everyFor_1 : decode cX8_everyFor 1 = .ok (.invokestatic 125, 3) := by decide +kernel
theorem dX8_everyFor_4 : decode cX8_everyFor 4 = .ok (.ifCond .eq 13, 3) := by decide +kernel
theorem dX8_everyFor_7 : decode cX8_everyFor 7 = .ok (.iload_n 2, 1) := by decide +kernel
theorem dX8_everyFor_8 : decode cX8_everyFor 8 = .ok (.iconst 0, 1) := by decide +kernel
theorem dX8_everyFor_9 : decode cX8_everyFor 9 = .ok (.bipush 60, 2) := by decide +kernel
theorem dX8_everyFor_11 : decode cX8_everyFor 11 = .ok (.invokestatic 59, 3) := by decide +kernel
theorem dX8_everyFor_14 : decode cX8_everyFor 14 = .ok (.ifCond .ne 9, 3) := by decide +kernel
theorem dX8_everyFor_17 : decode cX8_everyFor 17 = .ok (.aload_n 0, 1) := by decide +kernel
theorem dX8_everyFor_18 : decode cX8_everyFor 18 = .ok (.iconst 0, 1) := by decide +kernel
theorem dX8_everyFor_19 : decode cX8_everyFor 19 = .ok (.invokevirtual 119, 3) := by decide +kernel
theorem dX8_everyFor_22 : decode cX8_everyFor 22 = .ok (.ireturn, 1) := by decide +kernel
theorem dX8_everyFor_23 : decode cX8_everyFor 23 = .ok (.aload_n 0, 1) := by decide +kernel
theorem dX8_everyFor_24 : decode cX8_everyFor 24 = .ok (.invokevirtual 152, 3) := by decide +kernel
theorem dX8_everyFor_27 : decode cX8_everyFor 27 = .ok (.iconst 0, 1) := by decide +kernel
theorem dX8_everyFor_28 : decode cX8_everyFor 28 = .ok (.istore_n 3, 1) := by decide +kernel
theorem dX8_everyFor_29 : decode cX8_everyFor 29 = .ok (.iconst 0, 1) := by decide +kernel
theorem dX8_everyFor_30 : decode cX8_everyFor 30 = .ok (.istore 4, 2) := by decide +kernel
theorem dX8_everyFor_32 : decode cX8_everyFor 32 = .ok (.iconst 0, 1) := by decide +kernel
theorem dX8_everyFor_33 : decode cX8_everyFor 33 = .ok (.istore 5, 2) := by decide +kernel
theorem dX8_everyFor_35 : decode cX8_everyFor 35 = .ok (.iconst 1, 1) := by decide +kernel
theorem dX8_everyFor_36 : decode cX8_everyFor 36 = .ok (.istore 6, 2) := by decide +kernel
theorem dX8_everyFor_38 : decode cX8_everyFor 38 = .ok (.iload 6, 2) := by decide +kernel
theorem dX8_everyFor_40 : decode cX8_everyFor 40 = .ok (.bipush 30, 2) := by decide +kernel
theorem dX8_everyFor_42 : decode cX8_everyFor 42 = .ok (.if_icmp .gt 100, 3) := by decide +kernel
theorem dX8_everyFor_45 : decode cX8_everyFor 45 = .ok (.aload_n 0, 1) := by decide +kernel
theorem dX8_everyFor_46 : decode cX8_everyFor 46 = .ok (.getfield 9, 3) := by decide +kernel
theorem dX8_everyFor_49 : decode cX8_everyFor 49 = .ok (.bipush 43, 2) := by decide +kernel
theorem dX8_everyFor_51 : decode cX8_everyFor 51 = .ok (.iconst 4, 1) := by decide +kernel
theorem dX8_everyFor_52 : decode cX8_everyFor 52 = .ok (.iload_n 1, 1) := by decide +kernel
theorem dX8_everyFor_53 : decode cX8_everyFor 53 = .ok (.imul, 1) := by decide +kernel
theorem dX8_everyFor_54 : decode cX8_everyFor 54 = .ok (.iadd, 1) := by decide +kernel
theorem dX8_everyFor_55 : decode cX8_everyFor 55 = .ok (.iconst 0, 1) := by decide +kernel
theorem dX8_everyFor_56 : decode cX8_everyFor 56 = .ok (.iadd, 1) := by decide +kernel
theorem dX8_everyFor_57 : decode cX8_everyFor 57 = .ok (.iload 6, 2) := by decide +kernel
theorem dX8_everyFor_59 : decode cX8_everyFor 59 = .ok (.iastore, 1) := by decide +kernel
theorem dX8_everyFor_60 : decode cX8_everyFor 60 = .ok (.iconst 0, 1) := by decide +kernel
theorem dX8_everyFor_61 : decode cX8_everyFor 61 = .ok (.istore 7, 2) := by decide +kernel
theorem dX8_everyFor_63 : decode cX8_everyFor 63 = .ok (.iload 7, 2) := by decide +kernel
theorem dX8_everyFor_65 : decode cX8_everyFor 65 = .ok (.iload_n 2, 1) := by decide +kernel
theorem dX8_everyFor_66 : decode cX8_everyFor 66 = .ok (.if_icmp .ge 18, 3) := by decide +kernel
theorem dX8_everyFor_69 : decode cX8_everyFor 69 = .ok (.iload 5, 2) := by decide +kernel
theorem dX8_everyFor_71 : decode cX8_everyFor 71 = .ok (.aload_n 0, 1) := by decide +kernel
theorem dX8_everyFor_72 : decode cX8_everyFor 72 = .ok (.invokevirtual 140, 3) := by decide +kernel
theorem dX8_everyFor_75 : decode cX8_everyFor 75 = .ok (.iadd, 1) := by decide +kernel
theorem dX8_everyFor_76 : decode cX8_everyFor 76 = .ok (.istore 5, 2) := by decide +kernel
theorem dX8_everyFor_78 : decode cX8_everyFor 78 = .ok (.iinc 7 1, 3) := by decide +kernel
theorem dX8_everyFor_81 : decode cX8_everyFor 81 = .ok (.goto (-18), 3) := by decide +kernel
theorem dX8_everyFor_84 : decode cX8_everyFor 84 = .ok (.iload_n 3, 1) := by decide +kernel
theorem dX8_everyFor_85 : decode cX8_everyFor 85 = .ok (.ifCond .eq 12, 3) := by decide +kernel
theorem dX8_everyFor_88 : decode cX8_everyFor 88 = .ok (.aload_n 0, 1) := by decide +kernel
theorem dX8_everyFor_89 : decode cX8_everyFor 89 = .ok (.invokevirtual 146, 3) := by decide +kernel
theorem dX8_everyFor_92 : decode cX8_everyFor 92 = .ok (.iload 4, 2) := by decide +kernel
theorem dX8_everyFor_94 : decode cX8_everyFor 94 = .ok (.if_icmp .le 7, 3) := by decide +kernel
theorem dX8_everyFor_97 : decode cX8_everyFor 97 = .ok (.iconst 1, 1) := by decide +kernel
theorem dX8_everyFor_98 : decode cX8_everyFor 98 = .ok (.goto 4, 3) := by decide +kernel
theorem dX8_everyFor_101 : decode cX8_everyFor 101 = .ok (.iconst 0, 1) := by decide +kernel
theorem dX8_everyFor_102 : decode cX8_everyFor 102 = .ok (.istore 7, 2) := by decide +kernel
theorem dX8_everyFor_104 : decode cX8_everyFor 104 = .ok (.iload 7, 2) := by decide +kernel
theorem dX8_everyFor_106 : decode cX8_everyFor 106 = .ok (.ifCond .eq 8, 3) := by decide +kernel
theorem dX8_everyFor_109 : decode cX8_everyFor 109 = .ok (.iload 6, 2) := by decide +kernel
theorem dX8_everyFor_111 : decode cX8_everyFor 111 = .ok (.goto 4, 3) := by decide +kernel
theorem dX8_everyFor_114 : decode cX8_everyFor 114 = .ok (.iload_n 3, 1) := by decide +kernel
theorem dX8_everyFor_115 : decode cX8_everyFor 115 = .ok (.istore_n 3, 1) := by decide +kernel
theorem dX8_everyFor_116 : decode cX8_everyFor 116 = .ok (.iload 7, 2) := by decide +kernel
theorem dX8_everyFor_118 : decode cX8_everyFor 118 = .ok (.ifCond .eq 10, 3) := by decide +kernel
theorem dX8_everyFor_121 : decode cX8_everyFor 121 = .ok (.aload_n 0, 1) := by decide +kernel
theorem dX8_everyFor_122 : decode cX8_everyFor 122 = .ok (.invokevirtual 146, 3) := by decide +kernel
theorem dX8_everyFor_125 : decode cX8_everyFor 125 = .ok (.goto 5, 3) := by decide +kernel
theorem dX8_everyFor_128 : decode cX8_everyFor 128 = .ok (.iload 4, 2) := by decide +kernel
theorem dX8_everyFor_130 : decode cX8_everyFor 130 = .ok (.istore 4, 2) := by decide +kernel
theorem dX8_everyFor_132 : decode cX8_everyFor 132 = .ok (.aload_n 0, 1) := by decide +kernel
theorem dX8_everyFor_133 : decode cX8_everyFor 133 = .ok (.invokevirtual 155, 3) := by decide +kernel
theorem dX8_everyFor_136 : decode cX8_everyFor 136 = .ok (.iinc 6 1, 3) := by decide +kernel
theorem dX8_everyFor_139 : decode cX8_everyFor 139 = .ok (.goto (-101), 3) := by decide +kernel
theorem dX8_everyFor_142 : decode cX8_everyFor 142 = .ok (.iload_n 3, 1) := by decide +kernel
theorem dX8_everyFor_143 : decode cX8_everyFor 143 = .ok (.ireturn, 1) := by decide +kernel
theorem dX8_does_0 : decode cX8_does 0 = .ok (.iload_n 1, 1) := by decide +kernel
theorem dX8_does_1 : decode cX8_does 1 = .ok (.aload_n 0, 1) := by decide +kernel
theorem dX8_does_2 : decode cX8_does 2 = .ok (.invokevirtual 95, 3) := by decide +kernel
theorem dX8_does_5 : decode cX8_does 5 = .ok (.iconst (-1), 1) := by decide +kernel
theorem dX8_does_6 : decode cX8_does 6 = .ok (.ixor, 1) := by decide +kernel
theorem dX8_does_7 : decode cX8_does 7 = .ok (.iand, 1) := by decide +kernel
theorem dX8_does_8 : decode cX8_does 8 = .ok (.ifCond .ne 40, 3) := by decide +kernel
theorem dX8_does_11 : decode cX8_does 11 = .ok (.iload_n 1, 1) := by decide +kernel
theorem dX8_does_12 : decode cX8_does 12 = .ok (.ifCond .eq 11, 3) := by decide +kernel
theorem dX8_does_15 : decode cX8_does 15 = .ok (.aload_n 0, 1) := by decide +kernel
theorem dX8_does_16 : decode cX8_does 16 = .ok (.iload_n 2, 1) := by decide +kernel
theorem dX8_does_17 : decode cX8_does 17 = .ok (.invokevirtual 137, 3) := by decide +kernel
theorem dX8_does_20 : decode cX8_does 20 = .ok (.ifCond .ne 28, 3) := by decide +kernel
theorem dX8_does_23 : decode cX8_does 23 = .ok (.aload_n 0, 1) := by decide +kernel
theorem dX8_does_24 : decode cX8_does 24 = .ok (.iload_n 2, 1) := by decide +kernel
theorem dX8_does_25 : decode cX8_does 25 = .ok (.iconst 3, 1) := by decide +kernel
theorem dX8_does_26 : decode cX8_does 26 = .ok (.invokevirtual 131, 3) := by decide +kernel
theorem dX8_does_29 : decode cX8_does 29 = .ok (.aload_n 0, 1) := by decide +kernel
theorem dX8_does_30 : decode cX8_does 30 = .ok (.iload_n 1, 1) := by decide +kernel
theorem dX8_does_31 : decode cX8_does 31 = .ok (.invokevirtual 99, 3) := by decide +kernel
theorem dX8_does_34 : decode cX8_does 34 = .ok (.iadd, 1) := by decide +kernel
theorem dX8_does_35 : decode cX8_does 35 = .ok (.aload_n 0, 1) := by decide +kernel
theorem dX8_does_36 : decode cX8_does 36 = .ok (.iload_n 2, 1) := by decide +kernel
theorem dX8_does_37 : decode cX8_does 37 = .ok (.iconst 0, 1) := by decide +kernel
theorem dX8_does_38 : decode cX8_does 38 = .ok (.invokevirtual 131, 3) := by decide +kernel
theorem dX8_does_41 : decode cX8_does 41 = .ok (.if_icmp .lt 7, 3) := by decide +kernel
theorem dX8_does_44 : decode cX8_does 44 = .ok (.iconst 1, 1) := by decide +kernel
theorem dX8_does_45 : decode cX8_does 45 = .ok (.goto 4, 3) := by decide +kernel
theorem dX8_does_48 : decode cX8_does 48 = .ok (.iconst 0, 1) := by decide +kernel
theorem dX8_does_49 : decode cX8_does 49 = .ok (.ireturn, 1) := by decide +kernel
theorem dX8_fewest_0 : decode cX8_fewest 0 = .ok (.iload_n 1, 1) := by decide +kernel
theorem dX8_fewest_1 : decode cX8_fewest 1 = .ok (.invokestatic 128, 3) := by decide +kernel
theorem dX8_fewest_4 : decode cX8_fewest 4 = .ok (.ifCond .ne 9, 3) := by decide +kernel
theorem dX8_fewest_7 : decode cX8_fewest 7 = .ok (.aload_n 0, 1) := by decide +kernel
theorem dX8_fewest_8 : decode cX8_fewest 8 = .ok (.iconst 0, 1) := by decide +kernel
theorem dX8_fewest_9 : decode cX8_fewest 9 = .ok (.invokevirtual 119, 3) := by decide +kernel
theorem dX8_fewest_12 : decode cX8_fewest 12 = .ok (.ireturn, 1) := by decide +kernel
theorem dX8_fewest_13 : decode cX8_fewest 13 = .ok (.iconst (-1), 1) := by decide +kernel
theorem dX8_fewest_14 : decode cX8_fewest 14 = .ok (.istore_n 2, 1) := by decide +kernel
theorem dX8_fewest_15 : decode cX8_fewest 15 = .ok (.iconst 0, 1) := by decide +kernel
theorem dX8_fewest_16 : decode cX8_fewest 16 = .ok (.istore_n 3, 1) := by decide +kernel
theorem dX8_fewest_17 : decode cX8_fewest 17 = .ok (.iload_n 3, 1) := by decide +kernel
theorem dX8_fewest_18 : decode cX8_fewest 18 = .ok (.sipush 256, 3) := by decide +kernel
theorem dX8_fewest_21 : decode cX8_fewest 21 = .ok (.if_icmp .ge 51, 3) := by decide +kernel
theorem dX8_fewest_24 : decode cX8_fewest 24 = .ok (.iload_n 2, 1) := by decide +kernel
theorem dX8_fewest_25 : decode cX8_fewest 25 = .ok (.ifCond .lt 14, 3) := by decide +kernel
theorem dX8_fewest_28 : decode cX8_fewest 28 = .ok (.iload_n 3, 1) := by decide +kernel
theorem dX8_fewest_29 : decode cX8_fewest 29 = .ok (.invokestatic 143, 3) := by decide +kernel
theorem dX8_fewest_32 : decode cX8_fewest 32 = .ok (.iload_n 2, 1) := by decide +kernel
theorem dX8_fewest_33 : decode cX8_fewest 33 = .ok (.invokestatic 143, 3) := by decide +kernel
theorem dX8_fewest_36 : decode cX8_fewest 36 = .ok (.if_icmp .ge 7, 3) := by decide +kernel
theorem dX8_fewest_39 : decode cX8_fewest 39 = .ok (.iconst 1, 1) := by decide +kernel
theorem dX8_fewest_40 : decode cX8_fewest 40 = .ok (.goto 4, 3) := by decide +kernel
theorem dX8_fewest_43 : decode cX8_fewest 43 = .ok (.iconst 0, 1) := by decide +kernel
theorem dX8_fewest_44 : decode cX8_fewest 44 = .ok (.istore 4, 2) := by decide +kernel
theorem dX8_fewest_46 : decode cX8_fewest 46 = .ok (.iload 4, 2) := by decide +kernel
theorem dX8_fewest_48 : decode cX8_fewest 48 = .ok (.ifCond .eq 16, 3) := by decide +kernel
theorem dX8_fewest_51 : decode cX8_fewest 51 = .ok (.aload_n 0, 1) := by decide +kernel
theorem dX8_fewest_52 : decode cX8_fewest 52 = .ok (.iload_n 3, 1) := by decide +kernel
theorem dX8_fewest_53 : decode cX8_fewest 53 = .ok (.iload_n 1, 1) := by decide +kernel
theorem dX8_fewest_54 : decode cX8_fewest 54 = .ok (.invokevirtual 161, 3) := by decide +kernel
theorem dX8_fewest_57 : decode cX8_fewest 57 = .ok (.ifCond .eq 7, 3) := by decide +kernel
theorem dX8_fewest_60 : decode cX8_fewest 60 = .ok (.iload_n 3, 1) := by decide +kernel
theorem dX8_fewest_61 : decode cX8_fewest 61 = .ok (.goto 4, 3) := by decide +kernel
theorem dX8_fewest_64 : decode cX8_fewest 64 = .ok (.iload_n 2, 1) := by decide +kernel
theorem dX8_fewest_65 : decode cX8_fewest 65 = .ok (.istore_n 2, 1) := by decide +kernel
theorem dX8_fewest_66 : decode cX8_fewest 66 = .ok (.iinc 3 1, 3) := by decide +kernel
theorem dX8_fewest_69 : decode cX8_fewest 69 = .ok (.goto (-52), 3) := by decide +kernel
theorem dX8_fewest_72 : decode cX8_fewest 72 = .ok (.iload_n 2, 1) := by decide +kernel
theorem dX8_fewest_73 : decode cX8_fewest 73 = .ok (.ifCond .ge 11, 3) := by decide +kernel
theorem dX8_fewest_76 : decode cX8_fewest 76 = .ok (.aload_n 0, 1) := by decide +kernel
theorem dX8_fewest_77 : decode cX8_fewest 77 = .ok (.iconst 3, 1) := by decide +kernel
theorem dX8_fewest_78 : decode cX8_fewest 78 = .ok (.invokevirtual 119, 3) := by decide +kernel
theorem dX8_fewest_81 : decode cX8_fewest 81 = .ok (.goto 4, 3) := by decide +kernel
theorem dX8_fewest_84 : decode cX8_fewest 84 = .ok (.iload_n 2, 1) := by decide +kernel
theorem dX8_fewest_85 : decode cX8_fewest 85 = .ok (.ireturn, 1) := by decide +kernel
theorem dX8_thrifty_0 : decode cX8_thrifty 0 = .ok (.iload_n 1, 1) := by decide +kernel
theorem dX8_thrifty_1 : decode cX8_thrifty 1 = .ok (.invokestatic 128, 3) := by decide +kernel
theorem dX8_thrifty_4 : decode cX8_thrifty 4 = .ok (.ifCond .ne 9, 3) := by decide +kernel
theorem dX8_thrifty_7 : decode cX8_thrifty 7 = .ok (.aload_n 0, 1) := by decide +kernel
theorem dX8_thrifty_8 : decode cX8_thrifty 8 = .ok (.iconst 0, 1) := by decide +kernel
theorem dX8_thrifty_9 : decode cX8_thrifty 9 = .ok (.invokevirtual 119, 3) := by decide +kernel
theorem dX8_thrifty_12 : decode cX8_thrifty 12 = .ok (.ireturn, 1) := by decide +kernel
theorem dX8_thrifty_13 : decode cX8_thrifty 13 = .ok (.iconst (-1), 1) := by decide +kernel
theorem dX8_thrifty_14 : decode cX8_thrifty 14 = .ok (.istore_n 2, 1) := by decide +kernel
theorem dX8_thrifty_15 : decode cX8_thrifty 15 = .ok (.iconst 0, 1) := by decide +kernel
theorem dX8_thrifty_16 : decode cX8_thrifty 16 = .ok (.istore_n 3, 1) := by decide +kernel
theorem dX8_thrifty_17 : decode cX8_thrifty 17 = .ok (.iload_n 3, 1) := by decide +kernel
theorem dX8_thrifty_18 : decode cX8_thrifty 18 = .ok (.sipush 256, 3) := by decide +kernel
theorem dX8_thrifty_21 : decode cX8_thrifty 21 = .ok (.if_icmp .ge 53, 3) := by decide +kernel
theorem dX8_thrifty_24 : decode cX8_thrifty 24 = .ok (.aload_n 0, 1) := by decide +kernel
theorem dX8_thrifty_25 : decode cX8_thrifty 25 = .ok (.iload_n 3, 1) := by decide +kernel
theorem dX8_thrifty_26 : decode cX8_thrifty 26 = .ok (.iload_n 1, 1) := by decide +kernel
theorem dX8_thrifty_27 : decode cX8_thrifty 27 = .ok (.invokevirtual 161, 3) := by decide +kernel
theorem dX8_thrifty_30 : decode cX8_thrifty 30 = .ok (.ifCond .eq 24, 3) := by decide +kernel
theorem dX8_thrifty_33 : decode cX8_thrifty 33 = .ok (.iload_n 2, 1) := by decide +kernel
theorem dX8_thrifty_34 : decode cX8_thrifty 34 = .ok (.ifCond .lt 16, 3) := by decide +kernel
theorem dX8_thrifty_37 : decode cX8_thrifty 37 = .ok (.aload_n 0, 1) := by decide +kernel
theorem dX8_thrifty_38 : decode cX8_thrifty 38 = .ok (.iload_n 3, 1) := by decide +kernel
theorem dX8_thrifty_39 : decode cX8_thrifty 39 = .ok (.invokevirtual 99, 3) := by decide +kernel
theorem dX8_thrifty_42 : decode cX8_thrifty 42 = .ok (.aload_n 0, 1) := by decide +kernel
theorem dX8_thrifty_43 : decode cX8_thrifty 43 = .ok (.iload_n 2, 1) := by decide +kernel
theorem dX8_thrifty_44 : decode cX8_thrifty 44 = .ok (.invokevirtual 99, 3) := by decide +kernel
theorem dX8_thrifty_47 : decode cX8_thrifty 47 = .ok (.if_icmp .ge 7, 3) := by decide +kernel
theorem dX8_thrifty_50 : decode cX8_thrifty 50 = .ok (.iconst 1, 1) := by decide +kernel
theorem dX8_thrifty_51 : decode cX8_thrifty 51 = .ok (.goto 4, 3) := by decide +kernel
theorem dX8_thrifty_54 : decode cX8_thrifty 54 = .ok (.iconst 0, 1) := by decide +kernel
theorem dX8_thrifty_55 : decode cX8_thrifty 55 = .ok (.istore 4, 2) := by decide +kernel
theorem dX8_thrifty_57 : decode cX8_thrifty 57 = .ok (.iload 4, 2) := by decide +kernel
theorem dX8_thrifty_59 : decode cX8_thrifty 59 = .ok (.ifCond .eq 7, 3) := by decide +kernel
theorem dX8_thrifty_62 : decode cX8_thrifty 62 = .ok (.iload_n 3, 1) := by decide +kernel
theorem dX8_thrifty_63 : decode cX8_thrifty 63 = .ok (.goto 4, 3) := by decide +kernel
theorem dX8_thrifty_66 : decode cX8_thrifty 66 = .ok (.iload_n 2, 1) := by decide +kernel
theorem dX8_thrifty_67 : decode cX8_thrifty 67 = .ok (.istore_n 2, 1) := by decide +kernel
theorem dX8_thrifty_68 : decode cX8_thrifty 68 = .ok (.iinc 3 1, 3) := by decide +kernel
theorem dX8_thrifty_71 : decode cX8_thrifty 71 = .ok (.goto (-54), 3) := by decide +kernel
theorem dX8_thrifty_74 : decode cX8_thrifty 74 = .ok (.iload_n 2, 1) := by decide +kernel
theorem dX8_thrifty_75 : decode cX8_thrifty 75 = .ok (.ifCond .ge 11, 3) := by decide +kernel
theorem dX8_thrifty_78 : decode cX8_thrifty 78 = .ok (.aload_n 0, 1) := by decide +kernel
theorem dX8_thrifty_79 : decode cX8_thrifty 79 = .ok (.iconst 3, 1) := by decide +kernel
theorem dX8_thrifty_80 : decode cX8_thrifty 80 = .ok (.invokevirtual 119, 3) := by decide +kernel
theorem dX8_thrifty_83 : decode cX8_thrifty 83 = .ok (.goto 4, 3) := by decide +kernel
theorem dX8_thrifty_86 : decode cX8_thrifty 86 = .ok (.iload_n 2, 1) := by decide +kernel
theorem dX8_thrifty_87 : decode cX8_thrifty 87 = .ok (.ireturn, 1) := by decide +kernel
theorem dX8_lowest_0 : decode cX8_lowest 0 = .ok (.iconst 0, 1) := by decide +kernel
theorem dX8_lowest_1 : decode cX8_lowest 1 = .ok (.istore_n 1, 1) := by decide +kernel
theorem dX8_lowest_2 : decode cX8_lowest 2 = .ok (.iload_n 0, 1) := by decide +kernel
theorem dX8_lowest_3 : decode cX8_lowest 3 = .ok (.iload_n 1, 1) := by decide +kernel
theorem dX8_lowest_4 : decode cX8_lowest 4 = .ok (.invokestatic 88, 3) := by decide +kernel
theorem dX8_lowest_7 : decode cX8_lowest 7 = .ok (.ifCond .ne 9, 3) := by decide +kernel
theorem dX8_lowest_10 : decode cX8_lowest 10 = .ok (.iinc 1 1, 3) := by decide +kernel
theorem dX8_lowest_13 : decode cX8_lowest 13 = .ok (.goto (-11), 3) := by decide +kernel
theorem dX8_lowest_16 : decode cX8_lowest 16 = .ok (.iload_n 1, 1) := by decide +kernel
theorem dX8_lowest_17 : decode cX8_lowest 17 = .ok (.ireturn, 1) := by decide +kernel
theorem dX8_dealt_0 : decode cX8_dealt 0 = .ok (.iload_n 1, 1) := by decide +kernel
theorem dX8_dealt_1 : decode cX8_dealt 1 = .ok (.invokestatic 164, 3) := by decide +kernel
theorem dX8_dealt_4 : decode cX8_dealt 4 = .ok (.istore_n 3, 1) := by decide +kernel
theorem dX8_dealt_5 : decode cX8_dealt 5 = .ok (.iload_n 1, 1) := by decide +kernel
theorem dX8_dealt_6 : decode cX8_dealt 6 = .ok (.iload_n 1, 1) := by decide +kernel
theorem dX8_dealt_7 : decode cX8_dealt 7 = .ok (.iconst 1, 1) := by decide +kernel
theorem dX8_dealt_8 : decode cX8_dealt 8 = .ok (.isub, 1) := by decide +kernel
theorem dX8_dealt_9 : decode cX8_dealt 9 = .ok (.iand, 1) := by decide +kernel
theorem dX8_dealt_10 : decode cX8_dealt 10 = .ok (.istore 4, 2) := by decide +kernel
theorem dX8_dealt_12 : decode cX8_dealt 12 = .ok (.aload_n 0, 1) := by decide +kernel
theorem dX8_dealt_13 : decode cX8_dealt 13 = .ok (.iload_n 3, 1) := by decide +kernel
theorem dX8_dealt_14 : decode cX8_dealt 14 = .ok (.invokevirtual 134, 3) := by decide +kernel
theorem dX8_dealt_17 : decode cX8_dealt 17 = .ok (.ifCond .eq 17, 3) := by decide +kernel
theorem dX8_dealt_20 : decode cX8_dealt 20 = .ok (.aload_n 0, 1) := by decide +kernel
theorem dX8_dealt_21 : decode cX8_dealt 21 = .ok (.getfield 22, 3) := by decide +kernel
theorem dX8_dealt_24 : decode cX8_dealt 24 = .ok (.sipush 256, 3) := by decide +kernel
theorem dX8_dealt_27 : decode cX8_dealt 27 = .ok (.iload 4, 2) := by decide +kernel
theorem dX8_dealt_29 : decode cX8_dealt 29 = .ok (.imul, 1) := by decide +kernel
theorem dX8_dealt_30 : decode cX8_dealt 30 = .ok (.iload_n 2, 1) := by decide +kernel
theorem dX8_dealt_31 : decode cX8_dealt 31 = .ok (.iadd, 1) := by decide +kernel
theorem dX8_dealt_32 : decode cX8_dealt 32 = .ok (.baload, 1) := by decide +kernel
theorem dX8_dealt_33 : decode cX8_dealt 33 = .ok (.ireturn, 1) := by decide +kernel
theorem dX8_dealt_34 : decode cX8_dealt 34 = .ok (.iconst 0, 1) := by decide +kernel
theorem dX8_dealt_35 : decode cX8_dealt 35 = .ok (.istore 5, 2) := by decide +kernel
theorem dX8_dealt_37 : decode cX8_dealt 37 = .ok (.iload_n 2, 1) := by decide +kernel
theorem dX8_dealt_38 : decode cX8_dealt 38 = .ok (.istore 6, 2) := by decide +kernel
theorem dX8_dealt_40 : decode cX8_dealt 40 = .ok (.iload 6, 2) := by decide +kernel
theorem dX8_dealt_42 : decode cX8_dealt 42 = .ok (.ifCond .eq 78, 3) := by decide +kernel
theorem dX8_dealt_45 : decode cX8_dealt 45 = .ok (.iload 5, 2) := by decide +kernel
theorem dX8_dealt_47 : decode cX8_dealt 47 = .ok (.ifCond .ne 73, 3) := by decide +kernel
theorem dX8_dealt_50 : decode cX8_dealt 50 = .ok (.aload_n 0, 1) := by decide +kernel
theorem dX8_dealt_51 : decode cX8_dealt 51 = .ok (.iload_n 3, 1) := by decide +kernel
theorem dX8_dealt_52 : decode cX8_dealt 52 = .ok (.invokevirtual 137, 3) := by decide +kernel
theorem dX8_dealt_55 : decode cX8_dealt 55 = .ok (.ifCond .ne 65, 3) := by decide +kernel
theorem dX8_dealt_58 : decode cX8_dealt 58 = .ok (.aload_n 0, 1) := by decide +kernel
theorem dX8_dealt_59 : decode cX8_dealt 59 = .ok (.iload_n 3, 1) := by decide +kernel
theorem dX8_dealt_60 : decode cX8_dealt 60 = .ok (.iconst 3, 1) := by decide +kernel
theorem dX8_dealt_61 : decode cX8_dealt 61 = .ok (.invokevirtual 131, 3) := by decide +kernel
theorem dX8_dealt_64 : decode cX8_dealt 64 = .ok (.aload_n 0, 1) := by decide +kernel
theorem dX8_dealt_65 : decode cX8_dealt 65 = .ok (.getfield 26, 3) := by decide +kernel
theorem dX8_dealt_68 : decode cX8_dealt 68 = .ok (.iload 6, 2) := by decide +kernel
theorem dX8_dealt_70 : decode cX8_dealt 70 = .ok (.iaload, 1) := by decide +kernel
theorem dX8_dealt_71 : decode cX8_dealt 71 = .ok (.iadd, 1) := by decide +kernel
theorem dX8_dealt_72 : decode cX8_dealt 72 = .ok (.aload_n 0, 1) := by decide +kernel
theorem dX8_dealt_73 : decode cX8_dealt 73 = .ok (.iload_n 3, 1) := by decide +kernel
theorem dX8_dealt_74 : decode cX8_dealt 74 = .ok (.iconst 0, 1) := by decide +kernel
theorem dX8_dealt_75 : decode cX8_dealt 75 = .ok (.invokevirtual 131, 3) := by decide +kernel
theorem dX8_dealt_78 : decode cX8_dealt 78 = .ok (.if_icmp .lt 28, 3) := by decide +kernel
theorem dX8_dealt_81 : decode cX8_dealt 81 = .ok (.aload_n 0, 1) := by decide +kernel
theorem dX8_dealt_82 : decode cX8_dealt 82 = .ok (.getfield 22, 3) := by decide +kernel
theorem dX8_dealt_85 : decode cX8_dealt 85 = .ok (.sipush 256, 3) := by decide +kernel
theorem dX8_dealt_88 : decode cX8_dealt 88 = .ok (.iload 4, 2) := by decide +kernel
theorem dX8_dealt_90 : decode cX8_dealt 90 = .ok (.imul, 1) := by decide +kernel
theorem dX8_dealt_91 : decode cX8_dealt 91 = .ok (.iload_n 2, 1) := by decide +kernel
theorem dX8_dealt_92 : decode cX8_dealt 92 = .ok (.iload 6, 2) := by decide +kernel
theorem dX8_dealt_94 : decode cX8_dealt 94 = .ok (.iconst (-1), 1) := by decide +kernel
theorem dX8_dealt_95 : decode cX8_dealt 95 = .ok (.ixor, 1) := by decide +kernel
theorem dX8_dealt_96 : decode cX8_dealt 96 = .ok (.iand, 1) := by decide +kernel
theorem dX8_dealt_97 : decode cX8_dealt 97 = .ok (.iadd, 1) := by decide +kernel
theorem dX8_dealt_98 : decode cX8_dealt 98 = .ok (.baload, 1) := by decide +kernel
theorem dX8_dealt_99 : decode cX8_dealt 99 = .ok (.ifCond .eq 7, 3) := by decide +kernel
theorem dX8_dealt_102 : decode cX8_dealt 102 = .ok (.iconst 1, 1) := by decide +kernel
theorem dX8_dealt_103 : decode cX8_dealt 103 = .ok (.goto 4, 3) := by decide +kernel
theorem dX8_dealt_106 : decode cX8_dealt 106 = .ok (.iconst 0, 1) := by decide +kernel
theorem dX8_dealt_107 : decode cX8_dealt 107 = .ok (.istore 5, 2) := by decide +kernel
theorem dX8_dealt_109 : decode cX8_dealt 109 = .ok (.iload 6, 2) := by decide +kernel
theorem dX8_dealt_111 : decode cX8_dealt 111 = .ok (.iconst 1, 1) := by decide +kernel
theorem dX8_dealt_112 : decode cX8_dealt 112 = .ok (.isub, 1) := by decide +kernel
theorem dX8_dealt_113 : decode cX8_dealt 113 = .ok (.iload_n 2, 1) := by decide +kernel
theorem dX8_dealt_114 : decode cX8_dealt 114 = .ok (.iand, 1) := by decide +kernel
theorem dX8_dealt_115 : decode cX8_dealt 115 = .ok (.istore 6, 2) := by decide +kernel
theorem dX8_dealt_117 : decode cX8_dealt 117 = .ok (.goto (-77), 3) := by decide +kernel
theorem dX8_dealt_120 : decode cX8_dealt 120 = .ok (.iload 5, 2) := by decide +kernel
theorem dX8_dealt_122 : decode cX8_dealt 122 = .ok (.ireturn, 1) := by decide +kernel
theorem dX8_worthOf_0 : decode cX8_worthOf 0 = .ok (.iconst 0, 1) := by decide +kernel
theorem dX8_worthOf_1 : decode cX8_worthOf 1 = .ok (.istore_n 2, 1) := by decide +kernel
theorem dX8_worthOf_2 : decode cX8_worthOf 2 = .ok (.iconst 0, 1) := by decide +kernel
theorem dX8_worthOf_3 : decode cX8_worthOf 3 = .ok (.istore_n 3, 1) := by decide +kernel
theorem dX8_worthOf_4 : decode cX8_worthOf 4 = .ok (.iload_n 3, 1) := by decide +kernel
theorem dX8_worthOf_5 : decode cX8_worthOf 5 = .ok (.bipush 6, 2) := by decide +kernel
theorem dX8_worthOf_7 : decode cX8_worthOf 7 = .ok (.if_icmp .ge 30, 3) := by decide +kernel
theorem dX8_worthOf_10 : decode cX8_worthOf 10 = .ok (.iload_n 2, 1) := by decide +kernel
theorem dX8_worthOf_11 : decode cX8_worthOf 11 = .ok (.iload_n 1, 1) := by decide +kernel
theorem dX8_worthOf_12 : decode cX8_worthOf 12 = .ok (.iload_n 3, 1) := by decide +kernel
theorem dX8_worthOf_13 : decode cX8_worthOf 13 = .ok (.invokestatic 88, 3) := by decide +kernel
theorem dX8_worthOf_16 : decode cX8_worthOf 16 = .ok (.ifCond .eq 12, 3) := by decide +kernel
theorem dX8_worthOf_19 : decode cX8_worthOf 19 = .ok (.aload_n 0, 1) := by decide +kernel
theorem dX8_worthOf_20 : decode cX8_worthOf 20 = .ok (.iload_n 3, 1) := by decide +kernel
theorem dX8_worthOf_21 : decode cX8_worthOf 21 = .ok (.iconst 2, 1) := by decide +kernel
theorem dX8_worthOf_22 : decode cX8_worthOf 22 = .ok (.invokevirtual 131, 3) := by decide +kernel
theorem dX8_worthOf_25 : decode cX8_worthOf 25 = .ok (.goto 4, 3) := by decide +kernel
theorem dX8_worthOf_28 : decode cX8_worthOf 28 = .ok (.iconst 0, 1) := by decide +kernel
theorem dX8_worthOf_29 : decode cX8_worthOf 29 = .ok (.iadd, 1) := by decide +kernel
theorem dX8_worthOf_30 : decode cX8_worthOf 30 = .ok (.istore_n 2, 1) := by decide +kernel
theorem dX8_worthOf_31 : decode cX8_worthOf 31 = .ok (.iinc 3 1, 3) := by decide +kernel
theorem dX8_worthOf_34 : decode cX8_worthOf 34 = .ok (.goto (-30), 3) := by decide +kernel
theorem dX8_worthOf_37 : decode cX8_worthOf 37 = .ok (.iload_n 2, 1) := by decide +kernel
theorem dX8_worthOf_38 : decode cX8_worthOf 38 = .ok (.ireturn, 1) := by decide +kernel
theorem dX8_bestSet_0 : decode cX8_bestSet 0 = .ok (.aload_n 0, 1) := by decide +kernel
theorem dX8_bestSet_1 : decode cX8_bestSet 1 = .ok (.invokevirtual 95, 3) := by decide +kernel
theorem dX8_bestSet_4 : decode cX8_bestSet 4 = .ok (.istore_n 1, 1) := by decide +kernel
theorem dX8_bestSet_5 : decode cX8_bestSet 5 = .ok (.iconst 0, 1) := by decide +kernel
theorem dX8_bestSet_6 : decode cX8_bestSet 6 = .ok (.istore_n 2, 1) := by decide +kernel
theorem dX8_bestSet_7 : decode cX8_bestSet 7 = .ok (.iload_n 2, 1) := by decide +kernel
theorem dX8_bestSet_8 : decode cX8_bestSet 8 = .ok (.sipush 256, 3) := by decide +kernel
theorem dX8_bestSet_11 : decode cX8_bestSet 11 = .ok (.if_icmp .ge 29, 3) := by decide +kernel
theorem dX8_bestSet_14 : decode cX8_bestSet 14 = .ok (.aload_n 0, 1) := by decide +kernel
theorem dX8_bestSet_15 : decode cX8_bestSet 15 = .ok (.getfield 26, 3) := by decide +kernel
theorem dX8_bestSet_18 : decode cX8_bestSet 18 = .ok (.iload_n 2, 1) := by decide +kernel
theorem dX8_bestSet_19 : decode cX8_bestSet 19 = .ok (.aload_n 0, 1) := by decide +kernel
theorem dX8_bestSet_20 : decode cX8_bestSet 20 = .ok (.iload_n 2, 1) := by decide +kernel
theorem dX8_bestSet_21 : decode cX8_bestSet 21 = .ok (.iload_n 1, 1) := by decide +kernel
theorem dX8_bestSet_22 : decode cX8_bestSet 22 = .ok (.iand, 1) := by decide +kernel
theorem dX8_bestSet_23 : decode cX8_bestSet 23 = .ok (.invokevirtual 99, 3) := by decide +kernel
theorem dX8_bestSet_26 : decode cX8_bestSet 26 = .ok (.iastore, 1) := by decide +kernel
theorem dX8_bestSet_27 : decode cX8_bestSet 27 = .ok (.aload_n 0, 1) := by decide +kernel
theorem dX8_bestSet_28 : decode cX8_bestSet 28 = .ok (.getfield 22, 3) := by decide +kernel
theorem dX8_bestSet_31 : decode cX8_bestSet 31 = .ok (.iload_n 2, 1) := by decide +kernel
theorem dX8_bestSet_32 : decode cX8_bestSet 32 = .ok (.iconst 1, 1) := by decide +kernel
theorem dX8_bestSet_33 : decode cX8_bestSet 33 = .ok (.bastore, 1) := by decide +kernel
theorem dX8_bestSet_34 : decode cX8_bestSet 34 = .ok (.iinc 2 1, 3) := by decide +kernel
theorem dX8_bestSet_37 : decode cX8_bestSet 37 = .ok (.goto (-30), 3) := by decide +kernel
theorem dX8_bestSet_40 : decode cX8_bestSet 40 = .ok (.iconst 0, 1) := by decide +kernel
theorem dX8_bestSet_41 : decode cX8_bestSet 41 = .ok (.istore_n 2, 1) := by decide +kernel
theorem dX8_bestSet_42 : decode cX8_bestSet 42 = .ok (.iconst 1, 1) := by decide +kernel
theorem dX8_bestSet_43 : decode cX8_bestSet 43 = .ok (.istore_n 3, 1) := by decide +kernel
theorem dX8_bestSet_44 : decode cX8_bestSet 44 = .ok (.iload_n 3, 1) := by decide +kernel
theorem dX8_bestSet_45 : decode cX8_bestSet 45 = .ok (.bipush 64, 2) := by decide +kernel
theorem dX8_bestSet_47 : decode cX8_bestSet 47 = .ok (.if_icmp .ge 97, 3) := by decide +kernel
theorem dX8_bestSet_50 : decode cX8_bestSet 50 = .ok (.iconst 0, 1) := by decide +kernel
theorem dX8_bestSet_51 : decode cX8_bestSet 51 = .ok (.istore 4, 2) := by decide +kernel
theorem dX8_bestSet_53 : decode cX8_bestSet 53 = .ok (.iload 4, 2) := by decide +kernel
theorem dX8_bestSet_55 : decode cX8_bestSet 55 = .ok (.sipush 256, 3) := by decide +kernel
theorem dX8_bestSet_58 : decode cX8_bestSet 58 = .ok (.if_icmp .ge 46, 3) := by decide +kernel
theorem dX8_bestSet_61 : decode cX8_bestSet 61 = .ok (.aload_n 0, 1) := by decide +kernel
theorem dX8_bestSet_62 : decode cX8_bestSet 62 = .ok (.getfield 22, 3) := by decide +kernel
theorem dX8_bestSet_65 : decode cX8_bestSet 65 = .ok (.sipush 256, 3) := by decide +kernel
theorem dX8_bestSet_68 : decode cX8_bestSet 68 = .ok (.iload_n 3, 1) := by decide +kernel
theorem dX8_bestSet_69 : decode cX8_bestSet 69 = .ok (.imul, 1) := by decide +kernel
theorem dX8_bestSet_70 : decode cX8_bestSet 70 = .ok (.iload 4, 2) := by decide +kernel
theorem dX8_bestSet_72 : decode cX8_bestSet 72 = .ok (.iadd, 1) := by decide +kernel
theorem dX8_bestSet_73 : decode cX8_bestSet 73 = .ok (.iload 4, 2) := by decide +kernel
theorem dX8_bestSet_75 : decode cX8_bestSet 75 = .ok (.iload_n 1, 1) := by decide +kernel
theorem dX8_bestSet_76 : decode cX8_bestSet 76 = .ok (.iconst (-1), 1) := by decide +kernel
theorem dX8_bestSet_77 : decode cX8_bestSet 77 = .ok (.ixor, 1) := by decide +kernel
theorem dX8_bestSet_78 : decode cX8_bestSet 78 = .ok (.iand, 1) := by decide +kernel
theorem dX8_bestSet_79 : decode cX8_bestSet 79 = .ok (.ifCond .ne 17, 3) := by decide +kernel
theorem dX8_bestSet_82 : decode cX8_bestSet 82 = .ok (.aload_n 0, 1) := by decide +kernel
theorem dX8_bestSet_83 : decode cX8_bestSet 83 = .ok (.iload_n 3, 1) := by decide +kernel
theorem dX8_bestSet_84 : decode cX8_bestSet 84 = .ok (.iload 4, 2) := by decide +kernel
theorem dX8_bestSet_86 : decode cX8_bestSet 86 = .ok (.invokevirtual 167, 3) := by decide +kernel
theorem dX8_bestSet_89 : decode cX8_bestSet 89 = .ok (.ifCond .eq 7, 3) := by decide +kernel
theorem dX8_bestSet_92 : decode cX8_bestSet 92 = .ok (.iconst 1, 1) := by decide +kernel
theorem dX8_bestSet_93 : decode cX8_bestSet 93 = .ok (.goto 4, 3) := by decide +kernel
theorem dX8_bestSet_96 : decode cX8_bestSet 96 = .ok (.iconst 0, 1) := by decide +kernel
theorem dX8_bestSet_97 : decode cX8_bestSet 97 = .ok (.bastore, 1) := by decide +kernel
theorem dX8_bestSet_98 : decode cX8_bestSet 98 = .ok (.iinc 4 1, 3) := by decide +kernel
theorem dX8_bestSet_101 : decode cX8_bestSet 101 = .ok (.goto (-48), 3) := by decide +kernel
theorem dX8_bestSet_104 : decode cX8_bestSet 104 = .ok (.aload_n 0, 1) := by decide +kernel
theorem dX8_bestSet_105 : decode cX8_bestSet 105 = .ok (.getfield 22, 3) := by decide +kernel
theorem dX8_bestSet_108 : decode cX8_bestSet 108 = .ok (.sipush 256, 3) := by decide +kernel
theorem dX8_bestSet_111 : decode cX8_bestSet 111 = .ok (.iload_n 3, 1) := by decide +kernel
theorem dX8_bestSet_112 : decode cX8_bestSet 112 = .ok (.imul, 1) := by decide +kernel
theorem dX8_bestSet_113 : decode cX8_bestSet 113 = .ok (.iload_n 1, 1) := by decide +kernel
theorem dX8_bestSet_114 : decode cX8_bestSet 114 = .ok (.iadd, 1) := by decide +kernel
theorem dX8_bestSet_115 : decode cX8_bestSet 115 = .ok (.baload, 1) := by decide +kernel
theorem dX8_bestSet_116 : decode cX8_bestSet 116 = .ok (.ifCond .eq 20, 3) := by decide +kernel
theorem dX8_bestSet_119 : decode cX8_bestSet 119 = .ok (.aload_n 0, 1) := by decide +kernel
theorem dX8_bestSet_120 : decode cX8_bestSet 120 = .ok (.iload_n 3, 1) := by decide +kernel
theorem dX8_bestSet_121 : decode cX8_bestSet 121 = .ok (.invokevirtual 170, 3) := by decide +kernel
theorem dX8_bestSet_124 : decode cX8_bestSet 124 = .ok (.aload_n 0, 1) := by decide +kernel
theorem dX8_bestSet_125 : decode cX8_bestSet 125 = .ok (.iload_n 2, 1) := by decide +kernel
theorem dX8_bestSet_126 : decode cX8_bestSet 126 = .ok (.invokevirtual 170, 3) := by decide +kernel
theorem dX8_bestSet_129 : decode cX8_bestSet 129 = .ok (.if_icmp .le 7, 3) := by decide +kernel
theorem dX8_bestSet_132 : decode cX8_bestSet 132 = .ok (.iload_n 3, 1) := by decide +kernel
theorem dX8_bestSet_133 : decode cX8_bestSet 133 = .ok (.goto 4, 3) := by decide +kernel
theorem dX8_bestSet_136 : decode cX8_bestSet 136 = .ok (.iload_n 2, 1) := by decide +kernel
theorem dX8_bestSet_137 : decode cX8_bestSet 137 = .ok (.istore_n 2, 1) := by decide +kernel
theorem dX8_bestSet_138 : decode cX8_bestSet 138 = .ok (.iinc 3 1, 3) := by decide +kernel
theorem dX8_bestSet_141 : decode cX8_bestSet 141 = .ok (.goto (-97), 3) := by decide +kernel
theorem dX8_bestSet_144 : decode cX8_bestSet 144 = .ok (.iload_n 2, 1) := by decide +kernel
theorem dX8_bestSet_145 : decode cX8_bestSet 145 = .ok (.ireturn, 1) := by decide +kernel
theorem dX8_best_0 : decode cX8_best 0 = .ok (.aload_n 0, 1) := by decide +kernel
theorem dX8_best_1 : decode cX8_best 1 = .ok (.aload_n 0, 1) := by decide +kernel
theorem dX8_best_2 : decode cX8_best 2 = .ok (.invokevirtual 173, 3) := by decide +kernel
theorem dX8_best_5 : decode cX8_best 5 = .ok (.invokevirtual 170, 3) := by decide +kernel
theorem dX8_best_8 : decode cX8_best 8 = .ok (.ireturn, 1) := by decide +kernel
theorem dX8_bestWorks_0 : decode cX8_bestWorks 0 = .ok (.aload_n 0, 1) := by decide +kernel
theorem dX8_bestWorks_1 : decode cX8_bestWorks 1 = .ok (.invokevirtual 173, 3) := by decide +kernel
theorem dX8_bestWorks_4 : decode cX8_bestWorks 4 = .ok (.ireturn, 1) := by decide +kernel
theorem dX8_soonest_0 : decode cX8_soonest 0 = .ok (.iload_n 1, 1) := by decide +kernel
theorem dX8_soonest_1 : decode cX8_soonest 1 = .ok (.invokestatic 128, 3) := by decide +kernel
theorem dX8_soonest_4 : decode cX8_soonest 4 = .ok (.ifCond .ne 9, 3) := by decide +kernel
theorem dX8_soonest_7 : decode cX8_soonest 7 = .ok (.aload_n 0, 1) := by decide +kernel
theorem dX8_soonest_8 : decode cX8_soonest 8 = .ok (.iconst 0, 1) := by decide +kernel
theorem dX8_soonest_9 : decode cX8_soonest 9 = .ok (.invokevirtual 119, 3) := by decide +kernel
theorem dX8_soonest_12 : decode cX8_soonest 12 = .ok (.ireturn, 1) := by decide +kernel
theorem dX8_soonest_13 : decode cX8_soonest 13 = .ok (.aload_n 0, 1) := by decide +kernel
theorem dX8_soonest_14 : decode cX8_soonest 14 = .ok (.invokevirtual 152, 3) := by decide +kernel
theorem dX8_soonest_17 : decode cX8_soonest 17 = .ok (.iconst 0, 1) := by decide +kernel
theorem dX8_soonest_18 : decode cX8_soonest 18 = .ok (.istore_n 2, 1) := by decide +kernel
theorem dX8_soonest_19 : decode cX8_soonest 19 = .ok (.iconst 0, 1) := by decide +kernel
theorem dX8_soonest_20 : decode cX8_soonest 20 = .ok (.istore_n 3, 1) := by decide +kernel
theorem dX8_soonest_21 : decode cX8_soonest 21 = .ok (.iconst 0, 1) := by decide +kernel
theorem dX8_soonest_22 : decode cX8_soonest 22 = .ok (.istore 4, 2) := by decide +kernel
theorem dX8_soonest_24 : decode cX8_soonest 24 = .ok (.iload_n 2, 1) := by decide +kernel
theorem dX8_soonest_25 : decode cX8_soonest 25 = .ok (.bipush 60, 2) := by decide +kernel
theorem dX8_soonest_27 : decode cX8_soonest 27 = .ok (.if_icmp .gt 61, 3) := by decide +kernel
theorem dX8_soonest_30 : decode cX8_soonest 30 = .ok (.iload 4, 2) := by decide +kernel
theorem dX8_soonest_32 : decode cX8_soonest 32 = .ok (.ifCond .ne 56, 3) := by decide +kernel
theorem dX8_soonest_35 : decode cX8_soonest 35 = .ok (.aload_n 0, 1) := by decide +kernel
theorem dX8_soonest_36 : decode cX8_soonest 36 = .ok (.iload_n 1, 1) := by decide +kernel
theorem dX8_soonest_37 : decode cX8_soonest 37 = .ok (.invokevirtual 137, 3) := by decide +kernel
theorem dX8_soonest_40 : decode cX8_soonest 40 = .ok (.ifCond .ne 27, 3) := by decide +kernel
theorem dX8_soonest_43 : decode cX8_soonest 43 = .ok (.aload_n 0, 1) := by decide +kernel
theorem dX8_soonest_44 : decode cX8_soonest 44 = .ok (.iload_n 1, 1) := by decide +kernel
theorem dX8_soonest_45 : decode cX8_soonest 45 = .ok (.iconst 3, 1) := by decide +kernel
theorem dX8_soonest_46 : decode cX8_soonest 46 = .ok (.invokevirtual 131, 3) := by decide +kernel
theorem dX8_soonest_49 : decode cX8_soonest 49 = .ok (.aload_n 0, 1) := by decide +kernel
theorem dX8_soonest_50 : decode cX8_soonest 50 = .ok (.invokevirtual 146, 3) := by decide +kernel
theorem dX8_soonest_53 : decode cX8_soonest 53 = .ok (.iadd, 1) := by decide +kernel
theorem dX8_soonest_54 : decode cX8_soonest 54 = .ok (.aload_n 0, 1) := by decide +kernel
theorem dX8_soonest_55 : decode cX8_soonest 55 = .ok (.iload_n 1, 1) := by decide +kernel
theorem dX8_soonest_56 : decode cX8_soonest 56 = .ok (.iconst 0, 1) := by decide +kernel
theorem dX8_soonest_57 : decode cX8_soonest 57 = .ok (.invokevirtual 131, 3) := by decide +kernel
theorem dX8_soonest_60 : decode cX8_soonest 60 = .ok (.if_icmp .lt 7, 3) := by decide +kernel
theorem dX8_soonest_63 : decode cX8_soonest 63 = .ok (.iconst 1, 1) := by decide +kernel
theorem dX8_soonest_64 : decode cX8_soonest 64 = .ok (.goto 4, 3) := by decide +kernel
theorem dX8_soonest_67 : decode cX8_soonest 67 = .ok (.iconst 0, 1) := by decide +kernel
theorem dX8_soonest_68 : decode cX8_soonest 68 = .ok (.istore 4, 2) := by decide +kernel
theorem dX8_soonest_70 : decode cX8_soonest 70 = .ok (.iload 4, 2) := by decide +kernel
theorem dX8_soonest_72 : decode cX8_soonest 72 = .ok (.ifCond .ne (-48), 3) := by decide +kernel
theorem dX8_soonest_75 : decode cX8_soonest 75 = .ok (.iload_n 3, 1) := by decide +kernel
theorem dX8_soonest_76 : decode cX8_soonest 76 = .ok (.aload_n 0, 1) := by decide +kernel
theorem dX8_soonest_77 : decode cX8_soonest 77 = .ok (.invokevirtual 140, 3) := by decide +kernel
theorem dX8_soonest_80 : decode cX8_soonest 80 = .ok (.iadd, 1) := by decide +kernel
theorem dX8_soonest_81 : decode cX8_soonest 81 = .ok (.istore_n 3, 1) := by decide +kernel
theorem dX8_soonest_82 : decode cX8_soonest 82 = .ok (.iinc 2 1, 3) := by decide +kernel
theorem dX8_soonest_85 : decode cX8_soonest 85 = .ok (.goto (-61), 3) := by decide +kernel
theorem dX8_soonest_88 : decode cX8_soonest 88 = .ok (.aload_n 0, 1) := by decide +kernel
theorem dX8_soonest_89 : decode cX8_soonest 89 = .ok (.invokevirtual 155, 3) := by decide +kernel
theorem dX8_soonest_92 : decode cX8_soonest 92 = .ok (.iload 4, 2) := by decide +kernel
theorem dX8_soonest_94 : decode cX8_soonest 94 = .ok (.ifCond .eq 7, 3) := by decide +kernel
theorem dX8_soonest_97 : decode cX8_soonest 97 = .ok (.iload_n 2, 1) := by decide +kernel
theorem dX8_soonest_98 : decode cX8_soonest 98 = .ok (.goto 8, 3) := by decide +kernel
theorem dX8_soonest_101 : decode cX8_soonest 101 = .ok (.aload_n 0, 1) := by decide +kernel
theorem dX8_soonest_102 : decode cX8_soonest 102 = .ok (.iconst 3, 1) := by decide +kernel
theorem dX8_soonest_103 : decode cX8_soonest 103 = .ok (.invokevirtual 119, 3) := by decide +kernel
theorem dX8_soonest_106 : decode cX8_soonest 106 = .ok (.ireturn, 1) := by decide +kernel
theorem dX8_inNest_0 : decode cX8_inNest 0 = .ok (.iconst 0, 1) := by decide +kernel
theorem dX8_inNest_1 : decode cX8_inNest 1 = .ok (.istore_n 2, 1) := by decide +kernel
theorem dX8_inNest_2 : decode cX8_inNest 2 = .ok (.iconst 0, 1) := by decide +kernel
theorem dX8_inNest_3 : decode cX8_inNest 3 = .ok (.istore_n 3, 1) := by decide +kernel
theorem dX8_inNest_4 : decode cX8_inNest 4 = .ok (.iload_n 3, 1) := by decide +kernel
theorem dX8_inNest_5 : decode cX8_inNest 5 = .ok (.bipush 8, 2) := by decide +kernel
theorem dX8_inNest_7 : decode cX8_inNest 7 = .ok (.if_icmp .ge 37, 3) := by decide +kernel
theorem dX8_inNest_10 : decode cX8_inNest 10 = .ok (.iload_n 2, 1) := by decide +kernel
theorem dX8_inNest_11 : decode cX8_inNest 11 = .ok (.aload_n 0, 1) := by decide +kernel
theorem dX8_inNest_12 : decode cX8_inNest 12 = .ok (.iload_n 3, 1) := by decide +kernel
theorem dX8_inNest_13 : decode cX8_inNest 13 = .ok (.invokevirtual 71, 3) := by decide +kernel
theorem dX8_inNest_16 : decode cX8_inNest 16 = .ok (.ifCond .eq 19, 3) := by decide +kernel
theorem dX8_inNest_19 : decode cX8_inNest 19 = .ok (.aload_n 0, 1) := by decide +kernel
theorem dX8_inNest_20 : decode cX8_inNest 20 = .ok (.iload_n 3, 1) := by decide +kernel
theorem dX8_inNest_21 : decode cX8_inNest 21 = .ok (.iconst 3, 1) := by decide +kernel
theorem dX8_inNest_22 : decode cX8_inNest 22 = .ok (.invokevirtual 63, 3) := by decide +kernel
theorem dX8_inNest_25 : decode cX8_inNest 25 = .ok (.iload_n 1, 1) := by decide +kernel
theorem dX8_inNest_26 : decode cX8_inNest 26 = .ok (.if_icmp .ne 9, 3) := by decide +kernel
theorem dX8_inNest_29 : decode cX8_inNest 29 = .ok (.iconst 1, 1) := by decide +kernel
theorem dX8_inNest_30 : decode cX8_inNest 30 = .ok (.iload_n 3, 1) := by decide +kernel
theorem dX8_inNest_31 : decode cX8_inNest 31 = .ok (.ishl, 1) := by decide +kernel
theorem dX8_inNest_32 : decode cX8_inNest 32 = .ok (.goto 4, 3) := by decide +kernel
theorem dX8_inNest_35 : decode cX8_inNest 35 = .ok (.iconst 0, 1) := by decide +kernel
theorem dX8_inNest_36 : decode cX8_inNest 36 = .ok (.ior, 1) := by decide +kernel
theorem dX8_inNest_37 : decode cX8_inNest 37 = .ok (.istore_n 2, 1) := by decide +kernel
theorem dX8_inNest_38 : decode cX8_inNest 38 = .ok (.iinc 3 1, 3) := by decide +kernel
theorem dX8_inNest_41 : decode cX8_inNest 41 = .ok (.goto (-37), 3) := by decide +kernel
theorem dX8_inNest_44 : decode cX8_inNest 44 = .ok (.iload_n 2, 1) := by decide +kernel
theorem dX8_inNest_45 : decode cX8_inNest 45 = .ok (.ireturn, 1) := by decide +kernel
theorem dX8_nest_0 : decode cX8_nest 0 = .ok (.iload_n 1, 1) := by decide +kernel
theorem dX8_nest_1 : decode cX8_nest 1 = .ok (.iconst 0, 1) := by decide +kernel
theorem dX8_nest_2 : decode cX8_nest 2 = .ok (.iconst 3, 1) := by decide +kernel
theorem dX8_nest_3 : decode cX8_nest 3 = .ok (.invokestatic 59, 3) := by decide +kernel
theorem dX8_nest_6 : decode cX8_nest 6 = .ok (.ifCond .eq 15, 3) := by decide +kernel
theorem dX8_nest_9 : decode cX8_nest 9 = .ok (.aload_n 0, 1) := by decide +kernel
theorem dX8_nest_10 : decode cX8_nest 10 = .ok (.aload_n 0, 1) := by decide +kernel
theorem dX8_nest_11 : decode cX8_nest 11 = .ok (.iload_n 1, 1) := by decide +kernel
theorem dX8_nest_12 : decode cX8_nest 12 = .ok (.invokevirtual 176, 3) := by decide +kernel
theorem dX8_nest_15 : decode cX8_nest 15 = .ok (.invokevirtual 99, 3) := by decide +kernel
theorem dX8_nest_18 : decode cX8_nest 18 = .ok (.goto 8, 3) := by decide +kernel
theorem dX8_nest_21 : decode cX8_nest 21 = .ok (.aload_n 0, 1) := by decide +kernel
theorem dX8_nest_22 : decode cX8_nest 22 = .ok (.iconst 0, 1) := by decide +kernel
theorem dX8_nest_23 : decode cX8_nest 23 = .ok (.invokevirtual 119, 3) := by decide +kernel
theorem dX8_nest_26 : decode cX8_nest 26 = .ok (.ireturn, 1) := by decide +kernel
theorem dX8_guard_0 : decode cX8_guard 0 = .ok (.iconst 0, 1) := by decide +kernel
theorem dX8_guard_1 : decode cX8_guard 1 = .ok (.istore_n 1, 1) := by decide +kernel
theorem dX8_guard_2 : decode cX8_guard 2 = .ok (.iconst 1, 1) := by decide +kernel
theorem dX8_guard_3 : decode cX8_guard 3 = .ok (.istore_n 2, 1) := by decide +kernel
theorem dX8_guard_4 : decode cX8_guard 4 = .ok (.iload_n 2, 1) := by decide +kernel
theorem dX8_guard_5 : decode cX8_guard 5 = .ok (.iconst 4, 1) := by decide +kernel
theorem dX8_guard_6 : decode cX8_guard 6 = .ok (.if_icmp .ge 36, 3) := by decide +kernel
theorem dX8_guard_9 : decode cX8_guard 9 = .ok (.aload_n 0, 1) := by decide +kernel
theorem dX8_guard_10 : decode cX8_guard 10 = .ok (.aload_n 0, 1) := by decide +kernel
theorem dX8_guard_11 : decode cX8_guard 11 = .ok (.iload_n 2, 1) := by decide +kernel
theorem dX8_guard_12 : decode cX8_guard 12 = .ok (.invokevirtual 176, 3) := by decide +kernel
theorem dX8_guard_15 : decode cX8_guard 15 = .ok (.invokevirtual 99, 3) := by decide +kernel
theorem dX8_guard_18 : decode cX8_guard 18 = .ok (.aload_n 0, 1) := by decide +kernel
theorem dX8_guard_19 : decode cX8_guard 19 = .ok (.aload_n 0, 1) := by decide +kernel
theorem dX8_guard_20 : decode cX8_guard 20 = .ok (.iload_n 1, 1) := by decide +kernel
theorem dX8_guard_21 : decode cX8_guard 21 = .ok (.invokevirtual 176, 3) := by decide +kernel
theorem dX8_guard_24 : decode cX8_guard 24 = .ok (.invokevirtual 99, 3) := by decide +kernel
theorem dX8_guard_27 : decode cX8_guard 27 = .ok (.if_icmp .le 7, 3) := by decide +kernel
theorem dX8_guard_30 : decode cX8_guard 30 = .ok (.iload_n 2, 1) := by decide +kernel
theorem dX8_guard_31 : decode cX8_guard 31 = .ok (.goto 4, 3) := by decide +kernel
theorem dX8_guard_34 : decode cX8_guard 34 = .ok (.iload_n 1, 1) := by decide +kernel
theorem dX8_guard_35 : decode cX8_guard 35 = .ok (.istore_n 1, 1) := by decide +kernel
theorem dX8_guard_36 : decode cX8_guard 36 = .ok (.iinc 2 1, 3) := by decide +kernel
theorem dX8_guard_39 : decode cX8_guard 39 = .ok (.goto (-35), 3) := by decide +kernel
theorem dX8_guard_42 : decode cX8_guard 42 = .ok (.iload_n 1, 1) := by decide +kernel
theorem dX8_guard_43 : decode cX8_guard 43 = .ok (.ireturn, 1) := by decide +kernel
theorem dX8_apartBy_0 : decode cX8_apartBy 0 = .ok (.iconst 2, 1) := by decide +kernel
theorem dX8_apartBy_1 : decode cX8_apartBy 1 = .ok (.aload_n 0, 1) := by decide +kernel
theorem dX8_apartBy_2 : decode cX8_apartBy 2 = .ok (.iload_n 1, 1) := by decide +kernel
theorem dX8_apartBy_3 : decode cX8_apartBy 3 = .ok (.invokevirtual 99, 3) := by decide +kernel
theorem dX8_apartBy_6 : decode cX8_apartBy 6 = .ok (.imul, 1) := by decide +kernel
theorem dX8_apartBy_7 : decode cX8_apartBy 7 = .ok (.aload_n 0, 1) := by decide +kernel
theorem dX8_apartBy_8 : decode cX8_apartBy 8 = .ok (.invokevirtual 146, 3) := by decide +kernel
theorem dX8_apartBy_11 : decode cX8_apartBy 11 = .ok (.isub, 1) := by decide +kernel
theorem dX8_apartBy_12 : decode cX8_apartBy 12 = .ok (.istore_n 2, 1) := by decide +kernel
theorem dX8_apartBy_13 : decode cX8_apartBy 13 = .ok (.iload_n 2, 1) := by decide +kernel
theorem dX8_apartBy_14 : decode cX8_apartBy 14 = .ok (.ifCond .ge 8, 3) := by decide +kernel
theorem dX8_apartBy_17 : decode cX8_apartBy 17 = .ok (.iload_n 2, 1) := by decide +kernel
theorem dX8_apartBy_18 : decode cX8_apartBy 18 = .ok (.ineg, 1) := by decide +kernel
theorem dX8_apartBy_19 : decode cX8_apartBy 19 = .ok (.goto 4, 3) := by decide +kernel
theorem dX8_apartBy_22 : decode cX8_apartBy 22 = .ok (.iload_n 2, 1) := by decide +kernel
theorem dX8_apartBy_23 : decode cX8_apartBy 23 = .ok (.ireturn, 1) := by decide +kernel
theorem dX8_bestHalf_0 : decode cX8_bestHalf 0 = .ok (.iconst 0, 1) := by decide +kernel
theorem dX8_bestHalf_1 : decode cX8_bestHalf 1 = .ok (.istore_n 1, 1) := by decide +kernel
theorem dX8_bestHalf_2 : decode cX8_bestHalf 2 = .ok (.iconst 1, 1) := by decide +kernel
theorem dX8_bestHalf_3 : decode cX8_bestHalf 3 = .ok (.istore_n 2, 1) := by decide +kernel
theorem dX8_bestHalf_4 : decode cX8_bestHalf 4 = .ok (.iload_n 2, 1) := by decide +kernel
theorem dX8_bestHalf_5 : decode cX8_bestHalf 5 = .ok (.sipush 256, 3) := by decide +kernel
theorem dX8_bestHalf_8 : decode cX8_bestHalf 8 = .ok (.if_icmp .ge 39, 3) := by decide +kernel
theorem dX8_bestHalf_11 : decode cX8_bestHalf 11 = .ok (.iload_n 2, 1) := by decide +kernel
theorem dX8_bestHalf_12 : decode cX8_bestHalf 12 = .ok (.aload_n 0, 1) := by decide +kernel
theorem dX8_bestHalf_13 : decode cX8_bestHalf 13 = .ok (.invokevirtual 95, 3) := by decide +kernel
theorem dX8_bestHalf_16 : decode cX8_bestHalf 16 = .ok (.iconst (-1), 1) := by decide +kernel
theorem dX8_bestHalf_17 : decode cX8_bestHalf 17 = .ok (.ixor, 1) := by decide +kernel
theorem dX8_bestHalf_18 : decode cX8_bestHalf 18 = .ok (.iand, 1) := by decide +kernel
theorem dX8_bestHalf_19 : decode cX8_bestHalf 19 = .ok (.ifCond .ne 20, 3) := by decide +kernel
theorem dX8_bestHalf_22 : decode cX8_bestHalf 22 = .ok (.aload_n 0, 1) := by decide +kernel
theorem dX8_bestHalf_23 : decode cX8_bestHalf 23 = .ok (.iload_n 2, 1) := by decide +kernel
theorem dX8_bestHalf_24 : decode cX8_bestHalf 24 = .ok (.invokevirtual 179, 3) := by decide +kernel
theorem dX8_bestHalf_27 : decode cX8_bestHalf 27 = .ok (.aload_n 0, 1) := by decide +kernel
theorem dX8_bestHalf_28 : decode cX8_bestHalf 28 = .ok (.iload_n 1, 1) := by decide +kernel
theorem dX8_bestHalf_29 : decode cX8_bestHalf 29 = .ok (.invokevirtual 179, 3) := by decide +kernel
theorem dX8_bestHalf_32 : decode cX8_bestHalf 32 = .ok (.if_icmp .ge 7, 3) := by decide +kernel
theorem dX8_bestHalf_35 : decode cX8_bestHalf 35 = .ok (.iload_n 2, 1) := by decide +kernel
theorem dX8_bestHalf_36 : decode cX8_bestHalf 36 = .ok (.goto 4, 3) := by decide +kernel
theorem dX8_bestHalf_39 : decode cX8_bestHalf 39 = .ok (.iload_n 1, 1) := by decide +kernel
theorem dX8_bestHalf_40 : decode cX8_bestHalf 40 = .ok (.istore_n 1, 1) := by decide +kernel
theorem dX8_bestHalf_41 : decode cX8_bestHalf 41 = .ok (.iinc 2 1, 3) := by decide +kernel
theorem dX8_bestHalf_44 : decode cX8_bestHalf 44 = .ok (.goto (-40), 3) := by decide +kernel
theorem dX8_bestHalf_47 : decode cX8_bestHalf 47 = .ok (.iload_n 1, 1) := by decide +kernel
theorem dX8_bestHalf_48 : decode cX8_bestHalf 48 = .ok (.ireturn, 1) := by decide +kernel
theorem dX8_halves_0 : decode cX8_halves 0 = .ok (.aload_n 0, 1) := by decide +kernel
theorem dX8_halves_1 : decode cX8_halves 1 = .ok (.invokevirtual 182, 3) := by decide +kernel
theorem dX8_halves_4 : decode cX8_halves 4 = .ok (.ireturn, 1) := by decide +kernel
theorem dX8_apart_0 : decode cX8_apart 0 = .ok (.aload_n 0, 1) := by decide +kernel
theorem dX8_apart_1 : decode cX8_apart 1 = .ok (.aload_n 0, 1) := by decide +kernel
theorem dX8_apart_2 : decode cX8_apart 2 = .ok (.invokevirtual 182, 3) := by decide +kernel
theorem dX8_apart_5 : decode cX8_apart 5 = .ok (.invokevirtual 179, 3) := by decide +kernel
theorem dX8_apart_8 : decode cX8_apart 8 = .ok (.ireturn, 1) := by decide +kernel
theorem dX8_sets_0 : decode cX8_sets 0 = .ok (.iload_n 1, 1) := by decide +kernel
theorem dX8_sets_1 : decode cX8_sets 1 = .ok (.sipush (-9999), 3) := by decide +kernel
theorem dX8_sets_4 : decode cX8_sets 4 = .ok (.sipush 9999, 3) := by decide +kernel
theorem dX8_sets_7 : decode cX8_sets 7 = .ok (.invokestatic 59, 3) := by decide +kernel
theorem dX8_sets_10 : decode cX8_sets 10 = .ok (.ifCond .ne 9, 3) := by decide +kernel
theorem dX8_sets_13 : decode cX8_sets 13 = .ok (.aload_n 0, 1) := by decide +kernel
theorem dX8_sets_14 : decode cX8_sets 14 = .ok (.iconst 0, 1) := by decide +kernel
theorem dX8_sets_15 : decode cX8_sets 15 = .ok (.invokevirtual 119, 3) := by decide +kernel
theorem dX8_sets_18 : decode cX8_sets 18 = .ok (.ireturn, 1) := by decide +kernel
theorem dX8_sets_19 : decode cX8_sets 19 = .ok (.iconst 0, 1) := by decide +kernel
theorem dX8_sets_20 : decode cX8_sets 20 = .ok (.istore_n 2, 1) := by decide +kernel
theorem dX8_sets_21 : decode cX8_sets 21 = .ok (.iconst 0, 1) := by decide +kernel
theorem dX8_sets_22 : decode cX8_sets 22 = .ok (.istore_n 3, 1) := by decide +kernel
theorem dX8_sets_23 : decode cX8_sets 23 = .ok (.iload_n 3, 1) := by decide +kernel
theorem dX8_sets_24 : decode cX8_sets 24 = .ok (.sipush 256, 3) := by decide +kernel
theorem dX8_sets_27 : decode cX8_sets 27 = .ok (.if_icmp .ge 37, 3) := by decide +kernel
theorem dX8_sets_30 : decode cX8_sets 30 = .ok (.iload_n 2, 1) := by decide +kernel
theorem dX8_sets_31 : decode cX8_sets 31 = .ok (.iload_n 3, 1) := by decide +kernel
theorem dX8_sets_32 : decode cX8_sets 32 = .ok (.aload_n 0, 1) := by decide +kernel
theorem dX8_sets_33 : decode cX8_sets 33 = .ok (.invokevirtual 95, 3) := by decide +kernel
theorem dX8_sets_36 : decode cX8_sets 36 = .ok (.iconst (-1), 1) := by decide +kernel
theorem dX8_sets_37 : decode cX8_sets 37 = .ok (.ixor, 1) := by decide +kernel
theorem dX8_sets_38 : decode cX8_sets 38 = .ok (.iand, 1) := by decide +kernel
theorem dX8_sets_39 : decode cX8_sets 39 = .ok (.ifCond .ne 16, 3) := by decide +kernel
theorem dX8_sets_42 : decode cX8_sets 42 = .ok (.aload_n 0, 1) := by decide +kernel
theorem dX8_sets_43 : decode cX8_sets 43 = .ok (.iload_n 3, 1) := by decide +kernel
theorem dX8_sets_44 : decode cX8_sets 44 = .ok (.invokevirtual 99, 3) := by decide +kernel
theorem dX8_sets_47 : decode cX8_sets 47 = .ok (.iload_n 1, 1) := by decide +kernel
theorem dX8_sets_48 : decode cX8_sets 48 = .ok (.if_icmp .ne 7, 3) := by decide +kernel
theorem dX8_sets_51 : decode cX8_sets 51 = .ok (.iconst 1, 1) := by decide +kernel
theorem dX8_sets_52 : decode cX8_sets 52 = .ok (.goto 4, 3) := by decide +kernel
theorem dX8_sets_55 : decode cX8_sets 55 = .ok (.iconst 0, 1) := by decide +kernel
theorem dX8_sets_56 : decode cX8_sets 56 = .ok (.iadd, 1) := by decide +kernel
theorem dX8_sets_57 : decode cX8_sets 57 = .ok (.istore_n 2, 1) := by decide +kernel
theorem dX8_sets_58 : decode cX8_sets 58 = .ok (.iinc 3 1, 3) := by decide +kernel
theorem dX8_sets_61 : decode cX8_sets 61 = .ok (.goto (-38), 3) := by decide +kernel
theorem dX8_sets_64 : decode cX8_sets 64 = .ok (.iload_n 2, 1) := by decide +kernel
theorem dX8_sets_65 : decode cX8_sets 65 = .ok (.ireturn, 1) := by decide +kernel
theorem dX8_isSheet_0 : decode cX8_isSheet 0 = .ok (.iload_n 0, 1) := by decide +kernel
theorem dX8_isSheet_1 : decode cX8_isSheet 1 = .ok (.iconst 0, 1) := by decide +kernel
theorem dX8_isSheet_2 : decode cX8_isSheet 2 = .ok (.iconst 3, 1) := by decide +kernel
theorem dX8_isSheet_3 : decode cX8_isSheet 3 = .ok (.invokestatic 59, 3) := by decide +kernel
theorem dX8_isSheet_6 : decode cX8_isSheet 6 = .ok (.ireturn, 1) := by decide +kernel
theorem dX8_wrongSheet_0 : decode cX8_wrongSheet 0 = .ok (.iload_n 1, 1) := by decide +kernel
theorem dX8_wrongSheet_1 : decode cX8_wrongSheet 1 = .ok (.invokestatic 185, 3) := by decide +kernel
theorem dX8_wrongSheet_4 : decode cX8_wrongSheet 4 = .ok (.ifCond .ne 7, 3) := by decide +kernel
theorem dX8_wrongSheet_7 : decode cX8_wrongSheet 7 = .ok (.iconst 0, 1) := by decide +kernel
theorem dX8_wrongSheet_8 : decode cX8_wrongSheet 8 = .ok (.goto 17, 3) := by decide +kernel
theorem dX8_wrongSheet_11 : decode cX8_wrongSheet 11 = .ok (.aload_n 0, 1) := by decide +kernel
theorem dX8_wrongSheet_12 : decode cX8_wrongSheet 12 = .ok (.getfield 45, 3) := by decide +kernel
theorem dX8_wrongSheet_15 : decode cX8_wrongSheet 15 = .ok (.iload_n 1, 1) := by decide +kernel
theorem dX8_wrongSheet_16 : decode cX8_wrongSheet 16 = .ok (.iaload, 1) := by decide +kernel
theorem dX8_wrongSheet_17 : decode cX8_wrongSheet 17 = .ok (.ifCond .ne 7, 3) := by decide +kernel
theorem dX8_wrongSheet_20 : decode cX8_wrongSheet 20 = .ok (.iconst 5, 1) := by decide +kernel
theorem dX8_wrongSheet_21 : decode cX8_wrongSheet 21 = .ok (.goto 4, 3) := by decide +kernel
theorem dX8_wrongSheet_24 : decode cX8_wrongSheet 24 = .ok (.iconst (-1), 1) := by decide +kernel
theorem dX8_wrongSheet_25 : decode cX8_wrongSheet 25 = .ok (.ireturn, 1) := by decide +kernel
theorem dX8_wrongAges_0 : decode cX8_wrongAges 0 = .ok (.aload_n 0, 1) := by decide +kernel
theorem dX8_wrongAges_1 : decode cX8_wrongAges 1 = .ok (.iload_n 1, 1) := by decide +kernel
theorem dX8_wrongAges_2 : decode cX8_wrongAges 2 = .ok (.invokevirtual 188, 3) := by decide +kernel
theorem dX8_wrongAges_5 : decode cX8_wrongAges 5 = .ok (.istore_n 3, 1) := by decide +kernel
theorem dX8_wrongAges_6 : decode cX8_wrongAges 6 = .ok (.iload_n 3, 1) := by decide +kernel
theorem dX8_wrongAges_7 : decode cX8_wrongAges 7 = .ok (.ifCond .lt 7, 3) := by decide +kernel
theorem dX8_wrongAges_10 : decode cX8_wrongAges 10 = .ok (.iload_n 3, 1) := by decide +kernel
theorem dX8_wrongAges_11 : decode cX8_wrongAges 11 = .ok (.goto 16, 3) := by decide +kernel
theorem dX8_wrongAges_14 : decode cX8_wrongAges 14 = .ok (.aload_n 0, 1) := by decide +kernel
theorem dX8_wrongAges_15 : decode cX8_wrongAges 15 = .ok (.iload_n 2, 1) := by decide +kernel
theorem dX8_wrongAges_16 : decode cX8_wrongAges 16 = .ok (.invokevirtual 122, 3) := by decide +kernel
theorem dX8_wrongAges_19 : decode cX8_wrongAges 19 = .ok (.ifCond .eq 7, 3) := by decide +kernel
theorem dX8_wrongAges_22 : decode cX8_wrongAges 22 = .ok (.iconst (-1), 1) := by decide +kernel
theorem dX8_wrongAges_23 : decode cX8_wrongAges 23 = .ok (.goto 4, 3) := by decide +kernel
theorem dX8_wrongAges_26 : decode cX8_wrongAges 26 = .ok (.iconst 0, 1) := by decide +kernel
theorem dX8_wrongAges_27 : decode cX8_wrongAges 27 = .ok (.ireturn, 1) := by decide +kernel
theorem dX8_agesSo_0 : decode cX8_agesSo 0 = .ok (.iconst 1, 1) := by decide +kernel
theorem dX8_agesSo_1 : decode cX8_agesSo 1 = .ok (.istore 4, 2) := by decide +kernel
theorem dX8_agesSo_3 : decode cX8_agesSo 3 = .ok (.iconst 0, 1) := by decide +kernel
theorem dX8_agesSo_4 : decode cX8_agesSo 4 = .ok (.istore 5, 2) := by decide +kernel
theorem dX8_agesSo_6 : decode cX8_agesSo 6 = .ok (.iload 5, 2) := by decide +kernel
theorem dX8_agesSo_8 : decode cX8_agesSo 8 = .ok (.aload_n 0, 1) := by decide +kernel
theorem dX8_agesSo_9 : decode cX8_agesSo 9 = .ok (.getfield 48, 3) := by decide +kernel
theorem dX8_agesSo_12 : decode cX8_agesSo 12 = .ok (.iload_n 1, 1) := by decide +kernel
theorem dX8_agesSo_13 : decode cX8_agesSo 13 = .ok (.iaload, 1) := by decide +kernel
theorem dX8_agesSo_14 : decode cX8_agesSo 14 = .ok (.if_icmp .ge 60, 3) := by decide +kernel
theorem dX8_agesSo_17 : decode cX8_agesSo 17 = .ok (.aload_n 0, 1) := by decide +kernel
theorem dX8_agesSo_18 : decode cX8_agesSo 18 = .ok (.getfield 51, 3) := by decide +kernel
theorem dX8_agesSo_21 : decode cX8_agesSo 21 = .ok (.bipush 40, 2) := by decide +kernel
theorem dX8_agesSo_23 : decode cX8_agesSo 23 = .ok (.iload_n 1, 1) := by decide +kernel
theorem dX8_agesSo_24 : decode cX8_agesSo 24 = .ok (.imul, 1) := by decide +kernel
theorem dX8_agesSo_25 : decode cX8_agesSo 25 = .ok (.iload 5, 2) := by decide +kernel
theorem dX8_agesSo_27 : decode cX8_agesSo 27 = .ok (.iadd, 1) := by decide +kernel
theorem dX8_agesSo_28 : decode cX8_agesSo 28 = .ok (.iaload, 1) := by decide +kernel
theorem dX8_agesSo_29 : decode cX8_agesSo 29 = .ok (.istore 6, 2) := by decide +kernel
theorem dX8_agesSo_31 : decode cX8_agesSo 31 = .ok (.iload 4, 2) := by decide +kernel
theorem dX8_agesSo_33 : decode cX8_agesSo 33 = .ok (.ifCond .eq 32, 3) := by decide +kernel
theorem dX8_agesSo_36 : decode cX8_agesSo 36 = .ok (.iload 6, 2) := by decide +kernel
theorem dX8_agesSo_38 : decode cX8_agesSo 38 = .ok (.iconst (-1), 1) := by decide +kernel
theorem dX8_agesSo_39 : decode cX8_agesSo 39 = .ok (.if_icmp .eq 22, 3) := by decide +kernel
theorem dX8_agesSo_42 : decode cX8_agesSo 42 = .ok (.iload 6, 2) := by decide +kernel
theorem dX8_agesSo_44 : decode cX8_agesSo 44 = .ok (.aload_n 0, 1) := by decide +kernel
theorem dX8_agesSo_45 : decode cX8_agesSo 45 = .ok (.iload_n 2, 1) := by decide +kernel
theorem dX8_agesSo_46 : decode cX8_agesSo 46 = .ok (.aload_n 0, 1) := by decide +kernel
theorem dX8_agesSo_47 : decode cX8_agesSo 47 = .ok (.iload_n 2, 1) := by decide +kernel
theorem dX8_agesSo_48 : decode cX8_agesSo 48 = .ok (.iconst 0, 1) := by decide +kernel
theorem dX8_agesSo_49 : decode cX8_agesSo 49 = .ok (.invokevirtual 63, 3) := by decide +kernel
theorem dX8_agesSo_52 : decode cX8_agesSo 52 = .ok (.iload_n 3, 1) := by decide +kernel
theorem dX8_agesSo_53 : decode cX8_agesSo 53 = .ok (.iload 5, 2) := by decide +kernel
theorem dX8_agesSo_55 : decode cX8_agesSo 55 = .ok (.invokevirtual 158, 3) := by decide +kernel
theorem dX8_agesSo_58 : decode cX8_agesSo 58 = .ok (.if_icmp .ne 7, 3) := by decide +kernel
theorem dX8_agesSo_61 : decode cX8_agesSo 61 = .ok (.iconst 1, 1) := by decide +kernel
theorem dX8_agesSo_62 : decode cX8_agesSo 62 = .ok (.goto 4, 3) := by decide +kernel
theorem dX8_agesSo_65 : decode cX8_agesSo 65 = .ok (.iconst 0, 1) := by decide +kernel
theorem dX8_agesSo_66 : decode cX8_agesSo 66 = .ok (.istore 4, 2) := by decide +kernel
theorem dX8_agesSo_68 : decode cX8_agesSo 68 = .ok (.iinc 5 1, 3) := by decide +kernel
theorem dX8_agesSo_71 : decode cX8_agesSo 71 = .ok (.goto (-65), 3) := by decide +kernel
theorem dX8_agesSo_74 : decode cX8_agesSo 74 = .ok (.iload 4, 2) := by decide +kernel
theorem dX8_agesSo_76 : decode cX8_agesSo 76 = .ok (.ireturn, 1) := by decide +kernel
theorem dX8_ages_0 : decode cX8_ages 0 = .ok (.aload_n 0, 1) := by decide +kernel
theorem dX8_ages_1 : decode cX8_ages 1 = .ok (.iload_n 1, 1) := by decide +kernel
theorem dX8_ages_2 : decode cX8_ages 2 = .ok (.iload_n 2, 1) := by decide +kernel
theorem dX8_ages_3 : decode cX8_ages 3 = .ok (.invokevirtual 191, 3) := by decide +kernel
theorem dX8_ages_6 : decode cX8_ages 6 = .ok (.istore_n 3, 1) := by decide +kernel
theorem dX8_ages_7 : decode cX8_ages 7 = .ok (.iload_n 3, 1) := by decide +kernel
theorem dX8_ages_8 : decode cX8_ages 8 = .ok (.ifCond .lt 9, 3) := by decide +kernel
theorem dX8_ages_11 : decode cX8_ages 11 = .ok (.aload_n 0, 1) := by decide +kernel
theorem dX8_ages_12 : decode cX8_ages 12 = .ok (.iload_n 3, 1) := by decide +kernel
theorem dX8_ages_13 : decode cX8_ages 13 = .ok (.invokevirtual 119, 3) := by decide +kernel
theorem dX8_ages_16 : decode cX8_ages 16 = .ok (.ireturn, 1) := by decide +kernel
theorem dX8_ages_17 : decode cX8_ages 17 = .ok (.iconst 0, 1) := by decide +kernel
theorem dX8_ages_18 : decode cX8_ages 18 = .ok (.istore 4, 2) := by decide +kernel
theorem dX8_ages_20 : decode cX8_ages 20 = .ok (.iconst 0, 1) := by decide +kernel
theorem dX8_ages_21 : decode cX8_ages 21 = .ok (.istore 5, 2) := by decide +kernel
theorem dX8_ages_23 : decode cX8_ages 23 = .ok (.iload 5, 2) := by decide +kernel
theorem dX8_ages_25 : decode cX8_ages 25 = .ok (.bipush 99, 2) := by decide +kernel
theorem dX8_ages_27 : decode cX8_ages 27 = .ok (.if_icmp .gt 30, 3) := by decide +kernel
theorem dX8_ages_30 : decode cX8_ages 30 = .ok (.iload 4, 2) := by decide +kernel
theorem dX8_ages_32 : decode cX8_ages 32 = .ok (.aload_n 0, 1) := by decide +kernel
theorem dX8_ages_33 : decode cX8_ages 33 = .ok (.iload_n 1, 1) := by decide +kernel
theorem dX8_ages_34 : decode cX8_ages 34 = .ok (.iload_n 2, 1) := by decide +kernel
theorem dX8_ages_35 : decode cX8_ages 35 = .ok (.iload 5, 2) := by decide +kernel
theorem dX8_ages_37 : decode cX8_ages 37 = .ok (.invokevirtual 194, 3) := by decide +kernel
theorem dX8_ages_40 : decode cX8_ages 40 = .ok (.ifCond .eq 7, 3) := by decide +kernel
theorem dX8_ages_43 : decode cX8_ages 43 = .ok (.iconst 1, 1) := by decide +kernel
theorem dX8_ages_44 : decode cX8_ages 44 = .ok (.goto 4, 3) := by decide +kernel
theorem dX8_ages_47 : decode cX8_ages 47 = .ok (.iconst 0, 1) := by decide +kernel
theorem dX8_ages_48 : decode cX8_ages 48 = .ok (.iadd, 1) := by decide +kernel
theorem dX8_ages_49 : decode cX8_ages 49 = .ok (.istore 4, 2) := by decide +kernel
theorem dX8_ages_51 : decode cX8_ages 51 = .ok (.iinc 5 1, 3) := by decide +kernel
theorem dX8_ages_54 : decode cX8_ages 54 = .ok (.goto (-31), 3) := by decide +kernel
theorem dX8_ages_57 : decode cX8_ages 57 = .ok (.iload 4, 2) := by decide +kernel
theorem dX8_ages_59 : decode cX8_ages 59 = .ok (.ireturn, 1) := by decide +kernel
theorem dX8_youngest_0 : decode cX8_youngest 0 = .ok (.aload_n 0, 1) := by decide +kernel
theorem dX8_youngest_1 : decode cX8_youngest 1 = .ok (.iload_n 1, 1) := by decide +kernel
theorem dX8_youngest_2 : decode cX8_youngest 2 = .ok (.iload_n 2, 1) := by decide +kernel
theorem dX8_youngest_3 : decode cX8_youngest 3 = .ok (.invokevirtual 191, 3) := by decide +kernel
theorem dX8_youngest_6 : decode cX8_youngest 6 = .ok (.istore_n 3, 1) := by decide +kernel
theorem dX8_youngest_7 : decode cX8_youngest 7 = .ok (.iload_n 3, 1) := by decide +kernel
theorem dX8_youngest_8 : decode cX8_youngest 8 = .ok (.ifCond .lt 9, 3) := by decide +kernel
theorem dX8_youngest_11 : decode cX8_youngest 11 = .ok (.aload_n 0, 1) := by decide +kernel
theorem dX8_youngest_12 : decode cX8_youngest 12 = .ok (.iload_n 3, 1) := by decide +kernel
theorem dX8_youngest_13 : decode cX8_youngest 13 = .ok (.invokevirtual 119, 3) := by decide +kernel
theorem dX8_youngest_16 : decode cX8_youngest 16 = .ok (.ireturn, 1) := by decide +kernel
theorem dX8_youngest_17 : decode cX8_youngest 17 = .ok (.iconst 0, 1) := by decide +kernel
theorem dX8_youngest_18 : decode cX8_youngest 18 = .ok (.istore 4, 2) := by decide +kernel
theorem dX8_youngest_20 : decode cX8_youngest 20 = .ok (.iload 4, 2) := by decide +kernel
theorem dX8_youngest_22 : decode cX8_youngest 22 = .ok (.bipush 99, 2) := by decide +kernel
theorem dX8_youngest_24 : decode cX8_youngest 24 = .ok (.if_icmp .gt 23, 3) := by decide +kernel
theorem dX8_youngest_27 : decode cX8_youngest 27 = .ok (.aload_n 0, 1) := by decide +kernel
theorem dX8_youngest_28 : decode cX8_youngest 28 = .ok (.iload_n 1, 1) := by decide +kernel
theorem dX8_youngest_29 : decode cX8_youngest 29 = .ok (.iload_n 2, 1) := by decide +kernel
theorem dX8_youngest_30 : decode cX8_youngest 30 = .ok (.iload 4, 2) := by decide +kernel
theorem dX8_youngest_32 : decode cX8_youngest 32 = .ok (.invokevirtual 194, 3) := by decide +kernel
theorem dX8_youngest_35 : decode cX8_youngest 35 = .ok (.ifCond .eq 6, 3) := by decide +kernel
theorem dX8_youngest_38 : decode cX8_youngest 38 = .ok (.iload 4, 2) := by decide +kernel
theorem dX8_youngest_40 : decode cX8_youngest 40 = .ok (.ireturn, 1) := by decide +kernel
theorem dX8_youngest_41 : decode cX8_youngest 41 = .ok (.iinc 4 1, 3) := by decide +kernel
theorem dX8_youngest_44 : decode cX8_youngest 44 = .ok (.goto (-24), 3) := by decide +kernel
theorem dX8_youngest_47 : decode cX8_youngest 47 = .ok (.aload_n 0, 1) := by decide +kernel
theorem dX8_youngest_48 : decode cX8_youngest 48 = .ok (.iconst 3, 1) := by decide +kernel
theorem dX8_youngest_49 : decode cX8_youngest 49 = .ok (.invokevirtual 119, 3) := by decide +kernel
theorem dX8_youngest_52 : decode cX8_youngest 52 = .ok (.ireturn, 1) := by decide +kernel
theorem dX8_draw_0 : decode cX8_draw 0 = .ok (.aload_n 0, 1) := by decide +kernel
theorem dX8_draw_1 : decode cX8_draw 1 = .ok (.getfield 9, 3) := by decide +kernel
theorem dX8_draw_4 : decode cX8_draw 4 = .ok (.iconst 2, 1) := by decide +kernel
theorem dX8_draw_5 : decode cX8_draw 5 = .ok (.aload_n 0, 1) := by decide +kernel
theorem dX8_draw_6 : decode cX8_draw 6 = .ok (.getfield 9, 3) := by decide +kernel
theorem dX8_draw_9 : decode cX8_draw 9 = .ok (.iconst 2, 1) := by decide +kernel
theorem dX8_draw_10 : decode cX8_draw 10 = .ok (.iaload, 1) := by decide +kernel
theorem dX8_draw_11 : decode cX8_draw 11 = .ok (.ldc 197, 2) := by decide +kernel
theorem dX8_draw_13 : decode cX8_draw 13 = .ok (.imul, 1) := by decide +kernel
theorem dX8_draw_14 : decode cX8_draw 14 = .ok (.sipush 12345, 3) := by decide +kernel
theorem dX8_draw_17 : decode cX8_draw 17 = .ok (.iadd, 1) := by decide +kernel
theorem dX8_draw_18 : decode cX8_draw 18 = .ok (.iastore, 1) := by decide +kernel
theorem dX8_draw_19 : decode cX8_draw 19 = .ok (.aload_n 0, 1) := by decide +kernel
theorem dX8_draw_20 : decode cX8_draw 20 = .ok (.getfield 9, 3) := by decide +kernel
theorem dX8_draw_23 : decode cX8_draw 23 = .ok (.iconst 2, 1) := by decide +kernel
theorem dX8_draw_24 : decode cX8_draw 24 = .ok (.iaload, 1) := by decide +kernel
theorem dX8_draw_25 : decode cX8_draw 25 = .ok (.bipush 8, 2) := by decide +kernel
theorem dX8_draw_27 : decode cX8_draw 27 = .ok (.iushr, 1) := by decide +kernel
theorem dX8_draw_28 : decode cX8_draw 28 = .ok (.ireturn, 1) := by decide +kernel
theorem dX8_foxes_0 : decode cX8_foxes 0 = .ok (.iload_n 1, 1) := by decide +kernel
theorem dX8_foxes_1 : decode cX8_foxes 1 = .ok (.iconst 1, 1) := by decide +kernel
theorem dX8_foxes_2 : decode cX8_foxes 2 = .ok (.bipush 20, 2) := by decide +kernel
theorem dX8_foxes_4 : decode cX8_foxes 4 = .ok (.invokestatic 59, 3) := by decide +kernel
theorem dX8_foxes_7 : decode cX8_foxes 7 = .ok (.ifCond .ne 9, 3) := by decide +kernel
theorem dX8_foxes_10 : decode cX8_foxes 10 = .ok (.aload_n 0, 1) := by decide +kernel
theorem dX8_foxes_11 : decode cX8_foxes 11 = .ok (.iconst 0, 1) := by decide +kernel
theorem dX8_foxes_12 : decode cX8_foxes 12 = .ok (.invokevirtual 119, 3) := by decide +kernel
theorem dX8_foxes_15 : decode cX8_foxes 15 = .ok (.ireturn, 1) := by decide +kernel
theorem dX8_foxes_16 : decode cX8_foxes 16 = .ok (.aload_n 0, 1) := by decide +kernel
theorem dX8_foxes_17 : decode cX8_foxes 17 = .ok (.getfield 9, 3) := by decide +kernel
theorem dX8_foxes_20 : decode cX8_foxes 20 = .ok (.iconst 0, 1) := by decide +kernel
theorem dX8_foxes_21 : decode cX8_foxes 21 = .ok (.iaload, 1) := by decide +kernel
theorem dX8_foxes_22 : decode cX8_foxes 22 = .ok (.iload_n 1, 1) := by decide +kernel
theorem dX8_foxes_23 : decode cX8_foxes 23 = .ok (.iadd, 1) := by decide +kernel
theorem dX8_foxes_24 : decode cX8_foxes 24 = .ok (.ldc 57, 2) := by decide +kernel
theorem dX8_foxes_26 : decode cX8_foxes 26 = .ok (.if_icmp .le 9, 3) := by decide +kernel
theorem dX8_foxes_29 : decode cX8_foxes 29 = .ok (.aload_n 0, 1) := by decide +kernel
theorem dX8_foxes_30 : decode cX8_foxes 30 = .ok (.iconst 4, 1) := by decide +kernel
theorem dX8_foxes_31 : decode cX8_foxes 31 = .ok (.invokevirtual 119, 3) := by decide +kernel
theorem dX8_foxes_34 : decode cX8_foxes 34 = .ok (.ireturn, 1) := by decide +kernel
theorem dX8_foxes_35 : decode cX8_foxes 35 = .ok (.iconst 0, 1) := by decide +kernel
theorem dX8_foxes_36 : decode cX8_foxes 36 = .ok (.istore_n 2, 1) := by decide +kernel
theorem dX8_foxes_37 : decode cX8_foxes 37 = .ok (.iconst 0, 1) := by decide +kernel
theorem dX8_foxes_38 : decode cX8_foxes 38 = .ok (.istore_n 3, 1) := by decide +kernel
theorem dX8_foxes_39 : decode cX8_foxes 39 = .ok (.iconst 0, 1) := by decide +kernel
theorem dX8_foxes_40 : decode cX8_foxes 40 = .ok (.istore 4, 2) := by decide +kernel
theorem dX8_foxes_42 : decode cX8_foxes 42 = .ok (.iload 4, 2) := by decide +kernel
theorem dX8_foxes_44 : decode cX8_foxes 44 = .ok (.iload_n 1, 1) := by decide +kernel
theorem dX8_foxes_45 : decode cX8_foxes 45 = .ok (.if_icmp .ge 63, 3) := by decide +kernel
theorem dX8_foxes_48 : decode cX8_foxes 48 = .ok (.aload_n 0, 1) := by decide +kernel
theorem dX8_foxes_49 : decode cX8_foxes 49 = .ok (.aload_n 0, 1) := by decide +kernel
theorem dX8_foxes_50 : decode cX8_foxes 50 = .ok (.invokevirtual 198, 3) := by decide +kernel
theorem dX8_foxes_53 : decode cX8_foxes 53 = .ok (.iconst 4, 1) := by decide +kernel
theorem dX8_foxes_54 : decode cX8_foxes 54 = .ok (.irem, 1) := by decide +kernel
theorem dX8_foxes_55 : decode cX8_foxes 55 = .ok (.invokevirtual 176, 3) := by decide +kernel
theorem dX8_foxes_58 : decode cX8_foxes 58 = .ok (.istore 5, 2) := by decide +kernel
theorem dX8_foxes_60 : decode cX8_foxes 60 = .ok (.iconst 0, 1) := by decide +kernel
theorem dX8_foxes_61 : decode cX8_foxes 61 = .ok (.istore 6, 2) := by decide +kernel
theorem dX8_foxes_63 : decode cX8_foxes 63 = .ok (.iload 6, 2) := by decide +kernel
theorem dX8_foxes_65 : decode cX8_foxes 65 = .ok (.bipush 8, 2) := by decide +kernel
theorem dX8_foxes_67 : decode cX8_foxes 67 = .ok (.if_icmp .ge 28, 3) := by decide +kernel
theorem dX8_foxes_70 : decode cX8_foxes 70 = .ok (.iload 5, 2) := by decide +kernel
theorem dX8_foxes_72 : decode cX8_foxes 72 = .ok (.iload 6, 2) := by decide +kernel
theorem dX8_foxes_74 : decode cX8_foxes 74 = .ok (.invokestatic 88, 3) := by decide +kernel
theorem dX8_foxes_77 : decode cX8_foxes 77 = .ok (.ifCond .eq 12, 3) := by decide +kernel
theorem dX8_foxes_80 : decode cX8_foxes 80 = .ok (.aload_n 0, 1) := by decide +kernel
theorem dX8_foxes_81 : decode cX8_foxes 81 = .ok (.iload 6, 2) := by decide +kernel
theorem dX8_foxes_83 : decode cX8_foxes 83 = .ok (.invokevirtual 109, 3) := by decide +kernel
theorem dX8_foxes_86 : decode cX8_foxes 86 = .ok (.iinc 2 1, 3) := by decide +kernel
theorem dX8_foxes_89 : decode cX8_foxes 89 = .ok (.iinc 6 1, 3) := by decide +kernel
theorem dX8_foxes_92 : decode cX8_foxes 92 = .ok (.goto (-29), 3) := by decide +kernel
theorem dX8_foxes_95 : decode cX8_foxes 95 = .ok (.iload_n 3, 1) := by decide +kernel
theorem dX8_foxes_96 : decode cX8_foxes 96 = .ok (.aload_n 0, 1) := by decide +kernel
theorem dX8_foxes_97 : decode cX8_foxes 97 = .ok (.invokevirtual 140, 3) := by decide +kernel
theorem dX8_foxes_100 : decode cX8_foxes 100 = .ok (.iadd, 1) := by decide +kernel
theorem dX8_foxes_101 : decode cX8_foxes 101 = .ok (.istore_n 3, 1) := by decide +kernel
theorem dX8_foxes_102 : decode cX8_foxes 102 = .ok (.iinc 4 1, 3) := by decide +kernel
theorem dX8_foxes_105 : decode cX8_foxes 105 = .ok (.goto (-63), 3) := by decide +kernel
theorem dX8_foxes_108 : decode cX8_foxes 108 = .ok (.iload_n 2, 1) := by decide +kernel
theorem dX8_foxes_109 : decode cX8_foxes 109 = .ok (.ireturn, 1) := by decide +kernel
theorem dX8_odds_0 : decode cX8_odds 0 = .ok (.iload_n 1, 1) := by decide +kernel
theorem dX8_odds_1 : decode cX8_odds 1 = .ok (.iconst 0, 1) := by decide +kernel
theorem dX8_odds_2 : decode cX8_odds 2 = .ok (.bipush 20, 2) := by decide +kernel
theorem dX8_odds_4 : decode cX8_odds 4 = .ok (.invokestatic 59, 3) := by decide +kernel
theorem dX8_odds_7 : decode cX8_odds 7 = .ok (.ifCond .eq 12, 3) := by decide +kernel
theorem dX8_odds_10 : decode cX8_odds 10 = .ok (.iload_n 2, 1) := by decide +kernel
theorem dX8_odds_11 : decode cX8_odds 11 = .ok (.iconst 0, 1) := by decide +kernel
theorem dX8_odds_12 : decode cX8_odds 12 = .ok (.iconst 1, 1) := by decide +kernel
theorem dX8_odds_13 : decode cX8_odds 13 = .ok (.invokestatic 59, 3) := by decide +kernel
theorem dX8_odds_16 : decode cX8_odds 16 = .ok (.ifCond .ne 10, 3) := by decide +kernel
theorem dX8_odds_19 : decode cX8_odds 19 = .ok (.aload_n 0, 1) := by decide +kernel
theorem dX8_odds_20 : decode cX8_odds 20 = .ok (.iconst 0, 1) := by decide +kernel
theorem dX8_odds_21 : decode cX8_odds 21 = .ok (.invokevirtual 119, 3) := by decide +kernel
theorem dX8_odds_24 : decode cX8_odds 24 = .ok (.i2l, 1) := by decide +kernel
theorem dX8_odds_25 : decode cX8_odds 25 = .ok (.lreturn, 1) := by decide +kernel
theorem dX8_odds_26 : decode cX8_odds 26 = .ok (.lconst 1, 1) := by decide +kernel
theorem dX8_odds_27 : decode cX8_odds 27 = .ok (.lstore_n 3, 1) := by decide +kernel
theorem dX8_odds_28 : decode cX8_odds 28 = .ok (.lconst 1, 1) := by decide +kernel
theorem dX8_odds_29 : decode cX8_odds 29 = .ok (.lstore 5, 2) := by decide +kernel
theorem dX8_odds_31 : decode cX8_odds 31 = .ok (.iconst 0, 1) := by decide +kernel
theorem dX8_odds_32 : decode cX8_odds 32 = .ok (.istore 7, 2) := by decide +kernel
theorem dX8_odds_34 : decode cX8_odds 34 = .ok (.iload 7, 2) := by decide +kernel
theorem dX8_odds_36 : decode cX8_odds 36 = .ok (.iload_n 1, 1) := by decide +kernel
theorem dX8_odds_37 : decode cX8_odds 37 = .ok (.if_icmp .ge 23, 3) := by decide +kernel
theorem dX8_odds_40 : decode cX8_odds 40 = .ok (.lload_n 3, 1) := by decide +kernel
theorem dX8_odds_41 : decode cX8_odds 41 = .ok (.ldc2_w 201, 3) := by decide +kernel
theorem dX8_odds_44 : decode cX8_odds 44 = .ok (.lmul, 1) := by decide +kernel
theorem dX8_odds_45 : decode cX8_odds 45 = .ok (.lstore_n 3, 1) := by decide +kernel
theorem dX8_odds_46 : decode cX8_odds 46 = .ok (.lload 5, 2) := by decide +kernel
theorem dX8_odds_48 : decode cX8_odds 48 = .ok (.ldc2_w 203, 3) := by decide +kernel
theorem dX8_odds_51 : decode cX8_odds 51 = .ok (.lmul, 1) := by decide +kernel
theorem dX8_odds_52 : decode cX8_odds 52 = .ok (.lstore 5, 2) := by decide +kernel
theorem dX8_odds_54 : decode cX8_odds 54 = .ok (.iinc 7 1, 3) := by decide +kernel
theorem dX8_odds_57 : decode cX8_odds 57 = .ok (.goto (-23), 3) := by decide +kernel
theorem dX8_odds_60 : decode cX8_odds 60 = .ok (.iload_n 2, 1) := by decide +kernel
theorem dX8_odds_61 : decode cX8_odds 61 = .ok (.ifCond .ne 7, 3) := by decide +kernel
theorem dX8_odds_64 : decode cX8_odds 64 = .ok (.lload_n 3, 1) := by decide +kernel
theorem dX8_odds_65 : decode cX8_odds 65 = .ok (.goto 5, 3) := by decide +kernel
theorem dX8_odds_68 : decode cX8_odds 68 = .ok (.lload 5, 2) := by decide +kernel
theorem dX8_odds_70 : decode cX8_odds 70 = .ok (.lreturn, 1) := by decide +kernel
theorem dX8_seed_0 : decode cX8_seed 0 = .ok (.aload_n 0, 1) := by decide +kernel
theorem dX8_seed_1 : decode cX8_seed 1 = .ok (.getfield 9, 3) := by decide +kernel
theorem dX8_seed_4 : decode cX8_seed 4 = .ok (.iconst 2, 1) := by decide +kernel
theorem dX8_seed_5 : decode cX8_seed 5 = .ok (.iaload, 1) := by decide +kernel
theorem dX8_seed_6 : decode cX8_seed 6 = .ok (.istore_n 2, 1) := by decide +kernel
theorem dX8_seed_7 : decode cX8_seed 7 = .ok (.aload_n 0, 1) := by decide +kernel
theorem dX8_seed_8 : decode cX8_seed 8 = .ok (.getfield 9, 3) := by decide +kernel
theorem dX8_seed_11 : decode cX8_seed 11 = .ok (.iconst 2, 1) := by decide +kernel
theorem dX8_seed_12 : decode cX8_seed 12 = .ok (.iload_n 1, 1) := by decide +kernel
theorem dX8_seed_13 : decode cX8_seed 13 = .ok (.iastore, 1) := by decide +kernel
theorem dX8_seed_14 : decode cX8_seed 14 = .ok (.iload_n 2, 1) := by decide +kernel
theorem dX8_seed_15 : decode cX8_seed 15 = .ok (.ireturn, 1) := by decide +kernel
theorem dX8_feed_0 : decode cX8_feed 0 = .ok (.iload_n 2, 1) := by decide +kernel
theorem dX8_feed_1 : decode cX8_feed 1 = .ok (.iconst 1, 1) := by decide +kernel
theorem dX8_feed_2 : decode cX8_feed 2 = .ok (.iconst 4, 1) := by decide +kernel
theorem dX8_feed_3 : decode cX8_feed 3 = .ok (.invokestatic 59, 3) := by decide +kernel
theorem dX8_feed_6 : decode cX8_feed 6 = .ok (.ifCond .ne 9, 3) := by decide +kernel
theorem dX8_feed_9 : decode cX8_feed 9 = .ok (.aload_n 0, 1) := by decide +kernel
theorem dX8_feed_10 : decode cX8_feed 10 = .ok (.iconst 0, 1) := by decide +kernel
theorem dX8_feed_11 : decode cX8_feed 11 = .ok (.invokevirtual 119, 3) := by decide +kernel
theorem dX8_feed_14 : decode cX8_feed 14 = .ok (.ireturn, 1) := by decide +kernel
theorem dX8_feed_15 : decode cX8_feed 15 = .ok (.aload_n 0, 1) := by decide +kernel
theorem dX8_feed_16 : decode cX8_feed 16 = .ok (.getfield 205, 3) := by decide +kernel
theorem dX8_feed_19 : decode cX8_feed 19 = .ok (.iload_n 2, 1) := by decide +kernel
theorem dX8_feed_20 : decode cX8_feed 20 = .ok (.iadd, 1) := by decide +kernel
theorem dX8_feed_21 : decode cX8_feed 21 = .ok (.bipush 120, 2) := by decide +kernel
theorem dX8_feed_23 : decode cX8_feed 23 = .ok (.if_icmp .le 9, 3) := by decide +kernel
theorem dX8_feed_26 : decode cX8_feed 26 = .ok (.aload_n 0, 1) := by decide +kernel
theorem dX8_feed_27 : decode cX8_feed 27 = .ok (.iconst 1, 1) := by decide +kernel
theorem dX8_feed_28 : decode cX8_feed 28 = .ok (.invokevirtual 119, 3) := by decide +kernel
theorem dX8_feed_31 : decode cX8_feed 31 = .ok (.ireturn, 1) := by decide +kernel
theorem dX8_feed_32 : decode cX8_feed 32 = .ok (.iload_n 2, 1) := by decide +kernel
theorem dX8_feed_33 : decode cX8_feed 33 = .ok (.iconst 1, 1) := by decide +kernel
theorem dX8_feed_34 : decode cX8_feed 34 = .ok (.isub, 1) := by decide +kernel
theorem dX8_feed_35 : decode cX8_feed 35 = .ok (.istore_n 3, 1) := by decide +kernel
theorem dX8_feed_36 : decode cX8_feed 36 = .ok (.iload_n 3, 1) := by decide +kernel
theorem dX8_feed_37 : decode cX8_feed 37 = .ok (.ifCond .lt 38, 3) := by decide +kernel
theorem dX8_feed_40 : decode cX8_feed 40 = .ok (.aload_n 0, 1) := by decide +kernel
theorem dX8_feed_41 : decode cX8_feed 41 = .ok (.getfield 29, 3) := by decide +kernel
theorem dX8_feed_44 : decode cX8_feed 44 = .ok (.aload_n 0, 1) := by decide +kernel
theorem dX8_feed_45 : decode cX8_feed 45 = .ok (.getfield 205, 3) := by decide +kernel
theorem dX8_feed_48 : decode cX8_feed 48 = .ok (.iload_n 1, 1) := by decide +kernel
theorem dX8_feed_49 : decode cX8_feed 49 = .ok (.bipush 8, 2) := by decide +kernel
theorem dX8_feed_51 : decode cX8_feed 51 = .ok (.iload_n 3, 1) := by decide +kernel
theorem dX8_feed_52 : decode cX8_feed 52 = .ok (.imul, 1) := by decide +kernel
theorem dX8_feed_53 : decode cX8_feed 53 = .ok (.ishr, 1) := by decide +kernel
theorem dX8_feed_54 : decode cX8_feed 54 = .ok (.sipush 255, 3) := by decide +kernel
theorem dX8_feed_57 : decode cX8_feed 57 = .ok (.iand, 1) := by decide +kernel
theorem dX8_feed_58 : decode cX8_feed 58 = .ok (.iastore, 1) := by decide +kernel
theorem dX8_feed_59 : decode cX8_feed 59 = .ok (.aload_n 0, 1) := by decide +kernel
theorem dX8_feed_60 : decode cX8_feed 60 = .ok (.dup, 1) := by decide +kernel
theorem dX8_feed_61 : decode cX8_feed 61 = .ok (.getfield 205, 3) := by decide +kernel
theorem dX8_feed_64 : decode cX8_feed 64 = .ok (.iconst 1, 1) := by decide +kernel
theorem dX8_feed_65 : decode cX8_feed 65 = .ok (.iadd, 1) := by decide +kernel
theorem dX8_feed_66 : decode cX8_feed 66 = .ok (.putfield 205, 3) := by decide +kernel
theorem dX8_feed_69 : decode cX8_feed 69 = .ok (.iinc 3 (-1), 3) := by decide +kernel
theorem dX8_feed_72 : decode cX8_feed 72 = .ok (.goto (-36), 3) := by decide +kernel
theorem dX8_feed_75 : decode cX8_feed 75 = .ok (.aload_n 0, 1) := by decide +kernel
theorem dX8_feed_76 : decode cX8_feed 76 = .ok (.getfield 205, 3) := by decide +kernel
theorem dX8_feed_79 : decode cX8_feed 79 = .ok (.ireturn, 1) := by decide +kernel
theorem dX8_wipe_0 : decode cX8_wipe 0 = .ok (.aload_n 0, 1) := by decide +kernel
theorem dX8_wipe_1 : decode cX8_wipe 1 = .ok (.getfield 205, 3) := by decide +kernel
theorem dX8_wipe_4 : decode cX8_wipe 4 = .ok (.istore_n 1, 1) := by decide +kernel
theorem dX8_wipe_5 : decode cX8_wipe 5 = .ok (.aload_n 0, 1) := by decide +kernel
theorem dX8_wipe_6 : decode cX8_wipe 6 = .ok (.iconst 0, 1) := by decide +kernel
theorem dX8_wipe_7 : decode cX8_wipe 7 = .ok (.putfield 205, 3) := by decide +kernel
theorem dX8_wipe_10 : decode cX8_wipe 10 = .ok (.iload_n 1, 1) := by decide +kernel
theorem dX8_wipe_11 : decode cX8_wipe 11 = .ok (.ireturn, 1) := by decide +kernel
theorem dX8_isLetter_0 : decode cX8_isLetter 0 = .ok (.iload_n 0, 1) := by decide +kernel
theorem dX8_isLetter_1 : decode cX8_isLetter 1 = .ok (.bipush 97, 2) := by decide +kernel
theorem dX8_isLetter_3 : decode cX8_isLetter 3 = .ok (.bipush 122, 2) := by decide +kernel
theorem dX8_isLetter_5 : decode cX8_isLetter 5 = .ok (.invokestatic 59, 3) := by decide +kernel
theorem dX8_isLetter_8 : decode cX8_isLetter 8 = .ok (.ireturn, 1) := by decide +kernel
theorem dX8_isDigit_0 : decode cX8_isDigit 0 = .ok (.iload_n 0, 1) := by decide +kernel
theorem dX8_isDigit_1 : decode cX8_isDigit 1 = .ok (.bipush 48, 2) := by decide +kernel
theorem dX8_isDigit_3 : decode cX8_isDigit 3 = .ok (.bipush 57, 2) := by decide +kernel
theorem dX8_isDigit_5 : decode cX8_isDigit 5 = .ok (.invokestatic 59, 3) := by decide +kernel
theorem dX8_isDigit_8 : decode cX8_isDigit 8 = .ok (.ireturn, 1) := by decide +kernel
theorem dX8_nextToken_0 : decode cX8_nextToken 0 = .ok (.aload_n 0, 1) := by decide +kernel
theorem dX8_nextToken_1 : decode cX8_nextToken 1 = .ok (.aload_n 0, 1) := by decide +kernel
theorem dX8_nextToken_2 : decode cX8_nextToken 2 = .ok (.getfield 209, 3) := by decide +kernel
theorem dX8_nextToken_5 : decode cX8_nextToken 5 = .ok (.putfield 212, 3) := by decide +kernel
theorem dX8_nextToken_8 : decode cX8_nextToken 8 = .ok (.aload_n 0, 1) := by decide +kernel
theorem dX8_nextToken_9 : decode cX8_nextToken 9 = .ok (.getfield 212, 3) := by decide +kernel
theorem dX8_nextToken_12 : decode cX8_nextToken 12 = .ok (.aload_n 0, 1) := by decide +kernel
theorem dX8_nextToken_13 : decode cX8_nextToken 13 = .ok (.getfield 205, 3) := by decide +kernel
theorem dX8_nextToken_16 : decode cX8_nextToken 16 = .ok (.if_icmp .ge 30, 3) := by decide +kernel
theorem dX8_nextToken_19 : decode cX8_nextToken 19 = .ok (.aload_n 0, 1) := by decide +kernel
theorem dX8_nextToken_20 : decode cX8_nextToken 20 = .ok (.getfield 29, 3) := by decide +kernel
theorem dX8_nextToken_23 : decode cX8_nextToken 23 = .ok (.aload_n 0, 1) := by decide +kernel
theorem dX8_nextToken_24 : decode cX8_nextToken 24 = .ok (.getfield 212, 3) := by decide +kernel
theorem dX8_nextToken_27 : decode cX8_nextToken 27 = .ok (.iaload, 1) := by decide +kernel
theorem dX8_nextToken_28 : decode cX8_nextToken 28 = .ok (.bipush 32, 2) := by decide +kernel
theorem dX8_nextToken_30 : decode cX8_nextToken 30 = .ok (.if_icmp .ne 16, 3) := by decide +kernel
theorem dX8_nextToken_33 : decode cX8_nextToken 33 = .ok (.aload_n 0, 1) := by decide +kernel
theorem dX8_nextToken_34 : decode cX8_nextToken 34 = .ok (.dup, 1) := by decide +kernel
theorem dX8_nextToken_35 : decode cX8_nextToken 35 = .ok (.getfield 212, 3) := by decide +kernel
theorem dX8_nextToken_38 : decode cX8_nextToken 38 = .ok (.iconst 1, 1) := by decide +kernel
theorem dX8_nextToken_39 : decode cX8_nextToken 39 = .ok (.iadd, 1) := by decide +kernel
theorem dX8_nextToken_40 : decode cX8_nextToken 40 = .ok (.putfield 212, 3) := by decide +kernel
theorem dX8_nextToken_43 : decode cX8_nextToken 43 = .ok (.goto (-35), 3) := by decide +kernel
theorem dX8_nextToken_46 : decode cX8_nextToken 46 = .ok (.aload_n 0, 1) := by decide +kernel
theorem dX8_nextToken_47 : decode cX8_nextToken 47 = .ok (.aload_n 0, 1) := by decide +kernel
theorem dX8_nextToken_48 : decode cX8_nextToken 48 = .ok (.getfield 212, 3) := by decide +kernel
theorem dX8_nextToken_51 : decode cX8_nextToken 51 = .ok (.putfield 209, 3) := by decide +kernel
theorem dX8_nextToken_54 : decode cX8_nextToken 54 = .ok (.aload_n 0, 1) := by decide +kernel
theorem dX8_nextToken_55 : decode cX8_nextToken 55 = .ok (.lconst 0, 1) := by decide +kernel
theorem dX8_nextToken_56 : decode cX8_nextToken 56 = .ok (.putfield 215, 3) := by decide +kernel
theorem dX8_nextToken_59 : decode cX8_nextToken 59 = .ok (.aload_n 0, 1) := by decide +kernel
theorem dX8_nextToken_60 : decode cX8_nextToken 60 = .ok (.getfield 212, 3) := by decide +kernel
theorem dX8_nextToken_63 : decode cX8_nextToken 63 = .ok (.aload_n 0, 1) := by decide +kernel
theorem dX8_nextToken_64 : decode cX8_nextToken 64 = .ok (.getfield 205, 3) := by decide +kernel
theorem dX8_nextToken_67 : decode cX8_nextToken 67 = .ok (.if_icmp .ne 11, 3) := by decide +kernel
theorem dX8_nextToken_70 : decode cX8_nextToken 70 = .ok (.aload_n 0, 1) := by decide +kernel
theorem dX8_nextToken_71 : decode cX8_nextToken 71 = .ok (.iconst 0, 1) := by decide +kernel
theorem dX8_nextToken_72 : decode cX8_nextToken 72 = .ok (.putfield 219, 3) := by decide +kernel
theorem dX8_nextToken_75 : decode cX8_nextToken 75 = .ok (.goto 262, 3) := by decide +kernel
theorem dX8_nextToken_78 : decode cX8_nextToken 78 = .ok (.aload_n 0, 1) := by decide +kernel
theorem dX8_nextToken_79 : decode cX8_nextToken 79 = .ok (.getfield 29, 3) := by decide +kernel
theorem dX8_nextToken_82 : decode cX8_nextToken 82 = .ok (.aload_n 0, 1) := by decide +kernel
theorem dX8_nextToken_83 : decode cX8_nextToken 83 = .ok (.getfield 212, 3) := by decide +kernel
theorem dX8_nextToken_86 : decode cX8_nextToken 86 = .ok (.iaload, 1) := by decide +kernel
theorem dX8_nextToken_87 : decode cX8_nextToken 87 = .ok (.invokestatic 222, 3) := by decide +kernel
theorem dX8_nextToken_90 : decode cX8_nextToken 90 = .ok (.ifCond .eq 92, 3) := by decide +kernel
theorem dX8_nextToken_93 : decode cX8_nextToken 93 = .ok (.aload_n 0, 1) := by decide +kernel
theorem dX8_nextToken_94 : decode cX8_nextToken 94 = .ok (.iconst 1, 1) := by decide +kernel
theorem dX8_nextToken_95 : decode cX8_nextToken 95 = .ok (.putfield 219, 3) := by decide +kernel
theorem dX8_nextToken_98 : decode cX8_nextToken 98 = .ok (.aload_n 0, 1) := by decide +kernel
theorem dX8_nextToken_99 : decode cX8_nextToken 99 = .ok (.getfield 209, 3) := by decide +kernel
theorem dX8_nextToken_102 : decode cX8_nextToken 102 = .ok (.aload_n 0, 1) := by decide +kernel
theorem dX8_nextToken_103 : decode cX8_nextToken 103 = .ok (.getfield 205, 3) := by decide +kernel
theorem dX8_nextToken_106 : decode cX8_nextToken 106 = .ok (.if_icmp .ge 231, 3) := by decide +kernel
theorem dX8_nextToken_109 : decode cX8_nextToken 109 = .ok (.aload_n 0, 1) := by decide +kernel
theorem dX8_nextToken_110 : decode cX8_nextToken 110 = .ok (.getfield 29, 3) := by decide +kernel
theorem dX8_nextToken_113 : decode cX8_nextToken 113 = .ok (.aload_n 0, 1) := by decide +kernel
theorem dX8_nextToken_114 : decode cX8_nextToken 114 = .ok (.getfield 209, 3) := by decide +kernel
theorem dX8_nextToken_117 : decode cX8_nextToken 117 = .ok (.iaload, 1) := by decide +kernel
theorem dX8_nextToken_118 : decode cX8_nextToken 118 = .ok (.invokestatic 222, 3) := by decide +kernel
theorem dX8_nextToken_121 : decode cX8_nextToken 121 = .ok (.ifCond .eq 216, 3) := by decide +kernel
theorem dX8_nextToken_124 : decode cX8_nextToken 124 = .ok (.aload_n 0, 1) := by decide +kernel
theorem dX8_nextToken_125 : decode cX8_nextToken 125 = .ok (.aload_n 0, 1) := by decide +kernel
theorem dX8_nextToken_126 : decode cX8_nextToken 126 = .ok (.getfield 215, 3) := by decide +kernel
theorem dX8_nextToken_129 : decode cX8_nextToken 129 = .ok (.ldc2_w 225, 3) := by decide +kernel
theorem dX8_nextToken_132 : decode cX8_nextToken 132 = .ok (.lcmp, 1) := by decide +kernel
theorem dX8_nextToken_133 : decode cX8_nextToken 133 = .ok (.ifCond .le 10, 3) := by decide +kernel
theorem dX8_nextToken_136 : decode cX8_nextToken 136 = .ok (.aload_n 0, 1) := by decide +kernel
theorem dX8_nextToken_137 : decode cX8_nextToken 137 = .ok (.getfield 215, 3) := by decide +kernel
theorem dX8_nextToken_140 : decode cX8_nextToken 140 = .ok (.goto 26, 3) := by decide +kernel
theorem dX8_nextToken_143 : decode cX8_nextToken 143 = .ok (.aload_n 0, 1) := by decide +kernel
theorem dX8_nextToken_144 : decode cX8_nextToken 144 = .ok (.getfield 215, 3) := by decide +kernel
theorem dX8_nextToken_147 : decode cX8_nextToken 147 = .ok (.ldc2_w 227, 3) := by decide +kernel
theorem dX8_nextToken_150 : decode cX8_nextToken 150 = .ok (.lmul, 1) := by decide +kernel
theorem dX8_nextToken_151 : decode cX8_nextToken 151 = .ok (.aload_n 0, 1) := by decide +kernel
theorem dX8_nextToken_152 : decode cX8_nextToken 152 = .ok (.getfield 29, 3) := by decide +kernel
theorem dX8_nextToken_155 : decode cX8_nextToken 155 = .ok (.aload_n 0, 1) := by decide +kernel
theorem dX8_nextToken_156 : decode cX8_nextToken 156 = .ok (.getfield 209, 3) := by decide +kernel
theorem dX8_nextToken_159 : decode cX8_nextToken 159 = .ok (.iaload, 1) := by decide +kernel
theorem dX8_nextToken_160 : decode cX8_nextToken 160 = .ok (.i2l, 1) := by decide +kernel
theorem dX8_nextToken_161 : decode cX8_nextToken 161 = .ok (.ladd, 1) := by decide +kernel
theorem dX8_nextToken_162 : decode cX8_nextToken 162 = .ok (.ldc2_w 229, 3) := by decide +kernel
theorem dX8_nextToken_165 : decode cX8_nextToken 165 = .ok (.lsub, 1) := by decide +kernel
theorem dX8_nextToken_166 : decode cX8_nextToken 166 = .ok (.putfield 215, 3) := by decide +kernel
theorem dX8_nextToken_169 : decode cX8_nextToken 169 = .ok (.aload_n 0, 1) := by decide +kernel
theorem dX8_nextToken_170 : decode cX8_nextToken 170 = .ok (.dup, 1) := by decide +kernel
theorem dX8_nextToken_171 : decode cX8_nextToken 171 = .ok (.getfield 209, 3) := by decide +kernel
theorem dX8_nextToken_174 : decode cX8_nextToken 174 = .ok (.iconst 1, 1) := by decide +kernel
theorem dX8_nextToken_175 : decode cX8_nextToken 175 = .ok (.iadd, 1) := by decide +kernel
theorem dX8_nextToken_176 : decode cX8_nextToken 176 = .ok (.putfield 209, 3) := by decide +kernel
theorem dX8_nextToken_179 : decode cX8_nextToken 179 = .ok (.goto (-81), 3) := by decide +kernel
theorem dX8_nextToken_182 : decode cX8_nextToken 182 = .ok (.aload_n 0, 1) := by decide +kernel
theorem dX8_nextToken_183 : decode cX8_nextToken 183 = .ok (.getfield 29, 3) := by decide +kernel
theorem dX8_nextToken_186 : decode cX8_nextToken 186 = .ok (.aload_n 0, 1) := by decide +kernel
theorem dX8_nextToken_187 : decode cX8_nextToken 187 = .ok (.getfield 212, 3) := by decide +kernel
theorem dX8_nextToken_190 : decode cX8_nextToken 190 = .ok (.iaload, 1) := by decide +kernel
theorem dX8_nextToken_191 : decode cX8_nextToken 191 = .ok (.invokestatic 231, 3) := by decide +kernel
theorem dX8_nextToken_194 : decode cX8_nextToken 194 = .ok (.ifCond .eq 110, 3) := by decide +kernel
theorem dX8_nextToken_197 : decode cX8_nextToken 197 = .ok (.aload_n 0, 1) := by decide +kernel
theorem dX8_nextToken_198 : decode cX8_nextToken 198 = .ok (.getfield 209, 3) := by decide +kernel
theorem dX8_nextToken_201 : decode cX8_nextToken 201 = .ok (.aload_n 0, 1) := by decide +kernel
theorem dX8_nextToken_202 : decode cX8_nextToken 202 = .ok (.getfield 205, 3) := by decide +kernel
theorem dX8_nextToken_205 : decode cX8_nextToken 205 = .ok (.if_icmp .ge 76, 3) := by decide +kernel
theorem dX8_nextToken_208 : decode cX8_nextToken 208 = .ok (.aload_n 0, 1) := by decide +kernel
theorem dX8_nextToken_209 : decode cX8_nextToken 209 = .ok (.getfield 29, 3) := by decide +kernel
theorem dX8_nextToken_212 : decode cX8_nextToken 212 = .ok (.aload_n 0, 1) := by decide +kernel
theorem dX8_nextToken_213 : decode cX8_nextToken 213 = .ok (.getfield 209, 3) := by decide +kernel
theorem dX8_nextToken_216 : decode cX8_nextToken 216 = .ok (.iaload, 1) := by decide +kernel
theorem dX8_nextToken_217 : decode cX8_nextToken 217 = .ok (.invokestatic 231, 3) := by decide +kernel
theorem dX8_nextToken_220 : decode cX8_nextToken 220 = .ok (.ifCond .eq 61, 3) := by decide +kernel
theorem dX8_nextToken_223 : decode cX8_nextToken 223 = .ok (.aload_n 0, 1) := by decide +kernel
theorem dX8_nextToken_224 : decode cX8_nextToken 224 = .ok (.aload_n 0, 1) := by decide +kernel
theorem dX8_nextToken_225 : decode cX8_nextToken 225 = .ok (.getfield 215, 3) := by decide +kernel
theorem dX8_nextToken_228 : decode cX8_nextToken 228 = .ok (.ldc2_w 234, 3) := by decide +kernel
theorem dX8_nextToken_231 : decode cX8_nextToken 231 = .ok (.lcmp, 1) := by decide +kernel
theorem dX8_nextToken_232 : decode cX8_nextToken 232 = .ok (.ifCond .le 10, 3) := by decide +kernel
theorem dX8_nextToken_235 : decode cX8_nextToken 235 = .ok (.aload_n 0, 1) := by decide +kernel
theorem dX8_nextToken_236 : decode cX8_nextToken 236 = .ok (.getfield 215, 3) := by decide +kernel
theorem dX8_nextToken_239 : decode cX8_nextToken 239 = .ok (.goto 26, 3) := by decide +kernel
theorem dX8_nextToken_242 : decode cX8_nextToken 242 = .ok (.aload_n 0, 1) := by decide +kernel
theorem dX8_nextToken_243 : decode cX8_nextToken 243 = .ok (.getfield 215, 3) := by decide +kernel
theorem dX8_nextToken_246 : decode cX8_nextToken 246 = .ok (.ldc2_w 236, 3) := by decide +kernel
theorem dX8_nextToken_249 : decode cX8_nextToken 249 = .ok (.lmul, 1) := by decide +kernel
theorem dX8_nextToken_250 : decode cX8_nextToken 250 = .ok (.aload_n 0, 1) := by decide +kernel
theorem dX8_nextToken_251 : decode cX8_nextToken 251 = .ok (.getfield 29, 3) := by decide +kernel
theorem dX8_nextToken_254 : decode cX8_nextToken 254 = .ok (.aload_n 0, 1) := by decide +kernel
theorem dX8_nextToken_255 : decode cX8_nextToken 255 = .ok (.getfield 209, 3) := by decide +kernel
theorem dX8_nextToken_258 : decode cX8_nextToken 258 = .ok (.iaload, 1) := by decide +kernel
theorem dX8_nextToken_259 : decode cX8_nextToken 259 = .ok (.i2l, 1) := by decide +kernel
theorem dX8_nextToken_260 : decode cX8_nextToken 260 = .ok (.ladd, 1) := by decide +kernel
theorem dX8_nextToken_261 : decode cX8_nextToken 261 = .ok (.ldc2_w 238, 3) := by decide +kernel
theorem dX8_nextToken_264 : decode cX8_nextToken 264 = .ok (.lsub, 1) := by decide +kernel
theorem dX8_nextToken_265 : decode cX8_nextToken 265 = .ok (.putfield 215, 3) := by decide +kernel
theorem dX8_nextToken_268 : decode cX8_nextToken 268 = .ok (.aload_n 0, 1) := by decide +kernel
theorem dX8_nextToken_269 : decode cX8_nextToken 269 = .ok (.dup, 1) := by decide +kernel
theorem dX8_nextToken_270 : decode cX8_nextToken 270 = .ok (.getfield 209, 3) := by decide +kernel
theorem dX8_nextToken_273 : decode cX8_nextToken 273 = .ok (.iconst 1, 1) := by decide +kernel
theorem dX8_nextToken_274 : decode cX8_nextToken 274 = .ok (.iadd, 1) := by decide +kernel
theorem dX8_nextToken_275 : decode cX8_nextToken 275 = .ok (.putfield 209, 3) := by decide +kernel
theorem dX8_nextToken_278 : decode cX8_nextToken 278 = .ok (.goto (-81), 3) := by decide +kernel
theorem dX8_nextToken_281 : decode cX8_nextToken 281 = .ok (.aload_n 0, 1) := by decide +kernel
theorem dX8_nextToken_282 : decode cX8_nextToken 282 = .ok (.aload_n 0, 1) := by decide +kernel
theorem dX8_nextToken_283 : decode cX8_nextToken 283 = .ok (.getfield 215, 3) := by decide +kernel
theorem dX8_nextToken_286 : decode cX8_nextToken 286 = .ok (.ldc2_w 234, 3) := by decide +kernel
theorem dX8_nextToken_289 : decode cX8_nextToken 289 = .ok (.lcmp, 1) := by decide +kernel
theorem dX8_nextToken_290 : decode cX8_nextToken 290 = .ok (.ifCond .le 7, 3) := by decide +kernel
theorem dX8_nextToken_293 : decode cX8_nextToken 293 = .ok (.iconst 4, 1) := by decide +kernel
theorem dX8_nextToken_294 : decode cX8_nextToken 294 = .ok (.goto 4, 3) := by decide +kernel
theorem dX8_nextToken_297 : decode cX8_nextToken 297 = .ok (.iconst 2, 1) := by decide +kernel
theorem dX8_nextToken_298 : decode cX8_nextToken 298 = .ok (.putfield 219, 3) := by decide +kernel
theorem dX8_nextToken_301 : decode cX8_nextToken 301 = .ok (.goto 36, 3) := by decide +kernel
theorem dX8_nextToken_304 : decode cX8_nextToken 304 = .ok (.aload_n 0, 1) := by decide +kernel
theorem dX8_nextToken_305 : decode cX8_nextToken 305 = .ok (.aload_n 0, 1) := by decide +kernel
theorem dX8_nextToken_306 : decode cX8_nextToken 306 = .ok (.getfield 29, 3) := by decide +kernel
theorem dX8_nextToken_309 : decode cX8_nextToken 309 = .ok (.aload_n 0, 1) := by decide +kernel
theorem dX8_nextToken_310 : decode cX8_nextToken 310 = .ok (.getfield 212, 3) := by decide +kernel
theorem dX8_nextToken_313 : decode cX8_nextToken 313 = .ok (.iaload, 1) := by decide +kernel
theorem dX8_nextToken_314 : decode cX8_nextToken 314 = .ok (.bipush 59, 2) := by decide +kernel
theorem dX8_nextToken_316 : decode cX8_nextToken 316 = .ok (.if_icmp .ne 7, 3) := by decide +kernel
theorem dX8_nextToken_319 : decode cX8_nextToken 319 = .ok (.iconst 3, 1) := by decide +kernel
theorem dX8_nextToken_320 : decode cX8_nextToken 320 = .ok (.goto 4, 3) := by decide +kernel
theorem dX8_nextToken_323 : decode cX8_nextToken 323 = .ok (.iconst 4, 1) := by decide +kernel
theorem dX8_nextToken_324 : decode cX8_nextToken 324 = .ok (.putfield 219, 3) := by decide +kernel
theorem dX8_nextToken_327 : decode cX8_nextToken 327 = .ok (.aload_n 0, 1) := by decide +kernel
theorem dX8_nextToken_328 : decode cX8_nextToken 328 = .ok (.dup, 1) := by decide +kernel
theorem dX8_nextToken_329 : decode cX8_nextToken 329 = .ok (.getfield 209, 3) := by decide +kernel
theorem dX8_nextToken_332 : decode cX8_nextToken 332 = .ok (.iconst 1, 1) := by decide +kernel
theorem dX8_nextToken_333 : decode cX8_nextToken 333 = .ok (.iadd, 1) := by decide +kernel
theorem dX8_nextToken_334 : decode cX8_nextToken 334 = .ok (.putfield 209, 3) := by decide +kernel
theorem dX8_nextToken_337 : decode cX8_nextToken 337 = .ok (.return_, 1) := by decide +kernel
theorem dX8_wordOf_0 : decode cX8_wordOf 0 = .ok (.iconst (-1), 1) := by decide +kernel
theorem dX8_wordOf_1 : decode cX8_wordOf 1 = .ok (.istore_n 2, 1) := by decide +kernel
theorem dX8_wordOf_2 : decode cX8_wordOf 2 = .ok (.iconst 0, 1) := by decide +kernel
theorem dX8_wordOf_3 : decode cX8_wordOf 3 = .ok (.istore_n 3, 1) := by decide +kernel
theorem dX8_wordOf_4 : decode cX8_wordOf 4 = .ok (.iload_n 3, 1) := by decide +kernel
theorem dX8_wordOf_5 : decode cX8_wordOf 5 = .ok (.aload_n 1, 1) := by decide +kernel
theorem dX8_wordOf_6 : decode cX8_wordOf 6 = .ok (.arraylength, 1) := by decide +kernel
theorem dX8_wordOf_7 : decode cX8_wordOf 7 = .ok (.bipush 8, 2) := by decide +kernel
theorem dX8_wordOf_9 : decode cX8_wordOf 9 = .ok (.idiv, 1) := by decide +kernel
theorem dX8_wordOf_10 : decode cX8_wordOf 10 = .ok (.if_icmp .ge 94, 3) := by decide +kernel
theorem dX8_wordOf_13 : decode cX8_wordOf 13 = .ok (.aload_n 0, 1) := by decide +kernel
theorem dX8_wordOf_14 : decode cX8_wordOf 14 = .ok (.getfield 219, 3) := by decide +kernel
theorem dX8_wordOf_17 : decode cX8_wordOf 17 = .ok (.iconst 1, 1) := by decide +kernel
theorem dX8_wordOf_18 : decode cX8_wordOf 18 = .ok (.if_icmp .ne 86, 3) := by decide +kernel
theorem dX8_wordOf_21 : decode cX8_wordOf 21 = .ok (.lconst 0, 1) := by decide +kernel
theorem dX8_wordOf_22 : decode cX8_wordOf 22 = .ok (.lstore 4, 2) := by decide +kernel
theorem dX8_wordOf_24 : decode cX8_wordOf 24 = .ok (.iconst 0, 1) := by decide +kernel
theorem dX8_wordOf_25 : decode cX8_wordOf 25 = .ok (.istore 6, 2) := by decide +kernel
theorem dX8_wordOf_27 : decode cX8_wordOf 27 = .ok (.iload 6, 2) := by decide +kernel
theorem dX8_wordOf_29 : decode cX8_wordOf 29 = .ok (.bipush 8, 2) := by decide +kernel
theorem dX8_wordOf_31 : decode cX8_wordOf 31 = .ok (.if_icmp .ge 51, 3) := by decide +kernel
theorem dX8_wordOf_34 : decode cX8_wordOf 34 = .ok (.aload_n 1, 1) := by decide +kernel
theorem dX8_wordOf_35 : decode cX8_wordOf 35 = .ok (.bipush 8, 2) := by decide +kernel
theorem dX8_wordOf_37 : decode cX8_wordOf 37 = .ok (.iload_n 3, 1) := by decide +kernel
theorem dX8_wordOf_38 : decode cX8_wordOf 38 = .ok (.imul, 1) := by decide +kernel
theorem dX8_wordOf_39 : decode cX8_wordOf 39 = .ok (.iload 6, 2) := by decide +kernel
theorem dX8_wordOf_41 : decode cX8_wordOf 41 = .ok (.iadd, 1) := by decide +kernel
theorem dX8_wordOf_42 : decode cX8_wordOf 42 = .ok (.caload, 1) := by decide +kernel
theorem dX8_wordOf_43 : decode cX8_wordOf 43 = .ok (.bipush 32, 2) := by decide +kernel
theorem dX8_wordOf_45 : decode cX8_wordOf 45 = .ok (.if_icmp .ne 8, 3) := by decide +kernel
theorem dX8_wordOf_48 : decode cX8_wordOf 48 = .ok (.lload 4, 2) := by decide +kernel
theorem dX8_wordOf_50 : decode cX8_wordOf 50 = .ok (.goto 24, 3) := by decide +kernel
theorem dX8_wordOf_53 : decode cX8_wordOf 53 = .ok (.lload 4, 2) := by decide +kernel
theorem dX8_wordOf_55 : decode cX8_wordOf 55 = .ok (.ldc2_w 227, 3) := by decide +kernel
theorem dX8_wordOf_58 : decode cX8_wordOf 58 = .ok (.lmul, 1) := by decide +kernel
theorem dX8_wordOf_59 : decode cX8_wordOf 59 = .ok (.aload_n 1, 1) := by decide +kernel
theorem dX8_wordOf_60 : decode cX8_wordOf 60 = .ok (.bipush 8, 2) := by decide +kernel
theorem dX8_wordOf_62 : decode cX8_wordOf 62 = .ok (.iload_n 3, 1) := by decide +kernel
theorem dX8_wordOf_63 : decode cX8_wordOf 63 = .ok (.imul, 1) := by decide +kernel
theorem dX8_wordOf_64 : decode cX8_wordOf 64 = .ok (.iload 6, 2) := by decide +kernel
theorem dX8_wordOf_66 : decode cX8_wordOf 66 = .ok (.iadd, 1) := by decide +kernel
theorem dX8_wordOf_67 : decode cX8_wordOf 67 = .ok (.caload, 1) := by decide +kernel
theorem dX8_wordOf_68 : decode cX8_wordOf 68 = .ok (.i2l, 1) := by decide +kernel
theorem dX8_wordOf_69 : decode cX8_wordOf 69 = .ok (.ladd, 1) := by decide +kernel
theorem dX8_wordOf_70 : decode cX8_wordOf 70 = .ok (.ldc2_w 229, 3) := by decide +kernel
theorem dX8_wordOf_73 : decode cX8_wordOf 73 = .ok (.lsub, 1) := by decide +kernel
theorem dX8_wordOf_74 : decode cX8_wordOf 74 = .ok (.lstore 4, 2) := by decide +kernel
theorem dX8_wordOf_76 : decode cX8_wordOf 76 = .ok (.iinc 6 1, 3) := by decide +kernel
theorem dX8_wordOf_79 : decode cX8_wordOf 79 = .ok (.goto (-52), 3) := by decide +kernel
theorem dX8_wordOf_82 : decode cX8_wordOf 82 = .ok (.lload 4, 2) := by decide +kernel
theorem dX8_wordOf_84 : decode cX8_wordOf 84 = .ok (.aload_n 0, 1) := by decide +kernel
theorem dX8_wordOf_85 : decode cX8_wordOf 85 = .ok (.getfield 215, 3) := by decide +kernel
theorem dX8_wordOf_88 : decode cX8_wordOf 88 = .ok (.lcmp, 1) := by decide +kernel
theorem dX8_wordOf_89 : decode cX8_wordOf 89 = .ok (.ifCond .ne 7, 3) := by decide +kernel
theorem dX8_wordOf_92 : decode cX8_wordOf 92 = .ok (.iload_n 3, 1) := by decide +kernel
theorem dX8_wordOf_93 : decode cX8_wordOf 93 = .ok (.goto 4, 3) := by decide +kernel
theorem dX8_wordOf_96 : decode cX8_wordOf 96 = .ok (.iload_n 2, 1) := by decide +kernel
theorem dX8_wordOf_97 : decode cX8_wordOf 97 = .ok (.istore_n 2, 1) := by decide +kernel
theorem dX8_wordOf_98 : decode cX8_wordOf 98 = .ok (.iinc 3 1, 3) := by decide +kernel
theorem dX8_wordOf_101 : decode cX8_wordOf 101 = .ok (.goto (-97), 3) := by decide +kernel
theorem dX8_wordOf_104 : decode cX8_wordOf 104 = .ok (.iload_n 2, 1) := by decide +kernel
theorem dX8_wordOf_105 : decode cX8_wordOf 105 = .ok (.ireturn, 1) := by decide +kernel
theorem dX8_takesNumber_0 : decode cX8_takesNumber 0 = .ok (.aload_n 0, 1) := by decide +kernel
theorem dX8_takesNumber_1 : decode cX8_takesNumber 1 = .ok (.getfield 219, 3) := by decide +kernel
theorem dX8_takesNumber_4 : decode cX8_takesNumber 4 = .ok (.iconst 2, 1) := by decide +kernel
theorem dX8_takesNumber_5 : decode cX8_takesNumber 5 = .ok (.if_icmp .ne 24, 3) := by decide +kernel
theorem dX8_takesNumber_8 : decode cX8_takesNumber 8 = .ok (.aload_n 0, 1) := by decide +kernel
theorem dX8_takesNumber_9 : decode cX8_takesNumber 9 = .ok (.getfield 215, 3) := by decide +kernel
theorem dX8_takesNumber_12 : decode cX8_takesNumber 12 = .ok (.l2i, 1) := by decide +kernel
theorem dX8_takesNumber_13 : decode cX8_takesNumber 13 = .ok (.iload_n 1, 1) := by decide +kernel
theorem dX8_takesNumber_14 : decode cX8_takesNumber 14 = .ok (.iload_n 2, 1) := by decide +kernel
theorem dX8_takesNumber_15 : decode cX8_takesNumber 15 = .ok (.invokestatic 59, 3) := by decide +kernel
theorem dX8_takesNumber_18 : decode cX8_takesNumber 18 = .ok (.ifCond .eq 11, 3) := by decide +kernel
theorem dX8_takesNumber_21 : decode cX8_takesNumber 21 = .ok (.aload_n 0, 1) := by decide +kernel
theorem dX8_takesNumber_22 : decode cX8_takesNumber 22 = .ok (.getfield 215, 3) := by decide +kernel
theorem dX8_takesNumber_25 : decode cX8_takesNumber 25 = .ok (.l2i, 1) := by decide +kernel
theorem dX8_takesNumber_26 : decode cX8_takesNumber 26 = .ok (.goto 4, 3) := by decide +kernel
theorem dX8_takesNumber_29 : decode cX8_takesNumber 29 = .ok (.iconst (-1), 1) := by decide +kernel
theorem dX8_takesNumber_30 : decode cX8_takesNumber 30 = .ok (.istore_n 3, 1) := by decide +kernel
theorem dX8_takesNumber_31 : decode cX8_takesNumber 31 = .ok (.iload_n 3, 1) := by decide +kernel
theorem dX8_takesNumber_32 : decode cX8_takesNumber 32 = .ok (.ifCond .lt 7, 3) := by decide +kernel
theorem dX8_takesNumber_35 : decode cX8_takesNumber 35 = .ok (.aload_n 0, 1) := by decide +kernel
theorem dX8_takesNumber_36 : decode cX8_takesNumber 36 = .ok (.invokevirtual 240, 3) := by decide +kernel
theorem dX8_takesNumber_39 : decode cX8_takesNumber 39 = .ok (.iload_n 3, 1) := by decide +kernel
theorem dX8_takesNumber_40 : decode cX8_takesNumber 40 = .ok (.ireturn, 1) := by decide +kernel
theorem dX8_readsEgg_0 : decode cX8_readsEgg 0 = .ok (.aload_n 0, 1) := by decide +kernel
theorem dX8_readsEgg_1 : decode cX8_readsEgg 1 = .ok (.invokevirtual 102, 3) := by decide +kernel
theorem dX8_readsEgg_4 : decode cX8_readsEgg 4 = .ok (.istore_n 2, 1) := by decide +kernel
theorem dX8_readsEgg_5 : decode cX8_readsEgg 5 = .ok (.iload_n 2, 1) := by decide +kernel
theorem dX8_readsEgg_6 : decode cX8_readsEgg 6 = .ok (.ifCond .ge 5, 3) := by decide +kernel
theorem dX8_readsEgg_9 : decode cX8_readsEgg 9 = .ok (.iconst 0, 1) := by decide +kernel
theorem dX8_readsEgg_10 : decode cX8_readsEgg 10 = .ok (.ireturn, 1) := by decide +kernel
theorem dX8_readsEgg_11 : decode cX8_readsEgg 11 = .ok (.aload_n 0, 1) := by decide +kernel
theorem dX8_readsEgg_12 : decode cX8_readsEgg 12 = .ok (.invokevirtual 240, 3) := by decide +kernel
theorem dX8_readsEgg_15 : decode cX8_readsEgg 15 = .ok (.aload_n 0, 1) := by decide +kernel
theorem dX8_readsEgg_16 : decode cX8_readsEgg 16 = .ok (.iconst 1, 1) := by decide +kernel
theorem dX8_readsEgg_17 : decode cX8_readsEgg 17 = .ok (.bipush 99, 2) := by decide +kernel
theorem dX8_readsEgg_19 : decode cX8_readsEgg 19 = .ok (.invokevirtual 243, 3) := by decide +kernel
theorem dX8_readsEgg_22 : decode cX8_readsEgg 22 = .ok (.istore_n 3, 1) := by decide +kernel
theorem dX8_readsEgg_23 : decode cX8_readsEgg 23 = .ok (.iload_n 3, 1) := by decide +kernel
theorem dX8_readsEgg_24 : decode cX8_readsEgg 24 = .ok (.ifCond .ge 5, 3) := by decide +kernel
theorem dX8_readsEgg_27 : decode cX8_readsEgg 27 = .ok (.iconst 0, 1) := by decide +kernel
theorem dX8_readsEgg_28 : decode cX8_readsEgg 28 = .ok (.ireturn, 1) := by decide +kernel
theorem dX8_readsEgg_29 : decode cX8_readsEgg 29 = .ok (.aload_n 0, 1) := by decide +kernel
theorem dX8_readsEgg_30 : decode cX8_readsEgg 30 = .ok (.iload_n 1, 1) := by decide +kernel
theorem dX8_readsEgg_31 : decode cX8_readsEgg 31 = .ok (.iload_n 3, 1) := by decide +kernel
theorem dX8_readsEgg_32 : decode cX8_readsEgg 32 = .ok (.iconst 0, 1) := by decide +kernel
theorem dX8_readsEgg_33 : decode cX8_readsEgg 33 = .ok (.iconst 0, 1) := by decide +kernel
theorem dX8_readsEgg_34 : decode cX8_readsEgg 34 = .ok (.invokevirtual 116, 3) := by decide +kernel
theorem dX8_readsEgg_37 : decode cX8_readsEgg 37 = .ok (.istore 4, 2) := by decide +kernel
theorem dX8_readsEgg_39 : decode cX8_readsEgg 39 = .ok (.iconst 0, 1) := by decide +kernel
theorem dX8_readsEgg_40 : decode cX8_readsEgg 40 = .ok (.istore 5, 2) := by decide +kernel
theorem dX8_readsEgg_42 : decode cX8_readsEgg 42 = .ok (.iload 5, 2) := by decide +kernel
theorem dX8_readsEgg_44 : decode cX8_readsEgg 44 = .ok (.iconst 2, 1) := by decide +kernel
theorem dX8_readsEgg_45 : decode cX8_readsEgg 45 = .ok (.if_icmp .ge 62, 3) := by decide +kernel
theorem dX8_readsEgg_48 : decode cX8_readsEgg 48 = .ok (.aload_n 0, 1) := by decide +kernel
theorem dX8_readsEgg_49 : decode cX8_readsEgg 49 = .ok (.aload_n 0, 1) := by decide +kernel
theorem dX8_readsEgg_50 : decode cX8_readsEgg 50 = .ok (.getfield 36, 3) := by decide +kernel
theorem dX8_readsEgg_53 : decode cX8_readsEgg 53 = .ok (.invokevirtual 246, 3) := by decide +kernel
theorem dX8_readsEgg_56 : decode cX8_readsEgg 56 = .ok (.iload 5, 2) := by decide +kernel
theorem dX8_readsEgg_58 : decode cX8_readsEgg 58 = .ok (.if_icmp .ne 43, 3) := by decide +kernel
theorem dX8_readsEgg_61 : decode cX8_readsEgg 61 = .ok (.aload_n 0, 1) := by decide +kernel
theorem dX8_readsEgg_62 : decode cX8_readsEgg 62 = .ok (.invokevirtual 240, 3) := by decide +kernel
theorem dX8_readsEgg_65 : decode cX8_readsEgg 65 = .ok (.aload_n 0, 1) := by decide +kernel
theorem dX8_readsEgg_66 : decode cX8_readsEgg 66 = .ok (.iconst 0, 1) := by decide +kernel
theorem dX8_readsEgg_67 : decode cX8_readsEgg 67 = .ok (.iload 5, 2) := by decide +kernel
theorem dX8_readsEgg_69 : decode cX8_readsEgg 69 = .ok (.ifCond .ne 8, 3) := by decide +kernel
theorem dX8_readsEgg_72 : decode cX8_readsEgg 72 = .ok (.bipush 99, 2) := by decide +kernel
theorem dX8_readsEgg_74 : decode cX8_readsEgg 74 = .ok (.goto 4, 3) := by decide +kernel
theorem dX8_readsEgg_77 : decode cX8_readsEgg 77 = .ok (.iconst 3, 1) := by decide +kernel
theorem dX8_readsEgg_78 : decode cX8_readsEgg 78 = .ok (.invokevirtual 243, 3) := by decide +kernel
theorem dX8_readsEgg_81 : decode cX8_readsEgg 81 = .ok (.istore 6, 2) := by decide +kernel
theorem dX8_readsEgg_83 : decode cX8_readsEgg 83 = .ok (.iload 6, 2) := by decide +kernel
theorem dX8_readsEgg_85 : decode cX8_readsEgg 85 = .ok (.ifCond .ge 5, 3) := by decide +kernel
theorem dX8_readsEgg_88 : decode cX8_readsEgg 88 = .ok (.iconst 0, 1) := by decide +kernel
theorem dX8_readsEgg_89 : decode cX8_readsEgg 89 = .ok (.ireturn, 1) := by decide +kernel
theorem dX8_readsEgg_90 : decode cX8_readsEgg 90 = .ok (.aload_n 0, 1) := by decide +kernel
theorem dX8_readsEgg_91 : decode cX8_readsEgg 91 = .ok (.iload_n 2, 1) := by decide +kernel
theorem dX8_readsEgg_92 : decode cX8_readsEgg 92 = .ok (.iconst 2, 1) := by decide +kernel
theorem dX8_readsEgg_93 : decode cX8_readsEgg 93 = .ok (.iload 5, 2) := by decide +kernel
theorem dX8_readsEgg_95 : decode cX8_readsEgg 95 = .ok (.iadd, 1) := by decide +kernel
theorem dX8_readsEgg_96 : decode cX8_readsEgg 96 = .ok (.iload 6, 2) := by decide +kernel
theorem dX8_readsEgg_98 : decode cX8_readsEgg 98 = .ok (.invokevirtual 105, 3) := by decide +kernel
theorem dX8_readsEgg_101 : decode cX8_readsEgg 101 = .ok (.iinc 5 1, 3) := by decide +kernel
theorem dX8_readsEgg_104 : decode cX8_readsEgg 104 = .ok (.goto (-62), 3) := by decide +kernel
theorem dX8_readsEgg_107 : decode cX8_readsEgg 107 = .ok (.iload 4, 2) := by decide +kernel
theorem dX8_readsEgg_109 : decode cX8_readsEgg 109 = .ok (.iload_n 2, 1) := by decide +kernel
theorem dX8_readsEgg_110 : decode cX8_readsEgg 110 = .ok (.if_icmp .ne 7, 3) := by decide +kernel
theorem dX8_readsEgg_113 : decode cX8_readsEgg 113 = .ok (.iconst 1, 1) := by decide +kernel
theorem dX8_readsEgg_114 : decode cX8_readsEgg 114 = .ok (.goto 4, 3) := by decide +kernel
theorem dX8_readsEgg_117 : decode cX8_readsEgg 117 = .ok (.iconst 0, 1) := by decide +kernel
theorem dX8_readsEgg_118 : decode cX8_readsEgg 118 = .ok (.ireturn, 1) := by decide +kernel
theorem dX8_readsHen_0 : decode cX8_readsHen 0 = .ok (.aload_n 0, 1) := by decide +kernel
theorem dX8_readsHen_1 : decode cX8_readsHen 1 = .ok (.iconst 0, 1) := by decide +kernel
theorem dX8_readsHen_2 : decode cX8_readsHen 2 = .ok (.iconst 3, 1) := by decide +kernel
theorem dX8_readsHen_3 : decode cX8_readsHen 3 = .ok (.invokevirtual 243, 3) := by decide +kernel
theorem dX8_readsHen_6 : decode cX8_readsHen 6 = .ok (.istore_n 1, 1) := by decide +kernel
theorem dX8_readsHen_7 : decode cX8_readsHen 7 = .ok (.iload_n 1, 1) := by decide +kernel
theorem dX8_readsHen_8 : decode cX8_readsHen 8 = .ok (.ifCond .ge 7, 3) := by decide +kernel
theorem dX8_readsHen_11 : decode cX8_readsHen 11 = .ok (.iconst (-1), 1) := by decide +kernel
theorem dX8_readsHen_12 : decode cX8_readsHen 12 = .ok (.goto 10, 3) := by decide +kernel
theorem dX8_readsHen_15 : decode cX8_readsHen 15 = .ok (.aload_n 0, 1) := by decide +kernel
theorem dX8_readsHen_16 : decode cX8_readsHen 16 = .ok (.iconst 0, 1) := by decide +kernel
theorem dX8_readsHen_17 : decode cX8_readsHen 17 = .ok (.bipush 30, 2) := by decide +kernel
theorem dX8_readsHen_19 : decode cX8_readsHen 19 = .ok (.invokevirtual 243, 3) := by decide +kernel
theorem dX8_readsHen_22 : decode cX8_readsHen 22 = .ok (.istore_n 2, 1) := by decide +kernel
theorem dX8_readsHen_23 : decode cX8_readsHen 23 = .ok (.iload_n 2, 1) := by decide +kernel
theorem dX8_readsHen_24 : decode cX8_readsHen 24 = .ok (.ifCond .ge 5, 3) := by decide +kernel
theorem dX8_readsHen_27 : decode cX8_readsHen 27 = .ok (.iconst 0, 1) := by decide +kernel
theorem dX8_readsHen_28 : decode cX8_readsHen 28 = .ok (.ireturn, 1) := by decide +kernel
theorem dX8_readsHen_29 : decode cX8_readsHen 29 = .ok (.aload_n 0, 1) := by decide +kernel
theorem dX8_readsHen_30 : decode cX8_readsHen 30 = .ok (.getfield 9, 3) := by decide +kernel
theorem dX8_readsHen_33 : decode cX8_readsHen 33 = .ok (.bipush 43, 2) := by decide +kernel
theorem dX8_readsHen_35 : decode cX8_readsHen 35 = .ok (.iconst 4, 1) := by decide +kernel
theorem dX8_readsHen_36 : decode cX8_readsHen 36 = .ok (.iload_n 1, 1) := by decide +kernel
theorem dX8_readsHen_37 : decode cX8_readsHen 37 = .ok (.imul, 1) := by decide +kernel
theorem dX8_readsHen_38 : decode cX8_readsHen 38 = .ok (.iadd, 1) := by decide +kernel
theorem dX8_readsHen_39 : decode cX8_readsHen 39 = .ok (.iconst 0, 1) := by decide +kernel
theorem dX8_readsHen_40 : decode cX8_readsHen 40 = .ok (.iadd, 1) := by decide +kernel
theorem dX8_readsHen_41 : decode cX8_readsHen 41 = .ok (.iload_n 2, 1) := by decide +kernel
theorem dX8_readsHen_42 : decode cX8_readsHen 42 = .ok (.iastore, 1) := by decide +kernel
theorem dX8_readsHen_43 : decode cX8_readsHen 43 = .ok (.iconst 1, 1) := by decide +kernel
theorem dX8_readsHen_44 : decode cX8_readsHen 44 = .ok (.ireturn, 1) := by decide +kernel
theorem dX8_readsWork_0 : decode cX8_readsWork 0 = .ok (.aload_n 0, 1) := by decide +kernel
theorem dX8_readsWork_1 : decode cX8_readsWork 1 = .ok (.iconst 0, 1) := by decide +kernel
theorem dX8_readsWork_2 : decode cX8_readsWork 2 = .ok (.iconst 5, 1) := by decide +kernel
theorem dX8_readsWork_3 : decode cX8_readsWork 3 = .ok (.invokevirtual 243, 3) := by decide +kernel
theorem dX8_readsWork_6 : decode cX8_readsWork 6 = .ok (.istore_n 1, 1) := by decide +kernel
theorem dX8_readsWork_7 : decode cX8_readsWork 7 = .ok (.iload_n 1, 1) := by decide +kernel
theorem dX8_readsWork_8 : decode cX8_readsWork 8 = .ok (.ifCond .ge 7, 3) := by decide +kernel
theorem dX8_readsWork_11 : decode cX8_readsWork 11 = .ok (.iconst (-1), 1) := by decide +kernel
theorem dX8_readsWork_12 : decode cX8_readsWork 12 = .ok (.goto 11, 3) := by decide +kernel
theorem dX8_readsWork_15 : decode cX8_readsWork 15 = .ok (.aload_n 0, 1) := by decide +kernel
theorem dX8_readsWork_16 : decode cX8_readsWork 16 = .ok (.iconst 0, 1) := by decide +kernel
theorem dX8_readsWork_17 : decode cX8_readsWork 17 = .ok (.sipush 999, 3) := by decide +kernel
theorem dX8_readsWork_20 : decode cX8_readsWork 20 = .ok (.invokevirtual 243, 3) := by decide +kernel
theorem dX8_readsWork_23 : decode cX8_readsWork 23 = .ok (.istore_n 2, 1) := by decide +kernel
theorem dX8_readsWork_24 : decode cX8_readsWork 24 = .ok (.iload_n 2, 1) := by decide +kernel
theorem dX8_readsWork_25 : decode cX8_readsWork 25 = .ok (.ifCond .ge 5, 3) := by decide +kernel
theorem dX8_readsWork_28 : decode cX8_readsWork 28 = .ok (.iconst 0, 1) := by decide +kernel
theorem dX8_readsWork_29 : decode cX8_readsWork 29 = .ok (.ireturn, 1) := by decide +kernel
theorem dX8_readsWork_30 : decode cX8_readsWork 30 = .ok (.aload_n 0, 1) := by decide +kernel
theorem dX8_readsWork_31 : decode cX8_readsWork 31 = .ok (.getfield 9, 3) := by decide +kernel
theorem dX8_readsWork_34 : decode cX8_readsWork 34 = .ok (.bipush 59, 2) := by decide +kernel
theorem dX8_readsWork_36 : decode cX8_readsWork 36 = .ok (.iconst 4, 1) := by decide +kernel
theorem dX8_readsWork_37 : decode cX8_readsWork 37 = .ok (.iload_n 1, 1) := by decide +kernel
theorem dX8_readsWork_38 : decode cX8_readsWork 38 = .ok (.imul, 1) := by decide +kernel
theorem dX8_readsWork_39 : decode cX8_readsWork 39 = .ok (.iadd, 1) := by decide +kernel
theorem dX8_readsWork_40 : decode cX8_readsWork 40 = .ok (.iconst 0, 1) := by decide +kernel
theorem dX8_readsWork_41 : decode cX8_readsWork 41 = .ok (.iadd, 1) := by decide +kernel
theorem dX8_readsWork_42 : decode cX8_readsWork 42 = .ok (.iload_n 2, 1) := by decide +kernel
theorem dX8_readsWork_43 : decode cX8_readsWork 43 = .ok (.iastore, 1) := by decide +kernel
theorem dX8_readsWork_44 : decode cX8_readsWork 44 = .ok (.iconst 0, 1) := by decide +kernel
theorem dX8_readsWork_45 : decode cX8_readsWork 45 = .ok (.istore_n 3, 1) := by decide +kernel
theorem dX8_readsWork_46 : decode cX8_readsWork 46 = .ok (.iload_n 3, 1) := by decide +kernel
theorem dX8_readsWork_47 : decode cX8_readsWork 47 = .ok (.iconst 2, 1) := by decide +kernel
theorem dX8_readsWork_48 : decode cX8_readsWork 48 = .ok (.if_icmp .ge 67, 3) := by decide +kernel
theorem dX8_readsWork_51 : decode cX8_readsWork 51 = .ok (.aload_n 0, 1) := by decide +kernel
theorem dX8_readsWork_52 : decode cX8_readsWork 52 = .ok (.aload_n 0, 1) := by decide +kernel
theorem dX8_readsWork_53 : decode cX8_readsWork 53 = .ok (.getfield 39, 3) := by decide +kernel
theorem dX8_readsWork_56 : decode cX8_readsWork 56 = .ok (.invokevirtual 246, 3) := by decide +kernel
theorem dX8_readsWork_59 : decode cX8_readsWork 59 = .ok (.iload_n 3, 1) := by decide +kernel
theorem dX8_readsWork_60 : decode cX8_readsWork 60 = .ok (.if_icmp .ne 49, 3) := by decide +kernel
theorem dX8_readsWork_63 : decode cX8_readsWork 63 = .ok (.aload_n 0, 1) := by decide +kernel
theorem dX8_readsWork_64 : decode cX8_readsWork 64 = .ok (.invokevirtual 240, 3) := by decide +kernel
theorem dX8_readsWork_67 : decode cX8_readsWork 67 = .ok (.aload_n 0, 1) := by decide +kernel
theorem dX8_readsWork_68 : decode cX8_readsWork 68 = .ok (.iconst 0, 1) := by decide +kernel
theorem dX8_readsWork_69 : decode cX8_readsWork 69 = .ok (.iload_n 3, 1) := by decide +kernel
theorem dX8_readsWork_70 : decode cX8_readsWork 70 = .ok (.ifCond .ne 8, 3) := by decide +kernel
theorem dX8_readsWork_73 : decode cX8_readsWork 73 = .ok (.ldc 57, 2) := by decide +kernel
theorem dX8_readsWork_75 : decode cX8_readsWork 75 = .ok (.goto 5, 3) := by decide +kernel
theorem dX8_readsWork_78 : decode cX8_readsWork 78 = .ok (.bipush 99, 2) := by decide +kernel
theorem dX8_readsWork_80 : decode cX8_readsWork 80 = .ok (.invokevirtual 243, 3) := by decide +kernel
theorem dX8_readsWork_83 : decode cX8_readsWork 83 = .ok (.istore 4, 2) := by decide +kernel
theorem dX8_readsWork_85 : decode cX8_readsWork 85 = .ok (.iload 4, 2) := by decide +kernel
theorem dX8_readsWork_87 : decode cX8_readsWork 87 = .ok (.ifCond .ge 5, 3) := by decide +kernel
theorem dX8_readsWork_90 : decode cX8_readsWork 90 = .ok (.iconst 0, 1) := by decide +kernel
theorem dX8_readsWork_91 : decode cX8_readsWork 91 = .ok (.ireturn, 1) := by decide +kernel
theorem dX8_readsWork_92 : decode cX8_readsWork 92 = .ok (.aload_n 0, 1) := by decide +kernel
theorem dX8_readsWork_93 : decode cX8_readsWork 93 = .ok (.getfield 9, 3) := by decide +kernel
theorem dX8_readsWork_96 : decode cX8_readsWork 96 = .ok (.bipush 59, 2) := by decide +kernel
theorem dX8_readsWork_98 : decode cX8_readsWork 98 = .ok (.iconst 4, 1) := by decide +kernel
theorem dX8_readsWork_99 : decode cX8_readsWork 99 = .ok (.iload_n 1, 1) := by decide +kernel
theorem dX8_readsWork_100 : decode cX8_readsWork 100 = .ok (.imul, 1) := by decide +kernel
theorem dX8_readsWork_101 : decode cX8_readsWork 101 = .ok (.iadd, 1) := by decide +kernel
theorem dX8_readsWork_102 : decode cX8_readsWork 102 = .ok (.iconst 1, 1) := by decide +kernel
theorem dX8_readsWork_103 : decode cX8_readsWork 103 = .ok (.iadd, 1) := by decide +kernel
theorem dX8_readsWork_104 : decode cX8_readsWork 104 = .ok (.iload_n 3, 1) := by decide +kernel
theorem dX8_readsWork_105 : decode cX8_readsWork 105 = .ok (.iadd, 1) := by decide +kernel
theorem dX8_readsWork_106 : decode cX8_readsWork 106 = .ok (.iload 4, 2) := by decide +kernel
theorem dX8_readsWork_108 : decode cX8_readsWork 108 = .ok (.iastore, 1) := by decide +kernel
theorem dX8_readsWork_109 : decode cX8_readsWork 109 = .ok (.iinc 3 1, 3) := by decide +kernel
theorem dX8_readsWork_112 : decode cX8_readsWork 112 = .ok (.goto (-66), 3) := by decide +kernel
theorem dX8_readsWork_115 : decode cX8_readsWork 115 = .ok (.iconst 1, 1) := by decide +kernel
theorem dX8_readsWork_116 : decode cX8_readsWork 116 = .ok (.ireturn, 1) := by decide +kernel
theorem dX8_readsItem_0 : decode cX8_readsItem 0 = .ok (.aload_n 0, 1) := by decide +kernel
theorem dX8_readsItem_1 : decode cX8_readsItem 1 = .ok (.aload_n 0, 1) := by decide +kernel
theorem dX8_readsItem_2 : decode cX8_readsItem 2 = .ok (.getfield 32, 3) := by decide +kernel
theorem dX8_readsItem_5 : decode cX8_readsItem 5 = .ok (.invokevirtual 246, 3) := by decide +kernel
theorem dX8_readsItem_8 : decode cX8_readsItem 8 = .ok (.istore_n 1, 1) := by decide +kernel
theorem dX8_readsItem_9 : decode cX8_readsItem 9 = .ok (.iload_n 1, 1) := by decide +kernel
theorem dX8_readsItem_10 : decode cX8_readsItem 10 = .ok (.ifCond .lt 9, 3) := by decide +kernel
theorem dX8_readsItem_13 : decode cX8_readsItem 13 = .ok (.aload_n 0, 1) := by decide +kernel
theorem dX8_readsItem_14 : decode cX8_readsItem 14 = .ok (.iload_n 1, 1) := by decide +kernel
theorem dX8_readsItem_15 : decode cX8_readsItem 15 = .ok (.invokevirtual 250, 3) := by decide +kernel
theorem dX8_readsItem_18 : decode cX8_readsItem 18 = .ok (.ireturn, 1) := by decide +kernel
theorem dX8_readsItem_19 : decode cX8_readsItem 19 = .ok (.aload_n 0, 1) := by decide +kernel
theorem dX8_readsItem_20 : decode cX8_readsItem 20 = .ok (.aload_n 0, 1) := by decide +kernel
theorem dX8_readsItem_21 : decode cX8_readsItem 21 = .ok (.getfield 42, 3) := by decide +kernel
theorem dX8_readsItem_24 : decode cX8_readsItem 24 = .ok (.invokevirtual 246, 3) := by decide +kernel
theorem dX8_readsItem_27 : decode cX8_readsItem 27 = .ok (.istore_n 2, 1) := by decide +kernel
theorem dX8_readsItem_28 : decode cX8_readsItem 28 = .ok (.iload_n 2, 1) := by decide +kernel
theorem dX8_readsItem_29 : decode cX8_readsItem 29 = .ok (.ifCond .ge 5, 3) := by decide +kernel
theorem dX8_readsItem_32 : decode cX8_readsItem 32 = .ok (.iconst 0, 1) := by decide +kernel
theorem dX8_readsItem_33 : decode cX8_readsItem 33 = .ok (.ireturn, 1) := by decide +kernel
theorem dX8_readsItem_34 : decode cX8_readsItem 34 = .ok (.aload_n 0, 1) := by decide +kernel
theorem dX8_readsItem_35 : decode cX8_readsItem 35 = .ok (.invokevirtual 240, 3) := by decide +kernel
theorem dX8_readsItem_38 : decode cX8_readsItem 38 = .ok (.iload_n 2, 1) := by decide +kernel
theorem dX8_readsItem_39 : decode cX8_readsItem 39 = .ok (.ifCond .ne 10, 3) := by decide +kernel
theorem dX8_readsItem_42 : decode cX8_readsItem 42 = .ok (.aload_n 0, 1) := by decide +kernel
theorem dX8_readsItem_43 : decode cX8_readsItem 43 = .ok (.invokevirtual 253, 3) := by decide +kernel
theorem dX8_readsItem_46 : decode cX8_readsItem 46 = .ok (.goto 7, 3) := by decide +kernel
theorem dX8_readsItem_49 : decode cX8_readsItem 49 = .ok (.aload_n 0, 1) := by decide +kernel
theorem dX8_readsItem_50 : decode cX8_readsItem 50 = .ok (.invokevirtual 257, 3) := by decide +kernel
theorem dX8_readsItem_53 : decode cX8_readsItem 53 = .ok (.ireturn, 1) := by decide +kernel
theorem dX8_text_0 : decode cX8_text 0 = .ok (.aload_n 0, 1) := by decide +kernel
theorem dX8_text_1 : decode cX8_text 1 = .ok (.invokevirtual 152, 3) := by decide +kernel
theorem dX8_text_4 : decode cX8_text 4 = .ok (.aload_n 0, 1) := by decide +kernel
theorem dX8_text_5 : decode cX8_text 5 = .ok (.iconst 0, 1) := by decide +kernel
theorem dX8_text_6 : decode cX8_text 6 = .ok (.putfield 209, 3) := by decide +kernel
theorem dX8_text_9 : decode cX8_text 9 = .ok (.aload_n 0, 1) := by decide +kernel
theorem dX8_text_10 : decode cX8_text 10 = .ok (.invokevirtual 240, 3) := by decide +kernel
theorem dX8_text_13 : decode cX8_text 13 = .ok (.iconst 1, 1) := by decide +kernel
theorem dX8_text_14 : decode cX8_text 14 = .ok (.istore_n 1, 1) := by decide +kernel
theorem dX8_text_15 : decode cX8_text 15 = .ok (.aload_n 0, 1) := by decide +kernel
theorem dX8_text_16 : decode cX8_text 16 = .ok (.invokevirtual 260, 3) := by decide +kernel
theorem dX8_text_19 : decode cX8_text 19 = .ok (.istore_n 2, 1) := by decide +kernel
theorem dX8_text_20 : decode cX8_text 20 = .ok (.iload_n 2, 1) := by decide +kernel
theorem dX8_text_21 : decode cX8_text 21 = .ok (.ifCond .eq 26, 3) := by decide +kernel
theorem dX8_text_24 : decode cX8_text 24 = .ok (.aload_n 0, 1) := by decide +kernel
theorem dX8_text_25 : decode cX8_text 25 = .ok (.getfield 219, 3) := by decide +kernel
theorem dX8_text_28 : decode cX8_text 28 = .ok (.iconst 3, 1) := by decide +kernel
theorem dX8_text_29 : decode cX8_text 29 = .ok (.if_icmp .ne 18, 3) := by decide +kernel
theorem dX8_text_32 : decode cX8_text 32 = .ok (.aload_n 0, 1) := by decide +kernel
theorem dX8_text_33 : decode cX8_text 33 = .ok (.invokevirtual 240, 3) := by decide +kernel
theorem dX8_text_36 : decode cX8_text 36 = .ok (.aload_n 0, 1) := by decide +kernel
theorem dX8_text_37 : decode cX8_text 37 = .ok (.invokevirtual 260, 3) := by decide +kernel
theorem dX8_text_40 : decode cX8_text 40 = .ok (.istore_n 2, 1) := by decide +kernel
theorem dX8_text_41 : decode cX8_text 41 = .ok (.iinc 1 1, 3) := by decide +kernel
theorem dX8_text_44 : decode cX8_text 44 = .ok (.goto (-24), 3) := by decide +kernel
theorem dX8_text_47 : decode cX8_text 47 = .ok (.iload_n 2, 1) := by decide +kernel
theorem dX8_text_48 : decode cX8_text 48 = .ok (.ifCond .eq 14, 3) := by decide +kernel
theorem dX8_text_51 : decode cX8_text 51 = .ok (.aload_n 0, 1) := by decide +kernel
theorem dX8_text_52 : decode cX8_text 52 = .ok (.getfield 219, 3) := by decide +kernel
theorem dX8_text_55 : decode cX8_text 55 = .ok (.ifCond .ne 7, 3) := by decide +kernel
theorem dX8_text_58 : decode cX8_text 58 = .ok (.iconst 1, 1) := by decide +kernel
theorem dX8_text_59 : decode cX8_text 59 = .ok (.goto 4, 3) := by decide +kernel
theorem dX8_text_62 : decode cX8_text 62 = .ok (.iconst 0, 1) := by decide +kernel
theorem dX8_text_63 : decode cX8_text 63 = .ok (.istore_n 2, 1) := by decide +kernel
theorem dX8_text_64 : decode cX8_text 64 = .ok (.aload_n 0, 1) := by decide +kernel
theorem dX8_text_65 : decode cX8_text 65 = .ok (.iconst 0, 1) := by decide +kernel
theorem dX8_text_66 : decode cX8_text 66 = .ok (.putfield 205, 3) := by decide +kernel
theorem dX8_text_69 : decode cX8_text 69 = .ok (.iload_n 2, 1) := by decide +kernel
theorem dX8_text_70 : decode cX8_text 70 = .ok (.ifCond .ne 14, 3) := by decide +kernel
theorem dX8_text_73 : decode cX8_text 73 = .ok (.aload_n 0, 1) := by decide +kernel
theorem dX8_text_74 : decode cX8_text 74 = .ok (.invokevirtual 155, 3) := by decide +kernel
theorem dX8_text_77 : decode cX8_text 77 = .ok (.iconst (-1), 1) := by decide +kernel
theorem dX8_text_78 : decode cX8_text 78 = .ok (.aload_n 0, 1) := by decide +kernel
theorem dX8_text_79 : decode cX8_text 79 = .ok (.getfield 212, 3) := by decide +kernel
theorem dX8_text_82 : decode cX8_text 82 = .ok (.isub, 1) := by decide +kernel
theorem dX8_text_83 : decode cX8_text 83 = .ok (.ireturn, 1) := by decide +kernel
theorem dX8_text_84 : decode cX8_text 84 = .ok (.iload_n 1, 1) := by decide +kernel
theorem dX8_text_85 : decode cX8_text 85 = .ok (.ireturn, 1) := by decide +kernel
theorem dX8_isSpot_0 : decode cX8_isSpot 0 = .ok (.iload_n 0, 1) := by decide +kernel
theorem dX8_isSpot_1 : decode cX8_isSpot 1 = .ok (.iconst 0, 1) := by decide +kernel
theorem dX8_isSpot_2 : decode cX8_isSpot 2 = .ok (.bipush 9, 2) := by decide +kernel
theorem dX8_isSpot_4 : decode cX8_isSpot 4 = .ok (.invokestatic 59, 3) := by decide +kernel
theorem dX8_isSpot_7 : decode cX8_isSpot 7 = .ok (.ireturn, 1) := by decide +kernel
theorem dX8_hold_0 : decode cX8_hold 0 = .ok (.iload_n 1, 1) := by decide +kernel
theorem dX8_hold_1 : decode cX8_hold 1 = .ok (.invokestatic 263, 3) := by decide +kernel
theorem dX8_hold_4 : decode cX8_hold 4 = .ok (.ifCond .eq 15, 3) := by decide +kernel
theorem dX8_hold_7 : decode cX8_hold 7 = .ok (.iload_n 2, 1) := by decide +kernel
theorem dX8_hold_8 : decode cX8_hold 8 = .ok (.iconst (-1), 1) := by decide +kernel
theorem dX8_hold_9 : decode cX8_hold 9 = .ok (.if_icmp .eq 16, 3) := by decide +kernel
theorem dX8_hold_12 : decode cX8_hold 12 = .ok (.iload_n 2, 1) := by decide +kernel
theorem dX8_hold_13 : decode cX8_hold 13 = .ok (.invokestatic 67, 3) := by decide +kernel
theorem dX8_hold_16 : decode cX8_hold 16 = .ok (.ifCond .ne 9, 3) := by decide +kernel
theorem dX8_hold_19 : decode cX8_hold 19 = .ok (.aload_n 0, 1) := by decide +kernel
theorem dX8_hold_20 : decode cX8_hold 20 = .ok (.iconst 0, 1) := by decide +kernel
theorem dX8_hold_21 : decode cX8_hold 21 = .ok (.invokevirtual 119, 3) := by decide +kernel
theorem dX8_hold_24 : decode cX8_hold 24 = .ok (.ireturn, 1) := by decide +kernel
theorem dX8_hold_25 : decode cX8_hold 25 = .ok (.aload_n 0, 1) := by decide +kernel
theorem dX8_hold_26 : decode cX8_hold 26 = .ok (.getfield 9, 3) := by decide +kernel
theorem dX8_hold_29 : decode cX8_hold 29 = .ok (.bipush 83, 2) := by decide +kernel
theorem dX8_hold_31 : decode cX8_hold 31 = .ok (.iload_n 1, 1) := by decide +kernel
theorem dX8_hold_32 : decode cX8_hold 32 = .ok (.iadd, 1) := by decide +kernel
theorem dX8_hold_33 : decode cX8_hold 33 = .ok (.iload_n 2, 1) := by decide +kernel
theorem dX8_hold_34 : decode cX8_hold 34 = .ok (.iastore, 1) := by decide +kernel
theorem dX8_hold_35 : decode cX8_hold 35 = .ok (.iconst 1, 1) := by decide +kernel
theorem dX8_hold_36 : decode cX8_hold 36 = .ok (.ireturn, 1) := by decide +kernel
theorem dX8_above_0 : decode cX8_above 0 = .ok (.iload_n 0, 1) := by decide +kernel
theorem dX8_above_1 : decode cX8_above 1 = .ok (.iconst 3, 1) := by decide +kernel
theorem dX8_above_2 : decode cX8_above 2 = .ok (.if_icmp .ne 7, 3) := by decide +kernel
theorem dX8_above_5 : decode cX8_above 5 = .ok (.iconst 2, 1) := by decide +kernel
theorem dX8_above_6 : decode cX8_above 6 = .ok (.goto 23, 3) := by decide +kernel
theorem dX8_above_9 : decode cX8_above 9 = .ok (.iload_n 0, 1) := by decide +kernel
theorem dX8_above_10 : decode cX8_above 10 = .ok (.iconst 4, 1) := by decide +kernel
theorem dX8_above_11 : decode cX8_above 11 = .ok (.if_icmp .ne 7, 3) := by decide +kernel
theorem dX8_above_14 : decode cX8_above 14 = .ok (.iconst 3, 1) := by decide +kernel
theorem dX8_above_15 : decode cX8_above 15 = .ok (.goto 14, 3) := by decide +kernel
theorem dX8_above_18 : decode cX8_above 18 = .ok (.iload_n 0, 1) := by decide +kernel
theorem dX8_above_19 : decode cX8_above 19 = .ok (.bipush 6, 2) := by decide +kernel
theorem dX8_above_21 : decode cX8_above 21 = .ok (.if_icmp .ne 7, 3) := by decide +kernel
theorem dX8_above_24 : decode cX8_above 24 = .ok (.iconst 1, 1) := by decide +kernel
theorem dX8_above_25 : decode cX8_above 25 = .ok (.goto 4, 3) := by decide +kernel
theorem dX8_above_28 : decode cX8_above 28 = .ok (.iconst 0, 1) := by decide +kernel
theorem dX8_above_29 : decode cX8_above 29 = .ok (.ireturn, 1) := by decide +kernel
theorem dX8_as_0 : decode cX8_as 0 = .ok (.iload_n 1, 1) := by decide +kernel
theorem dX8_as_1 : decode cX8_as 1 = .ok (.invokestatic 263, 3) := by decide +kernel
theorem dX8_as_4 : decode cX8_as 4 = .ok (.ifCond .eq 13, 3) := by decide +kernel
theorem dX8_as_7 : decode cX8_as 7 = .ok (.iload_n 2, 1) := by decide +kernel
theorem dX8_as_8 : decode cX8_as 8 = .ok (.iconst 0, 1) := by decide +kernel
theorem dX8_as_9 : decode cX8_as 9 = .ok (.bipush 6, 2) := by decide +kernel
theorem dX8_as_11 : decode cX8_as 11 = .ok (.invokestatic 59, 3) := by decide +kernel
theorem dX8_as_14 : decode cX8_as 14 = .ok (.ifCond .ne 9, 3) := by decide +kernel
theorem dX8_as_17 : decode cX8_as 17 = .ok (.aload_n 0, 1) := by decide +kernel
theorem dX8_as_18 : decode cX8_as 18 = .ok (.iconst 0, 1) := by decide +kernel
theorem dX8_as_19 : decode cX8_as 19 = .ok (.invokevirtual 119, 3) := by decide +kernel
theorem dX8_as_22 : decode cX8_as 22 = .ok (.ireturn, 1) := by decide +kernel
theorem dX8_as_23 : decode cX8_as 23 = .ok (.aload_n 0, 1) := by decide +kernel
theorem dX8_as_24 : decode cX8_as 24 = .ok (.getfield 9, 3) := by decide +kernel
theorem dX8_as_27 : decode cX8_as 27 = .ok (.bipush 83, 2) := by decide +kernel
theorem dX8_as_29 : decode cX8_as 29 = .ok (.iload_n 1, 1) := by decide +kernel
theorem dX8_as_30 : decode cX8_as 30 = .ok (.iadd, 1) := by decide +kernel
theorem dX8_as_31 : decode cX8_as 31 = .ok (.iaload, 1) := by decide +kernel
theorem dX8_as_32 : decode cX8_as 32 = .ok (.istore_n 3, 1) := by decide +kernel
theorem dX8_as_33 : decode cX8_as 33 = .ok (.iload_n 3, 1) := by decide +kernel
theorem dX8_as_34 : decode cX8_as 34 = .ok (.ifCond .lt 11, 3) := by decide +kernel
theorem dX8_as_37 : decode cX8_as 37 = .ok (.aload_n 0, 1) := by decide +kernel
theorem dX8_as_38 : decode cX8_as 38 = .ok (.iload_n 3, 1) := by decide +kernel
theorem dX8_as_39 : decode cX8_as 39 = .ok (.invokevirtual 71, 3) := by decide +kernel
theorem dX8_as_42 : decode cX8_as 42 = .ok (.ifCond .ne 9, 3) := by decide +kernel
theorem dX8_as_45 : decode cX8_as 45 = .ok (.aload_n 0, 1) := by decide +kernel
theorem dX8_as_46 : decode cX8_as 46 = .ok (.iconst 5, 1) := by decide +kernel
theorem dX8_as_47 : decode cX8_as 47 = .ok (.invokevirtual 119, 3) := by decide +kernel
theorem dX8_as_50 : decode cX8_as 50 = .ok (.ireturn, 1) := by decide +kernel
theorem dX8_as_51 : decode cX8_as 51 = .ok (.aload_n 0, 1) := by decide +kernel
theorem dX8_as_52 : decode cX8_as 52 = .ok (.iload_n 3, 1) := by decide +kernel
theorem dX8_as_53 : decode cX8_as 53 = .ok (.iconst 0, 1) := by decide +kernel
theorem dX8_as_54 : decode cX8_as 54 = .ok (.invokevirtual 63, 3) := by decide +kernel
theorem dX8_as_57 : decode cX8_as 57 = .ok (.istore 4, 2) := by decide +kernel
theorem dX8_as_59 : decode cX8_as 59 = .ok (.iload 4, 2) := by decide +kernel
theorem dX8_as_61 : decode cX8_as 61 = .ok (.iload_n 2, 1) := by decide +kernel
theorem dX8_as_62 : decode cX8_as 62 = .ok (.if_icmp .eq 18, 3) := by decide +kernel
theorem dX8_as_65 : decode cX8_as 65 = .ok (.iload 4, 2) := by decide +kernel
theorem dX8_as_67 : decode cX8_as 67 = .ok (.ifCond .eq 13, 3) := by decide +kernel
theorem dX8_as_70 : decode cX8_as 70 = .ok (.iload 4, 2) := by decide +kernel
theorem dX8_as_72 : decode cX8_as 72 = .ok (.invokestatic 266, 3) := by decide +kernel
theorem dX8_as_75 : decode cX8_as 75 = .ok (.istore 4, 2) := by decide +kernel
theorem dX8_as_77 : decode cX8_as 77 = .ok (.goto (-18), 3) := by decide +kernel
theorem dX8_as_80 : decode cX8_as 80 = .ok (.iload 4, 2) := by decide +kernel
theorem dX8_as_82 : decode cX8_as 82 = .ok (.iload_n 2, 1) := by decide +kernel
theorem dX8_as_83 : decode cX8_as 83 = .ok (.if_icmp .ne 7, 3) := by decide +kernel
theorem dX8_as_86 : decode cX8_as 86 = .ok (.iload_n 3, 1) := by decide +kernel
theorem dX8_as_87 : decode cX8_as 87 = .ok (.goto 8, 3) := by decide +kernel
theorem dX8_as_90 : decode cX8_as 90 = .ok (.aload_n 0, 1) := by decide +kernel
theorem dX8_as_91 : decode cX8_as 91 = .ok (.iconst 2, 1) := by decide +kernel
theorem dX8_as_92 : decode cX8_as 92 = .ok (.invokevirtual 119, 3) := by decide +kernel
theorem dX8_as_95 : decode cX8_as 95 = .ok (.ireturn, 1) := by decide +kernel
theorem dX8_sheet_0 : decode cX8_sheet 0 = .ok (.iload_n 1, 1) := by decide +kernel
theorem dX8_sheet_1 : decode cX8_sheet 1 = .ok (.invokestatic 185, 3) := by decide +kernel
theorem dX8_sheet_4 : decode cX8_sheet 4 = .ok (.ifCond .eq 25, 3) := by decide +kernel
theorem dX8_sheet_7 : decode cX8_sheet 7 = .ok (.iload_n 2, 1) := by decide +kernel
theorem dX8_sheet_8 : decode cX8_sheet 8 = .ok (.ifCond .eq 27, 3) := by decide +kernel
theorem dX8_sheet_11 : decode cX8_sheet 11 = .ok (.iload_n 2, 1) := by decide +kernel
theorem dX8_sheet_12 : decode cX8_sheet 12 = .ok (.bipush 8, 2) := by decide +kernel
theorem dX8_sheet_14 : decode cX8_sheet 14 = .ok (.if_icmp .eq 21, 3) := by decide +kernel
theorem dX8_sheet_17 : decode cX8_sheet 17 = .ok (.iload_n 2, 1) := by decide +kernel
theorem dX8_sheet_18 : decode cX8_sheet 18 = .ok (.bipush 16, 2) := by decide +kernel
theorem dX8_sheet_20 : decode cX8_sheet 20 = .ok (.if_icmp .eq 15, 3) := by decide +kernel
theorem dX8_sheet_23 : decode cX8_sheet 23 = .ok (.iload_n 2, 1) := by decide +kernel
theorem dX8_sheet_24 : decode cX8_sheet 24 = .ok (.bipush 32, 2) := by decide +kernel
theorem dX8_sheet_26 : decode cX8_sheet 26 = .ok (.if_icmp .eq 9, 3) := by decide +kernel
theorem dX8_sheet_29 : decode cX8_sheet 29 = .ok (.aload_n 0, 1) := by decide +kernel
theorem dX8_sheet_30 : decode cX8_sheet 30 = .ok (.iconst 0, 1) := by decide +kernel
theorem dX8_sheet_31 : decode cX8_sheet 31 = .ok (.invokevirtual 119, 3) := by decide +kernel
theorem dX8_sheet_34 : decode cX8_sheet 34 = .ok (.ireturn, 1) := by decide +kernel
theorem dX8_sheet_35 : decode cX8_sheet 35 = .ok (.iload_n 3, 1) := by decide +kernel
theorem dX8_sheet_36 : decode cX8_sheet 36 = .ok (.ifCond .ge 10, 3) := by decide +kernel
theorem dX8_sheet_39 : decode cX8_sheet 39 = .ok (.aload_n 0, 1) := by decide +kernel
theorem dX8_sheet_40 : decode cX8_sheet 40 = .ok (.bipush 6, 2) := by decide +kernel
theorem dX8_sheet_42 : decode cX8_sheet 42 = .ok (.invokevirtual 119, 3) := by decide +kernel
theorem dX8_sheet_45 : decode cX8_sheet 45 = .ok (.ireturn, 1) := by decide +kernel
theorem dX8_sheet_46 : decode cX8_sheet 46 = .ok (.iload_n 3, 1) := by decide +kernel
theorem dX8_sheet_47 : decode cX8_sheet 47 = .ok (.bipush 40, 2) := by decide +kernel
theorem dX8_sheet_49 : decode cX8_sheet 49 = .ok (.if_icmp .le 9, 3) := by decide +kernel
theorem dX8_sheet_52 : decode cX8_sheet 52 = .ok (.aload_n 0, 1) := by decide +kernel
theorem dX8_sheet_53 : decode cX8_sheet 53 = .ok (.iconst 0, 1) := by decide +kernel
theorem dX8_sheet_54 : decode cX8_sheet 54 = .ok (.invokevirtual 119, 3) := by decide +kernel
theorem dX8_sheet_57 : decode cX8_sheet 57 = .ok (.ireturn, 1) := by decide +kernel
theorem dX8_sheet_58 : decode cX8_sheet 58 = .ok (.aload_n 0, 1) := by decide +kernel
theorem dX8_sheet_59 : decode cX8_sheet 59 = .ok (.getfield 45, 3) := by decide +kernel
theorem dX8_sheet_62 : decode cX8_sheet 62 = .ok (.iload_n 1, 1) := by decide +kernel
theorem dX8_sheet_63 : decode cX8_sheet 63 = .ok (.iload_n 2, 1) := by decide +kernel
theorem dX8_sheet_64 : decode cX8_sheet 64 = .ok (.iastore, 1) := by decide +kernel
theorem dX8_sheet_65 : decode cX8_sheet 65 = .ok (.aload_n 0, 1) := by decide +kernel
theorem dX8_sheet_66 : decode cX8_sheet 66 = .ok (.getfield 48, 3) := by decide +kernel
theorem dX8_sheet_69 : decode cX8_sheet 69 = .ok (.iload_n 1, 1) := by decide +kernel
theorem dX8_sheet_70 : decode cX8_sheet 70 = .ok (.iload_n 2, 1) := by decide +kernel
theorem dX8_sheet_71 : decode cX8_sheet 71 = .ok (.ifCond .ne 7, 3) := by decide +kernel
theorem dX8_sheet_74 : decode cX8_sheet 74 = .ok (.iconst 0, 1) := by decide +kernel
theorem dX8_sheet_75 : decode cX8_sheet 75 = .ok (.goto 4, 3) := by decide +kernel
theorem dX8_sheet_78 : decode cX8_sheet 78 = .ok (.iload_n 3, 1) := by decide +kernel
theorem dX8_sheet_79 : decode cX8_sheet 79 = .ok (.iastore, 1) := by decide +kernel
theorem dX8_sheet_80 : decode cX8_sheet 80 = .ok (.iconst 0, 1) := by decide +kernel
theorem dX8_sheet_81 : decode cX8_sheet 81 = .ok (.istore 4, 2) := by decide +kernel
theorem dX8_sheet_83 : decode cX8_sheet 83 = .ok (.iload 4, 2) := by decide +kernel
theorem dX8_sheet_85 : decode cX8_sheet 85 = .ok (.bipush 40, 2) := by decide +kernel
theorem dX8_sheet_87 : decode cX8_sheet 87 = .ok (.if_icmp .ge 22, 3) := by decide +kernel
theorem dX8_sheet_90 : decode cX8_sheet 90 = .ok (.aload_n 0, 1) := by decide +kernel
theorem dX8_sheet_91 : decode cX8_sheet 91 = .ok (.getfield 51, 3) := by decide +kernel
theorem dX8_sheet_94 : decode cX8_sheet 94 = .ok (.bipush 40, 2) := by decide +kernel
theorem dX8_sheet_96 : decode cX8_sheet 96 = .ok (.iload_n 1, 1) := by decide +kernel
theorem dX8_sheet_97 : decode cX8_sheet 97 = .ok (.imul, 1) := by decide +kernel
theorem dX8_sheet_98 : decode cX8_sheet 98 = .ok (.iload 4, 2) := by decide +kernel
theorem dX8_sheet_100 : decode cX8_sheet 100 = .ok (.iadd, 1) := by decide +kernel
theorem dX8_sheet_101 : decode cX8_sheet 101 = .ok (.iconst 0, 1) := by decide +kernel
theorem dX8_sheet_102 : decode cX8_sheet 102 = .ok (.iastore, 1) := by decide +kernel
theorem dX8_sheet_103 : decode cX8_sheet 103 = .ok (.iinc 4 1, 3) := by decide +kernel
theorem dX8_sheet_106 : decode cX8_sheet 106 = .ok (.goto (-23), 3) := by decide +kernel
theorem dX8_sheet_109 : decode cX8_sheet 109 = .ok (.aload_n 0, 1) := by decide +kernel
theorem dX8_sheet_110 : decode cX8_sheet 110 = .ok (.getfield 48, 3) := by decide +kernel
theorem dX8_sheet_113 : decode cX8_sheet 113 = .ok (.iload_n 1, 1) := by decide +kernel
theorem dX8_sheet_114 : decode cX8_sheet 114 = .ok (.iaload, 1) := by decide +kernel
theorem dX8_sheet_115 : decode cX8_sheet 115 = .ok (.ireturn, 1) := by decide +kernel
theorem dX8_write_0 : decode cX8_write 0 = .ok (.aload_n 0, 1) := by decide +kernel
theorem dX8_write_1 : decode cX8_write 1 = .ok (.iload_n 1, 1) := by decide +kernel
theorem dX8_write_2 : decode cX8_write 2 = .ok (.invokevirtual 188, 3) := by decide +kernel
theorem dX8_write_5 : decode cX8_write 5 = .ok (.istore 4, 2) := by decide +kernel
theorem dX8_write_7 : decode cX8_write 7 = .ok (.iload 4, 2) := by decide +kernel
theorem dX8_write_9 : decode cX8_write 9 = .ok (.ifCond .ge 22, 3) := by decide +kernel
theorem dX8_write_12 : decode cX8_write 12 = .ok (.iload_n 2, 1) := by decide +kernel
theorem dX8_write_13 : decode cX8_write 13 = .ok (.iconst 0, 1) := by decide +kernel
theorem dX8_write_14 : decode cX8_write 14 = .ok (.aload_n 0, 1) := by decide +kernel
theorem dX8_write_15 : decode cX8_write 15 = .ok (.getfield 48, 3) := by decide +kernel
theorem dX8_write_18 : decode cX8_write 18 = .ok (.iload_n 1, 1) := by decide +kernel
theorem dX8_write_19 : decode cX8_write 19 = .ok (.iaload, 1) := by decide +kernel
theorem dX8_write_20 : decode cX8_write 20 = .ok (.iconst 1, 1) := by decide +kernel
theorem dX8_write_21 : decode cX8_write 21 = .ok (.isub, 1) := by decide +kernel
theorem dX8_write_22 : decode cX8_write 22 = .ok (.invokestatic 59, 3) := by decide +kernel
theorem dX8_write_25 : decode cX8_write 25 = .ok (.ifCond .ne 6, 3) := by decide +kernel
theorem dX8_write_28 : decode cX8_write 28 = .ok (.iconst 0, 1) := by decide +kernel
theorem dX8_write_29 : decode cX8_write 29 = .ok (.istore 4, 2) := by decide +kernel
theorem dX8_write_31 : decode cX8_write 31 = .ok (.iload 4, 2) := by decide +kernel
theorem dX8_write_33 : decode cX8_write 33 = .ok (.ifCond .lt 10, 3) := by decide +kernel
theorem dX8_write_36 : decode cX8_write 36 = .ok (.aload_n 0, 1) := by decide +kernel
theorem dX8_write_37 : decode cX8_write 37 = .ok (.iload 4, 2) := by decide +kernel
theorem dX8_write_39 : decode cX8_write 39 = .ok (.invokevirtual 119, 3) := by decide +kernel
theorem dX8_write_42 : decode cX8_write 42 = .ok (.ireturn, 1) := by decide +kernel
theorem dX8_write_43 : decode cX8_write 43 = .ok (.aload_n 0, 1) := by decide +kernel
theorem dX8_write_44 : decode cX8_write 44 = .ok (.getfield 51, 3) := by decide +kernel
theorem dX8_write_47 : decode cX8_write 47 = .ok (.bipush 40, 2) := by decide +kernel
theorem dX8_write_49 : decode cX8_write 49 = .ok (.iload_n 1, 1) := by decide +kernel
theorem dX8_write_50 : decode cX8_write 50 = .ok (.imul, 1) := by decide +kernel
theorem dX8_write_51 : decode cX8_write 51 = .ok (.iload_n 2, 1) := by decide +kernel
theorem dX8_write_52 : decode cX8_write 52 = .ok (.iadd, 1) := by decide +kernel
theorem dX8_write_53 : decode cX8_write 53 = .ok (.aload_n 0, 1) := by decide +kernel
theorem dX8_write_54 : decode cX8_write 54 = .ok (.getfield 45, 3) := by decide +kernel
theorem dX8_write_57 : decode cX8_write 57 = .ok (.iload_n 1, 1) := by decide +kernel
theorem dX8_write_58 : decode cX8_write 58 = .ok (.iaload, 1) := by decide +kernel
theorem dX8_write_59 : decode cX8_write 59 = .ok (.bipush 8, 2) := by decide +kernel
theorem dX8_write_61 : decode cX8_write 61 = .ok (.if_icmp .ne 8, 3) := by decide +kernel
theorem dX8_write_64 : decode cX8_write 64 = .ok (.iload_n 3, 1) := by decide +kernel
theorem dX8_write_65 : decode cX8_write 65 = .ok (.i2b, 1) := by decide +kernel
theorem dX8_write_66 : decode cX8_write 66 = .ok (.goto 20, 3) := by decide +kernel
theorem dX8_write_69 : decode cX8_write 69 = .ok (.aload_n 0, 1) := by decide +kernel
theorem dX8_write_70 : decode cX8_write 70 = .ok (.getfield 45, 3) := by decide +kernel
theorem dX8_write_73 : decode cX8_write 73 = .ok (.iload_n 1, 1) := by decide +kernel
theorem dX8_write_74 : decode cX8_write 74 = .ok (.iaload, 1) := by decide +kernel
theorem dX8_write_75 : decode cX8_write 75 = .ok (.bipush 16, 2) := by decide +kernel
theorem dX8_write_77 : decode cX8_write 77 = .ok (.if_icmp .ne 8, 3) := by decide +kernel
theorem dX8_write_80 : decode cX8_write 80 = .ok (.iload_n 3, 1) := by decide +kernel
theorem dX8_write_81 : decode cX8_write 81 = .ok (.i2s, 1) := by decide +kernel
theorem dX8_write_82 : decode cX8_write 82 = .ok (.goto 4, 3) := by decide +kernel
theorem dX8_write_85 : decode cX8_write 85 = .ok (.iload_n 3, 1) := by decide +kernel
theorem dX8_write_86 : decode cX8_write 86 = .ok (.iastore, 1) := by decide +kernel
theorem dX8_write_87 : decode cX8_write 87 = .ok (.iconst 1, 1) := by decide +kernel
theorem dX8_write_88 : decode cX8_write 88 = .ok (.ireturn, 1) := by decide +kernel
theorem dX8_copy_0 : decode cX8_copy 0 = .ok (.iload_n 1, 1) := by decide +kernel
theorem dX8_copy_1 : decode cX8_copy 1 = .ok (.invokestatic 185, 3) := by decide +kernel
theorem dX8_copy_4 : decode cX8_copy 4 = .ok (.ifCond .eq 10, 3) := by decide +kernel
theorem dX8_copy_7 : decode cX8_copy 7 = .ok (.iload_n 3, 1) := by decide +kernel
theorem dX8_copy_8 : decode cX8_copy 8 = .ok (.invokestatic 185, 3) := by decide +kernel
theorem dX8_copy_11 : decode cX8_copy 11 = .ok (.ifCond .ne 9, 3) := by decide +kernel
theorem dX8_copy_14 : decode cX8_copy 14 = .ok (.aload_n 0, 1) := by decide +kernel
theorem dX8_copy_15 : decode cX8_copy 15 = .ok (.iconst 0, 1) := by decide +kernel
theorem dX8_copy_16 : decode cX8_copy 16 = .ok (.invokevirtual 119, 3) := by decide +kernel
theorem dX8_copy_19 : decode cX8_copy 19 = .ok (.ireturn, 1) := by decide +kernel
theorem dX8_copy_20 : decode cX8_copy 20 = .ok (.aload_n 0, 1) := by decide +kernel
theorem dX8_copy_21 : decode cX8_copy 21 = .ok (.getfield 45, 3) := by decide +kernel
theorem dX8_copy_24 : decode cX8_copy 24 = .ok (.iload_n 1, 1) := by decide +kernel
theorem dX8_copy_25 : decode cX8_copy 25 = .ok (.iaload, 1) := by decide +kernel
theorem dX8_copy_26 : decode cX8_copy 26 = .ok (.ifCond .eq 12, 3) := by decide +kernel
theorem dX8_copy_29 : decode cX8_copy 29 = .ok (.aload_n 0, 1) := by decide +kernel
theorem dX8_copy_30 : decode cX8_copy 30 = .ok (.getfield 45, 3) := by decide +kernel
theorem dX8_copy_33 : decode cX8_copy 33 = .ok (.iload_n 3, 1) := by decide +kernel
theorem dX8_copy_34 : decode cX8_copy 34 = .ok (.iaload, 1) := by decide +kernel
theorem dX8_copy_35 : decode cX8_copy 35 = .ok (.ifCond .ne 9, 3) := by decide +kernel
theorem dX8_copy_38 : decode cX8_copy 38 = .ok (.aload_n 0, 1) := by decide +kernel
theorem dX8_copy_39 : decode cX8_copy 39 = .ok (.iconst 5, 1) := by decide +kernel
theorem dX8_copy_40 : decode cX8_copy 40 = .ok (.invokevirtual 119, 3) := by decide +kernel
theorem dX8_copy_43 : decode cX8_copy 43 = .ok (.ireturn, 1) := by decide +kernel
theorem dX8_copy_44 : decode cX8_copy 44 = .ok (.aload_n 0, 1) := by decide +kernel
theorem dX8_copy_45 : decode cX8_copy 45 = .ok (.getfield 45, 3) := by decide +kernel
theorem dX8_copy_48 : decode cX8_copy 48 = .ok (.iload_n 1, 1) := by decide +kernel
theorem dX8_copy_49 : decode cX8_copy 49 = .ok (.iaload, 1) := by decide +kernel
theorem dX8_copy_50 : decode cX8_copy 50 = .ok (.aload_n 0, 1) := by decide +kernel
theorem dX8_copy_51 : decode cX8_copy 51 = .ok (.getfield 45, 3) := by decide +kernel
theorem dX8_copy_54 : decode cX8_copy 54 = .ok (.iload_n 3, 1) := by decide +kernel
theorem dX8_copy_55 : decode cX8_copy 55 = .ok (.iaload, 1) := by decide +kernel
theorem dX8_copy_56 : decode cX8_copy 56 = .ok (.if_icmp .eq 9, 3) := by decide +kernel
theorem dX8_copy_59 : decode cX8_copy 59 = .ok (.aload_n 0, 1) := by decide +kernel
theorem dX8_copy_60 : decode cX8_copy 60 = .ok (.iconst 2, 1) := by decide +kernel
theorem dX8_copy_61 : decode cX8_copy 61 = .ok (.invokevirtual 119, 3) := by decide +kernel
theorem dX8_copy_64 : decode cX8_copy 64 = .ok (.ireturn, 1) := by decide +kernel
theorem dX8_copy_65 : decode cX8_copy 65 = .ok (.iload 5, 2) := by decide +kernel
theorem dX8_copy_67 : decode cX8_copy 67 = .ok (.ifCond .lt 39, 3) := by decide +kernel
theorem dX8_copy_70 : decode cX8_copy 70 = .ok (.iload_n 2, 1) := by decide +kernel
theorem dX8_copy_71 : decode cX8_copy 71 = .ok (.ifCond .lt 35, 3) := by decide +kernel
theorem dX8_copy_74 : decode cX8_copy 74 = .ok (.iload 4, 2) := by decide +kernel
theorem dX8_copy_76 : decode cX8_copy 76 = .ok (.ifCond .lt 30, 3) := by decide +kernel
theorem dX8_copy_79 : decode cX8_copy 79 = .ok (.iload_n 2, 1) := by decide +kernel
theorem dX8_copy_80 : decode cX8_copy 80 = .ok (.aload_n 0, 1) := by decide +kernel
theorem dX8_copy_81 : decode cX8_copy 81 = .ok (.getfield 48, 3) := by decide +kernel
theorem dX8_copy_84 : decode cX8_copy 84 = .ok (.iload_n 1, 1) := by decide +kernel
theorem dX8_copy_85 : decode cX8_copy 85 = .ok (.iaload, 1) := by decide +kernel
theorem dX8_copy_86 : decode cX8_copy 86 = .ok (.iload 5, 2) := by decide +kernel
theorem dX8_copy_88 : decode cX8_copy 88 = .ok (.isub, 1) := by decide +kernel
theorem dX8_copy_89 : decode cX8_copy 89 = .ok (.if_icmp .gt 17, 3) := by decide +kernel
theorem dX8_copy_92 : decode cX8_copy 92 = .ok (.iload 4, 2) := by decide +kernel
theorem dX8_copy_94 : decode cX8_copy 94 = .ok (.aload_n 0, 1) := by decide +kernel
theorem dX8_copy_95 : decode cX8_copy 95 = .ok (.getfield 48, 3) := by decide +kernel
theorem dX8_copy_98 : decode cX8_copy 98 = .ok (.iload_n 3, 1) := by decide +kernel
theorem dX8_copy_99 : decode cX8_copy 99 = .ok (.iaload, 1) := by decide +kernel
theorem dX8_copy_100 : decode cX8_copy 100 = .ok (.iload 5, 2) := by decide +kernel
theorem dX8_copy_102 : decode cX8_copy 102 = .ok (.isub, 1) := by decide +kernel
theorem dX8_copy_103 : decode cX8_copy 103 = .ok (.if_icmp .le 9, 3) := by decide +kernel
theorem dX8_copy_106 : decode cX8_copy 106 = .ok (.aload_n 0, 1) := by decide +kernel
theorem dX8_copy_107 : decode cX8_copy 107 = .ok (.iconst 0, 1) := by decide +kernel
theorem dX8_copy_108 : decode cX8_copy 108 = .ok (.invokevirtual 119, 3) := by decide +kernel
theorem dX8_copy_111 : decode cX8_copy 111 = .ok (.ireturn, 1) := by decide +kernel
theorem dX8_copy_112 : decode cX8_copy 112 = .ok (.iconst 0, 1) := by decide +kernel
theorem dX8_copy_113 : decode cX8_copy 113 = .ok (.istore 6, 2) := by decide +kernel
theorem dX8_copy_115 : decode cX8_copy 115 = .ok (.iload 6, 2) := by decide +kernel
theorem dX8_copy_117 : decode cX8_copy 117 = .ok (.iload 5, 2) := by decide +kernel
theorem dX8_copy_119 : decode cX8_copy 119 = .ok (.if_icmp .ge 30, 3) := by decide +kernel
theorem dX8_copy_122 : decode cX8_copy 122 = .ok (.aload_n 0, 1) := by decide +kernel
theorem dX8_copy_123 : decode cX8_copy 123 = .ok (.getfield 54, 3) := by decide +kernel
theorem dX8_copy_126 : decode cX8_copy 126 = .ok (.iload 6, 2) := by decide +kernel
theorem dX8_copy_128 : decode cX8_copy 128 = .ok (.aload_n 0, 1) := by decide +kernel
theorem dX8_copy_129 : decode cX8_copy 129 = .ok (.getfield 51, 3) := by decide +kernel
theorem dX8_copy_132 : decode cX8_copy 132 = .ok (.bipush 40, 2) := by decide +kernel
theorem dX8_copy_134 : decode cX8_copy 134 = .ok (.iload_n 1, 1) := by decide +kernel
theorem dX8_copy_135 : decode cX8_copy 135 = .ok (.imul, 1) := by decide +kernel
theorem dX8_copy_136 : decode cX8_copy 136 = .ok (.iload_n 2, 1) := by decide +kernel
theorem dX8_copy_137 : decode cX8_copy 137 = .ok (.iadd, 1) := by decide +kernel
theorem dX8_copy_138 : decode cX8_copy 138 = .ok (.iload 6, 2) := by decide +kernel
theorem dX8_copy_140 : decode cX8_copy 140 = .ok (.iadd, 1) := by decide +kernel
theorem dX8_copy_141 : decode cX8_copy 141 = .ok (.iaload, 1) := by decide +kernel
theorem dX8_copy_142 : decode cX8_copy 142 = .ok (.iastore, 1) := by decide +kernel
theorem dX8_copy_143 : decode cX8_copy 143 = .ok (.iinc 6 1, 3) := by decide +kernel
theorem dX8_copy_146 : decode cX8_copy 146 = .ok (.goto (-31), 3) := by decide +kernel
theorem dX8_copy_149 : decode cX8_copy 149 = .ok (.iconst 0, 1) := by decide +kernel
theorem dX8_copy_150 : decode cX8_copy 150 = .ok (.istore 6, 2) := by decide +kernel
theorem dX8_copy_152 : decode cX8_copy 152 = .ok (.iload 6, 2) := by decide +kernel
theorem dX8_copy_154 : decode cX8_copy 154 = .ok (.iload 5, 2) := by decide +kernel
theorem dX8_copy_156 : decode cX8_copy 156 = .ok (.if_icmp .ge 31, 3) := by decide +kernel
theorem dX8_copy_159 : decode cX8_copy 159 = .ok (.aload_n 0, 1) := by decide +kernel
theorem dX8_copy_160 : decode cX8_copy 160 = .ok (.getfield 51, 3) := by decide +kernel
theorem dX8_copy_163 : decode cX8_copy 163 = .ok (.bipush 40, 2) := by decide +kernel
theorem dX8_copy_165 : decode cX8_copy 165 = .ok (.iload_n 3, 1) := by decide +kernel
theorem dX8_copy_166 : decode cX8_copy 166 = .ok (.imul, 1) := by decide +kernel
theorem dX8_copy_167 : decode cX8_copy 167 = .ok (.iload 4, 2) := by decide +kernel
theorem dX8_copy_169 : decode cX8_copy 169 = .ok (.iadd, 1) := by decide +kernel
theorem dX8_copy_170 : decode cX8_copy 170 = .ok (.iload 6, 2) := by decide +kernel
theorem dX8_copy_172 : decode cX8_copy 172 = .ok (.iadd, 1) := by decide +kernel
theorem dX8_copy_173 : decode cX8_copy 173 = .ok (.aload_n 0, 1) := by decide +kernel
theorem dX8_copy_174 : decode cX8_copy 174 = .ok (.getfield 54, 3) := by decide +kernel
theorem dX8_copy_177 : decode cX8_copy 177 = .ok (.iload 6, 2) := by decide +kernel
theorem dX8_copy_179 : decode cX8_copy 179 = .ok (.iaload, 1) := by decide +kernel
theorem dX8_copy_180 : decode cX8_copy 180 = .ok (.iastore, 1) := by decide +kernel
theorem dX8_copy_181 : decode cX8_copy 181 = .ok (.iinc 6 1, 3) := by decide +kernel
theorem dX8_copy_184 : decode cX8_copy 184 = .ok (.goto (-32), 3) := by decide +kernel
theorem dX8_copy_187 : decode cX8_copy 187 = .ok (.iload 5, 2) := by decide +kernel
theorem dX8_copy_189 : decode cX8_copy 189 = .ok (.ireturn, 1) := by decide +kernel
theorem dX8_load_0 : decode cX8_load 0 = .ok (.aload_n 0, 1) := by decide +kernel
theorem dX8_load_1 : decode cX8_load 1 = .ok (.iload_n 1, 1) := by decide +kernel
theorem dX8_load_2 : decode cX8_load 2 = .ok (.invokevirtual 188, 3) := by decide +kernel
theorem dX8_load_5 : decode cX8_load 5 = .ok (.istore_n 2, 1) := by decide +kernel
theorem dX8_load_6 : decode cX8_load 6 = .ok (.iload_n 2, 1) := by decide +kernel
theorem dX8_load_7 : decode cX8_load 7 = .ok (.ifCond .lt 9, 3) := by decide +kernel
theorem dX8_load_10 : decode cX8_load 10 = .ok (.aload_n 0, 1) := by decide +kernel
theorem dX8_load_11 : decode cX8_load 11 = .ok (.iload_n 2, 1) := by decide +kernel
theorem dX8_load_12 : decode cX8_load 12 = .ok (.invokevirtual 119, 3) := by decide +kernel
theorem dX8_load_15 : decode cX8_load 15 = .ok (.ireturn, 1) := by decide +kernel
theorem dX8_load_16 : decode cX8_load 16 = .ok (.iconst 0, 1) := by decide +kernel
theorem dX8_load_17 : decode cX8_load 17 = .ok (.istore_n 3, 1) := by decide +kernel
theorem dX8_load_18 : decode cX8_load 18 = .ok (.iload_n 3, 1) := by decide +kernel
theorem dX8_load_19 : decode cX8_load 19 = .ok (.aload_n 0, 1) := by decide +kernel
theorem dX8_load_20 : decode cX8_load 20 = .ok (.getfield 48, 3) := by decide +kernel
theorem dX8_load_23 : decode cX8_load 23 = .ok (.iload_n 1, 1) := by decide +kernel
theorem dX8_load_24 : decode cX8_load 24 = .ok (.iaload, 1) := by decide +kernel
theorem dX8_load_25 : decode cX8_load 25 = .ok (.if_icmp .ge 61, 3) := by decide +kernel
theorem dX8_load_28 : decode cX8_load 28 = .ok (.iload_n 3, 1) := by decide +kernel
theorem dX8_load_29 : decode cX8_load 29 = .ok (.invokestatic 128, 3) := by decide +kernel
theorem dX8_load_32 : decode cX8_load 32 = .ok (.ifCond .eq 54, 3) := by decide +kernel
theorem dX8_load_35 : decode cX8_load 35 = .ok (.aload_n 0, 1) := by decide +kernel
theorem dX8_load_36 : decode cX8_load 36 = .ok (.getfield 51, 3) := by decide +kernel
theorem dX8_load_39 : decode cX8_load 39 = .ok (.bipush 40, 2) := by decide +kernel
theorem dX8_load_41 : decode cX8_load 41 = .ok (.iload_n 1, 1) := by decide +kernel
theorem dX8_load_42 : decode cX8_load 42 = .ok (.imul, 1) := by decide +kernel
theorem dX8_load_43 : decode cX8_load 43 = .ok (.iload_n 3, 1) := by decide +kernel
theorem dX8_load_44 : decode cX8_load 44 = .ok (.iadd, 1) := by decide +kernel
theorem dX8_load_45 : decode cX8_load 45 = .ok (.iaload, 1) := by decide +kernel
theorem dX8_load_46 : decode cX8_load 46 = .ok (.iconst 0, 1) := by decide +kernel
theorem dX8_load_47 : decode cX8_load 47 = .ok (.sipush 999, 3) := by decide +kernel
theorem dX8_load_50 : decode cX8_load 50 = .ok (.invokestatic 59, 3) := by decide +kernel
theorem dX8_load_53 : decode cX8_load 53 = .ok (.ifCond .eq 33, 3) := by decide +kernel
theorem dX8_load_56 : decode cX8_load 56 = .ok (.aload_n 0, 1) := by decide +kernel
theorem dX8_load_57 : decode cX8_load 57 = .ok (.getfield 9, 3) := by decide +kernel
theorem dX8_load_60 : decode cX8_load 60 = .ok (.bipush 59, 2) := by decide +kernel
theorem dX8_load_62 : decode cX8_load 62 = .ok (.iconst 4, 1) := by decide +kernel
theorem dX8_load_63 : decode cX8_load 63 = .ok (.iload_n 3, 1) := by decide +kernel
theorem dX8_load_64 : decode cX8_load 64 = .ok (.imul, 1) := by decide +kernel
theorem dX8_load_65 : decode cX8_load 65 = .ok (.iadd, 1) := by decide +kernel
theorem dX8_load_66 : decode cX8_load 66 = .ok (.iconst 0, 1) := by decide +kernel
theorem dX8_load_67 : decode cX8_load 67 = .ok (.iadd, 1) := by decide +kernel
theorem dX8_load_68 : decode cX8_load 68 = .ok (.aload_n 0, 1) := by decide +kernel
theorem dX8_load_69 : decode cX8_load 69 = .ok (.getfield 51, 3) := by decide +kernel
theorem dX8_load_72 : decode cX8_load 72 = .ok (.bipush 40, 2) := by decide +kernel
theorem dX8_load_74 : decode cX8_load 74 = .ok (.iload_n 1, 1) := by decide +kernel
theorem dX8_load_75 : decode cX8_load 75 = .ok (.imul, 1) := by decide +kernel
theorem dX8_load_76 : decode cX8_load 76 = .ok (.iload_n 3, 1) := by decide +kernel
theorem dX8_load_77 : decode cX8_load 77 = .ok (.iadd, 1) := by decide +kernel
theorem dX8_load_78 : decode cX8_load 78 = .ok (.iaload, 1) := by decide +kernel
theorem dX8_load_79 : decode cX8_load 79 = .ok (.iastore, 1) := by decide +kernel
theorem dX8_load_80 : decode cX8_load 80 = .ok (.iinc 3 1, 3) := by decide +kernel
theorem dX8_load_83 : decode cX8_load 83 = .ok (.goto (-65), 3) := by decide +kernel
theorem dX8_load_86 : decode cX8_load 86 = .ok (.iload_n 3, 1) := by decide +kernel
theorem dX8_load_87 : decode cX8_load 87 = .ok (.ireturn, 1) := by decide +kernel
theorem dX8_judge_0 : decode cX8_judge 0 = .ok (.aload_n 0, 1) := by decide +kernel
theorem dX8_judge_1 : decode cX8_judge 1 = .ok (.iload_n 1, 1) := by decide +kernel
theorem dX8_judge_2 : decode cX8_judge 2 = .ok (.invokevirtual 188, 3) := by decide +kernel
theorem dX8_judge_5 : decode cX8_judge 5 = .ok (.istore_n 2, 1) := by decide +kernel
theorem dX8_judge_6 : decode cX8_judge 6 = .ok (.iload_n 2, 1) := by decide +kernel
theorem dX8_judge_7 : decode cX8_judge 7 = .ok (.ifCond .lt 9, 3) := by decide +kernel
theorem dX8_judge_10 : decode cX8_judge 10 = .ok (.aload_n 0, 1) := by decide +kernel
theorem dX8_judge_11 : decode cX8_judge 11 = .ok (.iload_n 2, 1) := by decide +kernel
theorem dX8_judge_12 : decode cX8_judge 12 = .ok (.invokevirtual 119, 3) := by decide +kernel
theorem dX8_judge_15 : decode cX8_judge 15 = .ok (.ireturn, 1) := by decide +kernel
theorem dX8_judge_16 : decode cX8_judge 16 = .ok (.iconst 0, 1) := by decide +kernel
theorem dX8_judge_17 : decode cX8_judge 17 = .ok (.istore_n 3, 1) := by decide +kernel
theorem dX8_judge_18 : decode cX8_judge 18 = .ok (.iconst 0, 1) := by decide +kernel
theorem dX8_judge_19 : decode cX8_judge 19 = .ok (.istore 4, 2) := by decide +kernel
theorem dX8_judge_21 : decode cX8_judge 21 = .ok (.iconst 0, 1) := by decide +kernel
theorem dX8_judge_22 : decode cX8_judge 22 = .ok (.istore 5, 2) := by decide +kernel
theorem dX8_judge_24 : decode cX8_judge 24 = .ok (.iload 5, 2) := by decide +kernel
theorem dX8_judge_26 : decode cX8_judge 26 = .ok (.aload_n 0, 1) := by decide +kernel
theorem dX8_judge_27 : decode cX8_judge 27 = .ok (.getfield 48, 3) := by decide +kernel
theorem dX8_judge_30 : decode cX8_judge 30 = .ok (.iload_n 1, 1) := by decide +kernel
theorem dX8_judge_31 : decode cX8_judge 31 = .ok (.iaload, 1) := by decide +kernel
theorem dX8_judge_32 : decode cX8_judge 32 = .ok (.if_icmp .ge 77, 3) := by decide +kernel
theorem dX8_judge_35 : decode cX8_judge 35 = .ok (.aload_n 0, 1) := by decide +kernel
theorem dX8_judge_36 : decode cX8_judge 36 = .ok (.getfield 51, 3) := by decide +kernel
theorem dX8_judge_39 : decode cX8_judge 39 = .ok (.bipush 40, 2) := by decide +kernel
theorem dX8_judge_41 : decode cX8_judge 41 = .ok (.iload_n 1, 1) := by decide +kernel
theorem dX8_judge_42 : decode cX8_judge 42 = .ok (.imul, 1) := by decide +kernel
theorem dX8_judge_43 : decode cX8_judge 43 = .ok (.iload 5, 2) := by decide +kernel
theorem dX8_judge_45 : decode cX8_judge 45 = .ok (.iadd, 1) := by decide +kernel
theorem dX8_judge_46 : decode cX8_judge 46 = .ok (.iaload, 1) := by decide +kernel
theorem dX8_judge_47 : decode cX8_judge 47 = .ok (.istore 6, 2) := by decide +kernel
theorem dX8_judge_49 : decode cX8_judge 49 = .ok (.aload_n 0, 1) := by decide +kernel
theorem dX8_judge_50 : decode cX8_judge 50 = .ok (.iload 6, 2) := by decide +kernel
theorem dX8_judge_52 : decode cX8_judge 52 = .ok (.invokevirtual 122, 3) := by decide +kernel
theorem dX8_judge_55 : decode cX8_judge 55 = .ok (.ifCond .eq 32, 3) := by decide +kernel
theorem dX8_judge_58 : decode cX8_judge 58 = .ok (.iload_n 3, 1) := by decide +kernel
theorem dX8_judge_59 : decode cX8_judge 59 = .ok (.iload 6, 2) := by decide +kernel
theorem dX8_judge_61 : decode cX8_judge 61 = .ok (.invokestatic 88, 3) := by decide +kernel
theorem dX8_judge_64 : decode cX8_judge 64 = .ok (.ifCond .ne 23, 3) := by decide +kernel
theorem dX8_judge_67 : decode cX8_judge 67 = .ok (.iload 5, 2) := by decide +kernel
theorem dX8_judge_69 : decode cX8_judge 69 = .ok (.ifCond .le 23, 3) := by decide +kernel
theorem dX8_judge_72 : decode cX8_judge 72 = .ok (.aload_n 0, 1) := by decide +kernel
theorem dX8_judge_73 : decode cX8_judge 73 = .ok (.iload 6, 2) := by decide +kernel
theorem dX8_judge_75 : decode cX8_judge 75 = .ok (.invokevirtual 92, 3) := by decide +kernel
theorem dX8_judge_78 : decode cX8_judge 78 = .ok (.aload_n 0, 1) := by decide +kernel
theorem dX8_judge_79 : decode cX8_judge 79 = .ok (.iload 4, 2) := by decide +kernel
theorem dX8_judge_81 : decode cX8_judge 81 = .ok (.invokevirtual 92, 3) := by decide +kernel
theorem dX8_judge_84 : decode cX8_judge 84 = .ok (.if_icmp .le 8, 3) := by decide +kernel
theorem dX8_judge_87 : decode cX8_judge 87 = .ok (.iconst 1, 1) := by decide +kernel
theorem dX8_judge_88 : decode cX8_judge 88 = .ok (.iload 5, 2) := by decide +kernel
theorem dX8_judge_90 : decode cX8_judge 90 = .ok (.iadd, 1) := by decide +kernel
theorem dX8_judge_91 : decode cX8_judge 91 = .ok (.ireturn, 1) := by decide +kernel
theorem dX8_judge_92 : decode cX8_judge 92 = .ok (.iload_n 3, 1) := by decide +kernel
theorem dX8_judge_93 : decode cX8_judge 93 = .ok (.iconst 1, 1) := by decide +kernel
theorem dX8_judge_94 : decode cX8_judge 94 = .ok (.iload 6, 2) := by decide +kernel
theorem dX8_judge_96 : decode cX8_judge 96 = .ok (.ishl, 1) := by decide +kernel
theorem dX8_judge_97 : decode cX8_judge 97 = .ok (.ior, 1) := by decide +kernel
theorem dX8_judge_98 : decode cX8_judge 98 = .ok (.istore_n 3, 1) := by decide +kernel
theorem dX8_judge_99 : decode cX8_judge 99 = .ok (.iload 6, 2) := by decide +kernel
theorem dX8_judge_101 : decode cX8_judge 101 = .ok (.istore 4, 2) := by decide +kernel
theorem dX8_judge_103 : decode cX8_judge 103 = .ok (.iinc 5 1, 3) := by decide +kernel
theorem dX8_judge_106 : decode cX8_judge 106 = .ok (.goto (-82), 3) := by decide +kernel
theorem dX8_judge_109 : decode cX8_judge 109 = .ok (.iconst 0, 1) := by decide +kernel
theorem dX8_judge_110 : decode cX8_judge 110 = .ok (.ireturn, 1) := by decide +kernel
theorem dX8_image_0 : decode cX8_image 0 = .ok (.iconst 0, 1) := by decide +kernel
theorem dX8_image_1 : decode cX8_image 1 = .ok (.istore_n 1, 1) := by decide +kernel
theorem dX8_image_2 : decode cX8_image 2 = .ok (.iload_n 1, 1) := by decide +kernel
theorem dX8_image_3 : decode cX8_image 3 = .ok (.bipush 93, 2) := by decide +kernel
theorem dX8_image_5 : decode cX8_image 5 = .ok (.if_icmp .ge 21, 3) := by decide +kernel
theorem dX8_image_8 : decode cX8_image 8 = .ok (.aload_n 0, 1) := by decide +kernel
theorem dX8_image_9 : decode cX8_image 9 = .ok (.getfield 13, 3) := by decide +kernel
theorem dX8_image_12 : decode cX8_image 12 = .ok (.iload_n 1, 1) := by decide +kernel
theorem dX8_image_13 : decode cX8_image 13 = .ok (.aload_n 0, 1) := by decide +kernel
theorem dX8_image_14 : decode cX8_image 14 = .ok (.getfield 9, 3) := by decide +kernel
theorem dX8_image_17 : decode cX8_image 17 = .ok (.iload_n 1, 1) := by decide +kernel
theorem dX8_image_18 : decode cX8_image 18 = .ok (.iaload, 1) := by decide +kernel
theorem dX8_image_19 : decode cX8_image 19 = .ok (.iastore, 1) := by decide +kernel
theorem dX8_image_20 : decode cX8_image 20 = .ok (.iinc 1 1, 3) := by decide +kernel
theorem dX8_image_23 : decode cX8_image 23 = .ok (.goto (-21), 3) := by decide +kernel
theorem dX8_image_26 : decode cX8_image 26 = .ok (.aload_n 0, 1) := by decide +kernel
theorem dX8_image_27 : decode cX8_image 27 = .ok (.iconst 1, 1) := by decide +kernel
theorem dX8_image_28 : decode cX8_image 28 = .ok (.putfield 269, 3) := by decide +kernel
theorem dX8_image_31 : decode cX8_image 31 = .ok (.iconst 1, 1) := by decide +kernel
theorem dX8_image_32 : decode cX8_image 32 = .ok (.ireturn, 1) := by decide +kernel
theorem dX8_undo_0 : decode cX8_undo 0 = .ok (.aload_n 0, 1) := by decide +kernel
theorem dX8_undo_1 : decode cX8_undo 1 = .ok (.getfield 269, 3) := by decide +kernel
theorem dX8_undo_4 : decode cX8_undo 4 = .ok (.ifCond .ne 9, 3) := by decide +kernel
theorem dX8_undo_7 : decode cX8_undo 7 = .ok (.aload_n 0, 1) := by decide +kernel
theorem dX8_undo_8 : decode cX8_undo 8 = .ok (.iconst 3, 1) := by decide +kernel
theorem dX8_undo_9 : decode cX8_undo 9 = .ok (.invokevirtual 119, 3) := by decide +kernel
theorem dX8_undo_12 : decode cX8_undo 12 = .ok (.ireturn, 1) := by decide +kernel
theorem dX8_undo_13 : decode cX8_undo 13 = .ok (.iconst 0, 1) := by decide +kernel
theorem dX8_undo_14 : decode cX8_undo 14 = .ok (.istore_n 1, 1) := by decide +kernel
theorem dX8_undo_15 : decode cX8_undo 15 = .ok (.iload_n 1, 1) := by decide +kernel
theorem dX8_undo_16 : decode cX8_undo 16 = .ok (.bipush 93, 2) := by decide +kernel
theorem dX8_undo_18 : decode cX8_undo 18 = .ok (.if_icmp .ge 21, 3) := by decide +kernel
theorem dX8_undo_21 : decode cX8_undo 21 = .ok (.aload_n 0, 1) := by decide +kernel
theorem dX8_undo_22 : decode cX8_undo 22 = .ok (.getfield 9, 3) := by decide +kernel
theorem dX8_undo_25 : decode cX8_undo 25 = .ok (.iload_n 1, 1) := by decide +kernel
theorem dX8_undo_26 : decode cX8_undo 26 = .ok (.aload_n 0, 1) := by decide +kernel
theorem dX8_undo_27 : decode cX8_undo 27 = .ok (.getfield 13, 3) := by decide +kernel
theorem dX8_undo_30 : decode cX8_undo 30 = .ok (.iload_n 1, 1) := by decide +kernel
theorem dX8_undo_31 : decode cX8_undo 31 = .ok (.iaload, 1) := by decide +kernel
theorem dX8_undo_32 : decode cX8_undo 32 = .ok (.iastore, 1) := by decide +kernel
theorem dX8_undo_33 : decode cX8_undo 33 = .ok (.iinc 1 1, 3) := by decide +kernel
theorem dX8_undo_36 : decode cX8_undo 36 = .ok (.goto (-21), 3) := by decide +kernel
theorem dX8_undo_39 : decode cX8_undo 39 = .ok (.aload_n 0, 1) := by decide +kernel
theorem dX8_undo_40 : decode cX8_undo 40 = .ok (.getfield 9, 3) := by decide +kernel
theorem dX8_undo_43 : decode cX8_undo 43 = .ok (.iconst 0, 1) := by decide +kernel
theorem dX8_undo_44 : decode cX8_undo 44 = .ok (.iaload, 1) := by decide +kernel
theorem dX8_undo_45 : decode cX8_undo 45 = .ok (.ireturn, 1) := by decide +kernel
theorem dX8_tear_0 : decode cX8_tear 0 = .ok (.aload_n 0, 1) := by decide +kernel
theorem dX8_tear_1 : decode cX8_tear 1 = .ok (.getfield 269, 3) := by decide +kernel
theorem dX8_tear_4 : decode cX8_tear 4 = .ok (.ifCond .eq 7, 3) := by decide +kernel
theorem dX8_tear_7 : decode cX8_tear 7 = .ok (.iconst 1, 1) := by decide +kernel
theorem dX8_tear_8 : decode cX8_tear 8 = .ok (.goto 4, 3) := by decide +kernel
theorem dX8_tear_11 : decode cX8_tear 11 = .ok (.iconst 0, 1) := by decide +kernel
theorem dX8_tear_12 : decode cX8_tear 12 = .ok (.istore_n 1, 1) := by decide +kernel
theorem dX8_tear_13 : decode cX8_tear 13 = .ok (.aload_n 0, 1) := by decide +kernel
theorem dX8_tear_14 : decode cX8_tear 14 = .ok (.iconst 0, 1) := by decide +kernel
theorem dX8_tear_15 : decode cX8_tear 15 = .ok (.putfield 269, 3) := by decide +kernel
theorem dX8_tear_18 : decode cX8_tear 18 = .ok (.iload_n 1, 1) := by decide +kernel
theorem dX8_tear_19 : decode cX8_tear 19 = .ok (.ireturn, 1) := by decide +kernel
theorem dX8_count_0 : decode cX8_count 0 = .ok (.iconst 0, 1) := by decide +kernel
theorem dX8_count_1 : decode cX8_count 1 = .ok (.istore_n 2, 1) := by decide +kernel
theorem dX8_count_2 : decode cX8_count 2 = .ok (.iload_n 1, 1) := by decide +kernel
theorem dX8_count_3 : decode cX8_count 3 = .ok (.tableswitch 128 0 7 #[45, 52, 60, 68, 75, 80, 85, 92], 45) := by decide +kernel
theorem dX8_count_48 : decode cX8_count 48 = .ok (.aload_n 0, 1) := by decide +kernel
theorem dX8_count_49 : decode cX8_count 49 = .ok (.getfield 9, 3) := by decide +kernel
theorem dX8_count_52 : decode cX8_count 52 = .ok (.iconst 0, 1) := by decide +kernel
theorem dX8_count_53 : decode cX8_count 53 = .ok (.iaload, 1) := by decide +kernel
theorem dX8_count_54 : decode cX8_count 54 = .ok (.ireturn, 1) := by decide +kernel
theorem dX8_count_55 : decode cX8_count 55 = .ok (.aload_n 0, 1) := by decide +kernel
theorem dX8_count_56 : decode cX8_count 56 = .ok (.invokevirtual 95, 3) := by decide +kernel
theorem dX8_count_59 : decode cX8_count 59 = .ok (.invokestatic 143, 3) := by decide +kernel
theorem dX8_count_62 : decode cX8_count 62 = .ok (.ireturn, 1) := by decide +kernel
theorem dX8_count_63 : decode cX8_count 63 = .ok (.aload_n 0, 1) := by decide +kernel
theorem dX8_count_64 : decode cX8_count 64 = .ok (.invokevirtual 149, 3) := by decide +kernel
theorem dX8_count_67 : decode cX8_count 67 = .ok (.invokestatic 143, 3) := by decide +kernel
theorem dX8_count_70 : decode cX8_count 70 = .ok (.ireturn, 1) := by decide +kernel
theorem dX8_count_71 : decode cX8_count 71 = .ok (.aload_n 0, 1) := by decide +kernel
theorem dX8_count_72 : decode cX8_count 72 = .ok (.getfield 9, 3) := by decide +kernel
theorem dX8_count_75 : decode cX8_count 75 = .ok (.iconst 1, 1) := by decide +kernel
theorem dX8_count_76 : decode cX8_count 76 = .ok (.iaload, 1) := by decide +kernel
theorem dX8_count_77 : decode cX8_count 77 = .ok (.ireturn, 1) := by decide +kernel
theorem dX8_count_78 : decode cX8_count 78 = .ok (.aload_n 0, 1) := by decide +kernel
theorem dX8_count_79 : decode cX8_count 79 = .ok (.invokevirtual 146, 3) := by decide +kernel
theorem dX8_count_82 : decode cX8_count 82 = .ok (.ireturn, 1) := by decide +kernel
theorem dX8_count_83 : decode cX8_count 83 = .ok (.aload_n 0, 1) := by decide +kernel
theorem dX8_count_84 : decode cX8_count 84 = .ok (.getfield 205, 3) := by decide +kernel
theorem dX8_count_87 : decode cX8_count 87 = .ok (.ireturn, 1) := by decide +kernel
theorem dX8_count_88 : decode cX8_count 88 = .ok (.aload_n 0, 1) := by decide +kernel
theorem dX8_count_89 : decode cX8_count 89 = .ok (.getfield 9, 3) := by decide +kernel
theorem dX8_count_92 : decode cX8_count 92 = .ok (.iconst 2, 1) := by decide +kernel
theorem dX8_count_93 : decode cX8_count 93 = .ok (.iaload, 1) := by decide +kernel
theorem dX8_count_94 : decode cX8_count 94 = .ok (.ireturn, 1) := by decide +kernel
theorem dX8_count_95 : decode cX8_count 95 = .ok (.iconst 0, 1) := by decide +kernel
theorem dX8_count_96 : decode cX8_count 96 = .ok (.istore_n 3, 1) := by decide +kernel
theorem dX8_count_97 : decode cX8_count 97 = .ok (.iload_n 3, 1) := by decide +kernel
theorem dX8_count_98 : decode cX8_count 98 = .ok (.bipush 10, 2) := by decide +kernel
theorem dX8_count_100 : decode cX8_count 100 = .ok (.if_icmp .ge 29, 3) := by decide +kernel
theorem dX8_count_103 : decode cX8_count 103 = .ok (.iload_n 2, 1) := by decide +kernel
theorem dX8_count_104 : decode cX8_count 104 = .ok (.aload_n 0, 1) := by decide +kernel
theorem dX8_count_105 : decode cX8_count 105 = .ok (.getfield 9, 3) := by decide +kernel
theorem dX8_count_108 : decode cX8_count 108 = .ok (.bipush 83, 2) := by decide +kernel
theorem dX8_count_110 : decode cX8_count 110 = .ok (.iload_n 3, 1) := by decide +kernel
theorem dX8_count_111 : decode cX8_count 111 = .ok (.iadd, 1) := by decide +kernel
theorem dX8_count_112 : decode cX8_count 112 = .ok (.iaload, 1) := by decide +kernel
theorem dX8_count_113 : decode cX8_count 113 = .ok (.ifCond .lt 7, 3) := by decide +kernel
theorem dX8_count_116 : decode cX8_count 116 = .ok (.iconst 1, 1) := by decide +kernel
theorem dX8_count_117 : decode cX8_count 117 = .ok (.goto 4, 3) := by decide +kernel
theorem dX8_count_120 : decode cX8_count 120 = .ok (.iconst 0, 1) := by decide +kernel
theorem dX8_count_121 : decode cX8_count 121 = .ok (.iadd, 1) := by decide +kernel
theorem dX8_count_122 : decode cX8_count 122 = .ok (.istore_n 2, 1) := by decide +kernel
theorem dX8_count_123 : decode cX8_count 123 = .ok (.iinc 3 1, 3) := by decide +kernel
theorem dX8_count_126 : decode cX8_count 126 = .ok (.goto (-29), 3) := by decide +kernel
theorem dX8_count_129 : decode cX8_count 129 = .ok (.iload_n 2, 1) := by decide +kernel
theorem dX8_count_130 : decode cX8_count 130 = .ok (.ireturn, 1) := by decide +kernel
theorem dX8_count_131 : decode cX8_count 131 = .ok (.aload_n 0, 1) := by decide +kernel
theorem dX8_count_132 : decode cX8_count 132 = .ok (.iconst 0, 1) := by decide +kernel
theorem dX8_count_133 : decode cX8_count 133 = .ok (.invokevirtual 119, 3) := by decide +kernel
theorem dX8_count_136 : decode cX8_count 136 = .ok (.ireturn, 1) := by decide +kernel
theorem dX8_status_0 : decode cX8_status 0 = .ok (.iload_n 1, 1) := by decide +kernel
theorem dX8_status_1 : decode cX8_status 1 = .ok (.iconst (-1), 1) := by decide +kernel
theorem dX8_status_2 : decode cX8_status 2 = .ok (.bipush 6, 2) := by decide +kernel
theorem dX8_status_4 : decode cX8_status 4 = .ok (.invokestatic 59, 3) := by decide +kernel
theorem dX8_status_7 : decode cX8_status 7 = .ok (.ifCond .ne 9, 3) := by decide +kernel
theorem dX8_status_10 : decode cX8_status 10 = .ok (.aload_n 0, 1) := by decide +kernel
theorem dX8_status_11 : decode cX8_status 11 = .ok (.iconst 0, 1) := by decide +kernel
theorem dX8_status_12 : decode cX8_status 12 = .ok (.invokevirtual 119, 3) := by decide +kernel
theorem dX8_status_15 : decode cX8_status 15 = .ok (.ireturn, 1) := by decide +kernel
theorem dX8_status_16 : decode cX8_status 16 = .ok (.iconst 0, 1) := by decide +kernel
theorem dX8_status_17 : decode cX8_status 17 = .ok (.istore_n 2, 1) := by decide +kernel
theorem dX8_status_18 : decode cX8_status 18 = .ok (.iconst 0, 1) := by decide +kernel
theorem dX8_status_19 : decode cX8_status 19 = .ok (.istore_n 3, 1) := by decide +kernel
theorem dX8_status_20 : decode cX8_status 20 = .ok (.iload_n 3, 1) := by decide +kernel
theorem dX8_status_21 : decode cX8_status 21 = .ok (.bipush 7, 2) := by decide +kernel
theorem dX8_status_23 : decode cX8_status 23 = .ok (.if_icmp .ge 32, 3) := by decide +kernel
theorem dX8_status_26 : decode cX8_status 26 = .ok (.iload_n 2, 1) := by decide +kernel
theorem dX8_status_27 : decode cX8_status 27 = .ok (.iload_n 1, 1) := by decide +kernel
theorem dX8_status_28 : decode cX8_status 28 = .ok (.iconst (-1), 1) := by decide +kernel
theorem dX8_status_29 : decode cX8_status 29 = .ok (.if_icmp .eq 8, 3) := by decide +kernel
theorem dX8_status_32 : decode cX8_status 32 = .ok (.iload_n 1, 1) := by decide +kernel
theorem dX8_status_33 : decode cX8_status 33 = .ok (.iload_n 3, 1) := by decide +kernel
theorem dX8_status_34 : decode cX8_status 34 = .ok (.if_icmp .ne 12, 3) := by decide +kernel
theorem dX8_status_37 : decode cX8_status 37 = .ok (.aload_n 0, 1) := by decide +kernel
theorem dX8_status_38 : decode cX8_status 38 = .ok (.getfield 19, 3) := by decide +kernel
theorem dX8_status_41 : decode cX8_status 41 = .ok (.iload_n 3, 1) := by decide +kernel
theorem dX8_status_42 : decode cX8_status 42 = .ok (.iaload, 1) := by decide +kernel
theorem dX8_status_43 : decode cX8_status 43 = .ok (.goto 4, 3) := by decide +kernel
theorem dX8_status_46 : decode cX8_status 46 = .ok (.iconst 0, 1) := by decide +kernel
theorem dX8_status_47 : decode cX8_status 47 = .ok (.iadd, 1) := by decide +kernel
theorem dX8_status_48 : decode cX8_status 48 = .ok (.istore_n 2, 1) := by decide +kernel
theorem dX8_status_49 : decode cX8_status 49 = .ok (.iinc 3 1, 3) := by decide +kernel
theorem dX8_status_52 : decode cX8_status 52 = .ok (.goto (-32), 3) := by decide +kernel
theorem dX8_status_55 : decode cX8_status 55 = .ok (.iload_n 2, 1) := by decide +kernel
theorem dX8_status_56 : decode cX8_status 56 = .ok (.ireturn, 1) := by decide +kernel
end
section
theorem dL_law_0 : decode cL_law 0 = .ok (.new 7, 3) := by decide +kernel
theorem dL_law_3 : decode cL_law 3 = .ok (.dup, 1) := by decide +kernel
theorem dL_law_4 : decode cL_law 4 = .ok (.invokespecial 9, 3) := by decide +kernel
theorem dL_law_7 : decode cL_law 7 = .ok (.astore_n 1, 1) := by decide +kernel
theorem dL_law_8 : decode cL_law 8 = .ok (.new 10, 3) := by decide +kernel
theorem dL_law_11 : decode cL_law 11 = .ok (.dup, 1) := by decide +kernel
theorem dL_law_12 : decode cL_law 12 = .ok (.invokespecial 12, 3) := by decide +kernel
theorem dL_law_15 : decode cL_law 15 = .ok (.astore_n 2, 1) := by decide +kernel
theorem dL_law_16 : decode cL_law 16 = .ok (.iconst 0, 1) := by decide +kernel
theorem dL_law_17 : decode cL_law 17 = .ok (.istore_n 3, 1) := by decide +kernel
theorem dL_law_18 : decode cL_law 18 = .ok (.iload_n 3, 1) := by decide +kernel
theorem dL_law_19 : decode cL_law 19 = .ok (.aload_n 0, 1) := by decide +kernel
theorem dL_law_20 : decode cL_law 20 = .ok (.arraylength, 1) := by decide +kernel
theorem dL_law_21 : decode cL_law 21 = .ok (.bipush 6, 2) := by decide +kernel
theorem dL_law_23 : decode cL_law 23 = .ok (.isub, 1) := by decide +kernel
theorem dL_law_24 : decode cL_law 24 = .ok (.if_icmp .gt 1507, 3) := by decide +kernel
theorem dL_law_27 : decode cL_law 27 = .ok (.aload_n 0, 1) := by decide +kernel
theorem dL_law_28 : decode cL_law 28 = .ok (.iload_n 3, 1) := by decide +kernel
theorem dL_law_29 : decode cL_law 29 = .ok (.iaload, 1) := by decide +kernel
theorem dL_law_30 : decode cL_law 30 = .ok (.bipush 63, 2) := by decide +kernel
theorem dL_law_32 : decode cL_law 32 = .ok (.iand, 1) := by decide +kernel
theorem dL_law_33 : decode cL_law 33 = .ok (.tableswitch 1492 0 47 #[207, 250, 283, 326, 369, 412, 445, 478, 511, 534, 557, 580, 603, 626, 649, 672, 695, 728, 761, 784, 807, 820, 833, 856, 879, 892, 905, 918, 941, 974, 1007, 1030, 1064, 1087, 1120, 1133, 1146, 1179, 1212, 1255, 1298, 1361, 1384, 1407, 1420, 1433, 1446, 1469], 207) := by decide +kernel
theorem dL_law_240 : decode cL_law 240 = .ok (.aload_n 1, 1) := by decide +kernel
theorem dL_law_241 : decode cL_law 241 = .ok (.aload_n 0, 1) := by decide +kernel
theorem dL_law_242 : decode cL_law 242 = .ok (.iload_n 3, 1) := by decide +kernel
theorem dL_law_243 : decode cL_law 243 = .ok (.iconst 1, 1) := by decide +kernel
theorem dL_law_244 : decode cL_law 244 = .ok (.iadd, 1) := by decide +kernel
theorem dL_law_245 : decode cL_law 245 = .ok (.iaload, 1) := by decide +kernel
theorem dL_law_246 : decode cL_law 246 = .ok (.aload_n 0, 1) := by decide +kernel
theorem dL_law_247 : decode cL_law 247 = .ok (.iload_n 3, 1) := by decide +kernel
theorem dL_law_248 : decode cL_law 248 = .ok (.iconst 2, 1) := by decide +kernel
theorem dL_law_249 : decode cL_law 249 = .ok (.iadd, 1) := by decide +kernel
theorem dL_law_250 : decode cL_law 250 = .ok (.iaload, 1) := by decide +kernel
theorem dL_law_251 : decode cL_law 251 = .ok (.aload_n 0, 1) := by decide +kernel
theorem dL_law_252 : decode cL_law 252 = .ok (.iload_n 3, 1) := by decide +kernel
theorem dL_law_253 : decode cL_law 253 = .ok (.iconst 3, 1) := by decide +kernel
theorem dL_law_254 : decode cL_law 254 = .ok (.iadd, 1) := by decide +kernel
theorem dL_law_255 : decode cL_law 255 = .ok (.iaload, 1) := by decide +kernel
theorem dL_law_256 : decode cL_law 256 = .ok (.invokevirtual 13, 3) := by decide +kernel
theorem dL_law_259 : decode cL_law 259 = .ok (.aload_n 2, 1) := by decide +kernel
theorem dL_law_260 : decode cL_law 260 = .ok (.aload_n 0, 1) := by decide +kernel
theorem dL_law_261 : decode cL_law 261 = .ok (.iload_n 3, 1) := by decide +kernel
theorem dL_law_262 : decode cL_law 262 = .ok (.iconst 1, 1) := by decide +kernel
theorem dL_law_263 : decode cL_law 263 = .ok (.iadd, 1) := by decide +kernel
theorem dL_law_264 : decode cL_law 264 = .ok (.iaload, 1) := by decide +kernel
theorem dL_law_265 : decode cL_law 265 = .ok (.aload_n 0, 1) := by decide +kernel
theorem dL_law_266 : decode cL_law 266 = .ok (.iload_n 3, 1) := by decide +kernel
theorem dL_law_267 : decode cL_law 267 = .ok (.iconst 2, 1) := by decide +kernel
theorem dL_law_268 : decode cL_law 268 = .ok (.iadd, 1) := by decide +kernel
theorem dL_law_269 : decode cL_law 269 = .ok (.iaload, 1) := by decide +kernel
theorem dL_law_270 : decode cL_law 270 = .ok (.aload_n 0, 1) := by decide +kernel
theorem dL_law_271 : decode cL_law 271 = .ok (.iload_n 3, 1) := by decide +kernel
theorem dL_law_272 : decode cL_law 272 = .ok (.iconst 3, 1) := by decide +kernel
theorem dL_law_273 : decode cL_law 273 = .ok (.iadd, 1) := by decide +kernel
theorem dL_law_274 : decode cL_law 274 = .ok (.iaload, 1) := by decide +kernel
theorem dL_law_275 : decode cL_law 275 = .ok (.invokevirtual 17, 3) := by decide +kernel
theorem dL_law_278 : decode cL_law 278 = .ok (.if_icmp .eq 1247, 3) := by decide +kernel
theorem dL_law_281 : decode cL_law 281 = .ok (.iconst 0, 1) := by decide +kernel
theorem dL_law_282 : decode cL_law 282 = .ok (.ireturn, 1) := by decide +kernel
theorem dL_law_283 : decode cL_law 283 = .ok (.aload_n 1, 1) := by decide +kernel
theorem dL_law_284 : decode cL_law 284 = .ok (.aload_n 0, 1) := by decide +kernel
theorem dL_law_285 : decode cL_law 285 = .ok (.iload_n 3, 1) := by decide +kernel
theorem dL_law_286 : decode cL_law 286 = .ok (.iconst 1, 1) := by decide +kernel
theorem dL_law_287 : decode cL_law 287 = .ok (.iadd, 1) := by decide +kernel
theorem dL_law_288 : decode cL_law 288 = .ok (.iaload, 1) := by decide +kernel
theorem dL_law_289 : decode cL_law 289 = .ok (.aload_n 0, 1) := by decide +kernel
theorem dL_law_290 : decode cL_law 290 = .ok (.iload_n 3, 1) := by decide +kernel
theorem dL_law_291 : decode cL_law 291 = .ok (.iconst 2, 1) := by decide +kernel
theorem dL_law_292 : decode cL_law 292 = .ok (.iadd, 1) := by decide +kernel
theorem dL_law_293 : decode cL_law 293 = .ok (.iaload, 1) := by decide +kernel
theorem dL_law_294 : decode cL_law 294 = .ok (.invokevirtual 18, 3) := by decide +kernel
theorem dL_law_297 : decode cL_law 297 = .ok (.aload_n 2, 1) := by decide +kernel
theorem dL_law_298 : decode cL_law 298 = .ok (.aload_n 0, 1) := by decide +kernel
theorem dL_law_299 : decode cL_law 299 = .ok (.iload_n 3, 1) := by decide +kernel
theorem dL_law_300 : decode cL_law 300 = .ok (.iconst 1, 1) := by decide +kernel
theorem dL_law_301 : decode cL_law 301 = .ok (.iadd, 1) := by decide +kernel
theorem dL_law_302 : decode cL_law 302 = .ok (.iaload, 1) := by decide +kernel
theorem dL_law_303 : decode cL_law 303 = .ok (.aload_n 0, 1) := by decide +kernel
theorem dL_law_304 : decode cL_law 304 = .ok (.iload_n 3, 1) := by decide +kernel
theorem dL_law_305 : decode cL_law 305 = .ok (.iconst 2, 1) := by decide +kernel
theorem dL_law_306 : decode cL_law 306 = .ok (.iadd, 1) := by decide +kernel
theorem dL_law_307 : decode cL_law 307 = .ok (.iaload, 1) := by decide +kernel
theorem dL_law_308 : decode cL_law 308 = .ok (.invokevirtual 22, 3) := by decide +kernel
theorem dL_law_311 : decode cL_law 311 = .ok (.if_icmp .eq 1214, 3) := by decide +kernel
theorem dL_law_314 : decode cL_law 314 = .ok (.iconst 0, 1) := by decide +kernel
theorem dL_law_315 : decode cL_law 315 = .ok (.ireturn, 1) := by decide +kernel
theorem dL_law_316 : decode cL_law 316 = .ok (.aload_n 1, 1) := by decide +kernel
theorem dL_law_317 : decode cL_law 317 = .ok (.aload_n 0, 1) := by decide +kernel
theorem dL_law_318 : decode cL_law 318 = .ok (.iload_n 3, 1) := by decide +kernel
theorem dL_law_319 : decode cL_law 319 = .ok (.iconst 1, 1) := by decide +kernel
theorem dL_law_320 : decode cL_law 320 = .ok (.iadd, 1) := by decide +kernel
theorem dL_law_321 : decode cL_law 321 = .ok (.iaload, 1) := by decide +kernel
theorem dL_law_322 : decode cL_law 322 = .ok (.aload_n 0, 1) := by decide +kernel
theorem dL_law_323 : decode cL_law 323 = .ok (.iload_n 3, 1) := by decide +kernel
theorem dL_law_324 : decode cL_law 324 = .ok (.iconst 2, 1) := by decide +kernel
theorem dL_law_325 : decode cL_law 325 = .ok (.iadd, 1) := by decide +kernel
theorem dL_law_326 : decode cL_law 326 = .ok (.iaload, 1) := by decide +kernel
theorem dL_law_327 : decode cL_law 327 = .ok (.aload_n 0, 1) := by decide +kernel
theorem dL_law_328 : decode cL_law 328 = .ok (.iload_n 3, 1) := by decide +kernel
theorem dL_law_329 : decode cL_law 329 = .ok (.iconst 3, 1) := by decide +kernel
theorem dL_law_330 : decode cL_law 330 = .ok (.iadd, 1) := by decide +kernel
theorem dL_law_331 : decode cL_law 331 = .ok (.iaload, 1) := by decide +kernel
theorem dL_law_332 : decode cL_law 332 = .ok (.invokevirtual 23, 3) := by decide +kernel
theorem dL_law_335 : decode cL_law 335 = .ok (.aload_n 2, 1) := by decide +kernel
theorem dL_law_336 : decode cL_law 336 = .ok (.aload_n 0, 1) := by decide +kernel
theorem dL_law_337 : decode cL_law 337 = .ok (.iload_n 3, 1) := by decide +kernel
theorem dL_law_338 : decode cL_law 338 = .ok (.iconst 1, 1) := by decide +kernel
theorem dL_law_339 : decode cL_law 339 = .ok (.iadd, 1) := by decide +kernel
theorem dL_law_340 : decode cL_law 340 = .ok (.iaload, 1) := by decide +kernel
theorem dL_law_341 : decode cL_law 341 = .ok (.aload_n 0, 1) := by decide +kernel
theorem dL_law_342 : decode cL_law 342 = .ok (.iload_n 3, 1) := by decide +kernel
theorem dL_law_343 : decode cL_law 343 = .ok (.iconst 2, 1) := by decide +kernel
theorem dL_law_344 : decode cL_law 344 = .ok (.iadd, 1) := by decide +kernel
theorem dL_law_345 : decode cL_law 345 = .ok (.iaload, 1) := by decide +kernel
theorem dL_law_346 : decode cL_law 346 = .ok (.aload_n 0, 1) := by decide +kernel
theorem dL_law_347 : decode cL_law 347 = .ok (.iload_n 3, 1) := by decide +kernel
theorem dL_law_348 : decode cL_law 348 = .ok (.iconst 3, 1) := by decide +kernel
theorem dL_law_349 : decode cL_law 349 = .ok (.iadd, 1) := by decide +kernel
theorem dL_law_350 : decode cL_law 350 = .ok (.iaload, 1) := by decide +kernel
theorem dL_law_351 : decode cL_law 351 = .ok (.invokevirtual 26, 3) := by decide +kernel
theorem dL_law_354 : decode cL_law 354 = .ok (.if_icmp .eq 1171, 3) := by decide +kernel
theorem dL_law_357 : decode cL_law 357 = .ok (.iconst 0, 1) := by decide +kernel
theorem dL_law_358 : decode cL_law 358 = .ok (.ireturn, 1) := by decide +kernel
theorem dL_law_359 : decode cL_law 359 = .ok (.aload_n 1, 1) := by decide +kernel
theorem dL_law_360 : decode cL_law 360 = .ok (.aload_n 0, 1) := by decide +kernel
theorem dL_law_361 : decode cL_law 361 = .ok (.iload_n 3, 1) := by decide +kernel
theorem dL_law_362 : decode cL_law 362 = .ok (.iconst 1, 1) := by decide +kernel
theorem dL_law_363 : decode cL_law 363 = .ok (.iadd, 1) := by decide +kernel
theorem dL_law_364 : decode cL_law 364 = .ok (.iaload, 1) := by decide +kernel
theorem dL_law_365 : decode cL_law 365 = .ok (.aload_n 0, 1) := by decide +kernel
theorem dL_law_366 : decode cL_law 366 = .ok (.iload_n 3, 1) := by decide +kernel
theorem dL_law_367 : decode cL_law 367 = .ok (.iconst 2, 1) := by decide +kernel
theorem dL_law_368 : decode cL_law 368 = .ok (.iadd, 1) := by decide +kernel
theorem dL_law_369 : decode cL_law 369 = .ok (.iaload, 1) := by decide +kernel
theorem dL_law_370 : decode cL_law 370 = .ok (.aload_n 0, 1) := by decide +kernel
theorem dL_law_371 : decode cL_law 371 = .ok (.iload_n 3, 1) := by decide +kernel
theorem dL_law_372 : decode cL_law 372 = .ok (.iconst 3, 1) := by decide +kernel
theorem dL_law_373 : decode cL_law 373 = .ok (.iadd, 1) := by decide +kernel
theorem dL_law_374 : decode cL_law 374 = .ok (.iaload, 1) := by decide +kernel
theorem dL_law_375 : decode cL_law 375 = .ok (.invokevirtual 27, 3) := by decide +kernel
theorem dL_law_378 : decode cL_law 378 = .ok (.aload_n 2, 1) := by decide +kernel
theorem dL_law_379 : decode cL_law 379 = .ok (.aload_n 0, 1) := by decide +kernel
theorem dL_law_380 : decode cL_law 380 = .ok (.iload_n 3, 1) := by decide +kernel
theorem dL_law_381 : decode cL_law 381 = .ok (.iconst 1, 1) := by decide +kernel
theorem dL_law_382 : decode cL_law 382 = .ok (.iadd, 1) := by decide +kernel
theorem dL_law_383 : decode cL_law 383 = .ok (.iaload, 1) := by decide +kernel
theorem dL_law_384 : decode cL_law 384 = .ok (.aload_n 0, 1) := by decide +kernel
theorem dL_law_385 : decode cL_law 385 = .ok (.iload_n 3, 1) := by decide +kernel
theorem dL_law_386 : decode cL_law 386 = .ok (.iconst 2, 1) := by decide +kernel
theorem dL_law_387 : decode cL_law 387 = .ok (.iadd, 1) := by decide +kernel
theorem dL_law_388 : decode cL_law 388 = .ok (.iaload, 1) := by decide +kernel
theorem dL_law_389 : decode cL_law 389 = .ok (.aload_n 0, 1) := by decide +kernel
theorem dL_law_390 : decode cL_law 390 = .ok (.iload_n 3, 1) := by decide +kernel
theorem dL_law_391 : decode cL_law 391 = .ok (.iconst 3, 1) := by decide +kernel
theorem dL_law_392 : decode cL_law 392 = .ok (.iadd, 1) := by decide +kernel
theorem dL_law_393 : decode cL_law 393 = .ok (.iaload, 1) := by decide +kernel
theorem dL_law_394 : decode cL_law 394 = .ok (.invokevirtual 30, 3) := by decide +kernel
theorem dL_law_397 : decode cL_law 397 = .ok (.if_icmp .eq 1128, 3) := by decide +kernel
theorem dL_law_400 : decode cL_law 400 = .ok (.iconst 0, 1) := by decide +kernel
theorem dL_law_401 : decode cL_law 401 = .ok (.ireturn, 1) := by decide +kernel
theorem dL_law_402 : decode cL_law 402 = .ok (.aload_n 1, 1) := by decide +kernel
theorem dL_law_403 : decode cL_law 403 = .ok (.aload_n 0, 1) := by decide +kernel
theorem dL_law_404 : decode cL_law 404 = .ok (.iload_n 3, 1) := by decide +kernel
theorem dL_law_405 : decode cL_law 405 = .ok (.iconst 1, 1) := by decide +kernel
theorem dL_law_406 : decode cL_law 406 = .ok (.iadd, 1) := by decide +kernel
theorem dL_law_407 : decode cL_law 407 = .ok (.iaload, 1) := by decide +kernel
theorem dL_law_408 : decode cL_law 408 = .ok (.aload_n 0, 1) := by decide +kernel
theorem dL_law_409 : decode cL_law 409 = .ok (.iload_n 3, 1) := by decide +kernel
theorem dL_law_410 : decode cL_law 410 = .ok (.iconst 2, 1) := by decide +kernel
theorem dL_law_411 : decode cL_law 411 = .ok (.iadd, 1) := by decide +kernel
theorem dL_law_412 : decode cL_law 412 = .ok (.iaload, 1) := by decide +kernel
theorem dL_law_413 : decode cL_law 413 = .ok (.aload_n 0, 1) := by decide +kernel
theorem dL_law_414 : decode cL_law 414 = .ok (.iload_n 3, 1) := by decide +kernel
theorem dL_law_415 : decode cL_law 415 = .ok (.iconst 3, 1) := by decide +kernel
theorem dL_law_416 : decode cL_law 416 = .ok (.iadd, 1) := by decide +kernel
theorem dL_law_417 : decode cL_law 417 = .ok (.iaload, 1) := by decide +kernel
theorem dL_law_418 : decode cL_law 418 = .ok (.invokevirtual 31, 3) := by decide +kernel
theorem dL_law_421 : decode cL_law 421 = .ok (.aload_n 2, 1) := by decide +kernel
theorem dL_law_422 : decode cL_law 422 = .ok (.aload_n 0, 1) := by decide +kernel
theorem dL_law_423 : decode cL_law 423 = .ok (.iload_n 3, 1) := by decide +kernel
theorem dL_law_424 : decode cL_law 424 = .ok (.iconst 1, 1) := by decide +kernel
theorem dL_law_425 : decode cL_law 425 = .ok (.iadd, 1) := by decide +kernel
theorem dL_law_426 : decode cL_law 426 = .ok (.iaload, 1) := by decide +kernel
theorem dL_law_427 : decode cL_law 427 = .ok (.aload_n 0, 1) := by decide +kernel
theorem dL_law_428 : decode cL_law 428 = .ok (.iload_n 3, 1) := by decide +kernel
theorem dL_law_429 : decode cL_law 429 = .ok (.iconst 2, 1) := by decide +kernel
theorem dL_law_430 : decode cL_law 430 = .ok (.iadd, 1) := by decide +kernel
theorem dL_law_431 : decode cL_law 431 = .ok (.iaload, 1) := by decide +kernel
theorem dL_law_432 : decode cL_law 432 = .ok (.aload_n 0, 1) := by decide +kernel
theorem dL_law_433 : decode cL_law 433 = .ok (.iload_n 3, 1) := by decide +kernel
theorem dL_law_434 : decode cL_law 434 = .ok (.iconst 3, 1) := by decide +kernel
theorem dL_law_435 : decode cL_law 435 = .ok (.iadd, 1) := by decide +kernel
theorem dL_law_436 : decode cL_law 436 = .ok (.iaload, 1) := by decide +kernel
theorem dL_law_437 : decode cL_law 437 = .ok (.invokevirtual 34, 3) := by decide +kernel
theorem dL_law_440 : decode cL_law 440 = .ok (.if_icmp .eq 1085, 3) := by decide +kernel
theorem dL_law_443 : decode cL_law 443 = .ok (.iconst 0, 1) := by decide +kernel
theorem dL_law_444 : decode cL_law 444 = .ok (.ireturn, 1) := by decide +kernel
theorem dL_law_445 : decode cL_law 445 = .ok (.aload_n 1, 1) := by decide +kernel
theorem dL_law_446 : decode cL_law 446 = .ok (.aload_n 0, 1) := by decide +kernel
theorem dL_law_447 : decode cL_law 447 = .ok (.iload_n 3, 1) := by decide +kernel
theorem dL_law_448 : decode cL_law 448 = .ok (.iconst 1, 1) := by decide +kernel
theorem dL_law_449 : decode cL_law 449 = .ok (.iadd, 1) := by decide +kernel
theorem dL_law_450 : decode cL_law 450 = .ok (.iaload, 1) := by decide +kernel
theorem dL_law_451 : decode cL_law 451 = .ok (.aload_n 0, 1) := by decide +kernel
theorem dL_law_452 : decode cL_law 452 = .ok (.iload_n 3, 1) := by decide +kernel
theorem dL_law_453 : decode cL_law 453 = .ok (.iconst 2, 1) := by decide +kernel
theorem dL_law_454 : decode cL_law 454 = .ok (.iadd, 1) := by decide +kernel
theorem dL_law_455 : decode cL_law 455 = .ok (.iaload, 1) := by decide +kernel
theorem dL_law_456 : decode cL_law 456 = .ok (.invokevirtual 35, 3) := by decide +kernel
theorem dL_law_459 : decode cL_law 459 = .ok (.aload_n 2, 1) := by decide +kernel
theorem dL_law_460 : decode cL_law 460 = .ok (.aload_n 0, 1) := by decide +kernel
theorem dL_law_461 : decode cL_law 461 = .ok (.iload_n 3, 1) := by decide +kernel
theorem dL_law_462 : decode cL_law 462 = .ok (.iconst 1, 1) := by decide +kernel
theorem dL_law_463 : decode cL_law 463 = .ok (.iadd, 1) := by decide +kernel
theorem dL_law_464 : decode cL_law 464 = .ok (.iaload, 1) := by decide +kernel
theorem dL_law_465 : decode cL_law 465 = .ok (.aload_n 0, 1) := by decide +kernel
theorem dL_law_466 : decode cL_law 466 = .ok (.iload_n 3, 1) := by decide +kernel
theorem dL_law_467 : decode cL_law 467 = .ok (.iconst 2, 1) := by decide +kernel
theorem dL_law_468 : decode cL_law 468 = .ok (.iadd, 1) := by decide +kernel
theorem dL_law_469 : decode cL_law 469 = .ok (.iaload, 1) := by decide +kernel
theorem dL_law_470 : decode cL_law 470 = .ok (.invokevirtual 38, 3) := by decide +kernel
theorem dL_law_473 : decode cL_law 473 = .ok (.if_icmp .eq 1052, 3) := by decide +kernel
theorem dL_law_476 : decode cL_law 476 = .ok (.iconst 0, 1) := by decide +kernel
theorem dL_law_477 : decode cL_law 477 = .ok (.ireturn, 1) := by decide +kernel
theorem dL_law_478 : decode cL_law 478 = .ok (.aload_n 1, 1) := by decide +kernel
theorem dL_law_479 : decode cL_law 479 = .ok (.aload_n 0, 1) := by decide +kernel
theorem dL_law_480 : decode cL_law 480 = .ok (.iload_n 3, 1) := by decide +kernel
theorem dL_law_481 : decode cL_law 481 = .ok (.iconst 1, 1) := by decide +kernel
theorem dL_law_482 : decode cL_law 482 = .ok (.iadd, 1) := by decide +kernel
theorem dL_law_483 : decode cL_law 483 = .ok (.iaload, 1) := by decide +kernel
theorem dL_law_484 : decode cL_law 484 = .ok (.aload_n 0, 1) := by decide +kernel
theorem dL_law_485 : decode cL_law 485 = .ok (.iload_n 3, 1) := by decide +kernel
theorem dL_law_486 : decode cL_law 486 = .ok (.iconst 2, 1) := by decide +kernel
theorem dL_law_487 : decode cL_law 487 = .ok (.iadd, 1) := by decide +kernel
theorem dL_law_488 : decode cL_law 488 = .ok (.iaload, 1) := by decide +kernel
theorem dL_law_489 : decode cL_law 489 = .ok (.invokevirtual 39, 3) := by decide +kernel
theorem dL_law_492 : decode cL_law 492 = .ok (.aload_n 2, 1) := by decide +kernel
theorem dL_law_493 : decode cL_law 493 = .ok (.aload_n 0, 1) := by decide +kernel
theorem dL_law_494 : decode cL_law 494 = .ok (.iload_n 3, 1) := by decide +kernel
theorem dL_law_495 : decode cL_law 495 = .ok (.iconst 1, 1) := by decide +kernel
theorem dL_law_496 : decode cL_law 496 = .ok (.iadd, 1) := by decide +kernel
theorem dL_law_497 : decode cL_law 497 = .ok (.iaload, 1) := by decide +kernel
theorem dL_law_498 : decode cL_law 498 = .ok (.aload_n 0, 1) := by decide +kernel
theorem dL_law_499 : decode cL_law 499 = .ok (.iload_n 3, 1) := by decide +kernel
theorem dL_law_500 : decode cL_law 500 = .ok (.iconst 2, 1) := by decide +kernel
theorem dL_law_501 : decode cL_law 501 = .ok (.iadd, 1) := by decide +kernel
theorem dL_law_502 : decode cL_law 502 = .ok (.iaload, 1) := by decide +kernel
theorem dL_law_503 : decode cL_law 503 = .ok (.invokevirtual 42, 3) := by decide +kernel
theorem dL_law_506 : decode cL_law 506 = .ok (.if_icmp .eq 1019, 3) := by decide +kernel
theorem dL_law_509 : decode cL_law 509 = .ok (.iconst 0, 1) := by decide +kernel
theorem dL_law_510 : decode cL_law 510 = .ok (.ireturn, 1) := by decide +kernel
theorem dL_law_511 : decode cL_law 511 = .ok (.aload_n 1, 1) := by decide +kernel
theorem dL_law_512 : decode cL_law 512 = .ok (.aload_n 0, 1) := by decide +kernel
theorem dL_law_513 : decode cL_law 513 = .ok (.iload_n 3, 1) := by decide +kernel
theorem dL_law_514 : decode cL_law 514 = .ok (.iconst 1, 1) := by decide +kernel
theorem dL_law_515 : decode cL_law 515 = .ok (.iadd, 1) := by decide +kernel
theorem dL_law_516 : decode cL_law 516 = .ok (.iaload, 1) := by decide +kernel
theorem dL_law_517 : decode cL_law 517 = .ok (.aload_n 0, 1) := by decide +kernel
theorem dL_law_518 : decode cL_law 518 = .ok (.iload_n 3, 1) := by decide +kernel
theorem dL_law_519 : decode cL_law 519 = .ok (.iconst 2, 1) := by decide +kernel
theorem dL_law_520 : decode cL_law 520 = .ok (.iadd, 1) := by decide +kernel
theorem dL_law_521 : decode cL_law 521 = .ok (.iaload, 1) := by decide +kernel
theorem dL_law_522 : decode cL_law 522 = .ok (.invokevirtual 43, 3) := by decide +kernel
theorem dL_law_525 : decode cL_law 525 = .ok (.aload_n 2, 1) := by decide +kernel
theorem dL_law_526 : decode cL_law 526 = .ok (.aload_n 0, 1) := by decide +kernel
theorem dL_law_527 : decode cL_law 527 = .ok (.iload_n 3, 1) := by decide +kernel
theorem dL_law_528 : decode cL_law 528 = .ok (.iconst 1, 1) := by decide +kernel
theorem dL_law_529 : decode cL_law 529 = .ok (.iadd, 1) := by decide +kernel
theorem dL_law_530 : decode cL_law 530 = .ok (.iaload, 1) := by decide +kernel
theorem dL_law_531 : decode cL_law 531 = .ok (.aload_n 0, 1) := by decide +kernel
theorem dL_law_532 : decode cL_law 532 = .ok (.iload_n 3, 1) := by decide +kernel
theorem dL_law_533 : decode cL_law 533 = .ok (.iconst 2, 1) := by decide +kernel
theorem dL_law_534 : decode cL_law 534 = .ok (.iadd, 1) := by decide +kernel
theorem dL_law_535 : decode cL_law 535 = .ok (.iaload, 1) := by decide +kernel
theorem dL_law_536 : decode cL_law 536 = .ok (.invokevirtual 46, 3) := by decide +kernel
theorem dL_law_539 : decode cL_law 539 = .ok (.if_icmp .eq 986, 3) := by decide +kernel
theorem dL_law_542 : decode cL_law 542 = .ok (.iconst 0, 1) := by decide +kernel
theorem dL_law_543 : decode cL_law 543 = .ok (.ireturn, 1) := by decide +kernel
theorem dL_law_544 : decode cL_law 544 = .ok (.aload_n 1, 1) := by decide +kernel
theorem dL_law_545 : decode cL_law 545 = .ok (.aload_n 0, 1) := by decide +kernel
theorem dL_law_546 : decode cL_law 546 = .ok (.iload_n 3, 1) := by decide +kernel
theorem dL_law_547 : decode cL_law 547 = .ok (.iconst 1, 1) := by decide +kernel
theorem dL_law_548 : decode cL_law 548 = .ok (.iadd, 1) := by decide +kernel
theorem dL_law_549 : decode cL_law 549 = .ok (.iaload, 1) := by decide +kernel
theorem dL_law_550 : decode cL_law 550 = .ok (.invokevirtual 47, 3) := by decide +kernel
theorem dL_law_553 : decode cL_law 553 = .ok (.aload_n 2, 1) := by decide +kernel
theorem dL_law_554 : decode cL_law 554 = .ok (.aload_n 0, 1) := by decide +kernel
theorem dL_law_555 : decode cL_law 555 = .ok (.iload_n 3, 1) := by decide +kernel
theorem dL_law_556 : decode cL_law 556 = .ok (.iconst 1, 1) := by decide +kernel
theorem dL_law_557 : decode cL_law 557 = .ok (.iadd, 1) := by decide +kernel
theorem dL_law_558 : decode cL_law 558 = .ok (.iaload, 1) := by decide +kernel
theorem dL_law_559 : decode cL_law 559 = .ok (.invokevirtual 51, 3) := by decide +kernel
theorem dL_law_562 : decode cL_law 562 = .ok (.if_icmp .eq 963, 3) := by decide +kernel
theorem dL_law_565 : decode cL_law 565 = .ok (.iconst 0, 1) := by decide +kernel
theorem dL_law_566 : decode cL_law 566 = .ok (.ireturn, 1) := by decide +kernel
theorem dL_law_567 : decode cL_law 567 = .ok (.aload_n 1, 1) := by decide +kernel
theorem dL_law_568 : decode cL_law 568 = .ok (.aload_n 0, 1) := by decide +kernel
theorem dL_law_569 : decode cL_law 569 = .ok (.iload_n 3, 1) := by decide +kernel
theorem dL_law_570 : decode cL_law 570 = .ok (.iconst 1, 1) := by decide +kernel
theorem dL_law_571 : decode cL_law 571 = .ok (.iadd, 1) := by decide +kernel
theorem dL_law_572 : decode cL_law 572 = .ok (.iaload, 1) := by decide +kernel
theorem dL_law_573 : decode cL_law 573 = .ok (.invokevirtual 52, 3) := by decide +kernel
theorem dL_law_576 : decode cL_law 576 = .ok (.aload_n 2, 1) := by decide +kernel
theorem dL_law_577 : decode cL_law 577 = .ok (.aload_n 0, 1) := by decide +kernel
theorem dL_law_578 : decode cL_law 578 = .ok (.iload_n 3, 1) := by decide +kernel
theorem dL_law_579 : decode cL_law 579 = .ok (.iconst 1, 1) := by decide +kernel
theorem dL_law_580 : decode cL_law 580 = .ok (.iadd, 1) := by decide +kernel
theorem dL_law_581 : decode cL_law 581 = .ok (.iaload, 1) := by decide +kernel
theorem dL_law_582 : decode cL_law 582 = .ok (.invokevirtual 55, 3) := by decide +kernel
theorem dL_law_585 : decode cL_law 585 = .ok (.if_icmp .eq 940, 3) := by decide +kernel
theorem dL_law_588 : decode cL_law 588 = .ok (.iconst 0, 1) := by decide +kernel
theorem dL_law_589 : decode cL_law 589 = .ok (.ireturn, 1) := by decide +kernel
theorem dL_law_590 : decode cL_law 590 = .ok (.aload_n 1, 1) := by decide +kernel
theorem dL_law_591 : decode cL_law 591 = .ok (.aload_n 0, 1) := by decide +kernel
theorem dL_law_592 : decode cL_law 592 = .ok (.iload_n 3, 1) := by decide +kernel
theorem dL_law_593 : decode cL_law 593 = .ok (.iconst 1, 1) := by decide +kernel
theorem dL_law_594 : decode cL_law 594 = .ok (.iadd, 1) := by decide +kernel
theorem dL_law_595 : decode cL_law 595 = .ok (.iaload, 1) := by decide +kernel
theorem dL_law_596 : decode cL_law 596 = .ok (.invokevirtual 56, 3) := by decide +kernel
theorem dL_law_599 : decode cL_law 599 = .ok (.aload_n 2, 1) := by decide +kernel
theorem dL_law_600 : decode cL_law 600 = .ok (.aload_n 0, 1) := by decide +kernel
theorem dL_law_601 : decode cL_law 601 = .ok (.iload_n 3, 1) := by decide +kernel
theorem dL_law_602 : decode cL_law 602 = .ok (.iconst 1, 1) := by decide +kernel
theorem dL_law_603 : decode cL_law 603 = .ok (.iadd, 1) := by decide +kernel
theorem dL_law_604 : decode cL_law 604 = .ok (.iaload, 1) := by decide +kernel
theorem dL_law_605 : decode cL_law 605 = .ok (.invokevirtual 59, 3) := by decide +kernel
theorem dL_law_608 : decode cL_law 608 = .ok (.if_icmp .eq 917, 3) := by decide +kernel
theorem dL_law_611 : decode cL_law 611 = .ok (.iconst 0, 1) := by decide +kernel
theorem dL_law_612 : decode cL_law 612 = .ok (.ireturn, 1) := by decide +kernel
theorem dL_law_613 : decode cL_law 613 = .ok (.aload_n 1, 1) := by decide +kernel
theorem dL_law_614 : decode cL_law 614 = .ok (.aload_n 0, 1) := by decide +kernel
theorem dL_law_615 : decode cL_law 615 = .ok (.iload_n 3, 1) := by decide +kernel
theorem dL_law_616 : decode cL_law 616 = .ok (.iconst 1, 1) := by decide +kernel
theorem dL_law_617 : decode cL_law 617 = .ok (.iadd, 1) := by decide +kernel
theorem dL_law_618 : decode cL_law 618 = .ok (.iaload, 1) := by decide +kernel
theorem dL_law_619 : decode cL_law 619 = .ok (.invokevirtual 60, 3) := by decide +kernel
theorem dL_law_622 : decode cL_law 622 = .ok (.aload_n 2, 1) := by decide +kernel
theorem dL_law_623 : decode cL_law 623 = .ok (.aload_n 0, 1) := by decide +kernel
theorem dL_law_624 : decode cL_law 624 = .ok (.iload_n 3, 1) := by decide +kernel
theorem dL_law_625 : decode cL_law 625 = .ok (.iconst 1, 1) := by decide +kernel
theorem dL_law_626 : decode cL_law 626 = .ok (.iadd, 1) := by decide +kernel
theorem dL_law_627 : decode cL_law 627 = .ok (.iaload, 1) := by decide +kernel
theorem dL_law_628 : decode cL_law 628 = .ok (.invokevirtual 63, 3) := by decide +kernel
theorem dL_law_631 : decode cL_law 631 = .ok (.if_icmp .eq 894, 3) := by decide +kernel
theorem dL_law_634 : decode cL_law 634 = .ok (.iconst 0, 1) := by decide +kernel
theorem dL_law_635 : decode cL_law 635 = .ok (.ireturn, 1) := by decide +kernel
theorem dL_law_636 : decode cL_law 636 = .ok (.aload_n 1, 1) := by decide +kernel
theorem dL_law_637 : decode cL_law 637 = .ok (.aload_n 0, 1) := by decide +kernel
theorem dL_law_638 : decode cL_law 638 = .ok (.iload_n 3, 1) := by decide +kernel
theorem dL_law_639 : decode cL_law 639 = .ok (.iconst 1, 1) := by decide +kernel
theorem dL_law_640 : decode cL_law 640 = .ok (.iadd, 1) := by decide +kernel
theorem dL_law_641 : decode cL_law 641 = .ok (.iaload, 1) := by decide +kernel
theorem dL_law_642 : decode cL_law 642 = .ok (.invokevirtual 64, 3) := by decide +kernel
theorem dL_law_645 : decode cL_law 645 = .ok (.aload_n 2, 1) := by decide +kernel
theorem dL_law_646 : decode cL_law 646 = .ok (.aload_n 0, 1) := by decide +kernel
theorem dL_law_647 : decode cL_law 647 = .ok (.iload_n 3, 1) := by decide +kernel
theorem dL_law_648 : decode cL_law 648 = .ok (.iconst 1, 1) := by decide +kernel
theorem dL_law_649 : decode cL_law 649 = .ok (.iadd, 1) := by decide +kernel
theorem dL_law_650 : decode cL_law 650 = .ok (.iaload, 1) := by decide +kernel
theorem dL_law_651 : decode cL_law 651 = .ok (.invokevirtual 67, 3) := by decide +kernel
theorem dL_law_654 : decode cL_law 654 = .ok (.if_icmp .eq 871, 3) := by decide +kernel
theorem dL_law_657 : decode cL_law 657 = .ok (.iconst 0, 1) := by decide +kernel
theorem dL_law_658 : decode cL_law 658 = .ok (.ireturn, 1) := by decide +kernel
theorem dL_law_659 : decode cL_law 659 = .ok (.aload_n 1, 1) := by decide +kernel
theorem dL_law_660 : decode cL_law 660 = .ok (.aload_n 0, 1) := by decide +kernel
theorem dL_law_661 : decode cL_law 661 = .ok (.iload_n 3, 1) := by decide +kernel
theorem dL_law_662 : decode cL_law 662 = .ok (.iconst 1, 1) := by decide +kernel
theorem dL_law_663 : decode cL_law 663 = .ok (.iadd, 1) := by decide +kernel
theorem dL_law_664 : decode cL_law 664 = .ok (.iaload, 1) := by decide +kernel
theorem dL_law_665 : decode cL_law 665 = .ok (.invokevirtual 68, 3) := by decide +kernel
theorem dL_law_668 : decode cL_law 668 = .ok (.aload_n 2, 1) := by decide +kernel
theorem dL_law_669 : decode cL_law 669 = .ok (.aload_n 0, 1) := by decide +kernel
theorem dL_law_670 : decode cL_law 670 = .ok (.iload_n 3, 1) := by decide +kernel
theorem dL_law_671 : decode cL_law 671 = .ok (.iconst 1, 1) := by decide +kernel
theorem dL_law_672 : decode cL_law 672 = .ok (.iadd, 1) := by decide +kernel
theorem dL_law_673 : decode cL_law 673 = .ok (.iaload, 1) := by decide +kernel
theorem dL_law_674 : decode cL_law 674 = .ok (.invokevirtual 71, 3) := by decide +kernel
theorem dL_law_677 : decode cL_law 677 = .ok (.if_icmp .eq 848, 3) := by decide +kernel
theorem dL_law_680 : decode cL_law 680 = .ok (.iconst 0, 1) := by decide +kernel
theorem dL_law_681 : decode cL_law 681 = .ok (.ireturn, 1) := by decide +kernel
theorem dL_law_682 : decode cL_law 682 = .ok (.aload_n 1, 1) := by decide +kernel
theorem dL_law_683 : decode cL_law 683 = .ok (.aload_n 0, 1) := by decide +kernel
theorem dL_law_684 : decode cL_law 684 = .ok (.iload_n 3, 1) := by decide +kernel
theorem dL_law_685 : decode cL_law 685 = .ok (.iconst 1, 1) := by decide +kernel
theorem dL_law_686 : decode cL_law 686 = .ok (.iadd, 1) := by decide +kernel
theorem dL_law_687 : decode cL_law 687 = .ok (.iaload, 1) := by decide +kernel
theorem dL_law_688 : decode cL_law 688 = .ok (.invokevirtual 72, 3) := by decide +kernel
theorem dL_law_691 : decode cL_law 691 = .ok (.aload_n 2, 1) := by decide +kernel
theorem dL_law_692 : decode cL_law 692 = .ok (.aload_n 0, 1) := by decide +kernel
theorem dL_law_693 : decode cL_law 693 = .ok (.iload_n 3, 1) := by decide +kernel
theorem dL_law_694 : decode cL_law 694 = .ok (.iconst 1, 1) := by decide +kernel
theorem dL_law_695 : decode cL_law 695 = .ok (.iadd, 1) := by decide +kernel
theorem dL_law_696 : decode cL_law 696 = .ok (.iaload, 1) := by decide +kernel
theorem dL_law_697 : decode cL_law 697 = .ok (.invokevirtual 75, 3) := by decide +kernel
theorem dL_law_700 : decode cL_law 700 = .ok (.if_icmp .eq 825, 3) := by decide +kernel
theorem dL_law_703 : decode cL_law 703 = .ok (.iconst 0, 1) := by decide +kernel
theorem dL_law_704 : decode cL_law 704 = .ok (.ireturn, 1) := by decide +kernel
theorem dL_law_705 : decode cL_law 705 = .ok (.aload_n 1, 1) := by decide +kernel
theorem dL_law_706 : decode cL_law 706 = .ok (.aload_n 0, 1) := by decide +kernel
theorem dL_law_707 : decode cL_law 707 = .ok (.iload_n 3, 1) := by decide +kernel
theorem dL_law_708 : decode cL_law 708 = .ok (.iconst 1, 1) := by decide +kernel
theorem dL_law_709 : decode cL_law 709 = .ok (.iadd, 1) := by decide +kernel
theorem dL_law_710 : decode cL_law 710 = .ok (.iaload, 1) := by decide +kernel
theorem dL_law_711 : decode cL_law 711 = .ok (.invokevirtual 76, 3) := by decide +kernel
theorem dL_law_714 : decode cL_law 714 = .ok (.aload_n 2, 1) := by decide +kernel
theorem dL_law_715 : decode cL_law 715 = .ok (.aload_n 0, 1) := by decide +kernel
theorem dL_law_716 : decode cL_law 716 = .ok (.iload_n 3, 1) := by decide +kernel
theorem dL_law_717 : decode cL_law 717 = .ok (.iconst 1, 1) := by decide +kernel
theorem dL_law_718 : decode cL_law 718 = .ok (.iadd, 1) := by decide +kernel
theorem dL_law_719 : decode cL_law 719 = .ok (.iaload, 1) := by decide +kernel
theorem dL_law_720 : decode cL_law 720 = .ok (.invokevirtual 79, 3) := by decide +kernel
theorem dL_law_723 : decode cL_law 723 = .ok (.if_icmp .eq 802, 3) := by decide +kernel
theorem dL_law_726 : decode cL_law 726 = .ok (.iconst 0, 1) := by decide +kernel
theorem dL_law_727 : decode cL_law 727 = .ok (.ireturn, 1) := by decide +kernel
theorem dL_law_728 : decode cL_law 728 = .ok (.aload_n 1, 1) := by decide +kernel
theorem dL_law_729 : decode cL_law 729 = .ok (.aload_n 0, 1) := by decide +kernel
theorem dL_law_730 : decode cL_law 730 = .ok (.iload_n 3, 1) := by decide +kernel
theorem dL_law_731 : decode cL_law 731 = .ok (.iconst 1, 1) := by decide +kernel
theorem dL_law_732 : decode cL_law 732 = .ok (.iadd, 1) := by decide +kernel
theorem dL_law_733 : decode cL_law 733 = .ok (.iaload, 1) := by decide +kernel
theorem dL_law_734 : decode cL_law 734 = .ok (.aload_n 0, 1) := by decide +kernel
theorem dL_law_735 : decode cL_law 735 = .ok (.iload_n 3, 1) := by decide +kernel
theorem dL_law_736 : decode cL_law 736 = .ok (.iconst 2, 1) := by decide +kernel
theorem dL_law_737 : decode cL_law 737 = .ok (.iadd, 1) := by decide +kernel
theorem dL_law_738 : decode cL_law 738 = .ok (.iaload, 1) := by decide +kernel
theorem dL_law_739 : decode cL_law 739 = .ok (.invokevirtual 80, 3) := by decide +kernel
theorem dL_law_742 : decode cL_law 742 = .ok (.aload_n 2, 1) := by decide +kernel
theorem dL_law_743 : decode cL_law 743 = .ok (.aload_n 0, 1) := by decide +kernel
theorem dL_law_744 : decode cL_law 744 = .ok (.iload_n 3, 1) := by decide +kernel
theorem dL_law_745 : decode cL_law 745 = .ok (.iconst 1, 1) := by decide +kernel
theorem dL_law_746 : decode cL_law 746 = .ok (.iadd, 1) := by decide +kernel
theorem dL_law_747 : decode cL_law 747 = .ok (.iaload, 1) := by decide +kernel
theorem dL_law_748 : decode cL_law 748 = .ok (.aload_n 0, 1) := by decide +kernel
theorem dL_law_749 : decode cL_law 749 = .ok (.iload_n 3, 1) := by decide +kernel
theorem dL_law_750 : decode cL_law 750 = .ok (.iconst 2, 1) := by decide +kernel
theorem dL_law_751 : decode cL_law 751 = .ok (.iadd, 1) := by decide +kernel
theorem dL_law_752 : decode cL_law 752 = .ok (.iaload, 1) := by decide +kernel
theorem dL_law_753 : decode cL_law 753 = .ok (.invokevirtual 83, 3) := by decide +kernel
theorem dL_law_756 : decode cL_law 756 = .ok (.if_icmp .eq 769, 3) := by decide +kernel
theorem dL_law_759 : decode cL_law 759 = .ok (.iconst 0, 1) := by decide +kernel
theorem dL_law_760 : decode cL_law 760 = .ok (.ireturn, 1) := by decide +kernel
theorem dL_law_761 : decode cL_law 761 = .ok (.aload_n 1, 1) := by decide +kernel
theorem dL_law_762 : decode cL_law 762 = .ok (.aload_n 0, 1) := by decide +kernel
theorem dL_law_763 : decode cL_law 763 = .ok (.iload_n 3, 1) := by decide +kernel
theorem dL_law_764 : decode cL_law 764 = .ok (.iconst 1, 1) := by decide +kernel
theorem dL_law_765 : decode cL_law 765 = .ok (.iadd, 1) := by decide +kernel
theorem dL_law_766 : decode cL_law 766 = .ok (.iaload, 1) := by decide +kernel
theorem dL_law_767 : decode cL_law 767 = .ok (.aload_n 0, 1) := by decide +kernel
theorem dL_law_768 : decode cL_law 768 = .ok (.iload_n 3, 1) := by decide +kernel
theorem dL_law_769 : decode cL_law 769 = .ok (.iconst 2, 1) := by decide +kernel
theorem dL_law_770 : decode cL_law 770 = .ok (.iadd, 1) := by decide +kernel
theorem dL_law_771 : decode cL_law 771 = .ok (.iaload, 1) := by decide +kernel
theorem dL_law_772 : decode cL_law 772 = .ok (.invokevirtual 84, 3) := by decide +kernel
theorem dL_law_775 : decode cL_law 775 = .ok (.aload_n 2, 1) := by decide +kernel
theorem dL_law_776 : decode cL_law 776 = .ok (.aload_n 0, 1) := by decide +kernel
theorem dL_law_777 : decode cL_law 777 = .ok (.iload_n 3, 1) := by decide +kernel
theorem dL_law_778 : decode cL_law 778 = .ok (.iconst 1, 1) := by decide +kernel
theorem dL_law_779 : decode cL_law 779 = .ok (.iadd, 1) := by decide +kernel
theorem dL_law_780 : decode cL_law 780 = .ok (.iaload, 1) := by decide +kernel
theorem dL_law_781 : decode cL_law 781 = .ok (.aload_n 0, 1) := by decide +kernel
theorem dL_law_782 : decode cL_law 782 = .ok (.iload_n 3, 1) := by decide +kernel
theorem dL_law_783 : decode cL_law 783 = .ok (.iconst 2, 1) := by decide +kernel
theorem dL_law_784 : decode cL_law 784 = .ok (.iadd, 1) := by decide +kernel
theorem dL_law_785 : decode cL_law 785 = .ok (.iaload, 1) := by decide +kernel
theorem dL_law_786 : decode cL_law 786 = .ok (.invokevirtual 87, 3) := by decide +kernel
theorem dL_law_789 : decode cL_law 789 = .ok (.if_icmp .eq 736, 3) := by decide +kernel
theorem dL_law_792 : decode cL_law 792 = .ok (.iconst 0, 1) := by decide +kernel
theorem dL_law_793 : decode cL_law 793 = .ok (.ireturn, 1) := by decide +kernel
theorem dL_law_794 : decode cL_law 794 = .ok (.aload_n 1, 1) := by decide +kernel
theorem dL_law_795 : decode cL_law 795 = .ok (.aload_n 0, 1) := by decide +kernel
theorem dL_law_796 : decode cL_law 796 = .ok (.iload_n 3, 1) := by decide +kernel
theorem dL_law_797 : decode cL_law 797 = .ok (.iconst 1, 1) := by decide +kernel
theorem dL_law_798 : decode cL_law 798 = .ok (.iadd, 1) := by decide +kernel
theorem dL_law_799 : decode cL_law 799 = .ok (.iaload, 1) := by decide +kernel
theorem dL_law_800 : decode cL_law 800 = .ok (.invokevirtual 88, 3) := by decide +kernel
theorem dL_law_803 : decode cL_law 803 = .ok (.aload_n 2, 1) := by decide +kernel
theorem dL_law_804 : decode cL_law 804 = .ok (.aload_n 0, 1) := by decide +kernel
theorem dL_law_805 : decode cL_law 805 = .ok (.iload_n 3, 1) := by decide +kernel
theorem dL_law_806 : decode cL_law 806 = .ok (.iconst 1, 1) := by decide +kernel
theorem dL_law_807 : decode cL_law 807 = .ok (.iadd, 1) := by decide +kernel
theorem dL_law_808 : decode cL_law 808 = .ok (.iaload, 1) := by decide +kernel
theorem dL_law_809 : decode cL_law 809 = .ok (.invokevirtual 91, 3) := by decide +kernel
theorem dL_law_812 : decode cL_law 812 = .ok (.if_icmp .eq 713, 3) := by decide +kernel
theorem dL_law_815 : decode cL_law 815 = .ok (.iconst 0, 1) := by decide +kernel
theorem dL_law_816 : decode cL_law 816 = .ok (.ireturn, 1) := by decide +kernel
theorem dL_law_817 : decode cL_law 817 = .ok (.aload_n 1, 1) := by decide +kernel
theorem dL_law_818 : decode cL_law 818 = .ok (.aload_n 0, 1) := by decide +kernel
theorem dL_law_819 : decode cL_law 819 = .ok (.iload_n 3, 1) := by decide +kernel
theorem dL_law_820 : decode cL_law 820 = .ok (.iconst 1, 1) := by decide +kernel
theorem dL_law_821 : decode cL_law 821 = .ok (.iadd, 1) := by decide +kernel
theorem dL_law_822 : decode cL_law 822 = .ok (.iaload, 1) := by decide +kernel
theorem dL_law_823 : decode cL_law 823 = .ok (.invokevirtual 92, 3) := by decide +kernel
theorem dL_law_826 : decode cL_law 826 = .ok (.aload_n 2, 1) := by decide +kernel
theorem dL_law_827 : decode cL_law 827 = .ok (.aload_n 0, 1) := by decide +kernel
theorem dL_law_828 : decode cL_law 828 = .ok (.iload_n 3, 1) := by decide +kernel
theorem dL_law_829 : decode cL_law 829 = .ok (.iconst 1, 1) := by decide +kernel
theorem dL_law_830 : decode cL_law 830 = .ok (.iadd, 1) := by decide +kernel
theorem dL_law_831 : decode cL_law 831 = .ok (.iaload, 1) := by decide +kernel
theorem dL_law_832 : decode cL_law 832 = .ok (.invokevirtual 95, 3) := by decide +kernel
theorem dL_law_835 : decode cL_law 835 = .ok (.if_icmp .eq 690, 3) := by decide +kernel
theorem dL_law_838 : decode cL_law 838 = .ok (.iconst 0, 1) := by decide +kernel
theorem dL_law_839 : decode cL_law 839 = .ok (.ireturn, 1) := by decide +kernel
theorem dL_law_840 : decode cL_law 840 = .ok (.aload_n 1, 1) := by decide +kernel
theorem dL_law_841 : decode cL_law 841 = .ok (.invokevirtual 96, 3) := by decide +kernel
theorem dL_law_844 : decode cL_law 844 = .ok (.aload_n 2, 1) := by decide +kernel
theorem dL_law_845 : decode cL_law 845 = .ok (.invokevirtual 100, 3) := by decide +kernel
theorem dL_law_848 : decode cL_law 848 = .ok (.if_icmp .eq 677, 3) := by decide +kernel
theorem dL_law_851 : decode cL_law 851 = .ok (.iconst 0, 1) := by decide +kernel
theorem dL_law_852 : decode cL_law 852 = .ok (.ireturn, 1) := by decide +kernel
theorem dL_law_853 : decode cL_law 853 = .ok (.aload_n 1, 1) := by decide +kernel
theorem dL_law_854 : decode cL_law 854 = .ok (.invokevirtual 101, 3) := by decide +kernel
theorem dL_law_857 : decode cL_law 857 = .ok (.aload_n 2, 1) := by decide +kernel
theorem dL_law_858 : decode cL_law 858 = .ok (.invokevirtual 104, 3) := by decide +kernel
theorem dL_law_861 : decode cL_law 861 = .ok (.if_icmp .eq 664, 3) := by decide +kernel
theorem dL_law_864 : decode cL_law 864 = .ok (.iconst 0, 1) := by decide +kernel
theorem dL_law_865 : decode cL_law 865 = .ok (.ireturn, 1) := by decide +kernel
theorem dL_law_866 : decode cL_law 866 = .ok (.aload_n 1, 1) := by decide +kernel
theorem dL_law_867 : decode cL_law 867 = .ok (.aload_n 0, 1) := by decide +kernel
theorem dL_law_868 : decode cL_law 868 = .ok (.iload_n 3, 1) := by decide +kernel
theorem dL_law_869 : decode cL_law 869 = .ok (.iconst 1, 1) := by decide +kernel
theorem dL_law_870 : decode cL_law 870 = .ok (.iadd, 1) := by decide +kernel
theorem dL_law_871 : decode cL_law 871 = .ok (.iaload, 1) := by decide +kernel
theorem dL_law_872 : decode cL_law 872 = .ok (.invokevirtual 105, 3) := by decide +kernel
theorem dL_law_875 : decode cL_law 875 = .ok (.aload_n 2, 1) := by decide +kernel
theorem dL_law_876 : decode cL_law 876 = .ok (.aload_n 0, 1) := by decide +kernel
theorem dL_law_877 : decode cL_law 877 = .ok (.iload_n 3, 1) := by decide +kernel
theorem dL_law_878 : decode cL_law 878 = .ok (.iconst 1, 1) := by decide +kernel
theorem dL_law_879 : decode cL_law 879 = .ok (.iadd, 1) := by decide +kernel
theorem dL_law_880 : decode cL_law 880 = .ok (.iaload, 1) := by decide +kernel
theorem dL_law_881 : decode cL_law 881 = .ok (.invokevirtual 108, 3) := by decide +kernel
theorem dL_law_884 : decode cL_law 884 = .ok (.if_icmp .eq 641, 3) := by decide +kernel
theorem dL_law_887 : decode cL_law 887 = .ok (.iconst 0, 1) := by decide +kernel
theorem dL_law_888 : decode cL_law 888 = .ok (.ireturn, 1) := by decide +kernel
theorem dL_law_889 : decode cL_law 889 = .ok (.aload_n 1, 1) := by decide +kernel
theorem dL_law_890 : decode cL_law 890 = .ok (.aload_n 0, 1) := by decide +kernel
theorem dL_law_891 : decode cL_law 891 = .ok (.iload_n 3, 1) := by decide +kernel
theorem dL_law_892 : decode cL_law 892 = .ok (.iconst 1, 1) := by decide +kernel
theorem dL_law_893 : decode cL_law 893 = .ok (.iadd, 1) := by decide +kernel
theorem dL_law_894 : decode cL_law 894 = .ok (.iaload, 1) := by decide +kernel
theorem dL_law_895 : decode cL_law 895 = .ok (.invokevirtual 109, 3) := by decide +kernel
theorem dL_law_898 : decode cL_law 898 = .ok (.aload_n 2, 1) := by decide +kernel
theorem dL_law_899 : decode cL_law 899 = .ok (.aload_n 0, 1) := by decide +kernel
theorem dL_law_900 : decode cL_law 900 = .ok (.iload_n 3, 1) := by decide +kernel
theorem dL_law_901 : decode cL_law 901 = .ok (.iconst 1, 1) := by decide +kernel
theorem dL_law_902 : decode cL_law 902 = .ok (.iadd, 1) := by decide +kernel
theorem dL_law_903 : decode cL_law 903 = .ok (.iaload, 1) := by decide +kernel
theorem dL_law_904 : decode cL_law 904 = .ok (.invokevirtual 112, 3) := by decide +kernel
theorem dL_law_907 : decode cL_law 907 = .ok (.if_icmp .eq 618, 3) := by decide +kernel
theorem dL_law_910 : decode cL_law 910 = .ok (.iconst 0, 1) := by decide +kernel
theorem dL_law_911 : decode cL_law 911 = .ok (.ireturn, 1) := by decide +kernel
theorem dL_law_912 : decode cL_law 912 = .ok (.aload_n 1, 1) := by decide +kernel
theorem dL_law_913 : decode cL_law 913 = .ok (.invokevirtual 113, 3) := by decide +kernel
theorem dL_law_916 : decode cL_law 916 = .ok (.aload_n 2, 1) := by decide +kernel
theorem dL_law_917 : decode cL_law 917 = .ok (.invokevirtual 116, 3) := by decide +kernel
theorem dL_law_920 : decode cL_law 920 = .ok (.if_icmp .eq 605, 3) := by decide +kernel
theorem dL_law_923 : decode cL_law 923 = .ok (.iconst 0, 1) := by decide +kernel
theorem dL_law_924 : decode cL_law 924 = .ok (.ireturn, 1) := by decide +kernel
theorem dL_law_925 : decode cL_law 925 = .ok (.aload_n 1, 1) := by decide +kernel
theorem dL_law_926 : decode cL_law 926 = .ok (.invokevirtual 117, 3) := by decide +kernel
theorem dL_law_929 : decode cL_law 929 = .ok (.aload_n 2, 1) := by decide +kernel
theorem dL_law_930 : decode cL_law 930 = .ok (.invokevirtual 120, 3) := by decide +kernel
theorem dL_law_933 : decode cL_law 933 = .ok (.if_icmp .eq 592, 3) := by decide +kernel
theorem dL_law_936 : decode cL_law 936 = .ok (.iconst 0, 1) := by decide +kernel
theorem dL_law_937 : decode cL_law 937 = .ok (.ireturn, 1) := by decide +kernel
theorem dL_law_938 : decode cL_law 938 = .ok (.aload_n 1, 1) := by decide +kernel
theorem dL_law_939 : decode cL_law 939 = .ok (.invokevirtual 121, 3) := by decide +kernel
theorem dL_law_942 : decode cL_law 942 = .ok (.aload_n 2, 1) := by decide +kernel
theorem dL_law_943 : decode cL_law 943 = .ok (.invokevirtual 124, 3) := by decide +kernel
theorem dL_law_946 : decode cL_law 946 = .ok (.if_icmp .eq 579, 3) := by decide +kernel
theorem dL_law_949 : decode cL_law 949 = .ok (.iconst 0, 1) := by decide +kernel
theorem dL_law_950 : decode cL_law 950 = .ok (.ireturn, 1) := by decide +kernel
theorem dL_law_951 : decode cL_law 951 = .ok (.aload_n 1, 1) := by decide +kernel
theorem dL_law_952 : decode cL_law 952 = .ok (.aload_n 0, 1) := by decide +kernel
theorem dL_law_953 : decode cL_law 953 = .ok (.iload_n 3, 1) := by decide +kernel
theorem dL_law_954 : decode cL_law 954 = .ok (.iconst 1, 1) := by decide +kernel
theorem dL_law_955 : decode cL_law 955 = .ok (.iadd, 1) := by decide +kernel
theorem dL_law_956 : decode cL_law 956 = .ok (.iaload, 1) := by decide +kernel
theorem dL_law_957 : decode cL_law 957 = .ok (.invokevirtual 125, 3) := by decide +kernel
theorem dL_law_960 : decode cL_law 960 = .ok (.aload_n 2, 1) := by decide +kernel
theorem dL_law_961 : decode cL_law 961 = .ok (.aload_n 0, 1) := by decide +kernel
theorem dL_law_962 : decode cL_law 962 = .ok (.iload_n 3, 1) := by decide +kernel
theorem dL_law_963 : decode cL_law 963 = .ok (.iconst 1, 1) := by decide +kernel
theorem dL_law_964 : decode cL_law 964 = .ok (.iadd, 1) := by decide +kernel
theorem dL_law_965 : decode cL_law 965 = .ok (.iaload, 1) := by decide +kernel
theorem dL_law_966 : decode cL_law 966 = .ok (.invokevirtual 128, 3) := by decide +kernel
theorem dL_law_969 : decode cL_law 969 = .ok (.if_icmp .eq 556, 3) := by decide +kernel
theorem dL_law_972 : decode cL_law 972 = .ok (.iconst 0, 1) := by decide +kernel
theorem dL_law_973 : decode cL_law 973 = .ok (.ireturn, 1) := by decide +kernel
theorem dL_law_974 : decode cL_law 974 = .ok (.aload_n 1, 1) := by decide +kernel
theorem dL_law_975 : decode cL_law 975 = .ok (.aload_n 0, 1) := by decide +kernel
theorem dL_law_976 : decode cL_law 976 = .ok (.iload_n 3, 1) := by decide +kernel
theorem dL_law_977 : decode cL_law 977 = .ok (.iconst 1, 1) := by decide +kernel
theorem dL_law_978 : decode cL_law 978 = .ok (.iadd, 1) := by decide +kernel
theorem dL_law_979 : decode cL_law 979 = .ok (.iaload, 1) := by decide +kernel
theorem dL_law_980 : decode cL_law 980 = .ok (.aload_n 0, 1) := by decide +kernel
theorem dL_law_981 : decode cL_law 981 = .ok (.iload_n 3, 1) := by decide +kernel
theorem dL_law_982 : decode cL_law 982 = .ok (.iconst 2, 1) := by decide +kernel
theorem dL_law_983 : decode cL_law 983 = .ok (.iadd, 1) := by decide +kernel
theorem dL_law_984 : decode cL_law 984 = .ok (.iaload, 1) := by decide +kernel
theorem dL_law_985 : decode cL_law 985 = .ok (.invokevirtual 129, 3) := by decide +kernel
theorem dL_law_988 : decode cL_law 988 = .ok (.aload_n 2, 1) := by decide +kernel
theorem dL_law_989 : decode cL_law 989 = .ok (.aload_n 0, 1) := by decide +kernel
theorem dL_law_990 : decode cL_law 990 = .ok (.iload_n 3, 1) := by decide +kernel
theorem dL_law_991 : decode cL_law 991 = .ok (.iconst 1, 1) := by decide +kernel
theorem dL_law_992 : decode cL_law 992 = .ok (.iadd, 1) := by decide +kernel
theorem dL_law_993 : decode cL_law 993 = .ok (.iaload, 1) := by decide +kernel
theorem dL_law_994 : decode cL_law 994 = .ok (.aload_n 0, 1) := by decide +kernel
theorem dL_law_995 : decode cL_law 995 = .ok (.iload_n 3, 1) := by decide +kernel
theorem dL_law_996 : decode cL_law 996 = .ok (.iconst 2, 1) := by decide +kernel
theorem dL_law_997 : decode cL_law 997 = .ok (.iadd, 1) := by decide +kernel
theorem dL_law_998 : decode cL_law 998 = .ok (.iaload, 1) := by decide +kernel
theorem dL_law_999 : decode cL_law 999 = .ok (.invokevirtual 132, 3) := by decide +kernel
theorem dL_law_1002 : decode cL_law 1002 = .ok (.if_icmp .eq 523, 3) := by decide +kernel
theorem dL_law_1005 : decode cL_law 1005 = .ok (.iconst 0, 1) := by decide +kernel
theorem dL_law_1006 : decode cL_law 1006 = .ok (.ireturn, 1) := by decide +kernel
theorem dL_law_1007 : decode cL_law 1007 = .ok (.aload_n 1, 1) := by decide +kernel
theorem dL_law_1008 : decode cL_law 1008 = .ok (.aload_n 0, 1) := by decide +kernel
theorem dL_law_1009 : decode cL_law 1009 = .ok (.iload_n 3, 1) := by decide +kernel
theorem dL_law_1010 : decode cL_law 1010 = .ok (.iconst 1, 1) := by decide +kernel
theorem dL_law_1011 : decode cL_law 1011 = .ok (.iadd, 1) := by decide +kernel
theorem dL_law_1012 : decode cL_law 1012 = .ok (.iaload, 1) := by decide +kernel
theorem dL_law_1013 : decode cL_law 1013 = .ok (.aload_n 0, 1) := by decide +kernel
theorem dL_law_1014 : decode cL_law 1014 = .ok (.iload_n 3, 1) := by decide +kernel
theorem dL_law_1015 : decode cL_law 1015 = .ok (.iconst 2, 1) := by decide +kernel
theorem dL_law_1016 : decode cL_law 1016 = .ok (.iadd, 1) := by decide +kernel
theorem dL_law_1017 : decode cL_law 1017 = .ok (.iaload, 1) := by decide +kernel
theorem dL_law_1018 : decode cL_law 1018 = .ok (.invokevirtual 133, 3) := by decide +kernel
theorem dL_law_1021 : decode cL_law 1021 = .ok (.aload_n 2, 1) := by decide +kernel
theorem dL_law_1022 : decode cL_law 1022 = .ok (.aload_n 0, 1) := by decide +kernel
theorem dL_law_1023 : decode cL_law 1023 = .ok (.iload_n 3, 1) := by decide +kernel
theorem dL_law_1024 : decode cL_law 1024 = .ok (.iconst 1, 1) := by decide +kernel
theorem dL_law_1025 : decode cL_law 1025 = .ok (.iadd, 1) := by decide +kernel
theorem dL_law_1026 : decode cL_law 1026 = .ok (.iaload, 1) := by decide +kernel
theorem dL_law_1027 : decode cL_law 1027 = .ok (.aload_n 0, 1) := by decide +kernel
theorem dL_law_1028 : decode cL_law 1028 = .ok (.iload_n 3, 1) := by decide +kernel
theorem dL_law_1029 : decode cL_law 1029 = .ok (.iconst 2, 1) := by decide +kernel
theorem dL_law_1030 : decode cL_law 1030 = .ok (.iadd, 1) := by decide +kernel
theorem dL_law_1031 : decode cL_law 1031 = .ok (.iaload, 1) := by decide +kernel
theorem dL_law_1032 : decode cL_law 1032 = .ok (.invokevirtual 136, 3) := by decide +kernel
theorem dL_law_1035 : decode cL_law 1035 = .ok (.if_icmp .eq 490, 3) := by decide +kernel
theorem dL_law_1038 : decode cL_law 1038 = .ok (.iconst 0, 1) := by decide +kernel
theorem dL_law_1039 : decode cL_law 1039 = .ok (.ireturn, 1) := by decide +kernel
theorem dL_law_1040 : decode cL_law 1040 = .ok (.aload_n 1, 1) := by decide +kernel
theorem dL_law_1041 : decode cL_law 1041 = .ok (.aload_n 0, 1) := by decide +kernel
theorem dL_law_1042 : decode cL_law 1042 = .ok (.iload_n 3, 1) := by decide +kernel
theorem dL_law_1043 : decode cL_law 1043 = .ok (.iconst 1, 1) := by decide +kernel
theorem dL_law_1044 : decode cL_law 1044 = .ok (.iadd, 1) := by decide +kernel
theorem dL_law_1045 : decode cL_law 1045 = .ok (.iaload, 1) := by decide +kernel
theorem dL_law_1046 : decode cL_law 1046 = .ok (.invokevirtual 137, 3) := by decide +kernel
theorem dL_law_1049 : decode cL_law 1049 = .ok (.aload_n 2, 1) := by decide +kernel
theorem dL_law_1050 : decode cL_law 1050 = .ok (.aload_n 0, 1) := by decide +kernel
theorem dL_law_1051 : decode cL_law 1051 = .ok (.iload_n 3, 1) := by decide +kernel
theorem dL_law_1052 : decode cL_law 1052 = .ok (.iconst 1, 1) := by decide +kernel
theorem dL_law_1053 : decode cL_law 1053 = .ok (.iadd, 1) := by decide +kernel
theorem dL_law_1054 : decode cL_law 1054 = .ok (.iaload, 1) := by decide +kernel
theorem dL_law_1055 : decode cL_law 1055 = .ok (.invokevirtual 140, 3) := by decide +kernel
theorem dL_law_1058 : decode cL_law 1058 = .ok (.if_icmp .eq 467, 3) := by decide +kernel
theorem dL_law_1061 : decode cL_law 1061 = .ok (.iconst 0, 1) := by decide +kernel
theorem dL_law_1062 : decode cL_law 1062 = .ok (.ireturn, 1) := by decide +kernel
theorem dL_law_1063 : decode cL_law 1063 = .ok (.aload_n 1, 1) := by decide +kernel
theorem dL_law_1064 : decode cL_law 1064 = .ok (.aload_n 0, 1) := by decide +kernel
theorem dL_law_1065 : decode cL_law 1065 = .ok (.iload_n 3, 1) := by decide +kernel
theorem dL_law_1066 : decode cL_law 1066 = .ok (.iconst 1, 1) := by decide +kernel
theorem dL_law_1067 : decode cL_law 1067 = .ok (.iadd, 1) := by decide +kernel
theorem dL_law_1068 : decode cL_law 1068 = .ok (.iaload, 1) := by decide +kernel
theorem dL_law_1069 : decode cL_law 1069 = .ok (.aload_n 0, 1) := by decide +kernel
theorem dL_law_1070 : decode cL_law 1070 = .ok (.iload_n 3, 1) := by decide +kernel
theorem dL_law_1071 : decode cL_law 1071 = .ok (.iconst 2, 1) := by decide +kernel
theorem dL_law_1072 : decode cL_law 1072 = .ok (.iadd, 1) := by decide +kernel
theorem dL_law_1073 : decode cL_law 1073 = .ok (.iaload, 1) := by decide +kernel
theorem dL_law_1074 : decode cL_law 1074 = .ok (.invokevirtual 141, 3) := by decide +kernel
theorem dL_law_1077 : decode cL_law 1077 = .ok (.aload_n 2, 1) := by decide +kernel
theorem dL_law_1078 : decode cL_law 1078 = .ok (.aload_n 0, 1) := by decide +kernel
theorem dL_law_1079 : decode cL_law 1079 = .ok (.iload_n 3, 1) := by decide +kernel
theorem dL_law_1080 : decode cL_law 1080 = .ok (.iconst 1, 1) := by decide +kernel
theorem dL_law_1081 : decode cL_law 1081 = .ok (.iadd, 1) := by decide +kernel
theorem dL_law_1082 : decode cL_law 1082 = .ok (.iaload, 1) := by decide +kernel
theorem dL_law_1083 : decode cL_law 1083 = .ok (.aload_n 0, 1) := by decide +kernel
theorem dL_law_1084 : decode cL_law 1084 = .ok (.iload_n 3, 1) := by decide +kernel
theorem dL_law_1085 : decode cL_law 1085 = .ok (.iconst 2, 1) := by decide +kernel
theorem dL_law_1086 : decode cL_law 1086 = .ok (.iadd, 1) := by decide +kernel
theorem dL_law_1087 : decode cL_law 1087 = .ok (.iaload, 1) := by decide +kernel
theorem dL_law_1088 : decode cL_law 1088 = .ok (.invokevirtual 145, 3) := by decide +kernel
theorem dL_law_1091 : decode cL_law 1091 = .ok (.lcmp, 1) := by decide +kernel
theorem dL_law_1092 : decode cL_law 1092 = .ok (.ifCond .eq 433, 3) := by decide +kernel
theorem dL_law_1095 : decode cL_law 1095 = .ok (.iconst 0, 1) := by decide +kernel
theorem dL_law_1096 : decode cL_law 1096 = .ok (.ireturn, 1) := by decide +kernel
theorem dL_law_1097 : decode cL_law 1097 = .ok (.aload_n 1, 1) := by decide +kernel
theorem dL_law_1098 : decode cL_law 1098 = .ok (.aload_n 0, 1) := by decide +kernel
theorem dL_law_1099 : decode cL_law 1099 = .ok (.iload_n 3, 1) := by decide +kernel
theorem dL_law_1100 : decode cL_law 1100 = .ok (.iconst 1, 1) := by decide +kernel
theorem dL_law_1101 : decode cL_law 1101 = .ok (.iadd, 1) := by decide +kernel
theorem dL_law_1102 : decode cL_law 1102 = .ok (.iaload, 1) := by decide +kernel
theorem dL_law_1103 : decode cL_law 1103 = .ok (.invokevirtual 146, 3) := by decide +kernel
theorem dL_law_1106 : decode cL_law 1106 = .ok (.aload_n 2, 1) := by decide +kernel
theorem dL_law_1107 : decode cL_law 1107 = .ok (.aload_n 0, 1) := by decide +kernel
theorem dL_law_1108 : decode cL_law 1108 = .ok (.iload_n 3, 1) := by decide +kernel
theorem dL_law_1109 : decode cL_law 1109 = .ok (.iconst 1, 1) := by decide +kernel
theorem dL_law_1110 : decode cL_law 1110 = .ok (.iadd, 1) := by decide +kernel
theorem dL_law_1111 : decode cL_law 1111 = .ok (.iaload, 1) := by decide +kernel
theorem dL_law_1112 : decode cL_law 1112 = .ok (.invokevirtual 149, 3) := by decide +kernel
theorem dL_law_1115 : decode cL_law 1115 = .ok (.if_icmp .eq 410, 3) := by decide +kernel
theorem dL_law_1118 : decode cL_law 1118 = .ok (.iconst 0, 1) := by decide +kernel
theorem dL_law_1119 : decode cL_law 1119 = .ok (.ireturn, 1) := by decide +kernel
theorem dL_law_1120 : decode cL_law 1120 = .ok (.aload_n 1, 1) := by decide +kernel
theorem dL_law_1121 : decode cL_law 1121 = .ok (.aload_n 0, 1) := by decide +kernel
theorem dL_law_1122 : decode cL_law 1122 = .ok (.iload_n 3, 1) := by decide +kernel
theorem dL_law_1123 : decode cL_law 1123 = .ok (.iconst 1, 1) := by decide +kernel
theorem dL_law_1124 : decode cL_law 1124 = .ok (.iadd, 1) := by decide +kernel
theorem dL_law_1125 : decode cL_law 1125 = .ok (.iaload, 1) := by decide +kernel
theorem dL_law_1126 : decode cL_law 1126 = .ok (.aload_n 0, 1) := by decide +kernel
theorem dL_law_1127 : decode cL_law 1127 = .ok (.iload_n 3, 1) := by decide +kernel
theorem dL_law_1128 : decode cL_law 1128 = .ok (.iconst 2, 1) := by decide +kernel
theorem dL_law_1129 : decode cL_law 1129 = .ok (.iadd, 1) := by decide +kernel
theorem dL_law_1130 : decode cL_law 1130 = .ok (.iaload, 1) := by decide +kernel
theorem dL_law_1131 : decode cL_law 1131 = .ok (.invokevirtual 150, 3) := by decide +kernel
theorem dL_law_1134 : decode cL_law 1134 = .ok (.aload_n 2, 1) := by decide +kernel
theorem dL_law_1135 : decode cL_law 1135 = .ok (.aload_n 0, 1) := by decide +kernel
theorem dL_law_1136 : decode cL_law 1136 = .ok (.iload_n 3, 1) := by decide +kernel
theorem dL_law_1137 : decode cL_law 1137 = .ok (.iconst 1, 1) := by decide +kernel
theorem dL_law_1138 : decode cL_law 1138 = .ok (.iadd, 1) := by decide +kernel
theorem dL_law_1139 : decode cL_law 1139 = .ok (.iaload, 1) := by decide +kernel
theorem dL_law_1140 : decode cL_law 1140 = .ok (.aload_n 0, 1) := by decide +kernel
theorem dL_law_1141 : decode cL_law 1141 = .ok (.iload_n 3, 1) := by decide +kernel
theorem dL_law_1142 : decode cL_law 1142 = .ok (.iconst 2, 1) := by decide +kernel
theorem dL_law_1143 : decode cL_law 1143 = .ok (.iadd, 1) := by decide +kernel
theorem dL_law_1144 : decode cL_law 1144 = .ok (.iaload, 1) := by decide +kernel
theorem dL_law_1145 : decode cL_law 1145 = .ok (.invokevirtual 153, 3) := by decide +kernel
theorem dL_law_1148 : decode cL_law 1148 = .ok (.if_icmp .eq 377, 3) := by decide +kernel
theorem dL_law_1151 : decode cL_law 1151 = .ok (.iconst 0, 1) := by decide +kernel
theorem dL_law_1152 : decode cL_law 1152 = .ok (.ireturn, 1) := by decide +kernel
theorem dL_law_1153 : decode cL_law 1153 = .ok (.aload_n 1, 1) := by decide +kernel
theorem dL_law_1154 : decode cL_law 1154 = .ok (.invokevirtual 154, 3) := by decide +kernel
theorem dL_law_1157 : decode cL_law 1157 = .ok (.aload_n 2, 1) := by decide +kernel
theorem dL_law_1158 : decode cL_law 1158 = .ok (.invokevirtual 157, 3) := by decide +kernel
theorem dL_law_1161 : decode cL_law 1161 = .ok (.if_icmp .eq 364, 3) := by decide +kernel
theorem dL_law_1164 : decode cL_law 1164 = .ok (.iconst 0, 1) := by decide +kernel
theorem dL_law_1165 : decode cL_law 1165 = .ok (.ireturn, 1) := by decide +kernel
theorem dL_law_1166 : decode cL_law 1166 = .ok (.aload_n 1, 1) := by decide +kernel
theorem dL_law_1167 : decode cL_law 1167 = .ok (.invokevirtual 158, 3) := by decide +kernel
theorem dL_law_1170 : decode cL_law 1170 = .ok (.aload_n 2, 1) := by decide +kernel
theorem dL_law_1171 : decode cL_law 1171 = .ok (.invokevirtual 161, 3) := by decide +kernel
theorem dL_law_1174 : decode cL_law 1174 = .ok (.if_icmp .eq 351, 3) := by decide +kernel
theorem dL_law_1177 : decode cL_law 1177 = .ok (.iconst 0, 1) := by decide +kernel
theorem dL_law_1178 : decode cL_law 1178 = .ok (.ireturn, 1) := by decide +kernel
theorem dL_law_1179 : decode cL_law 1179 = .ok (.aload_n 1, 1) := by decide +kernel
theorem dL_law_1180 : decode cL_law 1180 = .ok (.aload_n 0, 1) := by decide +kernel
theorem dL_law_1181 : decode cL_law 1181 = .ok (.iload_n 3, 1) := by decide +kernel
theorem dL_law_1182 : decode cL_law 1182 = .ok (.iconst 1, 1) := by decide +kernel
theorem dL_law_1183 : decode cL_law 1183 = .ok (.iadd, 1) := by decide +kernel
theorem dL_law_1184 : decode cL_law 1184 = .ok (.iaload, 1) := by decide +kernel
theorem dL_law_1185 : decode cL_law 1185 = .ok (.aload_n 0, 1) := by decide +kernel
theorem dL_law_1186 : decode cL_law 1186 = .ok (.iload_n 3, 1) := by decide +kernel
theorem dL_law_1187 : decode cL_law 1187 = .ok (.iconst 2, 1) := by decide +kernel
theorem dL_law_1188 : decode cL_law 1188 = .ok (.iadd, 1) := by decide +kernel
theorem dL_law_1189 : decode cL_law 1189 = .ok (.iaload, 1) := by decide +kernel
theorem dL_law_1190 : decode cL_law 1190 = .ok (.invokevirtual 162, 3) := by decide +kernel
theorem dL_law_1193 : decode cL_law 1193 = .ok (.aload_n 2, 1) := by decide +kernel
theorem dL_law_1194 : decode cL_law 1194 = .ok (.aload_n 0, 1) := by decide +kernel
theorem dL_law_1195 : decode cL_law 1195 = .ok (.iload_n 3, 1) := by decide +kernel
theorem dL_law_1196 : decode cL_law 1196 = .ok (.iconst 1, 1) := by decide +kernel
theorem dL_law_1197 : decode cL_law 1197 = .ok (.iadd, 1) := by decide +kernel
theorem dL_law_1198 : decode cL_law 1198 = .ok (.iaload, 1) := by decide +kernel
theorem dL_law_1199 : decode cL_law 1199 = .ok (.aload_n 0, 1) := by decide +kernel
theorem dL_law_1200 : decode cL_law 1200 = .ok (.iload_n 3, 1) := by decide +kernel
theorem dL_law_1201 : decode cL_law 1201 = .ok (.iconst 2, 1) := by decide +kernel
theorem dL_law_1202 : decode cL_law 1202 = .ok (.iadd, 1) := by decide +kernel
theorem dL_law_1203 : decode cL_law 1203 = .ok (.iaload, 1) := by decide +kernel
theorem dL_law_1204 : decode cL_law 1204 = .ok (.invokevirtual 165, 3) := by decide +kernel
theorem dL_law_1207 : decode cL_law 1207 = .ok (.if_icmp .eq 318, 3) := by decide +kernel
theorem dL_law_1210 : decode cL_law 1210 = .ok (.iconst 0, 1) := by decide +kernel
theorem dL_law_1211 : decode cL_law 1211 = .ok (.ireturn, 1) := by decide +kernel
theorem dL_law_1212 : decode cL_law 1212 = .ok (.aload_n 1, 1) := by decide +kernel
theorem dL_law_1213 : decode cL_law 1213 = .ok (.aload_n 0, 1) := by decide +kernel
theorem dL_law_1214 : decode cL_law 1214 = .ok (.iload_n 3, 1) := by decide +kernel
theorem dL_law_1215 : decode cL_law 1215 = .ok (.iconst 1, 1) := by decide +kernel
theorem dL_law_1216 : decode cL_law 1216 = .ok (.iadd, 1) := by decide +kernel
theorem dL_law_1217 : decode cL_law 1217 = .ok (.iaload, 1) := by decide +kernel
theorem dL_law_1218 : decode cL_law 1218 = .ok (.aload_n 0, 1) := by decide +kernel
theorem dL_law_1219 : decode cL_law 1219 = .ok (.iload_n 3, 1) := by decide +kernel
theorem dL_law_1220 : decode cL_law 1220 = .ok (.iconst 2, 1) := by decide +kernel
theorem dL_law_1221 : decode cL_law 1221 = .ok (.iadd, 1) := by decide +kernel
theorem dL_law_1222 : decode cL_law 1222 = .ok (.iaload, 1) := by decide +kernel
theorem dL_law_1223 : decode cL_law 1223 = .ok (.invokevirtual 166, 3) := by decide +kernel
theorem dL_law_1226 : decode cL_law 1226 = .ok (.aload_n 2, 1) := by decide +kernel
theorem dL_law_1227 : decode cL_law 1227 = .ok (.aload_n 0, 1) := by decide +kernel
theorem dL_law_1228 : decode cL_law 1228 = .ok (.iload_n 3, 1) := by decide +kernel
theorem dL_law_1229 : decode cL_law 1229 = .ok (.iconst 1, 1) := by decide +kernel
theorem dL_law_1230 : decode cL_law 1230 = .ok (.iadd, 1) := by decide +kernel
theorem dL_law_1231 : decode cL_law 1231 = .ok (.iaload, 1) := by decide +kernel
theorem dL_law_1232 : decode cL_law 1232 = .ok (.aload_n 0, 1) := by decide +kernel
theorem dL_law_1233 : decode cL_law 1233 = .ok (.iload_n 3, 1) := by decide +kernel
theorem dL_law_1234 : decode cL_law 1234 = .ok (.iconst 2, 1) := by decide +kernel
theorem dL_law_1235 : decode cL_law 1235 = .ok (.iadd, 1) := by decide +kernel
theorem dL_law_1236 : decode cL_law 1236 = .ok (.iaload, 1) := by decide +kernel
theorem dL_law_1237 : decode cL_law 1237 = .ok (.invokevirtual 169, 3) := by decide +kernel
theorem dL_law_1240 : decode cL_law 1240 = .ok (.if_icmp .eq 285, 3) := by decide +kernel
theorem dL_law_1243 : decode cL_law 1243 = .ok (.iconst 0, 1) := by decide +kernel
theorem dL_law_1244 : decode cL_law 1244 = .ok (.ireturn, 1) := by decide +kernel
theorem dL_law_1245 : decode cL_law 1245 = .ok (.aload_n 1, 1) := by decide +kernel
theorem dL_law_1246 : decode cL_law 1246 = .ok (.aload_n 0, 1) := by decide +kernel
theorem dL_law_1247 : decode cL_law 1247 = .ok (.iload_n 3, 1) := by decide +kernel
theorem dL_law_1248 : decode cL_law 1248 = .ok (.iconst 1, 1) := by decide +kernel
theorem dL_law_1249 : decode cL_law 1249 = .ok (.iadd, 1) := by decide +kernel
theorem dL_law_1250 : decode cL_law 1250 = .ok (.iaload, 1) := by decide +kernel
theorem dL_law_1251 : decode cL_law 1251 = .ok (.aload_n 0, 1) := by decide +kernel
theorem dL_law_1252 : decode cL_law 1252 = .ok (.iload_n 3, 1) := by decide +kernel
theorem dL_law_1253 : decode cL_law 1253 = .ok (.iconst 2, 1) := by decide +kernel
theorem dL_law_1254 : decode cL_law 1254 = .ok (.iadd, 1) := by decide +kernel
theorem dL_law_1255 : decode cL_law 1255 = .ok (.iaload, 1) := by decide +kernel
theorem dL_law_1256 : decode cL_law 1256 = .ok (.aload_n 0, 1) := by decide +kernel
theorem dL_law_1257 : decode cL_law 1257 = .ok (.iload_n 3, 1) := by decide +kernel
theorem dL_law_1258 : decode cL_law 1258 = .ok (.iconst 3, 1) := by decide +kernel
theorem dL_law_1259 : decode cL_law 1259 = .ok (.iadd, 1) := by decide +kernel
theorem dL_law_1260 : decode cL_law 1260 = .ok (.iaload, 1) := by decide +kernel
theorem dL_law_1261 : decode cL_law 1261 = .ok (.invokevirtual 170, 3) := by decide +kernel
theorem dL_law_1264 : decode cL_law 1264 = .ok (.aload_n 2, 1) := by decide +kernel
theorem dL_law_1265 : decode cL_law 1265 = .ok (.aload_n 0, 1) := by decide +kernel
theorem dL_law_1266 : decode cL_law 1266 = .ok (.iload_n 3, 1) := by decide +kernel
theorem dL_law_1267 : decode cL_law 1267 = .ok (.iconst 1, 1) := by decide +kernel
theorem dL_law_1268 : decode cL_law 1268 = .ok (.iadd, 1) := by decide +kernel
theorem dL_law_1269 : decode cL_law 1269 = .ok (.iaload, 1) := by decide +kernel
theorem dL_law_1270 : decode cL_law 1270 = .ok (.aload_n 0, 1) := by decide +kernel
theorem dL_law_1271 : decode cL_law 1271 = .ok (.iload_n 3, 1) := by decide +kernel
theorem dL_law_1272 : decode cL_law 1272 = .ok (.iconst 2, 1) := by decide +kernel
theorem dL_law_1273 : decode cL_law 1273 = .ok (.iadd, 1) := by decide +kernel
theorem dL_law_1274 : decode cL_law 1274 = .ok (.iaload, 1) := by decide +kernel
theorem dL_law_1275 : decode cL_law 1275 = .ok (.aload_n 0, 1) := by decide +kernel
theorem dL_law_1276 : decode cL_law 1276 = .ok (.iload_n 3, 1) := by decide +kernel
theorem dL_law_1277 : decode cL_law 1277 = .ok (.iconst 3, 1) := by decide +kernel
theorem dL_law_1278 : decode cL_law 1278 = .ok (.iadd, 1) := by decide +kernel
theorem dL_law_1279 : decode cL_law 1279 = .ok (.iaload, 1) := by decide +kernel
theorem dL_law_1280 : decode cL_law 1280 = .ok (.invokevirtual 173, 3) := by decide +kernel
theorem dL_law_1283 : decode cL_law 1283 = .ok (.if_icmp .eq 242, 3) := by decide +kernel
theorem dL_law_1286 : decode cL_law 1286 = .ok (.iconst 0, 1) := by decide +kernel
theorem dL_law_1287 : decode cL_law 1287 = .ok (.ireturn, 1) := by decide +kernel
theorem dL_law_1288 : decode cL_law 1288 = .ok (.aload_n 1, 1) := by decide +kernel
theorem dL_law_1289 : decode cL_law 1289 = .ok (.aload_n 0, 1) := by decide +kernel
theorem dL_law_1290 : decode cL_law 1290 = .ok (.iload_n 3, 1) := by decide +kernel
theorem dL_law_1291 : decode cL_law 1291 = .ok (.iconst 1, 1) := by decide +kernel
theorem dL_law_1292 : decode cL_law 1292 = .ok (.iadd, 1) := by decide +kernel
theorem dL_law_1293 : decode cL_law 1293 = .ok (.iaload, 1) := by decide +kernel
theorem dL_law_1294 : decode cL_law 1294 = .ok (.aload_n 0, 1) := by decide +kernel
theorem dL_law_1295 : decode cL_law 1295 = .ok (.iload_n 3, 1) := by decide +kernel
theorem dL_law_1296 : decode cL_law 1296 = .ok (.iconst 2, 1) := by decide +kernel
theorem dL_law_1297 : decode cL_law 1297 = .ok (.iadd, 1) := by decide +kernel
theorem dL_law_1298 : decode cL_law 1298 = .ok (.iaload, 1) := by decide +kernel
theorem dL_law_1299 : decode cL_law 1299 = .ok (.aload_n 0, 1) := by decide +kernel
theorem dL_law_1300 : decode cL_law 1300 = .ok (.iload_n 3, 1) := by decide +kernel
theorem dL_law_1301 : decode cL_law 1301 = .ok (.iconst 3, 1) := by decide +kernel
theorem dL_law_1302 : decode cL_law 1302 = .ok (.iadd, 1) := by decide +kernel
theorem dL_law_1303 : decode cL_law 1303 = .ok (.iaload, 1) := by decide +kernel
theorem dL_law_1304 : decode cL_law 1304 = .ok (.invokevirtual 174, 3) := by decide +kernel
theorem dL_law_1307 : decode cL_law 1307 = .ok (.aload_n 2, 1) := by decide +kernel
theorem dL_law_1308 : decode cL_law 1308 = .ok (.aload_n 0, 1) := by decide +kernel
theorem dL_law_1309 : decode cL_law 1309 = .ok (.iload_n 3, 1) := by decide +kernel
theorem dL_law_1310 : decode cL_law 1310 = .ok (.iconst 1, 1) := by decide +kernel
theorem dL_law_1311 : decode cL_law 1311 = .ok (.iadd, 1) := by decide +kernel
theorem dL_law_1312 : decode cL_law 1312 = .ok (.iaload, 1) := by decide +kernel
theorem dL_law_1313 : decode cL_law 1313 = .ok (.aload_n 0, 1) := by decide +kernel
theorem dL_law_1314 : decode cL_law 1314 = .ok (.iload_n 3, 1) := by decide +kernel
theorem dL_law_1315 : decode cL_law 1315 = .ok (.iconst 2, 1) := by decide +kernel
theorem dL_law_1316 : decode cL_law 1316 = .ok (.iadd, 1) := by decide +kernel
theorem dL_law_1317 : decode cL_law 1317 = .ok (.iaload, 1) := by decide +kernel
theorem dL_law_1318 : decode cL_law 1318 = .ok (.aload_n 0, 1) := by decide +kernel
theorem dL_law_1319 : decode cL_law 1319 = .ok (.iload_n 3, 1) := by decide +kernel
theorem dL_law_1320 : decode cL_law 1320 = .ok (.iconst 3, 1) := by decide +kernel
theorem dL_law_1321 : decode cL_law 1321 = .ok (.iadd, 1) := by decide +kernel
theorem dL_law_1322 : decode cL_law 1322 = .ok (.iaload, 1) := by decide +kernel
theorem dL_law_1323 : decode cL_law 1323 = .ok (.invokevirtual 177, 3) := by decide +kernel
theorem dL_law_1326 : decode cL_law 1326 = .ok (.if_icmp .eq 199, 3) := by decide +kernel
theorem dL_law_1329 : decode cL_law 1329 = .ok (.iconst 0, 1) := by decide +kernel
theorem dL_law_1330 : decode cL_law 1330 = .ok (.ireturn, 1) := by decide +kernel
theorem dL_law_1331 : decode cL_law 1331 = .ok (.aload_n 1, 1) := by decide +kernel
theorem dL_law_1332 : decode cL_law 1332 = .ok (.aload_n 0, 1) := by decide +kernel
theorem dL_law_1333 : decode cL_law 1333 = .ok (.iload_n 3, 1) := by decide +kernel
theorem dL_law_1334 : decode cL_law 1334 = .ok (.iconst 1, 1) := by decide +kernel
theorem dL_law_1335 : decode cL_law 1335 = .ok (.iadd, 1) := by decide +kernel
theorem dL_law_1336 : decode cL_law 1336 = .ok (.iaload, 1) := by decide +kernel
theorem dL_law_1337 : decode cL_law 1337 = .ok (.aload_n 0, 1) := by decide +kernel
theorem dL_law_1338 : decode cL_law 1338 = .ok (.iload_n 3, 1) := by decide +kernel
theorem dL_law_1339 : decode cL_law 1339 = .ok (.iconst 2, 1) := by decide +kernel
theorem dL_law_1340 : decode cL_law 1340 = .ok (.iadd, 1) := by decide +kernel
theorem dL_law_1341 : decode cL_law 1341 = .ok (.iaload, 1) := by decide +kernel
theorem dL_law_1342 : decode cL_law 1342 = .ok (.aload_n 0, 1) := by decide +kernel
theorem dL_law_1343 : decode cL_law 1343 = .ok (.iload_n 3, 1) := by decide +kernel
theorem dL_law_1344 : decode cL_law 1344 = .ok (.iconst 3, 1) := by decide +kernel
theorem dL_law_1345 : decode cL_law 1345 = .ok (.iadd, 1) := by decide +kernel
theorem dL_law_1346 : decode cL_law 1346 = .ok (.iaload, 1) := by decide +kernel
theorem dL_law_1347 : decode cL_law 1347 = .ok (.aload_n 0, 1) := by decide +kernel
theorem dL_law_1348 : decode cL_law 1348 = .ok (.iload_n 3, 1) := by decide +kernel
theorem dL_law_1349 : decode cL_law 1349 = .ok (.iconst 4, 1) := by decide +kernel
theorem dL_law_1350 : decode cL_law 1350 = .ok (.iadd, 1) := by decide +kernel
theorem dL_law_1351 : decode cL_law 1351 = .ok (.iaload, 1) := by decide +kernel
theorem dL_law_1352 : decode cL_law 1352 = .ok (.aload_n 0, 1) := by decide +kernel
theorem dL_law_1353 : decode cL_law 1353 = .ok (.iload_n 3, 1) := by decide +kernel
theorem dL_law_1354 : decode cL_law 1354 = .ok (.iconst 5, 1) := by decide +kernel
theorem dL_law_1355 : decode cL_law 1355 = .ok (.iadd, 1) := by decide +kernel
theorem dL_law_1356 : decode cL_law 1356 = .ok (.iaload, 1) := by decide +kernel
theorem dL_law_1357 : decode cL_law 1357 = .ok (.invokevirtual 178, 3) := by decide +kernel
theorem dL_law_1360 : decode cL_law 1360 = .ok (.aload_n 2, 1) := by decide +kernel
theorem dL_law_1361 : decode cL_law 1361 = .ok (.aload_n 0, 1) := by decide +kernel
theorem dL_law_1362 : decode cL_law 1362 = .ok (.iload_n 3, 1) := by decide +kernel
theorem dL_law_1363 : decode cL_law 1363 = .ok (.iconst 1, 1) := by decide +kernel
theorem dL_law_1364 : decode cL_law 1364 = .ok (.iadd, 1) := by decide +kernel
theorem dL_law_1365 : decode cL_law 1365 = .ok (.iaload, 1) := by decide +kernel
theorem dL_law_1366 : decode cL_law 1366 = .ok (.aload_n 0, 1) := by decide +kernel
theorem dL_law_1367 : decode cL_law 1367 = .ok (.iload_n 3, 1) := by decide +kernel
theorem dL_law_1368 : decode cL_law 1368 = .ok (.iconst 2, 1) := by decide +kernel
theorem dL_law_1369 : decode cL_law 1369 = .ok (.iadd, 1) := by decide +kernel
theorem dL_law_1370 : decode cL_law 1370 = .ok (.iaload, 1) := by decide +kernel
theorem dL_law_1371 : decode cL_law 1371 = .ok (.aload_n 0, 1) := by decide +kernel
theorem dL_law_1372 : decode cL_law 1372 = .ok (.iload_n 3, 1) := by decide +kernel
theorem dL_law_1373 : decode cL_law 1373 = .ok (.iconst 3, 1) := by decide +kernel
theorem dL_law_1374 : decode cL_law 1374 = .ok (.iadd, 1) := by decide +kernel
theorem dL_law_1375 : decode cL_law 1375 = .ok (.iaload, 1) := by decide +kernel
theorem dL_law_1376 : decode cL_law 1376 = .ok (.aload_n 0, 1) := by decide +kernel
theorem dL_law_1377 : decode cL_law 1377 = .ok (.iload_n 3, 1) := by decide +kernel
theorem dL_law_1378 : decode cL_law 1378 = .ok (.iconst 4, 1) := by decide +kernel
theorem dL_law_1379 : decode cL_law 1379 = .ok (.iadd, 1) := by decide +kernel
theorem dL_law_1380 : decode cL_law 1380 = .ok (.iaload, 1) := by decide +kernel
theorem dL_law_1381 : decode cL_law 1381 = .ok (.aload_n 0, 1) := by decide +kernel
theorem dL_law_1382 : decode cL_law 1382 = .ok (.iload_n 3, 1) := by decide +kernel
theorem dL_law_1383 : decode cL_law 1383 = .ok (.iconst 5, 1) := by decide +kernel
theorem dL_law_1384 : decode cL_law 1384 = .ok (.iadd, 1) := by decide +kernel
theorem dL_law_1385 : decode cL_law 1385 = .ok (.iaload, 1) := by decide +kernel
theorem dL_law_1386 : decode cL_law 1386 = .ok (.invokevirtual 182, 3) := by decide +kernel
theorem dL_law_1389 : decode cL_law 1389 = .ok (.if_icmp .eq 136, 3) := by decide +kernel
theorem dL_law_1392 : decode cL_law 1392 = .ok (.iconst 0, 1) := by decide +kernel
theorem dL_law_1393 : decode cL_law 1393 = .ok (.ireturn, 1) := by decide +kernel
theorem dL_law_1394 : decode cL_law 1394 = .ok (.aload_n 1, 1) := by decide +kernel
theorem dL_law_1395 : decode cL_law 1395 = .ok (.aload_n 0, 1) := by decide +kernel
theorem dL_law_1396 : decode cL_law 1396 = .ok (.iload_n 3, 1) := by decide +kernel
theorem dL_law_1397 : decode cL_law 1397 = .ok (.iconst 1, 1) := by decide +kernel
theorem dL_law_1398 : decode cL_law 1398 = .ok (.iadd, 1) := by decide +kernel
theorem dL_law_1399 : decode cL_law 1399 = .ok (.iaload, 1) := by decide +kernel
theorem dL_law_1400 : decode cL_law 1400 = .ok (.invokevirtual 183, 3) := by decide +kernel
theorem dL_law_1403 : decode cL_law 1403 = .ok (.aload_n 2, 1) := by decide +kernel
theorem dL_law_1404 : decode cL_law 1404 = .ok (.aload_n 0, 1) := by decide +kernel
theorem dL_law_1405 : decode cL_law 1405 = .ok (.iload_n 3, 1) := by decide +kernel
theorem dL_law_1406 : decode cL_law 1406 = .ok (.iconst 1, 1) := by decide +kernel
theorem dL_law_1407 : decode cL_law 1407 = .ok (.iadd, 1) := by decide +kernel
theorem dL_law_1408 : decode cL_law 1408 = .ok (.iaload, 1) := by decide +kernel
theorem dL_law_1409 : decode cL_law 1409 = .ok (.invokevirtual 186, 3) := by decide +kernel
theorem dL_law_1412 : decode cL_law 1412 = .ok (.if_icmp .eq 113, 3) := by decide +kernel
theorem dL_law_1415 : decode cL_law 1415 = .ok (.iconst 0, 1) := by decide +kernel
theorem dL_law_1416 : decode cL_law 1416 = .ok (.ireturn, 1) := by decide +kernel
theorem dL_law_1417 : decode cL_law 1417 = .ok (.aload_n 1, 1) := by decide +kernel
theorem dL_law_1418 : decode cL_law 1418 = .ok (.aload_n 0, 1) := by decide +kernel
theorem dL_law_1419 : decode cL_law 1419 = .ok (.iload_n 3, 1) := by decide +kernel
theorem dL_law_1420 : decode cL_law 1420 = .ok (.iconst 1, 1) := by decide +kernel
theorem dL_law_1421 : decode cL_law 1421 = .ok (.iadd, 1) := by decide +kernel
theorem dL_law_1422 : decode cL_law 1422 = .ok (.iaload, 1) := by decide +kernel
theorem dL_law_1423 : decode cL_law 1423 = .ok (.invokevirtual 187, 3) := by decide +kernel
theorem dL_law_1426 : decode cL_law 1426 = .ok (.aload_n 2, 1) := by decide +kernel
theorem dL_law_1427 : decode cL_law 1427 = .ok (.aload_n 0, 1) := by decide +kernel
theorem dL_law_1428 : decode cL_law 1428 = .ok (.iload_n 3, 1) := by decide +kernel
theorem dL_law_1429 : decode cL_law 1429 = .ok (.iconst 1, 1) := by decide +kernel
theorem dL_law_1430 : decode cL_law 1430 = .ok (.iadd, 1) := by decide +kernel
theorem dL_law_1431 : decode cL_law 1431 = .ok (.iaload, 1) := by decide +kernel
theorem dL_law_1432 : decode cL_law 1432 = .ok (.invokevirtual 190, 3) := by decide +kernel
theorem dL_law_1435 : decode cL_law 1435 = .ok (.if_icmp .eq 90, 3) := by decide +kernel
theorem dL_law_1438 : decode cL_law 1438 = .ok (.iconst 0, 1) := by decide +kernel
theorem dL_law_1439 : decode cL_law 1439 = .ok (.ireturn, 1) := by decide +kernel
theorem dL_law_1440 : decode cL_law 1440 = .ok (.aload_n 1, 1) := by decide +kernel
theorem dL_law_1441 : decode cL_law 1441 = .ok (.invokevirtual 191, 3) := by decide +kernel
theorem dL_law_1444 : decode cL_law 1444 = .ok (.aload_n 2, 1) := by decide +kernel
theorem dL_law_1445 : decode cL_law 1445 = .ok (.invokevirtual 194, 3) := by decide +kernel
theorem dL_law_1448 : decode cL_law 1448 = .ok (.if_icmp .eq 77, 3) := by decide +kernel
theorem dL_law_1451 : decode cL_law 1451 = .ok (.iconst 0, 1) := by decide +kernel
theorem dL_law_1452 : decode cL_law 1452 = .ok (.ireturn, 1) := by decide +kernel
theorem dL_law_1453 : decode cL_law 1453 = .ok (.aload_n 1, 1) := by decide +kernel
theorem dL_law_1454 : decode cL_law 1454 = .ok (.invokevirtual 195, 3) := by decide +kernel
theorem dL_law_1457 : decode cL_law 1457 = .ok (.aload_n 2, 1) := by decide +kernel
theorem dL_law_1458 : decode cL_law 1458 = .ok (.invokevirtual 198, 3) := by decide +kernel
theorem dL_law_1461 : decode cL_law 1461 = .ok (.if_icmp .eq 64, 3) := by decide +kernel
theorem dL_law_1464 : decode cL_law 1464 = .ok (.iconst 0, 1) := by decide +kernel
theorem dL_law_1465 : decode cL_law 1465 = .ok (.ireturn, 1) := by decide +kernel
theorem dL_law_1466 : decode cL_law 1466 = .ok (.aload_n 1, 1) := by decide +kernel
theorem dL_law_1467 : decode cL_law 1467 = .ok (.invokevirtual 199, 3) := by decide +kernel
theorem dL_law_1470 : decode cL_law 1470 = .ok (.aload_n 2, 1) := by decide +kernel
theorem dL_law_1471 : decode cL_law 1471 = .ok (.invokevirtual 202, 3) := by decide +kernel
theorem dL_law_1474 : decode cL_law 1474 = .ok (.if_icmp .eq 51, 3) := by decide +kernel
theorem dL_law_1477 : decode cL_law 1477 = .ok (.iconst 0, 1) := by decide +kernel
theorem dL_law_1478 : decode cL_law 1478 = .ok (.ireturn, 1) := by decide +kernel
theorem dL_law_1479 : decode cL_law 1479 = .ok (.aload_n 1, 1) := by decide +kernel
theorem dL_law_1480 : decode cL_law 1480 = .ok (.aload_n 0, 1) := by decide +kernel
theorem dL_law_1481 : decode cL_law 1481 = .ok (.iload_n 3, 1) := by decide +kernel
theorem dL_law_1482 : decode cL_law 1482 = .ok (.iconst 1, 1) := by decide +kernel
theorem dL_law_1483 : decode cL_law 1483 = .ok (.iadd, 1) := by decide +kernel
theorem dL_law_1484 : decode cL_law 1484 = .ok (.iaload, 1) := by decide +kernel
theorem dL_law_1485 : decode cL_law 1485 = .ok (.invokevirtual 203, 3) := by decide +kernel
theorem dL_law_1488 : decode cL_law 1488 = .ok (.aload_n 2, 1) := by decide +kernel
theorem dL_law_1489 : decode cL_law 1489 = .ok (.aload_n 0, 1) := by decide +kernel
theorem dL_law_1490 : decode cL_law 1490 = .ok (.iload_n 3, 1) := by decide +kernel
theorem dL_law_1491 : decode cL_law 1491 = .ok (.iconst 1, 1) := by decide +kernel
theorem dL_law_1492 : decode cL_law 1492 = .ok (.iadd, 1) := by decide +kernel
theorem dL_law_1493 : decode cL_law 1493 = .ok (.iaload, 1) := by decide +kernel
theorem dL_law_1494 : decode cL_law 1494 = .ok (.invokevirtual 206, 3) := by decide +kernel
theorem dL_law_1497 : decode cL_law 1497 = .ok (.if_icmp .eq 28, 3) := by decide +kernel
theorem dL_law_1500 : decode cL_law 1500 = .ok (.iconst 0, 1) := by decide +kernel
theorem dL_law_1501 : decode cL_law 1501 = .ok (.ireturn, 1) := by decide +kernel
theorem dL_law_1502 : decode cL_law 1502 = .ok (.aload_n 1, 1) := by decide +kernel
theorem dL_law_1503 : decode cL_law 1503 = .ok (.aload_n 0, 1) := by decide +kernel
theorem dL_law_1504 : decode cL_law 1504 = .ok (.iload_n 3, 1) := by decide +kernel
theorem dL_law_1505 : decode cL_law 1505 = .ok (.iconst 1, 1) := by decide +kernel
theorem dL_law_1506 : decode cL_law 1506 = .ok (.iadd, 1) := by decide +kernel
theorem dL_law_1507 : decode cL_law 1507 = .ok (.iaload, 1) := by decide +kernel
theorem dL_law_1508 : decode cL_law 1508 = .ok (.invokevirtual 207, 3) := by decide +kernel
theorem dL_law_1511 : decode cL_law 1511 = .ok (.aload_n 2, 1) := by decide +kernel
theorem dL_law_1512 : decode cL_law 1512 = .ok (.aload_n 0, 1) := by decide +kernel
theorem dL_law_1513 : decode cL_law 1513 = .ok (.iload_n 3, 1) := by decide +kernel
theorem dL_law_1514 : decode cL_law 1514 = .ok (.iconst 1, 1) := by decide +kernel
theorem dL_law_1515 : decode cL_law 1515 = .ok (.iadd, 1) := by decide +kernel
theorem dL_law_1516 : decode cL_law 1516 = .ok (.iaload, 1) := by decide +kernel
theorem dL_law_1517 : decode cL_law 1517 = .ok (.invokevirtual 210, 3) := by decide +kernel
theorem dL_law_1520 : decode cL_law 1520 = .ok (.if_icmp .eq 5, 3) := by decide +kernel
theorem dL_law_1523 : decode cL_law 1523 = .ok (.iconst 0, 1) := by decide +kernel
theorem dL_law_1524 : decode cL_law 1524 = .ok (.ireturn, 1) := by decide +kernel
theorem dL_law_1525 : decode cL_law 1525 = .ok (.iinc 3 6, 3) := by decide +kernel
theorem dL_law_1528 : decode cL_law 1528 = .ok (.goto (-1510), 3) := by decide +kernel
theorem dL_law_1531 : decode cL_law 1531 = .ok (.iconst 1, 1) := by decide +kernel
theorem dL_law_1532 : decode cL_law 1532 = .ok (.ireturn, 1) := by decide +kernel
end
section
/-! ===== THE WORLD: one memory over numbered places; the judgement X over it ===== -/
abbrev Mem : Type := Nat → Nat → Int32
def upR (M : Mem) (k : Nat) (f : Nat → Int32) : Mem := fun a => if a = k then f else M a
def up (M : Mem) (k i : Nat) (x : Int32) : Mem := upR M k (upd (M k) i x)
theorem upR_s {M : Mem} {k : Nat} {f : Nat → Int32} : upR M k f k = f := if_pos rfl
theorem upR_n {M : Mem} {k a : Nat} {f : Nat → Int32} (h : a ≠ k) : upR M k f a = M a := if_neg h
theorem up_n {M : Mem} {k i a : Nat} {x : Int32} (h : a ≠ k) : up M k i x a = M a := if_neg h
theorem up_s {M : Mem} {k i : Nat} {x : Int32} : up M k i x k = upd (M k) i x := if_pos rfl
theorem up_ss {M : Mem} {k i : Nat} {x : Int32} : up M k i x k i = x := by rw [up_s]; exact pk_us
theorem up_sn {M : Mem} {k i j : Nat} {x : Int32} (h : j ≠ i) : up M k i x k j = M k j := by rw [up_s]; exact pk_un h
theorem up_any (M : Mem) (k i : Nat) (x : Int32) (a j : Nat) : up M k i x a j = if a = k ∧ j = i then x else M a j := by
  by_cases h : a = k
  · subst h
    rw [up_s]
    by_cases h2 : j = i
    · subst h2; rw [pk_us, if_pos ⟨rfl, rfl⟩]
    · rw [pk_un h2, if_neg (fun q => h2 q.2)]
  · rw [up_n h, if_neg (fun q => h q.1)]
/-- a long as two ints -/
def mkL (a b : Int32) : Int64 := Int64.ofInt (a.toInt * 4294967296 + b.toInt)
def loL (v : Int64) : Int32 := Int32.ofInt v.toInt
def hiL (v : Int64) : Int32 := Int32.ofInt ((v.toInt - (loL v).toInt) / 4294967296)
/-- addresses of the places, addresses of tables and texts, classes of arrays (int, char, boolean, Sheet), the classes' numbers, how many places -/
abbrev Gp : Type := (Nat → Nat) × (Nat → Nat) × (ClassId × ClassId × ClassId × ClassId) × va_G × Nat
def gad (g : Gp) : Nat → Nat := g.1
def gsa (g : Gp) : Nat → Nat := g.2.1
def gcI (g : Gp) : ClassId := g.2.2.1.1
def gcC (g : Gp) : ClassId := g.2.2.1.2.1
def gcZ (g : Gp) : ClassId := g.2.2.1.2.2.1
def gcO (g : Gp) : ClassId := g.2.2.1.2.2.2
def gD (g : Gp) : va_G := g.2.2.2.1
def gn (g : Gp) : Nat := g.2.2.2.2
def gtys (g : Gp) : List (ClassId × FieldType) := [(gcI g, .int), (gcC g, .char), (gcZ g, .boolean), (gcO g, .object "HourEggs$Sheet")]
def eI (g : Gp) (n : Nat) (f : Nat → Int32) : va_E := .inl (gcI g, n, .inl f)
def eC (g : Gp) (n : Nat) (f : Nat → Int32) : va_E := .inl (gcC g, n, .inl f)
def eZ (g : Gp) (n : Nat) (f : Nat → Int32) : va_E := .inl (gcZ g, n, .inl f)
def rowsT (j : Nat) : Int32 := if j = 0 then 8 else if j = 1 then 4 else 6
/-- a house and what is in it, from place h on -/
def entH (g : Gp) (h j : Nat) (f : Nat → Int32) : va_E :=
  if j = 0 then .inr (1, [.ref (gad g (h + 1)), .ref (gad g (h + 2)), .ref (gad g (h + 3)), .ref (gad g (h + 7)), .int (f 4), .int (f 5), .int (f 6)])
  else if j < 4 then .inr (4, [.int (rowsT (j - 1)), .ref (gsa g (2 * (j - 1))), .ref (gsa g (2 * (j - 1) + 1)), .ref (gad g (h + j + 3))])
  else if j < 7 then eI g 32 f
  else eI g 10 f
def entX (g : Gp) (k : Nat) (f : Nat → Int32) : va_E :=
  if k = 25 then .inr (0, [.ref (gad g 26), .ref (gad g 27), .int (f 2)])
  else if k < 28 then eI g 256 f
  else if k = 28 then .inl (gcO g, 4, .inr (.inr (.inr (.inr (fun i => some (gad g (29 + 2 * i)))))))
  else if k < 37 then (if k % 2 = 1 then .inr (3, [.ref (gad g (k + 1)), .int (f 1), .int (f 2)]) else eI g 40 f)
  else if k = 37 then .inr (5, [.ref (gad g 38), .int (f 1)])
  else if k = 38 then eI g 120 f
  else eI g 7 f
def lenM (k : Nat) : Nat := if k < 44 then 93 else if k = 44 then 7 else if k = 46 then 256 else if k = 47 then 120 else if k = 52 then 4 else if k = 53 then 4 else if k = 54 then 160 else 40
def lenC (k : Nat) : Nat := if k = 48 then 56 else 16
def entM (g : Gp) (k : Nat) (f : Nat → Int32) : va_E :=
  if k = 40 then .inr (7, [.ref (gad g 41), .ref (gad g 42), .ref (gad g 43), .int (f 3), .ref (gad g 44), .ref (gad g 45), .ref (gad g 46), .ref (gad g 47), .int (f 8), .int (f 9), .int (f 10), .int (f 11), .long (mkL (f 12) (f 21)), .ref (gad g 48), .ref (gad g 49), .ref (gad g 50), .ref (gad g 51), .ref (gad g 52), .ref (gad g 53), .ref (gad g 54), .ref (gad g 55)])
  else if k = 45 then eZ g 16384 f
  else if k < 48 then eI g (lenM k) f
  else if k < 52 then eC g (lenC k) f
  else eI g (lenM k) f
/-- what lies at a place: 0 the class's object, 1 to 24 its houses, 25 to 39 the rest of it, 40 to 55 the model, 56 a reader -/
def ent (g : Gp) (k : Nat) (f : Nat → Int32) : va_E :=
  if k = 0 then .inr (6, [.ref (gad g 1), .ref (gad g 9), .ref (gad g 17), .ref (gad g 25), .ref (gad g 28), .ref (gad g 37), .ref (gad g 39), .int (f 7)])
  else if k < 25 then entH g ((k - 1) / 8 * 8 + 1) ((k - 1) % 8) f
  else if k < 40 then entX g k f
  else if k < 56 then entM g k f
  else .inr (2, [.ref (gad g 37), .ref (gad g 17), .int (f 2), .int (f 3), .int (f 4), .int (f 5)])
def isH (h : Nat) : Prop := h = 1 ∨ h = 9 ∨ h = 17
theorem ent_H0 {g : Gp} {h : Nat} (hh : isH h) (f : Nat → Int32) : ent g h f = .inr (1, [.ref (gad g (h + 1)), .ref (gad g (h + 2)), .ref (gad g (h + 3)), .ref (gad g (h + 7)), .int (f 4), .int (f 5), .int (f 6)]) := by
  rcases hh with rfl | rfl | rfl <;> rfl
theorem ent_HT {g : Gp} {h : Nat} (hh : isH h) (j : Nat) (hj : j < 3) (f : Nat → Int32) : ent g (h + (j + 1)) f = .inr (4, [.int (rowsT j), .ref (gsa g (2 * j)), .ref (gsa g (2 * j + 1)), .ref (gad g (h + (j + 4)))]) := by
  rcases hh with rfl | rfl | rfl <;> rcases (show j = 0 ∨ j = 1 ∨ j = 2 by omega) with rfl | rfl | rfl <;> rfl
theorem ent_HC {g : Gp} {h : Nat} (hh : isH h) (j : Nat) (hj : j < 3) (f : Nat → Int32) : ent g (h + (j + 4)) f = eI g 32 f := by
  rcases hh with rfl | rfl | rfl <;> rcases (show j = 0 ∨ j = 1 ∨ j = 2 by omega) with rfl | rfl | rfl <;> rfl
theorem ent_HS {g : Gp} {h : Nat} (hh : isH h) (f : Nat → Int32) : ent g (h + 7) f = eI g 10 f := by
  rcases hh with rfl | rfl | rfl <;> rfl
theorem isH_lt {h : Nat} (hh : isH h) (j : Nat) (hj : j < 8) : h + j < 56 := by rcases hh with rfl | rfl | rfl <;> omega
def Wd (g : Gp) (M : Mem) : va_W := (List.range (gn g)).map (fun k => (gad g k, ent g k (M k)))
theorem Wd_len (g : Gp) (M : Mem) : (Wd g M).length = gn g := by simp [Wd]
theorem Wd_at {g : Gp} {M : Mem} {k : Nat} (hk : k < gn g) : (Wd g M)[k]? = some (gad g k, ent g k (M k)) := by simp [Wd, hk]
theorem Wd_atI {g : Gp} {M : Mem} {k : Nat} {q : Nat × va_E} (h : (Wd g M)[k]? = some q) : k < gn g ∧ q = (gad g k, ent g k (M k)) := by
  have hk : k < gn g := by rw [← Wd_len g M]; exact (List.getElem?_eq_some_iff.mp h).1
  exact ⟨hk, (Option.some.inj (h.symm.trans (Wd_at hk)))⟩
theorem Wd_set {g : Gp} {M : Mem} {k : Nat} (f : Nat → Int32) : (Wd g M).set k (gad g k, ent g k f) = Wd g (upR M k f) := by
  apply List.ext_getElem?
  intro i
  by_cases hi : i < gn g
  · by_cases hk : k = i
    · subst hk
      rw [List.getElem?_set_self (by rw [Wd_len]; exact hi), Wd_at hi, upR_s]
    · rw [List.getElem?_set_ne hk, Wd_at hi, Wd_at hi, upR_n (Ne.symm hk)]
  · rw [List.getElem?_eq_none (by rw [List.length_set, Wd_len]; omega), List.getElem?_eq_none (by rw [Wd_len]; omega)]
def Adok (A : Nat → Prop) (g : Gp) : Prop := (∀ i j, i < gn g → j < gn g → gad g i = gad g j → i = j) ∧ ∀ k, k < gn g → A (gad g k)
theorem Adok.D {A : Nat → Prop} {g : Gp} (h : Adok A g) (M : Mem) : va_D A (Wd g M) := by
  refine ⟨fun i j p q hi hj hpq => ?_, fun k q hk => ?_⟩
  · obtain ⟨h1, rfl⟩ := Wd_atI hi
    obtain ⟨h2, rfl⟩ := Wd_atI hj
    exact h.1 i j h1 h2 hpq
  · obtain ⟨h1, rfl⟩ := Wd_atI hk
    exact h.2 k h1
theorem Adok.of {A : Nat → Prop} {g : Gp} {M : Mem} (h : va_D A (Wd g M)) : Adok A g :=
  ⟨fun i j hi hj e => h.1 i j _ _ (Wd_at hi) (Wd_at hj) e, fun k hk => h.2 k _ (Wd_at hk)⟩
/-- what a call over the world may change: its places, and what is new -/
def Ag (g : Gp) (sz : Nat) : Nat → Prop := fun q => (∃ k, k < gn g ∧ q = gad g k) ∨ sz ≤ q
theorem Ag_in {g : Gp} {sz k : Nat} (h : k < gn g) : Ag g sz (gad g k) := Or.inl ⟨k, h, rfl⟩
/-- static tables: least, most of eggs, hens, works; UPPER, KEEPS -/
def tabs : List (List Int32) := [[0, 1, 0, 0], [6, 99, 99, 3], [0, 0, 1, 0], [30, 6, 99, 3], [0, 0, 0, -9999], [999, 99999, 99, 9999], [-1, 0, 0, 2, 3, 0, 1], [30, 30, 60, 60, 9, 5, 20]]
def tabN : List (String × String) := [("HourEggs$House", "EGG_LEAST"), ("HourEggs$House", "EGG_MOST"), ("HourEggs$House", "HEN_LEAST"), ("HourEggs$House", "HEN_MOST"), ("HourEggs$House", "WORK_LEAST"), ("HourEggs$House", "WORK_MOST"), ("HourEggs$Kinds", "UPPER"), ("HourEggs$Kinds", "KEEPS")]
def tabL (i : Nat) : Nat := (tabs.getD i []).length
def tabV (i j : Nat) : Int32 := (tabs.getD i []).getD j 0
/-- texts: the kinds' words, hen, work, aged, in, due, worth -/
def sTx : List String := ["egg", "leap", "warm", "borrowed", "rotten", "wind", "double", "hen", "work", "aged", "in", "due", "worth"]
def sIx : List Nat := [117, 105, 107, 109, 111, 113, 115, 32, 83, 61, 67, 85, 94]
def sBy : List (List Int32) := [[101, 103, 103], [108, 101, 97, 112], [119, 97, 114, 109], [98, 111, 114, 114, 111, 119, 101, 100], [114, 111, 116, 116, 101, 110], [119, 105, 110, 100], [100, 111, 117, 98, 108, 101], [104, 101, 110], [119, 111, 114, 107], [97, 103, 101, 100], [105, 110], [100, 117, 101], [119, 111, 114, 116, 104]]
def sLn : List Nat := [3, 4, 4, 8, 6, 4, 6, 3, 4, 4, 2, 3, 5]
def Sta (g : Gp) (A : Nat → Prop) (U : State) (H : Heap) : Prop :=
  (∀ i, i < 8 → va_T .int (gsa g i) (tabL i) (fun j => .int (tabV i j)) A U H ∧ va_Z (tabN.getD i ("", "")).1 (tabN.getD i ("", "")).2 "[I" (.ref (gsa g i)) A U H) ∧
  vk_S 13 sLn sBy (fun i => gsa g (8 + i)) (fun i => gsa g (21 + i)) A U H ∧ va_Z "java/lang/String" "COMPACT_STRINGS" "Z" (.int 1) A U H
/-- calls of a nest mate's private members -/
def nests : List (String × Nat × MethodName) := [(RX5, 29, yX7_copyRow), (RX1, 65, yX7_copyRow), (RX7, 24, yX0_init), (RX7, 35, yX4_init), (RX7, 38, yX6_init)]
def StR (g : Gp) (U : State) : Prop := (∀ i, i < 13 → vk_R "HourEggs$Reader" (sIx.getD i 0) (sTx.getD i "") (gsa g (8 + i)) U) ∧ ∀ x ∈ nests, va_Nw (.methodLinkNest x.1 x.2.1 x.2.2 "HourEggs") U
theorem Sta.moved {g : Gp} {A : Nat → Prop} {u U : State} {H : Heap} (hvm : u.vm.Alike U.vm) (h : Sta g A u H) : Sta g A U H :=
  ⟨fun i hi => ⟨(h.1 i hi).1.moved hvm, (h.1 i hi).2.moved hvm⟩, h.2.1.moved hvm, h.2.2.moved hvm⟩
theorem Sta.kept {g : Gp} {A : Nat → Prop} {U : State} {H H1 : Heap} (h : Sta g A U H) (hq : ∀ a : Nat, a < H.size → ¬ A a → H1[a]? = H[a]?) : Sta g A U H1 :=
  ⟨fun i hi => ⟨(h.1 i hi).1.kept hq, (h.1 i hi).2.kept hq⟩, h.2.1.kept hq, h.2.2.kept hq⟩
theorem Sta.narrow {g : Gp} {A B : Nat → Prop} {U : State} {H : Heap} (h : Sta g A U H) (hAB : ∀ q, B q → A q) : Sta g B U H :=
  ⟨fun i hi => ⟨(h.1 i hi).1.narrow hAB, (h.1 i hi).2.narrow hAB⟩, h.2.1.narrow hAB, h.2.2.narrow hAB⟩
theorem Sta.g {g g' : Gp} {A : Nat → Prop} {U : State} {H : Heap} (e : gsa g = gsa g') (h : Sta g A U H) : Sta g' A U H := by
  unfold Sta at h ⊢
  rw [← e]; exact h
theorem StR.same {g : Gp} {u U : State} (hv : U.vm = u.vm) (h : StR g u) : StR g U := ⟨fun i hi => (h.1 i hi).same hv, fun x hx => (h.2 x hx).same rfl hv.symm⟩
theorem StR.warm {g : Gp} {s U : State} (hW : s.WarmedH U.vm) (h : StR g s) : StR g U := ⟨fun i hi => (h.1 i hi).warm hW, fun x hx => (h.2 x hx).warmM hW⟩
theorem StR.g {g g' : Gp} {U : State} (e : gsa g = gsa g') (h : StR g U) : StR g' U := by
  unfold StR at h ⊢
  rw [← e]; exact h
/-! the words that every method has -/
def gT : List Cond := lw_tbl.filter goodWord
theorem gT_of {w : Cond} (h : w ∈ lw_tbl) (h2 : goodWord w = true) : w ∈ gT := List.mem_filter.mpr ⟨h, h2⟩
theorem gT_good : ∀ w ∈ gT, (w.onTables && w.keeps) = true ∨ ∃ ty, w = .arrayClass ty := fun w hw => good_of_word (List.mem_filter.mp hw).2
theorem gT_in {C : String} {T : u_T} {N : Nat} (h : ∀ w ∈ u_ws C T N, w ∈ lw_tbl) (h2 : (u_ws C T N).all goodWord = true) : ∀ w ∈ u_ws C T N, w ∈ gT := fun w hw => gT_of (h w hw) (List.all_eq_true.mp h2 w hw)
/-! locals: by places, none: not known -/
def lget : List (Option Value) → Nat → Option Value
  | [], _ => none
  | v :: _, 0 => v
  | _ :: t, n + 1 => lget t n
def lkill (v : Option Value) : Option Value := match v with
  | some (.long _) => none
  | some (.double _) => none
  | v => v
def lset1 : List (Option Value) → Nat → Value → List (Option Value)
  | [], _, _ => []
  | _ :: t, 0, v => some v :: t
  | a :: t, 1, v => lkill a :: lset1 t 0 v
  | a :: t, n + 2, v => a :: lset1 t (n + 1) v
def lset2 : List (Option Value) → Nat → Value → List (Option Value)
  | [], _, _ => []
  | [_], 0, v => [some v]
  | _ :: _ :: t, 0, v => some v :: none :: t
  | a :: t, 1, v => lkill a :: lset2 t 0 v
  | a :: t, n + 2, v => a :: lset2 t (n + 1) v
def lhas (la : Array Slot) (n : Nat) (ls : List (Option Value)) : Prop := la.size = n ∧ lv_wf la ∧ ∀ i v, lget ls i = some v → la[i]? = some (.val v)
theorem lkill_some {a : Option Value} {w : Value} (h : lkill a = some w) : a = some w ∧ ¬ w.category = 2 := by
  cases a with
  | none => cases h
  | some v => cases v <;> first | (cases h; exact ⟨rfl, by simp [Value.category]⟩) | cases h
theorem lget_set1 : ∀ (ls : List (Option Value)) (i j : Nat) (v w : Value), lget (lset1 ls i v) j = some w → (j = i ∧ w = v) ∨ (j ≠ i ∧ lget ls j = some w ∧ ¬ (j + 1 = i ∧ w.category = 2))
  | [], i, j, v, w, h => by cases h
  | a :: t, 0, 0, v, w, h => by cases h; exact Or.inl ⟨rfl, rfl⟩
  | a :: t, 0, j + 1, v, w, h => Or.inr ⟨by omega, h, fun q => by omega⟩
  | a :: t, 1, 0, v, w, h => by
    obtain ⟨h1, h2⟩ := lkill_some (a := a) h
    exact Or.inr ⟨by omega, h1, fun q => h2 q.2⟩
  | a :: t, 1, j + 1, v, w, h => by
    rcases lget_set1 t 0 j v w h with ⟨h1, h2⟩ | ⟨h1, h2, h3⟩
    · exact Or.inl ⟨by omega, h2⟩
    · exact Or.inr ⟨by omega, h2, fun q => h3 ⟨by omega, q.2⟩⟩
  | a :: t, n + 2, 0, v, w, h => Or.inr ⟨by omega, h, fun q => by omega⟩
  | a :: t, n + 2, j + 1, v, w, h => by
    rcases lget_set1 t (n + 1) j v w h with ⟨h1, h2⟩ | ⟨h1, h2, h3⟩
    · exact Or.inl ⟨by omega, h2⟩
    · exact Or.inr ⟨by omega, h2, fun q => h3 ⟨by omega, q.2⟩⟩
theorem lget_set2 : ∀ (ls : List (Option Value)) (i j : Nat) (v w : Value), lget (lset2 ls i v) j = some w → (j = i ∧ w = v) ∨ (j ≠ i ∧ j ≠ i + 1 ∧ lget ls j = some w ∧ ¬ (j + 1 = i ∧ w.category = 2))
  | [], i, j, v, w, h => by cases h
  | [a], 0, 0, v, w, h => by cases h; exact Or.inl ⟨rfl, rfl⟩
  | [a], 0, j + 1, v, w, h => by cases h
  | a :: b :: t, 0, 0, v, w, h => by cases h; exact Or.inl ⟨rfl, rfl⟩
  | a :: b :: t, 0, 1, v, w, h => by cases h
  | a :: b :: t, 0, j + 2, v, w, h => Or.inr ⟨by omega, by omega, h, fun q => by omega⟩
  | a :: t, 1, 0, v, w, h => by
    obtain ⟨h1, h2⟩ := lkill_some (a := a) (by cases t <;> exact h)
    exact Or.inr ⟨by omega, by omega, h1, fun q => h2 q.2⟩
  | a :: t, 1, j + 1, v, w, h => by
    rcases lget_set2 t 0 j v w (by cases t <;> exact h) with ⟨h1, h2⟩ | ⟨h1, h0, h2, h3⟩
    · exact Or.inl ⟨by omega, h2⟩
    · exact Or.inr ⟨by omega, by omega, h2, fun q => h3 ⟨by omega, q.2⟩⟩
  | a :: t, n + 2, 0, v, w, h => Or.inr ⟨by omega, by omega, by cases t <;> exact h, fun q => by omega⟩
  | a :: t, n + 2, j + 1, v, w, h => by
    rcases lget_set2 t (n + 1) j v w (by cases t <;> exact h) with ⟨h1, h2⟩ | ⟨h1, h0, h2, h3⟩
    · exact Or.inl ⟨by omega, h2⟩
    · exact Or.inr ⟨by omega, by omega, h2, fun q => h3 ⟨by omega, q.2⟩⟩
/-- the known places as the kit lists them -/
def lasl (ls : List (Option Value)) : List (Nat × Value) := (List.range ls.length).filterMap (fun j => (lget ls j).map (fun w => (j, w)))
theorem lget_len : ∀ {ls : List (Option Value)} {i : Nat} {v : Value}, lget ls i = some v → i < ls.length
  | [], i, v, h => by cases h
  | a :: t, 0, v, h => Nat.succ_pos _
  | a :: t, i + 1, v, h => Nat.succ_lt_succ (lget_len (ls := t) h)
theorem lasl_in {ls : List (Option Value)} {i : Nat} {v : Value} (h : lget ls i = some v) : (i, v) ∈ lasl ls :=
  List.mem_filterMap.mpr ⟨i, List.mem_range.mpr (lget_len h), by rw [h]; rfl⟩
theorem lhas_asl {la : Array Slot} {n : Nat} {ls : List (Option Value)} (h : lhas la n ls) : lv_has la n (lasl ls) := by
  refine ⟨h.1, h.2.1, fun q hq => ?_⟩
  obtain ⟨j, -, h2⟩ := List.mem_filterMap.mp hq
  cases hj : lget ls j with
  | none => rw [hj] at h2; cases h2
  | some w => rw [hj] at h2; cases h2; exact h.2.2 j w hj
theorem lhas_set1 {la : Array Slot} {n i : Nat} {ls : List (Option Value)} {v : Value} (h : lv_has la n ((i, v) :: (lasl ls).filter (fun q => !(q.1 == i) && !(q.1 + 1 == i && q.2.category == 2)))) : lhas la n (lset1 ls i v) := by
  refine ⟨h.1, h.2.1, fun j w hj => ?_⟩
  rcases lget_set1 ls i j v w hj with ⟨rfl, rfl⟩ | ⟨h1, h2, h3⟩
  · exact h.2.2 _ List.mem_cons_self
  · refine h.2.2 (j, w) (List.mem_cons_of_mem _ (List.mem_filter.mpr ⟨lasl_in h2, ?_⟩))
    simp only [Bool.and_eq_true, Bool.not_eq_true', beq_eq_false_iff_ne, Bool.and_eq_false_iff]
    refine ⟨h1, ?_⟩
    by_cases hz : j + 1 = i
    · exact Or.inr (fun q => h3 ⟨hz, q⟩)
    · exact Or.inl hz
theorem lhas_set2 {la : Array Slot} {n i : Nat} {ls : List (Option Value)} {v : Value} (h : lv_has la n ((i, v) :: (lasl ls).filter (fun q => !(q.1 == i) && (!(q.1 == i + 1) && !(q.1 + 1 == i && q.2.category == 2))))) : lhas la n (lset2 ls i v) := by
  refine ⟨h.1, h.2.1, fun j w hj => ?_⟩
  rcases lget_set2 ls i j v w hj with ⟨rfl, rfl⟩ | ⟨h1, h0, h2, h3⟩
  · exact h.2.2 _ List.mem_cons_self
  · refine h.2.2 (j, w) (List.mem_cons_of_mem _ (List.mem_filter.mpr ⟨lasl_in h2, ?_⟩))
    simp only [Bool.and_eq_true, Bool.not_eq_true', beq_eq_false_iff_ne, Bool.and_eq_false_iff]
    refine ⟨h1, h0, ?_⟩
    by_cases hz : j + 1 = i
    · exact Or.inr (fun q => h3 ⟨hz, q⟩)
    · exact Or.inl hz
/-- fewer known locals -/
def lle : List (Option Value) → List (Option Value) → Prop
  | [], _ => True
  | none :: t, [] => lle t []
  | none :: t, _ :: u => lle t u
  | some _ :: _, [] => False
  | some v :: t, w :: u => w = some v ∧ lle t u
theorem lle_get : ∀ {a b : List (Option Value)} {i : Nat} {v : Value}, lle a b → lget a i = some v → lget b i = some v
  | [], _, _, _, _, h => by cases h
  | none :: t, [], 0, _, _, h => by cases h
  | none :: t, [], i + 1, v, hl, h => by have := lle_get (a := t) (b := []) (i := i) hl h; cases this
  | none :: t, _ :: u, 0, _, _, h => by cases h
  | none :: t, _ :: u, i + 1, v, hl, h => lle_get (a := t) (b := u) hl h
  | some w :: t, [], _, _, hl, _ => hl.elim
  | some w :: t, x :: u, 0, v, hl, h => by cases h; exact hl.1
  | some w :: t, x :: u, i + 1, v, hl, h => lle_get (a := t) (b := u) hl.2 h
theorem lhas_le {la : Array Slot} {n : Nat} {a b : List (Option Value)} (h : lhas la n b) (hl : lle a b) : lhas la n a := ⟨h.1, h.2.1, fun i v hi => h.2.2 i v (lle_get hl hi)⟩
def linit (n : Nat) (vs : List Value) : List (Option Value) := vs.map some ++ List.replicate (n - vs.length) none
theorem lget_init : ∀ (vs : List Value) (m : Nat) (i : Nat) (v : Value), lget (vs.map some ++ List.replicate m none) i = some v → vs[i]? = some v
  | [], m, i, v, h => by
    exfalso
    revert i
    induction m with
    | zero => intro i h; cases h
    | succ m ih => intro i h; cases i with
      | zero => cases h
      | succ i => exact ih i h
  | a :: t, m, 0, v, h => by cases h; rfl
  | a :: t, m, i + 1, v, h => by rw [List.getElem?_cons_succ]; exact lget_init t m i v h
theorem lv_args_in : ∀ (vs : List Value) (k i : Nat) (v : Value), (vs.all fun v => v.category == 1) = true → vs[i]? = some v → (k + i, v) ∈ lv_args k vs
  | [], k, i, v, _, h => by cases h
  | a :: t, k, 0, v, _, h => by cases h; exact List.mem_cons_self
  | a :: t, k, i + 1, v, hc, h => by
    rw [List.all_cons, Bool.and_eq_true, beq_iff_eq] at hc
    have hn : ¬ a.category = 2 := by rw [hc.1]; decide
    have := lv_args_in t (k + 1) i v hc.2 (by rw [List.getElem?_cons_succ] at h; exact h)
    refine List.mem_cons_of_mem _ ?_
    rw [if_neg hn]
    rw [show k + (i + 1) = k + 1 + i by omega]
    exact this
theorem lhas_init {la : Array Slot} {n : Nat} {vs : List Value} (hc : (vs.all fun v => v.category == 1) = true) (h : lv_has la n (lv_args 0 vs)) : lhas la n (linit n vs) := by
  refine ⟨h.1, h.2.1, fun i v hi => ?_⟩
  have := lv_args_in vs 0 i v hc (lget_init vs _ i v hi)
  rw [Nat.zero_add] at this
  exact h.2.2 _ this
end
section
/-! ===== THE JUDGEMENT X, and a row an instruction ===== -/
abbrev Kr : Type := (Program × Env × State × MethodId) × (Array Value × List Frame × Method × Code) × (State → Prop) × (Nat → Prop) × (Nat × Nat)
abbrev Kx : Type := (Launch × Room × Gp × Nat) × Kr
abbrev kmk (l : Launch) (R : Room) (g : Gp) (n : Nat) (q : Kr) : Kx := ((l, R, g, n), q)
abbrev kl (κ : Kx) : Launch := κ.1.1
abbrev kR (κ : Kx) : Room := κ.1.2.1
abbrev kg (κ : Kx) : Gp := κ.1.2.2.1
abbrev knL (κ : Kx) : Nat := κ.1.2.2.2
abbrev kp (κ : Kx) : Program := κ.2.1.1
abbrev ke (κ : Kx) : Env := κ.2.1.2.1
abbrev ks (κ : Kx) : State := κ.2.1.2.2.1
abbrev km (κ : Kx) : MethodId := κ.2.1.2.2.2
abbrev ka (κ : Kx) : Array Value := κ.2.2.1.1
abbrev kb (κ : Kx) : List Frame := κ.2.2.1.2.1
abbrev kme (κ : Kx) : Method := κ.2.2.1.2.2.1
abbrev kc (κ : Kx) : Code := κ.2.2.1.2.2.2
abbrev kQ (κ : Kx) : State → Prop := κ.2.2.2.1
abbrev kA (κ : Kx) : Nat → Prop := κ.2.2.2.2.1
abbrev kce (κ : Kx) : Nat := κ.2.2.2.2.2.1
abbrev kso (κ : Kx) : Nat := κ.2.2.2.2.2.2
/-- from memory M, at pc with these locals and this operand stack, the method comes to what is asked -/
def X (κ : Kx) (M : Mem) (pc : Nat) (ls : List (Option Value)) (st : List Value) : Prop :=
  ∀ (H : Heap) (locs : List Loc) (la : Array Slot), va_P (gD (kg κ)) vwCl (Wd (kg κ) M) H → va_S (kA κ) (ks κ).heap H locs → lhas la (knL κ) ls →
    W (kp κ) (kl κ) (ke κ) (kR κ) (ks κ) (km κ) (ka κ) (kb κ) (kme κ) (kc κ) H locs (kce κ) (kso κ) (kQ κ) (F0 (km κ) pc la st)
/-- what stays the same while a method runs -/
def Cx (κ : Kx) (cc : ByteArray) (own : String) : Prop :=
  CallFix (kp κ) (km κ) (kc κ) cc (knL κ) (ks κ) (ka κ) gT own ∧ va_K (gD (kg κ)) vwCl (gtys (kg κ)) (ks κ) ∧ Adok (kA κ) (kg κ) ∧ (∀ q, (ks κ).heap.size ≤ q → kA κ q) ∧ 56 ≤ gn (kg κ) ∧ Sta (kg κ) (kA κ) (ks κ) (ks κ).heap ∧ StR (kg κ) (ks κ)
section XR
variable {κ : Kx} {cc : ByteArray} {own : String} {M : Mem} {pc : Nat} {ls : List (Option Value)} {st : List Value}
theorem Cx.x (C : Cx κ cc own) : (kp κ).tables.exec = Jvm.exec := C.1.1
theorem Cx.b (C : Cx κ cc own) : (kc κ).code = cc := C.1.2.1
theorem Cx.ml (C : Cx κ cc own) : (kc κ).maxLocals = knL κ := C.1.2.2.1
theorem Cx.ow (C : Cx κ cc own) : (ks κ).vm.findClass own = some (km κ).cls := C.1.2.2.2.1
theorem Cx.ts (C : Cx κ cc own) : ∀ w ∈ gT, w.before (ka κ) (ks κ) = true := C.1.2.2.2.2
theorem Cx.K (C : Cx κ cc own) : va_K (gD (kg κ)) vwCl (gtys (kg κ)) (ks κ) := C.2.1
theorem Cx.A (C : Cx κ cc own) : Adok (kA κ) (kg κ) := C.2.2.1
theorem Cx.N (C : Cx κ cc own) : ∀ q, (ks κ).heap.size ≤ q → kA κ q := C.2.2.2.1
theorem Cx.n (C : Cx κ cc own) : 56 ≤ gn (kg κ) := C.2.2.2.2.1
theorem Cx.S (C : Cx κ cc own) : Sta (kg κ) (kA κ) (ks κ) (ks κ).heap := C.2.2.2.2.2.1
theorem Cx.R (C : Cx κ cc own) : StR (kg κ) (ks κ) := C.2.2.2.2.2.2
theorem Cx.lt (C : Cx κ cc own) {k : Nat} (h : Nat.blt k 56 = true) : k < gn (kg κ) := Nat.lt_of_lt_of_le (Nat.le_of_ble_eq_true h) C.n
theorem Cx.lt' (C : Cx κ cc own) {k : Nat} (h : k < 56) : k < gn (kg κ) := Nat.lt_of_lt_of_le h C.n
theorem X.le {ls' : List (Option Value)} (h : lle ls' ls) (k : X κ M pc ls' st) : X κ M pc ls st := fun H locs la hP hS hl => k H locs la hP hS (lhas_le hl h)
theorem x_topi {x : Int32} {rest : List Value} (k : ∀ y : Int32, y = x → X κ M pc ls (.int y :: rest)) : X κ M pc ls (.int x :: rest) := k x rfl
theorem x_topl {x : Int64} {rest : List Value} (k : ∀ y : Int64, y = x → X κ M pc ls (.long y :: rest)) : X κ M pc ls (.long x :: rest) := k x rfl
theorem x_topE {x y : Int32} {rest : List Value} (h : x = y) (k : X κ M pc ls (.int y :: rest)) : X κ M pc ls (.int x :: rest) := h ▸ k
theorem x_mem {M' : Mem} (h : M' = M) (k : X κ M' pc ls st) : X κ M pc ls st := h ▸ k
theorem x_iconst (C : Cx κ cc own) {n : Int} {v : Int32} (hd : decode cc pc = .ok (.iconst n, 1)) (hv : Int32.ofInt n = v) (k : X κ M (pc + 1) ls (.int v :: st)) : X κ M pc ls st := fun H locs la hP hS hl => lv_iconst C.x C.b hd hv (k H locs la hP hS hl)
theorem x_bipush (C : Cx κ cc own) {n : Int} {v : Int32} (hd : decode cc pc = .ok (.bipush n, 2)) (hv : (Int8.ofInt n).toInt32 = v) (k : X κ M (pc + 2) ls (.int v :: st)) : X κ M pc ls st := fun H locs la hP hS hl => lv_bipush C.x C.b hd hv (k H locs la hP hS hl)
theorem x_sipush (C : Cx κ cc own) {n : Int} {v : Int32} (hd : decode cc pc = .ok (.sipush n, 3)) (hv : (Int16.ofInt n).toInt32 = v) (k : X κ M (pc + 3) ls (.int v :: st)) : X κ M pc ls st := fun H locs la hP hS hl => lv_sipush C.x C.b hd hv (k H locs la hP hS hl)
theorem x_lconst (C : Cx κ cc own) {n : Fin 2} {v : Int64} (hd : decode cc pc = .ok (.lconst n, 1)) (hv : Int64.ofNat (n : Nat) = v) (k : X κ M (pc + 1) ls (.long v :: st)) : X κ M pc ls st := fun H locs la hP hS hl => lv_lconst C.x C.b hd hv (k H locs la hP hS hl)
theorem x_iload_n (C : Cx κ cc own) {n : Fin 4} {x : Int32} (hd : decode cc pc = .ok (.iload_n n, 1)) (hg : lget ls (n : Nat) = some (.int x)) (k : X κ M (pc + 1) ls (.int x :: st)) : X κ M pc ls st := fun H locs la hP hS hl => lv_iload_n C.x C.b hd rfl (hl.2.2 _ _ hg) (k H locs la hP hS hl)
theorem x_iload (C : Cx κ cc own) {n : Nat} {x : Int32} (hd : decode cc pc = .ok (.iload n, 2)) (hg : lget ls n = some (.int x)) (k : X κ M (pc + 2) ls (.int x :: st)) : X κ M pc ls st := fun H locs la hP hS hl => lv_iload C.x C.b hd (hl.2.2 _ _ hg) (k H locs la hP hS hl)
theorem x_lload_n (C : Cx κ cc own) {n : Fin 4} {x : Int64} (hd : decode cc pc = .ok (.lload_n n, 1)) (hg : lget ls (n : Nat) = some (.long x)) (k : X κ M (pc + 1) ls (.long x :: st)) : X κ M pc ls st := fun H locs la hP hS hl => lv_lload_n C.x C.b hd rfl (hl.2.2 _ _ hg) (k H locs la hP hS hl)
theorem x_lload (C : Cx κ cc own) {n : Nat} {x : Int64} (hd : decode cc pc = .ok (.lload n, 2)) (hg : lget ls n = some (.long x)) (k : X κ M (pc + 2) ls (.long x :: st)) : X κ M pc ls st := fun H locs la hP hS hl => lv_lload C.x C.b hd (hl.2.2 _ _ hg) (k H locs la hP hS hl)
theorem x_aload_n (C : Cx κ cc own) {n : Fin 4} {x : Nat} (hd : decode cc pc = .ok (.aload_n n, 1)) (hg : lget ls (n : Nat) = some (.ref x)) (k : X κ M (pc + 1) ls (.ref x :: st)) : X κ M pc ls st := fun H locs la hP hS hl => lv_aload_n C.x C.b hd rfl (hl.2.2 _ _ hg) (k H locs la hP hS hl)
theorem x_aload (C : Cx κ cc own) {n : Nat} {x : Nat} (hd : decode cc pc = .ok (.aload n, 2)) (hg : lget ls n = some (.ref x)) (k : X κ M (pc + 2) ls (.ref x :: st)) : X κ M pc ls st := fun H locs la hP hS hl => lv_aload C.x C.b hd (hl.2.2 _ _ hg) (k H locs la hP hS hl)
theorem x_aload_nN (C : Cx κ cc own) {n : Fin 4} (hd : decode cc pc = .ok (.aload_n n, 1)) (hg : lget ls (n : Nat) = some (.null)) (k : X κ M (pc + 1) ls (.null :: st)) : X κ M pc ls st := fun H locs la hP hS hl => lv_aload_nN C.x C.b hd rfl (hl.2.2 _ _ hg) (k H locs la hP hS hl)
theorem x_aloadN (C : Cx κ cc own) {n : Nat} (hd : decode cc pc = .ok (.aload n, 2)) (hg : lget ls n = some (.null)) (k : X κ M (pc + 2) ls (.null :: st)) : X κ M pc ls st := fun H locs la hP hS hl => lv_aloadN C.x C.b hd (hl.2.2 _ _ hg) (k H locs la hP hS hl)
theorem x_istore_n (C : Cx κ cc own) {n : Fin 4} {x : Int32} (hd : decode cc pc = .ok (.istore_n n, 1)) (hn : Nat.blt (n : Nat) (knL κ) = true) (k : X κ M (pc + 1) (lset1 ls (n : Nat) (.int x)) st) : X κ M pc ls (.int x :: st) := fun H locs la hP hS hl => lv_istore_n C.x C.b hd rfl (lhas_asl hl) (Nat.le_of_ble_eq_true hn) rfl (fun la' hl' => k H locs la' hP hS (lhas_set1 hl'))
theorem x_istore (C : Cx κ cc own) {n : Nat} {x : Int32} (hd : decode cc pc = .ok (.istore n, 2)) (hn : Nat.blt n (knL κ) = true) (k : X κ M (pc + 2) (lset1 ls n (.int x)) st) : X κ M pc ls (.int x :: st) := fun H locs la hP hS hl => lv_istore C.x C.b hd (lhas_asl hl) (Nat.le_of_ble_eq_true hn) rfl (fun la' hl' => k H locs la' hP hS (lhas_set1 hl'))
theorem x_astore_n (C : Cx κ cc own) {n : Fin 4} {x : Nat} (hd : decode cc pc = .ok (.astore_n n, 1)) (hn : Nat.blt (n : Nat) (knL κ) = true) (k : X κ M (pc + 1) (lset1 ls (n : Nat) (.ref x)) st) : X κ M pc ls (.ref x :: st) := fun H locs la hP hS hl => lv_astore_n C.x C.b hd rfl (lhas_asl hl) (Nat.le_of_ble_eq_true hn) rfl (fun la' hl' => k H locs la' hP hS (lhas_set1 hl'))
theorem x_astore (C : Cx κ cc own) {n : Nat} {x : Nat} (hd : decode cc pc = .ok (.astore n, 2)) (hn : Nat.blt n (knL κ) = true) (k : X κ M (pc + 2) (lset1 ls n (.ref x)) st) : X κ M pc ls (.ref x :: st) := fun H locs la hP hS hl => lv_astore C.x C.b hd (lhas_asl hl) (Nat.le_of_ble_eq_true hn) rfl (fun la' hl' => k H locs la' hP hS (lhas_set1 hl'))
theorem x_astore_nN (C : Cx κ cc own) {n : Fin 4} (hd : decode cc pc = .ok (.astore_n n, 1)) (hn : Nat.blt (n : Nat) (knL κ) = true) (k : X κ M (pc + 1) (lset1 ls (n : Nat) .null) st) : X κ M pc ls (.null :: st) := fun H locs la hP hS hl => lv_astore_nN C.x C.b hd rfl (lhas_asl hl) (Nat.le_of_ble_eq_true hn) rfl (fun la' hl' => k H locs la' hP hS (lhas_set1 hl'))
theorem x_astoreN (C : Cx κ cc own) {n : Nat} (hd : decode cc pc = .ok (.astore n, 2)) (hn : Nat.blt n (knL κ) = true) (k : X κ M (pc + 2) (lset1 ls n .null) st) : X κ M pc ls (.null :: st) := fun H locs la hP hS hl => lv_astoreN C.x C.b hd (lhas_asl hl) (Nat.le_of_ble_eq_true hn) rfl (fun la' hl' => k H locs la' hP hS (lhas_set1 hl'))
theorem x_lstore_n (C : Cx κ cc own) {n : Fin 4} {x : Int64} (hd : decode cc pc = .ok (.lstore_n n, 1)) (hn : Nat.blt ((n : Nat) + 1) (knL κ) = true) (k : X κ M (pc + 1) (lset2 ls (n : Nat) (.long x)) st) : X κ M pc ls (.long x :: st) := fun H locs la hP hS hl => lv_lstore_n C.x C.b hd rfl (lhas_asl hl) (Nat.le_of_ble_eq_true hn) rfl (fun la' hl' => k H locs la' hP hS (lhas_set2 hl'))
theorem x_lstore (C : Cx κ cc own) {n : Nat} {x : Int64} (hd : decode cc pc = .ok (.lstore n, 2)) (hn : Nat.blt (n + 1) (knL κ) = true) (k : X κ M (pc + 2) (lset2 ls n (.long x)) st) : X κ M pc ls (.long x :: st) := fun H locs la hP hS hl => lv_lstore C.x C.b hd (lhas_asl hl) (Nat.le_of_ble_eq_true hn) rfl (fun la' hl' => k H locs la' hP hS (lhas_set2 hl'))
theorem x_iinc (C : Cx κ cc own) {i : Nat} {n : Int} {x v : Int32} (hd : decode cc pc = .ok (.iinc i n, 3)) (hg : lget ls i = some (.int x)) (hv : x + Int32.ofInt n = v) (hn : Nat.blt i (knL κ) = true) (k : X κ M (pc + 3) (lset1 ls i (.int v)) st) : X κ M pc ls st := fun H locs la hP hS hl => by
  obtain ⟨j, hj⟩ := List.getElem?_of_mem (lasl_in hg)
  exact lv_iinc C.x C.b hd (lhas_asl hl) hj hv (Nat.le_of_ble_eq_true hn) rfl (fun la' hl' => k H locs la' hP hS (lhas_set1 hl'))
theorem x_iadd (C : Cx κ cc own) {x y : Int32} (hd : decode cc pc = .ok (.iadd, 1)) (k : X κ M (pc + 1) ls (.int (x + y) :: st)) : X κ M pc ls (.int y :: .int x :: st) := fun H locs la hP hS hl => lv_iadd C.x C.b hd (k H locs la hP hS hl)
theorem x_isub (C : Cx κ cc own) {x y : Int32} (hd : decode cc pc = .ok (.isub, 1)) (k : X κ M (pc + 1) ls (.int (x - y) :: st)) : X κ M pc ls (.int y :: .int x :: st) := fun H locs la hP hS hl => lv_isub C.x C.b hd (k H locs la hP hS hl)
theorem x_imul (C : Cx κ cc own) {x y : Int32} (hd : decode cc pc = .ok (.imul, 1)) (k : X κ M (pc + 1) ls (.int (x * y) :: st)) : X κ M pc ls (.int y :: .int x :: st) := fun H locs la hP hS hl => lv_imul C.x C.b hd (k H locs la hP hS hl)
theorem x_iand (C : Cx κ cc own) {x y : Int32} (hd : decode cc pc = .ok (.iand, 1)) (k : X κ M (pc + 1) ls (.int (x &&& y) :: st)) : X κ M pc ls (.int y :: .int x :: st) := fun H locs la hP hS hl => lv_iand C.x C.b hd (k H locs la hP hS hl)
theorem x_ior (C : Cx κ cc own) {x y : Int32} (hd : decode cc pc = .ok (.ior, 1)) (k : X κ M (pc + 1) ls (.int (x ||| y) :: st)) : X κ M pc ls (.int y :: .int x :: st) := fun H locs la hP hS hl => lv_ior C.x C.b hd (k H locs la hP hS hl)
theorem x_ixor (C : Cx κ cc own) {x y : Int32} (hd : decode cc pc = .ok (.ixor, 1)) (k : X κ M (pc + 1) ls (.int (x ^^^ y) :: st)) : X κ M pc ls (.int y :: .int x :: st) := fun H locs la hP hS hl => lv_ixor C.x C.b hd (k H locs la hP hS hl)
theorem x_ishl (C : Cx κ cc own) {x y : Int32} (hd : decode cc pc = .ok (.ishl, 1)) (k : X κ M (pc + 1) ls (.int (x <<< (y &&& 31)) :: st)) : X κ M pc ls (.int y :: .int x :: st) := fun H locs la hP hS hl => lv_ishl C.x C.b hd (k H locs la hP hS hl)
theorem x_ishr (C : Cx κ cc own) {x y : Int32} (hd : decode cc pc = .ok (.ishr, 1)) (k : X κ M (pc + 1) ls (.int (x >>> (y &&& 31)) :: st)) : X κ M pc ls (.int y :: .int x :: st) := fun H locs la hP hS hl => lv_ishr C.x C.b hd (k H locs la hP hS hl)
theorem x_idiv (C : Cx κ cc own) {x y : Int32} (hd : decode cc pc = .ok (.idiv, 1)) (hne : ¬ y = 0) (k : X κ M (pc + 1) ls (.int (x / y) :: st)) : X κ M pc ls (.int y :: .int x :: st) := fun H locs la hP hS hl => lv_idiv C.x C.b hd hne (k H locs la hP hS hl)
theorem x_irem (C : Cx κ cc own) {x y : Int32} (hd : decode cc pc = .ok (.irem, 1)) (hne : ¬ y = 0) (k : X κ M (pc + 1) ls (.int (x - x / y * y) :: st)) : X κ M pc ls (.int y :: .int x :: st) := fun H locs la hP hS hl => lv_irem C.x C.b hd hne (k H locs la hP hS hl)
theorem x_ineg (C : Cx κ cc own) {x : Int32} (hd : decode cc pc = .ok (.ineg, 1)) (k : X κ M (pc + 1) ls (.int (-x) :: st)) : X κ M pc ls (.int x :: st) := fun H locs la hP hS hl => lv_ineg C.x C.b hd (k H locs la hP hS hl)
theorem x_ladd (C : Cx κ cc own) {x y : Int64} (hd : decode cc pc = .ok (.ladd, 1)) (k : X κ M (pc + 1) ls (.long (x + y) :: st)) : X κ M pc ls (.long y :: .long x :: st) := fun H locs la hP hS hl => lv_ladd C.x C.b hd (k H locs la hP hS hl)
theorem x_lsub (C : Cx κ cc own) {x y : Int64} (hd : decode cc pc = .ok (.lsub, 1)) (k : X κ M (pc + 1) ls (.long (x - y) :: st)) : X κ M pc ls (.long y :: .long x :: st) := fun H locs la hP hS hl => lv_lsub C.x C.b hd (k H locs la hP hS hl)
theorem x_lmul (C : Cx κ cc own) {x y : Int64} (hd : decode cc pc = .ok (.lmul, 1)) (k : X κ M (pc + 1) ls (.long (x * y) :: st)) : X κ M pc ls (.long y :: .long x :: st) := fun H locs la hP hS hl => lv_lmul C.x C.b hd (k H locs la hP hS hl)
theorem x_lcmp (C : Cx κ cc own) {x y : Int64} (hd : decode cc pc = .ok (.lcmp, 1)) (k : X κ M (pc + 1) ls (.int (lg_cmp x y) :: st)) : X κ M pc ls (.long y :: .long x :: st) := fun H locs la hP hS hl => W.lcmp C.x C.b hd (k H locs la hP hS hl)
theorem x_i2l (C : Cx κ cc own) {x : Int32} {v : Int64} (hd : decode cc pc = .ok (.i2l, 1)) (hv : x.toInt64 = v) (k : X κ M (pc + 1) ls (.long v :: st)) : X κ M pc ls (.int x :: st) := fun H locs la hP hS hl => lv_i2l C.x C.b hd hv (k H locs la hP hS hl)
theorem x_l2i (C : Cx κ cc own) {x : Int64} {v : Int32} (hd : decode cc pc = .ok (.l2i, 1)) (hv : x.toInt32 = v) (k : X κ M (pc + 1) ls (.int v :: st)) : X κ M pc ls (.long x :: st) := fun H locs la hP hS hl => lv_l2i C.x C.b hd hv (k H locs la hP hS hl)
theorem x_i2b (C : Cx κ cc own) {x v : Int32} (hd : decode cc pc = .ok (.i2b, 1)) (hv : x.toInt8.toInt32 = v) (k : X κ M (pc + 1) ls (.int v :: st)) : X κ M pc ls (.int x :: st) := fun H locs la hP hS hl => lv_i2b C.x C.b hd hv (k H locs la hP hS hl)
theorem x_i2s (C : Cx κ cc own) {x v : Int32} (hd : decode cc pc = .ok (.i2s, 1)) (hv : x.toInt16.toInt32 = v) (k : X κ M (pc + 1) ls (.int v :: st)) : X κ M pc ls (.int x :: st) := fun H locs la hP hS hl => lv_i2s C.x C.b hd hv (k H locs la hP hS hl)
theorem x_i2c (C : Cx κ cc own) {x v : Int32} (hd : decode cc pc = .ok (.i2c, 1)) (hv : (x.toUInt32 % 65536).toInt32 = v) (k : X κ M (pc + 1) ls (.int v :: st)) : X κ M pc ls (.int x :: st) := fun H locs la hP hS hl => lv_i2c C.x C.b hd hv (k H locs la hP hS hl)
theorem x_iushr (C : Cx κ cc own) {x y v : Int32} (hd : decode cc pc = .ok (.iushr, 1)) (hv : (x.toUInt32 >>> (y.toUInt32 &&& Int32.toUInt32 31)).toInt32 = v) (k : X κ M (pc + 1) ls (.int v :: st)) : X κ M pc ls (.int y :: .int x :: st) := fun H locs la hP hS hl => lv_iushr C.x C.b hd hv (k H locs la hP hS hl)
theorem x_dup (C : Cx κ cc own) {v : Value} (hd : decode cc pc = .ok (.dup, 1)) (hc : v.category = 1) (k : X κ M (pc + 1) ls (v :: v :: st)) : X κ M pc ls (v :: st) := fun H locs la hP hS hl => lv_dup C.x C.b hd hc (k H locs la hP hS hl)
theorem x_pop (C : Cx κ cc own) {v : Value} (hd : decode cc pc = .ok (.pop, 1)) (hc : v.category = 1) (k : X κ M (pc + 1) ls st) : X κ M pc ls (v :: st) := fun H locs la hP hS hl => lv_pop C.x C.b hd hc (k H locs la hP hS hl)
theorem x_dup2 (C : Cx κ cc own) {v w : Value} (hd : decode cc pc = .ok (.dup2, 1)) (hc : v.category = 1) (hc2 : w.category = 1) (k : X κ M (pc + 1) ls (v :: w :: v :: w :: st)) : X κ M pc ls (v :: w :: st) := fun H locs la hP hS hl => lv_dup2_11 C.x C.b hd hc hc2 (k H locs la hP hS hl)
theorem x_null (C : Cx κ cc own)  (hd : decode cc pc = .ok (.aconst_null, 1)) (k : X κ M (pc + 1) ls (.null :: st)) : X κ M pc ls st := fun H locs la hP hS hl => lv_null C.x C.b hd (k H locs la hP hS hl)
theorem x_if_eq (C : Cx κ cc own) {x : Int32} {off : Int} {tgt : Nat} (hd : decode cc pc = .ok (.ifCond .eq off, 3)) (ht : (pc : Int) + off = (tgt : Int)) (kt : x = 0 → X κ M tgt ls st) (kf : ¬ x = 0 → X κ M (pc + 3) ls st) : X κ M pc ls (.int x :: st) := fun H locs la hP hS hl => lv_if_eq C.x C.b hd ht (fun q => kt q H locs la hP hS hl) (fun q => kf q H locs la hP hS hl)
theorem x_if_eqT (C : Cx κ cc own) {x : Int32} {off : Int} {tgt : Nat} (hd : decode cc pc = .ok (.ifCond .eq off, 3)) (ht : (pc : Int) + off = (tgt : Int)) (h : x = 0) (kt : X κ M tgt ls st) : X κ M pc ls (.int x :: st) := x_if_eq C hd ht (fun _ => kt) (fun q => absurd h (by intro z; exact (by first | exact q z | exact z q | exact absurd z q)))
theorem x_if_eqF (C : Cx κ cc own) {x : Int32} {off : Int} (hd : decode cc pc = .ok (.ifCond .eq off, 3)) {tgt : Nat} (ht : (pc : Int) + off = (tgt : Int)) (h : ¬ x = 0) (kf : X κ M (pc + 3) ls st) : X κ M pc ls (.int x :: st) := x_if_eq C hd ht (fun q => absurd h (by intro z; exact (by first | exact q z | exact z q | exact absurd z q))) (fun _ => kf)
theorem x_icmp_eq (C : Cx κ cc own) {x y : Int32} {off : Int} {tgt : Nat} (hd : decode cc pc = .ok (.if_icmp .eq off, 3)) (ht : (pc : Int) + off = (tgt : Int)) (kt : x = y → X κ M tgt ls st) (kf : ¬ x = y → X κ M (pc + 3) ls st) : X κ M pc ls (.int y :: .int x :: st) := fun H locs la hP hS hl => lv_icmp_eq C.x C.b hd ht (fun q => kt q H locs la hP hS hl) (fun q => kf q H locs la hP hS hl)
theorem x_if_ne (C : Cx κ cc own) {x : Int32} {off : Int} {tgt : Nat} (hd : decode cc pc = .ok (.ifCond .ne off, 3)) (ht : (pc : Int) + off = (tgt : Int)) (kt : ¬ x = 0 → X κ M tgt ls st) (kf : x = 0 → X κ M (pc + 3) ls st) : X κ M pc ls (.int x :: st) := fun H locs la hP hS hl => lv_if_ne C.x C.b hd ht (fun q => kt q H locs la hP hS hl) (fun q => kf q H locs la hP hS hl)
theorem x_if_neT (C : Cx κ cc own) {x : Int32} {off : Int} {tgt : Nat} (hd : decode cc pc = .ok (.ifCond .ne off, 3)) (ht : (pc : Int) + off = (tgt : Int)) (h : ¬ x = 0) (kt : X κ M tgt ls st) : X κ M pc ls (.int x :: st) := x_if_ne C hd ht (fun _ => kt) (fun q => absurd h (by intro z; exact (by first | exact q z | exact z q | exact absurd z q)))
theorem x_if_neF (C : Cx κ cc own) {x : Int32} {off : Int} (hd : decode cc pc = .ok (.ifCond .ne off, 3)) {tgt : Nat} (ht : (pc : Int) + off = (tgt : Int)) (h : x = 0) (kf : X κ M (pc + 3) ls st) : X κ M pc ls (.int x :: st) := x_if_ne C hd ht (fun q => absurd h (by intro z; exact (by first | exact q z | exact z q | exact absurd z q))) (fun _ => kf)
theorem x_icmp_ne (C : Cx κ cc own) {x y : Int32} {off : Int} {tgt : Nat} (hd : decode cc pc = .ok (.if_icmp .ne off, 3)) (ht : (pc : Int) + off = (tgt : Int)) (kt : ¬ x = y → X κ M tgt ls st) (kf : x = y → X κ M (pc + 3) ls st) : X κ M pc ls (.int y :: .int x :: st) := fun H locs la hP hS hl => lv_icmp_ne C.x C.b hd ht (fun q => kt q H locs la hP hS hl) (fun q => kf q H locs la hP hS hl)
theorem x_if_lt (C : Cx κ cc own) {x : Int32} {off : Int} {tgt : Nat} (hd : decode cc pc = .ok (.ifCond .lt off, 3)) (ht : (pc : Int) + off = (tgt : Int)) (kt : x < 0 → X κ M tgt ls st) (kf : ¬ x < 0 → X κ M (pc + 3) ls st) : X κ M pc ls (.int x :: st) := fun H locs la hP hS hl => lv_if_lt C.x C.b hd ht (fun q => kt q H locs la hP hS hl) (fun q => kf q H locs la hP hS hl)
theorem x_if_ltT (C : Cx κ cc own) {x : Int32} {off : Int} {tgt : Nat} (hd : decode cc pc = .ok (.ifCond .lt off, 3)) (ht : (pc : Int) + off = (tgt : Int)) (h : x < 0) (kt : X κ M tgt ls st) : X κ M pc ls (.int x :: st) := x_if_lt C hd ht (fun _ => kt) (fun q => absurd h (by intro z; exact (by first | exact q z | exact z q | exact absurd z q)))
theorem x_if_ltF (C : Cx κ cc own) {x : Int32} {off : Int} (hd : decode cc pc = .ok (.ifCond .lt off, 3)) {tgt : Nat} (ht : (pc : Int) + off = (tgt : Int)) (h : ¬ x < 0) (kf : X κ M (pc + 3) ls st) : X κ M pc ls (.int x :: st) := x_if_lt C hd ht (fun q => absurd h (by intro z; exact (by first | exact q z | exact z q | exact absurd z q))) (fun _ => kf)
theorem x_icmp_lt (C : Cx κ cc own) {x y : Int32} {off : Int} {tgt : Nat} (hd : decode cc pc = .ok (.if_icmp .lt off, 3)) (ht : (pc : Int) + off = (tgt : Int)) (kt : x < y → X κ M tgt ls st) (kf : ¬ x < y → X κ M (pc + 3) ls st) : X κ M pc ls (.int y :: .int x :: st) := fun H locs la hP hS hl => lv_icmp_lt C.x C.b hd ht (fun q => kt q H locs la hP hS hl) (fun q => kf q H locs la hP hS hl)
theorem x_if_ge (C : Cx κ cc own) {x : Int32} {off : Int} {tgt : Nat} (hd : decode cc pc = .ok (.ifCond .ge off, 3)) (ht : (pc : Int) + off = (tgt : Int)) (kt : 0 ≤ x → X κ M tgt ls st) (kf : ¬ 0 ≤ x → X κ M (pc + 3) ls st) : X κ M pc ls (.int x :: st) := fun H locs la hP hS hl => lv_if_ge C.x C.b hd ht (fun q => kt q H locs la hP hS hl) (fun q => kf q H locs la hP hS hl)
theorem x_if_geT (C : Cx κ cc own) {x : Int32} {off : Int} {tgt : Nat} (hd : decode cc pc = .ok (.ifCond .ge off, 3)) (ht : (pc : Int) + off = (tgt : Int)) (h : 0 ≤ x) (kt : X κ M tgt ls st) : X κ M pc ls (.int x :: st) := x_if_ge C hd ht (fun _ => kt) (fun q => absurd h (by intro z; exact (by first | exact q z | exact z q | exact absurd z q)))
theorem x_if_geF (C : Cx κ cc own) {x : Int32} {off : Int} (hd : decode cc pc = .ok (.ifCond .ge off, 3)) {tgt : Nat} (ht : (pc : Int) + off = (tgt : Int)) (h : ¬ 0 ≤ x) (kf : X κ M (pc + 3) ls st) : X κ M pc ls (.int x :: st) := x_if_ge C hd ht (fun q => absurd h (by intro z; exact (by first | exact q z | exact z q | exact absurd z q))) (fun _ => kf)
theorem x_icmp_ge (C : Cx κ cc own) {x y : Int32} {off : Int} {tgt : Nat} (hd : decode cc pc = .ok (.if_icmp .ge off, 3)) (ht : (pc : Int) + off = (tgt : Int)) (kt : y ≤ x → X κ M tgt ls st) (kf : ¬ y ≤ x → X κ M (pc + 3) ls st) : X κ M pc ls (.int y :: .int x :: st) := fun H locs la hP hS hl => lv_icmp_ge C.x C.b hd ht (fun q => kt q H locs la hP hS hl) (fun q => kf q H locs la hP hS hl)
theorem x_if_gt (C : Cx κ cc own) {x : Int32} {off : Int} {tgt : Nat} (hd : decode cc pc = .ok (.ifCond .gt off, 3)) (ht : (pc : Int) + off = (tgt : Int)) (kt : 0 < x → X κ M tgt ls st) (kf : ¬ 0 < x → X κ M (pc + 3) ls st) : X κ M pc ls (.int x :: st) := fun H locs la hP hS hl => lv_if_gt C.x C.b hd ht (fun q => kt q H locs la hP hS hl) (fun q => kf q H locs la hP hS hl)
theorem x_if_gtT (C : Cx κ cc own) {x : Int32} {off : Int} {tgt : Nat} (hd : decode cc pc = .ok (.ifCond .gt off, 3)) (ht : (pc : Int) + off = (tgt : Int)) (h : 0 < x) (kt : X κ M tgt ls st) : X κ M pc ls (.int x :: st) := x_if_gt C hd ht (fun _ => kt) (fun q => absurd h (by intro z; exact (by first | exact q z | exact z q | exact absurd z q)))
theorem x_if_gtF (C : Cx κ cc own) {x : Int32} {off : Int} (hd : decode cc pc = .ok (.ifCond .gt off, 3)) {tgt : Nat} (ht : (pc : Int) + off = (tgt : Int)) (h : ¬ 0 < x) (kf : X κ M (pc + 3) ls st) : X κ M pc ls (.int x :: st) := x_if_gt C hd ht (fun q => absurd h (by intro z; exact (by first | exact q z | exact z q | exact absurd z q))) (fun _ => kf)
theorem x_icmp_gt (C : Cx κ cc own) {x y : Int32} {off : Int} {tgt : Nat} (hd : decode cc pc = .ok (.if_icmp .gt off, 3)) (ht : (pc : Int) + off = (tgt : Int)) (kt : y < x → X κ M tgt ls st) (kf : ¬ y < x → X κ M (pc + 3) ls st) : X κ M pc ls (.int y :: .int x :: st) := fun H locs la hP hS hl => lv_icmp_gt C.x C.b hd ht (fun q => kt q H locs la hP hS hl) (fun q => kf q H locs la hP hS hl)
theorem x_if_le (C : Cx κ cc own) {x : Int32} {off : Int} {tgt : Nat} (hd : decode cc pc = .ok (.ifCond .le off, 3)) (ht : (pc : Int) + off = (tgt : Int)) (kt : x ≤ 0 → X κ M tgt ls st) (kf : ¬ x ≤ 0 → X κ M (pc + 3) ls st) : X κ M pc ls (.int x :: st) := fun H locs la hP hS hl => lv_if_le C.x C.b hd ht (fun q => kt q H locs la hP hS hl) (fun q => kf q H locs la hP hS hl)
theorem x_if_leT (C : Cx κ cc own) {x : Int32} {off : Int} {tgt : Nat} (hd : decode cc pc = .ok (.ifCond .le off, 3)) (ht : (pc : Int) + off = (tgt : Int)) (h : x ≤ 0) (kt : X κ M tgt ls st) : X κ M pc ls (.int x :: st) := x_if_le C hd ht (fun _ => kt) (fun q => absurd h (by intro z; exact (by first | exact q z | exact z q | exact absurd z q)))
theorem x_if_leF (C : Cx κ cc own) {x : Int32} {off : Int} (hd : decode cc pc = .ok (.ifCond .le off, 3)) {tgt : Nat} (ht : (pc : Int) + off = (tgt : Int)) (h : ¬ x ≤ 0) (kf : X κ M (pc + 3) ls st) : X κ M pc ls (.int x :: st) := x_if_le C hd ht (fun q => absurd h (by intro z; exact (by first | exact q z | exact z q | exact absurd z q))) (fun _ => kf)
theorem x_icmp_le (C : Cx κ cc own) {x y : Int32} {off : Int} {tgt : Nat} (hd : decode cc pc = .ok (.if_icmp .le off, 3)) (ht : (pc : Int) + off = (tgt : Int)) (kt : x ≤ y → X κ M tgt ls st) (kf : ¬ x ≤ y → X κ M (pc + 3) ls st) : X κ M pc ls (.int y :: .int x :: st) := fun H locs la hP hS hl => lv_icmp_le C.x C.b hd ht (fun q => kt q H locs la hP hS hl) (fun q => kf q H locs la hP hS hl)
theorem x_goto (C : Cx κ cc own) {off : Int} {tgt : Nat} (hd : decode cc pc = .ok (.goto off, 3)) (ht : (pc : Int) + off = (tgt : Int)) (k : X κ M tgt ls st) : X κ M pc ls st := fun H locs la hP hS hl => lv_goto C.x C.b hd ht (k H locs la hP hS hl)
theorem x_ifnull (C : Cx κ cc own) {a : Nat} {off : Int} (hd : decode cc pc = .ok (.ifnull off, 3)) (k : X κ M (pc + 3) ls st) : X κ M pc ls (.ref a :: st) := fun H locs la hP hS hl => lv_ifnull C.x C.b hd (k H locs la hP hS hl)
theorem x_ifnullN (C : Cx κ cc own) {off : Int} {tgt : Nat} (hd : decode cc pc = .ok (.ifnull off, 3)) (ht : (pc : Int) + off = (tgt : Int)) (k : X κ M tgt ls st) : X κ M pc ls (.null :: st) := fun H locs la hP hS hl => lv_ifnullN C.x C.b hd ht (k H locs la hP hS hl)
theorem x_ifnonnull (C : Cx κ cc own) {a : Nat} {off : Int} {tgt : Nat} (hd : decode cc pc = .ok (.ifnonnull off, 3)) (ht : (pc : Int) + off = (tgt : Int)) (k : X κ M tgt ls st) : X κ M pc ls (.ref a :: st) := fun H locs la hP hS hl => lv_ifnonnull C.x C.b hd ht (k H locs la hP hS hl)
theorem x_ifnonnullN (C : Cx κ cc own) {off : Int} (hd : decode cc pc = .ok (.ifnonnull off, 3)) (k : X κ M (pc + 3) ls st) : X κ M pc ls (.null :: st) := fun H locs la hP hS hl => lv_ifnonnullN C.x C.b hd (k H locs la hP hS hl)
theorem x_tableOut (C : Cx κ cc own) {dflt lo hi : Int} {offs : Array Int} {len : Nat} {x : Int32} {tgt : Nat} (hd : decode cc pc = .ok (.tableswitch dflt lo hi offs, len)) (h : x.toInt < lo ∨ hi < x.toInt) (ht : (pc : Int) + dflt = (tgt : Int)) (k : X κ M tgt ls st) : X κ M pc ls (.int x :: st) := fun H locs la hP hS hl => lv_tableOut C.x C.b hd h ht (k H locs la hP hS hl)
theorem x_tableIn (C : Cx κ cc own) {dflt lo hi : Int} {offs : Array Int} {len : Nat} {x : Int32} {off : Int} {tgt : Nat} (hd : decode cc pc = .ok (.tableswitch dflt lo hi offs, len)) (h1 : ¬ x.toInt < lo) (h2 : ¬ hi < x.toInt) (ho : offs[(x.toInt - lo).toNat]? = some off) (ht : (pc : Int) + off = (tgt : Int)) (k : X κ M tgt ls st) : X κ M pc ls (.int x :: st) := fun H locs la hP hS hl => lv_tableIn C.x C.b hd h1 h2 ho ht (k H locs la hP hS hl)
theorem x_ldc (C : Cx κ cc own) {i : Nat} {v : Int32} (hw : Cond.constant own i v ∈ gT) (hd : decode cc pc = .ok (.ldc i, 2)) (k : X κ M (pc + 2) ls (.int v :: st)) : X κ M pc ls st := fun H locs la hP hS hl => lv_ldc C.x C.b C.ow (C.ts _ hw) hd (k H locs la hP hS hl)
theorem x_ldcw (C : Cx κ cc own) {i : Nat} {v : Int32} (hw : Cond.constant own i v ∈ gT) (hd : decode cc pc = .ok (.ldc_w i, 3)) (k : X κ M (pc + 3) ls (.int v :: st)) : X κ M pc ls st := fun H locs la hP hS hl => lv_ldcw C.x C.b C.ow (C.ts _ hw) hd (k H locs la hP hS hl)
theorem x_ldc2 (C : Cx κ cc own) {i : Nat} {v : Int64} (hw : Cond.constantLong own i v ∈ gT) (hd : decode cc pc = .ok (.ldc2_w i, 3)) (k : X κ M (pc + 3) ls (.long v :: st)) : X κ M pc ls st := fun H locs la hP hS hl => lv_ldc2 C.x C.b C.ow (C.ts _ hw) hd (k H locs la hP hS hl)
theorem x_ldcS (C : Cx κ cc "HourEggs$Reader") {i : Nat} (hi : i < 13) (hd : decode cc pc = .ok (.ldc (sIx.getD i 0), 2)) (k : X κ M (pc + 2) ls (.ref (gsa (kg κ) (8 + i)) :: st)) : X κ M pc ls st := fun H locs la hP hS hl => va_ldcS C.x C.b C.ow (C.R.1 i hi) hd (k H locs la hP hS hl)
theorem x_tab (C : Cx κ cc own) {t i : Nat} (hi : i < 8) (et : t = gsa (kg κ) i) {x : Int32} {j : Nat} (hx : x = nI j) (hj : j < tabL i) (hd : decode cc pc = .ok (.iaload, 1)) (k : X κ M (pc + 1) ls (.int (tabV i j) :: st)) : X κ M pc ls (.int x :: .ref t :: st) := fun H locs la hP hS hl => by
  subst hx; subst et
  have h31 : j < 2 ^ 31 := Nat.lt_trans hj (by rcases (show i = 0 ∨ i = 1 ∨ i = 2 ∨ i = 3 ∨ i = 4 ∨ i = 5 ∨ i = 6 ∨ i = 7 by omega) with rfl | rfl | rfl | rfl | rfl | rfl | rfl | rfl <;> decide)
  exact va_ti C.x C.b (C.S.1 i hi).1 hS (vp_in_nI hj (by rcases (show i = 0 ∨ i = 1 ∨ i = 2 ∨ i = 3 ∨ i = 4 ∨ i = 5 ∨ i = 6 ∨ i = 7 by omega) with rfl | rfl | rfl | rfl | rfl | rfl | rfl | rfl <;> decide)) (by rw [nI_clamp h31]) hd (k H locs la hP hS hl)
theorem x_tabN (C : Cx κ cc own) {t i : Nat} (hi : i < 8) (et : t = gsa (kg κ) i) {v : Int32} (hv : Int32.ofNat (tabL i) = v) (hd : decode cc pc = .ok (.arraylength, 1)) (k : X κ M (pc + 1) ls (.int v :: st)) : X κ M pc ls (.ref t :: st) := fun H locs la hP hS hl => by
  subst et
  exact va_tlen C.x C.b (C.S.1 i hi).1 hS hv hd (k H locs la hP hS hl)
theorem x_gets (C : Cx κ cc own) {i idx : Nat} (hi : i < 8) (hw : Cond.fieldLink own idx (tabN.getD i ("", "")).1 (tabN.getD i ("", "")).2 "[I" ∈ gT) (hd : decode cc pc = .ok (.getstatic idx, 3)) (k : X κ M (pc + 3) ls (.ref (gsa (kg κ) i) :: st)) : X κ M pc ls st := fun H locs la hP hS hl => va_gets C.x C.b (C.S.1 i hi).2 hS C.ow (C.ts _ hw) (fun _ h => h) hd (k H locs la hP hS hl)
/-! fields of the objects of the world -/
def Bk (ci : Nat) (Cn : String) (T : u_T) (ty : Nat → FieldType) (N : Nat) : Prop := vwCl[ci]? = some (Cn, T, N) ∧ (∀ w ∈ u_ws Cn T N, w ∈ gT) ∧ (∀ k, k < N → parseFieldDescriptor (T k).2.2.1 = some (ty k)) ∧ ∀ a, a < N → ∀ b, b < N → a ≠ b → (T a).2.1 ≠ (T b).2.1
theorem x_getf (C : Cx κ cc own) {ci N : Nat} {Cn : String} {T : u_T} {ty : Nat → FieldType} (B : Bk ci Cn T ty N) {k a : Nat} (hk : k < gn (kg κ)) (ea : a = gad (kg κ) k) {fl : (Nat → Int32) → List Value} (he : ∀ f, ent (kg κ) k f = .inr (ci, fl f)) (j : Nat) {idx : Nat} (hw : Cond.fieldLink own idx (T j).1 (T j).2.1 (T j).2.2.1 ∈ gT) (hj : Nat.blt j N = true) {v : Value} (hv : (fl (M k))[j]? = some v) (hd : decode cc pc = .ok (.getfield idx, 3)) (kk : X κ M (pc + 3) ls (v :: st)) : X κ M pc ls (.ref a :: st) := fun H locs la hP hS hl => by
  subst ea
  exact va_get C.x C.b C.ts B.2.1 C.ow C.K hP k ((Wd_at hk).trans (by rw [he])) B.1 j (Nat.le_of_ble_eq_true hj) (C.ts _ hw) (fun _ h => h) hv hd (kk H locs la hP hS hl)
theorem x_putV (C : Cx κ cc own) {ci N : Nat} {Cn : String} {T : u_T} {ty : Nat → FieldType} (B : Bk ci Cn T ty N) {k a : Nat} (hk : k < gn (kg κ)) (ea : a = gad (kg κ) k) {fl : (Nat → Int32) → List Value} (he : ∀ f, ent (kg κ) k f = .inr (ci, fl f)) (j : Nat) {idx : Nat} (hw : Cond.fieldLink own idx (T j).1 (T j).2.1 (T j).2.2.1 ∈ gT) (hj : Nat.blt j N = true) {v : Value} {f' : Nat → Int32} (hset : (fl (M k)).set j v = fl f') (hlen : Nat.blt j (fl (M k)).length = true) (hfin : (T j).2.2.2 = false) (hn : narrow (ty j) v = v) (hfit : fits (ty j) v = true) (hd : decode cc pc = .ok (.putfield idx, 3)) (kk : X κ (upR M k f') (pc + 3) ls st) : X κ M pc ls (v :: .ref a :: st) := fun H locs la hP hS hl => by
  subst ea
  refine va_put C.x C.b C.ts B.2.1 ty B.2.2.1 B.2.2.2 C.ow C.K hP (C.A.D M) hS k ((Wd_at hk).trans (by rw [he])) B.1 j (Nat.le_of_ble_eq_true hj) (C.ts _ hw) (fun _ h => h) hfin (B.2.2.1 j (Nat.le_of_ble_eq_true hj)) hn hfit (Nat.le_of_ble_eq_true hlen) hd (fun H1 locs1 hP1 _ hS1 => kk H1 locs1 la ?_ hS1 hl)
  rw [hset, ← he, Wd_set] at hP1
  exact hP1
theorem x_putf (C : Cx κ cc own) {ci N : Nat} {Cn : String} {T : u_T} {ty : Nat → FieldType} (B : Bk ci Cn T ty N) {k a : Nat} (hk : k < gn (kg κ)) (ea : a = gad (kg κ) k) {fl : (Nat → Int32) → List Value} (he : ∀ f, ent (kg κ) k f = .inr (ci, fl f)) (j : Nat) {idx : Nat} (hw : Cond.fieldLink own idx (T j).1 (T j).2.1 (T j).2.2.1 ∈ gT) (hj : Nat.blt j N = true) {x : Int32} (hset : ∀ f : Nat → Int32, (fl f).set j (.int x) = fl (upd f j x)) (hlen : Nat.blt j (fl (M k)).length = true) (hfin : (T j).2.2.2 = false) (hn : narrow (ty j) (.int x) = .int x) (hfit : fits (ty j) (.int x) = true) (hd : decode cc pc = .ok (.putfield idx, 3)) (kk : X κ (up M k j x) (pc + 3) ls st) : X κ M pc ls (.int x :: .ref a :: st) :=
  x_putV C B hk ea he j hw hj (hset _) hlen hfin hn hfit hd kk
/-! arrays of the world -/
theorem gt0 {g : Gp} : (gtys g)[0]? = some (gcI g, .int) := rfl
theorem gt1 {g : Gp} : (gtys g)[1]? = some (gcC g, .char) := rfl
theorem gt2 {g : Gp} : (gtys g)[2]? = some (gcZ g, .boolean) := rfl
theorem gt3 {g : Gp} : (gtys g)[3]? = some (gcO g, .object "HourEggs$Sheet") := rfl
theorem x_iald (C : Cx κ cc own) {k a n : Nat} (hk : k < gn (kg κ)) (ea : a = gad (kg κ) k) (he : ∀ f, ent (kg κ) k f = eI (kg κ) n f) {x : Int32} {j : Nat} (hx : x = nI j) (hj : j < n) (hn : Nat.blt n 2147483648 = true) (hd : decode cc pc = .ok (.iaload, 1)) (kk : X κ M (pc + 1) ls (.int (M k j) :: st)) : X κ M pc ls (.int x :: .ref a :: st) := fun H locs la hP hS hl => by
  subst hx; subst ea
  have hn' : n < 2 ^ 31 := Nat.le_of_ble_eq_true hn
  refine va_iald C.x C.b C.K hP k 0 ((Wd_at hk).trans (by rw [he]; rfl)) gt0 (vp_in_nI hj hn') hd ?_
  rw [nI_clamp (Nat.lt_trans hj hn')]
  exact kk H locs la hP hS hl
theorem x_cald (C : Cx κ cc own) {k a n : Nat} (hk : k < gn (kg κ)) (ea : a = gad (kg κ) k) (he : ∀ f, ent (kg κ) k f = eC (kg κ) n f) {x : Int32} {j : Nat} (hx : x = nI j) (hj : j < n) (hn : Nat.blt n 2147483648 = true) (hd : decode cc pc = .ok (.caload, 1)) (kk : X κ M (pc + 1) ls (.int (M k j) :: st)) : X κ M pc ls (.int x :: .ref a :: st) := fun H locs la hP hS hl => by
  subst hx; subst ea
  have hn' : n < 2 ^ 31 := Nat.le_of_ble_eq_true hn
  refine va_cald C.x C.b C.K hP k 1 ((Wd_at hk).trans (by rw [he]; rfl)) gt1 (vp_in_nI hj hn') hd ?_
  rw [nI_clamp (Nat.lt_trans hj hn')]
  exact kk H locs la hP hS hl
theorem x_zald (C : Cx κ cc own) {k a n : Nat} (hk : k < gn (kg κ)) (ea : a = gad (kg κ) k) (he : ∀ f, ent (kg κ) k f = eZ (kg κ) n f) {x : Int32} {j : Nat} (hx : x = nI j) (hj : j < n) (hn : Nat.blt n 2147483648 = true) (hd : decode cc pc = .ok (.baload, 1)) (kk : X κ M (pc + 1) ls (.int (M k j) :: st)) : X κ M pc ls (.int x :: .ref a :: st) := fun H locs la hP hS hl => by
  subst hx; subst ea
  have hn' : n < 2 ^ 31 := Nat.le_of_ble_eq_true hn
  refine va_zald C.x C.b C.K hP k 2 ((Wd_at hk).trans (by rw [he]; rfl)) gt2 (vp_in_nI hj hn') hd ?_
  rw [nI_clamp (Nat.lt_trans hj hn')]
  exact kk H locs la hP hS hl
theorem x_iast (C : Cx κ cc own) {k a n : Nat} (hk : k < gn (kg κ)) (ea : a = gad (kg κ) k) (he : ∀ f, ent (kg κ) k f = eI (kg κ) n f) {x y : Int32} {j : Nat} (hx : x = nI j) (hj : j < n) (hn : Nat.blt n 2147483648 = true) (hd : decode cc pc = .ok (.iastore, 1)) (kk : X κ (up M k j y) (pc + 1) ls st) : X κ M pc ls (.int y :: .int x :: .ref a :: st) := fun H locs la hP hS hl => by
  subst hx; subst ea
  have hn' : n < 2 ^ 31 := Nat.le_of_ble_eq_true hn
  refine va_iast C.x C.b C.K hP (C.A.D M) hS k 0 ((Wd_at hk).trans (by rw [he]; rfl)) gt0 (vp_in_nI hj hn') hd (fun H1 locs1 hP1 _ hS1 => kk H1 locs1 la ?_ hS1 hl)
  rw [nI_clamp (Nat.lt_trans hj hn')] at hP1
  have e : (Wd (kg κ) M).set k (gad (kg κ) k, eI (kg κ) n (upd (M k) j y)) = Wd (kg κ) (up M k j y) := by rw [← he, Wd_set]; rfl
  rw [← e]
  exact hP1
theorem x_zast (C : Cx κ cc own) {k a n : Nat} (hk : k < gn (kg κ)) (ea : a = gad (kg κ) k) (he : ∀ f, ent (kg κ) k f = eZ (kg κ) n f) {x y : Int32} {j : Nat} (hx : x = nI j) (hj : j < n) (hn : Nat.blt n 2147483648 = true) (hy : vp_nar .boolean y = y) (hd : decode cc pc = .ok (.bastore, 1)) (kk : X κ (up M k j y) (pc + 1) ls st) : X κ M pc ls (.int y :: .int x :: .ref a :: st) := fun H locs la hP hS hl => by
  subst hx; subst ea
  have hn' : n < 2 ^ 31 := Nat.le_of_ble_eq_true hn
  refine va_zast C.x C.b C.K hP (C.A.D M) hS k 2 ((Wd_at hk).trans (by rw [he]; rfl)) gt2 (vp_in_nI hj hn') hd (fun H1 locs1 hP1 _ hS1 => kk H1 locs1 la ?_ hS1 hl)
  rw [nI_clamp (Nat.lt_trans hj hn'), hy] at hP1
  have e : (Wd (kg κ) M).set k (gad (kg κ) k, eZ (kg κ) n (upd (M k) j y)) = Wd (kg κ) (up M k j y) := by rw [← he, Wd_set]; rfl
  rw [← e]
  exact hP1
theorem x_alenI (C : Cx κ cc own) {k a n : Nat} (hk : k < gn (kg κ)) (ea : a = gad (kg κ) k) (he : ∀ f, ent (kg κ) k f = eI (kg κ) n f) {v : Int32} (hv : Int32.ofNat n = v) (hd : decode cc pc = .ok (.arraylength, 1)) (kk : X κ M (pc + 1) ls (.int v :: st)) : X κ M pc ls (.ref a :: st) := fun H locs la hP hS hl => by
  subst ea
  exact va_alen C.x C.b C.K hP k 0 (x := (n, .inl (M k))) ((Wd_at hk).trans (by rw [he]; rfl)) gt0 hv hd (kk H locs la hP hS hl)
theorem x_alenC (C : Cx κ cc own) {k a n : Nat} (hk : k < gn (kg κ)) (ea : a = gad (kg κ) k) (he : ∀ f, ent (kg κ) k f = eC (kg κ) n f) {v : Int32} (hv : Int32.ofNat n = v) (hd : decode cc pc = .ok (.arraylength, 1)) (kk : X κ M (pc + 1) ls (.int v :: st)) : X κ M pc ls (.ref a :: st) := fun H locs la hP hS hl => by
  subst ea
  exact va_alen C.x C.b C.K hP k 1 (x := (n, .inl (M k))) ((Wd_at hk).trans (by rw [he]; rfl)) gt1 hv hd (kk H locs la hP hS hl)
theorem x_alenS (C : Cx κ cc own) {a : Nat} (ea : a = gad (kg κ) 28) {v : Int32} (hv : Int32.ofNat 4 = v) (hd : decode cc pc = .ok (.arraylength, 1)) (kk : X κ M (pc + 1) ls (.int v :: st)) : X κ M pc ls (.ref a :: st) := fun H locs la hP hS hl => by
  subst ea
  exact va_alen C.x C.b C.K hP 28 3 (x := (4, .inr (.inr (.inr (.inr (fun i => some (gad (kg κ) (29 + 2 * i)))))))) ((Wd_at (C.lt rfl)).trans rfl) gt3 hv hd (kk H locs la hP hS hl)
theorem x_aaldS (C : Cx κ cc own) {a : Nat} (ea : a = gad (kg κ) 28) {x : Int32} {j : Nat} (hx : x = nI j) (hj : j < 4) (hd : decode cc pc = .ok (.aaload, 1)) (kk : X κ M (pc + 1) ls (.ref (gad (kg κ) (29 + 2 * j)) :: st)) : X κ M pc ls (.int x :: .ref a :: st) := fun H locs la hP hS hl => by
  subst hx; subst ea
  refine va_aldq C.x C.b C.K hP 28 3 (f := fun i => some (gad (kg κ) (29 + 2 * i))) ((Wd_at (C.lt rfl)).trans rfl) gt3 (vp_in_nI hj (by decide)) hd ?_
  rw [nI_clamp (Nat.lt_trans hj (by decide))]
  exact kk H locs la hP hS hl
/-! Math -/
theorem x_max (C : Cx κ cc own) {idx : Nat} (hw : Cond.methodLink own idx Lib.Math.max.name ∈ gT) (h1 : Cond.static Lib.Math.max.name ∈ gT) (h2 : Cond.initialized "java/lang/Math" ∈ gT) (h3 : Cond.code Lib.Math.max.name Lib.Math.max.code 2 (some .int) ∈ gT) (hr : Nat.ble 1 (kR κ).frames = true) (hr2 : Nat.ble ((st.map fun v => v.category).sum + 13) (kR κ).locals = true) (hc : Nat.ble (kce κ) (kR κ).cells = true) (hs : Nat.ble (kso κ) (kR κ).slots = true) {x y : Int32} (hd : decode cc pc = .ok (.invokestatic idx, 3)) (kk : X κ M (pc + 3) ls (.int (if x < y then y else x) :: st)) : X κ M pc ls (.int y :: .int x :: st) := fun H locs la hP hS hl =>
  va_mmax C.x C.b (C.ml.trans hl.1.symm) C.ow (C.ts _ hw) (C.ts _ h1) (C.ts _ h2) (C.ts _ h3) (Nat.le_of_ble_eq_true hr) (Nat.le_of_ble_eq_true hr2) (Nat.le_of_ble_eq_true hc) (Nat.le_of_ble_eq_true hs) hd (kk H locs la hP hS hl)
theorem x_min (C : Cx κ cc own) {idx : Nat} (hw : Cond.methodLink own idx Lib.Math.min.name ∈ gT) (h1 : Cond.static Lib.Math.min.name ∈ gT) (h2 : Cond.initialized "java/lang/Math" ∈ gT) (h3 : Cond.code Lib.Math.min.name Lib.Math.min.code 2 (some .int) ∈ gT) (hr : Nat.ble 1 (kR κ).frames = true) (hr2 : Nat.ble ((st.map fun v => v.category).sum + 13) (kR κ).locals = true) (hc : Nat.ble (kce κ) (kR κ).cells = true) (hs : Nat.ble (kso κ) (kR κ).slots = true) {x y : Int32} (hd : decode cc pc = .ok (.invokestatic idx, 3)) (kk : X κ M (pc + 3) ls (.int (if y < x then y else x) :: st)) : X κ M pc ls (.int y :: .int x :: st) := fun H locs la hP hS hl =>
  va_mmin C.x C.b (C.ml.trans hl.1.symm) C.ow (C.ts _ hw) (C.ts _ h1) (C.ts _ h2) (C.ts _ h3) (Nat.le_of_ble_eq_true hr) (Nat.le_of_ble_eq_true hr2) (Nat.le_of_ble_eq_true hc) (Nat.le_of_ble_eq_true hs) hd (kk H locs la hP hS hl)
theorem x_abs (C : Cx κ cc own) {idx : Nat} (hw : Cond.methodLink own idx Lib.Math.abs.name ∈ gT) (h1 : Cond.static Lib.Math.abs.name ∈ gT) (h2 : Cond.initialized "java/lang/Math" ∈ gT) (h3 : Cond.code Lib.Math.abs.name Lib.Math.abs.code 1 (some .int) ∈ gT) (hr : Nat.ble 1 (kR κ).frames = true) (hr2 : Nat.ble ((st.map fun v => v.category).sum + 13) (kR κ).locals = true) (hc : Nat.ble (kce κ) (kR κ).cells = true) (hs : Nat.ble (kso κ) (kR κ).slots = true) {x : Int32} (hd : decode cc pc = .ok (.invokestatic idx, 3)) (kk : X κ M (pc + 3) ls (.int (if 0 ≤ x then x else 0 - x) :: st)) : X κ M pc ls (.int x :: st) := fun H locs la hP hS hl =>
  va_mabs C.x C.b (C.ml.trans hl.1.symm) C.ow (C.ts _ hw) (C.ts _ h1) (C.ts _ h2) (C.ts _ h3) (Nat.le_of_ble_eq_true hr) (Nat.le_of_ble_eq_true hr2) (Nat.le_of_ble_eq_true hc) (Nat.le_of_ble_eq_true hs) hd (kk H locs la hP hS hl)
end XR
end
section
/-! ===== CONTRACTS over the world, a method's start and end, calls ===== -/
theorem zble (n : Nat) : Nat.ble 0 n = true := Nat.ble_eq_true_of_le (Nat.zero_le n)
/-- the world as a method finds it -/
def PreW (g : Gp) (M : Mem) (sz : Nat) (U : State) : Prop :=
  U.heap.size = sz ∧ va_P (gD g) vwCl (Wd g M) U.heap ∧ va_K (gD g) vwCl (gtys g) U ∧ Adok (Ag g sz) g ∧ 56 ≤ gn g ∧ Sta g (Ag g sz) U U.heap ∧ StR g U
/-- the world as it leaves it -/
def PosW (g : Gp) (M : Mem) (t : State) : Prop := va_P (gD g) vwCl (Wd g M) t.heap
theorem PreW.blind {g : Gp} {M : Mem} {sz : Nat} {av : List Value} : FrameBlind (va_Pc av (PreW g M sz)) := fun a U f mk q => by
  obtain ⟨q0, q1, q2, q3, q4, q5, q6, q7⟩ := q
  exact ⟨q0, q1, q2, va_K.moved (u := U) (U := U.calling f mk a) (Vm.Alike.refl U.vm) q3, q4, q5, Sta.moved (u := U) (U := U.calling f mk a) (Vm.Alike.refl U.vm) q6, StR.same (u := U) rfl q7⟩
/-- contracts: of a method with an int (or boolean ..), none, a long, a reference -/
def Ki (l : Launch) (g : Gp) (y : MethodName) (b : ByteArray) (nL : Nat) (rt : FieldType) (rm : Room) (av : List Value) (M : Mem) (post : Int32 → Mem → Prop) : Prop :=
  ∀ sz : Nat, Met l y (.code y b nL (some rt) :: gT) rm (va_Pc av (PreW g M sz)) (va_Qi post (PosW g) (Ag g sz)) 0 0 (Ag g sz)
def Kv (l : Launch) (g : Gp) (y : MethodName) (b : ByteArray) (nL : Nat) (rm : Room) (av : List Value) (M : Mem) (post : Mem → Prop) : Prop :=
  ∀ sz : Nat, Met l y (.code y b nL none :: gT) rm (va_Pc av (PreW g M sz)) (va_Qv post (PosW g) (Ag g sz)) 0 0 (Ag g sz)
def Kl (l : Launch) (g : Gp) (y : MethodName) (b : ByteArray) (nL : Nat) (rm : Room) (av : List Value) (M : Mem) (post : Int64 → Mem → Prop) : Prop :=
  ∀ sz : Nat, Met l y (.code y b nL (some .long) :: gT) rm (va_Pc av (PreW g M sz)) (va_Ql post (PosW g) (Ag g sz)) 0 0 (Ag g sz)
def Kq (l : Launch) (g : Gp) (y : MethodName) (b : ByteArray) (nL : Nat) (rt : FieldType) (rm : Room) (av : List Value) (M : Mem) (post : Option Nat → Mem → Prop) : Prop :=
  ∀ sz : Nat, Met l y (.code y b nL (some rt) :: gT) rm (va_Pc av (PreW g M sz)) (va_Qq post (PosW g) (Ag g sz)) 0 0 (Ag g sz)
/-- a method's end -/
def Ri (κ : Kx) (cc : ByteArray) (rt : FieldType) (post : Int32 → Mem → Prop) : Prop := ∀ (M : Mem) (pc : Nat) (ls : List (Option Value)) (r : Int32), decode cc pc = .ok (.ireturn, 1) → narrow rt (.int r) = .int r → post r M → X κ M pc ls [.int r]
def Rv (κ : Kx) (cc : ByteArray) (post : Mem → Prop) : Prop := ∀ (M : Mem) (pc : Nat) (ls : List (Option Value)), decode cc pc = .ok (.return_, 1) → post M → X κ M pc ls []
def Rl (κ : Kx) (cc : ByteArray) (post : Int64 → Mem → Prop) : Prop := ∀ (M : Mem) (pc : Nat) (ls : List (Option Value)) (r : Int64), decode cc pc = .ok (.lreturn, 1) → post r M → X κ M pc ls [.long r]
def Rq (κ : Kx) (cc : ByteArray) (post : Option Nat → Mem → Prop) : Prop := ∀ (M : Mem) (pc : Nat) (ls : List (Option Value)) (r : Option Nat), decode cc pc = .ok (.areturn, 1) → post r M → X κ M pc ls [va_rf r]

set_option maxHeartbeats 4000000 in
theorem Ki.of {l : Launch} {g : Gp} {y : MethodName} {b : ByteArray} {nL : Nat} {rt : FieldType} {post : Int32 → Mem → Prop} {rm : Room} {av : List Value} {M : Mem} (hy : plainName y.cls = true) (hn : Nat.ble av.length nL = true) (hc : (av.all fun v => v.category == 1) = true) 
    (body : ∀ q : Kr, Cx (kmk l rm g nL q) b y.cls → Ri (kmk l rm g nL q) b rt post → (Nat.ble (kce (kmk l rm g nL q)) (kR (kmk l rm g nL q)).cells = true ∧ Nat.ble (kso (kmk l rm g nL q)) (kR (kmk l rm g nL q)).slots = true) → X (kmk l rm g nL q) M 0 (linit nL av) []) : Ki l g y b nL rt rm av M post := by
  intro sz
  refine Met.ofW (cc := b) (maxL := nL) (ret := (some rt)) hy rfl ?_
  intro p e s m args below meth c s₁ B hml hv
  obtain ⟨rfl, hsz, hP, hK, hA, h56, hSt, hStR⟩ := hv
  subst hsz
  have hlen : av.length ≤ nL := Nat.le_of_ble_eq_true hn
  have hlg : lg_sl av = av.map Slot.val := by
    have hc' := hc
    clear body hn hlen hP hK hA hSt hStR B
    induction av with
    | nil => rfl
    | cons a t ih =>
      rw [List.all_cons, Bool.and_eq_true, beq_iff_eq] at hc'
      have := ih hc'.2 hc'.2
      simp only [lg_sl] at this ⊢
      rw [List.flatMap_cons, this]
      simp [hc'.1]
  have C : Cx (kmk l rm g nL ((p, e, s, m), (av.toArray, below, meth, c), MQ below (va_Qi post (PosW g) (Ag g s.heap.size)) av.toArray s 0 0 (Ag g s.heap.size), Ag g s.heap.size, (0, 0))) b y.cls :=
    ⟨⟨B.exec, B.bytes, hml, findClass_of_methodNamed B.named, fun w hw => atoms_spec (ws := .code y b nL (some rt) :: gT) B.pre w (List.mem_cons_of_mem _ hw)⟩, hK, hA, fun q h => Or.inr h, h56, hSt, hStR⟩
  have hX := body _ C (fun M1 pc ls r hd hnr hp => fun H locs la hP1 hS1 hl1 => W.zret B.exec B.bytes B.returns hnr (fun t ht hW => ⟨⟨r, M1, rfl, hp, by unfold PosW; rw [ht]; exact hP1⟩, hS1.F ht⟩) hS1.2.2 hd B.notSynchronized) ⟨zble _, zble _⟩
  have hl := lv_entry av (n := nL) (by rw [hlg, List.length_map]; exact hlen)
  rw [lg_entry_eq]
  exact hX s.heap [] _ hP va_S.rf (lhas_init hc hl)
set_option maxHeartbeats 4000000 in
theorem Kv.of {l : Launch} {g : Gp} {y : MethodName} {b : ByteArray} {nL : Nat} {post : Mem → Prop} {rm : Room} {av : List Value} {M : Mem} (hy : plainName y.cls = true) (hn : Nat.ble av.length nL = true) (hc : (av.all fun v => v.category == 1) = true) 
    (body : ∀ q : Kr, Cx (kmk l rm g nL q) b y.cls → Rv (kmk l rm g nL q) b post → (Nat.ble (kce (kmk l rm g nL q)) (kR (kmk l rm g nL q)).cells = true ∧ Nat.ble (kso (kmk l rm g nL q)) (kR (kmk l rm g nL q)).slots = true) → X (kmk l rm g nL q) M 0 (linit nL av) []) : Kv l g y b nL rm av M post := by
  intro sz
  refine Met.ofW (cc := b) (maxL := nL) (ret := none) hy rfl ?_
  intro p e s m args below meth c s₁ B hml hv
  obtain ⟨rfl, hsz, hP, hK, hA, h56, hSt, hStR⟩ := hv
  subst hsz
  have hlen : av.length ≤ nL := Nat.le_of_ble_eq_true hn
  have hlg : lg_sl av = av.map Slot.val := by
    have hc' := hc
    clear body hn hlen hP hK hA hSt hStR B
    induction av with
    | nil => rfl
    | cons a t ih =>
      rw [List.all_cons, Bool.and_eq_true, beq_iff_eq] at hc'
      have := ih hc'.2 hc'.2
      simp only [lg_sl] at this ⊢
      rw [List.flatMap_cons, this]
      simp [hc'.1]
  have C : Cx (kmk l rm g nL ((p, e, s, m), (av.toArray, below, meth, c), MQ below (va_Qv post (PosW g) (Ag g s.heap.size)) av.toArray s 0 0 (Ag g s.heap.size), Ag g s.heap.size, (0, 0))) b y.cls :=
    ⟨⟨B.exec, B.bytes, hml, findClass_of_methodNamed B.named, fun w hw => atoms_spec (ws := .code y b nL none :: gT) B.pre w (List.mem_cons_of_mem _ hw)⟩, hK, hA, fun q h => Or.inr h, h56, hSt, hStR⟩
  have hX := body _ C (fun M1 pc ls hd hp => fun H locs la hP1 hS1 hl1 => W.vret B.exec B.bytes B.returns (fun t ht hW => ⟨⟨M1, rfl, hp, by unfold PosW; rw [ht]; exact hP1⟩, hS1.F ht⟩) hS1.2.2 hd B.notSynchronized) ⟨zble _, zble _⟩
  have hl := lv_entry av (n := nL) (by rw [hlg, List.length_map]; exact hlen)
  rw [lg_entry_eq]
  exact hX s.heap [] _ hP va_S.rf (lhas_init hc hl)
set_option maxHeartbeats 4000000 in
theorem Kl.of {l : Launch} {g : Gp} {y : MethodName} {b : ByteArray} {nL : Nat} {post : Int64 → Mem → Prop} {rm : Room} {av : List Value} {M : Mem} (hy : plainName y.cls = true) (hn : Nat.ble av.length nL = true) (hc : (av.all fun v => v.category == 1) = true) 
    (body : ∀ q : Kr, Cx (kmk l rm g nL q) b y.cls → Rl (kmk l rm g nL q) b post → (Nat.ble (kce (kmk l rm g nL q)) (kR (kmk l rm g nL q)).cells = true ∧ Nat.ble (kso (kmk l rm g nL q)) (kR (kmk l rm g nL q)).slots = true) → X (kmk l rm g nL q) M 0 (linit nL av) []) : Kl l g y b nL rm av M post := by
  intro sz
  refine Met.ofW (cc := b) (maxL := nL) (ret := (some .long)) hy rfl ?_
  intro p e s m args below meth c s₁ B hml hv
  obtain ⟨rfl, hsz, hP, hK, hA, h56, hSt, hStR⟩ := hv
  subst hsz
  have hlen : av.length ≤ nL := Nat.le_of_ble_eq_true hn
  have hlg : lg_sl av = av.map Slot.val := by
    have hc' := hc
    clear body hn hlen hP hK hA hSt hStR B
    induction av with
    | nil => rfl
    | cons a t ih =>
      rw [List.all_cons, Bool.and_eq_true, beq_iff_eq] at hc'
      have := ih hc'.2 hc'.2
      simp only [lg_sl] at this ⊢
      rw [List.flatMap_cons, this]
      simp [hc'.1]
  have C : Cx (kmk l rm g nL ((p, e, s, m), (av.toArray, below, meth, c), MQ below (va_Ql post (PosW g) (Ag g s.heap.size)) av.toArray s 0 0 (Ag g s.heap.size), Ag g s.heap.size, (0, 0))) b y.cls :=
    ⟨⟨B.exec, B.bytes, hml, findClass_of_methodNamed B.named, fun w hw => atoms_spec (ws := .code y b nL (some .long) :: gT) B.pre w (List.mem_cons_of_mem _ hw)⟩, hK, hA, fun q h => Or.inr h, h56, hSt, hStR⟩
  have hX := body _ C (fun M1 pc ls r hd hp => fun H locs la hP1 hS1 hl1 => W.lret B.exec B.bytes B.returns (fun t ht hW => ⟨⟨r, M1, rfl, hp, by unfold PosW; rw [ht]; exact hP1⟩, hS1.F ht⟩) hS1.2.2 hd B.notSynchronized) ⟨zble _, zble _⟩
  have hl := lv_entry av (n := nL) (by rw [hlg, List.length_map]; exact hlen)
  rw [lg_entry_eq]
  exact hX s.heap [] _ hP va_S.rf (lhas_init hc hl)
set_option maxHeartbeats 4000000 in
theorem Kq.of {l : Launch} {g : Gp} {y : MethodName} {b : ByteArray} {nL : Nat} {rt : FieldType} {post : Option Nat → Mem → Prop} {rm : Room} {av : List Value} {M : Mem} (hy : plainName y.cls = true) (hn : Nat.ble av.length nL = true) (hc : (av.all fun v => v.category == 1) = true) (hrt : (∃ n, rt = .object n) ∨ ∃ t, rt = .array t) 
    (body : ∀ q : Kr, Cx (kmk l rm g nL q) b y.cls → Rq (kmk l rm g nL q) b post → (Nat.ble (kce (kmk l rm g nL q)) (kR (kmk l rm g nL q)).cells = true ∧ Nat.ble (kso (kmk l rm g nL q)) (kR (kmk l rm g nL q)).slots = true) → X (kmk l rm g nL q) M 0 (linit nL av) []) : Kq l g y b nL rt rm av M post := by
  intro sz
  refine Met.ofW (cc := b) (maxL := nL) (ret := (some rt)) hy rfl ?_
  intro p e s m args below meth c s₁ B hml hv
  obtain ⟨rfl, hsz, hP, hK, hA, h56, hSt, hStR⟩ := hv
  subst hsz
  have hlen : av.length ≤ nL := Nat.le_of_ble_eq_true hn
  have hlg : lg_sl av = av.map Slot.val := by
    have hc' := hc
    clear body hn hlen hP hK hA hSt hStR B
    induction av with
    | nil => rfl
    | cons a t ih =>
      rw [List.all_cons, Bool.and_eq_true, beq_iff_eq] at hc'
      have := ih hc'.2 hc'.2
      simp only [lg_sl] at this ⊢
      rw [List.flatMap_cons, this]
      simp [hc'.1]
  have C : Cx (kmk l rm g nL ((p, e, s, m), (av.toArray, below, meth, c), MQ below (va_Qq post (PosW g) (Ag g s.heap.size)) av.toArray s 0 0 (Ag g s.heap.size), Ag g s.heap.size, (0, 0))) b y.cls :=
    ⟨⟨B.exec, B.bytes, hml, findClass_of_methodNamed B.named, fun w hw => atoms_spec (ws := .code y b nL (some rt) :: gT) B.pre w (List.mem_cons_of_mem _ hw)⟩, hK, hA, fun q h => Or.inr h, h56, hSt, hStR⟩
  have hX := body _ C (fun M1 pc ls r hd hp => fun H locs la hP1 hS1 hl1 => W.aret B.exec B.bytes B.returns hrt (by cases r <;> first | exact Or.inl rfl | exact Or.inr ⟨_, rfl⟩) (fun t ht hW => ⟨⟨r, M1, rfl, hp, by unfold PosW; rw [ht]; exact hP1⟩, hS1.F ht⟩) hS1.2.2 hd B.notSynchronized) ⟨zble _, zble _⟩
  have hl := lv_entry av (n := nL) (by rw [hlg, List.length_map]; exact hlen)
  rw [lg_entry_eq]
  exact hX s.heap [] _ hP va_S.rf (lhas_init hc hl)
/-- a method's own words -/
def okW (y : MethodName) (b : ByteArray) (nL : Nat) (ret : Option FieldType) (n : Nat) : Prop := Cond.initialized y.cls ∈ gT ∧ Cond.code y b nL ret ∈ gT ∧ y.cls ≠ "java/lang/invoke/MethodHandle" ∧ y.cls ≠ "java/lang/invoke/VarHandle" ∧ (parseMethodDescriptor y.desc).map (fun d => d.parameters.length) = some n
def okV (y : MethodName) (b : ByteArray) (nL : Nat) (ret : Option FieldType) (n : Nat) : Prop := okW y b nL ret n ∧ Cond.instanceMethod y ∈ gT ∧ Cond.selects y.cls y y ∈ gT
def okS (y : MethodName) (b : ByteArray) (nL : Nat) (ret : Option FieldType) (n : Nat) : Prop := okW y b nL ret n ∧ Cond.static y ∈ gT
/-- the callee's room in the caller's -/
def okR (rm R : Room) (nL : Nat) : Bool := Nat.ble (rm.frames + 1) R.frames && Nat.ble (8 + (nL + 11) + rm.locals) R.locals && Nat.beq rm.cells 0 && Nat.beq rm.slots 0
/-- the object at a place is of that class -/
def Rcv (g : Gp) (k : Nat) (C : String) : Prop := ∃ (ci : Nat) (q : vw_C) (fl : (Nat → Int32) → List Value), vwCl[ci]? = some q ∧ q.1 = C ∧ ∀ f, ent g k f = .inr (ci, fl f)
section XC
variable {κ : Kx} {cc : ByteArray} {own : String} {M : Mem} {pc : Nat} {ls : List (Option Value)} {st : List Value}
theorem okR_spec {rm R : Room} {nL : Nat} (h : okR rm R nL = true) : (rm.frames + 1 ≤ R.frames ∧ 8 + (nL + 11) + rm.locals ≤ R.locals) ∧ rm.cells = 0 ∧ rm.slots = 0 := by
  simp only [okR, Bool.and_eq_true] at h
  exact ⟨⟨Nat.le_of_ble_eq_true h.1.1.1, Nat.le_of_ble_eq_true h.1.1.2⟩, Nat.eq_of_beq_eq_true h.1.2, Nat.eq_of_beq_eq_true h.2⟩
theorem x_callB (C : Cx κ cc own) {y : MethodName} {b : ByteArray} {nL n idx : Nat} {ret : Option FieldType} {rm : Room} (o : okW y b nL ret n) (hw : Cond.methodLink own idx y ∈ gT) (hr : okR rm (kR κ) nL = true) : CallB (kR κ) (ks κ) (ka κ) own idx y b nL ret (.code y b nL ret :: gT) rm 0 0 n := by
  obtain ⟨o1, o2, o3, o4, o5⟩ := o
  obtain ⟨hr1, hr2, hr3⟩ := okR_spec hr
  refine ⟨hr2, hr3, hr1.1, hr1.2, pay_in C.ts (fun w hw => ?_), List.mem_cons_self, C.ts _ o2, C.ts _ o1, ⟨o3, o4⟩, fun sig h => ?_, C.ts _ hw⟩
  · rcases List.mem_cons.mp hw with rfl | h
    · exact ⟨o2, gT_good _ o2⟩
    · exact ⟨h, gT_good w h⟩
  · rw [h] at o5
    exact (Option.some.inj o5).symm
theorem x_pre (C : Cx κ cc own) {H : Heap} {locs : List Loc} (hP : va_P (gD (kg κ)) vwCl (Wd (kg κ) M) H) (hS : va_S (kA κ) (ks κ).heap H locs) (U : State) (hU : U.heap = H) (hW : (ks κ).WarmedH U.vm) : PreW (kg κ) M H.size U := by
  refine ⟨by rw [hU], by rw [hU]; exact hP, va_K.moved hW.alike C.K, ⟨C.A.1, fun k hk => Ag_in hk⟩, C.n, ?_, C.R.warm hW⟩
  rw [hU]
  refine ((C.S.moved hW.alike).kept hS.2.1).narrow (fun q hq => ?_)
  rcases hq with ⟨k, hk, rfl⟩ | hq
  · exact C.A.2 k hk
  · exact C.N q (Nat.le_trans hS.1 hq)
theorem x_free (C : Cx κ cc own) {H : Heap} {locs : List Loc} (hS : va_S (kA κ) (ks κ).heap H locs) : ∀ q, Ag (kg κ) H.size q → kA κ q := fun q hq => by
  rcases hq with ⟨k, hk, rfl⟩ | hq
  · exact C.A.2 k hk
  · exact C.N q (Nat.le_trans hS.1 hq)
theorem x_recv (C : Cx κ cc own) {H : Heap} (hP : va_P (gD (kg κ)) vwCl (Wd (kg κ) M) H) {k : Nat} {Cn : String} (hk : k < gn (kg κ)) (hr : Rcv (kg κ) k Cn) : ∃ cell : Cell, H[gad (kg κ) k]? = some cell ∧ cell.vm.isStatics = false ∧ (ks κ).vm.findClass Cn = some cell.cls := by
  obtain ⟨ci, q, fl, h1, h2, h3⟩ := hr
  rw [← h2]
  exact va_recv C.K hP h1 ((Wd_at hk).trans (by rw [h3]))
theorem x_runV (C : Cx κ cc own) {y : MethodName} {b : ByteArray} {nL n idx k : Nat} {ret : Option FieldType} {rm : Room} {As rest : List Value} {Qc : Array Value → State → Outcome → State → Prop} {H : Heap} {locs : List Loc} {la : Array Slot}
    (hM : Met (kl κ) y (.code y b nL ret :: gT) rm (va_Pc (.ref (gad (kg κ) k) :: As) (PreW (kg κ) M H.size)) Qc 0 0 (Ag (kg κ) H.size)) (o : okV y b nL ret n) (hw : Cond.methodLink own idx y ∈ gT) (hr : okR rm (kR κ) nL = true) (hk : k < gn (kg κ)) (hrc : Rcv (kg κ) k y.cls) (hn : As.length = n)
    (hst : st = As.reverse ++ .ref (gad (kg κ) k) :: rest) (hW : Nat.ble ((rest.map fun v => v.category).sum) 8 = true) (hcs : Nat.ble (kce κ) (kR κ).cells = true ∧ Nat.ble (kso κ) (kR κ).slots = true) (hd : decode cc pc = .ok (.invokevirtual idx, 3))
    (hP : va_P (gD (kg κ)) vwCl (Wd (kg κ) M) H) (hS : va_S (kA κ) (ks κ).heap H locs) (hl : lhas la (knL κ) ls) :
    va_Run (kp κ) (kl κ) (ke κ) (kR κ) (ks κ) (km κ) (ka κ) (kb κ) (kme κ) (kc κ) H locs (kce κ) (kso κ) 0 0 (F0 (km κ) pc la st) rest (Qc (Value.ref (gad (kg κ) k) :: As).toArray) (Ag (kg κ) H.size) :=
  va_runV C.1 hM ⟨x_callB C o.1 hw hr, C.ts _ o.2.1, C.ts _ o.2.2⟩ ⟨PreW.blind, x_recv C hP hk hrc, fun U hU hW => ⟨rfl, x_pre C hP hS U hU hW⟩⟩ rfl hn hl.1 hst (lv_room (Nat.le_of_ble_eq_true hW)) hd ⟨Nat.le_of_ble_eq_true hcs.1, Nat.le_of_ble_eq_true hcs.2⟩
theorem x_runS (C : Cx κ cc own) {y : MethodName} {b : ByteArray} {nL n idx : Nat} {ret : Option FieldType} {rm : Room} {As rest : List Value} {Qc : Array Value → State → Outcome → State → Prop} {H : Heap} {locs : List Loc} {la : Array Slot}
    (hM : Met (kl κ) y (.code y b nL ret :: gT) rm (va_Pc As (PreW (kg κ) M H.size)) Qc 0 0 (Ag (kg κ) H.size)) (o : okS y b nL ret n) (hw : Cond.methodLink own idx y ∈ gT) (hr : okR rm (kR κ) nL = true) (hn : As.length = n)
    (hst : st = As.reverse ++ rest) (hW : Nat.ble ((rest.map fun v => v.category).sum) 8 = true) (hcs : Nat.ble (kce κ) (kR κ).cells = true ∧ Nat.ble (kso κ) (kR κ).slots = true) (hd : decode cc pc = .ok (.invokestatic idx, 3))
    (hP : va_P (gD (kg κ)) vwCl (Wd (kg κ) M) H) (hS : va_S (kA κ) (ks κ).heap H locs) (hl : lhas la (knL κ) ls) :
    va_Run (kp κ) (kl κ) (ke κ) (kR κ) (ks κ) (km κ) (ka κ) (kb κ) (kme κ) (kc κ) H locs (kce κ) (kso κ) 0 0 (F0 (km κ) pc la st) rest (Qc As.toArray) (Ag (kg κ) H.size) :=
  va_runS C.1 hM ⟨x_callB C o.1 hw hr, C.ts _ o.2⟩ ⟨PreW.blind, fun U hU hW => ⟨rfl, x_pre C hP hS U hU hW⟩⟩ rfl hn hl.1 hst (lv_room (Nat.le_of_ble_eq_true hW)) hd ⟨Nat.le_of_ble_eq_true hcs.1, Nat.le_of_ble_eq_true hcs.2⟩
theorem x_runSN (C : Cx κ cc own) {y : MethodName} {b : ByteArray} {nL n idx : Nat} {ret : Option FieldType} {rm : Room} {As rest : List Value} {Qc : Array Value → State → Outcome → State → Prop} {H : Heap} {locs : List Loc} {la : Array Slot}
    (hM : Met (kl κ) y (.code y b nL ret :: gT) rm (va_Pc As (PreW (kg κ) M H.size)) Qc 0 0 (Ag (kg κ) H.size)) (o : okS y b nL ret n) (hw : (own, idx, y) ∈ nests) (hr : okR rm (kR κ) nL = true) (hn : As.length = n)
    (hst : st = As.reverse ++ rest) (hW : Nat.ble ((rest.map fun v => v.category).sum) 8 = true) (hcs : Nat.ble (kce κ) (kR κ).cells = true ∧ Nat.ble (kso κ) (kR κ).slots = true) (hd : decode cc pc = .ok (.invokestatic idx, 3))
    (hP : va_P (gD (kg κ)) vwCl (Wd (kg κ) M) H) (hS : va_S (kA κ) (ks κ).heap H locs) (hl : lhas la (knL κ) ls) :
    va_Run (kp κ) (kl κ) (ke κ) (kR κ) (ks κ) (km κ) (ka κ) (kb κ) (kme κ) (kc κ) H locs (kce κ) (kso κ) 0 0 (F0 (km κ) pc la st) rest (Qc As.toArray) (Ag (kg κ) H.size) := by
  obtain ⟨⟨o1, o2, o3, o4, o5⟩, o6⟩ := o
  obtain ⟨hr1, hr2, hr3⟩ := okR_spec hr
  refine va_runSN C.1 hM ⟨⟨⟨hr2, hr3, hr1.1, hr1.2, pay_in C.ts (fun w hw => ?_), List.mem_cons_self⟩, C.ts _ o2, C.ts _ o1, ⟨o3, o4⟩, fun sig h => ?_, va_Nw.use rfl (C.R.2 _ hw)⟩, C.ts _ o6, trivial⟩ ⟨PreW.blind, fun U hU hW => ⟨rfl, x_pre C hP hS U hU hW⟩⟩ rfl hn hl.1 hst (lv_room (Nat.le_of_ble_eq_true hW)) hd ⟨Nat.le_of_ble_eq_true hcs.1, Nat.le_of_ble_eq_true hcs.2⟩
  · rcases List.mem_cons.mp hw with rfl | h
    · exact ⟨o2, gT_good _ o2⟩
    · exact ⟨h, gT_good w h⟩
  · rw [h] at o5
    exact (Option.some.inj o5).symm
theorem x_cvi (C : Cx κ cc own) {y : MethodName} {b : ByteArray} {nL n idx k : Nat} {rt : FieldType} {post : Int32 → Mem → Prop} {rm : Room} {As rest : List Value} (hM : Ki (kl κ) (kg κ) y b nL rt rm (.ref (gad (kg κ) k) :: As) M post) (o : okV y b nL (some rt) n) (hw : Cond.methodLink own idx y ∈ gT) (hr : okR rm (kR κ) nL = true) (hk : k < gn (kg κ)) (hrc : Rcv (kg κ) k y.cls) (hn : As.length = n) (hst : st = As.reverse ++ .ref (gad (kg κ) k) :: rest) (hW : Nat.ble ((rest.map fun v => v.category).sum) 8 = true) (hcs : Nat.ble (kce κ) (kR κ).cells = true ∧ Nat.ble (kso κ) (kR κ).slots = true) (hd : decode cc pc = .ok (.invokevirtual idx, 3))
    (kk : ∀ (r : Int32) (M' : Mem), post r M' → X κ M' (pc + 3) ls (.int r :: rest)) : X κ M pc ls st := fun H locs la hP hS hl =>
  va_calli (x_runV C (hM H.size) o hw hr hk hrc hn hst hW hcs hd hP hS hl) hS (fun q _ h => x_free C hS q h) (x_free C hS) (fun r M' t H1 locs1 ht _ hw1 hB _ _ hS1 => kk r M' hw1 H1 locs1 la (by rw [← ht]; exact hB) hS1 hl)
theorem x_cvv (C : Cx κ cc own) {y : MethodName} {b : ByteArray} {nL n idx k : Nat} {post : Mem → Prop} {rm : Room} {As rest : List Value} (hM : Kv (kl κ) (kg κ) y b nL rm (.ref (gad (kg κ) k) :: As) M post) (o : okV y b nL none n) (hw : Cond.methodLink own idx y ∈ gT) (hr : okR rm (kR κ) nL = true) (hk : k < gn (kg κ)) (hrc : Rcv (kg κ) k y.cls) (hn : As.length = n) (hst : st = As.reverse ++ .ref (gad (kg κ) k) :: rest) (hW : Nat.ble ((rest.map fun v => v.category).sum) 8 = true) (hcs : Nat.ble (kce κ) (kR κ).cells = true ∧ Nat.ble (kso κ) (kR κ).slots = true) (hd : decode cc pc = .ok (.invokevirtual idx, 3))
    (kk : ∀ (M' : Mem), post M' → X κ M' (pc + 3) ls rest) : X κ M pc ls st := fun H locs la hP hS hl =>
  va_callv (x_runV C (hM H.size) o hw hr hk hrc hn hst hW hcs hd hP hS hl) hS (fun q _ h => x_free C hS q h) (x_free C hS) (fun M' t H1 locs1 ht _ hw1 hB _ _ hS1 => kk M' hw1 H1 locs1 la (by rw [← ht]; exact hB) hS1 hl)
theorem x_cvl (C : Cx κ cc own) {y : MethodName} {b : ByteArray} {nL n idx k : Nat} {post : Int64 → Mem → Prop} {rm : Room} {As rest : List Value} (hM : Kl (kl κ) (kg κ) y b nL rm (.ref (gad (kg κ) k) :: As) M post) (o : okV y b nL (some .long) n) (hw : Cond.methodLink own idx y ∈ gT) (hr : okR rm (kR κ) nL = true) (hk : k < gn (kg κ)) (hrc : Rcv (kg κ) k y.cls) (hn : As.length = n) (hst : st = As.reverse ++ .ref (gad (kg κ) k) :: rest) (hW : Nat.ble ((rest.map fun v => v.category).sum) 8 = true) (hcs : Nat.ble (kce κ) (kR κ).cells = true ∧ Nat.ble (kso κ) (kR κ).slots = true) (hd : decode cc pc = .ok (.invokevirtual idx, 3))
    (kk : ∀ (r : Int64) (M' : Mem), post r M' → X κ M' (pc + 3) ls (.long r :: rest)) : X κ M pc ls st := fun H locs la hP hS hl =>
  va_calll (x_runV C (hM H.size) o hw hr hk hrc hn hst hW hcs hd hP hS hl) hS (fun q _ h => x_free C hS q h) (x_free C hS) (fun r M' t H1 locs1 ht _ hw1 hB _ _ hS1 => kk r M' hw1 H1 locs1 la (by rw [← ht]; exact hB) hS1 hl)
theorem x_cvq (C : Cx κ cc own) {y : MethodName} {b : ByteArray} {nL n idx k : Nat} {rt : FieldType} {post : Option Nat → Mem → Prop} {rm : Room} {As rest : List Value} (hM : Kq (kl κ) (kg κ) y b nL rt rm (.ref (gad (kg κ) k) :: As) M post) (o : okV y b nL (some rt) n) (hw : Cond.methodLink own idx y ∈ gT) (hr : okR rm (kR κ) nL = true) (hk : k < gn (kg κ)) (hrc : Rcv (kg κ) k y.cls) (hn : As.length = n) (hst : st = As.reverse ++ .ref (gad (kg κ) k) :: rest) (hW : Nat.ble ((rest.map fun v => v.category).sum) 8 = true) (hcs : Nat.ble (kce κ) (kR κ).cells = true ∧ Nat.ble (kso κ) (kR κ).slots = true) (hd : decode cc pc = .ok (.invokevirtual idx, 3))
    (kk : ∀ (r : Option Nat) (M' : Mem), post r M' → X κ M' (pc + 3) ls (va_rf r :: rest)) : X κ M pc ls st := fun H locs la hP hS hl =>
  va_callq (x_runV C (hM H.size) o hw hr hk hrc hn hst hW hcs hd hP hS hl) hS (fun q _ h => x_free C hS q h) (x_free C hS) (fun r M' t H1 locs1 ht _ hw1 hB _ _ hS1 => kk r M' hw1 H1 locs1 la (by rw [← ht]; exact hB) hS1 hl)
theorem x_csi (C : Cx κ cc own) {y : MethodName} {b : ByteArray} {nL n idx : Nat} {rt : FieldType} {post : Int32 → Mem → Prop} {rm : Room} {As rest : List Value} (hM : Ki (kl κ) (kg κ) y b nL rt rm As M post) (o : okS y b nL (some rt) n) (hw : Cond.methodLink own idx y ∈ gT) (hr : okR rm (kR κ) nL = true) (hn : As.length = n) (hst : st = As.reverse ++ rest) (hW : Nat.ble ((rest.map fun v => v.category).sum) 8 = true) (hcs : Nat.ble (kce κ) (kR κ).cells = true ∧ Nat.ble (kso κ) (kR κ).slots = true) (hd : decode cc pc = .ok (.invokestatic idx, 3))
    (kk : ∀ (r : Int32) (M' : Mem), post r M' → X κ M' (pc + 3) ls (.int r :: rest)) : X κ M pc ls st := fun H locs la hP hS hl =>
  va_calli (x_runS C (hM H.size) o hw hr hn hst hW hcs hd hP hS hl) hS (fun q _ h => x_free C hS q h) (x_free C hS) (fun r M' t H1 locs1 ht _ hw1 hB _ _ hS1 => kk r M' hw1 H1 locs1 la (by rw [← ht]; exact hB) hS1 hl)
theorem x_csv (C : Cx κ cc own) {y : MethodName} {b : ByteArray} {nL n idx : Nat} {post : Mem → Prop} {rm : Room} {As rest : List Value} (hM : Kv (kl κ) (kg κ) y b nL rm As M post) (o : okS y b nL none n) (hw : Cond.methodLink own idx y ∈ gT) (hr : okR rm (kR κ) nL = true) (hn : As.length = n) (hst : st = As.reverse ++ rest) (hW : Nat.ble ((rest.map fun v => v.category).sum) 8 = true) (hcs : Nat.ble (kce κ) (kR κ).cells = true ∧ Nat.ble (kso κ) (kR κ).slots = true) (hd : decode cc pc = .ok (.invokestatic idx, 3))
    (kk : ∀ (M' : Mem), post M' → X κ M' (pc + 3) ls rest) : X κ M pc ls st := fun H locs la hP hS hl =>
  va_callv (x_runS C (hM H.size) o hw hr hn hst hW hcs hd hP hS hl) hS (fun q _ h => x_free C hS q h) (x_free C hS) (fun M' t H1 locs1 ht _ hw1 hB _ _ hS1 => kk M' hw1 H1 locs1 la (by rw [← ht]; exact hB) hS1 hl)
theorem x_csl (C : Cx κ cc own) {y : MethodName} {b : ByteArray} {nL n idx : Nat} {post : Int64 → Mem → Prop} {rm : Room} {As rest : List Value} (hM : Kl (kl κ) (kg κ) y b nL rm As M post) (o : okS y b nL (some .long) n) (hw : Cond.methodLink own idx y ∈ gT) (hr : okR rm (kR κ) nL = true) (hn : As.length = n) (hst : st = As.reverse ++ rest) (hW : Nat.ble ((rest.map fun v => v.category).sum) 8 = true) (hcs : Nat.ble (kce κ) (kR κ).cells = true ∧ Nat.ble (kso κ) (kR κ).slots = true) (hd : decode cc pc = .ok (.invokestatic idx, 3))
    (kk : ∀ (r : Int64) (M' : Mem), post r M' → X κ M' (pc + 3) ls (.long r :: rest)) : X κ M pc ls st := fun H locs la hP hS hl =>
  va_calll (x_runS C (hM H.size) o hw hr hn hst hW hcs hd hP hS hl) hS (fun q _ h => x_free C hS q h) (x_free C hS) (fun r M' t H1 locs1 ht _ hw1 hB _ _ hS1 => kk r M' hw1 H1 locs1 la (by rw [← ht]; exact hB) hS1 hl)
theorem x_csq (C : Cx κ cc own) {y : MethodName} {b : ByteArray} {nL n idx : Nat} {rt : FieldType} {post : Option Nat → Mem → Prop} {rm : Room} {As rest : List Value} (hM : Kq (kl κ) (kg κ) y b nL rt rm As M post) (o : okS y b nL (some rt) n) (hw : Cond.methodLink own idx y ∈ gT) (hr : okR rm (kR κ) nL = true) (hn : As.length = n) (hst : st = As.reverse ++ rest) (hW : Nat.ble ((rest.map fun v => v.category).sum) 8 = true) (hcs : Nat.ble (kce κ) (kR κ).cells = true ∧ Nat.ble (kso κ) (kR κ).slots = true) (hd : decode cc pc = .ok (.invokestatic idx, 3))
    (kk : ∀ (r : Option Nat) (M' : Mem), post r M' → X κ M' (pc + 3) ls (va_rf r :: rest)) : X κ M pc ls st := fun H locs la hP hS hl =>
  va_callq (x_runS C (hM H.size) o hw hr hn hst hW hcs hd hP hS hl) hS (fun q _ h => x_free C hS q h) (x_free C hS) (fun r M' t H1 locs1 ht _ hw1 hB _ _ hS1 => kk r M' hw1 H1 locs1 la (by rw [← ht]; exact hB) hS1 hl)
theorem x_cnv (C : Cx κ cc own) {y : MethodName} {b : ByteArray} {nL n idx : Nat} {post : Mem → Prop} {rm : Room} {As rest : List Value} (hM : Kv (kl κ) (kg κ) y b nL rm As M post) (o : okS y b nL none n) (hw : (own, idx, y) ∈ nests) (hr : okR rm (kR κ) nL = true) (hn : As.length = n) (hst : st = As.reverse ++ rest) (hW : Nat.ble ((rest.map fun v => v.category).sum) 8 = true) (hcs : Nat.ble (kce κ) (kR κ).cells = true ∧ Nat.ble (kso κ) (kR κ).slots = true) (hd : decode cc pc = .ok (.invokestatic idx, 3))
    (kk : ∀ (M' : Mem), post M' → X κ M' (pc + 3) ls rest) : X κ M pc ls st := fun H locs la hP hS hl =>
  va_callv (x_runSN C (hM H.size) o hw hr hn hst hW hcs hd hP hS hl) hS (fun q _ h => x_free C hS q h) (x_free C hS) (fun M' t H1 locs1 ht _ hw1 hB _ _ hS1 => kk M' hw1 H1 locs1 la (by rw [← ht]; exact hB) hS1 hl)
end XC
end
section
/-! ===== the words of the tables that the methods need; the classes; what lies at each place ===== -/
theorem tb_0 {w : Cond} (i : Nat) (h : tables_1_1[i]? = some w) (h2 : goodWord w = true) : w ∈ gT := gT_of (List.mem_append_right _ ((List.mem_append_left _ (List.mem_of_getElem? h)))) h2
theorem tb_1 {w : Cond} (i : Nat) (h : tables_1_2[i]? = some w) (h2 : goodWord w = true) : w ∈ gT := gT_of (List.mem_append_right _ ((List.mem_append_right _ (List.mem_append_left _ (List.mem_of_getElem? h))))) h2
theorem tb_2 {w : Cond} (i : Nat) (h : tables_1_3[i]? = some w) (h2 : goodWord w = true) : w ∈ gT := gT_of (List.mem_append_right _ ((List.mem_append_right _ (List.mem_append_right _ (List.mem_append_left _ (List.mem_of_getElem? h)))))) h2
theorem tb_3 {w : Cond} (i : Nat) (h : tables_1_4[i]? = some w) (h2 : goodWord w = true) : w ∈ gT := gT_of (List.mem_append_right _ ((List.mem_append_right _ (List.mem_append_right _ (List.mem_append_right _ (List.mem_append_left _ (List.mem_of_getElem? h))))))) h2
theorem tb_4 {w : Cond} (i : Nat) (h : tables_1_5[i]? = some w) (h2 : goodWord w = true) : w ∈ gT := gT_of (List.mem_append_right _ ((List.mem_append_right _ (List.mem_append_right _ (List.mem_append_right _ (List.mem_append_right _ (List.mem_append_left _ (List.mem_of_getElem? h)))))))) h2
theorem tb_5 {w : Cond} (i : Nat) (h : tables_1_6[i]? = some w) (h2 : goodWord w = true) : w ∈ gT := gT_of (List.mem_append_right _ ((List.mem_append_right _ (List.mem_append_right _ (List.mem_append_right _ (List.mem_append_right _ (List.mem_append_right _ ((List.mem_of_getElem? h))))))))) h2
theorem mw_L_9 : Cond.methodLink RL 9 yX7_init ∈ gT := tb_0 18 rfl rfl
theorem mw_X7_1 : Cond.methodLink RX7 1 objectInit ∈ gT := tb_0 21 rfl rfl
theorem mw_X7_9 : Cond.methodLink RX7 9 yX1_init ∈ gT := tb_0 26 rfl rfl
theorem mw_X1_1 : Cond.methodLink RX1 1 objectInit ∈ gT := tb_0 29 rfl rfl
theorem mw_X1_18 : Cond.methodLink RX1 18 yX5_init ∈ gT := tb_0 36 rfl rfl
theorem mw_X5_1 : Cond.methodLink RX5 1 objectInit ∈ gT := tb_0 39 rfl rfl
theorem mw_X5_9 : Cond.methodLink RX5 9 Lib.Math.min.name ∈ gT := tb_0 40 rfl rfl
theorem mw_X1_25 : Cond.methodLink RX1 25 yX5_put ∈ gT := tb_0 57 rfl rfl
theorem mw_X0_3 : Cond.methodLink RX0 3 objectInit ∈ gT := tb_0 106 rfl rfl
theorem mw_X4_1 : Cond.methodLink RX4 1 objectInit ∈ gT := tb_0 123 rfl rfl
theorem mw_X6_1 : Cond.methodLink RX6 1 objectInit ∈ gT := tb_0 141 rfl rfl
theorem mw_L_13 : Cond.methodLink RL 13 yX7_egg ∈ gT := tb_0 175 rfl rfl
theorem mw_X7_55 : Cond.methodLink RX7 55 yX5_takes ∈ gT := tb_0 179 rfl rfl
theorem mw_X7_61 : Cond.methodLink RX7 61 yX7_finding ∈ gT := tb_0 183 rfl rfl
theorem mw_X7_65 : Cond.methodLink RX7 65 yX1_emptyPlace ∈ gT := tb_0 188 rfl rfl
theorem mw_X1_79 : Cond.methodLink RX1 79 yX1_hasEgg ∈ gT := tb_0 192 rfl rfl
theorem mw_X1_71 : Cond.methodLink RX1 71 yX5_hasRow ∈ gT := tb_0 196 rfl rfl
theorem mw_X1_75 : Cond.methodLink RX1 75 yX5_at ∈ gT := tb_0 200 rfl rfl
theorem mw_X7_69 : Cond.methodLink RX7 69 yX1_layAt ∈ gT := tb_0 204 rfl rfl
theorem mw_L_18 : Cond.methodLink RL 18 yX7_of ∈ gT := tb_0 208 rfl rfl
theorem mw_X7_73 : Cond.methodLink RX7 73 yX1_hasEgg ∈ gT := tb_0 212 rfl rfl
theorem mw_X7_77 : Cond.methodLink RX7 77 yX7_within ∈ gT := tb_0 213 rfl rfl
theorem mw_X7_81 : Cond.methodLink RX7 81 yX1_minutesOf ∈ gT := tb_0 216 rfl rfl
theorem mw_X1_82 : Cond.methodLink RX1 82 yX1_minutesBehind ∈ gT := tb_0 220 rfl rfl
theorem mw_X1_86 : Cond.methodLink RX1 86 yX2_stays ∈ gT := tb_0 224 rfl rfl
theorem mw_X2_22 : Cond.methodLink RX2 22 yX2_keeps ∈ gT := tb_0 227 rfl rfl
theorem mw_X1_92 : Cond.methodLink RX1 92 Lib.Math.min.name ∈ gT := tb_0 232 rfl rfl
theorem mw_X1_97 : Cond.methodLink RX1 97 yX2_minutes ∈ gT := tb_0 233 rfl rfl
theorem mw_X2_7 : Cond.methodLink RX2 7 Lib.Math.max.name ∈ gT := tb_0 236 rfl rfl
theorem mw_X2_13 : Cond.methodLink RX2 13 Lib.Math.min.name ∈ gT := tb_0 239 rfl rfl
theorem mw_X7_84 : Cond.methodLink RX7 84 yX5_at ∈ gT := tb_1 0 rfl rfl
theorem mw_X7_88 : Cond.methodLink RX7 88 yX2_keeps ∈ gT := tb_1 1 rfl rfl
theorem mw_L_23 : Cond.methodLink RL 23 yX7_change ∈ gT := tb_1 2 rfl rfl
theorem mw_X7_93 : Cond.methodLink RX7 93 yX7_replace ∈ gT := tb_1 6 rfl rfl
theorem mw_X7_103 : Cond.methodLink RX7 103 yX5_hasRow ∈ gT := tb_1 10 rfl rfl
theorem mw_X7_162 : Cond.methodLink RX7 162 yX5_put ∈ gT := tb_1 11 rfl rfl
theorem mw_L_27 : Cond.methodLink RL 27 yX7_hen ∈ gT := tb_1 12 rfl rfl
theorem mw_L_31 : Cond.methodLink RL 31 yX7_work ∈ gT := tb_1 16 rfl rfl
theorem mw_L_35 : Cond.methodLink RL 35 yX7_henOf ∈ gT := tb_1 20 rfl rfl
theorem mw_X7_106 : Cond.methodLink RX7 106 yX5_hasColumn ∈ gT := tb_1 24 rfl rfl
theorem mw_L_39 : Cond.methodLink RL 39 yX7_workOf ∈ gT := tb_1 28 rfl rfl
theorem mw_X7_109 : Cond.methodLink RX7 109 yX1_isDone ∈ gT := tb_1 32 rfl rfl
theorem mw_X1_104 : Cond.methodLink RX1 104 yX1_lacks ∈ gT := tb_1 36 rfl rfl
theorem mw_L_43 : Cond.methodLink RL 43 yX7_spend ∈ gT := tb_1 40 rfl rfl
theorem mw_X7_112 : Cond.methodLink RX7 112 yX1_isInTime ∈ gT := tb_1 44 rfl rfl
theorem mw_X7_115 : Cond.methodLink RX7 115 yX1_spendOn ∈ gT := tb_1 48 rfl rfl
theorem mw_X1_100 : Cond.methodLink RX1 100 yX1_minutesOf ∈ gT := tb_1 52 rfl rfl
theorem mw_X1_110 : Cond.methodLink RX1 110 Lib.Math.max.name ∈ gT := tb_1 53 rfl rfl
theorem mw_X1_113 : Cond.methodLink RX1 113 yX1_empty ∈ gT := tb_1 54 rfl rfl
theorem mw_L_47 : Cond.methodLink RL 47 yX7_broken ∈ gT := tb_1 58 rfl rfl
theorem mw_X7_118 : Cond.methodLink RX7 118 yX1_empty ∈ gT := tb_1 62 rfl rfl
theorem mw_L_52 : Cond.methodLink RL 52 yX7_go ∈ gT := tb_1 63 rfl rfl
theorem mw_X7_127 : Cond.methodLink RX7 127 yX1_daysGoBy ∈ gT := tb_1 68 rfl rfl
theorem mw_X1_117 : Cond.methodLink RX1 117 yX1_eggsAge ∈ gT := tb_1 72 rfl rfl
theorem mw_X1_124 : Cond.methodLink RX1 124 yX2_keeps ∈ gT := tb_1 76 rfl rfl
theorem mw_X1_121 : Cond.methodLink RX1 121 yX1_hensLay ∈ gT := tb_1 77 rfl rfl
theorem mw_X1_127 : Cond.methodLink RX1 127 yX1_emptyPlace ∈ gT := tb_1 81 rfl rfl
theorem mw_X1_130 : Cond.methodLink RX1 130 yX1_layAt ∈ gT := tb_1 82 rfl rfl
theorem mw_X7_130 : Cond.methodLink RX7 130 yX1_places ∈ gT := tb_1 83 rfl rfl
theorem mw_X7_133 : Cond.methodLink RX7 133 yJ6_bitCount_0f7a4 ∈ gT := tb_1 87 rfl rfl
theorem mw_L_56 : Cond.methodLink RL 56 yX7_now ∈ gT := tb_1 93 rfl rfl
theorem mw_X7_138 : Cond.methodLink RX7 138 yX1_allMinutes ∈ gT := tb_1 97 rfl rfl
theorem mw_X7_141 : Cond.methodLink RX7 141 yX1_doneWorks ∈ gT := tb_1 101 rfl rfl
theorem mw_X1_107 : Cond.methodLink RX1 107 yX1_isDone ∈ gT := tb_1 105 rfl rfl
theorem mw_L_60 : Cond.methodLink RL 60 yX7_ahead ∈ gT := tb_1 106 rfl rfl
theorem mw_X7_147 : Cond.methodLink RX7 147 yX1_become ∈ gT := tb_1 110 rfl rfl
theorem mw_X1_61 : Cond.methodLink RX1 61 yX5_become ∈ gT := tb_1 114 rfl rfl
theorem mw_L_64 : Cond.methodLink RL 64 yX7_spoils ∈ gT := tb_1 122 rfl rfl
theorem mw_L_68 : Cond.methodLink RL 68 yX7_ripe ∈ gT := tb_1 126 rfl rfl
theorem mw_X7_151 : Cond.methodLink RX7 151 yX2_stays ∈ gT := tb_1 130 rfl rfl
theorem mw_X7_154 : Cond.methodLink RX7 154 yX1_minutesBehind ∈ gT := tb_1 131 rfl rfl
theorem mw_L_72 : Cond.methodLink RL 72 yX7_lasts ∈ gT := tb_1 132 rfl rfl
theorem mw_L_76 : Cond.methodLink RL 76 yX7_when ∈ gT := tb_1 136 rfl rfl
theorem mw_L_80 : Cond.methodLink RL 80 yX7_kindFor ∈ gT := tb_1 140 rfl rfl
theorem mw_L_84 : Cond.methodLink RL 84 yX7_everyFor ∈ gT := tb_1 144 rfl rfl
theorem mw_X7_158 : Cond.methodLink RX7 158 yX7_minutesWithEvery ∈ gT := tb_1 148 rfl rfl
theorem mw_L_88 : Cond.methodLink RL 88 yX7_fewest ∈ gT := tb_1 152 rfl rfl
theorem mw_X7_166 : Cond.methodLink RX7 166 yX0_lookAt ∈ gT := tb_1 156 rfl rfl
theorem mw_X0_18 : Cond.methodLink RX0 18 yX1_places ∈ gT := tb_1 160 rfl rfl
theorem mw_X0_25 : Cond.methodLink RX0 25 yX1_minutesOf ∈ gT := tb_1 161 rfl rfl
theorem mw_X7_169 : Cond.methodLink RX7 169 yX0_fewestFor ∈ gT := tb_1 162 rfl rfl
theorem mw_X0_42 : Cond.methodLink RX0 42 yX0_does ∈ gT := tb_1 166 rfl rfl
theorem mw_X0_29 : Cond.methodLink RX0 29 yX0_isOfEggs ∈ gT := tb_1 170 rfl rfl
theorem mw_X0_33 : Cond.methodLink RX0 33 yX1_isInTime ∈ gT := tb_1 174 rfl rfl
theorem mw_X0_36 : Cond.methodLink RX0 36 yX0_sumOf ∈ gT := tb_1 175 rfl rfl
theorem mw_X0_39 : Cond.methodLink RX0 39 yX1_lacks ∈ gT := tb_1 179 rfl rfl
theorem mw_X0_46 : Cond.methodLink RX0 46 yJ6_bitCount_0f7a4 ∈ gT := tb_1 180 rfl rfl
theorem mw_L_92 : Cond.methodLink RL 92 yX7_thrifty ∈ gT := tb_1 181 rfl rfl
theorem mw_X7_173 : Cond.methodLink RX7 173 yX0_leastFor ∈ gT := tb_1 185 rfl rfl
theorem mw_L_96 : Cond.methodLink RL 96 yX7_best ∈ gT := tb_1 189 rfl rfl
theorem mw_X7_176 : Cond.methodLink RX7 176 yX0_bestMark ∈ gT := tb_1 193 rfl rfl
theorem mw_X0_55 : Cond.methodLink RX0 55 yX5_at ∈ gT := tb_1 197 rfl rfl
theorem mw_X0_61 : Cond.methodLink RX0 61 yX1_isDone ∈ gT := tb_1 198 rfl rfl
theorem mw_X0_64 : Cond.methodLink RX0 64 yX0_offer ∈ gT := tb_1 199 rfl rfl
theorem mw_X0_71 : Cond.methodLink RX0 71 yX0_bestWithOneMore ∈ gT := tb_1 203 rfl rfl
theorem mw_X0_68 : Cond.methodLink RX0 68 yX0_markOf ∈ gT := tb_1 207 rfl rfl
theorem mw_X0_75 : Cond.methodLink RX0 75 Lib.Math.max.name ∈ gT := tb_1 211 rfl rfl
theorem mw_X7_180 : Cond.methodLink RX7 180 yX0_worthOf ∈ gT := tb_1 212 rfl rfl
theorem mw_L_101 : Cond.methodLink RL 101 yX7_bestWorks ∈ gT := tb_1 215 rfl rfl
theorem mw_X7_183 : Cond.methodLink RX7 183 yX0_worksOf ∈ gT := tb_1 219 rfl rfl
theorem mw_X0_80 : Cond.methodLink RX0 80 yX0_worthOf ∈ gT := tb_1 222 rfl rfl
theorem mw_L_105 : Cond.methodLink RL 105 yX7_soonest ∈ gT := tb_1 223 rfl rfl
theorem mw_X7_186 : Cond.methodLink RX7 186 yX1_lacks ∈ gT := tb_1 227 rfl rfl
theorem mw_L_109 : Cond.methodLink RL 109 yX7_nest ∈ gT := tb_1 228 rfl rfl
theorem mw_X7_189 : Cond.methodLink RX7 189 yX1_minutesIn ∈ gT := tb_1 232 rfl rfl
theorem mw_L_113 : Cond.methodLink RL 113 yX7_guard ∈ gT := tb_1 236 rfl rfl
theorem mw_L_117 : Cond.methodLink RL 117 yX7_halves ∈ gT := tb_2 0 rfl rfl
theorem mw_X7_192 : Cond.methodLink RX7 192 yX0_nearestHalf ∈ gT := tb_2 4 rfl rfl
theorem mw_X0_83 : Cond.methodLink RX0 83 yX0_apartWith ∈ gT := tb_2 8 rfl rfl
theorem mw_X0_86 : Cond.methodLink RX0 86 Lib.Math.abs.name ∈ gT := tb_2 12 rfl rfl
theorem mw_L_121 : Cond.methodLink RL 121 yX7_apart ∈ gT := tb_2 15 rfl rfl
theorem mw_X7_195 : Cond.methodLink RX7 195 yX0_apartWith ∈ gT := tb_2 19 rfl rfl
theorem mw_L_125 : Cond.methodLink RL 125 yX7_sets ∈ gT := tb_2 20 rfl rfl
theorem mw_X7_198 : Cond.methodLink RX7 198 yX0_setsOf ∈ gT := tb_2 24 rfl rfl
theorem mw_L_129 : Cond.methodLink RL 129 yX7_ages ∈ gT := tb_2 28 rfl rfl
theorem mw_X7_201 : Cond.methodLink RX7 201 yX7_wrongTold ∈ gT := tb_2 32 rfl rfl
theorem mw_X7_212 : Cond.methodLink RX7 212 yX7_wrongSheet ∈ gT := tb_2 36 rfl rfl
theorem mw_X7_204 : Cond.methodLink RX7 204 yX7_sheetAt ∈ gT := tb_2 40 rfl rfl
theorem mw_X7_260 : Cond.methodLink RX7 260 yX4_isMissing ∈ gT := tb_2 44 rfl rfl
theorem mw_X7_208 : Cond.methodLink RX7 208 yX7_fits ∈ gT := tb_2 48 rfl rfl
theorem mw_X7_218 : Cond.methodLink RX7 218 yX4_at ∈ gT := tb_2 52 rfl rfl
theorem mw_L_133 : Cond.methodLink RL 133 yX7_youngest ∈ gT := tb_2 56 rfl rfl
theorem mw_L_137 : Cond.methodLink RL 137 yX7_foxes ∈ gT := tb_2 60 rfl rfl
theorem mw_X7_220 : Cond.methodLink RX7 220 yX1_foxComes ∈ gT := tb_2 64 rfl rfl
theorem mw_L_141 : Cond.methodLink RL 141 yX7_odds ∈ gT := tb_2 69 rfl rfl
theorem mw_L_146 : Cond.methodLink RL 146 yX7_seed ∈ gT := tb_2 75 rfl rfl
theorem mw_L_150 : Cond.methodLink RL 150 yX7_feed ∈ gT := tb_2 79 rfl rfl
theorem mw_X7_231 : Cond.methodLink RX7 231 yX6_append ∈ gT := tb_2 83 rfl rfl
theorem mw_L_154 : Cond.methodLink RL 154 yX7_wipe ∈ gT := tb_2 87 rfl rfl
theorem mw_L_158 : Cond.methodLink RL 158 yX7_text ∈ gT := tb_2 91 rfl rfl
theorem mw_X7_236 : Cond.methodLink RX7 236 yX3_init ∈ gT := tb_2 97 rfl rfl
theorem mw_X3_3 : Cond.methodLink RX3 3 objectInit ∈ gT := tb_2 100 rfl rfl
theorem mw_X7_239 : Cond.methodLink RX7 239 yX3_readText ∈ gT := tb_2 120 rfl rfl
theorem mw_X3_19 : Cond.methodLink RX3 19 yX3_advance ∈ gT := tb_2 124 rfl rfl
theorem mw_X3_131 : Cond.methodLink RX3 131 yX6_at ∈ gT := tb_2 128 rfl rfl
theorem mw_X3_134 : Cond.methodLink RX3 134 yX3_sortOf ∈ gT := tb_2 132 rfl rfl
theorem mw_X3_138 : Cond.methodLink RX3 138 Lib.Math.min.name ∈ gT := tb_2 136 rfl rfl
theorem mw_X3_24 : Cond.methodLink RX3 24 yX3_kindAhead ∈ gT := tb_2 137 rfl rfl
theorem mw_X3_101 : Cond.methodLink RX3 101 yX3_wordOf ∈ gT := tb_2 141 rfl rfl
theorem mw_X3_34 : Cond.methodLink RX3 34 yX3_isAhead ∈ gT := tb_2 151 rfl rfl
theorem mw_X3_119 : Cond.methodLink RX3 119 yJ0_length_8abf5 ∈ gT := tb_2 155 rfl rfl
theorem mw_J0_335 : Cond.methodLink RJ0 335 yJ0_coder_7d493 ∈ gT := tb_2 159 rfl rfl
theorem mw_X3_127 : Cond.methodLink RX3 127 yJ0_charAt_5068e ∈ gT := tb_2 165 rfl rfl
theorem mw_J0_492 : Cond.methodLink RJ0 492 yJ0_isLatin1_aae02 ∈ gT := tb_2 169 rfl rfl
theorem mw_J0_495 : Cond.methodLink RJ0 495 yJ1_charAt_3b067 ∈ gT := tb_2 173 rfl rfl
theorem mw_J1_9 : Cond.methodLink RJ1 9 yJ0_checkIndex_df160 ∈ gT := tb_2 176 rfl rfl
theorem mw_J0_1059 : Cond.methodLink RJ0 1059 yJ3_checkIndex_8e157 ∈ gT := tb_2 181 rfl rfl
theorem mw_J0_498 : Cond.methodLink RJ0 498 yJ2_charAt_3b067 ∈ gT := tb_2 184 rfl rfl
theorem mw_J2_67 : Cond.methodLink RJ2 67 yJ2_checkIndex_2214a ∈ gT := tb_2 187 rfl rfl
theorem mw_J2_48 : Cond.methodLink RJ2 48 yJ2_length_9d52b ∈ gT := tb_2 190 rfl rfl
theorem mw_J2_414 : Cond.methodLink RJ2 414 yJ0_checkIndex_df160 ∈ gT := tb_2 193 rfl rfl
theorem mw_J2_71 : Cond.methodLink RJ2 71 yJ2_getChar_3b067 ∈ gT := tb_2 194 rfl rfl
theorem mw_X3_28 : Cond.methodLink RX3 28 yX3_readEgg ∈ gT := tb_2 203 rfl rfl
theorem mw_X3_52 : Cond.methodLink RX3 52 yX1_emptyPlace ∈ gT := tb_2 207 rfl rfl
theorem mw_X3_57 : Cond.methodLink RX3 57 yX3_readNumber ∈ gT := tb_2 208 rfl rfl
theorem mw_X3_63 : Cond.methodLink RX3 63 yX3_readPerhaps ∈ gT := tb_2 213 rfl rfl
theorem mw_X3_69 : Cond.methodLink RX3 69 yX1_layAt ∈ gT := tb_2 218 rfl rfl
theorem mw_X3_38 : Cond.methodLink RX3 38 yX3_readHen ∈ gT := tb_2 220 rfl rfl
theorem mw_X3_77 : Cond.methodLink RX3 77 yX5_put ∈ gT := tb_2 224 rfl rfl
theorem mw_X3_42 : Cond.methodLink RX3 42 yX3_readWork ∈ gT := tb_2 225 rfl rfl
theorem mw_X3_91 : Cond.methodLink RX3 91 yX5_at ∈ gT := tb_2 232 rfl rfl
theorem mw_L_162 : Cond.methodLink RL 162 yX7_hold ∈ gT := tb_2 235 rfl rfl
theorem mw_X7_242 : Cond.methodLink RX7 242 yX1_setSpot ∈ gT := tb_2 239 rfl rfl
theorem mw_L_166 : Cond.methodLink RL 166 yX7_as ∈ gT := tb_3 3 rfl rfl
theorem mw_X7_246 : Cond.methodLink RX7 246 yX1_spotAt ∈ gT := tb_3 7 rfl rfl
theorem mw_X7_249 : Cond.methodLink RX7 249 yX2_isUnder ∈ gT := tb_3 11 rfl rfl
theorem mw_L_170 : Cond.methodLink RL 170 yX7_sheet ∈ gT := tb_3 16 rfl rfl
theorem mw_X7_252 : Cond.methodLink RX7 252 yX4_hasWidth ∈ gT := tb_3 20 rfl rfl
theorem mw_X7_255 : Cond.methodLink RX7 255 yX4_makeNew ∈ gT := tb_3 23 rfl rfl
theorem mw_X4_17 : Cond.methodLink RX4 17 Lib.Math.min.name ∈ gT := tb_3 27 rfl rfl
theorem mw_X4_23 : Cond.methodLink RX4 23 Lib.Math.max.name ∈ gT := tb_3 28 rfl rfl
theorem mw_L_174 : Cond.methodLink RL 174 yX7_write ∈ gT := tb_3 29 rfl rfl
theorem mw_X7_258 : Cond.methodLink RX7 258 yX4_put ∈ gT := tb_3 33 rfl rfl
theorem mw_L_178 : Cond.methodLink RL 178 yX7_copy ∈ gT := tb_3 37 rfl rfl
theorem mw_X7_267 : Cond.methodLink RX7 267 yX4_hasNumbers ∈ gT := tb_3 41 rfl rfl
theorem mw_X7_270 : Cond.methodLink RX7 270 yX7_copyNumbers ∈ gT := tb_3 45 rfl rfl
theorem mw_L_183 : Cond.methodLink RL 183 yX7_load ∈ gT := tb_3 48 rfl rfl
theorem mw_L_187 : Cond.methodLink RL 187 yX7_judge ∈ gT := tb_3 52 rfl rfl
theorem mw_L_191 : Cond.methodLink RL 191 yX7_image ∈ gT := tb_3 56 rfl rfl
theorem mw_L_195 : Cond.methodLink RL 195 yX7_undo ∈ gT := tb_3 60 rfl rfl
theorem mw_L_199 : Cond.methodLink RL 199 yX7_tear ∈ gT := tb_3 64 rfl rfl
theorem mw_L_203 : Cond.methodLink RL 203 yX7_count ∈ gT := tb_3 68 rfl rfl
theorem mw_X7_274 : Cond.methodLink RX7 274 yX1_heldSpots ∈ gT := tb_3 72 rfl rfl
theorem mw_X1_135 : Cond.methodLink RX1 135 yX1_spotAt ∈ gT := tb_3 76 rfl rfl
theorem mw_L_207 : Cond.methodLink RL 207 yX7_status ∈ gT := tb_3 77 rfl rfl
theorem mw_L_12 : Cond.methodLink RL 12 yX8_init ∈ gT := tb_3 83 rfl rfl
theorem mw_X8_1 : Cond.methodLink RX8 1 objectInit ∈ gT := tb_3 86 rfl rfl
theorem mw_L_17 : Cond.methodLink RL 17 yX8_egg ∈ gT := tb_3 154 rfl rfl
theorem mw_X8_59 : Cond.methodLink RX8 59 yX8_in1 ∈ gT := tb_3 158 rfl rfl
theorem mw_X8_119 : Cond.methodLink RX8 119 yX8_no ∈ gT := tb_3 161 rfl rfl
theorem mw_X8_116 : Cond.methodLink RX8 116 yX8_lays ∈ gT := tb_3 166 rfl rfl
theorem mw_X8_102 : Cond.methodLink RX8 102 yX8_free ∈ gT := tb_3 170 rfl rfl
theorem mw_X8_71 : Cond.methodLink RX8 71 yX8_isThere ∈ gT := tb_3 174 rfl rfl
theorem mw_X8_63 : Cond.methodLink RX8 63 yX8_get ∈ gT := tb_3 178 rfl rfl
theorem mw_X8_105 : Cond.methodLink RX8 105 yX8_puts ∈ gT := tb_3 182 rfl rfl
theorem mw_L_22 : Cond.methodLink RL 22 yX8_of ∈ gT := tb_3 186 rfl rfl
theorem mw_X8_122 : Cond.methodLink RX8 122 yX8_isEgg ∈ gT := tb_3 190 rfl rfl
theorem mw_X8_67 : Cond.methodLink RX8 67 yX8_isPlace ∈ gT := tb_3 194 rfl rfl
theorem mw_X8_92 : Cond.methodLink RX8 92 yX8_minutes ∈ gT := tb_3 197 rfl rfl
theorem mw_X8_80 : Cond.methodLink RX8 80 yX8_minutesBy ∈ gT := tb_3 201 rfl rfl
theorem mw_X8_74 : Cond.methodLink RX8 74 yX8_greater ∈ gT := tb_3 204 rfl rfl
theorem mw_X8_77 : Cond.methodLink RX8 77 yX8_less ∈ gT := tb_3 207 rfl rfl
theorem mw_X8_84 : Cond.methodLink RX8 84 yX8_keepsBy ∈ gT := tb_3 210 rfl rfl
theorem mw_L_26 : Cond.methodLink RL 26 yX8_change ∈ gT := tb_3 213 rfl rfl
theorem mw_L_30 : Cond.methodLink RL 30 yX8_hen ∈ gT := tb_3 217 rfl rfl
theorem mw_X8_125 : Cond.methodLink RX8 125 yX8_isHen ∈ gT := tb_3 221 rfl rfl
theorem mw_X8_113 : Cond.methodLink RX8 113 yX8_hens ∈ gT := tb_3 224 rfl rfl
theorem mw_L_34 : Cond.methodLink RL 34 yX8_work ∈ gT := tb_3 228 rfl rfl
theorem mw_X8_128 : Cond.methodLink RX8 128 yX8_isWork ∈ gT := tb_3 232 rfl rfl
theorem mw_X8_131 : Cond.methodLink RX8 131 yX8_works ∈ gT := tb_3 235 rfl rfl
theorem mw_L_38 : Cond.methodLink RL 38 yX8_henOf ∈ gT := tb_3 239 rfl rfl
theorem mw_L_42 : Cond.methodLink RL 42 yX8_workOf ∈ gT := tb_4 3 rfl rfl
theorem mw_X8_134 : Cond.methodLink RX8 134 yX8_isDone ∈ gT := tb_4 7 rfl rfl
theorem mw_L_46 : Cond.methodLink RL 46 yX8_spend ∈ gT := tb_4 11 rfl rfl
theorem mw_X8_137 : Cond.methodLink RX8 137 yX8_isOver ∈ gT := tb_4 15 rfl rfl
theorem mw_X8_109 : Cond.methodLink RX8 109 yX8_goesEgg ∈ gT := tb_4 19 rfl rfl
theorem mw_L_51 : Cond.methodLink RL 51 yX8_broken ∈ gT := tb_4 23 rfl rfl
theorem mw_L_55 : Cond.methodLink RL 55 yX8_go ∈ gT := tb_4 27 rfl rfl
theorem mw_X8_140 : Cond.methodLink RX8 140 yX8_day ∈ gT := tb_4 31 rfl rfl
theorem mw_X8_95 : Cond.methodLink RX8 95 yX8_eggs ∈ gT := tb_4 35 rfl rfl
theorem mw_X8_143 : Cond.methodLink RX8 143 yX8_bits ∈ gT := tb_4 39 rfl rfl
theorem mw_L_59 : Cond.methodLink RL 59 yX8_now ∈ gT := tb_4 42 rfl rfl
theorem mw_X8_146 : Cond.methodLink RX8 146 yX8_allMinutes ∈ gT := tb_4 46 rfl rfl
theorem mw_X8_99 : Cond.methodLink RX8 99 yX8_sumOf ∈ gT := tb_4 50 rfl rfl
theorem mw_X8_88 : Cond.methodLink RX8 88 yX8_isIn ∈ gT := tb_4 54 rfl rfl
theorem mw_X8_149 : Cond.methodLink RX8 149 yX8_done ∈ gT := tb_4 57 rfl rfl
theorem mw_L_63 : Cond.methodLink RL 63 yX8_ahead ∈ gT := tb_4 61 rfl rfl
theorem mw_X8_152 : Cond.methodLink RX8 152 yX8_setsAside ∈ gT := tb_4 65 rfl rfl
theorem mw_X8_155 : Cond.methodLink RX8 155 yX8_laysBack ∈ gT := tb_4 69 rfl rfl
theorem mw_L_67 : Cond.methodLink RL 67 yX8_spoils ∈ gT := tb_4 73 rfl rfl
theorem mw_L_71 : Cond.methodLink RL 71 yX8_ripe ∈ gT := tb_4 77 rfl rfl
theorem mw_X8_158 : Cond.methodLink RX8 158 yX8_then ∈ gT := tb_4 81 rfl rfl
theorem mw_L_75 : Cond.methodLink RL 75 yX8_lasts ∈ gT := tb_4 85 rfl rfl
theorem mw_L_79 : Cond.methodLink RL 79 yX8_when ∈ gT := tb_4 89 rfl rfl
theorem mw_L_83 : Cond.methodLink RL 83 yX8_kindFor ∈ gT := tb_4 93 rfl rfl
theorem mw_L_87 : Cond.methodLink RL 87 yX8_everyFor ∈ gT := tb_4 97 rfl rfl
theorem mw_L_91 : Cond.methodLink RL 91 yX8_fewest ∈ gT := tb_4 101 rfl rfl
theorem mw_X8_161 : Cond.methodLink RX8 161 yX8_does ∈ gT := tb_4 105 rfl rfl
theorem mw_L_95 : Cond.methodLink RL 95 yX8_thrifty ∈ gT := tb_4 109 rfl rfl
theorem mw_L_100 : Cond.methodLink RL 100 yX8_best ∈ gT := tb_4 113 rfl rfl
theorem mw_X8_173 : Cond.methodLink RX8 173 yX8_bestSet ∈ gT := tb_4 117 rfl rfl
theorem mw_X8_167 : Cond.methodLink RX8 167 yX8_dealt ∈ gT := tb_4 121 rfl rfl
theorem mw_X8_164 : Cond.methodLink RX8 164 yX8_lowest ∈ gT := tb_4 125 rfl rfl
theorem mw_X8_170 : Cond.methodLink RX8 170 yX8_worthOf ∈ gT := tb_4 128 rfl rfl
theorem mw_L_104 : Cond.methodLink RL 104 yX8_bestWorks ∈ gT := tb_4 132 rfl rfl
theorem mw_L_108 : Cond.methodLink RL 108 yX8_soonest ∈ gT := tb_4 136 rfl rfl
theorem mw_L_112 : Cond.methodLink RL 112 yX8_nest ∈ gT := tb_4 140 rfl rfl
theorem mw_X8_176 : Cond.methodLink RX8 176 yX8_inNest ∈ gT := tb_4 144 rfl rfl
theorem mw_L_116 : Cond.methodLink RL 116 yX8_guard ∈ gT := tb_4 148 rfl rfl
theorem mw_L_120 : Cond.methodLink RL 120 yX8_halves ∈ gT := tb_4 152 rfl rfl
theorem mw_X8_182 : Cond.methodLink RX8 182 yX8_bestHalf ∈ gT := tb_4 156 rfl rfl
theorem mw_X8_179 : Cond.methodLink RX8 179 yX8_apartBy ∈ gT := tb_4 160 rfl rfl
theorem mw_L_124 : Cond.methodLink RL 124 yX8_apart ∈ gT := tb_4 164 rfl rfl
theorem mw_L_128 : Cond.methodLink RL 128 yX8_sets ∈ gT := tb_4 168 rfl rfl
theorem mw_L_132 : Cond.methodLink RL 132 yX8_ages ∈ gT := tb_4 172 rfl rfl
theorem mw_X8_191 : Cond.methodLink RX8 191 yX8_wrongAges ∈ gT := tb_4 176 rfl rfl
theorem mw_X8_188 : Cond.methodLink RX8 188 yX8_wrongSheet ∈ gT := tb_4 180 rfl rfl
theorem mw_X8_185 : Cond.methodLink RX8 185 yX8_isSheet ∈ gT := tb_4 184 rfl rfl
theorem mw_X8_194 : Cond.methodLink RX8 194 yX8_agesSo ∈ gT := tb_4 187 rfl rfl
theorem mw_L_136 : Cond.methodLink RL 136 yX8_youngest ∈ gT := tb_4 191 rfl rfl
theorem mw_L_140 : Cond.methodLink RL 140 yX8_foxes ∈ gT := tb_4 195 rfl rfl
theorem mw_X8_198 : Cond.methodLink RX8 198 yX8_draw ∈ gT := tb_4 199 rfl rfl
theorem mw_L_145 : Cond.methodLink RL 145 yX8_odds ∈ gT := tb_4 204 rfl rfl
theorem mw_L_149 : Cond.methodLink RL 149 yX8_seed ∈ gT := tb_4 210 rfl rfl
theorem mw_L_153 : Cond.methodLink RL 153 yX8_feed ∈ gT := tb_4 214 rfl rfl
theorem mw_L_157 : Cond.methodLink RL 157 yX8_wipe ∈ gT := tb_4 218 rfl rfl
theorem mw_L_161 : Cond.methodLink RL 161 yX8_text ∈ gT := tb_4 222 rfl rfl
theorem mw_X8_240 : Cond.methodLink RX8 240 yX8_nextToken ∈ gT := tb_4 226 rfl rfl
theorem mw_X8_222 : Cond.methodLink RX8 222 yX8_isLetter ∈ gT := tb_4 230 rfl rfl
theorem mw_X8_231 : Cond.methodLink RX8 231 yX8_isDigit ∈ gT := tb_4 236 rfl rfl
theorem mw_X8_260 : Cond.methodLink RX8 260 yX8_readsItem ∈ gT := tb_5 2 rfl rfl
theorem mw_X8_246 : Cond.methodLink RX8 246 yX8_wordOf ∈ gT := tb_5 6 rfl rfl
theorem mw_X8_250 : Cond.methodLink RX8 250 yX8_readsEgg ∈ gT := tb_5 10 rfl rfl
theorem mw_X8_243 : Cond.methodLink RX8 243 yX8_takesNumber ∈ gT := tb_5 14 rfl rfl
theorem mw_X8_253 : Cond.methodLink RX8 253 yX8_readsHen ∈ gT := tb_5 18 rfl rfl
theorem mw_X8_257 : Cond.methodLink RX8 257 yX8_readsWork ∈ gT := tb_5 22 rfl rfl
theorem mw_L_165 : Cond.methodLink RL 165 yX8_hold ∈ gT := tb_5 26 rfl rfl
theorem mw_X8_263 : Cond.methodLink RX8 263 yX8_isSpot ∈ gT := tb_5 30 rfl rfl
theorem mw_L_169 : Cond.methodLink RL 169 yX8_as ∈ gT := tb_5 33 rfl rfl
theorem mw_X8_266 : Cond.methodLink RX8 266 yX8_above ∈ gT := tb_5 37 rfl rfl
theorem mw_L_173 : Cond.methodLink RL 173 yX8_sheet ∈ gT := tb_5 40 rfl rfl
theorem mw_L_177 : Cond.methodLink RL 177 yX8_write ∈ gT := tb_5 44 rfl rfl
theorem mw_L_182 : Cond.methodLink RL 182 yX8_copy ∈ gT := tb_5 48 rfl rfl
theorem mw_L_186 : Cond.methodLink RL 186 yX8_load ∈ gT := tb_5 52 rfl rfl
theorem mw_L_190 : Cond.methodLink RL 190 yX8_judge ∈ gT := tb_5 56 rfl rfl
theorem mw_L_194 : Cond.methodLink RL 194 yX8_image ∈ gT := tb_5 60 rfl rfl
theorem mw_L_198 : Cond.methodLink RL 198 yX8_undo ∈ gT := tb_5 64 rfl rfl
theorem mw_L_202 : Cond.methodLink RL 202 yX8_tear ∈ gT := tb_5 68 rfl rfl
theorem mw_L_206 : Cond.methodLink RL 206 yX8_count ∈ gT := tb_5 72 rfl rfl
theorem mw_L_210 : Cond.methodLink RL 210 yX8_status ∈ gT := tb_5 76 rfl rfl
theorem mn_X7_24 : (RX7, 24, yX0_init) ∈ nests := by decide +kernel
theorem mn_X7_35 : (RX7, 35, yX4_init) ∈ nests := by decide +kernel
theorem mn_X7_38 : (RX7, 38, yX6_init) ∈ nests := by decide +kernel
theorem mn_X5_29 : (RX5, 29, yX7_copyRow) ∈ nests := by decide +kernel
theorem mn_X1_65 : (RX1, 65, yX7_copyRow) ∈ nests := by decide +kernel
theorem fw_X1_11 : Cond.fieldLink RX1 11 "HourEggs$House" "EGG_LEAST" "[I" ∈ gT := tb_0 32 rfl rfl
theorem fw_X1_15 : Cond.fieldLink RX1 15 "HourEggs$House" "EGG_MOST" "[I" ∈ gT := tb_0 34 rfl rfl
theorem fw_X5_15 : Cond.fieldLink RX5 15 (TX5 0).1 (TX5 0).2.1 (TX5 0).2.2.1 ∈ gT := tb_0 43 rfl rfl
theorem fw_X5_19 : Cond.fieldLink RX5 19 (TX5 1).1 (TX5 1).2.1 (TX5 1).2.2.1 ∈ gT := tb_0 44 rfl rfl
theorem fw_X5_23 : Cond.fieldLink RX5 23 (TX5 2).1 (TX5 2).2.1 (TX5 2).2.2.1 ∈ gT := tb_0 45 rfl rfl
theorem fw_X5_26 : Cond.fieldLink RX5 26 (TX5 3).1 (TX5 3).2.1 (TX5 3).2.2.1 ∈ gT := tb_0 46 rfl rfl
theorem fw_X1_29 : Cond.fieldLink RX1 29 "HourEggs$House" "HEN_LEAST" "[I" ∈ gT := tb_0 61 rfl rfl
theorem fw_X1_32 : Cond.fieldLink RX1 32 "HourEggs$House" "HEN_MOST" "[I" ∈ gT := tb_0 63 rfl rfl
theorem fw_X1_38 : Cond.fieldLink RX1 38 "HourEggs$House" "WORK_LEAST" "[I" ∈ gT := tb_0 65 rfl rfl
theorem fw_X1_41 : Cond.fieldLink RX1 41 "HourEggs$House" "WORK_MOST" "[I" ∈ gT := tb_0 67 rfl rfl
theorem fw_X1_21 : Cond.fieldLink RX1 21 (TX1 0).1 (TX1 0).2.1 (TX1 0).2.2.1 ∈ gT := tb_0 70 rfl rfl
theorem fw_X7_51 : Cond.fieldLink RX7 51 (TX1 0).1 (TX1 0).2.1 (TX1 0).2.2.1 ∈ gT := tb_0 71 rfl rfl
theorem fw_X1_35 : Cond.fieldLink RX1 35 (TX1 1).1 (TX1 1).2.1 (TX1 1).2.2.1 ∈ gT := tb_0 72 rfl rfl
theorem fw_X3_73 : Cond.fieldLink RX3 73 (TX1 1).1 (TX1 1).2.1 (TX1 1).2.2.1 ∈ gT := tb_0 73 rfl rfl
theorem fw_X7_97 : Cond.fieldLink RX7 97 (TX1 1).1 (TX1 1).2.1 (TX1 1).2.2.1 ∈ gT := tb_0 74 rfl rfl
theorem fw_X1_44 : Cond.fieldLink RX1 44 (TX1 2).1 (TX1 2).2.1 (TX1 2).2.2.1 ∈ gT := tb_0 75 rfl rfl
theorem fw_X3_88 : Cond.fieldLink RX3 88 (TX1 2).1 (TX1 2).2.1 (TX1 2).2.2.1 ∈ gT := tb_0 76 rfl rfl
theorem fw_X7_100 : Cond.fieldLink RX7 100 (TX1 2).1 (TX1 2).2.1 (TX1 2).2.2.1 ∈ gT := tb_0 77 rfl rfl
theorem fw_X0_51 : Cond.fieldLink RX0 51 (TX1 2).1 (TX1 2).2.1 (TX1 2).2.2.1 ∈ gT := tb_0 78 rfl rfl
theorem fw_X1_48 : Cond.fieldLink RX1 48 (TX1 3).1 (TX1 3).2.1 (TX1 3).2.2.1 ∈ gT := tb_0 79 rfl rfl
theorem fw_X1_51 : Cond.fieldLink RX1 51 (TX1 4).1 (TX1 4).2.1 (TX1 4).2.2.1 ∈ gT := tb_0 80 rfl rfl
theorem fw_X7_122 : Cond.fieldLink RX7 122 (TX1 4).1 (TX1 4).2.1 (TX1 4).2.2.1 ∈ gT := tb_0 81 rfl rfl
theorem fw_X1_55 : Cond.fieldLink RX1 55 (TX1 5).1 (TX1 5).2.1 (TX1 5).2.2.1 ∈ gT := tb_0 82 rfl rfl
theorem fw_X7_144 : Cond.fieldLink RX7 144 (TX1 5).1 (TX1 5).2.1 (TX1 5).2.2.1 ∈ gT := tb_0 83 rfl rfl
theorem fw_X1_58 : Cond.fieldLink RX1 58 (TX1 6).1 (TX1 6).2.1 (TX1 6).2.2.1 ∈ gT := tb_0 84 rfl rfl
theorem fw_X7_227 : Cond.fieldLink RX7 227 (TX1 6).1 (TX1 6).2.1 (TX1 6).2.2.1 ∈ gT := tb_0 85 rfl rfl
theorem fw_X0_11 : Cond.fieldLink RX0 11 (TX0 0).1 (TX0 0).2.1 (TX0 0).2.2.1 ∈ gT := tb_0 107 rfl rfl
theorem fw_X0_15 : Cond.fieldLink RX0 15 (TX0 1).1 (TX0 1).2.1 (TX0 1).2.2.1 ∈ gT := tb_0 108 rfl rfl
theorem fw_X0_22 : Cond.fieldLink RX0 22 (TX0 2).1 (TX0 2).2.1 (TX0 2).2.2.1 ∈ gT := tb_0 109 rfl rfl
theorem fw_X4_9 : Cond.fieldLink RX4 9 (TX4 0).1 (TX4 0).2.1 (TX4 0).2.2.1 ∈ gT := tb_0 124 rfl rfl
theorem fw_X4_13 : Cond.fieldLink RX4 13 (TX4 1).1 (TX4 1).2.1 (TX4 1).2.2.1 ∈ gT := tb_0 125 rfl rfl
theorem fw_X7_264 : Cond.fieldLink RX7 264 (TX4 1).1 (TX4 1).2.1 (TX4 1).2.2.1 ∈ gT := tb_0 126 rfl rfl
theorem fw_X4_26 : Cond.fieldLink RX4 26 (TX4 2).1 (TX4 2).2.1 (TX4 2).2.2.1 ∈ gT := tb_0 127 rfl rfl
theorem fw_X7_215 : Cond.fieldLink RX7 215 (TX4 2).1 (TX4 2).2.1 (TX4 2).2.2.1 ∈ gT := tb_0 128 rfl rfl
theorem fw_X6_9 : Cond.fieldLink RX6 9 (TX6 0).1 (TX6 0).2.1 (TX6 0).2.2.1 ∈ gT := tb_0 142 rfl rfl
theorem fw_X6_13 : Cond.fieldLink RX6 13 (TX6 1).1 (TX6 1).2.1 (TX6 1).2.2.1 ∈ gT := tb_0 143 rfl rfl
theorem fw_X7_230 : Cond.fieldLink RX7 230 (TX6 1).1 (TX6 1).2.1 (TX6 1).2.2.1 ∈ gT := tb_0 144 rfl rfl
theorem fw_X7_10 : Cond.fieldLink RX7 10 (TX7 0).1 (TX7 0).2.1 (TX7 0).2.2.1 ∈ gT := tb_0 150 rfl rfl
theorem fw_X7_16 : Cond.fieldLink RX7 16 (TX7 1).1 (TX7 1).2.1 (TX7 1).2.2.1 ∈ gT := tb_0 151 rfl rfl
theorem fw_X7_19 : Cond.fieldLink RX7 19 (TX7 2).1 (TX7 2).2.1 (TX7 2).2.2.1 ∈ gT := tb_0 152 rfl rfl
theorem fw_X7_25 : Cond.fieldLink RX7 25 (TX7 3).1 (TX7 3).2.1 (TX7 3).2.2.1 ∈ gT := tb_0 153 rfl rfl
theorem fw_X7_31 : Cond.fieldLink RX7 31 (TX7 4).1 (TX7 4).2.1 (TX7 4).2.2.1 ∈ gT := tb_0 154 rfl rfl
theorem fw_X7_39 : Cond.fieldLink RX7 39 (TX7 5).1 (TX7 5).2.1 (TX7 5).2.2.1 ∈ gT := tb_0 155 rfl rfl
theorem fw_X7_43 : Cond.fieldLink RX7 43 (TX7 6).1 (TX7 6).2.1 (TX7 6).2.2.1 ∈ gT := tb_0 156 rfl rfl
theorem fw_X7_47 : Cond.fieldLink RX7 47 (TX7 7).1 (TX7 7).2.1 (TX7 7).2.2.1 ∈ gT := tb_0 157 rfl rfl
theorem fw_X2_16 : Cond.fieldLink RX2 16 "HourEggs$Kinds" "KEEPS" "[I" ∈ gT := tb_0 230 rfl rfl
theorem fw_X3_9 : Cond.fieldLink RX3 9 (TX3 0).1 (TX3 0).2.1 (TX3 0).2.2.1 ∈ gT := tb_2 101 rfl rfl
theorem fw_X3_15 : Cond.fieldLink RX3 15 (TX3 1).1 (TX3 1).2.1 (TX3 1).2.2.1 ∈ gT := tb_2 102 rfl rfl
theorem fw_X3_45 : Cond.fieldLink RX3 45 (TX3 2).1 (TX3 2).2.1 (TX3 2).2.2.1 ∈ gT := tb_2 103 rfl rfl
theorem fw_X3_49 : Cond.fieldLink RX3 49 (TX3 3).1 (TX3 3).2.1 (TX3 3).2.2.1 ∈ gT := tb_2 104 rfl rfl
theorem fw_X3_124 : Cond.fieldLink RX3 124 (TX3 4).1 (TX3 4).2.1 (TX3 4).2.2.1 ∈ gT := tb_2 105 rfl rfl
theorem fw_X3_96 : Cond.fieldLink RX3 96 (TX3 5).1 (TX3 5).2.1 (TX3 5).2.2.1 ∈ gT := tb_2 106 rfl rfl
theorem fw_J0_38 : Cond.fieldLink RJ0 38 "java/lang/String" "COMPACT_STRINGS" "Z" ∈ gT := tb_2 163 rfl rfl
theorem fw_J0_1053 : Cond.fieldLink RJ0 1053 "jdk/internal/util/Preconditions" "SIOOBE_FORMATTER" "Ljava/util/function/BiFunction;" ∈ gT := tb_2 179 rfl rfl
theorem fw_J2_44 : Cond.fieldLink RJ2 44 "java/lang/StringUTF16" "$assertionsDisabled" "Z" ∈ gT := tb_2 197 rfl rfl
theorem fw_J2_59 : Cond.fieldLink RJ2 59 "java/lang/StringUTF16" "HI_BYTE_SHIFT" "I" ∈ gT := tb_2 199 rfl rfl
theorem fw_J2_63 : Cond.fieldLink RJ2 63 "java/lang/StringUTF16" "LO_BYTE_SHIFT" "I" ∈ gT := tb_2 201 rfl rfl
theorem fw_X2_26 : Cond.fieldLink RX2 26 "HourEggs$Kinds" "UPPER" "[I" ∈ gT := tb_3 14 rfl rfl
theorem fw_X8_9 : Cond.fieldLink RX8 9 (TX8 0).1 (TX8 0).2.1 (TX8 0).2.2.1 ∈ gT := tb_3 88 rfl rfl
theorem fw_X8_13 : Cond.fieldLink RX8 13 (TX8 1).1 (TX8 1).2.1 (TX8 1).2.2.1 ∈ gT := tb_3 89 rfl rfl
theorem fw_X8_16 : Cond.fieldLink RX8 16 (TX8 2).1 (TX8 2).2.1 (TX8 2).2.2.1 ∈ gT := tb_3 90 rfl rfl
theorem fw_X8_269 : Cond.fieldLink RX8 269 (TX8 3).1 (TX8 3).2.1 (TX8 3).2.2.1 ∈ gT := tb_3 91 rfl rfl
theorem fw_X8_19 : Cond.fieldLink RX8 19 (TX8 4).1 (TX8 4).2.1 (TX8 4).2.2.1 ∈ gT := tb_3 92 rfl rfl
theorem fw_X8_22 : Cond.fieldLink RX8 22 (TX8 5).1 (TX8 5).2.1 (TX8 5).2.2.1 ∈ gT := tb_3 93 rfl rfl
theorem fw_X8_26 : Cond.fieldLink RX8 26 (TX8 6).1 (TX8 6).2.1 (TX8 6).2.2.1 ∈ gT := tb_3 94 rfl rfl
theorem fw_X8_29 : Cond.fieldLink RX8 29 (TX8 7).1 (TX8 7).2.1 (TX8 7).2.2.1 ∈ gT := tb_3 95 rfl rfl
theorem fw_X8_205 : Cond.fieldLink RX8 205 (TX8 8).1 (TX8 8).2.1 (TX8 8).2.2.1 ∈ gT := tb_3 96 rfl rfl
theorem fw_X8_219 : Cond.fieldLink RX8 219 (TX8 9).1 (TX8 9).2.1 (TX8 9).2.2.1 ∈ gT := tb_3 97 rfl rfl
theorem fw_X8_212 : Cond.fieldLink RX8 212 (TX8 10).1 (TX8 10).2.1 (TX8 10).2.2.1 ∈ gT := tb_3 98 rfl rfl
theorem fw_X8_209 : Cond.fieldLink RX8 209 (TX8 11).1 (TX8 11).2.1 (TX8 11).2.2.1 ∈ gT := tb_3 99 rfl rfl
theorem fw_X8_215 : Cond.fieldLink RX8 215 (TX8 12).1 (TX8 12).2.1 (TX8 12).2.2.1 ∈ gT := tb_3 100 rfl rfl
theorem fw_X8_32 : Cond.fieldLink RX8 32 (TX8 13).1 (TX8 13).2.1 (TX8 13).2.2.1 ∈ gT := tb_3 101 rfl rfl
theorem fw_X8_36 : Cond.fieldLink RX8 36 (TX8 14).1 (TX8 14).2.1 (TX8 14).2.2.1 ∈ gT := tb_3 102 rfl rfl
theorem fw_X8_39 : Cond.fieldLink RX8 39 (TX8 15).1 (TX8 15).2.1 (TX8 15).2.2.1 ∈ gT := tb_3 103 rfl rfl
theorem fw_X8_42 : Cond.fieldLink RX8 42 (TX8 16).1 (TX8 16).2.1 (TX8 16).2.2.1 ∈ gT := tb_3 104 rfl rfl
theorem fw_X8_45 : Cond.fieldLink RX8 45 (TX8 17).1 (TX8 17).2.1 (TX8 17).2.2.1 ∈ gT := tb_3 105 rfl rfl
theorem fw_X8_48 : Cond.fieldLink RX8 48 (TX8 18).1 (TX8 18).2.1 (TX8 18).2.2.1 ∈ gT := tb_3 106 rfl rfl
theorem fw_X8_51 : Cond.fieldLink RX8 51 (TX8 19).1 (TX8 19).2.1 (TX8 19).2.2.1 ∈ gT := tb_3 107 rfl rfl
theorem fw_X8_54 : Cond.fieldLink RX8 54 (TX8 20).1 (TX8 20).2.1 (TX8 20).2.2.1 ∈ gT := tb_3 108 rfl rfl
theorem fw_J0_9 : Cond.fieldLink RJ0 9 "java/lang/String" "value" "[B" ∈ gT := tb_5 80 rfl rfl
theorem fw_J0_15 : Cond.fieldLink RJ0 15 "java/lang/String" "coder" "B" ∈ gT := tb_5 81 rfl rfl
theorem kw_X1_47 : Cond.constant RX1 47 (99999) ∈ gT := tb_0 69 rfl rfl
theorem kw_X7_277 : Cond.constant RX7 277 (-1000001) ∈ gT := tb_0 187 rfl rfl
theorem kw_X7_126 : Cond.constant RX7 126 (99999) ∈ gT := tb_1 67 rfl rfl
theorem kw_J6_265 : Cond.constant RJ6 265 (1431655765) ∈ gT := tb_1 90 rfl rfl
theorem kw_J6_266 : Cond.constant RJ6 266 (858993459) ∈ gT := tb_1 91 rfl rfl
theorem kw_J6_267 : Cond.constant RJ6 267 (252645135) ∈ gT := tb_1 92 rfl rfl
theorem kw_X1_134 : Cond.constant RX1 134 (1103515245) ∈ gT := tb_2 68 rfl rfl
theorem kw_X3_137 : Cond.constant RX3 137 (100000) ∈ gT := tb_2 135 rfl rfl
theorem kw_X3_87 : Cond.constant RX3 87 (99999) ∈ gT := tb_2 231 rfl rfl
theorem kw_X8_57 : Cond.constant RX8 57 (99999) ∈ gT := tb_3 87 rfl rfl
theorem kw_X8_58 : Cond.constant RX8 58 (-1000001) ∈ gT := tb_3 165 rfl rfl
theorem kw_X8_197 : Cond.constant RX8 197 (1103515245) ∈ gT := tb_4 203 rfl rfl
theorem kw_X7_223 : Cond.constantLong RX7 223 (3) ∈ gT := tb_2 73 rfl rfl
theorem kw_X7_225 : Cond.constantLong RX7 225 (4) ∈ gT := tb_2 74 rfl rfl
theorem kw_X8_201 : Cond.constantLong RX8 201 (3) ∈ gT := tb_4 208 rfl rfl
theorem kw_X8_203 : Cond.constantLong RX8 203 (4) ∈ gT := tb_4 209 rfl rfl
theorem kw_X8_225 : Cond.constantLong RX8 225 (9999999999999) ∈ gT := tb_4 233 rfl rfl
theorem kw_X8_227 : Cond.constantLong RX8 227 (27) ∈ gT := tb_4 234 rfl rfl
theorem kw_X8_229 : Cond.constantLong RX8 229 (96) ∈ gT := tb_4 235 rfl rfl
theorem kw_X8_234 : Cond.constantLong RX8 234 (99999) ∈ gT := tb_4 239 rfl rfl
theorem kw_X8_236 : Cond.constantLong RX8 236 (10) ∈ gT := tb_5 0 rfl rfl
theorem kw_X8_238 : Cond.constantLong RX8 238 (48) ∈ gT := tb_5 1 rfl rfl
theorem iw_L : Cond.initialized RL ∈ gT := tb_0 0 rfl rfl
theorem iw_X7 : Cond.initialized RX7 ∈ gT := tb_0 1 rfl rfl
theorem iw_X1 : Cond.initialized RX1 ∈ gT := tb_0 2 rfl rfl
theorem iw_X5 : Cond.initialized RX5 ∈ gT := tb_0 3 rfl rfl
theorem iw_J9 : Cond.initialized RJ9 ∈ gT := tb_0 4 rfl rfl
theorem iw_X0 : Cond.initialized RX0 ∈ gT := tb_0 5 rfl rfl
theorem iw_X4 : Cond.initialized RX4 ∈ gT := tb_0 6 rfl rfl
theorem iw_X6 : Cond.initialized RX6 ∈ gT := tb_0 7 rfl rfl
theorem iw_X8 : Cond.initialized RX8 ∈ gT := tb_0 8 rfl rfl
theorem iw_X2 : Cond.initialized RX2 ∈ gT := tb_0 9 rfl rfl
theorem iw_J6 : Cond.initialized RJ6 ∈ gT := tb_0 10 rfl rfl
theorem iw_X3 : Cond.initialized RX3 ∈ gT := tb_0 11 rfl rfl
theorem iw_J0 : Cond.initialized RJ0 ∈ gT := tb_0 12 rfl rfl
theorem iw_J1 : Cond.initialized RJ1 ∈ gT := tb_0 13 rfl rfl
theorem iw_J3 : Cond.initialized RJ3 ∈ gT := tb_0 14 rfl rfl
theorem iw_J2 : Cond.initialized RJ2 ∈ gT := tb_0 15 rfl rfl
theorem o_X7_init : okW yX7_init cX7_init 2 none 0 ∧ Cond.instanceMethod yX7_init ∈ gT := ⟨⟨iw_X7, tb_0 20 rfl rfl, by decide +kernel, by decide +kernel, by decide +kernel⟩, tb_0 19 rfl rfl⟩
theorem o_X1_init : okW yX1_init cX1_init 2 none 0 ∧ Cond.instanceMethod yX1_init ∈ gT := ⟨⟨iw_X1, tb_0 28 rfl rfl, by decide +kernel, by decide +kernel, by decide +kernel⟩, tb_0 27 rfl rfl⟩
theorem o_X5_init : okW yX5_init cX5_init 4 none 3 ∧ Cond.instanceMethod yX5_init ∈ gT := ⟨⟨iw_X5, tb_0 38 rfl rfl, by decide +kernel, by decide +kernel, by decide +kernel⟩, tb_0 37 rfl rfl⟩
theorem ow_Math_min : Cond.code Lib.Math.min.name Lib.Math.min.code 2 (some .int) ∈ gT := tb_0 42 rfl rfl
theorem sw_Math_min : Cond.static Lib.Math.min.name ∈ gT := tb_0 41 rfl rfl
theorem o_X5_put : okV yX5_put cX5_put 4 none 3 := ⟨⟨iw_X5, tb_0 60 rfl rfl, by decide +kernel, by decide +kernel, by decide +kernel⟩, tb_0 58 rfl rfl, tb_0 59 rfl rfl⟩
theorem o_X0_init : okW yX0_init cX0_init 1 none 0 ∧ Cond.instanceMethod yX0_init ∈ gT := ⟨⟨iw_X0, tb_0 105 rfl rfl, by decide +kernel, by decide +kernel, by decide +kernel⟩, tb_0 104 rfl rfl⟩
theorem o_X4_init : okW yX4_init cX4_init 1 none 0 ∧ Cond.instanceMethod yX4_init ∈ gT := ⟨⟨iw_X4, tb_0 122 rfl rfl, by decide +kernel, by decide +kernel, by decide +kernel⟩, tb_0 121 rfl rfl⟩
theorem o_X6_init : okW yX6_init cX6_init 1 none 0 ∧ Cond.instanceMethod yX6_init ∈ gT := ⟨⟨iw_X6, tb_0 140 rfl rfl, by decide +kernel, by decide +kernel, by decide +kernel⟩, tb_0 139 rfl rfl⟩
theorem o_X7_egg : okV yX7_egg cX7_egg 6 (some .int) 3 := ⟨⟨iw_X7, tb_0 178 rfl rfl, by decide +kernel, by decide +kernel, by decide +kernel⟩, tb_0 176 rfl rfl, tb_0 177 rfl rfl⟩
theorem o_X5_takes : okV yX5_takes cX5_takes 3 (some .boolean) 2 := ⟨⟨iw_X5, tb_0 182 rfl rfl, by decide +kernel, by decide +kernel, by decide +kernel⟩, tb_0 180 rfl rfl, tb_0 181 rfl rfl⟩
theorem o_X7_finding : okV yX7_finding cX7_finding 2 (some .int) 1 := ⟨⟨iw_X7, tb_0 186 rfl rfl, by decide +kernel, by decide +kernel, by decide +kernel⟩, tb_0 185 rfl rfl, gT_of (List.mem_append_left _ (List.mem_of_getElem? (i := 0) (by decide +kernel))) rfl⟩
theorem o_X1_emptyPlace : okV yX1_emptyPlace cX1_emptyPlace 2 (some .int) 0 := ⟨⟨iw_X1, tb_0 191 rfl rfl, by decide +kernel, by decide +kernel, by decide +kernel⟩, tb_0 189 rfl rfl, tb_0 190 rfl rfl⟩
theorem o_X1_hasEgg : okV yX1_hasEgg cX1_hasEgg 2 (some .boolean) 1 := ⟨⟨iw_X1, tb_0 195 rfl rfl, by decide +kernel, by decide +kernel, by decide +kernel⟩, tb_0 193 rfl rfl, tb_0 194 rfl rfl⟩
theorem o_X5_hasRow : okV yX5_hasRow cX5_hasRow 2 (some .boolean) 1 := ⟨⟨iw_X5, tb_0 199 rfl rfl, by decide +kernel, by decide +kernel, by decide +kernel⟩, tb_0 197 rfl rfl, tb_0 198 rfl rfl⟩
theorem o_X5_at : okV yX5_at cX5_at 3 (some .int) 2 := ⟨⟨iw_X5, tb_0 203 rfl rfl, by decide +kernel, by decide +kernel, by decide +kernel⟩, tb_0 201 rfl rfl, tb_0 202 rfl rfl⟩
theorem o_X1_layAt : okV yX1_layAt cX1_layAt 6 none 5 := ⟨⟨iw_X1, tb_0 207 rfl rfl, by decide +kernel, by decide +kernel, by decide +kernel⟩, tb_0 205 rfl rfl, tb_0 206 rfl rfl⟩
theorem o_X7_of : okV yX7_of cX7_of 3 (some .int) 2 := ⟨⟨iw_X7, tb_0 211 rfl rfl, by decide +kernel, by decide +kernel, by decide +kernel⟩, tb_0 209 rfl rfl, tb_0 210 rfl rfl⟩
theorem o_X7_within : okS yX7_within cX7_within 3 (some .boolean) 3 := ⟨⟨iw_X7, tb_0 215 rfl rfl, by decide +kernel, by decide +kernel, by decide +kernel⟩, tb_0 214 rfl rfl⟩
theorem o_X1_minutesOf : okV yX1_minutesOf cX1_minutesOf 2 (some .int) 1 := ⟨⟨iw_X1, tb_0 219 rfl rfl, by decide +kernel, by decide +kernel, by decide +kernel⟩, tb_0 217 rfl rfl, tb_0 218 rfl rfl⟩
theorem o_X1_minutesBehind : okV yX1_minutesBehind cX1_minutesBehind 5 (some .int) 4 := ⟨⟨iw_X1, tb_0 223 rfl rfl, by decide +kernel, by decide +kernel, by decide +kernel⟩, tb_0 221 rfl rfl, tb_0 222 rfl rfl⟩
theorem o_X2_stays : okS yX2_stays cX2_stays 3 (some .boolean) 3 := ⟨⟨iw_X2, tb_0 226 rfl rfl, by decide +kernel, by decide +kernel, by decide +kernel⟩, tb_0 225 rfl rfl⟩
theorem o_X2_keeps : okS yX2_keeps cX2_keeps 1 (some .int) 1 := ⟨⟨iw_X2, tb_0 229 rfl rfl, by decide +kernel, by decide +kernel, by decide +kernel⟩, tb_0 228 rfl rfl⟩
theorem o_X2_minutes : okS yX2_minutes cX2_minutes 7 (some .int) 4 := ⟨⟨iw_X2, tb_0 235 rfl rfl, by decide +kernel, by decide +kernel, by decide +kernel⟩, tb_0 234 rfl rfl⟩
theorem ow_Math_max : Cond.code Lib.Math.max.name Lib.Math.max.code 2 (some .int) ∈ gT := tb_0 238 rfl rfl
theorem sw_Math_max : Cond.static Lib.Math.max.name ∈ gT := tb_0 237 rfl rfl
theorem o_X7_change : okV yX7_change cX7_change 4 (some .int) 3 := ⟨⟨iw_X7, tb_1 5 rfl rfl, by decide +kernel, by decide +kernel, by decide +kernel⟩, tb_1 3 rfl rfl, tb_1 4 rfl rfl⟩
theorem o_X7_replace : okV yX7_replace cX7_replace 6 (some .int) 4 := ⟨⟨iw_X7, tb_1 9 rfl rfl, by decide +kernel, by decide +kernel, by decide +kernel⟩, tb_1 8 rfl rfl, gT_of (List.mem_append_left _ (List.mem_of_getElem? (i := 1) (by decide +kernel))) rfl⟩
theorem o_X7_hen : okV yX7_hen cX7_hen 4 (some .int) 3 := ⟨⟨iw_X7, tb_1 15 rfl rfl, by decide +kernel, by decide +kernel, by decide +kernel⟩, tb_1 13 rfl rfl, tb_1 14 rfl rfl⟩
theorem o_X7_work : okV yX7_work cX7_work 4 (some .int) 3 := ⟨⟨iw_X7, tb_1 19 rfl rfl, by decide +kernel, by decide +kernel, by decide +kernel⟩, tb_1 17 rfl rfl, tb_1 18 rfl rfl⟩
theorem o_X7_henOf : okV yX7_henOf cX7_henOf 3 (some .int) 2 := ⟨⟨iw_X7, tb_1 23 rfl rfl, by decide +kernel, by decide +kernel, by decide +kernel⟩, tb_1 21 rfl rfl, tb_1 22 rfl rfl⟩
theorem o_X5_hasColumn : okV yX5_hasColumn cX5_hasColumn 2 (some .boolean) 1 := ⟨⟨iw_X5, tb_1 27 rfl rfl, by decide +kernel, by decide +kernel, by decide +kernel⟩, tb_1 25 rfl rfl, tb_1 26 rfl rfl⟩
theorem o_X7_workOf : okV yX7_workOf cX7_workOf 3 (some .int) 2 := ⟨⟨iw_X7, tb_1 31 rfl rfl, by decide +kernel, by decide +kernel, by decide +kernel⟩, tb_1 29 rfl rfl, tb_1 30 rfl rfl⟩
theorem o_X1_isDone : okV yX1_isDone cX1_isDone 2 (some .boolean) 1 := ⟨⟨iw_X1, tb_1 35 rfl rfl, by decide +kernel, by decide +kernel, by decide +kernel⟩, tb_1 33 rfl rfl, tb_1 34 rfl rfl⟩
theorem o_X1_lacks : okV yX1_lacks cX1_lacks 2 (some .int) 1 := ⟨⟨iw_X1, tb_1 39 rfl rfl, by decide +kernel, by decide +kernel, by decide +kernel⟩, tb_1 37 rfl rfl, tb_1 38 rfl rfl⟩
theorem o_X7_spend : okV yX7_spend cX7_spend 3 (some .int) 2 := ⟨⟨iw_X7, tb_1 43 rfl rfl, by decide +kernel, by decide +kernel, by decide +kernel⟩, tb_1 41 rfl rfl, tb_1 42 rfl rfl⟩
theorem o_X1_isInTime : okV yX1_isInTime cX1_isInTime 2 (some .boolean) 1 := ⟨⟨iw_X1, tb_1 47 rfl rfl, by decide +kernel, by decide +kernel, by decide +kernel⟩, tb_1 45 rfl rfl, tb_1 46 rfl rfl⟩
theorem o_X1_spendOn : okV yX1_spendOn cX1_spendOn 5 (some .int) 2 := ⟨⟨iw_X1, tb_1 51 rfl rfl, by decide +kernel, by decide +kernel, by decide +kernel⟩, tb_1 49 rfl rfl, tb_1 50 rfl rfl⟩
theorem o_X1_empty : okV yX1_empty cX1_empty 2 none 1 := ⟨⟨iw_X1, tb_1 57 rfl rfl, by decide +kernel, by decide +kernel, by decide +kernel⟩, tb_1 55 rfl rfl, tb_1 56 rfl rfl⟩
theorem o_X7_broken : okV yX7_broken cX7_broken 3 (some .int) 1 := ⟨⟨iw_X7, tb_1 61 rfl rfl, by decide +kernel, by decide +kernel, by decide +kernel⟩, tb_1 59 rfl rfl, tb_1 60 rfl rfl⟩
theorem o_X7_go : okV yX7_go cX7_go 2 (some .int) 1 := ⟨⟨iw_X7, tb_1 66 rfl rfl, by decide +kernel, by decide +kernel, by decide +kernel⟩, tb_1 64 rfl rfl, tb_1 65 rfl rfl⟩
theorem o_X1_daysGoBy : okV yX1_daysGoBy cX1_daysGoBy 5 (some .int) 1 := ⟨⟨iw_X1, tb_1 71 rfl rfl, by decide +kernel, by decide +kernel, by decide +kernel⟩, tb_1 69 rfl rfl, tb_1 70 rfl rfl⟩
theorem o_X1_eggsAge : okV yX1_eggsAge cX1_eggsAge 4 (some .int) 0 := ⟨⟨iw_X1, tb_1 75 rfl rfl, by decide +kernel, by decide +kernel, by decide +kernel⟩, tb_1 74 rfl rfl, gT_of (List.mem_append_left _ (List.mem_of_getElem? (i := 2) (by decide +kernel))) rfl⟩
theorem o_X1_hensLay : okV yX1_hensLay cX1_hensLay 4 none 0 := ⟨⟨iw_X1, tb_1 80 rfl rfl, by decide +kernel, by decide +kernel, by decide +kernel⟩, tb_1 79 rfl rfl, gT_of (List.mem_append_left _ (List.mem_of_getElem? (i := 3) (by decide +kernel))) rfl⟩
theorem o_X1_places : okV yX1_places cX1_places 3 (some .int) 0 := ⟨⟨iw_X1, tb_1 86 rfl rfl, by decide +kernel, by decide +kernel, by decide +kernel⟩, tb_1 84 rfl rfl, tb_1 85 rfl rfl⟩
theorem o_J6_bitCount_0f7a4 : okS yJ6_bitCount_0f7a4 cJ6_bitCount_0f7a4 1 (some .int) 1 := ⟨⟨iw_J6, tb_1 89 rfl rfl, by decide +kernel, by decide +kernel, by decide +kernel⟩, tb_1 88 rfl rfl⟩
theorem o_X7_now : okV yX7_now cX7_now 2 (some .int) 1 := ⟨⟨iw_X7, tb_1 96 rfl rfl, by decide +kernel, by decide +kernel, by decide +kernel⟩, tb_1 94 rfl rfl, tb_1 95 rfl rfl⟩
theorem o_X1_allMinutes : okV yX1_allMinutes cX1_allMinutes 3 (some .int) 0 := ⟨⟨iw_X1, tb_1 100 rfl rfl, by decide +kernel, by decide +kernel, by decide +kernel⟩, tb_1 98 rfl rfl, tb_1 99 rfl rfl⟩
theorem o_X1_doneWorks : okV yX1_doneWorks cX1_doneWorks 3 (some .int) 0 := ⟨⟨iw_X1, tb_1 104 rfl rfl, by decide +kernel, by decide +kernel, by decide +kernel⟩, tb_1 102 rfl rfl, tb_1 103 rfl rfl⟩
theorem o_X7_ahead : okV yX7_ahead cX7_ahead 2 (some .int) 1 := ⟨⟨iw_X7, tb_1 109 rfl rfl, by decide +kernel, by decide +kernel, by decide +kernel⟩, tb_1 107 rfl rfl, tb_1 108 rfl rfl⟩
theorem o_X1_become : okV yX1_become cX1_become 2 none 1 := ⟨⟨iw_X1, tb_1 113 rfl rfl, by decide +kernel, by decide +kernel, by decide +kernel⟩, tb_1 111 rfl rfl, tb_1 112 rfl rfl⟩
theorem o_X5_become : okV yX5_become cX5_become 2 none 1 := ⟨⟨iw_X5, tb_1 117 rfl rfl, by decide +kernel, by decide +kernel, by decide +kernel⟩, tb_1 115 rfl rfl, tb_1 116 rfl rfl⟩
theorem o_X7_copyRow : okS yX7_copyRow cX7_copyRow 3 none 2 := ⟨⟨iw_X7, tb_1 120 rfl rfl, by decide +kernel, by decide +kernel, by decide +kernel⟩, tb_1 119 rfl rfl⟩
theorem o_X7_spoils : okV yX7_spoils cX7_spoils 2 (some .int) 1 := ⟨⟨iw_X7, tb_1 125 rfl rfl, by decide +kernel, by decide +kernel, by decide +kernel⟩, tb_1 123 rfl rfl, tb_1 124 rfl rfl⟩
theorem o_X7_ripe : okV yX7_ripe cX7_ripe 8 (some .int) 1 := ⟨⟨iw_X7, tb_1 129 rfl rfl, by decide +kernel, by decide +kernel, by decide +kernel⟩, tb_1 127 rfl rfl, tb_1 128 rfl rfl⟩
theorem o_X7_lasts : okV yX7_lasts cX7_lasts 5 (some .int) 1 := ⟨⟨iw_X7, tb_1 135 rfl rfl, by decide +kernel, by decide +kernel, by decide +kernel⟩, tb_1 133 rfl rfl, tb_1 134 rfl rfl⟩
theorem o_X7_when : okV yX7_when cX7_when 3 (some .int) 1 := ⟨⟨iw_X7, tb_1 139 rfl rfl, by decide +kernel, by decide +kernel, by decide +kernel⟩, tb_1 137 rfl rfl, tb_1 138 rfl rfl⟩
theorem o_X7_kindFor : okV yX7_kindFor cX7_kindFor 8 (some .int) 2 := ⟨⟨iw_X7, tb_1 143 rfl rfl, by decide +kernel, by decide +kernel, by decide +kernel⟩, tb_1 141 rfl rfl, tb_1 142 rfl rfl⟩
theorem o_X7_everyFor : okV yX7_everyFor cX7_everyFor 7 (some .int) 2 := ⟨⟨iw_X7, tb_1 147 rfl rfl, by decide +kernel, by decide +kernel, by decide +kernel⟩, tb_1 145 rfl rfl, tb_1 146 rfl rfl⟩
theorem o_X7_minutesWithEvery : okV yX7_minutesWithEvery cX7_minutesWithEvery 4 (some .int) 3 := ⟨⟨iw_X7, tb_1 151 rfl rfl, by decide +kernel, by decide +kernel, by decide +kernel⟩, tb_1 150 rfl rfl, gT_of (List.mem_append_left _ (List.mem_of_getElem? (i := 4) (by decide +kernel))) rfl⟩
theorem o_X7_fewest : okV yX7_fewest cX7_fewest 3 (some .int) 1 := ⟨⟨iw_X7, tb_1 155 rfl rfl, by decide +kernel, by decide +kernel, by decide +kernel⟩, tb_1 153 rfl rfl, tb_1 154 rfl rfl⟩
theorem o_X0_lookAt : okV yX0_lookAt cX0_lookAt 6 none 1 := ⟨⟨iw_X0, tb_1 159 rfl rfl, by decide +kernel, by decide +kernel, by decide +kernel⟩, tb_1 157 rfl rfl, tb_1 158 rfl rfl⟩
theorem o_X0_fewestFor : okV yX0_fewestFor cX0_fewestFor 5 (some .int) 2 := ⟨⟨iw_X0, tb_1 165 rfl rfl, by decide +kernel, by decide +kernel, by decide +kernel⟩, tb_1 163 rfl rfl, tb_1 164 rfl rfl⟩
theorem o_X0_does : okV yX0_does cX0_does 4 (some .boolean) 3 := ⟨⟨iw_X0, tb_1 169 rfl rfl, by decide +kernel, by decide +kernel, by decide +kernel⟩, tb_1 168 rfl rfl, gT_of (List.mem_append_left _ (List.mem_of_getElem? (i := 5) (by decide +kernel))) rfl⟩
theorem o_X0_isOfEggs : okV yX0_isOfEggs cX0_isOfEggs 2 (some .boolean) 1 := ⟨⟨iw_X0, tb_1 173 rfl rfl, by decide +kernel, by decide +kernel, by decide +kernel⟩, tb_1 172 rfl rfl, gT_of (List.mem_append_left _ (List.mem_of_getElem? (i := 6) (by decide +kernel))) rfl⟩
theorem o_X0_sumOf : okV yX0_sumOf cX0_sumOf 2 (some .int) 1 := ⟨⟨iw_X0, tb_1 178 rfl rfl, by decide +kernel, by decide +kernel, by decide +kernel⟩, tb_1 177 rfl rfl, gT_of (List.mem_append_left _ (List.mem_of_getElem? (i := 7) (by decide +kernel))) rfl⟩
theorem o_X7_thrifty : okV yX7_thrifty cX7_thrifty 3 (some .int) 1 := ⟨⟨iw_X7, tb_1 184 rfl rfl, by decide +kernel, by decide +kernel, by decide +kernel⟩, tb_1 182 rfl rfl, tb_1 183 rfl rfl⟩
theorem o_X0_leastFor : okV yX0_leastFor cX0_leastFor 5 (some .int) 2 := ⟨⟨iw_X0, tb_1 188 rfl rfl, by decide +kernel, by decide +kernel, by decide +kernel⟩, tb_1 186 rfl rfl, tb_1 187 rfl rfl⟩
theorem o_X7_best : okV yX7_best cX7_best 1 (some .int) 0 := ⟨⟨iw_X7, tb_1 192 rfl rfl, by decide +kernel, by decide +kernel, by decide +kernel⟩, tb_1 190 rfl rfl, tb_1 191 rfl rfl⟩
theorem o_X0_bestMark : okV yX0_bestMark cX0_bestMark 6 (some .int) 1 := ⟨⟨iw_X0, tb_1 196 rfl rfl, by decide +kernel, by decide +kernel, by decide +kernel⟩, tb_1 194 rfl rfl, tb_1 195 rfl rfl⟩
theorem o_X0_offer : okV yX0_offer cX0_offer 4 none 2 := ⟨⟨iw_X0, tb_1 202 rfl rfl, by decide +kernel, by decide +kernel, by decide +kernel⟩, tb_1 201 rfl rfl, gT_of (List.mem_append_left _ (List.mem_of_getElem? (i := 8) (by decide +kernel))) rfl⟩
theorem o_X0_bestWithOneMore : okV yX0_bestWithOneMore cX0_bestWithOneMore 6 (some .int) 3 := ⟨⟨iw_X0, tb_1 206 rfl rfl, by decide +kernel, by decide +kernel, by decide +kernel⟩, tb_1 205 rfl rfl, gT_of (List.mem_append_left _ (List.mem_of_getElem? (i := 9) (by decide +kernel))) rfl⟩
theorem o_X0_markOf : okV yX0_markOf cX0_markOf 2 (some .int) 1 := ⟨⟨iw_X0, tb_1 210 rfl rfl, by decide +kernel, by decide +kernel, by decide +kernel⟩, tb_1 209 rfl rfl, gT_of (List.mem_append_left _ (List.mem_of_getElem? (i := 10) (by decide +kernel))) rfl⟩
theorem o_X0_worthOf : okS yX0_worthOf cX0_worthOf 1 (some .int) 1 := ⟨⟨iw_X0, tb_1 214 rfl rfl, by decide +kernel, by decide +kernel, by decide +kernel⟩, tb_1 213 rfl rfl⟩
theorem o_X7_bestWorks : okV yX7_bestWorks cX7_bestWorks 1 (some .int) 0 := ⟨⟨iw_X7, tb_1 218 rfl rfl, by decide +kernel, by decide +kernel, by decide +kernel⟩, tb_1 216 rfl rfl, tb_1 217 rfl rfl⟩
theorem o_X0_worksOf : okS yX0_worksOf cX0_worksOf 1 (some .int) 1 := ⟨⟨iw_X0, tb_1 221 rfl rfl, by decide +kernel, by decide +kernel, by decide +kernel⟩, tb_1 220 rfl rfl⟩
theorem o_X7_soonest : okV yX7_soonest cX7_soonest 3 (some .int) 1 := ⟨⟨iw_X7, tb_1 226 rfl rfl, by decide +kernel, by decide +kernel, by decide +kernel⟩, tb_1 224 rfl rfl, tb_1 225 rfl rfl⟩
theorem o_X7_nest : okV yX7_nest cX7_nest 2 (some .int) 1 := ⟨⟨iw_X7, tb_1 231 rfl rfl, by decide +kernel, by decide +kernel, by decide +kernel⟩, tb_1 229 rfl rfl, tb_1 230 rfl rfl⟩
theorem o_X1_minutesIn : okV yX1_minutesIn cX1_minutesIn 4 (some .int) 1 := ⟨⟨iw_X1, tb_1 235 rfl rfl, by decide +kernel, by decide +kernel, by decide +kernel⟩, tb_1 233 rfl rfl, tb_1 234 rfl rfl⟩
theorem o_X7_guard : okV yX7_guard cX7_guard 3 (some .int) 0 := ⟨⟨iw_X7, tb_1 239 rfl rfl, by decide +kernel, by decide +kernel, by decide +kernel⟩, tb_1 237 rfl rfl, tb_1 238 rfl rfl⟩
theorem o_X7_halves : okV yX7_halves cX7_halves 1 (some .int) 0 := ⟨⟨iw_X7, tb_2 3 rfl rfl, by decide +kernel, by decide +kernel, by decide +kernel⟩, tb_2 1 rfl rfl, tb_2 2 rfl rfl⟩
theorem o_X0_nearestHalf : okV yX0_nearestHalf cX0_nearestHalf 3 (some .int) 0 := ⟨⟨iw_X0, tb_2 7 rfl rfl, by decide +kernel, by decide +kernel, by decide +kernel⟩, tb_2 5 rfl rfl, tb_2 6 rfl rfl⟩
theorem o_X0_apartWith : okV yX0_apartWith cX0_apartWith 2 (some .int) 1 := ⟨⟨iw_X0, tb_2 11 rfl rfl, by decide +kernel, by decide +kernel, by decide +kernel⟩, tb_2 9 rfl rfl, tb_2 10 rfl rfl⟩
theorem ow_Math_abs : Cond.code Lib.Math.abs.name Lib.Math.abs.code 1 (some .int) ∈ gT := tb_2 14 rfl rfl
theorem sw_Math_abs : Cond.static Lib.Math.abs.name ∈ gT := tb_2 13 rfl rfl
theorem o_X7_apart : okV yX7_apart cX7_apart 1 (some .int) 0 := ⟨⟨iw_X7, tb_2 18 rfl rfl, by decide +kernel, by decide +kernel, by decide +kernel⟩, tb_2 16 rfl rfl, tb_2 17 rfl rfl⟩
theorem o_X7_sets : okV yX7_sets cX7_sets 2 (some .int) 1 := ⟨⟨iw_X7, tb_2 23 rfl rfl, by decide +kernel, by decide +kernel, by decide +kernel⟩, tb_2 21 rfl rfl, tb_2 22 rfl rfl⟩
theorem o_X0_setsOf : okV yX0_setsOf cX0_setsOf 4 (some .int) 1 := ⟨⟨iw_X0, tb_2 27 rfl rfl, by decide +kernel, by decide +kernel, by decide +kernel⟩, tb_2 25 rfl rfl, tb_2 26 rfl rfl⟩
theorem o_X7_ages : okV yX7_ages cX7_ages 6 (some .int) 2 := ⟨⟨iw_X7, tb_2 31 rfl rfl, by decide +kernel, by decide +kernel, by decide +kernel⟩, tb_2 29 rfl rfl, tb_2 30 rfl rfl⟩
theorem o_X7_wrongTold : okV yX7_wrongTold cX7_wrongTold 4 (some .int) 2 := ⟨⟨iw_X7, tb_2 35 rfl rfl, by decide +kernel, by decide +kernel, by decide +kernel⟩, tb_2 34 rfl rfl, gT_of (List.mem_append_left _ (List.mem_of_getElem? (i := 11) (by decide +kernel))) rfl⟩
theorem o_X7_wrongSheet : okV yX7_wrongSheet cX7_wrongSheet 3 (some .int) 1 := ⟨⟨iw_X7, tb_2 39 rfl rfl, by decide +kernel, by decide +kernel, by decide +kernel⟩, tb_2 38 rfl rfl, gT_of (List.mem_append_left _ (List.mem_of_getElem? (i := 12) (by decide +kernel))) rfl⟩
theorem o_X7_sheetAt : okV yX7_sheetAt cX7_sheetAt 2 (some (.object "HourEggs$Sheet")) 1 := ⟨⟨iw_X7, tb_2 43 rfl rfl, by decide +kernel, by decide +kernel, by decide +kernel⟩, tb_2 42 rfl rfl, gT_of (List.mem_append_left _ (List.mem_of_getElem? (i := 13) (by decide +kernel))) rfl⟩
theorem o_X4_isMissing : okV yX4_isMissing cX4_isMissing 1 (some .boolean) 0 := ⟨⟨iw_X4, tb_2 47 rfl rfl, by decide +kernel, by decide +kernel, by decide +kernel⟩, tb_2 45 rfl rfl, tb_2 46 rfl rfl⟩
theorem o_X7_fits : okV yX7_fits cX7_fits 7 (some .boolean) 3 := ⟨⟨iw_X7, tb_2 51 rfl rfl, by decide +kernel, by decide +kernel, by decide +kernel⟩, tb_2 50 rfl rfl, gT_of (List.mem_append_left _ (List.mem_of_getElem? (i := 14) (by decide +kernel))) rfl⟩
theorem o_X4_at : okV yX4_at cX4_at 2 (some .int) 1 := ⟨⟨iw_X4, tb_2 55 rfl rfl, by decide +kernel, by decide +kernel, by decide +kernel⟩, tb_2 53 rfl rfl, tb_2 54 rfl rfl⟩
theorem o_X7_youngest : okV yX7_youngest cX7_youngest 5 (some .int) 2 := ⟨⟨iw_X7, tb_2 59 rfl rfl, by decide +kernel, by decide +kernel, by decide +kernel⟩, tb_2 57 rfl rfl, tb_2 58 rfl rfl⟩
theorem o_X7_foxes : okV yX7_foxes cX7_foxes 4 (some .int) 1 := ⟨⟨iw_X7, tb_2 63 rfl rfl, by decide +kernel, by decide +kernel, by decide +kernel⟩, tb_2 61 rfl rfl, tb_2 62 rfl rfl⟩
theorem o_X1_foxComes : okV yX1_foxComes cX1_foxComes 4 (some .int) 0 := ⟨⟨iw_X1, tb_2 67 rfl rfl, by decide +kernel, by decide +kernel, by decide +kernel⟩, tb_2 65 rfl rfl, tb_2 66 rfl rfl⟩
theorem o_X7_odds : okV yX7_odds cX7_odds 6 (some .long) 2 := ⟨⟨iw_X7, tb_2 72 rfl rfl, by decide +kernel, by decide +kernel, by decide +kernel⟩, tb_2 70 rfl rfl, tb_2 71 rfl rfl⟩
theorem o_X7_seed : okV yX7_seed cX7_seed 3 (some .int) 1 := ⟨⟨iw_X7, tb_2 78 rfl rfl, by decide +kernel, by decide +kernel, by decide +kernel⟩, tb_2 76 rfl rfl, tb_2 77 rfl rfl⟩
theorem o_X7_feed : okV yX7_feed cX7_feed 4 (some .int) 2 := ⟨⟨iw_X7, tb_2 82 rfl rfl, by decide +kernel, by decide +kernel, by decide +kernel⟩, tb_2 80 rfl rfl, tb_2 81 rfl rfl⟩
theorem o_X6_append : okV yX6_append cX6_append 2 none 1 := ⟨⟨iw_X6, tb_2 86 rfl rfl, by decide +kernel, by decide +kernel, by decide +kernel⟩, tb_2 84 rfl rfl, tb_2 85 rfl rfl⟩
theorem o_X7_wipe : okV yX7_wipe cX7_wipe 2 (some .int) 0 := ⟨⟨iw_X7, tb_2 90 rfl rfl, by decide +kernel, by decide +kernel, by decide +kernel⟩, tb_2 88 rfl rfl, tb_2 89 rfl rfl⟩
theorem o_X7_text : okV yX7_text cX7_text 2 (some .int) 0 := ⟨⟨iw_X7, tb_2 94 rfl rfl, by decide +kernel, by decide +kernel, by decide +kernel⟩, tb_2 92 rfl rfl, tb_2 93 rfl rfl⟩
theorem o_X3_init : okW yX3_init cX3_init 3 none 2 ∧ Cond.instanceMethod yX3_init ∈ gT := ⟨⟨iw_X3, tb_2 99 rfl rfl, by decide +kernel, by decide +kernel, by decide +kernel⟩, tb_2 98 rfl rfl⟩
theorem o_X3_readText : okV yX3_readText cX3_readText 4 (some .int) 0 := ⟨⟨iw_X3, tb_2 123 rfl rfl, by decide +kernel, by decide +kernel, by decide +kernel⟩, tb_2 121 rfl rfl, tb_2 122 rfl rfl⟩
theorem o_X3_advance : okV yX3_advance cX3_advance 1 none 0 := ⟨⟨iw_X3, tb_2 127 rfl rfl, by decide +kernel, by decide +kernel, by decide +kernel⟩, tb_2 126 rfl rfl, gT_of (List.mem_append_left _ (List.mem_of_getElem? (i := 15) (by decide +kernel))) rfl⟩
theorem o_X6_at : okV yX6_at cX6_at 2 (some .int) 1 := ⟨⟨iw_X6, tb_2 131 rfl rfl, by decide +kernel, by decide +kernel, by decide +kernel⟩, tb_2 129 rfl rfl, tb_2 130 rfl rfl⟩
theorem o_X3_sortOf : okS yX3_sortOf cX3_sortOf 1 (some .int) 1 := ⟨⟨iw_X3, tb_2 134 rfl rfl, by decide +kernel, by decide +kernel, by decide +kernel⟩, tb_2 133 rfl rfl⟩
theorem o_X3_kindAhead : okV yX3_kindAhead cX3_kindAhead 2 (some .int) 0 := ⟨⟨iw_X3, tb_2 140 rfl rfl, by decide +kernel, by decide +kernel, by decide +kernel⟩, tb_2 139 rfl rfl, gT_of (List.mem_append_left _ (List.mem_of_getElem? (i := 16) (by decide +kernel))) rfl⟩
theorem o_X3_wordOf : okS yX3_wordOf cX3_wordOf 1 (some (.object "java/lang/String")) 1 := ⟨⟨iw_X3, tb_2 143 rfl rfl, by decide +kernel, by decide +kernel, by decide +kernel⟩, tb_2 142 rfl rfl⟩
theorem o_X3_isAhead : okV yX3_isAhead cX3_isAhead 3 (some .boolean) 1 := ⟨⟨iw_X3, tb_2 154 rfl rfl, by decide +kernel, by decide +kernel, by decide +kernel⟩, tb_2 153 rfl rfl, gT_of (List.mem_append_left _ (List.mem_of_getElem? (i := 17) (by decide +kernel))) rfl⟩
theorem o_J0_length_8abf5 : okV yJ0_length_8abf5 cJ0_length_8abf5 1 (some .int) 0 := ⟨⟨iw_J0, tb_2 158 rfl rfl, by decide +kernel, by decide +kernel, by decide +kernel⟩, tb_2 156 rfl rfl, tb_2 157 rfl rfl⟩
theorem o_J0_coder_7d493 : okV yJ0_coder_7d493 cJ0_coder_7d493 1 (some .byte) 0 := ⟨⟨iw_J0, tb_2 162 rfl rfl, by decide +kernel, by decide +kernel, by decide +kernel⟩, tb_2 160 rfl rfl, tb_2 161 rfl rfl⟩
theorem o_J0_charAt_5068e : okV yJ0_charAt_5068e cJ0_charAt_5068e 2 (some .char) 1 := ⟨⟨iw_J0, tb_2 168 rfl rfl, by decide +kernel, by decide +kernel, by decide +kernel⟩, tb_2 166 rfl rfl, tb_2 167 rfl rfl⟩
theorem o_J0_isLatin1_aae02 : okV yJ0_isLatin1_aae02 cJ0_isLatin1_aae02 1 (some .boolean) 0 := ⟨⟨iw_J0, tb_2 172 rfl rfl, by decide +kernel, by decide +kernel, by decide +kernel⟩, tb_2 170 rfl rfl, tb_2 171 rfl rfl⟩
theorem o_J1_charAt_3b067 : okS yJ1_charAt_3b067 cJ1_charAt_3b067 2 (some .char) 2 := ⟨⟨iw_J1, tb_2 175 rfl rfl, by decide +kernel, by decide +kernel, by decide +kernel⟩, tb_2 174 rfl rfl⟩
theorem o_J0_checkIndex_df160 : okS yJ0_checkIndex_df160 cJ0_checkIndex_df160 2 none 2 := ⟨⟨iw_J0, tb_2 178 rfl rfl, by decide +kernel, by decide +kernel, by decide +kernel⟩, tb_2 177 rfl rfl⟩
theorem o_J3_checkIndex_8e157 : okS yJ3_checkIndex_8e157 cJ3_checkIndex_8e157 3 (some .int) 3 := ⟨⟨iw_J3, tb_2 183 rfl rfl, by decide +kernel, by decide +kernel, by decide +kernel⟩, tb_2 182 rfl rfl⟩
theorem o_J2_charAt_3b067 : okS yJ2_charAt_3b067 cJ2_charAt_3b067 2 (some .char) 2 := ⟨⟨iw_J2, tb_2 186 rfl rfl, by decide +kernel, by decide +kernel, by decide +kernel⟩, tb_2 185 rfl rfl⟩
theorem o_J2_checkIndex_2214a : okS yJ2_checkIndex_2214a cJ2_checkIndex_2214a 2 none 2 := ⟨⟨iw_J2, tb_2 189 rfl rfl, by decide +kernel, by decide +kernel, by decide +kernel⟩, tb_2 188 rfl rfl⟩
theorem o_J2_length_9d52b : okS yJ2_length_9d52b cJ2_length_9d52b 1 (some .int) 1 := ⟨⟨iw_J2, tb_2 192 rfl rfl, by decide +kernel, by decide +kernel, by decide +kernel⟩, tb_2 191 rfl rfl⟩
theorem o_J2_getChar_3b067 : okS yJ2_getChar_3b067 cJ2_getChar_3b067 2 (some .char) 2 := ⟨⟨iw_J2, tb_2 196 rfl rfl, by decide +kernel, by decide +kernel, by decide +kernel⟩, tb_2 195 rfl rfl⟩
theorem o_X3_readEgg : okV yX3_readEgg cX3_readEgg 6 (some .boolean) 1 := ⟨⟨iw_X3, tb_2 206 rfl rfl, by decide +kernel, by decide +kernel, by decide +kernel⟩, tb_2 205 rfl rfl, gT_of (List.mem_append_left _ (List.mem_of_getElem? (i := 18) (by decide +kernel))) rfl⟩
theorem o_X3_readNumber : okV yX3_readNumber cX3_readNumber 4 (some .int) 2 := ⟨⟨iw_X3, tb_2 211 rfl rfl, by decide +kernel, by decide +kernel, by decide +kernel⟩, tb_2 210 rfl rfl, gT_of (List.mem_append_left _ (List.mem_of_getElem? (i := 19) (by decide +kernel))) rfl⟩
theorem o_X3_readPerhaps : okV yX3_readPerhaps cX3_readPerhaps 4 (some .int) 3 := ⟨⟨iw_X3, tb_2 216 rfl rfl, by decide +kernel, by decide +kernel, by decide +kernel⟩, tb_2 215 rfl rfl, gT_of (List.mem_append_left _ (List.mem_of_getElem? (i := 20) (by decide +kernel))) rfl⟩
theorem o_X3_readHen : okV yX3_readHen cX3_readHen 3 (some .boolean) 0 := ⟨⟨iw_X3, tb_2 223 rfl rfl, by decide +kernel, by decide +kernel, by decide +kernel⟩, tb_2 222 rfl rfl, gT_of (List.mem_append_left _ (List.mem_of_getElem? (i := 21) (by decide +kernel))) rfl⟩
theorem o_X3_readWork : okV yX3_readWork cX3_readWork 5 (some .boolean) 0 := ⟨⟨iw_X3, tb_2 228 rfl rfl, by decide +kernel, by decide +kernel, by decide +kernel⟩, tb_2 227 rfl rfl, gT_of (List.mem_append_left _ (List.mem_of_getElem? (i := 22) (by decide +kernel))) rfl⟩
theorem o_X7_hold : okV yX7_hold cX7_hold 3 (some .int) 2 := ⟨⟨iw_X7, tb_2 238 rfl rfl, by decide +kernel, by decide +kernel, by decide +kernel⟩, tb_2 236 rfl rfl, tb_2 237 rfl rfl⟩
theorem o_X1_setSpot : okV yX1_setSpot cX1_setSpot 3 none 2 := ⟨⟨iw_X1, tb_3 2 rfl rfl, by decide +kernel, by decide +kernel, by decide +kernel⟩, tb_3 0 rfl rfl, tb_3 1 rfl rfl⟩
theorem o_X7_as : okV yX7_as cX7_as 4 (some .int) 2 := ⟨⟨iw_X7, tb_3 6 rfl rfl, by decide +kernel, by decide +kernel, by decide +kernel⟩, tb_3 4 rfl rfl, tb_3 5 rfl rfl⟩
theorem o_X1_spotAt : okV yX1_spotAt cX1_spotAt 2 (some .int) 1 := ⟨⟨iw_X1, tb_3 10 rfl rfl, by decide +kernel, by decide +kernel, by decide +kernel⟩, tb_3 8 rfl rfl, tb_3 9 rfl rfl⟩
theorem o_X2_isUnder : okS yX2_isUnder cX2_isUnder 4 (some .boolean) 2 := ⟨⟨iw_X2, tb_3 13 rfl rfl, by decide +kernel, by decide +kernel, by decide +kernel⟩, tb_3 12 rfl rfl⟩
theorem o_X7_sheet : okV yX7_sheet cX7_sheet 5 (some .int) 3 := ⟨⟨iw_X7, tb_3 19 rfl rfl, by decide +kernel, by decide +kernel, by decide +kernel⟩, tb_3 17 rfl rfl, tb_3 18 rfl rfl⟩
theorem o_X4_hasWidth : okS yX4_hasWidth cX4_hasWidth 1 (some .boolean) 1 := ⟨⟨iw_X4, tb_3 22 rfl rfl, by decide +kernel, by decide +kernel, by decide +kernel⟩, tb_3 21 rfl rfl⟩
theorem o_X4_makeNew : okV yX4_makeNew cX4_makeNew 4 none 2 := ⟨⟨iw_X4, tb_3 26 rfl rfl, by decide +kernel, by decide +kernel, by decide +kernel⟩, tb_3 24 rfl rfl, tb_3 25 rfl rfl⟩
theorem o_X7_write : okV yX7_write cX7_write 6 (some .int) 3 := ⟨⟨iw_X7, tb_3 32 rfl rfl, by decide +kernel, by decide +kernel, by decide +kernel⟩, tb_3 30 rfl rfl, tb_3 31 rfl rfl⟩
theorem o_X4_put : okV yX4_put cX4_put 3 none 2 := ⟨⟨iw_X4, tb_3 36 rfl rfl, by decide +kernel, by decide +kernel, by decide +kernel⟩, tb_3 34 rfl rfl, tb_3 35 rfl rfl⟩
theorem o_X7_copy : okV yX7_copy cX7_copy 8 (some .int) 5 := ⟨⟨iw_X7, tb_3 40 rfl rfl, by decide +kernel, by decide +kernel, by decide +kernel⟩, tb_3 38 rfl rfl, tb_3 39 rfl rfl⟩
theorem o_X4_hasNumbers : okV yX4_hasNumbers cX4_hasNumbers 3 (some .boolean) 2 := ⟨⟨iw_X4, tb_3 44 rfl rfl, by decide +kernel, by decide +kernel, by decide +kernel⟩, tb_3 42 rfl rfl, tb_3 43 rfl rfl⟩
theorem o_X7_copyNumbers : okS yX7_copyNumbers cX7_copyNumbers 8 none 5 := ⟨⟨iw_X7, tb_3 47 rfl rfl, by decide +kernel, by decide +kernel, by decide +kernel⟩, tb_3 46 rfl rfl⟩
theorem o_X7_load : okV yX7_load cX7_load 5 (some .int) 1 := ⟨⟨iw_X7, tb_3 51 rfl rfl, by decide +kernel, by decide +kernel, by decide +kernel⟩, tb_3 49 rfl rfl, tb_3 50 rfl rfl⟩
theorem o_X7_judge : okV yX7_judge cX7_judge 7 (some .int) 1 := ⟨⟨iw_X7, tb_3 55 rfl rfl, by decide +kernel, by decide +kernel, by decide +kernel⟩, tb_3 53 rfl rfl, tb_3 54 rfl rfl⟩
theorem o_X7_image : okV yX7_image cX7_image 1 (some .int) 0 := ⟨⟨iw_X7, tb_3 59 rfl rfl, by decide +kernel, by decide +kernel, by decide +kernel⟩, tb_3 57 rfl rfl, tb_3 58 rfl rfl⟩
theorem o_X7_undo : okV yX7_undo cX7_undo 1 (some .int) 0 := ⟨⟨iw_X7, tb_3 63 rfl rfl, by decide +kernel, by decide +kernel, by decide +kernel⟩, tb_3 61 rfl rfl, tb_3 62 rfl rfl⟩
theorem o_X7_tear : okV yX7_tear cX7_tear 2 (some .int) 0 := ⟨⟨iw_X7, tb_3 67 rfl rfl, by decide +kernel, by decide +kernel, by decide +kernel⟩, tb_3 65 rfl rfl, tb_3 66 rfl rfl⟩
theorem o_X7_count : okV yX7_count cX7_count 2 (some .int) 1 := ⟨⟨iw_X7, tb_3 71 rfl rfl, by decide +kernel, by decide +kernel, by decide +kernel⟩, tb_3 69 rfl rfl, tb_3 70 rfl rfl⟩
theorem o_X1_heldSpots : okV yX1_heldSpots cX1_heldSpots 3 (some .int) 0 := ⟨⟨iw_X1, tb_3 75 rfl rfl, by decide +kernel, by decide +kernel, by decide +kernel⟩, tb_3 73 rfl rfl, tb_3 74 rfl rfl⟩
theorem o_X7_status : okV yX7_status cX7_status 4 (some .int) 1 := ⟨⟨iw_X7, tb_3 80 rfl rfl, by decide +kernel, by decide +kernel, by decide +kernel⟩, tb_3 78 rfl rfl, tb_3 79 rfl rfl⟩
theorem o_X8_init : okW yX8_init cX8_init 2 none 0 ∧ Cond.instanceMethod yX8_init ∈ gT := ⟨⟨iw_X8, tb_3 85 rfl rfl, by decide +kernel, by decide +kernel, by decide +kernel⟩, tb_3 84 rfl rfl⟩
theorem o_X8_egg : okV yX8_egg cX8_egg 5 (some .int) 3 := ⟨⟨iw_X8, tb_3 157 rfl rfl, by decide +kernel, by decide +kernel, by decide +kernel⟩, tb_3 155 rfl rfl, tb_3 156 rfl rfl⟩
theorem o_X8_in1 : okS yX8_in1 cX8_in1 3 (some .boolean) 3 := ⟨⟨iw_X8, tb_3 160 rfl rfl, by decide +kernel, by decide +kernel, by decide +kernel⟩, tb_3 159 rfl rfl⟩
theorem o_X8_no : okV yX8_no cX8_no 2 (some .int) 1 := ⟨⟨iw_X8, tb_3 164 rfl rfl, by decide +kernel, by decide +kernel, by decide +kernel⟩, tb_3 163 rfl rfl, gT_of (List.mem_append_left _ (List.mem_of_getElem? (i := 23) (by decide +kernel))) rfl⟩
theorem o_X8_lays : okV yX8_lays cX8_lays 6 (some .int) 4 := ⟨⟨iw_X8, tb_3 169 rfl rfl, by decide +kernel, by decide +kernel, by decide +kernel⟩, tb_3 168 rfl rfl, gT_of (List.mem_append_left _ (List.mem_of_getElem? (i := 24) (by decide +kernel))) rfl⟩
theorem o_X8_free : okV yX8_free cX8_free 2 (some .int) 0 := ⟨⟨iw_X8, tb_3 173 rfl rfl, by decide +kernel, by decide +kernel, by decide +kernel⟩, tb_3 172 rfl rfl, gT_of (List.mem_append_left _ (List.mem_of_getElem? (i := 25) (by decide +kernel))) rfl⟩
theorem o_X8_isThere : okV yX8_isThere cX8_isThere 2 (some .boolean) 1 := ⟨⟨iw_X8, tb_3 177 rfl rfl, by decide +kernel, by decide +kernel, by decide +kernel⟩, tb_3 176 rfl rfl, gT_of (List.mem_append_left _ (List.mem_of_getElem? (i := 26) (by decide +kernel))) rfl⟩
theorem o_X8_get : okV yX8_get cX8_get 3 (some .int) 2 := ⟨⟨iw_X8, tb_3 181 rfl rfl, by decide +kernel, by decide +kernel, by decide +kernel⟩, tb_3 180 rfl rfl, gT_of (List.mem_append_left _ (List.mem_of_getElem? (i := 27) (by decide +kernel))) rfl⟩
theorem o_X8_puts : okV yX8_puts cX8_puts 4 none 3 := ⟨⟨iw_X8, tb_3 185 rfl rfl, by decide +kernel, by decide +kernel, by decide +kernel⟩, tb_3 184 rfl rfl, gT_of (List.mem_append_left _ (List.mem_of_getElem? (i := 28) (by decide +kernel))) rfl⟩
theorem o_X8_of : okV yX8_of cX8_of 3 (some .int) 2 := ⟨⟨iw_X8, tb_3 189 rfl rfl, by decide +kernel, by decide +kernel, by decide +kernel⟩, tb_3 187 rfl rfl, tb_3 188 rfl rfl⟩
theorem o_X8_isEgg : okV yX8_isEgg cX8_isEgg 2 (some .boolean) 1 := ⟨⟨iw_X8, tb_3 193 rfl rfl, by decide +kernel, by decide +kernel, by decide +kernel⟩, tb_3 192 rfl rfl, gT_of (List.mem_append_left _ (List.mem_of_getElem? (i := 29) (by decide +kernel))) rfl⟩
theorem o_X8_isPlace : okS yX8_isPlace cX8_isPlace 1 (some .boolean) 1 := ⟨⟨iw_X8, tb_3 196 rfl rfl, by decide +kernel, by decide +kernel, by decide +kernel⟩, tb_3 195 rfl rfl⟩
theorem o_X8_minutes : okV yX8_minutes cX8_minutes 2 (some .int) 1 := ⟨⟨iw_X8, tb_3 200 rfl rfl, by decide +kernel, by decide +kernel, by decide +kernel⟩, tb_3 199 rfl rfl, gT_of (List.mem_append_left _ (List.mem_of_getElem? (i := 30) (by decide +kernel))) rfl⟩
theorem o_X8_minutesBy : okS yX8_minutesBy cX8_minutesBy 7 (some .int) 4 := ⟨⟨iw_X8, tb_3 203 rfl rfl, by decide +kernel, by decide +kernel, by decide +kernel⟩, tb_3 202 rfl rfl⟩
theorem o_X8_greater : okS yX8_greater cX8_greater 2 (some .int) 2 := ⟨⟨iw_X8, tb_3 206 rfl rfl, by decide +kernel, by decide +kernel, by decide +kernel⟩, tb_3 205 rfl rfl⟩
theorem o_X8_less : okS yX8_less cX8_less 2 (some .int) 2 := ⟨⟨iw_X8, tb_3 209 rfl rfl, by decide +kernel, by decide +kernel, by decide +kernel⟩, tb_3 208 rfl rfl⟩
theorem o_X8_keepsBy : okS yX8_keepsBy cX8_keepsBy 1 (some .int) 1 := ⟨⟨iw_X8, tb_3 212 rfl rfl, by decide +kernel, by decide +kernel, by decide +kernel⟩, tb_3 211 rfl rfl⟩
theorem o_X8_change : okV yX8_change cX8_change 6 (some .int) 3 := ⟨⟨iw_X8, tb_3 216 rfl rfl, by decide +kernel, by decide +kernel, by decide +kernel⟩, tb_3 214 rfl rfl, tb_3 215 rfl rfl⟩
theorem o_X8_hen : okV yX8_hen cX8_hen 6 (some .int) 3 := ⟨⟨iw_X8, tb_3 220 rfl rfl, by decide +kernel, by decide +kernel, by decide +kernel⟩, tb_3 218 rfl rfl, tb_3 219 rfl rfl⟩
theorem o_X8_isHen : okS yX8_isHen cX8_isHen 1 (some .boolean) 1 := ⟨⟨iw_X8, tb_3 223 rfl rfl, by decide +kernel, by decide +kernel, by decide +kernel⟩, tb_3 222 rfl rfl⟩
theorem o_X8_hens : okV yX8_hens cX8_hens 3 (some .int) 2 := ⟨⟨iw_X8, tb_3 227 rfl rfl, by decide +kernel, by decide +kernel, by decide +kernel⟩, tb_3 226 rfl rfl, gT_of (List.mem_append_left _ (List.mem_of_getElem? (i := 31) (by decide +kernel))) rfl⟩
theorem o_X8_work : okV yX8_work cX8_work 6 (some .int) 3 := ⟨⟨iw_X8, tb_3 231 rfl rfl, by decide +kernel, by decide +kernel, by decide +kernel⟩, tb_3 229 rfl rfl, tb_3 230 rfl rfl⟩
theorem o_X8_isWork : okS yX8_isWork cX8_isWork 1 (some .boolean) 1 := ⟨⟨iw_X8, tb_3 234 rfl rfl, by decide +kernel, by decide +kernel, by decide +kernel⟩, tb_3 233 rfl rfl⟩
theorem o_X8_works : okV yX8_works cX8_works 3 (some .int) 2 := ⟨⟨iw_X8, tb_3 238 rfl rfl, by decide +kernel, by decide +kernel, by decide +kernel⟩, tb_3 237 rfl rfl, gT_of (List.mem_append_left _ (List.mem_of_getElem? (i := 32) (by decide +kernel))) rfl⟩
theorem o_X8_henOf : okV yX8_henOf cX8_henOf 3 (some .int) 2 := ⟨⟨iw_X8, tb_4 2 rfl rfl, by decide +kernel, by decide +kernel, by decide +kernel⟩, tb_4 0 rfl rfl, tb_4 1 rfl rfl⟩
theorem o_X8_workOf : okV yX8_workOf cX8_workOf 3 (some .int) 2 := ⟨⟨iw_X8, tb_4 6 rfl rfl, by decide +kernel, by decide +kernel, by decide +kernel⟩, tb_4 4 rfl rfl, tb_4 5 rfl rfl⟩
theorem o_X8_isDone : okV yX8_isDone cX8_isDone 2 (some .boolean) 1 := ⟨⟨iw_X8, tb_4 10 rfl rfl, by decide +kernel, by decide +kernel, by decide +kernel⟩, tb_4 9 rfl rfl, gT_of (List.mem_append_left _ (List.mem_of_getElem? (i := 33) (by decide +kernel))) rfl⟩
theorem o_X8_spend : okV yX8_spend cX8_spend 4 (some .int) 2 := ⟨⟨iw_X8, tb_4 14 rfl rfl, by decide +kernel, by decide +kernel, by decide +kernel⟩, tb_4 12 rfl rfl, tb_4 13 rfl rfl⟩
theorem o_X8_isOver : okV yX8_isOver cX8_isOver 2 (some .boolean) 1 := ⟨⟨iw_X8, tb_4 18 rfl rfl, by decide +kernel, by decide +kernel, by decide +kernel⟩, tb_4 17 rfl rfl, gT_of (List.mem_append_left _ (List.mem_of_getElem? (i := 34) (by decide +kernel))) rfl⟩
theorem o_X8_goesEgg : okV yX8_goesEgg cX8_goesEgg 2 none 1 := ⟨⟨iw_X8, tb_4 22 rfl rfl, by decide +kernel, by decide +kernel, by decide +kernel⟩, tb_4 21 rfl rfl, gT_of (List.mem_append_left _ (List.mem_of_getElem? (i := 35) (by decide +kernel))) rfl⟩
theorem o_X8_broken : okV yX8_broken cX8_broken 3 (some .int) 1 := ⟨⟨iw_X8, tb_4 26 rfl rfl, by decide +kernel, by decide +kernel, by decide +kernel⟩, tb_4 24 rfl rfl, tb_4 25 rfl rfl⟩
theorem o_X8_go : okV yX8_go cX8_go 4 (some .int) 1 := ⟨⟨iw_X8, tb_4 30 rfl rfl, by decide +kernel, by decide +kernel, by decide +kernel⟩, tb_4 28 rfl rfl, tb_4 29 rfl rfl⟩
theorem o_X8_day : okV yX8_day cX8_day 4 (some .int) 0 := ⟨⟨iw_X8, tb_4 34 rfl rfl, by decide +kernel, by decide +kernel, by decide +kernel⟩, tb_4 33 rfl rfl, gT_of (List.mem_append_left _ (List.mem_of_getElem? (i := 36) (by decide +kernel))) rfl⟩
theorem o_X8_eggs : okV yX8_eggs cX8_eggs 3 (some .int) 0 := ⟨⟨iw_X8, tb_4 38 rfl rfl, by decide +kernel, by decide +kernel, by decide +kernel⟩, tb_4 37 rfl rfl, gT_of (List.mem_append_left _ (List.mem_of_getElem? (i := 37) (by decide +kernel))) rfl⟩
theorem o_X8_bits : okS yX8_bits cX8_bits 3 (some .int) 1 := ⟨⟨iw_X8, tb_4 41 rfl rfl, by decide +kernel, by decide +kernel, by decide +kernel⟩, tb_4 40 rfl rfl⟩
theorem o_X8_now : okV yX8_now cX8_now 2 (some .int) 1 := ⟨⟨iw_X8, tb_4 45 rfl rfl, by decide +kernel, by decide +kernel, by decide +kernel⟩, tb_4 43 rfl rfl, tb_4 44 rfl rfl⟩
theorem o_X8_allMinutes : okV yX8_allMinutes cX8_allMinutes 1 (some .int) 0 := ⟨⟨iw_X8, tb_4 49 rfl rfl, by decide +kernel, by decide +kernel, by decide +kernel⟩, tb_4 48 rfl rfl, gT_of (List.mem_append_left _ (List.mem_of_getElem? (i := 38) (by decide +kernel))) rfl⟩
theorem o_X8_sumOf : okV yX8_sumOf cX8_sumOf 4 (some .int) 1 := ⟨⟨iw_X8, tb_4 53 rfl rfl, by decide +kernel, by decide +kernel, by decide +kernel⟩, tb_4 52 rfl rfl, gT_of (List.mem_append_left _ (List.mem_of_getElem? (i := 39) (by decide +kernel))) rfl⟩
theorem o_X8_isIn : okS yX8_isIn cX8_isIn 2 (some .boolean) 2 := ⟨⟨iw_X8, tb_4 56 rfl rfl, by decide +kernel, by decide +kernel, by decide +kernel⟩, tb_4 55 rfl rfl⟩
theorem o_X8_done : okV yX8_done cX8_done 3 (some .int) 0 := ⟨⟨iw_X8, tb_4 60 rfl rfl, by decide +kernel, by decide +kernel, by decide +kernel⟩, tb_4 59 rfl rfl, gT_of (List.mem_append_left _ (List.mem_of_getElem? (i := 40) (by decide +kernel))) rfl⟩
theorem o_X8_ahead : okV yX8_ahead cX8_ahead 4 (some .int) 1 := ⟨⟨iw_X8, tb_4 64 rfl rfl, by decide +kernel, by decide +kernel, by decide +kernel⟩, tb_4 62 rfl rfl, tb_4 63 rfl rfl⟩
theorem o_X8_setsAside : okV yX8_setsAside cX8_setsAside 2 none 0 := ⟨⟨iw_X8, tb_4 68 rfl rfl, by decide +kernel, by decide +kernel, by decide +kernel⟩, tb_4 67 rfl rfl, gT_of (List.mem_append_left _ (List.mem_of_getElem? (i := 41) (by decide +kernel))) rfl⟩
theorem o_X8_laysBack : okV yX8_laysBack cX8_laysBack 2 none 0 := ⟨⟨iw_X8, tb_4 72 rfl rfl, by decide +kernel, by decide +kernel, by decide +kernel⟩, tb_4 71 rfl rfl, gT_of (List.mem_append_left _ (List.mem_of_getElem? (i := 42) (by decide +kernel))) rfl⟩
theorem o_X8_spoils : okV yX8_spoils cX8_spoils 4 (some .int) 1 := ⟨⟨iw_X8, tb_4 76 rfl rfl, by decide +kernel, by decide +kernel, by decide +kernel⟩, tb_4 74 rfl rfl, tb_4 75 rfl rfl⟩
theorem o_X8_ripe : okV yX8_ripe cX8_ripe 6 (some .int) 1 := ⟨⟨iw_X8, tb_4 80 rfl rfl, by decide +kernel, by decide +kernel, by decide +kernel⟩, tb_4 78 rfl rfl, tb_4 79 rfl rfl⟩
theorem o_X8_then : okV yX8_then cX8_then 6 (some .int) 4 := ⟨⟨iw_X8, tb_4 84 rfl rfl, by decide +kernel, by decide +kernel, by decide +kernel⟩, tb_4 83 rfl rfl, gT_of (List.mem_append_left _ (List.mem_of_getElem? (i := 43) (by decide +kernel))) rfl⟩
theorem o_X8_lasts : okV yX8_lasts cX8_lasts 2 (some .int) 1 := ⟨⟨iw_X8, tb_4 88 rfl rfl, by decide +kernel, by decide +kernel, by decide +kernel⟩, tb_4 86 rfl rfl, tb_4 87 rfl rfl⟩
theorem o_X8_when : okV yX8_when cX8_when 4 (some .int) 1 := ⟨⟨iw_X8, tb_4 92 rfl rfl, by decide +kernel, by decide +kernel, by decide +kernel⟩, tb_4 90 rfl rfl, tb_4 91 rfl rfl⟩
theorem o_X8_kindFor : okV yX8_kindFor cX8_kindFor 5 (some .int) 2 := ⟨⟨iw_X8, tb_4 96 rfl rfl, by decide +kernel, by decide +kernel, by decide +kernel⟩, tb_4 94 rfl rfl, tb_4 95 rfl rfl⟩
theorem o_X8_everyFor : okV yX8_everyFor cX8_everyFor 8 (some .int) 2 := ⟨⟨iw_X8, tb_4 100 rfl rfl, by decide +kernel, by decide +kernel, by decide +kernel⟩, tb_4 98 rfl rfl, tb_4 99 rfl rfl⟩
theorem o_X8_fewest : okV yX8_fewest cX8_fewest 5 (some .int) 1 := ⟨⟨iw_X8, tb_4 104 rfl rfl, by decide +kernel, by decide +kernel, by decide +kernel⟩, tb_4 102 rfl rfl, tb_4 103 rfl rfl⟩
theorem o_X8_does : okV yX8_does cX8_does 3 (some .boolean) 2 := ⟨⟨iw_X8, tb_4 108 rfl rfl, by decide +kernel, by decide +kernel, by decide +kernel⟩, tb_4 107 rfl rfl, gT_of (List.mem_append_left _ (List.mem_of_getElem? (i := 44) (by decide +kernel))) rfl⟩
theorem o_X8_thrifty : okV yX8_thrifty cX8_thrifty 5 (some .int) 1 := ⟨⟨iw_X8, tb_4 112 rfl rfl, by decide +kernel, by decide +kernel, by decide +kernel⟩, tb_4 110 rfl rfl, tb_4 111 rfl rfl⟩
theorem o_X8_best : okV yX8_best cX8_best 1 (some .int) 0 := ⟨⟨iw_X8, tb_4 116 rfl rfl, by decide +kernel, by decide +kernel, by decide +kernel⟩, tb_4 114 rfl rfl, tb_4 115 rfl rfl⟩
theorem o_X8_bestSet : okV yX8_bestSet cX8_bestSet 5 (some .int) 0 := ⟨⟨iw_X8, tb_4 120 rfl rfl, by decide +kernel, by decide +kernel, by decide +kernel⟩, tb_4 119 rfl rfl, gT_of (List.mem_append_left _ (List.mem_of_getElem? (i := 45) (by decide +kernel))) rfl⟩
theorem o_X8_dealt : okV yX8_dealt cX8_dealt 7 (some .boolean) 2 := ⟨⟨iw_X8, tb_4 124 rfl rfl, by decide +kernel, by decide +kernel, by decide +kernel⟩, tb_4 123 rfl rfl, gT_of (List.mem_append_left _ (List.mem_of_getElem? (i := 46) (by decide +kernel))) rfl⟩
theorem o_X8_lowest : okS yX8_lowest cX8_lowest 2 (some .int) 1 := ⟨⟨iw_X8, tb_4 127 rfl rfl, by decide +kernel, by decide +kernel, by decide +kernel⟩, tb_4 126 rfl rfl⟩
theorem o_X8_worthOf : okV yX8_worthOf cX8_worthOf 4 (some .int) 1 := ⟨⟨iw_X8, tb_4 131 rfl rfl, by decide +kernel, by decide +kernel, by decide +kernel⟩, tb_4 130 rfl rfl, gT_of (List.mem_append_left _ (List.mem_of_getElem? (i := 47) (by decide +kernel))) rfl⟩
theorem o_X8_bestWorks : okV yX8_bestWorks cX8_bestWorks 1 (some .int) 0 := ⟨⟨iw_X8, tb_4 135 rfl rfl, by decide +kernel, by decide +kernel, by decide +kernel⟩, tb_4 133 rfl rfl, tb_4 134 rfl rfl⟩
theorem o_X8_soonest : okV yX8_soonest cX8_soonest 5 (some .int) 1 := ⟨⟨iw_X8, tb_4 139 rfl rfl, by decide +kernel, by decide +kernel, by decide +kernel⟩, tb_4 137 rfl rfl, tb_4 138 rfl rfl⟩
theorem o_X8_nest : okV yX8_nest cX8_nest 2 (some .int) 1 := ⟨⟨iw_X8, tb_4 143 rfl rfl, by decide +kernel, by decide +kernel, by decide +kernel⟩, tb_4 141 rfl rfl, tb_4 142 rfl rfl⟩
theorem o_X8_inNest : okV yX8_inNest cX8_inNest 4 (some .int) 1 := ⟨⟨iw_X8, tb_4 147 rfl rfl, by decide +kernel, by decide +kernel, by decide +kernel⟩, tb_4 146 rfl rfl, gT_of (List.mem_append_left _ (List.mem_of_getElem? (i := 48) (by decide +kernel))) rfl⟩
theorem o_X8_guard : okV yX8_guard cX8_guard 3 (some .int) 0 := ⟨⟨iw_X8, tb_4 151 rfl rfl, by decide +kernel, by decide +kernel, by decide +kernel⟩, tb_4 149 rfl rfl, tb_4 150 rfl rfl⟩
theorem o_X8_halves : okV yX8_halves cX8_halves 1 (some .int) 0 := ⟨⟨iw_X8, tb_4 155 rfl rfl, by decide +kernel, by decide +kernel, by decide +kernel⟩, tb_4 153 rfl rfl, tb_4 154 rfl rfl⟩
theorem o_X8_bestHalf : okV yX8_bestHalf cX8_bestHalf 3 (some .int) 0 := ⟨⟨iw_X8, tb_4 159 rfl rfl, by decide +kernel, by decide +kernel, by decide +kernel⟩, tb_4 158 rfl rfl, gT_of (List.mem_append_left _ (List.mem_of_getElem? (i := 49) (by decide +kernel))) rfl⟩
theorem o_X8_apartBy : okV yX8_apartBy cX8_apartBy 3 (some .int) 1 := ⟨⟨iw_X8, tb_4 163 rfl rfl, by decide +kernel, by decide +kernel, by decide +kernel⟩, tb_4 162 rfl rfl, gT_of (List.mem_append_left _ (List.mem_of_getElem? (i := 50) (by decide +kernel))) rfl⟩
theorem o_X8_apart : okV yX8_apart cX8_apart 1 (some .int) 0 := ⟨⟨iw_X8, tb_4 167 rfl rfl, by decide +kernel, by decide +kernel, by decide +kernel⟩, tb_4 165 rfl rfl, tb_4 166 rfl rfl⟩
theorem o_X8_sets : okV yX8_sets cX8_sets 4 (some .int) 1 := ⟨⟨iw_X8, tb_4 171 rfl rfl, by decide +kernel, by decide +kernel, by decide +kernel⟩, tb_4 169 rfl rfl, tb_4 170 rfl rfl⟩
theorem o_X8_ages : okV yX8_ages cX8_ages 6 (some .int) 2 := ⟨⟨iw_X8, tb_4 175 rfl rfl, by decide +kernel, by decide +kernel, by decide +kernel⟩, tb_4 173 rfl rfl, tb_4 174 rfl rfl⟩
theorem o_X8_wrongAges : okV yX8_wrongAges cX8_wrongAges 4 (some .int) 2 := ⟨⟨iw_X8, tb_4 179 rfl rfl, by decide +kernel, by decide +kernel, by decide +kernel⟩, tb_4 178 rfl rfl, gT_of (List.mem_append_left _ (List.mem_of_getElem? (i := 51) (by decide +kernel))) rfl⟩
theorem o_X8_wrongSheet : okV yX8_wrongSheet cX8_wrongSheet 2 (some .int) 1 := ⟨⟨iw_X8, tb_4 183 rfl rfl, by decide +kernel, by decide +kernel, by decide +kernel⟩, tb_4 182 rfl rfl, gT_of (List.mem_append_left _ (List.mem_of_getElem? (i := 52) (by decide +kernel))) rfl⟩
theorem o_X8_isSheet : okS yX8_isSheet cX8_isSheet 1 (some .boolean) 1 := ⟨⟨iw_X8, tb_4 186 rfl rfl, by decide +kernel, by decide +kernel, by decide +kernel⟩, tb_4 185 rfl rfl⟩
theorem o_X8_agesSo : okV yX8_agesSo cX8_agesSo 7 (some .boolean) 3 := ⟨⟨iw_X8, tb_4 190 rfl rfl, by decide +kernel, by decide +kernel, by decide +kernel⟩, tb_4 189 rfl rfl, gT_of (List.mem_append_left _ (List.mem_of_getElem? (i := 53) (by decide +kernel))) rfl⟩
theorem o_X8_youngest : okV yX8_youngest cX8_youngest 5 (some .int) 2 := ⟨⟨iw_X8, tb_4 194 rfl rfl, by decide +kernel, by decide +kernel, by decide +kernel⟩, tb_4 192 rfl rfl, tb_4 193 rfl rfl⟩
theorem o_X8_foxes : okV yX8_foxes cX8_foxes 7 (some .int) 1 := ⟨⟨iw_X8, tb_4 198 rfl rfl, by decide +kernel, by decide +kernel, by decide +kernel⟩, tb_4 196 rfl rfl, tb_4 197 rfl rfl⟩
theorem o_X8_draw : okV yX8_draw cX8_draw 1 (some .int) 0 := ⟨⟨iw_X8, tb_4 202 rfl rfl, by decide +kernel, by decide +kernel, by decide +kernel⟩, tb_4 201 rfl rfl, gT_of (List.mem_append_left _ (List.mem_of_getElem? (i := 54) (by decide +kernel))) rfl⟩
theorem o_X8_odds : okV yX8_odds cX8_odds 8 (some .long) 2 := ⟨⟨iw_X8, tb_4 207 rfl rfl, by decide +kernel, by decide +kernel, by decide +kernel⟩, tb_4 205 rfl rfl, tb_4 206 rfl rfl⟩
theorem o_X8_seed : okV yX8_seed cX8_seed 3 (some .int) 1 := ⟨⟨iw_X8, tb_4 213 rfl rfl, by decide +kernel, by decide +kernel, by decide +kernel⟩, tb_4 211 rfl rfl, tb_4 212 rfl rfl⟩
theorem o_X8_feed : okV yX8_feed cX8_feed 4 (some .int) 2 := ⟨⟨iw_X8, tb_4 217 rfl rfl, by decide +kernel, by decide +kernel, by decide +kernel⟩, tb_4 215 rfl rfl, tb_4 216 rfl rfl⟩
theorem o_X8_wipe : okV yX8_wipe cX8_wipe 2 (some .int) 0 := ⟨⟨iw_X8, tb_4 221 rfl rfl, by decide +kernel, by decide +kernel, by decide +kernel⟩, tb_4 219 rfl rfl, tb_4 220 rfl rfl⟩
theorem o_X8_text : okV yX8_text cX8_text 3 (some .int) 0 := ⟨⟨iw_X8, tb_4 225 rfl rfl, by decide +kernel, by decide +kernel, by decide +kernel⟩, tb_4 223 rfl rfl, tb_4 224 rfl rfl⟩
theorem o_X8_nextToken : okV yX8_nextToken cX8_nextToken 1 none 0 := ⟨⟨iw_X8, tb_4 229 rfl rfl, by decide +kernel, by decide +kernel, by decide +kernel⟩, tb_4 228 rfl rfl, gT_of (List.mem_append_left _ (List.mem_of_getElem? (i := 55) (by decide +kernel))) rfl⟩
theorem o_X8_isLetter : okS yX8_isLetter cX8_isLetter 1 (some .boolean) 1 := ⟨⟨iw_X8, tb_4 232 rfl rfl, by decide +kernel, by decide +kernel, by decide +kernel⟩, tb_4 231 rfl rfl⟩
theorem o_X8_isDigit : okS yX8_isDigit cX8_isDigit 1 (some .boolean) 1 := ⟨⟨iw_X8, tb_4 238 rfl rfl, by decide +kernel, by decide +kernel, by decide +kernel⟩, tb_4 237 rfl rfl⟩
theorem o_X8_readsItem : okV yX8_readsItem cX8_readsItem 3 (some .boolean) 0 := ⟨⟨iw_X8, tb_5 5 rfl rfl, by decide +kernel, by decide +kernel, by decide +kernel⟩, tb_5 4 rfl rfl, gT_of (List.mem_append_left _ (List.mem_of_getElem? (i := 56) (by decide +kernel))) rfl⟩
theorem o_X8_wordOf : okV yX8_wordOf cX8_wordOf 7 (some .int) 1 := ⟨⟨iw_X8, tb_5 9 rfl rfl, by decide +kernel, by decide +kernel, by decide +kernel⟩, tb_5 8 rfl rfl, gT_of (List.mem_append_left _ (List.mem_of_getElem? (i := 57) (by decide +kernel))) rfl⟩
theorem o_X8_readsEgg : okV yX8_readsEgg cX8_readsEgg 7 (some .boolean) 1 := ⟨⟨iw_X8, tb_5 13 rfl rfl, by decide +kernel, by decide +kernel, by decide +kernel⟩, tb_5 12 rfl rfl, gT_of (List.mem_append_left _ (List.mem_of_getElem? (i := 58) (by decide +kernel))) rfl⟩
theorem o_X8_takesNumber : okV yX8_takesNumber cX8_takesNumber 4 (some .int) 2 := ⟨⟨iw_X8, tb_5 17 rfl rfl, by decide +kernel, by decide +kernel, by decide +kernel⟩, tb_5 16 rfl rfl, gT_of (List.mem_append_left _ (List.mem_of_getElem? (i := 59) (by decide +kernel))) rfl⟩
theorem o_X8_readsHen : okV yX8_readsHen cX8_readsHen 3 (some .boolean) 0 := ⟨⟨iw_X8, tb_5 21 rfl rfl, by decide +kernel, by decide +kernel, by decide +kernel⟩, tb_5 20 rfl rfl, gT_of (List.mem_append_left _ (List.mem_of_getElem? (i := 60) (by decide +kernel))) rfl⟩
theorem o_X8_readsWork : okV yX8_readsWork cX8_readsWork 5 (some .boolean) 0 := ⟨⟨iw_X8, tb_5 25 rfl rfl, by decide +kernel, by decide +kernel, by decide +kernel⟩, tb_5 24 rfl rfl, gT_of (List.mem_append_left _ (List.mem_of_getElem? (i := 61) (by decide +kernel))) rfl⟩
theorem o_X8_hold : okV yX8_hold cX8_hold 3 (some .int) 2 := ⟨⟨iw_X8, tb_5 29 rfl rfl, by decide +kernel, by decide +kernel, by decide +kernel⟩, tb_5 27 rfl rfl, tb_5 28 rfl rfl⟩
theorem o_X8_isSpot : okS yX8_isSpot cX8_isSpot 1 (some .boolean) 1 := ⟨⟨iw_X8, tb_5 32 rfl rfl, by decide +kernel, by decide +kernel, by decide +kernel⟩, tb_5 31 rfl rfl⟩
theorem o_X8_as : okV yX8_as cX8_as 5 (some .int) 2 := ⟨⟨iw_X8, tb_5 36 rfl rfl, by decide +kernel, by decide +kernel, by decide +kernel⟩, tb_5 34 rfl rfl, tb_5 35 rfl rfl⟩
theorem o_X8_above : okS yX8_above cX8_above 1 (some .int) 1 := ⟨⟨iw_X8, tb_5 39 rfl rfl, by decide +kernel, by decide +kernel, by decide +kernel⟩, tb_5 38 rfl rfl⟩
theorem o_X8_sheet : okV yX8_sheet cX8_sheet 5 (some .int) 3 := ⟨⟨iw_X8, tb_5 43 rfl rfl, by decide +kernel, by decide +kernel, by decide +kernel⟩, tb_5 41 rfl rfl, tb_5 42 rfl rfl⟩
theorem o_X8_write : okV yX8_write cX8_write 5 (some .int) 3 := ⟨⟨iw_X8, tb_5 47 rfl rfl, by decide +kernel, by decide +kernel, by decide +kernel⟩, tb_5 45 rfl rfl, tb_5 46 rfl rfl⟩
theorem o_X8_copy : okV yX8_copy cX8_copy 7 (some .int) 5 := ⟨⟨iw_X8, tb_5 51 rfl rfl, by decide +kernel, by decide +kernel, by decide +kernel⟩, tb_5 49 rfl rfl, tb_5 50 rfl rfl⟩
theorem o_X8_load : okV yX8_load cX8_load 4 (some .int) 1 := ⟨⟨iw_X8, tb_5 55 rfl rfl, by decide +kernel, by decide +kernel, by decide +kernel⟩, tb_5 53 rfl rfl, tb_5 54 rfl rfl⟩
theorem o_X8_judge : okV yX8_judge cX8_judge 7 (some .int) 1 := ⟨⟨iw_X8, tb_5 59 rfl rfl, by decide +kernel, by decide +kernel, by decide +kernel⟩, tb_5 57 rfl rfl, tb_5 58 rfl rfl⟩
theorem o_X8_image : okV yX8_image cX8_image 2 (some .int) 0 := ⟨⟨iw_X8, tb_5 63 rfl rfl, by decide +kernel, by decide +kernel, by decide +kernel⟩, tb_5 61 rfl rfl, tb_5 62 rfl rfl⟩
theorem o_X8_undo : okV yX8_undo cX8_undo 2 (some .int) 0 := ⟨⟨iw_X8, tb_5 67 rfl rfl, by decide +kernel, by decide +kernel, by decide +kernel⟩, tb_5 65 rfl rfl, tb_5 66 rfl rfl⟩
theorem o_X8_tear : okV yX8_tear cX8_tear 2 (some .int) 0 := ⟨⟨iw_X8, tb_5 71 rfl rfl, by decide +kernel, by decide +kernel, by decide +kernel⟩, tb_5 69 rfl rfl, tb_5 70 rfl rfl⟩
theorem o_X8_count : okV yX8_count cX8_count 4 (some .int) 1 := ⟨⟨iw_X8, tb_5 75 rfl rfl, by decide +kernel, by decide +kernel, by decide +kernel⟩, tb_5 73 rfl rfl, tb_5 74 rfl rfl⟩
theorem o_X8_status : okV yX8_status cX8_status 4 (some .int) 1 := ⟨⟨iw_X8, tb_5 79 rfl rfl, by decide +kernel, by decide +kernel, by decide +kernel⟩, tb_5 77 rfl rfl, tb_5 78 rfl rfl⟩
theorem bk_X0 : Bk 0 RX0 TX0 tyX0 3 := ⟨rfl, gT_in hinX0 (by decide +kernel), tyX0_ok, nmX0⟩
theorem bk_X1 : Bk 1 RX1 TX1 tyX1 7 := ⟨rfl, gT_in hinX1 (by decide +kernel), tyX1_ok, nmX1⟩
theorem bk_X3 : Bk 2 RX3 TX3 tyX3 6 := ⟨rfl, gT_in hinX3 (by decide +kernel), tyX3_ok, nmX3⟩
theorem bk_X4 : Bk 3 RX4 TX4 tyX4 3 := ⟨rfl, gT_in hinX4 (by decide +kernel), tyX4_ok, nmX4⟩
theorem bk_X5 : Bk 4 RX5 TX5 tyX5 4 := ⟨rfl, gT_in hinX5 (by decide +kernel), tyX5_ok, nmX5⟩
theorem bk_X6 : Bk 5 RX6 TX6 tyX6 2 := ⟨rfl, gT_in hinX6 (by decide +kernel), tyX6_ok, nmX6⟩
theorem bk_X7 : Bk 6 RX7 TX7 tyX7 8 := ⟨rfl, gT_in hinX7 (by decide +kernel), tyX7_ok, nmX7⟩
theorem bk_X8 : Bk 7 RX8 TX8 tyX8 21 := ⟨rfl, gT_in hinX8 (by decide +kernel), tyX8_ok, nmX8⟩
theorem rcv_H {g : Gp} {h : Nat} (hh : isH h) : Rcv g h RX1 := ⟨1, _, _, rfl, rfl, ent_H0 hh⟩
theorem rcv_HT {g : Gp} {h : Nat} (hh : isH h) (j : Nat) (hj : j < 3) : Rcv g (h + (j + 1)) RX5 := ⟨4, _, _, rfl, rfl, ent_HT hh j hj⟩
theorem ent_0 {g : Gp} (f : Nat → Int32) : ent g 0 f = .inr (6, [.ref (gad g 1), .ref (gad g 9), .ref (gad g 17), .ref (gad g 25), .ref (gad g 28), .ref (gad g 37), .ref (gad g 39), .int (f 7)]) := rfl
theorem ent_25 {g : Gp} (f : Nat → Int32) : ent g 25 f = .inr (0, [.ref (gad g 26), .ref (gad g 27), .int (f 2)]) := rfl
theorem ent_26 {g : Gp} (f : Nat → Int32) : ent g 26 f = eI g 256 f := rfl
theorem ent_27 {g : Gp} (f : Nat → Int32) : ent g 27 f = eI g 256 f := rfl
theorem ent_SO {g : Gp} {j : Nat} (hj : j < 4) (f : Nat → Int32) : ent g (29 + 2 * j) f = .inr (3, [.ref (gad g (29 + 2 * j + 1)), .int (f 1), .int (f 2)]) := by
  rcases (show j = 0 ∨ j = 1 ∨ j = 2 ∨ j = 3 by omega) with rfl | rfl | rfl | rfl <;> rfl
theorem ent_SN {g : Gp} {j : Nat} (hj : j < 4) (f : Nat → Int32) : ent g (29 + 2 * j + 1) f = eI g 40 f := by
  rcases (show j = 0 ∨ j = 1 ∨ j = 2 ∨ j = 3 by omega) with rfl | rfl | rfl | rfl <;> rfl
theorem ent_37 {g : Gp} (f : Nat → Int32) : ent g 37 f = .inr (5, [.ref (gad g 38), .int (f 1)]) := rfl
theorem ent_38 {g : Gp} (f : Nat → Int32) : ent g 38 f = eI g 120 f := rfl
theorem ent_39 {g : Gp} (f : Nat → Int32) : ent g 39 f = eI g 7 f := rfl
theorem ent_40 {g : Gp} (f : Nat → Int32) : ent g 40 f = .inr (7, [.ref (gad g 41), .ref (gad g 42), .ref (gad g 43), .int (f 3), .ref (gad g 44), .ref (gad g 45), .ref (gad g 46), .ref (gad g 47), .int (f 8), .int (f 9), .int (f 10), .int (f 11), .long (mkL (f 12) (f 21)), .ref (gad g 48), .ref (gad g 49), .ref (gad g 50), .ref (gad g 51), .ref (gad g 52), .ref (gad g 53), .ref (gad g 54), .ref (gad g 55)]) := rfl
theorem ent_56 {g : Gp} (f : Nat → Int32) : ent g 56 f = .inr (2, [.ref (gad g 37), .ref (gad g 17), .int (f 2), .int (f 3), .int (f 4), .int (f 5)]) := rfl
theorem rcv_0 {g : Gp} : Rcv g 0 RX7 := ⟨6, _, _, rfl, rfl, ent_0⟩
theorem rcv_25 {g : Gp} : Rcv g 25 RX0 := ⟨0, _, _, rfl, rfl, ent_25⟩
theorem rcv_S {g : Gp} {j : Nat} (hj : j < 4) : Rcv g (29 + 2 * j) RX4 := ⟨3, _, _, rfl, rfl, ent_SO hj⟩
theorem rcv_37 {g : Gp} : Rcv g 37 RX6 := ⟨5, _, _, rfl, rfl, ent_37⟩
theorem rcv_40 {g : Gp} : Rcv g 40 RX8 := ⟨7, _, _, rfl, rfl, ent_40⟩
theorem rcv_56 {g : Gp} : Rcv g 56 RX3 := ⟨2, _, _, rfl, rfl, ent_56⟩
theorem ent_41 {g : Gp} (f : Nat → Int32) : ent g 41 f = eI g 93 f := rfl
theorem ent_42 {g : Gp} (f : Nat → Int32) : ent g 42 f = eI g 93 f := rfl
theorem ent_43 {g : Gp} (f : Nat → Int32) : ent g 43 f = eI g 93 f := rfl
theorem ent_44 {g : Gp} (f : Nat → Int32) : ent g 44 f = eI g 7 f := rfl
theorem ent_46 {g : Gp} (f : Nat → Int32) : ent g 46 f = eI g 256 f := rfl
theorem ent_47 {g : Gp} (f : Nat → Int32) : ent g 47 f = eI g 120 f := rfl
theorem ent_52 {g : Gp} (f : Nat → Int32) : ent g 52 f = eI g 4 f := rfl
theorem ent_53 {g : Gp} (f : Nat → Int32) : ent g 53 f = eI g 4 f := rfl
theorem ent_54 {g : Gp} (f : Nat → Int32) : ent g 54 f = eI g 160 f := rfl
theorem ent_55 {g : Gp} (f : Nat → Int32) : ent g 55 f = eI g 40 f := rfl
theorem ent_45 {g : Gp} (f : Nat → Int32) : ent g 45 f = eZ g 16384 f := rfl
theorem ent_48 {g : Gp} (f : Nat → Int32) : ent g 48 f = eC g 56 f := rfl
theorem ent_49 {g : Gp} (f : Nat → Int32) : ent g 49 f = eC g 16 f := rfl
theorem ent_50 {g : Gp} (f : Nat → Int32) : ent g 50 f = eC g 16 f := rfl
theorem ent_51 {g : Gp} (f : Nat → Int32) : ent g 51 f = eC g 16 f := rfl
end
section
/-! ===== contracts of reads (the memory stays), calls of them; loops; small rows ===== -/
def bv (p : Prop) (r : Int32) : Prop := (r = 1 ∧ p) ∨ (r = 0 ∧ ¬ p)
def Kp (l : Launch) (g : Gp) (y : MethodName) (b : ByteArray) (nL : Nat) (rt : FieldType) (rm : Room) (av : List Value) (M : Mem) (p : Int32 → Prop) : Prop := Ki l g y b nL rt rm av M (fun r M' => p r ∧ M' = M)
theorem up_to (N : Nat) {P : Nat → Prop} (h : ∀ i, i ≤ N → (i < N → P (i + 1)) → P i) : ∀ i, i ≤ N → P i := by
  have key : ∀ n i, i ≤ N → N - i ≤ n → P i := by
    intro n
    induction n with
    | zero => intro i hi hn; exact h i hi (fun hz => absurd hz (by omega))
    | succ n ih => intro i hi hn; exact h i hi (fun hz => ih (i + 1) hz (by omega))
  exact fun i hi => key (N - i) i hi (Nat.le_refl _)
theorem dn_to {P : Nat → Prop} (h : ∀ i, (∀ j, j < i → P j) → P i) : ∀ i, P i := fun i => Nat.strongRecOn i (fun i ih => h i ih)
theorem sw_split (x : Int32) (lo hi : Int) : (x.toInt < lo ∨ hi < x.toInt) ∨ (¬ x.toInt < lo ∧ ¬ hi < x.toInt) := by omega
theorem fa_lt (a b : Int32) : a < b ↔ a.toInt < b.toInt := Int32.lt_iff_toInt_lt
theorem fa_le (a b : Int32) : a ≤ b ↔ a.toInt ≤ b.toInt := Int32.le_iff_toInt_le
theorem fa_eq (a b : Int32) : a = b ↔ a.toInt = b.toInt := ⟨fun h => h ▸ rfl, fun h => Int32.toInt_inj.mp h⟩
theorem mkL_eq (v : Int64) : mkL (hiL v) (loL v) = v := by
  apply Int64.toInt_inj.mp
  have hv1 := Int64.le_toInt v
  have hv2 := Int64.toInt_lt v
  have hb := Int32.le_toInt (loL v)
  have hb2 := Int32.toInt_lt (loL v)
  have hlo : (loL v).toInt = v.toInt.bmod (2 ^ 32) := Int32.toInt_ofInt
  have hhi : (hiL v).toInt = ((v.toInt - (loL v).toInt) / 4294967296).bmod (2 ^ 32) := Int32.toInt_ofInt
  have hm : (mkL (hiL v) (loL v)).toInt = ((hiL v).toInt * 4294967296 + (loL v).toInt).bmod (2 ^ 64) := Int64.toInt_ofInt
  rw [hm]
  have e1 : (4294967296 : Int) ∣ v.toInt - (loL v).toInt := by
    rw [hlo]
    have := @Int.bmod_def v.toInt (2 ^ 32)
    have h2 : v.toInt - v.toInt.bmod (2 ^ 32) = 4294967296 * (v.toInt.bdiv (2 ^ 32)) := by
      have h3 := Int.bmod_add_bdiv v.toInt (2 ^ 32)
      have h4 : (((2 ^ 32 : Nat)) : Int) = 4294967296 := by decide
      rw [h4] at h3
      omega
    exact ⟨_, h2⟩
  obtain ⟨t, ht⟩ := e1
  have e2 : (v.toInt - (loL v).toInt) / 4294967296 = t := by rw [ht]; exact Int.mul_ediv_cancel_left t (by decide)
  rw [e2] at hhi
  have h5 := Int.bmod_add_bdiv t (2 ^ 32)
  rw [← hhi, show (((2 ^ 32 : Nat)) : Int) = 4294967296 from by decide] at h5
  have e3 : (hiL v).toInt * 4294967296 + (loL v).toInt = v.toInt + (2 ^ 64 : Nat) * (-(t.bdiv (2 ^ 32))) := by
    have : (((2 ^ 64 : Nat)) : Int) = 18446744073709551616 := by decide
    rw [this]
    omega
  rw [e3, Int.add_mul_bmod_self_left]
  exact Int.bmod_eq_of_le (by omega) (by omega)
section XD
variable {κ : Kx} {cc : ByteArray} {own : String} {M : Mem} {pc : Nat} {ls : List (Option Value)} {st : List Value}
theorem x_memI (k : ∀ M' : Mem, M' = M → X κ M' pc ls st) : X κ M pc ls st := k M rfl
/-- the model's field of long -/
def upL (M : Mem) (v : Int64) : Mem := upR M 40 (upd (upd (M 40) 12 (hiL v)) 21 (loL v))
theorem x_putL (C : Cx κ cc own) {idx : Nat} (hw : Cond.fieldLink own idx (TX8 12).1 (TX8 12).2.1 (TX8 12).2.2.1 ∈ gT) {v : Int64} {a : Nat} (ea : a = gad (kg κ) 40) (B : Bk 7 RX8 TX8 tyX8 21) (hd : decode cc pc = .ok (.putfield idx, 3)) (kk : X κ (upL M v) (pc + 3) ls st) : X κ M pc ls (.long v :: .ref a :: st) := by
  refine x_putV C B (k := 40) (C.lt rfl) ea (fl := fun f => [.ref (gad (kg κ) 41), .ref (gad (kg κ) 42), .ref (gad (kg κ) 43), .int (f 3), .ref (gad (kg κ) 44), .ref (gad (kg κ) 45), .ref (gad (kg κ) 46), .ref (gad (kg κ) 47), .int (f 8), .int (f 9), .int (f 10), .int (f 11), .long (mkL (f 12) (f 21)), .ref (gad (kg κ) 48), .ref (gad (kg κ) 49), .ref (gad (kg κ) 50), .ref (gad (kg κ) 51), .ref (gad (kg κ) 52), .ref (gad (kg κ) 53), .ref (gad (kg κ) 54), .ref (gad (kg κ) 55)]) (fun f => rfl) 12 hw rfl (f' := upd (upd (M 40) 12 (hiL v)) 21 (loL v)) ?_ rfl rfl rfl rfl hd kk
  have e : mkL (upd (upd (M 40) 12 (hiL v)) 21 (loL v) 12) (upd (upd (M 40) 12 (hiL v)) 21 (loL v) 21) = v := mkL_eq v
  show _ = _
  simp only [e]
  rfl
theorem x_cvE (C : Cx κ cc own) {y : MethodName} {b : ByteArray} {nL n idx k : Nat} {rt : FieldType} {f : Int32} {rm : Room} {As rest : List Value} (hM : Kp (kl κ) (kg κ) y b nL rt rm (.ref (gad (kg κ) k) :: As) M (fun r => r = f)) (o : okV y b nL (some rt) n) (hw : Cond.methodLink own idx y ∈ gT) (hr : okR rm (kR κ) nL = true) (hk : k < gn (kg κ)) (hrc : Rcv (kg κ) k y.cls) (hn : As.length = n) (hst : st = As.reverse ++ .ref (gad (kg κ) k) :: rest) (hW : Nat.ble ((rest.map fun v => v.category).sum) 8 = true) (hcs : Nat.ble (kce κ) (kR κ).cells = true ∧ Nat.ble (kso κ) (kR κ).slots = true) (hd : decode cc pc = .ok (.invokevirtual idx, 3))
    (kk : X κ M (pc + 3) ls (.int f :: rest)) : X κ M pc ls st :=
  x_cvi C hM o hw hr hk hrc hn hst hW hcs hd (fun r M' hp => by obtain ⟨e1, e2⟩ := hp; rw [e1, e2]; exact kk)
theorem x_cvB (C : Cx κ cc own) {y : MethodName} {b : ByteArray} {nL n idx k : Nat} {rt : FieldType} {P : Prop} {rm : Room} {As rest : List Value} (hM : Kp (kl κ) (kg κ) y b nL rt rm (.ref (gad (kg κ) k) :: As) M (bv P)) (o : okV y b nL (some rt) n) (hw : Cond.methodLink own idx y ∈ gT) (hr : okR rm (kR κ) nL = true) (hk : k < gn (kg κ)) (hrc : Rcv (kg κ) k y.cls) (hn : As.length = n) (hst : st = As.reverse ++ .ref (gad (kg κ) k) :: rest) (hW : Nat.ble ((rest.map fun v => v.category).sum) 8 = true) (hcs : Nat.ble (kce κ) (kR κ).cells = true ∧ Nat.ble (kso κ) (kR κ).slots = true) (hd : decode cc pc = .ok (.invokevirtual idx, 3))
    (kt : P → X κ M (pc + 3) ls (.int 1 :: rest)) (kf : ¬ P → X κ M (pc + 3) ls (.int 0 :: rest)) : X κ M pc ls st :=
  x_cvi C hM o hw hr hk hrc hn hst hW hcs hd (fun r M' hp => by
    obtain ⟨e1, e2⟩ := hp
    rw [e2]
    rcases e1 with ⟨e1, h⟩ | ⟨e1, h⟩
    · rw [e1]; exact kt h
    · rw [e1]; exact kf h)
theorem x_cvP (C : Cx κ cc own) {y : MethodName} {b : ByteArray} {nL n idx k : Nat} {rt : FieldType} {p : Int32 → Prop} {rm : Room} {As rest : List Value} (hM : Kp (kl κ) (kg κ) y b nL rt rm (.ref (gad (kg κ) k) :: As) M p) (o : okV y b nL (some rt) n) (hw : Cond.methodLink own idx y ∈ gT) (hr : okR rm (kR κ) nL = true) (hk : k < gn (kg κ)) (hrc : Rcv (kg κ) k y.cls) (hn : As.length = n) (hst : st = As.reverse ++ .ref (gad (kg κ) k) :: rest) (hW : Nat.ble ((rest.map fun v => v.category).sum) 8 = true) (hcs : Nat.ble (kce κ) (kR κ).cells = true ∧ Nat.ble (kso κ) (kR κ).slots = true) (hd : decode cc pc = .ok (.invokevirtual idx, 3))
    (kk : ∀ r : Int32, p r → X κ M (pc + 3) ls (.int r :: rest)) : X κ M pc ls st :=
  x_cvi C hM o hw hr hk hrc hn hst hW hcs hd (fun r M' hp => by obtain ⟨e1, e2⟩ := hp; rw [e2]; exact kk r e1)
theorem x_csE (C : Cx κ cc own) {y : MethodName} {b : ByteArray} {nL n idx : Nat} {rt : FieldType} {f : Int32} {rm : Room} {As rest : List Value} (hM : Kp (kl κ) (kg κ) y b nL rt rm As M (fun r => r = f)) (o : okS y b nL (some rt) n) (hw : Cond.methodLink own idx y ∈ gT) (hr : okR rm (kR κ) nL = true) (hn : As.length = n) (hst : st = As.reverse ++ rest) (hW : Nat.ble ((rest.map fun v => v.category).sum) 8 = true) (hcs : Nat.ble (kce κ) (kR κ).cells = true ∧ Nat.ble (kso κ) (kR κ).slots = true) (hd : decode cc pc = .ok (.invokestatic idx, 3))
    (kk : X κ M (pc + 3) ls (.int f :: rest)) : X κ M pc ls st :=
  x_csi C hM o hw hr hn hst hW hcs hd (fun r M' hp => by obtain ⟨e1, e2⟩ := hp; rw [e1, e2]; exact kk)
theorem x_csB (C : Cx κ cc own) {y : MethodName} {b : ByteArray} {nL n idx : Nat} {rt : FieldType} {P : Prop} {rm : Room} {As rest : List Value} (hM : Kp (kl κ) (kg κ) y b nL rt rm As M (bv P)) (o : okS y b nL (some rt) n) (hw : Cond.methodLink own idx y ∈ gT) (hr : okR rm (kR κ) nL = true) (hn : As.length = n) (hst : st = As.reverse ++ rest) (hW : Nat.ble ((rest.map fun v => v.category).sum) 8 = true) (hcs : Nat.ble (kce κ) (kR κ).cells = true ∧ Nat.ble (kso κ) (kR κ).slots = true) (hd : decode cc pc = .ok (.invokestatic idx, 3))
    (kt : P → X κ M (pc + 3) ls (.int 1 :: rest)) (kf : ¬ P → X κ M (pc + 3) ls (.int 0 :: rest)) : X κ M pc ls st :=
  x_csi C hM o hw hr hn hst hW hcs hd (fun r M' hp => by
    obtain ⟨e1, e2⟩ := hp
    rw [e2]
    rcases e1 with ⟨e1, h⟩ | ⟨e1, h⟩
    · rw [e1]; exact kt h
    · rw [e1]; exact kf h)
theorem x_csP (C : Cx κ cc own) {y : MethodName} {b : ByteArray} {nL n idx : Nat} {rt : FieldType} {p : Int32 → Prop} {rm : Room} {As rest : List Value} (hM : Kp (kl κ) (kg κ) y b nL rt rm As M p) (o : okS y b nL (some rt) n) (hw : Cond.methodLink own idx y ∈ gT) (hr : okR rm (kR κ) nL = true) (hn : As.length = n) (hst : st = As.reverse ++ rest) (hW : Nat.ble ((rest.map fun v => v.category).sum) 8 = true) (hcs : Nat.ble (kce κ) (kR κ).cells = true ∧ Nat.ble (kso κ) (kR κ).slots = true) (hd : decode cc pc = .ok (.invokestatic idx, 3))
    (kk : ∀ r : Int32, p r → X κ M (pc + 3) ls (.int r :: rest)) : X κ M pc ls st :=
  x_csi C hM o hw hr hn hst hW hcs hd (fun r M' hp => by obtain ⟨e1, e2⟩ := hp; rw [e2]; exact kk r e1)
end XD
theorem lle_e {b : List (Option Value)} : lle [] b := by cases b <;> trivial
theorem lle_n {w : Option Value} {t u : List (Option Value)} (h : lle t u) : lle (none :: t) (w :: u) := h
theorem lle_s {v : Value} {w : Option Value} {t u : List (Option Value)} (e : w = some v) (h : lle t u) : lle (some v :: t) (w :: u) := ⟨e, h⟩
/-- the same but at these places -/
def same (L : List Nat) (M M' : Mem) : Prop := ∀ k, k ∉ L → M' k = M k
theorem same.rf {L : List Nat} {M : Mem} : same L M M := fun _ _ => rfl
theorem same.tr {L : List Nat} {M M1 M2 : Mem} (h1 : same L M M1) (h2 : same L M1 M2) : same L M M2 := fun k hk => (h2 k hk).trans (h1 k hk)
theorem same.mono {L L' : List Nat} {M M' : Mem} (h : same L M M') (hL : ∀ k ∈ L, k ∈ L') : same L' M M' := fun k hk => h k (fun q => hk (hL k q))
theorem same.up {L : List Nat} {M : Mem} {k i : Nat} {x : Int32} (hk : k ∈ L) : same L M (up M k i x) := fun a ha => up_n (fun q => ha (q ▸ hk))
theorem same.upR {L : List Nat} {M : Mem} {k : Nat} {f : Nat → Int32} (hk : k ∈ L) : same L M (upR M k f) := fun a ha => upR_n (fun q => ha (q ▸ hk))
end
section
theorem zz_end : True := trivial
end
