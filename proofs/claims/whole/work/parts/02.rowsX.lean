theorem dX0_init_0 : decode cX0_init 0 = .ok (.aload_n 0, 1) := by decide +kernel
theorem dX0_init_1 : decode cX0_init 1 = .ok (.invokespecial 3, 3) := by decide +kernel
theorem dX0_init_4 : decode cX0_init 4 = .ok (.aload_n 0, 1) := by decide +kernel
theorem dX0_init_5 : decode cX0_init 5 = .ok (.sipush 256, 3) := by decide +kernel
theorem dX0_init_8 : decode cX0_init 8 = .ok (.newarray .int, 2) := by decide +kernel
theorem dX0_init_10 : decode cX0_init 10 = .ok (.putfield 11, 3) := by decide +kernel
theorem dX0_init_13 : decode cX0_init 13 = .ok (.aload_n 0, 1) := by decide +kernel
theorem dX0_init_14 : decode cX0_init 14 = .ok (.sipush 256, 3) := by decide +kernel
theorem dX0_init_17 : decode cX0_init 17 = .ok (.newarray .int, 2) := by decide +kernel
theorem dX0_init_19 : decode cX0_init 19 = .ok (.putfield 15, 3) := by decide +kernel
theorem dX0_init_22 : decode cX0_init 22 = .ok (.return_, 1) := by decide +kernel
theorem dX0_lookAt_0 : decode cX0_lookAt 0 = .ok (.aload_n 0, 1) := by decide +kernel
theorem dX0_lookAt_1 : decode cX0_lookAt 1 = .ok (.aload_n 1, 1) := by decide +kernel
theorem dX0_lookAt_2 : decode cX0_lookAt 2 = .ok (.ifnonnull 7, 3) := by decide +kernel
theorem dX0_lookAt_5 : decode cX0_lookAt 5 = .ok (.iconst 0, 1) := by decide +kernel
theorem dX0_lookAt_6 : decode cX0_lookAt 6 = .ok (.goto 7, 3) := by decide +kernel
theorem dX0_lookAt_9 : decode cX0_lookAt 9 = .ok (.aload_n 1, 1) := by decide +kernel
theorem dX0_lookAt_10 : decode cX0_lookAt 10 = .ok (.invokevirtual 18, 3) := by decide +kernel
theorem dX0_lookAt_13 : decode cX0_lookAt 13 = .ok (.putfield 22, 3) := by decide +kernel
theorem dX0_lookAt_16 : decode cX0_lookAt 16 = .ok (.aload_n 0, 1) := by decide +kernel
theorem dX0_lookAt_17 : decode cX0_lookAt 17 = .ok (.getfield 11, 3) := by decide +kernel
theorem dX0_lookAt_20 : decode cX0_lookAt 20 = .ok (.iconst 0, 1) := by decide +kernel
theorem dX0_lookAt_21 : decode cX0_lookAt 21 = .ok (.iconst 0, 1) := by decide +kernel
theorem dX0_lookAt_22 : decode cX0_lookAt 22 = .ok (.iastore, 1) := by decide +kernel
theorem dX0_lookAt_23 : decode cX0_lookAt 23 = .ok (.iconst 0, 1) := by decide +kernel
theorem dX0_lookAt_24 : decode cX0_lookAt 24 = .ok (.istore_n 2, 1) := by decide +kernel
theorem dX0_lookAt_25 : decode cX0_lookAt 25 = .ok (.iload_n 2, 1) := by decide +kernel
theorem dX0_lookAt_26 : decode cX0_lookAt 26 = .ok (.bipush 8, 2) := by decide +kernel
theorem dX0_lookAt_28 : decode cX0_lookAt 28 = .ok (.if_icmp .ge 74, 3) := by decide +kernel
theorem dX0_lookAt_31 : decode cX0_lookAt 31 = .ok (.aload_n 1, 1) := by decide +kernel
theorem dX0_lookAt_32 : decode cX0_lookAt 32 = .ok (.ifnonnull 7, 3) := by decide +kernel
theorem dX0_lookAt_35 : decode cX0_lookAt 35 = .ok (.iconst 0, 1) := by decide +kernel
theorem dX0_lookAt_36 : decode cX0_lookAt 36 = .ok (.goto 8, 3) := by decide +kernel
theorem dX0_lookAt_39 : decode cX0_lookAt 39 = .ok (.aload_n 1, 1) := by decide +kernel
theorem dX0_lookAt_40 : decode cX0_lookAt 40 = .ok (.iload_n 2, 1) := by decide +kernel
theorem dX0_lookAt_41 : decode cX0_lookAt 41 = .ok (.invokevirtual 25, 3) := by decide +kernel
theorem dX0_lookAt_44 : decode cX0_lookAt 44 = .ok (.istore_n 3, 1) := by decide +kernel
theorem dX0_lookAt_45 : decode cX0_lookAt 45 = .ok (.iconst 1, 1) := by decide +kernel
theorem dX0_lookAt_46 : decode cX0_lookAt 46 = .ok (.iload_n 2, 1) := by decide +kernel
theorem dX0_lookAt_47 : decode cX0_lookAt 47 = .ok (.ishl, 1) := by decide +kernel
theorem dX0_lookAt_48 : decode cX0_lookAt 48 = .ok (.istore 4, 2) := by decide +kernel
theorem dX0_lookAt_50 : decode cX0_lookAt 50 = .ok (.iconst 0, 1) := by decide +kernel
theorem dX0_lookAt_51 : decode cX0_lookAt 51 = .ok (.istore 5, 2) := by decide +kernel
theorem dX0_lookAt_53 : decode cX0_lookAt 53 = .ok (.iload 5, 2) := by decide +kernel
theorem dX0_lookAt_55 : decode cX0_lookAt 55 = .ok (.iload 4, 2) := by decide +kernel
theorem dX0_lookAt_57 : decode cX0_lookAt 57 = .ok (.if_icmp .ge 39, 3) := by decide +kernel
theorem dX0_lookAt_60 : decode cX0_lookAt 60 = .ok (.iload 4, 2) := by decide +kernel
theorem dX0_lookAt_62 : decode cX0_lookAt 62 = .ok (.iload 5, 2) := by decide +kernel
theorem dX0_lookAt_64 : decode cX0_lookAt 64 = .ok (.iadd, 1) := by decide +kernel
theorem dX0_lookAt_65 : decode cX0_lookAt 65 = .ok (.sipush 256, 3) := by decide +kernel
theorem dX0_lookAt_68 : decode cX0_lookAt 68 = .ok (.if_icmp .ge 28, 3) := by decide +kernel
theorem dX0_lookAt_71 : decode cX0_lookAt 71 = .ok (.aload_n 0, 1) := by decide +kernel
theorem dX0_lookAt_72 : decode cX0_lookAt 72 = .ok (.getfield 11, 3) := by decide +kernel
theorem dX0_lookAt_75 : decode cX0_lookAt 75 = .ok (.iload 4, 2) := by decide +kernel
theorem dX0_lookAt_77 : decode cX0_lookAt 77 = .ok (.iload 5, 2) := by decide +kernel
theorem dX0_lookAt_79 : decode cX0_lookAt 79 = .ok (.iadd, 1) := by decide +kernel
theorem dX0_lookAt_80 : decode cX0_lookAt 80 = .ok (.aload_n 0, 1) := by decide +kernel
theorem dX0_lookAt_81 : decode cX0_lookAt 81 = .ok (.getfield 11, 3) := by decide +kernel
theorem dX0_lookAt_84 : decode cX0_lookAt 84 = .ok (.iload 5, 2) := by decide +kernel
theorem dX0_lookAt_86 : decode cX0_lookAt 86 = .ok (.iaload, 1) := by decide +kernel
theorem dX0_lookAt_87 : decode cX0_lookAt 87 = .ok (.iload_n 3, 1) := by decide +kernel
theorem dX0_lookAt_88 : decode cX0_lookAt 88 = .ok (.iadd, 1) := by decide +kernel
theorem dX0_lookAt_89 : decode cX0_lookAt 89 = .ok (.iastore, 1) := by decide +kernel
theorem dX0_lookAt_90 : decode cX0_lookAt 90 = .ok (.iinc 5 1, 3) := by decide +kernel
theorem dX0_lookAt_93 : decode cX0_lookAt 93 = .ok (.goto (-40), 3) := by decide +kernel
theorem dX0_lookAt_96 : decode cX0_lookAt 96 = .ok (.iinc 2 1, 3) := by decide +kernel
theorem dX0_lookAt_99 : decode cX0_lookAt 99 = .ok (.goto (-74), 3) := by decide +kernel
theorem dX0_lookAt_102 : decode cX0_lookAt 102 = .ok (.return_, 1) := by decide +kernel
theorem dX0_isOfEggs_0 : decode cX0_isOfEggs 0 = .ok (.iload_n 1, 1) := by decide +kernel
theorem dX0_isOfEggs_1 : decode cX0_isOfEggs 1 = .ok (.aload_n 0, 1) := by decide +kernel
theorem dX0_isOfEggs_2 : decode cX0_isOfEggs 2 = .ok (.getfield 22, 3) := by decide +kernel
theorem dX0_isOfEggs_5 : decode cX0_isOfEggs 5 = .ok (.iconst (-1), 1) := by decide +kernel
theorem dX0_isOfEggs_6 : decode cX0_isOfEggs 6 = .ok (.ixor, 1) := by decide +kernel
theorem dX0_isOfEggs_7 : decode cX0_isOfEggs 7 = .ok (.iand, 1) := by decide +kernel
theorem dX0_isOfEggs_8 : decode cX0_isOfEggs 8 = .ok (.ifCond .ne 7, 3) := by decide +kernel
theorem dX0_isOfEggs_11 : decode cX0_isOfEggs 11 = .ok (.iconst 1, 1) := by decide +kernel
theorem dX0_isOfEggs_12 : decode cX0_isOfEggs 12 = .ok (.goto 4, 3) := by decide +kernel
theorem dX0_isOfEggs_15 : decode cX0_isOfEggs 15 = .ok (.iconst 0, 1) := by decide +kernel
theorem dX0_isOfEggs_16 : decode cX0_isOfEggs 16 = .ok (.ireturn, 1) := by decide +kernel
theorem dX0_sumOf_0 : decode cX0_sumOf 0 = .ok (.iload_n 1, 1) := by decide +kernel
theorem dX0_sumOf_1 : decode cX0_sumOf 1 = .ok (.ifCond .lt 19, 3) := by decide +kernel
theorem dX0_sumOf_4 : decode cX0_sumOf 4 = .ok (.iload_n 1, 1) := by decide +kernel
theorem dX0_sumOf_5 : decode cX0_sumOf 5 = .ok (.sipush 256, 3) := by decide +kernel
theorem dX0_sumOf_8 : decode cX0_sumOf 8 = .ok (.if_icmp .ge 12, 3) := by decide +kernel
theorem dX0_sumOf_11 : decode cX0_sumOf 11 = .ok (.aload_n 0, 1) := by decide +kernel
theorem dX0_sumOf_12 : decode cX0_sumOf 12 = .ok (.getfield 11, 3) := by decide +kernel
theorem dX0_sumOf_15 : decode cX0_sumOf 15 = .ok (.iload_n 1, 1) := by decide +kernel
theorem dX0_sumOf_16 : decode cX0_sumOf 16 = .ok (.iaload, 1) := by decide +kernel
theorem dX0_sumOf_17 : decode cX0_sumOf 17 = .ok (.goto 4, 3) := by decide +kernel
theorem dX0_sumOf_20 : decode cX0_sumOf 20 = .ok (.iconst 0, 1) := by decide +kernel
theorem dX0_sumOf_21 : decode cX0_sumOf 21 = .ok (.ireturn, 1) := by decide +kernel
theorem dX0_does_0 : decode cX0_does 0 = .ok (.aload_n 1, 1) := by decide +kernel
theorem dX0_does_1 : decode cX0_does 1 = .ok (.ifnull 40, 3) := by decide +kernel
theorem dX0_does_4 : decode cX0_does 4 = .ok (.aload_n 0, 1) := by decide +kernel
theorem dX0_does_5 : decode cX0_does 5 = .ok (.iload_n 3, 1) := by decide +kernel
theorem dX0_does_6 : decode cX0_does 6 = .ok (.invokevirtual 29, 3) := by decide +kernel
theorem dX0_does_9 : decode cX0_does 9 = .ok (.ifCond .eq 32, 3) := by decide +kernel
theorem dX0_does_12 : decode cX0_does 12 = .ok (.iload_n 3, 1) := by decide +kernel
theorem dX0_does_13 : decode cX0_does 13 = .ok (.ifCond .eq 11, 3) := by decide +kernel
theorem dX0_does_16 : decode cX0_does 16 = .ok (.aload_n 1, 1) := by decide +kernel
theorem dX0_does_17 : decode cX0_does 17 = .ok (.iload_n 2, 1) := by decide +kernel
theorem dX0_does_18 : decode cX0_does 18 = .ok (.invokevirtual 33, 3) := by decide +kernel
theorem dX0_does_21 : decode cX0_does 21 = .ok (.ifCond .eq 20, 3) := by decide +kernel
theorem dX0_does_24 : decode cX0_does 24 = .ok (.aload_n 0, 1) := by decide +kernel
theorem dX0_does_25 : decode cX0_does 25 = .ok (.iload_n 3, 1) := by decide +kernel
theorem dX0_does_26 : decode cX0_does 26 = .ok (.invokevirtual 36, 3) := by decide +kernel
theorem dX0_does_29 : decode cX0_does 29 = .ok (.aload_n 1, 1) := by decide +kernel
theorem dX0_does_30 : decode cX0_does 30 = .ok (.iload_n 2, 1) := by decide +kernel
theorem dX0_does_31 : decode cX0_does 31 = .ok (.invokevirtual 39, 3) := by decide +kernel
theorem dX0_does_34 : decode cX0_does 34 = .ok (.if_icmp .lt 7, 3) := by decide +kernel
theorem dX0_does_37 : decode cX0_does 37 = .ok (.iconst 1, 1) := by decide +kernel
theorem dX0_does_38 : decode cX0_does 38 = .ok (.goto 4, 3) := by decide +kernel
theorem dX0_does_41 : decode cX0_does 41 = .ok (.iconst 0, 1) := by decide +kernel
theorem dX0_does_42 : decode cX0_does 42 = .ok (.ireturn, 1) := by decide +kernel
theorem dX0_fewestFor_0 : decode cX0_fewestFor 0 = .ok (.iconst (-1), 1) := by decide +kernel
theorem dX0_fewestFor_1 : decode cX0_fewestFor 1 = .ok (.istore_n 3, 1) := by decide +kernel
theorem dX0_fewestFor_2 : decode cX0_fewestFor 2 = .ok (.iconst 0, 1) := by decide +kernel
theorem dX0_fewestFor_3 : decode cX0_fewestFor 3 = .ok (.istore 4, 2) := by decide +kernel
theorem dX0_fewestFor_5 : decode cX0_fewestFor 5 = .ok (.iload 4, 2) := by decide +kernel
theorem dX0_fewestFor_7 : decode cX0_fewestFor 7 = .ok (.sipush 256, 3) := by decide +kernel
theorem dX0_fewestFor_10 : decode cX0_fewestFor 10 = .ok (.if_icmp .ge 39, 3) := by decide +kernel
theorem dX0_fewestFor_13 : decode cX0_fewestFor 13 = .ok (.aload_n 0, 1) := by decide +kernel
theorem dX0_fewestFor_14 : decode cX0_fewestFor 14 = .ok (.aload_n 1, 1) := by decide +kernel
theorem dX0_fewestFor_15 : decode cX0_fewestFor 15 = .ok (.iload_n 2, 1) := by decide +kernel
theorem dX0_fewestFor_16 : decode cX0_fewestFor 16 = .ok (.iload 4, 2) := by decide +kernel
theorem dX0_fewestFor_18 : decode cX0_fewestFor 18 = .ok (.invokevirtual 42, 3) := by decide +kernel
theorem dX0_fewestFor_21 : decode cX0_fewestFor 21 = .ok (.ifCond .eq 22, 3) := by decide +kernel
theorem dX0_fewestFor_24 : decode cX0_fewestFor 24 = .ok (.iload_n 3, 1) := by decide +kernel
theorem dX0_fewestFor_25 : decode cX0_fewestFor 25 = .ok (.ifCond .lt 15, 3) := by decide +kernel
theorem dX0_fewestFor_28 : decode cX0_fewestFor 28 = .ok (.iload 4, 2) := by decide +kernel
theorem dX0_fewestFor_30 : decode cX0_fewestFor 30 = .ok (.invokestatic 46, 3) := by decide +kernel
theorem dX0_fewestFor_33 : decode cX0_fewestFor 33 = .ok (.iload_n 3, 1) := by decide +kernel
theorem dX0_fewestFor_34 : decode cX0_fewestFor 34 = .ok (.invokestatic 46, 3) := by decide +kernel
theorem dX0_fewestFor_37 : decode cX0_fewestFor 37 = .ok (.if_icmp .ge 6, 3) := by decide +kernel
theorem dX0_fewestFor_40 : decode cX0_fewestFor 40 = .ok (.iload 4, 2) := by decide +kernel
theorem dX0_fewestFor_42 : decode cX0_fewestFor 42 = .ok (.istore_n 3, 1) := by decide +kernel
theorem dX0_fewestFor_43 : decode cX0_fewestFor 43 = .ok (.iinc 4 1, 3) := by decide +kernel
theorem dX0_fewestFor_46 : decode cX0_fewestFor 46 = .ok (.goto (-41), 3) := by decide +kernel
theorem dX0_fewestFor_49 : decode cX0_fewestFor 49 = .ok (.iload_n 3, 1) := by decide +kernel
theorem dX0_fewestFor_50 : decode cX0_fewestFor 50 = .ok (.ireturn, 1) := by decide +kernel
theorem dX0_leastFor_0 : decode cX0_leastFor 0 = .ok (.iconst (-1), 1) := by decide +kernel
theorem dX0_leastFor_1 : decode cX0_leastFor 1 = .ok (.istore_n 3, 1) := by decide +kernel
theorem dX0_leastFor_2 : decode cX0_leastFor 2 = .ok (.iconst 0, 1) := by decide +kernel
theorem dX0_leastFor_3 : decode cX0_leastFor 3 = .ok (.istore 4, 2) := by decide +kernel
theorem dX0_leastFor_5 : decode cX0_leastFor 5 = .ok (.iload 4, 2) := by decide +kernel
theorem dX0_leastFor_7 : decode cX0_leastFor 7 = .ok (.sipush 256, 3) := by decide +kernel
theorem dX0_leastFor_10 : decode cX0_leastFor 10 = .ok (.if_icmp .ge 41, 3) := by decide +kernel
theorem dX0_leastFor_13 : decode cX0_leastFor 13 = .ok (.aload_n 0, 1) := by decide +kernel
theorem dX0_leastFor_14 : decode cX0_leastFor 14 = .ok (.aload_n 1, 1) := by decide +kernel
theorem dX0_leastFor_15 : decode cX0_leastFor 15 = .ok (.iload_n 2, 1) := by decide +kernel
theorem dX0_leastFor_16 : decode cX0_leastFor 16 = .ok (.iload 4, 2) := by decide +kernel
theorem dX0_leastFor_18 : decode cX0_leastFor 18 = .ok (.invokevirtual 42, 3) := by decide +kernel
theorem dX0_leastFor_21 : decode cX0_leastFor 21 = .ok (.ifCond .eq 24, 3) := by decide +kernel
theorem dX0_leastFor_24 : decode cX0_leastFor 24 = .ok (.iload_n 3, 1) := by decide +kernel
theorem dX0_leastFor_25 : decode cX0_leastFor 25 = .ok (.ifCond .lt 17, 3) := by decide +kernel
theorem dX0_leastFor_28 : decode cX0_leastFor 28 = .ok (.aload_n 0, 1) := by decide +kernel
theorem dX0_leastFor_29 : decode cX0_leastFor 29 = .ok (.iload 4, 2) := by decide +kernel
theorem dX0_leastFor_31 : decode cX0_leastFor 31 = .ok (.invokevirtual 36, 3) := by decide +kernel
theorem dX0_leastFor_34 : decode cX0_leastFor 34 = .ok (.aload_n 0, 1) := by decide +kernel
theorem dX0_leastFor_35 : decode cX0_leastFor 35 = .ok (.iload_n 3, 1) := by decide +kernel
theorem dX0_leastFor_36 : decode cX0_leastFor 36 = .ok (.invokevirtual 36, 3) := by decide +kernel
theorem dX0_leastFor_39 : decode cX0_leastFor 39 = .ok (.if_icmp .ge 6, 3) := by decide +kernel
theorem dX0_leastFor_42 : decode cX0_leastFor 42 = .ok (.iload 4, 2) := by decide +kernel
theorem dX0_leastFor_44 : decode cX0_leastFor 44 = .ok (.istore_n 3, 1) := by decide +kernel
theorem dX0_leastFor_45 : decode cX0_leastFor 45 = .ok (.iinc 4 1, 3) := by decide +kernel
theorem dX0_leastFor_48 : decode cX0_leastFor 48 = .ok (.goto (-43), 3) := by decide +kernel
theorem dX0_leastFor_51 : decode cX0_leastFor 51 = .ok (.iload_n 3, 1) := by decide +kernel
theorem dX0_leastFor_52 : decode cX0_leastFor 52 = .ok (.ireturn, 1) := by decide +kernel
theorem dX0_bestMark_0 : decode cX0_bestMark 0 = .ok (.iconst 0, 1) := by decide +kernel
theorem dX0_bestMark_1 : decode cX0_bestMark 1 = .ok (.istore_n 2, 1) := by decide +kernel
theorem dX0_bestMark_2 : decode cX0_bestMark 2 = .ok (.iload_n 2, 1) := by decide +kernel
theorem dX0_bestMark_3 : decode cX0_bestMark 3 = .ok (.sipush 256, 3) := by decide +kernel
theorem dX0_bestMark_6 : decode cX0_bestMark 6 = .ok (.if_icmp .ge 16, 3) := by decide +kernel
theorem dX0_bestMark_9 : decode cX0_bestMark 9 = .ok (.aload_n 0, 1) := by decide +kernel
theorem dX0_bestMark_10 : decode cX0_bestMark 10 = .ok (.getfield 15, 3) := by decide +kernel
theorem dX0_bestMark_13 : decode cX0_bestMark 13 = .ok (.iload_n 2, 1) := by decide +kernel
theorem dX0_bestMark_14 : decode cX0_bestMark 14 = .ok (.iconst 0, 1) := by decide +kernel
theorem dX0_bestMark_15 : decode cX0_bestMark 15 = .ok (.iastore, 1) := by decide +kernel
theorem dX0_bestMark_16 : decode cX0_bestMark 16 = .ok (.iinc 2 1, 3) := by decide +kernel
theorem dX0_bestMark_19 : decode cX0_bestMark 19 = .ok (.goto (-17), 3) := by decide +kernel
theorem dX0_bestMark_22 : decode cX0_bestMark 22 = .ok (.iconst 0, 1) := by decide +kernel
theorem dX0_bestMark_23 : decode cX0_bestMark 23 = .ok (.istore_n 2, 1) := by decide +kernel
theorem dX0_bestMark_24 : decode cX0_bestMark 24 = .ok (.iconst 0, 1) := by decide +kernel
theorem dX0_bestMark_25 : decode cX0_bestMark 25 = .ok (.istore_n 3, 1) := by decide +kernel
theorem dX0_bestMark_26 : decode cX0_bestMark 26 = .ok (.aload_n 1, 1) := by decide +kernel
theorem dX0_bestMark_27 : decode cX0_bestMark 27 = .ok (.ifnull 80, 3) := by decide +kernel
theorem dX0_bestMark_30 : decode cX0_bestMark 30 = .ok (.iload_n 3, 1) := by decide +kernel
theorem dX0_bestMark_31 : decode cX0_bestMark 31 = .ok (.bipush 6, 2) := by decide +kernel
theorem dX0_bestMark_33 : decode cX0_bestMark 33 = .ok (.if_icmp .ge 74, 3) := by decide +kernel
theorem dX0_bestMark_36 : decode cX0_bestMark 36 = .ok (.aload_n 1, 1) := by decide +kernel
theorem dX0_bestMark_37 : decode cX0_bestMark 37 = .ok (.getfield 51, 3) := by decide +kernel
theorem dX0_bestMark_40 : decode cX0_bestMark 40 = .ok (.iload_n 3, 1) := by decide +kernel
theorem dX0_bestMark_41 : decode cX0_bestMark 41 = .ok (.iconst 2, 1) := by decide +kernel
theorem dX0_bestMark_42 : decode cX0_bestMark 42 = .ok (.invokevirtual 55, 3) := by decide +kernel
theorem dX0_bestMark_45 : decode cX0_bestMark 45 = .ok (.istore 4, 2) := by decide +kernel
theorem dX0_bestMark_47 : decode cX0_bestMark 47 = .ok (.iload 4, 2) := by decide +kernel
theorem dX0_bestMark_49 : decode cX0_bestMark 49 = .ok (.ifCond .gt 6, 3) := by decide +kernel
theorem dX0_bestMark_52 : decode cX0_bestMark 52 = .ok (.goto 49, 3) := by decide +kernel
theorem dX0_bestMark_55 : decode cX0_bestMark 55 = .ok (.iload 4, 2) := by decide +kernel
theorem dX0_bestMark_57 : decode cX0_bestMark 57 = .ok (.bipush 64, 2) := by decide +kernel
theorem dX0_bestMark_59 : decode cX0_bestMark 59 = .ok (.imul, 1) := by decide +kernel
theorem dX0_bestMark_60 : decode cX0_bestMark 60 = .ok (.iconst 1, 1) := by decide +kernel
theorem dX0_bestMark_61 : decode cX0_bestMark 61 = .ok (.iload_n 3, 1) := by decide +kernel
theorem dX0_bestMark_62 : decode cX0_bestMark 62 = .ok (.ishl, 1) := by decide +kernel
theorem dX0_bestMark_63 : decode cX0_bestMark 63 = .ok (.isub, 1) := by decide +kernel
theorem dX0_bestMark_64 : decode cX0_bestMark 64 = .ok (.istore 5, 2) := by decide +kernel
theorem dX0_bestMark_66 : decode cX0_bestMark 66 = .ok (.aload_n 1, 1) := by decide +kernel
theorem dX0_bestMark_67 : decode cX0_bestMark 67 = .ok (.iload_n 3, 1) := by decide +kernel
theorem dX0_bestMark_68 : decode cX0_bestMark 68 = .ok (.invokevirtual 61, 3) := by decide +kernel
theorem dX0_bestMark_71 : decode cX0_bestMark 71 = .ok (.ifCond .eq 11, 3) := by decide +kernel
theorem dX0_bestMark_74 : decode cX0_bestMark 74 = .ok (.iload_n 2, 1) := by decide +kernel
theorem dX0_bestMark_75 : decode cX0_bestMark 75 = .ok (.iload 5, 2) := by decide +kernel
theorem dX0_bestMark_77 : decode cX0_bestMark 77 = .ok (.iadd, 1) := by decide +kernel
theorem dX0_bestMark_78 : decode cX0_bestMark 78 = .ok (.istore_n 2, 1) := by decide +kernel
theorem dX0_bestMark_79 : decode cX0_bestMark 79 = .ok (.goto 22, 3) := by decide +kernel
theorem dX0_bestMark_82 : decode cX0_bestMark 82 = .ok (.aload_n 1, 1) := by decide +kernel
theorem dX0_bestMark_83 : decode cX0_bestMark 83 = .ok (.iload_n 3, 1) := by decide +kernel
theorem dX0_bestMark_84 : decode cX0_bestMark 84 = .ok (.invokevirtual 33, 3) := by decide +kernel
theorem dX0_bestMark_87 : decode cX0_bestMark 87 = .ok (.ifCond .eq 14, 3) := by decide +kernel
theorem dX0_bestMark_90 : decode cX0_bestMark 90 = .ok (.aload_n 0, 1) := by decide +kernel
theorem dX0_bestMark_91 : decode cX0_bestMark 91 = .ok (.aload_n 1, 1) := by decide +kernel
theorem dX0_bestMark_92 : decode cX0_bestMark 92 = .ok (.iload_n 3, 1) := by decide +kernel
theorem dX0_bestMark_93 : decode cX0_bestMark 93 = .ok (.invokevirtual 39, 3) := by decide +kernel
theorem dX0_bestMark_96 : decode cX0_bestMark 96 = .ok (.iload 5, 2) := by decide +kernel
theorem dX0_bestMark_98 : decode cX0_bestMark 98 = .ok (.invokevirtual 64, 3) := by decide +kernel
theorem dX0_bestMark_101 : decode cX0_bestMark 101 = .ok (.iinc 3 1, 3) := by decide +kernel
theorem dX0_bestMark_104 : decode cX0_bestMark 104 = .ok (.goto (-78), 3) := by decide +kernel
theorem dX0_bestMark_107 : decode cX0_bestMark 107 = .ok (.iload_n 2, 1) := by decide +kernel
theorem dX0_bestMark_108 : decode cX0_bestMark 108 = .ok (.aload_n 0, 1) := by decide +kernel
theorem dX0_bestMark_109 : decode cX0_bestMark 109 = .ok (.aload_n 0, 1) := by decide +kernel
theorem dX0_bestMark_110 : decode cX0_bestMark 110 = .ok (.getfield 22, 3) := by decide +kernel
theorem dX0_bestMark_113 : decode cX0_bestMark 113 = .ok (.invokevirtual 68, 3) := by decide +kernel
theorem dX0_bestMark_116 : decode cX0_bestMark 116 = .ok (.iadd, 1) := by decide +kernel
theorem dX0_bestMark_117 : decode cX0_bestMark 117 = .ok (.ireturn, 1) := by decide +kernel
theorem dX0_offer_0 : decode cX0_offer 0 = .ok (.sipush 255, 3) := by decide +kernel
theorem dX0_offer_3 : decode cX0_offer 3 = .ok (.istore_n 3, 1) := by decide +kernel
theorem dX0_offer_4 : decode cX0_offer 4 = .ok (.iload_n 3, 1) := by decide +kernel
theorem dX0_offer_5 : decode cX0_offer 5 = .ok (.ifCond .le 30, 3) := by decide +kernel
theorem dX0_offer_8 : decode cX0_offer 8 = .ok (.aload_n 0, 1) := by decide +kernel
theorem dX0_offer_9 : decode cX0_offer 9 = .ok (.iload_n 3, 1) := by decide +kernel
theorem dX0_offer_10 : decode cX0_offer 10 = .ok (.invokevirtual 29, 3) := by decide +kernel
theorem dX0_offer_13 : decode cX0_offer 13 = .ok (.ifCond .eq 16, 3) := by decide +kernel
theorem dX0_offer_16 : decode cX0_offer 16 = .ok (.aload_n 0, 1) := by decide +kernel
theorem dX0_offer_17 : decode cX0_offer 17 = .ok (.getfield 15, 3) := by decide +kernel
theorem dX0_offer_20 : decode cX0_offer 20 = .ok (.iload_n 3, 1) := by decide +kernel
theorem dX0_offer_21 : decode cX0_offer 21 = .ok (.aload_n 0, 1) := by decide +kernel
theorem dX0_offer_22 : decode cX0_offer 22 = .ok (.iload_n 3, 1) := by decide +kernel
theorem dX0_offer_23 : decode cX0_offer 23 = .ok (.iload_n 1, 1) := by decide +kernel
theorem dX0_offer_24 : decode cX0_offer 24 = .ok (.iload_n 2, 1) := by decide +kernel
theorem dX0_offer_25 : decode cX0_offer 25 = .ok (.invokevirtual 71, 3) := by decide +kernel
theorem dX0_offer_28 : decode cX0_offer 28 = .ok (.iastore, 1) := by decide +kernel
theorem dX0_offer_29 : decode cX0_offer 29 = .ok (.iinc 3 (-1), 3) := by decide +kernel
theorem dX0_offer_32 : decode cX0_offer 32 = .ok (.goto (-28), 3) := by decide +kernel
theorem dX0_offer_35 : decode cX0_offer 35 = .ok (.return_, 1) := by decide +kernel
theorem dX0_bestWithOneMore_0 : decode cX0_bestWithOneMore 0 = .ok (.aload_n 0, 1) := by decide +kernel
theorem dX0_bestWithOneMore_1 : decode cX0_bestWithOneMore 1 = .ok (.iload_n 1, 1) := by decide +kernel
theorem dX0_bestWithOneMore_2 : decode cX0_bestWithOneMore 2 = .ok (.invokevirtual 68, 3) := by decide +kernel
theorem dX0_bestWithOneMore_5 : decode cX0_bestWithOneMore 5 = .ok (.istore 4, 2) := by decide +kernel
theorem dX0_bestWithOneMore_7 : decode cX0_bestWithOneMore 7 = .ok (.iload_n 1, 1) := by decide +kernel
theorem dX0_bestWithOneMore_8 : decode cX0_bestWithOneMore 8 = .ok (.istore 5, 2) := by decide +kernel
theorem dX0_bestWithOneMore_10 : decode cX0_bestWithOneMore 10 = .ok (.iload 5, 2) := by decide +kernel
theorem dX0_bestWithOneMore_12 : decode cX0_bestWithOneMore 12 = .ok (.ifCond .le 41, 3) := by decide +kernel
theorem dX0_bestWithOneMore_15 : decode cX0_bestWithOneMore 15 = .ok (.aload_n 0, 1) := by decide +kernel
theorem dX0_bestWithOneMore_16 : decode cX0_bestWithOneMore 16 = .ok (.iload 5, 2) := by decide +kernel
theorem dX0_bestWithOneMore_18 : decode cX0_bestWithOneMore 18 = .ok (.invokevirtual 36, 3) := by decide +kernel
theorem dX0_bestWithOneMore_21 : decode cX0_bestWithOneMore 21 = .ok (.iload_n 2, 1) := by decide +kernel
theorem dX0_bestWithOneMore_22 : decode cX0_bestWithOneMore 22 = .ok (.if_icmp .lt 20, 3) := by decide +kernel
theorem dX0_bestWithOneMore_25 : decode cX0_bestWithOneMore 25 = .ok (.iload 4, 2) := by decide +kernel
theorem dX0_bestWithOneMore_27 : decode cX0_bestWithOneMore 27 = .ok (.aload_n 0, 1) := by decide +kernel
theorem dX0_bestWithOneMore_28 : decode cX0_bestWithOneMore 28 = .ok (.iload_n 1, 1) := by decide +kernel
theorem dX0_bestWithOneMore_29 : decode cX0_bestWithOneMore 29 = .ok (.iload 5, 2) := by decide +kernel
theorem dX0_bestWithOneMore_31 : decode cX0_bestWithOneMore 31 = .ok (.ixor, 1) := by decide +kernel
theorem dX0_bestWithOneMore_32 : decode cX0_bestWithOneMore 32 = .ok (.invokevirtual 68, 3) := by decide +kernel
theorem dX0_bestWithOneMore_35 : decode cX0_bestWithOneMore 35 = .ok (.iload_n 3, 1) := by decide +kernel
theorem dX0_bestWithOneMore_36 : decode cX0_bestWithOneMore 36 = .ok (.iadd, 1) := by decide +kernel
theorem dX0_bestWithOneMore_37 : decode cX0_bestWithOneMore 37 = .ok (.invokestatic 75, 3) := by decide +kernel
theorem dX0_bestWithOneMore_40 : decode cX0_bestWithOneMore 40 = .ok (.istore 4, 2) := by decide +kernel
theorem dX0_bestWithOneMore_42 : decode cX0_bestWithOneMore 42 = .ok (.iload 5, 2) := by decide +kernel
theorem dX0_bestWithOneMore_44 : decode cX0_bestWithOneMore 44 = .ok (.iconst 1, 1) := by decide +kernel
theorem dX0_bestWithOneMore_45 : decode cX0_bestWithOneMore 45 = .ok (.isub, 1) := by decide +kernel
theorem dX0_bestWithOneMore_46 : decode cX0_bestWithOneMore 46 = .ok (.iload_n 1, 1) := by decide +kernel
theorem dX0_bestWithOneMore_47 : decode cX0_bestWithOneMore 47 = .ok (.iand, 1) := by decide +kernel
theorem dX0_bestWithOneMore_48 : decode cX0_bestWithOneMore 48 = .ok (.istore 5, 2) := by decide +kernel
theorem dX0_bestWithOneMore_50 : decode cX0_bestWithOneMore 50 = .ok (.goto (-40), 3) := by decide +kernel
theorem dX0_bestWithOneMore_53 : decode cX0_bestWithOneMore 53 = .ok (.iload 4, 2) := by decide +kernel
theorem dX0_bestWithOneMore_55 : decode cX0_bestWithOneMore 55 = .ok (.ireturn, 1) := by decide +kernel
theorem dX0_markOf_0 : decode cX0_markOf 0 = .ok (.iload_n 1, 1) := by decide +kernel
theorem dX0_markOf_1 : decode cX0_markOf 1 = .ok (.ifCond .lt 19, 3) := by decide +kernel
theorem dX0_markOf_4 : decode cX0_markOf 4 = .ok (.iload_n 1, 1) := by decide +kernel
theorem dX0_markOf_5 : decode cX0_markOf 5 = .ok (.sipush 256, 3) := by decide +kernel
theorem dX0_markOf_8 : decode cX0_markOf 8 = .ok (.if_icmp .ge 12, 3) := by decide +kernel
theorem dX0_markOf_11 : decode cX0_markOf 11 = .ok (.aload_n 0, 1) := by decide +kernel
theorem dX0_markOf_12 : decode cX0_markOf 12 = .ok (.getfield 15, 3) := by decide +kernel
theorem dX0_markOf_15 : decode cX0_markOf 15 = .ok (.iload_n 1, 1) := by decide +kernel
theorem dX0_markOf_16 : decode cX0_markOf 16 = .ok (.iaload, 1) := by decide +kernel
theorem dX0_markOf_17 : decode cX0_markOf 17 = .ok (.goto 4, 3) := by decide +kernel
theorem dX0_markOf_20 : decode cX0_markOf 20 = .ok (.iconst 0, 1) := by decide +kernel
theorem dX0_markOf_21 : decode cX0_markOf 21 = .ok (.ireturn, 1) := by decide +kernel
theorem dX0_worthOf_0 : decode cX0_worthOf 0 = .ok (.iload_n 0, 1) := by decide +kernel
theorem dX0_worthOf_1 : decode cX0_worthOf 1 = .ok (.bipush 64, 2) := by decide +kernel
theorem dX0_worthOf_3 : decode cX0_worthOf 3 = .ok (.iadd, 1) := by decide +kernel
theorem dX0_worthOf_4 : decode cX0_worthOf 4 = .ok (.iconst 1, 1) := by decide +kernel
theorem dX0_worthOf_5 : decode cX0_worthOf 5 = .ok (.isub, 1) := by decide +kernel
theorem dX0_worthOf_6 : decode cX0_worthOf 6 = .ok (.bipush 64, 2) := by decide +kernel
theorem dX0_worthOf_8 : decode cX0_worthOf 8 = .ok (.idiv, 1) := by decide +kernel
theorem dX0_worthOf_9 : decode cX0_worthOf 9 = .ok (.ireturn, 1) := by decide +kernel
theorem dX0_worksOf_0 : decode cX0_worksOf 0 = .ok (.iload_n 0, 1) := by decide +kernel
theorem dX0_worksOf_1 : decode cX0_worksOf 1 = .ok (.invokestatic 80, 3) := by decide +kernel
theorem dX0_worksOf_4 : decode cX0_worksOf 4 = .ok (.bipush 64, 2) := by decide +kernel
theorem dX0_worksOf_6 : decode cX0_worksOf 6 = .ok (.imul, 1) := by decide +kernel
theorem dX0_worksOf_7 : decode cX0_worksOf 7 = .ok (.iload_n 0, 1) := by decide +kernel
theorem dX0_worksOf_8 : decode cX0_worksOf 8 = .ok (.isub, 1) := by decide +kernel
theorem dX0_worksOf_9 : decode cX0_worksOf 9 = .ok (.ireturn, 1) := by decide +kernel
theorem dX0_nearestHalf_0 : decode cX0_nearestHalf 0 = .ok (.iconst 0, 1) := by decide +kernel
theorem dX0_nearestHalf_1 : decode cX0_nearestHalf 1 = .ok (.istore_n 1, 1) := by decide +kernel
theorem dX0_nearestHalf_2 : decode cX0_nearestHalf 2 = .ok (.iconst 1, 1) := by decide +kernel
theorem dX0_nearestHalf_3 : decode cX0_nearestHalf 3 = .ok (.istore_n 2, 1) := by decide +kernel
theorem dX0_nearestHalf_4 : decode cX0_nearestHalf 4 = .ok (.iload_n 2, 1) := by decide +kernel
theorem dX0_nearestHalf_5 : decode cX0_nearestHalf 5 = .ok (.sipush 256, 3) := by decide +kernel
theorem dX0_nearestHalf_8 : decode cX0_nearestHalf 8 = .ok (.if_icmp .ge 32, 3) := by decide +kernel
theorem dX0_nearestHalf_11 : decode cX0_nearestHalf 11 = .ok (.aload_n 0, 1) := by decide +kernel
theorem dX0_nearestHalf_12 : decode cX0_nearestHalf 12 = .ok (.iload_n 2, 1) := by decide +kernel
theorem dX0_nearestHalf_13 : decode cX0_nearestHalf 13 = .ok (.invokevirtual 29, 3) := by decide +kernel
theorem dX0_nearestHalf_16 : decode cX0_nearestHalf 16 = .ok (.ifCond .eq 18, 3) := by decide +kernel
theorem dX0_nearestHalf_19 : decode cX0_nearestHalf 19 = .ok (.aload_n 0, 1) := by decide +kernel
theorem dX0_nearestHalf_20 : decode cX0_nearestHalf 20 = .ok (.iload_n 2, 1) := by decide +kernel
theorem dX0_nearestHalf_21 : decode cX0_nearestHalf 21 = .ok (.invokevirtual 83, 3) := by decide +kernel
theorem dX0_nearestHalf_24 : decode cX0_nearestHalf 24 = .ok (.aload_n 0, 1) := by decide +kernel
theorem dX0_nearestHalf_25 : decode cX0_nearestHalf 25 = .ok (.iload_n 1, 1) := by decide +kernel
theorem dX0_nearestHalf_26 : decode cX0_nearestHalf 26 = .ok (.invokevirtual 83, 3) := by decide +kernel
theorem dX0_nearestHalf_29 : decode cX0_nearestHalf 29 = .ok (.if_icmp .ge 5, 3) := by decide +kernel
theorem dX0_nearestHalf_32 : decode cX0_nearestHalf 32 = .ok (.iload_n 2, 1) := by decide +kernel
theorem dX0_nearestHalf_33 : decode cX0_nearestHalf 33 = .ok (.istore_n 1, 1) := by decide +kernel
theorem dX0_nearestHalf_34 : decode cX0_nearestHalf 34 = .ok (.iinc 2 1, 3) := by decide +kernel
theorem dX0_nearestHalf_37 : decode cX0_nearestHalf 37 = .ok (.goto (-33), 3) := by decide +kernel
theorem dX0_nearestHalf_40 : decode cX0_nearestHalf 40 = .ok (.iload_n 1, 1) := by decide +kernel
theorem dX0_nearestHalf_41 : decode cX0_nearestHalf 41 = .ok (.ireturn, 1) := by decide +kernel
theorem dX0_apartWith_0 : decode cX0_apartWith 0 = .ok (.iconst 2, 1) := by decide +kernel
theorem dX0_apartWith_1 : decode cX0_apartWith 1 = .ok (.aload_n 0, 1) := by decide +kernel
theorem dX0_apartWith_2 : decode cX0_apartWith 2 = .ok (.iload_n 1, 1) := by decide +kernel
theorem dX0_apartWith_3 : decode cX0_apartWith 3 = .ok (.invokevirtual 36, 3) := by decide +kernel
theorem dX0_apartWith_6 : decode cX0_apartWith 6 = .ok (.imul, 1) := by decide +kernel
theorem dX0_apartWith_7 : decode cX0_apartWith 7 = .ok (.aload_n 0, 1) := by decide +kernel
theorem dX0_apartWith_8 : decode cX0_apartWith 8 = .ok (.aload_n 0, 1) := by decide +kernel
theorem dX0_apartWith_9 : decode cX0_apartWith 9 = .ok (.getfield 22, 3) := by decide +kernel
theorem dX0_apartWith_12 : decode cX0_apartWith 12 = .ok (.invokevirtual 36, 3) := by decide +kernel
theorem dX0_apartWith_15 : decode cX0_apartWith 15 = .ok (.isub, 1) := by decide +kernel
theorem dX0_apartWith_16 : decode cX0_apartWith 16 = .ok (.invokestatic 86, 3) := by decide +kernel
theorem dX0_apartWith_19 : decode cX0_apartWith 19 = .ok (.ireturn, 1) := by decide +kernel
theorem dX0_setsOf_0 : decode cX0_setsOf 0 = .ok (.iconst 0, 1) := by decide +kernel
theorem dX0_setsOf_1 : decode cX0_setsOf 1 = .ok (.istore_n 2, 1) := by decide +kernel
theorem dX0_setsOf_2 : decode cX0_setsOf 2 = .ok (.iconst 0, 1) := by decide +kernel
theorem dX0_setsOf_3 : decode cX0_setsOf 3 = .ok (.istore_n 3, 1) := by decide +kernel
theorem dX0_setsOf_4 : decode cX0_setsOf 4 = .ok (.iload_n 3, 1) := by decide +kernel
theorem dX0_setsOf_5 : decode cX0_setsOf 5 = .ok (.sipush 256, 3) := by decide +kernel
theorem dX0_setsOf_8 : decode cX0_setsOf 8 = .ok (.if_icmp .ge 29, 3) := by decide +kernel
theorem dX0_setsOf_11 : decode cX0_setsOf 11 = .ok (.aload_n 0, 1) := by decide +kernel
theorem dX0_setsOf_12 : decode cX0_setsOf 12 = .ok (.iload_n 3, 1) := by decide +kernel
theorem dX0_setsOf_13 : decode cX0_setsOf 13 = .ok (.invokevirtual 29, 3) := by decide +kernel
theorem dX0_setsOf_16 : decode cX0_setsOf 16 = .ok (.ifCond .eq 15, 3) := by decide +kernel
theorem dX0_setsOf_19 : decode cX0_setsOf 19 = .ok (.aload_n 0, 1) := by decide +kernel
theorem dX0_setsOf_20 : decode cX0_setsOf 20 = .ok (.iload_n 3, 1) := by decide +kernel
theorem dX0_setsOf_21 : decode cX0_setsOf 21 = .ok (.invokevirtual 36, 3) := by decide +kernel
theorem dX0_setsOf_24 : decode cX0_setsOf 24 = .ok (.iload_n 1, 1) := by decide +kernel
theorem dX0_setsOf_25 : decode cX0_setsOf 25 = .ok (.if_icmp .ne 6, 3) := by decide +kernel
theorem dX0_setsOf_28 : decode cX0_setsOf 28 = .ok (.iinc 2 1, 3) := by decide +kernel
theorem dX0_setsOf_31 : decode cX0_setsOf 31 = .ok (.iinc 3 1, 3) := by decide +kernel
theorem dX0_setsOf_34 : decode cX0_setsOf 34 = .ok (.goto (-30), 3) := by decide +kernel
theorem dX0_setsOf_37 : decode cX0_setsOf 37 = .ok (.iload_n 2, 1) := by decide +kernel
theorem dX0_setsOf_38 : decode cX0_setsOf 38 = .ok (.ireturn, 1) := by decide +kernel
theorem dX1_init_0 : decode cX1_init 0 = .ok (.aload_n 0, 1) := by decide +kernel
theorem dX1_init_1 : decode cX1_init 1 = .ok (.invokespecial 1, 3) := by decide +kernel
theorem dX1_init_4 : decode cX1_init 4 = .ok (.aload_n 0, 1) := by decide +kernel
theorem dX1_init_5 : decode cX1_init 5 = .ok (.new 7, 3) := by decide +kernel
theorem dX1_init_8 : decode cX1_init 8 = .ok (.dup, 1) := by decide +kernel
theorem dX1_init_9 : decode cX1_init 9 = .ok (.bipush 8, 2) := by decide +kernel
theorem dX1_init_11 : decode cX1_init 11 = .ok (.getstatic 11, 3) := by decide +kernel
theorem dX1_init_14 : decode cX1_init 14 = .ok (.getstatic 15, 3) := by decide +kernel
theorem dX1_init_17 : decode cX1_init 17 = .ok (.invokespecial 18, 3) := by decide +kernel
theorem dX1_init_20 : decode cX1_init 20 = .ok (.putfield 21, 3) := by decide +kernel
theorem dX1_init_23 : decode cX1_init 23 = .ok (.iconst 0, 1) := by decide +kernel
theorem dX1_init_24 : decode cX1_init 24 = .ok (.istore_n 1, 1) := by decide +kernel
theorem dX1_init_25 : decode cX1_init 25 = .ok (.iload_n 1, 1) := by decide +kernel
theorem dX1_init_26 : decode cX1_init 26 = .ok (.bipush 8, 2) := by decide +kernel
theorem dX1_init_28 : decode cX1_init 28 = .ok (.if_icmp .ge 19, 3) := by decide +kernel
theorem dX1_init_31 : decode cX1_init 31 = .ok (.aload_n 0, 1) := by decide +kernel
theorem dX1_init_32 : decode cX1_init 32 = .ok (.getfield 21, 3) := by decide +kernel
theorem dX1_init_35 : decode cX1_init 35 = .ok (.iload_n 1, 1) := by decide +kernel
theorem dX1_init_36 : decode cX1_init 36 = .ok (.iconst 0, 1) := by decide +kernel
theorem dX1_init_37 : decode cX1_init 37 = .ok (.iconst (-1), 1) := by decide +kernel
theorem dX1_init_38 : decode cX1_init 38 = .ok (.invokevirtual 25, 3) := by decide +kernel
theorem dX1_init_41 : decode cX1_init 41 = .ok (.iinc 1 1, 3) := by decide +kernel
theorem dX1_init_44 : decode cX1_init 44 = .ok (.goto (-19), 3) := by decide +kernel
theorem dX1_init_47 : decode cX1_init 47 = .ok (.aload_n 0, 1) := by decide +kernel
theorem dX1_init_48 : decode cX1_init 48 = .ok (.new 7, 3) := by decide +kernel
theorem dX1_init_51 : decode cX1_init 51 = .ok (.dup, 1) := by decide +kernel
theorem dX1_init_52 : decode cX1_init 52 = .ok (.iconst 4, 1) := by decide +kernel
theorem dX1_init_53 : decode cX1_init 53 = .ok (.getstatic 29, 3) := by decide +kernel
theorem dX1_init_56 : decode cX1_init 56 = .ok (.getstatic 32, 3) := by decide +kernel
theorem dX1_init_59 : decode cX1_init 59 = .ok (.invokespecial 18, 3) := by decide +kernel
theorem dX1_init_62 : decode cX1_init 62 = .ok (.putfield 35, 3) := by decide +kernel
theorem dX1_init_65 : decode cX1_init 65 = .ok (.iconst 0, 1) := by decide +kernel
theorem dX1_init_66 : decode cX1_init 66 = .ok (.istore_n 1, 1) := by decide +kernel
theorem dX1_init_67 : decode cX1_init 67 = .ok (.iload_n 1, 1) := by decide +kernel
theorem dX1_init_68 : decode cX1_init 68 = .ok (.iconst 4, 1) := by decide +kernel
theorem dX1_init_69 : decode cX1_init 69 = .ok (.if_icmp .ge 30, 3) := by decide +kernel
theorem dX1_init_72 : decode cX1_init 72 = .ok (.aload_n 0, 1) := by decide +kernel
theorem dX1_init_73 : decode cX1_init 73 = .ok (.getfield 35, 3) := by decide +kernel
theorem dX1_init_76 : decode cX1_init 76 = .ok (.iload_n 1, 1) := by decide +kernel
theorem dX1_init_77 : decode cX1_init 77 = .ok (.iconst 2, 1) := by decide +kernel
theorem dX1_init_78 : decode cX1_init 78 = .ok (.bipush 60, 2) := by decide +kernel
theorem dX1_init_80 : decode cX1_init 80 = .ok (.invokevirtual 25, 3) := by decide +kernel
theorem dX1_init_83 : decode cX1_init 83 = .ok (.aload_n 0, 1) := by decide +kernel
theorem dX1_init_84 : decode cX1_init 84 = .ok (.getfield 35, 3) := by decide +kernel
theorem dX1_init_87 : decode cX1_init 87 = .ok (.iload_n 1, 1) := by decide +kernel
theorem dX1_init_88 : decode cX1_init 88 = .ok (.iconst 3, 1) := by decide +kernel
theorem dX1_init_89 : decode cX1_init 89 = .ok (.iload_n 1, 1) := by decide +kernel
theorem dX1_init_90 : decode cX1_init 90 = .ok (.invokevirtual 25, 3) := by decide +kernel
theorem dX1_init_93 : decode cX1_init 93 = .ok (.iinc 1 1, 3) := by decide +kernel
theorem dX1_init_96 : decode cX1_init 96 = .ok (.goto (-29), 3) := by decide +kernel
theorem dX1_init_99 : decode cX1_init 99 = .ok (.aload_n 0, 1) := by decide +kernel
theorem dX1_init_100 : decode cX1_init 100 = .ok (.new 7, 3) := by decide +kernel
theorem dX1_init_103 : decode cX1_init 103 = .ok (.dup, 1) := by decide +kernel
theorem dX1_init_104 : decode cX1_init 104 = .ok (.bipush 6, 2) := by decide +kernel
theorem dX1_init_106 : decode cX1_init 106 = .ok (.getstatic 38, 3) := by decide +kernel
theorem dX1_init_109 : decode cX1_init 109 = .ok (.getstatic 41, 3) := by decide +kernel
theorem dX1_init_112 : decode cX1_init 112 = .ok (.invokespecial 18, 3) := by decide +kernel
theorem dX1_init_115 : decode cX1_init 115 = .ok (.putfield 44, 3) := by decide +kernel
theorem dX1_init_118 : decode cX1_init 118 = .ok (.iconst 0, 1) := by decide +kernel
theorem dX1_init_119 : decode cX1_init 119 = .ok (.istore_n 1, 1) := by decide +kernel
theorem dX1_init_120 : decode cX1_init 120 = .ok (.iload_n 1, 1) := by decide +kernel
theorem dX1_init_121 : decode cX1_init 121 = .ok (.bipush 6, 2) := by decide +kernel
theorem dX1_init_123 : decode cX1_init 123 = .ok (.if_icmp .ge 20, 3) := by decide +kernel
theorem dX1_init_126 : decode cX1_init 126 = .ok (.aload_n 0, 1) := by decide +kernel
theorem dX1_init_127 : decode cX1_init 127 = .ok (.getfield 44, 3) := by decide +kernel
theorem dX1_init_130 : decode cX1_init 130 = .ok (.iload_n 1, 1) := by decide +kernel
theorem dX1_init_131 : decode cX1_init 131 = .ok (.iconst 1, 1) := by decide +kernel
theorem dX1_init_132 : decode cX1_init 132 = .ok (.ldc 47, 2) := by decide +kernel
theorem dX1_init_134 : decode cX1_init 134 = .ok (.invokevirtual 25, 3) := by decide +kernel
theorem dX1_init_137 : decode cX1_init 137 = .ok (.iinc 1 1, 3) := by decide +kernel
theorem dX1_init_140 : decode cX1_init 140 = .ok (.goto (-20), 3) := by decide +kernel
theorem dX1_init_143 : decode cX1_init 143 = .ok (.aload_n 0, 1) := by decide +kernel
theorem dX1_init_144 : decode cX1_init 144 = .ok (.bipush 10, 2) := by decide +kernel
theorem dX1_init_146 : decode cX1_init 146 = .ok (.newarray .int, 2) := by decide +kernel
theorem dX1_init_148 : decode cX1_init 148 = .ok (.putfield 48, 3) := by decide +kernel
theorem dX1_init_151 : decode cX1_init 151 = .ok (.iconst 0, 1) := by decide +kernel
theorem dX1_init_152 : decode cX1_init 152 = .ok (.istore_n 1, 1) := by decide +kernel
theorem dX1_init_153 : decode cX1_init 153 = .ok (.iload_n 1, 1) := by decide +kernel
theorem dX1_init_154 : decode cX1_init 154 = .ok (.bipush 10, 2) := by decide +kernel
theorem dX1_init_156 : decode cX1_init 156 = .ok (.if_icmp .ge 16, 3) := by decide +kernel
theorem dX1_init_159 : decode cX1_init 159 = .ok (.aload_n 0, 1) := by decide +kernel
theorem dX1_init_160 : decode cX1_init 160 = .ok (.getfield 48, 3) := by decide +kernel
theorem dX1_init_163 : decode cX1_init 163 = .ok (.iload_n 1, 1) := by decide +kernel
theorem dX1_init_164 : decode cX1_init 164 = .ok (.iconst (-1), 1) := by decide +kernel
theorem dX1_init_165 : decode cX1_init 165 = .ok (.iastore, 1) := by decide +kernel
theorem dX1_init_166 : decode cX1_init 166 = .ok (.iinc 1 1, 3) := by decide +kernel
theorem dX1_init_169 : decode cX1_init 169 = .ok (.goto (-16), 3) := by decide +kernel
theorem dX1_init_172 : decode cX1_init 172 = .ok (.aload_n 0, 1) := by decide +kernel
theorem dX1_init_173 : decode cX1_init 173 = .ok (.iconst 0, 1) := by decide +kernel
theorem dX1_init_174 : decode cX1_init 174 = .ok (.putfield 51, 3) := by decide +kernel
theorem dX1_init_177 : decode cX1_init 177 = .ok (.aload_n 0, 1) := by decide +kernel
theorem dX1_init_178 : decode cX1_init 178 = .ok (.iconst 0, 1) := by decide +kernel
theorem dX1_init_179 : decode cX1_init 179 = .ok (.putfield 55, 3) := by decide +kernel
theorem dX1_init_182 : decode cX1_init 182 = .ok (.aload_n 0, 1) := by decide +kernel
theorem dX1_init_183 : decode cX1_init 183 = .ok (.iconst 1, 1) := by decide +kernel
theorem dX1_init_184 : decode cX1_init 184 = .ok (.putfield 58, 3) := by decide +kernel
theorem dX1_init_187 : decode cX1_init 187 = .ok (.return_, 1) := by decide +kernel
theorem dX1_become_0 : decode cX1_become 0 = .ok (.aload_n 1, 1) := by decide +kernel
theorem dX1_become_1 : decode cX1_become 1 = .ok (.ifnonnull 4, 3) := by decide +kernel
theorem dX1_become_4 : decode cX1_become 4 = .ok (.return_, 1) := by decide +kernel
theorem dX1_become_5 : decode cX1_become 5 = .ok (.aload_n 0, 1) := by decide +kernel
theorem dX1_become_6 : decode cX1_become 6 = .ok (.getfield 21, 3) := by decide +kernel
theorem dX1_become_9 : decode cX1_become 9 = .ok (.aload_n 1, 1) := by decide +kernel
theorem dX1_become_10 : decode cX1_become 10 = .ok (.getfield 21, 3) := by decide +kernel
theorem dX1_become_13 : decode cX1_become 13 = .ok (.invokevirtual 61, 3) := by decide +kernel
theorem dX1_become_16 : decode cX1_become 16 = .ok (.aload_n 0, 1) := by decide +kernel
theorem dX1_become_17 : decode cX1_become 17 = .ok (.getfield 35, 3) := by decide +kernel
theorem dX1_become_20 : decode cX1_become 20 = .ok (.aload_n 1, 1) := by decide +kernel
theorem dX1_become_21 : decode cX1_become 21 = .ok (.getfield 35, 3) := by decide +kernel
theorem dX1_become_24 : decode cX1_become 24 = .ok (.invokevirtual 61, 3) := by decide +kernel
theorem dX1_become_27 : decode cX1_become 27 = .ok (.aload_n 0, 1) := by decide +kernel
theorem dX1_become_28 : decode cX1_become 28 = .ok (.getfield 44, 3) := by decide +kernel
theorem dX1_become_31 : decode cX1_become 31 = .ok (.aload_n 1, 1) := by decide +kernel
theorem dX1_become_32 : decode cX1_become 32 = .ok (.getfield 44, 3) := by decide +kernel
theorem dX1_become_35 : decode cX1_become 35 = .ok (.invokevirtual 61, 3) := by decide +kernel
theorem dX1_become_38 : decode cX1_become 38 = .ok (.aload_n 1, 1) := by decide +kernel
theorem dX1_become_39 : decode cX1_become 39 = .ok (.getfield 48, 3) := by decide +kernel
theorem dX1_become_42 : decode cX1_become 42 = .ok (.aload_n 0, 1) := by decide +kernel
theorem dX1_become_43 : decode cX1_become 43 = .ok (.getfield 48, 3) := by decide +kernel
theorem dX1_become_46 : decode cX1_become 46 = .ok (.invokestatic 65, 3) := by decide +kernel
theorem dX1_become_49 : decode cX1_become 49 = .ok (.aload_n 0, 1) := by decide +kernel
theorem dX1_become_50 : decode cX1_become 50 = .ok (.aload_n 1, 1) := by decide +kernel
theorem dX1_become_51 : decode cX1_become 51 = .ok (.getfield 51, 3) := by decide +kernel
theorem dX1_become_54 : decode cX1_become 54 = .ok (.putfield 51, 3) := by decide +kernel
theorem dX1_become_57 : decode cX1_become 57 = .ok (.aload_n 0, 1) := by decide +kernel
theorem dX1_become_58 : decode cX1_become 58 = .ok (.aload_n 1, 1) := by decide +kernel
theorem dX1_become_59 : decode cX1_become 59 = .ok (.getfield 55, 3) := by decide +kernel
theorem dX1_become_62 : decode cX1_become 62 = .ok (.putfield 55, 3) := by decide +kernel
theorem dX1_become_65 : decode cX1_become 65 = .ok (.aload_n 0, 1) := by decide +kernel
theorem dX1_become_66 : decode cX1_become 66 = .ok (.aload_n 1, 1) := by decide +kernel
theorem dX1_become_67 : decode cX1_become 67 = .ok (.getfield 58, 3) := by decide +kernel
theorem dX1_become_70 : decode cX1_become 70 = .ok (.putfield 58, 3) := by decide +kernel
theorem dX1_become_73 : decode cX1_become 73 = .ok (.return_, 1) := by decide +kernel
theorem dX1_hasEgg_0 : decode cX1_hasEgg 0 = .ok (.aload_n 0, 1) := by decide +kernel
theorem dX1_hasEgg_1 : decode cX1_hasEgg 1 = .ok (.getfield 21, 3) := by decide +kernel
theorem dX1_hasEgg_4 : decode cX1_hasEgg 4 = .ok (.iload_n 1, 1) := by decide +kernel
theorem dX1_hasEgg_5 : decode cX1_hasEgg 5 = .ok (.invokevirtual 71, 3) := by decide +kernel
theorem dX1_hasEgg_8 : decode cX1_hasEgg 8 = .ok (.ifCond .eq 20, 3) := by decide +kernel
theorem dX1_hasEgg_11 : decode cX1_hasEgg 11 = .ok (.aload_n 0, 1) := by decide +kernel
theorem dX1_hasEgg_12 : decode cX1_hasEgg 12 = .ok (.getfield 21, 3) := by decide +kernel
theorem dX1_hasEgg_15 : decode cX1_hasEgg 15 = .ok (.iload_n 1, 1) := by decide +kernel
theorem dX1_hasEgg_16 : decode cX1_hasEgg 16 = .ok (.iconst 0, 1) := by decide +kernel
theorem dX1_hasEgg_17 : decode cX1_hasEgg 17 = .ok (.invokevirtual 75, 3) := by decide +kernel
theorem dX1_hasEgg_20 : decode cX1_hasEgg 20 = .ok (.iconst (-1), 1) := by decide +kernel
theorem dX1_hasEgg_21 : decode cX1_hasEgg 21 = .ok (.if_icmp .eq 7, 3) := by decide +kernel
theorem dX1_hasEgg_24 : decode cX1_hasEgg 24 = .ok (.iconst 1, 1) := by decide +kernel
theorem dX1_hasEgg_25 : decode cX1_hasEgg 25 = .ok (.goto 4, 3) := by decide +kernel
theorem dX1_hasEgg_28 : decode cX1_hasEgg 28 = .ok (.iconst 0, 1) := by decide +kernel
theorem dX1_hasEgg_29 : decode cX1_hasEgg 29 = .ok (.ireturn, 1) := by decide +kernel
theorem dX1_emptyPlace_0 : decode cX1_emptyPlace 0 = .ok (.iconst 0, 1) := by decide +kernel
theorem dX1_emptyPlace_1 : decode cX1_emptyPlace 1 = .ok (.istore_n 1, 1) := by decide +kernel
theorem dX1_emptyPlace_2 : decode cX1_emptyPlace 2 = .ok (.iload_n 1, 1) := by decide +kernel
theorem dX1_emptyPlace_3 : decode cX1_emptyPlace 3 = .ok (.bipush 8, 2) := by decide +kernel
theorem dX1_emptyPlace_5 : decode cX1_emptyPlace 5 = .ok (.if_icmp .ge 19, 3) := by decide +kernel
theorem dX1_emptyPlace_8 : decode cX1_emptyPlace 8 = .ok (.aload_n 0, 1) := by decide +kernel
theorem dX1_emptyPlace_9 : decode cX1_emptyPlace 9 = .ok (.iload_n 1, 1) := by decide +kernel
theorem dX1_emptyPlace_10 : decode cX1_emptyPlace 10 = .ok (.invokevirtual 79, 3) := by decide +kernel
theorem dX1_emptyPlace_13 : decode cX1_emptyPlace 13 = .ok (.ifCond .ne 5, 3) := by decide +kernel
theorem dX1_emptyPlace_16 : decode cX1_emptyPlace 16 = .ok (.iload_n 1, 1) := by decide +kernel
theorem dX1_emptyPlace_17 : decode cX1_emptyPlace 17 = .ok (.ireturn, 1) := by decide +kernel
theorem dX1_emptyPlace_18 : decode cX1_emptyPlace 18 = .ok (.iinc 1 1, 3) := by decide +kernel
theorem dX1_emptyPlace_21 : decode cX1_emptyPlace 21 = .ok (.goto (-19), 3) := by decide +kernel
theorem dX1_emptyPlace_24 : decode cX1_emptyPlace 24 = .ok (.iconst (-1), 1) := by decide +kernel
theorem dX1_emptyPlace_25 : decode cX1_emptyPlace 25 = .ok (.ireturn, 1) := by decide +kernel
theorem dX1_places_0 : decode cX1_places 0 = .ok (.iconst 0, 1) := by decide +kernel
theorem dX1_places_1 : decode cX1_places 1 = .ok (.istore_n 1, 1) := by decide +kernel
theorem dX1_places_2 : decode cX1_places 2 = .ok (.iconst 0, 1) := by decide +kernel
theorem dX1_places_3 : decode cX1_places 3 = .ok (.istore_n 2, 1) := by decide +kernel
theorem dX1_places_4 : decode cX1_places 4 = .ok (.iload_n 2, 1) := by decide +kernel
theorem dX1_places_5 : decode cX1_places 5 = .ok (.bipush 8, 2) := by decide +kernel
theorem dX1_places_7 : decode cX1_places 7 = .ok (.if_icmp .ge 23, 3) := by decide +kernel
theorem dX1_places_10 : decode cX1_places 10 = .ok (.aload_n 0, 1) := by decide +kernel
theorem dX1_places_11 : decode cX1_places 11 = .ok (.iload_n 2, 1) := by decide +kernel
theorem dX1_places_12 : decode cX1_places 12 = .ok (.invokevirtual 79, 3) := by decide +kernel
theorem dX1_places_15 : decode cX1_places 15 = .ok (.ifCond .eq 9, 3) := by decide +kernel
theorem dX1_places_18 : decode cX1_places 18 = .ok (.iload_n 1, 1) := by decide +kernel
theorem dX1_places_19 : decode cX1_places 19 = .ok (.iconst 1, 1) := by decide +kernel
theorem dX1_places_20 : decode cX1_places 20 = .ok (.iload_n 2, 1) := by decide +kernel
theorem dX1_places_21 : decode cX1_places 21 = .ok (.ishl, 1) := by decide +kernel
theorem dX1_places_22 : decode cX1_places 22 = .ok (.ior, 1) := by decide +kernel
theorem dX1_places_23 : decode cX1_places 23 = .ok (.istore_n 1, 1) := by decide +kernel
theorem dX1_places_24 : decode cX1_places 24 = .ok (.iinc 2 1, 3) := by decide +kernel
theorem dX1_places_27 : decode cX1_places 27 = .ok (.goto (-23), 3) := by decide +kernel
theorem dX1_places_30 : decode cX1_places 30 = .ok (.iload_n 1, 1) := by decide +kernel
theorem dX1_places_31 : decode cX1_places 31 = .ok (.ireturn, 1) := by decide +kernel
theorem dX1_layAt_0 : decode cX1_layAt 0 = .ok (.aload_n 0, 1) := by decide +kernel
theorem dX1_layAt_1 : decode cX1_layAt 1 = .ok (.getfield 21, 3) := by decide +kernel
theorem dX1_layAt_4 : decode cX1_layAt 4 = .ok (.iload_n 1, 1) := by decide +kernel
theorem dX1_layAt_5 : decode cX1_layAt 5 = .ok (.iconst 0, 1) := by decide +kernel
theorem dX1_layAt_6 : decode cX1_layAt 6 = .ok (.iload_n 2, 1) := by decide +kernel
theorem dX1_layAt_7 : decode cX1_layAt 7 = .ok (.invokevirtual 25, 3) := by decide +kernel
theorem dX1_layAt_10 : decode cX1_layAt 10 = .ok (.aload_n 0, 1) := by decide +kernel
theorem dX1_layAt_11 : decode cX1_layAt 11 = .ok (.getfield 21, 3) := by decide +kernel
theorem dX1_layAt_14 : decode cX1_layAt 14 = .ok (.iload_n 1, 1) := by decide +kernel
theorem dX1_layAt_15 : decode cX1_layAt 15 = .ok (.iconst 1, 1) := by decide +kernel
theorem dX1_layAt_16 : decode cX1_layAt 16 = .ok (.iload_n 3, 1) := by decide +kernel
theorem dX1_layAt_17 : decode cX1_layAt 17 = .ok (.invokevirtual 25, 3) := by decide +kernel
theorem dX1_layAt_20 : decode cX1_layAt 20 = .ok (.aload_n 0, 1) := by decide +kernel
theorem dX1_layAt_21 : decode cX1_layAt 21 = .ok (.getfield 21, 3) := by decide +kernel
theorem dX1_layAt_24 : decode cX1_layAt 24 = .ok (.iload_n 1, 1) := by decide +kernel
theorem dX1_layAt_25 : decode cX1_layAt 25 = .ok (.iconst 2, 1) := by decide +kernel
theorem dX1_layAt_26 : decode cX1_layAt 26 = .ok (.iload 4, 2) := by decide +kernel
theorem dX1_layAt_28 : decode cX1_layAt 28 = .ok (.invokevirtual 25, 3) := by decide +kernel
theorem dX1_layAt_31 : decode cX1_layAt 31 = .ok (.aload_n 0, 1) := by decide +kernel
theorem dX1_layAt_32 : decode cX1_layAt 32 = .ok (.getfield 21, 3) := by decide +kernel
theorem dX1_layAt_35 : decode cX1_layAt 35 = .ok (.iload_n 1, 1) := by decide +kernel
theorem dX1_layAt_36 : decode cX1_layAt 36 = .ok (.iconst 3, 1) := by decide +kernel
theorem dX1_layAt_37 : decode cX1_layAt 37 = .ok (.iload 5, 2) := by decide +kernel
theorem dX1_layAt_39 : decode cX1_layAt 39 = .ok (.invokevirtual 25, 3) := by decide +kernel
theorem dX1_layAt_42 : decode cX1_layAt 42 = .ok (.return_, 1) := by decide +kernel
theorem dX1_empty_0 : decode cX1_empty 0 = .ok (.aload_n 0, 1) := by decide +kernel
theorem dX1_empty_1 : decode cX1_empty 1 = .ok (.getfield 21, 3) := by decide +kernel
theorem dX1_empty_4 : decode cX1_empty 4 = .ok (.iload_n 1, 1) := by decide +kernel
theorem dX1_empty_5 : decode cX1_empty 5 = .ok (.iconst 0, 1) := by decide +kernel
theorem dX1_empty_6 : decode cX1_empty 6 = .ok (.iconst (-1), 1) := by decide +kernel
theorem dX1_empty_7 : decode cX1_empty 7 = .ok (.invokevirtual 25, 3) := by decide +kernel
theorem dX1_empty_10 : decode cX1_empty 10 = .ok (.return_, 1) := by decide +kernel
theorem dX1_minutesOf_0 : decode cX1_minutesOf 0 = .ok (.aload_n 0, 1) := by decide +kernel
theorem dX1_minutesOf_1 : decode cX1_minutesOf 1 = .ok (.iload_n 1, 1) := by decide +kernel
theorem dX1_minutesOf_2 : decode cX1_minutesOf 2 = .ok (.invokevirtual 79, 3) := by decide +kernel
theorem dX1_minutesOf_5 : decode cX1_minutesOf 5 = .ok (.ifCond .ne 5, 3) := by decide +kernel
theorem dX1_minutesOf_8 : decode cX1_minutesOf 8 = .ok (.iconst 0, 1) := by decide +kernel
theorem dX1_minutesOf_9 : decode cX1_minutesOf 9 = .ok (.ireturn, 1) := by decide +kernel
theorem dX1_minutesOf_10 : decode cX1_minutesOf 10 = .ok (.aload_n 0, 1) := by decide +kernel
theorem dX1_minutesOf_11 : decode cX1_minutesOf 11 = .ok (.iload_n 1, 1) := by decide +kernel
theorem dX1_minutesOf_12 : decode cX1_minutesOf 12 = .ok (.aload_n 0, 1) := by decide +kernel
theorem dX1_minutesOf_13 : decode cX1_minutesOf 13 = .ok (.getfield 21, 3) := by decide +kernel
theorem dX1_minutesOf_16 : decode cX1_minutesOf 16 = .ok (.iload_n 1, 1) := by decide +kernel
theorem dX1_minutesOf_17 : decode cX1_minutesOf 17 = .ok (.iconst 0, 1) := by decide +kernel
theorem dX1_minutesOf_18 : decode cX1_minutesOf 18 = .ok (.invokevirtual 75, 3) := by decide +kernel
theorem dX1_minutesOf_21 : decode cX1_minutesOf 21 = .ok (.aload_n 0, 1) := by decide +kernel
theorem dX1_minutesOf_22 : decode cX1_minutesOf 22 = .ok (.getfield 21, 3) := by decide +kernel
theorem dX1_minutesOf_25 : decode cX1_minutesOf 25 = .ok (.iload_n 1, 1) := by decide +kernel
theorem dX1_minutesOf_26 : decode cX1_minutesOf 26 = .ok (.iconst 2, 1) := by decide +kernel
theorem dX1_minutesOf_27 : decode cX1_minutesOf 27 = .ok (.invokevirtual 75, 3) := by decide +kernel
theorem dX1_minutesOf_30 : decode cX1_minutesOf 30 = .ok (.iconst 0, 1) := by decide +kernel
theorem dX1_minutesOf_31 : decode cX1_minutesOf 31 = .ok (.invokevirtual 82, 3) := by decide +kernel
theorem dX1_minutesOf_34 : decode cX1_minutesOf 34 = .ok (.ireturn, 1) := by decide +kernel
theorem dX1_minutesBehind_0 : decode cX1_minutesBehind 0 = .ok (.iload_n 2, 1) := by decide +kernel
theorem dX1_minutesBehind_1 : decode cX1_minutesBehind 1 = .ok (.iload_n 3, 1) := by decide +kernel
theorem dX1_minutesBehind_2 : decode cX1_minutesBehind 2 = .ok (.iload 4, 2) := by decide +kernel
theorem dX1_minutesBehind_4 : decode cX1_minutesBehind 4 = .ok (.invokestatic 86, 3) := by decide +kernel
theorem dX1_minutesBehind_7 : decode cX1_minutesBehind 7 = .ok (.ifCond .ne 5, 3) := by decide +kernel
theorem dX1_minutesBehind_10 : decode cX1_minutesBehind 10 = .ok (.iconst 0, 1) := by decide +kernel
theorem dX1_minutesBehind_11 : decode cX1_minutesBehind 11 = .ok (.ireturn, 1) := by decide +kernel
theorem dX1_minutesBehind_12 : decode cX1_minutesBehind 12 = .ok (.iload_n 2, 1) := by decide +kernel
theorem dX1_minutesBehind_13 : decode cX1_minutesBehind 13 = .ok (.aload_n 0, 1) := by decide +kernel
theorem dX1_minutesBehind_14 : decode cX1_minutesBehind 14 = .ok (.getfield 21, 3) := by decide +kernel
theorem dX1_minutesBehind_17 : decode cX1_minutesBehind 17 = .ok (.iload_n 1, 1) := by decide +kernel
theorem dX1_minutesBehind_18 : decode cX1_minutesBehind 18 = .ok (.iconst 1, 1) := by decide +kernel
theorem dX1_minutesBehind_19 : decode cX1_minutesBehind 19 = .ok (.invokevirtual 75, 3) := by decide +kernel
theorem dX1_minutesBehind_22 : decode cX1_minutesBehind 22 = .ok (.iload_n 3, 1) := by decide +kernel
theorem dX1_minutesBehind_23 : decode cX1_minutesBehind 23 = .ok (.iload 4, 2) := by decide +kernel
theorem dX1_minutesBehind_25 : decode cX1_minutesBehind 25 = .ok (.iadd, 1) := by decide +kernel
theorem dX1_minutesBehind_26 : decode cX1_minutesBehind 26 = .ok (.aload_n 0, 1) := by decide +kernel
theorem dX1_minutesBehind_27 : decode cX1_minutesBehind 27 = .ok (.getfield 51, 3) := by decide +kernel
theorem dX1_minutesBehind_30 : decode cX1_minutesBehind 30 = .ok (.iload 4, 2) := by decide +kernel
theorem dX1_minutesBehind_32 : decode cX1_minutesBehind 32 = .ok (.iadd, 1) := by decide +kernel
theorem dX1_minutesBehind_33 : decode cX1_minutesBehind 33 = .ok (.ldc 47, 2) := by decide +kernel
theorem dX1_minutesBehind_35 : decode cX1_minutesBehind 35 = .ok (.invokestatic 92, 3) := by decide +kernel
theorem dX1_minutesBehind_38 : decode cX1_minutesBehind 38 = .ok (.invokestatic 97, 3) := by decide +kernel
theorem dX1_minutesBehind_41 : decode cX1_minutesBehind 41 = .ok (.ireturn, 1) := by decide +kernel
theorem dX1_allMinutes_0 : decode cX1_allMinutes 0 = .ok (.iconst 0, 1) := by decide +kernel
theorem dX1_allMinutes_1 : decode cX1_allMinutes 1 = .ok (.istore_n 1, 1) := by decide +kernel
theorem dX1_allMinutes_2 : decode cX1_allMinutes 2 = .ok (.iconst 0, 1) := by decide +kernel
theorem dX1_allMinutes_3 : decode cX1_allMinutes 3 = .ok (.istore_n 2, 1) := by decide +kernel
theorem dX1_allMinutes_4 : decode cX1_allMinutes 4 = .ok (.iload_n 2, 1) := by decide +kernel
theorem dX1_allMinutes_5 : decode cX1_allMinutes 5 = .ok (.bipush 8, 2) := by decide +kernel
theorem dX1_allMinutes_7 : decode cX1_allMinutes 7 = .ok (.if_icmp .ge 17, 3) := by decide +kernel
theorem dX1_allMinutes_10 : decode cX1_allMinutes 10 = .ok (.iload_n 1, 1) := by decide +kernel
theorem dX1_allMinutes_11 : decode cX1_allMinutes 11 = .ok (.aload_n 0, 1) := by decide +kernel
theorem dX1_allMinutes_12 : decode cX1_allMinutes 12 = .ok (.iload_n 2, 1) := by decide +kernel
theorem dX1_allMinutes_13 : decode cX1_allMinutes 13 = .ok (.invokevirtual 100, 3) := by decide +kernel
theorem dX1_allMinutes_16 : decode cX1_allMinutes 16 = .ok (.iadd, 1) := by decide +kernel
theorem dX1_allMinutes_17 : decode cX1_allMinutes 17 = .ok (.istore_n 1, 1) := by decide +kernel
theorem dX1_allMinutes_18 : decode cX1_allMinutes 18 = .ok (.iinc 2 1, 3) := by decide +kernel
theorem dX1_allMinutes_21 : decode cX1_allMinutes 21 = .ok (.goto (-17), 3) := by decide +kernel
theorem dX1_allMinutes_24 : decode cX1_allMinutes 24 = .ok (.iload_n 1, 1) := by decide +kernel
theorem dX1_allMinutes_25 : decode cX1_allMinutes 25 = .ok (.ireturn, 1) := by decide +kernel
theorem dX1_minutesIn_0 : decode cX1_minutesIn 0 = .ok (.iconst 0, 1) := by decide +kernel
theorem dX1_minutesIn_1 : decode cX1_minutesIn 1 = .ok (.istore_n 2, 1) := by decide +kernel
theorem dX1_minutesIn_2 : decode cX1_minutesIn 2 = .ok (.iconst 0, 1) := by decide +kernel
theorem dX1_minutesIn_3 : decode cX1_minutesIn 3 = .ok (.istore_n 3, 1) := by decide +kernel
theorem dX1_minutesIn_4 : decode cX1_minutesIn 4 = .ok (.iload_n 3, 1) := by decide +kernel
theorem dX1_minutesIn_5 : decode cX1_minutesIn 5 = .ok (.bipush 8, 2) := by decide +kernel
theorem dX1_minutesIn_7 : decode cX1_minutesIn 7 = .ok (.if_icmp .ge 30, 3) := by decide +kernel
theorem dX1_minutesIn_10 : decode cX1_minutesIn 10 = .ok (.aload_n 0, 1) := by decide +kernel
theorem dX1_minutesIn_11 : decode cX1_minutesIn 11 = .ok (.getfield 21, 3) := by decide +kernel
theorem dX1_minutesIn_14 : decode cX1_minutesIn 14 = .ok (.iload_n 3, 1) := by decide +kernel
theorem dX1_minutesIn_15 : decode cX1_minutesIn 15 = .ok (.iconst 3, 1) := by decide +kernel
theorem dX1_minutesIn_16 : decode cX1_minutesIn 16 = .ok (.invokevirtual 75, 3) := by decide +kernel
theorem dX1_minutesIn_19 : decode cX1_minutesIn 19 = .ok (.iload_n 1, 1) := by decide +kernel
theorem dX1_minutesIn_20 : decode cX1_minutesIn 20 = .ok (.if_icmp .ne 11, 3) := by decide +kernel
theorem dX1_minutesIn_23 : decode cX1_minutesIn 23 = .ok (.iload_n 2, 1) := by decide +kernel
theorem dX1_minutesIn_24 : decode cX1_minutesIn 24 = .ok (.aload_n 0, 1) := by decide +kernel
theorem dX1_minutesIn_25 : decode cX1_minutesIn 25 = .ok (.iload_n 3, 1) := by decide +kernel
theorem dX1_minutesIn_26 : decode cX1_minutesIn 26 = .ok (.invokevirtual 100, 3) := by decide +kernel
theorem dX1_minutesIn_29 : decode cX1_minutesIn 29 = .ok (.iadd, 1) := by decide +kernel
theorem dX1_minutesIn_30 : decode cX1_minutesIn 30 = .ok (.istore_n 2, 1) := by decide +kernel
theorem dX1_minutesIn_31 : decode cX1_minutesIn 31 = .ok (.iinc 3 1, 3) := by decide +kernel
theorem dX1_minutesIn_34 : decode cX1_minutesIn 34 = .ok (.goto (-30), 3) := by decide +kernel
theorem dX1_minutesIn_37 : decode cX1_minutesIn 37 = .ok (.iload_n 2, 1) := by decide +kernel
theorem dX1_minutesIn_38 : decode cX1_minutesIn 38 = .ok (.ireturn, 1) := by decide +kernel
theorem dX1_lacks_0 : decode cX1_lacks 0 = .ok (.aload_n 0, 1) := by decide +kernel
theorem dX1_lacks_1 : decode cX1_lacks 1 = .ok (.getfield 44, 3) := by decide +kernel
theorem dX1_lacks_4 : decode cX1_lacks 4 = .ok (.iload_n 1, 1) := by decide +kernel
theorem dX1_lacks_5 : decode cX1_lacks 5 = .ok (.iconst 0, 1) := by decide +kernel
theorem dX1_lacks_6 : decode cX1_lacks 6 = .ok (.invokevirtual 75, 3) := by decide +kernel
theorem dX1_lacks_9 : decode cX1_lacks 9 = .ok (.aload_n 0, 1) := by decide +kernel
theorem dX1_lacks_10 : decode cX1_lacks 10 = .ok (.getfield 44, 3) := by decide +kernel
theorem dX1_lacks_13 : decode cX1_lacks 13 = .ok (.iload_n 1, 1) := by decide +kernel
theorem dX1_lacks_14 : decode cX1_lacks 14 = .ok (.iconst 3, 1) := by decide +kernel
theorem dX1_lacks_15 : decode cX1_lacks 15 = .ok (.invokevirtual 75, 3) := by decide +kernel
theorem dX1_lacks_18 : decode cX1_lacks 18 = .ok (.isub, 1) := by decide +kernel
theorem dX1_lacks_19 : decode cX1_lacks 19 = .ok (.ireturn, 1) := by decide +kernel
theorem dX1_isDone_0 : decode cX1_isDone 0 = .ok (.aload_n 0, 1) := by decide +kernel
theorem dX1_isDone_1 : decode cX1_isDone 1 = .ok (.iload_n 1, 1) := by decide +kernel
theorem dX1_isDone_2 : decode cX1_isDone 2 = .ok (.invokevirtual 104, 3) := by decide +kernel
theorem dX1_isDone_5 : decode cX1_isDone 5 = .ok (.ifCond .gt 7, 3) := by decide +kernel
theorem dX1_isDone_8 : decode cX1_isDone 8 = .ok (.iconst 1, 1) := by decide +kernel
theorem dX1_isDone_9 : decode cX1_isDone 9 = .ok (.goto 4, 3) := by decide +kernel
theorem dX1_isDone_12 : decode cX1_isDone 12 = .ok (.iconst 0, 1) := by decide +kernel
theorem dX1_isDone_13 : decode cX1_isDone 13 = .ok (.ireturn, 1) := by decide +kernel
theorem dX1_isInTime_0 : decode cX1_isInTime 0 = .ok (.aload_n 0, 1) := by decide +kernel
theorem dX1_isInTime_1 : decode cX1_isInTime 1 = .ok (.getfield 51, 3) := by decide +kernel
theorem dX1_isInTime_4 : decode cX1_isInTime 4 = .ok (.aload_n 0, 1) := by decide +kernel
theorem dX1_isInTime_5 : decode cX1_isInTime 5 = .ok (.getfield 44, 3) := by decide +kernel
theorem dX1_isInTime_8 : decode cX1_isInTime 8 = .ok (.iload_n 1, 1) := by decide +kernel
theorem dX1_isInTime_9 : decode cX1_isInTime 9 = .ok (.iconst 1, 1) := by decide +kernel
theorem dX1_isInTime_10 : decode cX1_isInTime 10 = .ok (.invokevirtual 75, 3) := by decide +kernel
theorem dX1_isInTime_13 : decode cX1_isInTime 13 = .ok (.if_icmp .gt 7, 3) := by decide +kernel
theorem dX1_isInTime_16 : decode cX1_isInTime 16 = .ok (.iconst 1, 1) := by decide +kernel
theorem dX1_isInTime_17 : decode cX1_isInTime 17 = .ok (.goto 4, 3) := by decide +kernel
theorem dX1_isInTime_20 : decode cX1_isInTime 20 = .ok (.iconst 0, 1) := by decide +kernel
theorem dX1_isInTime_21 : decode cX1_isInTime 21 = .ok (.ireturn, 1) := by decide +kernel
theorem dX1_doneWorks_0 : decode cX1_doneWorks 0 = .ok (.iconst 0, 1) := by decide +kernel
theorem dX1_doneWorks_1 : decode cX1_doneWorks 1 = .ok (.istore_n 1, 1) := by decide +kernel
theorem dX1_doneWorks_2 : decode cX1_doneWorks 2 = .ok (.iconst 0, 1) := by decide +kernel
theorem dX1_doneWorks_3 : decode cX1_doneWorks 3 = .ok (.istore_n 2, 1) := by decide +kernel
theorem dX1_doneWorks_4 : decode cX1_doneWorks 4 = .ok (.iload_n 2, 1) := by decide +kernel
theorem dX1_doneWorks_5 : decode cX1_doneWorks 5 = .ok (.bipush 6, 2) := by decide +kernel
theorem dX1_doneWorks_7 : decode cX1_doneWorks 7 = .ok (.if_icmp .ge 23, 3) := by decide +kernel
theorem dX1_doneWorks_10 : decode cX1_doneWorks 10 = .ok (.aload_n 0, 1) := by decide +kernel
theorem dX1_doneWorks_11 : decode cX1_doneWorks 11 = .ok (.iload_n 2, 1) := by decide +kernel
theorem dX1_doneWorks_12 : decode cX1_doneWorks 12 = .ok (.invokevirtual 107, 3) := by decide +kernel
theorem dX1_doneWorks_15 : decode cX1_doneWorks 15 = .ok (.ifCond .eq 9, 3) := by decide +kernel
theorem dX1_doneWorks_18 : decode cX1_doneWorks 18 = .ok (.iload_n 1, 1) := by decide +kernel
theorem dX1_doneWorks_19 : decode cX1_doneWorks 19 = .ok (.iconst 1, 1) := by decide +kernel
theorem dX1_doneWorks_20 : decode cX1_doneWorks 20 = .ok (.iload_n 2, 1) := by decide +kernel
theorem dX1_doneWorks_21 : decode cX1_doneWorks 21 = .ok (.ishl, 1) := by decide +kernel
theorem dX1_doneWorks_22 : decode cX1_doneWorks 22 = .ok (.ior, 1) := by decide +kernel
theorem dX1_doneWorks_23 : decode cX1_doneWorks 23 = .ok (.istore_n 1, 1) := by decide +kernel
theorem dX1_doneWorks_24 : decode cX1_doneWorks 24 = .ok (.iinc 2 1, 3) := by decide +kernel
theorem dX1_doneWorks_27 : decode cX1_doneWorks 27 = .ok (.goto (-23), 3) := by decide +kernel
theorem dX1_doneWorks_30 : decode cX1_doneWorks 30 = .ok (.iload_n 1, 1) := by decide +kernel
theorem dX1_doneWorks_31 : decode cX1_doneWorks 31 = .ok (.ireturn, 1) := by decide +kernel
theorem dX1_spendOn_0 : decode cX1_spendOn 0 = .ok (.aload_n 0, 1) := by decide +kernel
theorem dX1_spendOn_1 : decode cX1_spendOn 1 = .ok (.getfield 44, 3) := by decide +kernel
theorem dX1_spendOn_4 : decode cX1_spendOn 4 = .ok (.iload_n 2, 1) := by decide +kernel
theorem dX1_spendOn_5 : decode cX1_spendOn 5 = .ok (.iconst 3, 1) := by decide +kernel
theorem dX1_spendOn_6 : decode cX1_spendOn 6 = .ok (.invokevirtual 75, 3) := by decide +kernel
theorem dX1_spendOn_9 : decode cX1_spendOn 9 = .ok (.aload_n 0, 1) := by decide +kernel
theorem dX1_spendOn_10 : decode cX1_spendOn 10 = .ok (.iload_n 1, 1) := by decide +kernel
theorem dX1_spendOn_11 : decode cX1_spendOn 11 = .ok (.invokevirtual 100, 3) := by decide +kernel
theorem dX1_spendOn_14 : decode cX1_spendOn 14 = .ok (.iadd, 1) := by decide +kernel
theorem dX1_spendOn_15 : decode cX1_spendOn 15 = .ok (.istore_n 3, 1) := by decide +kernel
theorem dX1_spendOn_16 : decode cX1_spendOn 16 = .ok (.sipush (-9999), 3) := by decide +kernel
theorem dX1_spendOn_19 : decode cX1_spendOn 19 = .ok (.sipush 9999, 3) := by decide +kernel
theorem dX1_spendOn_22 : decode cX1_spendOn 22 = .ok (.iload_n 3, 1) := by decide +kernel
theorem dX1_spendOn_23 : decode cX1_spendOn 23 = .ok (.invokestatic 92, 3) := by decide +kernel
theorem dX1_spendOn_26 : decode cX1_spendOn 26 = .ok (.invokestatic 110, 3) := by decide +kernel
theorem dX1_spendOn_29 : decode cX1_spendOn 29 = .ok (.istore 4, 2) := by decide +kernel
theorem dX1_spendOn_31 : decode cX1_spendOn 31 = .ok (.aload_n 0, 1) := by decide +kernel
theorem dX1_spendOn_32 : decode cX1_spendOn 32 = .ok (.getfield 44, 3) := by decide +kernel
theorem dX1_spendOn_35 : decode cX1_spendOn 35 = .ok (.iload_n 2, 1) := by decide +kernel
theorem dX1_spendOn_36 : decode cX1_spendOn 36 = .ok (.iconst 3, 1) := by decide +kernel
theorem dX1_spendOn_37 : decode cX1_spendOn 37 = .ok (.iload 4, 2) := by decide +kernel
theorem dX1_spendOn_39 : decode cX1_spendOn 39 = .ok (.invokevirtual 25, 3) := by decide +kernel
theorem dX1_spendOn_42 : decode cX1_spendOn 42 = .ok (.aload_n 0, 1) := by decide +kernel
theorem dX1_spendOn_43 : decode cX1_spendOn 43 = .ok (.iload_n 1, 1) := by decide +kernel
theorem dX1_spendOn_44 : decode cX1_spendOn 44 = .ok (.invokevirtual 113, 3) := by decide +kernel
theorem dX1_spendOn_47 : decode cX1_spendOn 47 = .ok (.iload 4, 2) := by decide +kernel
theorem dX1_spendOn_49 : decode cX1_spendOn 49 = .ok (.ireturn, 1) := by decide +kernel
theorem dX1_daysGoBy_0 : decode cX1_daysGoBy 0 = .ok (.iconst 0, 1) := by decide +kernel
theorem dX1_daysGoBy_1 : decode cX1_daysGoBy 1 = .ok (.istore_n 2, 1) := by decide +kernel
theorem dX1_daysGoBy_2 : decode cX1_daysGoBy 2 = .ok (.iconst 0, 1) := by decide +kernel
theorem dX1_daysGoBy_3 : decode cX1_daysGoBy 3 = .ok (.istore_n 3, 1) := by decide +kernel
theorem dX1_daysGoBy_4 : decode cX1_daysGoBy 4 = .ok (.iload_n 3, 1) := by decide +kernel
theorem dX1_daysGoBy_5 : decode cX1_daysGoBy 5 = .ok (.iload_n 1, 1) := by decide +kernel
theorem dX1_daysGoBy_6 : decode cX1_daysGoBy 6 = .ok (.if_icmp .ge 55, 3) := by decide +kernel
theorem dX1_daysGoBy_9 : decode cX1_daysGoBy 9 = .ok (.aload_n 0, 1) := by decide +kernel
theorem dX1_daysGoBy_10 : decode cX1_daysGoBy 10 = .ok (.invokevirtual 117, 3) := by decide +kernel
theorem dX1_daysGoBy_13 : decode cX1_daysGoBy 13 = .ok (.istore 4, 2) := by decide +kernel
theorem dX1_daysGoBy_15 : decode cX1_daysGoBy 15 = .ok (.aload_n 0, 1) := by decide +kernel
theorem dX1_daysGoBy_16 : decode cX1_daysGoBy 16 = .ok (.aload_n 0, 1) := by decide +kernel
theorem dX1_daysGoBy_17 : decode cX1_daysGoBy 17 = .ok (.getfield 55, 3) := by decide +kernel
theorem dX1_daysGoBy_20 : decode cX1_daysGoBy 20 = .ok (.iload 4, 2) := by decide +kernel
theorem dX1_daysGoBy_22 : decode cX1_daysGoBy 22 = .ok (.iadd, 1) := by decide +kernel
theorem dX1_daysGoBy_23 : decode cX1_daysGoBy 23 = .ok (.ldc 47, 2) := by decide +kernel
theorem dX1_daysGoBy_25 : decode cX1_daysGoBy 25 = .ok (.invokestatic 92, 3) := by decide +kernel
theorem dX1_daysGoBy_28 : decode cX1_daysGoBy 28 = .ok (.putfield 55, 3) := by decide +kernel
theorem dX1_daysGoBy_31 : decode cX1_daysGoBy 31 = .ok (.iload_n 2, 1) := by decide +kernel
theorem dX1_daysGoBy_32 : decode cX1_daysGoBy 32 = .ok (.iload 4, 2) := by decide +kernel
theorem dX1_daysGoBy_34 : decode cX1_daysGoBy 34 = .ok (.iadd, 1) := by decide +kernel
theorem dX1_daysGoBy_35 : decode cX1_daysGoBy 35 = .ok (.istore_n 2, 1) := by decide +kernel
theorem dX1_daysGoBy_36 : decode cX1_daysGoBy 36 = .ok (.aload_n 0, 1) := by decide +kernel
theorem dX1_daysGoBy_37 : decode cX1_daysGoBy 37 = .ok (.aload_n 0, 1) := by decide +kernel
theorem dX1_daysGoBy_38 : decode cX1_daysGoBy 38 = .ok (.getfield 51, 3) := by decide +kernel
theorem dX1_daysGoBy_41 : decode cX1_daysGoBy 41 = .ok (.iconst 1, 1) := by decide +kernel
theorem dX1_daysGoBy_42 : decode cX1_daysGoBy 42 = .ok (.iadd, 1) := by decide +kernel
theorem dX1_daysGoBy_43 : decode cX1_daysGoBy 43 = .ok (.ldc 47, 2) := by decide +kernel
theorem dX1_daysGoBy_45 : decode cX1_daysGoBy 45 = .ok (.invokestatic 92, 3) := by decide +kernel
theorem dX1_daysGoBy_48 : decode cX1_daysGoBy 48 = .ok (.putfield 51, 3) := by decide +kernel
theorem dX1_daysGoBy_51 : decode cX1_daysGoBy 51 = .ok (.aload_n 0, 1) := by decide +kernel
theorem dX1_daysGoBy_52 : decode cX1_daysGoBy 52 = .ok (.invokevirtual 121, 3) := by decide +kernel
theorem dX1_daysGoBy_55 : decode cX1_daysGoBy 55 = .ok (.iinc 3 1, 3) := by decide +kernel
theorem dX1_daysGoBy_58 : decode cX1_daysGoBy 58 = .ok (.goto (-54), 3) := by decide +kernel
theorem dX1_daysGoBy_61 : decode cX1_daysGoBy 61 = .ok (.iload_n 2, 1) := by decide +kernel
theorem dX1_daysGoBy_62 : decode cX1_daysGoBy 62 = .ok (.ireturn, 1) := by decide +kernel
theorem dX1_eggsAge_0 : decode cX1_eggsAge 0 = .ok (.iconst 0, 1) := by decide +kernel
theorem dX1_eggsAge_1 : decode cX1_eggsAge 1 = .ok (.istore_n 1, 1) := by decide +kernel
theorem dX1_eggsAge_2 : decode cX1_eggsAge 2 = .ok (.iconst 0, 1) := by decide +kernel
theorem dX1_eggsAge_3 : decode cX1_eggsAge 3 = .ok (.istore_n 2, 1) := by decide +kernel
theorem dX1_eggsAge_4 : decode cX1_eggsAge 4 = .ok (.iload_n 2, 1) := by decide +kernel
theorem dX1_eggsAge_5 : decode cX1_eggsAge 5 = .ok (.bipush 8, 2) := by decide +kernel
theorem dX1_eggsAge_7 : decode cX1_eggsAge 7 = .ok (.if_icmp .ge 66, 3) := by decide +kernel
theorem dX1_eggsAge_10 : decode cX1_eggsAge 10 = .ok (.aload_n 0, 1) := by decide +kernel
theorem dX1_eggsAge_11 : decode cX1_eggsAge 11 = .ok (.iload_n 2, 1) := by decide +kernel
theorem dX1_eggsAge_12 : decode cX1_eggsAge 12 = .ok (.invokevirtual 79, 3) := by decide +kernel
theorem dX1_eggsAge_15 : decode cX1_eggsAge 15 = .ok (.ifCond .ne 6, 3) := by decide +kernel
theorem dX1_eggsAge_18 : decode cX1_eggsAge 18 = .ok (.goto 49, 3) := by decide +kernel
theorem dX1_eggsAge_21 : decode cX1_eggsAge 21 = .ok (.aload_n 0, 1) := by decide +kernel
theorem dX1_eggsAge_22 : decode cX1_eggsAge 22 = .ok (.getfield 21, 3) := by decide +kernel
theorem dX1_eggsAge_25 : decode cX1_eggsAge 25 = .ok (.iload_n 2, 1) := by decide +kernel
theorem dX1_eggsAge_26 : decode cX1_eggsAge 26 = .ok (.iconst 2, 1) := by decide +kernel
theorem dX1_eggsAge_27 : decode cX1_eggsAge 27 = .ok (.invokevirtual 75, 3) := by decide +kernel
theorem dX1_eggsAge_30 : decode cX1_eggsAge 30 = .ok (.iconst 1, 1) := by decide +kernel
theorem dX1_eggsAge_31 : decode cX1_eggsAge 31 = .ok (.iadd, 1) := by decide +kernel
theorem dX1_eggsAge_32 : decode cX1_eggsAge 32 = .ok (.istore_n 3, 1) := by decide +kernel
theorem dX1_eggsAge_33 : decode cX1_eggsAge 33 = .ok (.aload_n 0, 1) := by decide +kernel
theorem dX1_eggsAge_34 : decode cX1_eggsAge 34 = .ok (.getfield 21, 3) := by decide +kernel
theorem dX1_eggsAge_37 : decode cX1_eggsAge 37 = .ok (.iload_n 2, 1) := by decide +kernel
theorem dX1_eggsAge_38 : decode cX1_eggsAge 38 = .ok (.iconst 2, 1) := by decide +kernel
theorem dX1_eggsAge_39 : decode cX1_eggsAge 39 = .ok (.iload_n 3, 1) := by decide +kernel
theorem dX1_eggsAge_40 : decode cX1_eggsAge 40 = .ok (.invokevirtual 25, 3) := by decide +kernel
theorem dX1_eggsAge_43 : decode cX1_eggsAge 43 = .ok (.iload_n 3, 1) := by decide +kernel
theorem dX1_eggsAge_44 : decode cX1_eggsAge 44 = .ok (.aload_n 0, 1) := by decide +kernel
theorem dX1_eggsAge_45 : decode cX1_eggsAge 45 = .ok (.getfield 21, 3) := by decide +kernel
theorem dX1_eggsAge_48 : decode cX1_eggsAge 48 = .ok (.iload_n 2, 1) := by decide +kernel
theorem dX1_eggsAge_49 : decode cX1_eggsAge 49 = .ok (.iconst 0, 1) := by decide +kernel
theorem dX1_eggsAge_50 : decode cX1_eggsAge 50 = .ok (.invokevirtual 75, 3) := by decide +kernel
theorem dX1_eggsAge_53 : decode cX1_eggsAge 53 = .ok (.invokestatic 124, 3) := by decide +kernel
theorem dX1_eggsAge_56 : decode cX1_eggsAge 56 = .ok (.if_icmp .le 11, 3) := by decide +kernel
theorem dX1_eggsAge_59 : decode cX1_eggsAge 59 = .ok (.aload_n 0, 1) := by decide +kernel
theorem dX1_eggsAge_60 : decode cX1_eggsAge 60 = .ok (.iload_n 2, 1) := by decide +kernel
theorem dX1_eggsAge_61 : decode cX1_eggsAge 61 = .ok (.invokevirtual 113, 3) := by decide +kernel
theorem dX1_eggsAge_64 : decode cX1_eggsAge 64 = .ok (.iinc 1 1, 3) := by decide +kernel
theorem dX1_eggsAge_67 : decode cX1_eggsAge 67 = .ok (.iinc 2 1, 3) := by decide +kernel
theorem dX1_eggsAge_70 : decode cX1_eggsAge 70 = .ok (.goto (-66), 3) := by decide +kernel
theorem dX1_eggsAge_73 : decode cX1_eggsAge 73 = .ok (.iload_n 1, 1) := by decide +kernel
theorem dX1_eggsAge_74 : decode cX1_eggsAge 74 = .ok (.ireturn, 1) := by decide +kernel
theorem dX1_hensLay_0 : decode cX1_hensLay 0 = .ok (.iconst 0, 1) := by decide +kernel
theorem dX1_hensLay_1 : decode cX1_hensLay 1 = .ok (.istore_n 1, 1) := by decide +kernel
theorem dX1_hensLay_2 : decode cX1_hensLay 2 = .ok (.iload_n 1, 1) := by decide +kernel
theorem dX1_hensLay_3 : decode cX1_hensLay 3 = .ok (.iconst 4, 1) := by decide +kernel
theorem dX1_hensLay_4 : decode cX1_hensLay 4 = .ok (.if_icmp .ge 77, 3) := by decide +kernel
theorem dX1_hensLay_7 : decode cX1_hensLay 7 = .ok (.aload_n 0, 1) := by decide +kernel
theorem dX1_hensLay_8 : decode cX1_hensLay 8 = .ok (.getfield 35, 3) := by decide +kernel
theorem dX1_hensLay_11 : decode cX1_hensLay 11 = .ok (.iload_n 1, 1) := by decide +kernel
theorem dX1_hensLay_12 : decode cX1_hensLay 12 = .ok (.iconst 0, 1) := by decide +kernel
theorem dX1_hensLay_13 : decode cX1_hensLay 13 = .ok (.invokevirtual 75, 3) := by decide +kernel
theorem dX1_hensLay_16 : decode cX1_hensLay 16 = .ok (.istore_n 2, 1) := by decide +kernel
theorem dX1_hensLay_17 : decode cX1_hensLay 17 = .ok (.iload_n 2, 1) := by decide +kernel
theorem dX1_hensLay_18 : decode cX1_hensLay 18 = .ok (.ifCond .le 57, 3) := by decide +kernel
theorem dX1_hensLay_21 : decode cX1_hensLay 21 = .ok (.aload_n 0, 1) := by decide +kernel
theorem dX1_hensLay_22 : decode cX1_hensLay 22 = .ok (.getfield 51, 3) := by decide +kernel
theorem dX1_hensLay_25 : decode cX1_hensLay 25 = .ok (.iload_n 2, 1) := by decide +kernel
theorem dX1_hensLay_26 : decode cX1_hensLay 26 = .ok (.irem, 1) := by decide +kernel
theorem dX1_hensLay_27 : decode cX1_hensLay 27 = .ok (.ifCond .eq 6, 3) := by decide +kernel
theorem dX1_hensLay_30 : decode cX1_hensLay 30 = .ok (.goto 45, 3) := by decide +kernel
theorem dX1_hensLay_33 : decode cX1_hensLay 33 = .ok (.aload_n 0, 1) := by decide +kernel
theorem dX1_hensLay_34 : decode cX1_hensLay 34 = .ok (.invokevirtual 127, 3) := by decide +kernel
theorem dX1_hensLay_37 : decode cX1_hensLay 37 = .ok (.istore_n 3, 1) := by decide +kernel
theorem dX1_hensLay_38 : decode cX1_hensLay 38 = .ok (.iload_n 3, 1) := by decide +kernel
theorem dX1_hensLay_39 : decode cX1_hensLay 39 = .ok (.ifCond .lt 36, 3) := by decide +kernel
theorem dX1_hensLay_42 : decode cX1_hensLay 42 = .ok (.aload_n 0, 1) := by decide +kernel
theorem dX1_hensLay_43 : decode cX1_hensLay 43 = .ok (.iload_n 3, 1) := by decide +kernel
theorem dX1_hensLay_44 : decode cX1_hensLay 44 = .ok (.aload_n 0, 1) := by decide +kernel
theorem dX1_hensLay_45 : decode cX1_hensLay 45 = .ok (.getfield 35, 3) := by decide +kernel
theorem dX1_hensLay_48 : decode cX1_hensLay 48 = .ok (.iload_n 1, 1) := by decide +kernel
theorem dX1_hensLay_49 : decode cX1_hensLay 49 = .ok (.iconst 1, 1) := by decide +kernel
theorem dX1_hensLay_50 : decode cX1_hensLay 50 = .ok (.invokevirtual 75, 3) := by decide +kernel
theorem dX1_hensLay_53 : decode cX1_hensLay 53 = .ok (.aload_n 0, 1) := by decide +kernel
theorem dX1_hensLay_54 : decode cX1_hensLay 54 = .ok (.getfield 35, 3) := by decide +kernel
theorem dX1_hensLay_57 : decode cX1_hensLay 57 = .ok (.iload_n 1, 1) := by decide +kernel
theorem dX1_hensLay_58 : decode cX1_hensLay 58 = .ok (.iconst 2, 1) := by decide +kernel
theorem dX1_hensLay_59 : decode cX1_hensLay 59 = .ok (.invokevirtual 75, 3) := by decide +kernel
theorem dX1_hensLay_62 : decode cX1_hensLay 62 = .ok (.iconst 0, 1) := by decide +kernel
theorem dX1_hensLay_63 : decode cX1_hensLay 63 = .ok (.aload_n 0, 1) := by decide +kernel
theorem dX1_hensLay_64 : decode cX1_hensLay 64 = .ok (.getfield 35, 3) := by decide +kernel
theorem dX1_hensLay_67 : decode cX1_hensLay 67 = .ok (.iload_n 1, 1) := by decide +kernel
theorem dX1_hensLay_68 : decode cX1_hensLay 68 = .ok (.iconst 3, 1) := by decide +kernel
theorem dX1_hensLay_69 : decode cX1_hensLay 69 = .ok (.invokevirtual 75, 3) := by decide +kernel
theorem dX1_hensLay_72 : decode cX1_hensLay 72 = .ok (.invokevirtual 130, 3) := by decide +kernel
theorem dX1_hensLay_75 : decode cX1_hensLay 75 = .ok (.iinc 1 1, 3) := by decide +kernel
theorem dX1_hensLay_78 : decode cX1_hensLay 78 = .ok (.goto (-76), 3) := by decide +kernel
theorem dX1_hensLay_81 : decode cX1_hensLay 81 = .ok (.return_, 1) := by decide +kernel
theorem dX1_foxComes_0 : decode cX1_foxComes 0 = .ok (.aload_n 0, 1) := by decide +kernel
theorem dX1_foxComes_1 : decode cX1_foxComes 1 = .ok (.aload_n 0, 1) := by decide +kernel
theorem dX1_foxComes_2 : decode cX1_foxComes 2 = .ok (.getfield 58, 3) := by decide +kernel
theorem dX1_foxComes_5 : decode cX1_foxComes 5 = .ok (.ldc 134, 2) := by decide +kernel
theorem dX1_foxComes_7 : decode cX1_foxComes 7 = .ok (.imul, 1) := by decide +kernel
theorem dX1_foxComes_8 : decode cX1_foxComes 8 = .ok (.sipush 12345, 3) := by decide +kernel
theorem dX1_foxComes_11 : decode cX1_foxComes 11 = .ok (.iadd, 1) := by decide +kernel
theorem dX1_foxComes_12 : decode cX1_foxComes 12 = .ok (.putfield 58, 3) := by decide +kernel
theorem dX1_foxComes_15 : decode cX1_foxComes 15 = .ok (.aload_n 0, 1) := by decide +kernel
theorem dX1_foxComes_16 : decode cX1_foxComes 16 = .ok (.getfield 58, 3) := by decide +kernel
theorem dX1_foxComes_19 : decode cX1_foxComes 19 = .ok (.bipush 8, 2) := by decide +kernel
theorem dX1_foxComes_21 : decode cX1_foxComes 21 = .ok (.iushr, 1) := by decide +kernel
theorem dX1_foxComes_22 : decode cX1_foxComes 22 = .ok (.iconst 4, 1) := by decide +kernel
theorem dX1_foxComes_23 : decode cX1_foxComes 23 = .ok (.irem, 1) := by decide +kernel
theorem dX1_foxComes_24 : decode cX1_foxComes 24 = .ok (.istore_n 1, 1) := by decide +kernel
theorem dX1_foxComes_25 : decode cX1_foxComes 25 = .ok (.iconst 0, 1) := by decide +kernel
theorem dX1_foxComes_26 : decode cX1_foxComes 26 = .ok (.istore_n 2, 1) := by decide +kernel
theorem dX1_foxComes_27 : decode cX1_foxComes 27 = .ok (.iconst 0, 1) := by decide +kernel
theorem dX1_foxComes_28 : decode cX1_foxComes 28 = .ok (.istore_n 3, 1) := by decide +kernel
theorem dX1_foxComes_29 : decode cX1_foxComes 29 = .ok (.iload_n 3, 1) := by decide +kernel
theorem dX1_foxComes_30 : decode cX1_foxComes 30 = .ok (.bipush 8, 2) := by decide +kernel
theorem dX1_foxComes_32 : decode cX1_foxComes 32 = .ok (.if_icmp .ge 38, 3) := by decide +kernel
theorem dX1_foxComes_35 : decode cX1_foxComes 35 = .ok (.aload_n 0, 1) := by decide +kernel
theorem dX1_foxComes_36 : decode cX1_foxComes 36 = .ok (.iload_n 3, 1) := by decide +kernel
theorem dX1_foxComes_37 : decode cX1_foxComes 37 = .ok (.invokevirtual 79, 3) := by decide +kernel
theorem dX1_foxComes_40 : decode cX1_foxComes 40 = .ok (.ifCond .eq 24, 3) := by decide +kernel
theorem dX1_foxComes_43 : decode cX1_foxComes 43 = .ok (.aload_n 0, 1) := by decide +kernel
theorem dX1_foxComes_44 : decode cX1_foxComes 44 = .ok (.getfield 21, 3) := by decide +kernel
theorem dX1_foxComes_47 : decode cX1_foxComes 47 = .ok (.iload_n 3, 1) := by decide +kernel
theorem dX1_foxComes_48 : decode cX1_foxComes 48 = .ok (.iconst 3, 1) := by decide +kernel
theorem dX1_foxComes_49 : decode cX1_foxComes 49 = .ok (.invokevirtual 75, 3) := by decide +kernel
theorem dX1_foxComes_52 : decode cX1_foxComes 52 = .ok (.iload_n 1, 1) := by decide +kernel
theorem dX1_foxComes_53 : decode cX1_foxComes 53 = .ok (.if_icmp .ne 11, 3) := by decide +kernel
theorem dX1_foxComes_56 : decode cX1_foxComes 56 = .ok (.aload_n 0, 1) := by decide +kernel
theorem dX1_foxComes_57 : decode cX1_foxComes 57 = .ok (.iload_n 3, 1) := by decide +kernel
theorem dX1_foxComes_58 : decode cX1_foxComes 58 = .ok (.invokevirtual 113, 3) := by decide +kernel
theorem dX1_foxComes_61 : decode cX1_foxComes 61 = .ok (.iinc 2 1, 3) := by decide +kernel
theorem dX1_foxComes_64 : decode cX1_foxComes 64 = .ok (.iinc 3 1, 3) := by decide +kernel
theorem dX1_foxComes_67 : decode cX1_foxComes 67 = .ok (.goto (-38), 3) := by decide +kernel
theorem dX1_foxComes_70 : decode cX1_foxComes 70 = .ok (.iload_n 2, 1) := by decide +kernel
theorem dX1_foxComes_71 : decode cX1_foxComes 71 = .ok (.ireturn, 1) := by decide +kernel
theorem dX1_spotAt_0 : decode cX1_spotAt 0 = .ok (.iload_n 1, 1) := by decide +kernel
theorem dX1_spotAt_1 : decode cX1_spotAt 1 = .ok (.ifCond .lt 21, 3) := by decide +kernel
theorem dX1_spotAt_4 : decode cX1_spotAt 4 = .ok (.iload_n 1, 1) := by decide +kernel
theorem dX1_spotAt_5 : decode cX1_spotAt 5 = .ok (.aload_n 0, 1) := by decide +kernel
theorem dX1_spotAt_6 : decode cX1_spotAt 6 = .ok (.getfield 48, 3) := by decide +kernel
theorem dX1_spotAt_9 : decode cX1_spotAt 9 = .ok (.arraylength, 1) := by decide +kernel
theorem dX1_spotAt_10 : decode cX1_spotAt 10 = .ok (.if_icmp .ge 12, 3) := by decide +kernel
theorem dX1_spotAt_13 : decode cX1_spotAt 13 = .ok (.aload_n 0, 1) := by decide +kernel
theorem dX1_spotAt_14 : decode cX1_spotAt 14 = .ok (.getfield 48, 3) := by decide +kernel
theorem dX1_spotAt_17 : decode cX1_spotAt 17 = .ok (.iload_n 1, 1) := by decide +kernel
theorem dX1_spotAt_18 : decode cX1_spotAt 18 = .ok (.iaload, 1) := by decide +kernel
theorem dX1_spotAt_19 : decode cX1_spotAt 19 = .ok (.goto 4, 3) := by decide +kernel
theorem dX1_spotAt_22 : decode cX1_spotAt 22 = .ok (.iconst (-1), 1) := by decide +kernel
theorem dX1_spotAt_23 : decode cX1_spotAt 23 = .ok (.ireturn, 1) := by decide +kernel
theorem dX1_setSpot_0 : decode cX1_setSpot 0 = .ok (.iload_n 1, 1) := by decide +kernel
theorem dX1_setSpot_1 : decode cX1_setSpot 1 = .ok (.ifCond .lt 19, 3) := by decide +kernel
theorem dX1_setSpot_4 : decode cX1_setSpot 4 = .ok (.iload_n 1, 1) := by decide +kernel
theorem dX1_setSpot_5 : decode cX1_setSpot 5 = .ok (.aload_n 0, 1) := by decide +kernel
theorem dX1_setSpot_6 : decode cX1_setSpot 6 = .ok (.getfield 48, 3) := by decide +kernel
theorem dX1_setSpot_9 : decode cX1_setSpot 9 = .ok (.arraylength, 1) := by decide +kernel
theorem dX1_setSpot_10 : decode cX1_setSpot 10 = .ok (.if_icmp .ge 10, 3) := by decide +kernel
theorem dX1_setSpot_13 : decode cX1_setSpot 13 = .ok (.aload_n 0, 1) := by decide +kernel
theorem dX1_setSpot_14 : decode cX1_setSpot 14 = .ok (.getfield 48, 3) := by decide +kernel
theorem dX1_setSpot_17 : decode cX1_setSpot 17 = .ok (.iload_n 1, 1) := by decide +kernel
theorem dX1_setSpot_18 : decode cX1_setSpot 18 = .ok (.iload_n 2, 1) := by decide +kernel
theorem dX1_setSpot_19 : decode cX1_setSpot 19 = .ok (.iastore, 1) := by decide +kernel
theorem dX1_setSpot_20 : decode cX1_setSpot 20 = .ok (.return_, 1) := by decide +kernel
theorem dX1_heldSpots_0 : decode cX1_heldSpots 0 = .ok (.iconst 0, 1) := by decide +kernel
theorem dX1_heldSpots_1 : decode cX1_heldSpots 1 = .ok (.istore_n 1, 1) := by decide +kernel
theorem dX1_heldSpots_2 : decode cX1_heldSpots 2 = .ok (.iconst 0, 1) := by decide +kernel
theorem dX1_heldSpots_3 : decode cX1_heldSpots 3 = .ok (.istore_n 2, 1) := by decide +kernel
theorem dX1_heldSpots_4 : decode cX1_heldSpots 4 = .ok (.iload_n 2, 1) := by decide +kernel
theorem dX1_heldSpots_5 : decode cX1_heldSpots 5 = .ok (.bipush 10, 2) := by decide +kernel
theorem dX1_heldSpots_7 : decode cX1_heldSpots 7 = .ok (.if_icmp .ge 20, 3) := by decide +kernel
theorem dX1_heldSpots_10 : decode cX1_heldSpots 10 = .ok (.aload_n 0, 1) := by decide +kernel
theorem dX1_heldSpots_11 : decode cX1_heldSpots 11 = .ok (.iload_n 2, 1) := by decide +kernel
theorem dX1_heldSpots_12 : decode cX1_heldSpots 12 = .ok (.invokevirtual 135, 3) := by decide +kernel
theorem dX1_heldSpots_15 : decode cX1_heldSpots 15 = .ok (.ifCond .lt 6, 3) := by decide +kernel
theorem dX1_heldSpots_18 : decode cX1_heldSpots 18 = .ok (.iinc 1 1, 3) := by decide +kernel
theorem dX1_heldSpots_21 : decode cX1_heldSpots 21 = .ok (.iinc 2 1, 3) := by decide +kernel
theorem dX1_heldSpots_24 : decode cX1_heldSpots 24 = .ok (.goto (-20), 3) := by decide +kernel
theorem dX1_heldSpots_27 : decode cX1_heldSpots 27 = .ok (.iload_n 1, 1) := by decide +kernel
theorem dX1_heldSpots_28 : decode cX1_heldSpots 28 = .ok (.ireturn, 1) := by decide +kernel
theorem dX2_minutes_0 : decode cX2_minutes 0 = .ok (.iconst 0, 1) := by decide +kernel
theorem dX2_minutes_1 : decode cX2_minutes 1 = .ok (.iload_n 1, 1) := by decide +kernel
theorem dX2_minutes_2 : decode cX2_minutes 2 = .ok (.iload_n 2, 1) := by decide +kernel
theorem dX2_minutes_3 : decode cX2_minutes 3 = .ok (.isub, 1) := by decide +kernel
theorem dX2_minutes_4 : decode cX2_minutes 4 = .ok (.invokestatic 7, 3) := by decide +kernel
theorem dX2_minutes_7 : decode cX2_minutes 7 = .ok (.istore 4, 2) := by decide +kernel
theorem dX2_minutes_9 : decode cX2_minutes 9 = .ok (.iload_n 3, 1) := by decide +kernel
theorem dX2_minutes_10 : decode cX2_minutes 10 = .ok (.iconst 4, 1) := by decide +kernel
theorem dX2_minutes_11 : decode cX2_minutes 11 = .ok (.irem, 1) := by decide +kernel
theorem dX2_minutes_12 : decode cX2_minutes 12 = .ok (.ifCond .ne 11, 3) := by decide +kernel
theorem dX2_minutes_15 : decode cX2_minutes 15 = .ok (.iload 4, 2) := by decide +kernel
theorem dX2_minutes_17 : decode cX2_minutes 17 = .ok (.bipush 10, 2) := by decide +kernel
theorem dX2_minutes_19 : decode cX2_minutes 19 = .ok (.iadd, 1) := by decide +kernel
theorem dX2_minutes_20 : decode cX2_minutes 20 = .ok (.goto 5, 3) := by decide +kernel
theorem dX2_minutes_23 : decode cX2_minutes 23 = .ok (.iload 4, 2) := by decide +kernel
theorem dX2_minutes_25 : decode cX2_minutes 25 = .ok (.istore 5, 2) := by decide +kernel
theorem dX2_minutes_27 : decode cX2_minutes 27 = .ok (.iload 4, 2) := by decide +kernel
theorem dX2_minutes_29 : decode cX2_minutes 29 = .ok (.iconst 2, 1) := by decide +kernel
theorem dX2_minutes_30 : decode cX2_minutes 30 = .ok (.iload_n 2, 1) := by decide +kernel
theorem dX2_minutes_31 : decode cX2_minutes 31 = .ok (.imul, 1) := by decide +kernel
theorem dX2_minutes_32 : decode cX2_minutes 32 = .ok (.bipush 30, 2) := by decide +kernel
theorem dX2_minutes_34 : decode cX2_minutes 34 = .ok (.invokestatic 13, 3) := by decide +kernel
theorem dX2_minutes_37 : decode cX2_minutes 37 = .ok (.iadd, 1) := by decide +kernel
theorem dX2_minutes_38 : decode cX2_minutes 38 = .ok (.bipush 15, 2) := by decide +kernel
theorem dX2_minutes_40 : decode cX2_minutes 40 = .ok (.isub, 1) := by decide +kernel
theorem dX2_minutes_41 : decode cX2_minutes 41 = .ok (.istore 6, 2) := by decide +kernel
theorem dX2_minutes_43 : decode cX2_minutes 43 = .ok (.iload_n 0, 1) := by decide +kernel
theorem dX2_minutes_44 : decode cX2_minutes 44 = .ok (.tableswitch 66 1 6 #[40, 43, 49, 52, 56, 61], 40) := by decide +kernel
theorem dX2_minutes_84 : decode cX2_minutes 84 = .ok (.iload 5, 2) := by decide +kernel
theorem dX2_minutes_86 : decode cX2_minutes 86 = .ok (.ireturn, 1) := by decide +kernel
theorem dX2_minutes_87 : decode cX2_minutes 87 = .ok (.iload 6, 2) := by decide +kernel
theorem dX2_minutes_89 : decode cX2_minutes 89 = .ok (.bipush 15, 2) := by decide +kernel
theorem dX2_minutes_91 : decode cX2_minutes 91 = .ok (.iadd, 1) := by decide +kernel
theorem dX2_minutes_92 : decode cX2_minutes 92 = .ok (.ireturn, 1) := by decide +kernel
theorem dX2_minutes_93 : decode cX2_minutes 93 = .ok (.iload 6, 2) := by decide +kernel
theorem dX2_minutes_95 : decode cX2_minutes 95 = .ok (.ireturn, 1) := by decide +kernel
theorem dX2_minutes_96 : decode cX2_minutes 96 = .ok (.iload 6, 2) := by decide +kernel
theorem dX2_minutes_98 : decode cX2_minutes 98 = .ok (.ineg, 1) := by decide +kernel
theorem dX2_minutes_99 : decode cX2_minutes 99 = .ok (.ireturn, 1) := by decide +kernel
theorem dX2_minutes_100 : decode cX2_minutes 100 = .ok (.iload 4, 2) := by decide +kernel
theorem dX2_minutes_102 : decode cX2_minutes 102 = .ok (.iconst 2, 1) := by decide +kernel
theorem dX2_minutes_103 : decode cX2_minutes 103 = .ok (.idiv, 1) := by decide +kernel
theorem dX2_minutes_104 : decode cX2_minutes 104 = .ok (.ireturn, 1) := by decide +kernel
theorem dX2_minutes_105 : decode cX2_minutes 105 = .ok (.iconst 2, 1) := by decide +kernel
theorem dX2_minutes_106 : decode cX2_minutes 106 = .ok (.iload 5, 2) := by decide +kernel
theorem dX2_minutes_108 : decode cX2_minutes 108 = .ok (.imul, 1) := by decide +kernel
theorem dX2_minutes_109 : decode cX2_minutes 109 = .ok (.ireturn, 1) := by decide +kernel
theorem dX2_minutes_110 : decode cX2_minutes 110 = .ok (.iload 4, 2) := by decide +kernel
theorem dX2_minutes_112 : decode cX2_minutes 112 = .ok (.ireturn, 1) := by decide +kernel
theorem dX2_keeps_0 : decode cX2_keeps 0 = .ok (.iload_n 0, 1) := by decide +kernel
theorem dX2_keeps_1 : decode cX2_keeps 1 = .ok (.ifCond .lt 19, 3) := by decide +kernel
theorem dX2_keeps_4 : decode cX2_keeps 4 = .ok (.iload_n 0, 1) := by decide +kernel
theorem dX2_keeps_5 : decode cX2_keeps 5 = .ok (.getstatic 16, 3) := by decide +kernel
theorem dX2_keeps_8 : decode cX2_keeps 8 = .ok (.arraylength, 1) := by decide +kernel
theorem dX2_keeps_9 : decode cX2_keeps 9 = .ok (.if_icmp .ge 11, 3) := by decide +kernel
theorem dX2_keeps_12 : decode cX2_keeps 12 = .ok (.getstatic 16, 3) := by decide +kernel
theorem dX2_keeps_15 : decode cX2_keeps 15 = .ok (.iload_n 0, 1) := by decide +kernel
theorem dX2_keeps_16 : decode cX2_keeps 16 = .ok (.iaload, 1) := by decide +kernel
theorem dX2_keeps_17 : decode cX2_keeps 17 = .ok (.goto 4, 3) := by decide +kernel
theorem dX2_keeps_20 : decode cX2_keeps 20 = .ok (.iconst 0, 1) := by decide +kernel
theorem dX2_keeps_21 : decode cX2_keeps 21 = .ok (.ireturn, 1) := by decide +kernel
theorem dX2_stays_0 : decode cX2_stays 0 = .ok (.iload_n 2, 1) := by decide +kernel
theorem dX2_stays_1 : decode cX2_stays 1 = .ok (.ifCond .le 13, 3) := by decide +kernel
theorem dX2_stays_4 : decode cX2_stays 4 = .ok (.iload_n 1, 1) := by decide +kernel
theorem dX2_stays_5 : decode cX2_stays 5 = .ok (.iload_n 2, 1) := by decide +kernel
theorem dX2_stays_6 : decode cX2_stays 6 = .ok (.iadd, 1) := by decide +kernel
theorem dX2_stays_7 : decode cX2_stays 7 = .ok (.iload_n 0, 1) := by decide +kernel
theorem dX2_stays_8 : decode cX2_stays 8 = .ok (.invokestatic 22, 3) := by decide +kernel
theorem dX2_stays_11 : decode cX2_stays 11 = .ok (.if_icmp .gt 7, 3) := by decide +kernel
theorem dX2_stays_14 : decode cX2_stays 14 = .ok (.iconst 1, 1) := by decide +kernel
theorem dX2_stays_15 : decode cX2_stays 15 = .ok (.goto 4, 3) := by decide +kernel
theorem dX2_stays_18 : decode cX2_stays 18 = .ok (.iconst 0, 1) := by decide +kernel
theorem dX2_stays_19 : decode cX2_stays 19 = .ok (.ireturn, 1) := by decide +kernel
theorem dX2_isUnder_0 : decode cX2_isUnder 0 = .ok (.iload_n 0, 1) := by decide +kernel
theorem dX2_isUnder_1 : decode cX2_isUnder 1 = .ok (.istore_n 2, 1) := by decide +kernel
theorem dX2_isUnder_2 : decode cX2_isUnder 2 = .ok (.iconst 0, 1) := by decide +kernel
theorem dX2_isUnder_3 : decode cX2_isUnder 3 = .ok (.istore_n 3, 1) := by decide +kernel
theorem dX2_isUnder_4 : decode cX2_isUnder 4 = .ok (.iload_n 3, 1) := by decide +kernel
theorem dX2_isUnder_5 : decode cX2_isUnder 5 = .ok (.bipush 7, 2) := by decide +kernel
theorem dX2_isUnder_7 : decode cX2_isUnder 7 = .ok (.if_icmp .ge 34, 3) := by decide +kernel
theorem dX2_isUnder_10 : decode cX2_isUnder 10 = .ok (.iload_n 2, 1) := by decide +kernel
theorem dX2_isUnder_11 : decode cX2_isUnder 11 = .ok (.ifCond .lt 30, 3) := by decide +kernel
theorem dX2_isUnder_14 : decode cX2_isUnder 14 = .ok (.iload_n 2, 1) := by decide +kernel
theorem dX2_isUnder_15 : decode cX2_isUnder 15 = .ok (.getstatic 26, 3) := by decide +kernel
theorem dX2_isUnder_18 : decode cX2_isUnder 18 = .ok (.arraylength, 1) := by decide +kernel
theorem dX2_isUnder_19 : decode cX2_isUnder 19 = .ok (.if_icmp .ge 22, 3) := by decide +kernel
theorem dX2_isUnder_22 : decode cX2_isUnder 22 = .ok (.iload_n 2, 1) := by decide +kernel
theorem dX2_isUnder_23 : decode cX2_isUnder 23 = .ok (.iload_n 1, 1) := by decide +kernel
theorem dX2_isUnder_24 : decode cX2_isUnder 24 = .ok (.if_icmp .ne 5, 3) := by decide +kernel
theorem dX2_isUnder_27 : decode cX2_isUnder 27 = .ok (.iconst 1, 1) := by decide +kernel
theorem dX2_isUnder_28 : decode cX2_isUnder 28 = .ok (.ireturn, 1) := by decide +kernel
theorem dX2_isUnder_29 : decode cX2_isUnder 29 = .ok (.getstatic 26, 3) := by decide +kernel
theorem dX2_isUnder_32 : decode cX2_isUnder 32 = .ok (.iload_n 2, 1) := by decide +kernel
theorem dX2_isUnder_33 : decode cX2_isUnder 33 = .ok (.iaload, 1) := by decide +kernel
theorem dX2_isUnder_34 : decode cX2_isUnder 34 = .ok (.istore_n 2, 1) := by decide +kernel
theorem dX2_isUnder_35 : decode cX2_isUnder 35 = .ok (.iinc 3 1, 3) := by decide +kernel
theorem dX2_isUnder_38 : decode cX2_isUnder 38 = .ok (.goto (-34), 3) := by decide +kernel
theorem dX2_isUnder_41 : decode cX2_isUnder 41 = .ok (.iconst 0, 1) := by decide +kernel
theorem dX2_isUnder_42 : decode cX2_isUnder 42 = .ok (.ireturn, 1) := by decide +kernel
theorem dX3_init_0 : decode cX3_init 0 = .ok (.aload_n 0, 1) := by decide +kernel
theorem dX3_init_1 : decode cX3_init 1 = .ok (.invokespecial 3, 3) := by decide +kernel
theorem dX3_init_4 : decode cX3_init 4 = .ok (.aload_n 0, 1) := by decide +kernel
theorem dX3_init_5 : decode cX3_init 5 = .ok (.aload_n 1, 1) := by decide +kernel
theorem dX3_init_6 : decode cX3_init 6 = .ok (.putfield 9, 3) := by decide +kernel
theorem dX3_init_9 : decode cX3_init 9 = .ok (.aload_n 0, 1) := by decide +kernel
theorem dX3_init_10 : decode cX3_init 10 = .ok (.aload_n 2, 1) := by decide +kernel
theorem dX3_init_11 : decode cX3_init 11 = .ok (.putfield 15, 3) := by decide +kernel
theorem dX3_init_14 : decode cX3_init 14 = .ok (.return_, 1) := by decide +kernel
theorem dX3_readText_0 : decode cX3_readText 0 = .ok (.aload_n 0, 1) := by decide +kernel
theorem dX3_readText_1 : decode cX3_readText 1 = .ok (.getfield 9, 3) := by decide +kernel
theorem dX3_readText_4 : decode cX3_readText 4 = .ok (.ifnull 10, 3) := by decide +kernel
theorem dX3_readText_7 : decode cX3_readText 7 = .ok (.aload_n 0, 1) := by decide +kernel
theorem dX3_readText_8 : decode cX3_readText 8 = .ok (.getfield 15, 3) := by decide +kernel
theorem dX3_readText_11 : decode cX3_readText 11 = .ok (.ifnonnull 5, 3) := by decide +kernel
theorem dX3_readText_14 : decode cX3_readText 14 = .ok (.iconst (-1), 1) := by decide +kernel
theorem dX3_readText_15 : decode cX3_readText 15 = .ok (.ireturn, 1) := by decide +kernel
theorem dX3_readText_16 : decode cX3_readText 16 = .ok (.aload_n 0, 1) := by decide +kernel
theorem dX3_readText_17 : decode cX3_readText 17 = .ok (.invokevirtual 19, 3) := by decide +kernel
theorem dX3_readText_20 : decode cX3_readText 20 = .ok (.iconst 1, 1) := by decide +kernel
theorem dX3_readText_21 : decode cX3_readText 21 = .ok (.istore_n 1, 1) := by decide +kernel
theorem dX3_readText_22 : decode cX3_readText 22 = .ok (.iload_n 1, 1) := by decide +kernel
theorem dX3_readText_23 : decode cX3_readText 23 = .ok (.bipush 120, 2) := by decide +kernel
theorem dX3_readText_25 : decode cX3_readText 25 = .ok (.if_icmp .gt 82, 3) := by decide +kernel
theorem dX3_readText_28 : decode cX3_readText 28 = .ok (.aload_n 0, 1) := by decide +kernel
theorem dX3_readText_29 : decode cX3_readText 29 = .ok (.invokevirtual 24, 3) := by decide +kernel
theorem dX3_readText_32 : decode cX3_readText 32 = .ok (.istore_n 2, 1) := by decide +kernel
theorem dX3_readText_33 : decode cX3_readText 33 = .ok (.iload_n 2, 1) := by decide +kernel
theorem dX3_readText_34 : decode cX3_readText 34 = .ok (.ifCond .lt 11, 3) := by decide +kernel
theorem dX3_readText_37 : decode cX3_readText 37 = .ok (.aload_n 0, 1) := by decide +kernel
theorem dX3_readText_38 : decode cX3_readText 38 = .ok (.iload_n 2, 1) := by decide +kernel
theorem dX3_readText_39 : decode cX3_readText 39 = .ok (.invokevirtual 28, 3) := by decide +kernel
theorem dX3_readText_42 : decode cX3_readText 42 = .ok (.goto 23, 3) := by decide +kernel
theorem dX3_readText_45 : decode cX3_readText 45 = .ok (.aload_n 0, 1) := by decide +kernel
theorem dX3_readText_46 : decode cX3_readText 46 = .ok (.ldc 32, 2) := by decide +kernel
theorem dX3_readText_48 : decode cX3_readText 48 = .ok (.invokevirtual 34, 3) := by decide +kernel
theorem dX3_readText_51 : decode cX3_readText 51 = .ok (.ifCond .eq 10, 3) := by decide +kernel
theorem dX3_readText_54 : decode cX3_readText 54 = .ok (.aload_n 0, 1) := by decide +kernel
theorem dX3_readText_55 : decode cX3_readText 55 = .ok (.invokevirtual 38, 3) := by decide +kernel
theorem dX3_readText_58 : decode cX3_readText 58 = .ok (.goto 7, 3) := by decide +kernel
theorem dX3_readText_61 : decode cX3_readText 61 = .ok (.aload_n 0, 1) := by decide +kernel
theorem dX3_readText_62 : decode cX3_readText 62 = .ok (.invokevirtual 42, 3) := by decide +kernel
theorem dX3_readText_65 : decode cX3_readText 65 = .ok (.istore_n 3, 1) := by decide +kernel
theorem dX3_readText_66 : decode cX3_readText 66 = .ok (.iload_n 3, 1) := by decide +kernel
theorem dX3_readText_67 : decode cX3_readText 67 = .ok (.ifCond .eq 40, 3) := by decide +kernel
theorem dX3_readText_70 : decode cX3_readText 70 = .ok (.aload_n 0, 1) := by decide +kernel
theorem dX3_readText_71 : decode cX3_readText 71 = .ok (.getfield 45, 3) := by decide +kernel
theorem dX3_readText_74 : decode cX3_readText 74 = .ok (.ifCond .eq 14, 3) := by decide +kernel
theorem dX3_readText_77 : decode cX3_readText 77 = .ok (.aload_n 0, 1) := by decide +kernel
theorem dX3_readText_78 : decode cX3_readText 78 = .ok (.getfield 45, 3) := by decide +kernel
theorem dX3_readText_81 : decode cX3_readText 81 = .ok (.iconst 3, 1) := by decide +kernel
theorem dX3_readText_82 : decode cX3_readText 82 = .ok (.if_icmp .eq 6, 3) := by decide +kernel
theorem dX3_readText_85 : decode cX3_readText 85 = .ok (.goto 22, 3) := by decide +kernel
theorem dX3_readText_88 : decode cX3_readText 88 = .ok (.aload_n 0, 1) := by decide +kernel
theorem dX3_readText_89 : decode cX3_readText 89 = .ok (.getfield 45, 3) := by decide +kernel
theorem dX3_readText_92 : decode cX3_readText 92 = .ok (.ifCond .ne 5, 3) := by decide +kernel
theorem dX3_readText_95 : decode cX3_readText 95 = .ok (.iload_n 1, 1) := by decide +kernel
theorem dX3_readText_96 : decode cX3_readText 96 = .ok (.ireturn, 1) := by decide +kernel
theorem dX3_readText_97 : decode cX3_readText 97 = .ok (.aload_n 0, 1) := by decide +kernel
theorem dX3_readText_98 : decode cX3_readText 98 = .ok (.invokevirtual 19, 3) := by decide +kernel
theorem dX3_readText_101 : decode cX3_readText 101 = .ok (.iinc 1 1, 3) := by decide +kernel
theorem dX3_readText_104 : decode cX3_readText 104 = .ok (.goto (-82), 3) := by decide +kernel
theorem dX3_readText_107 : decode cX3_readText 107 = .ok (.iconst (-1), 1) := by decide +kernel
theorem dX3_readText_108 : decode cX3_readText 108 = .ok (.aload_n 0, 1) := by decide +kernel
theorem dX3_readText_109 : decode cX3_readText 109 = .ok (.getfield 49, 3) := by decide +kernel
theorem dX3_readText_112 : decode cX3_readText 112 = .ok (.isub, 1) := by decide +kernel
theorem dX3_readText_113 : decode cX3_readText 113 = .ok (.ireturn, 1) := by decide +kernel
theorem dX3_readEgg_0 : decode cX3_readEgg 0 = .ok (.aload_n 0, 1) := by decide +kernel
theorem dX3_readEgg_1 : decode cX3_readEgg 1 = .ok (.getfield 15, 3) := by decide +kernel
theorem dX3_readEgg_4 : decode cX3_readEgg 4 = .ok (.invokevirtual 52, 3) := by decide +kernel
theorem dX3_readEgg_7 : decode cX3_readEgg 7 = .ok (.istore_n 2, 1) := by decide +kernel
theorem dX3_readEgg_8 : decode cX3_readEgg 8 = .ok (.iload_n 2, 1) := by decide +kernel
theorem dX3_readEgg_9 : decode cX3_readEgg 9 = .ok (.ifCond .ge 5, 3) := by decide +kernel
theorem dX3_readEgg_12 : decode cX3_readEgg 12 = .ok (.iconst 0, 1) := by decide +kernel
theorem dX3_readEgg_13 : decode cX3_readEgg 13 = .ok (.ireturn, 1) := by decide +kernel
theorem dX3_readEgg_14 : decode cX3_readEgg 14 = .ok (.aload_n 0, 1) := by decide +kernel
theorem dX3_readEgg_15 : decode cX3_readEgg 15 = .ok (.invokevirtual 19, 3) := by decide +kernel
theorem dX3_readEgg_18 : decode cX3_readEgg 18 = .ok (.aload_n 0, 1) := by decide +kernel
theorem dX3_readEgg_19 : decode cX3_readEgg 19 = .ok (.iconst 1, 1) := by decide +kernel
theorem dX3_readEgg_20 : decode cX3_readEgg 20 = .ok (.bipush 99, 2) := by decide +kernel
theorem dX3_readEgg_22 : decode cX3_readEgg 22 = .ok (.invokevirtual 57, 3) := by decide +kernel
theorem dX3_readEgg_25 : decode cX3_readEgg 25 = .ok (.istore_n 3, 1) := by decide +kernel
theorem dX3_readEgg_26 : decode cX3_readEgg 26 = .ok (.iload_n 3, 1) := by decide +kernel
theorem dX3_readEgg_27 : decode cX3_readEgg 27 = .ok (.ifCond .ge 7, 3) := by decide +kernel
theorem dX3_readEgg_30 : decode cX3_readEgg 30 = .ok (.iconst (-1), 1) := by decide +kernel
theorem dX3_readEgg_31 : decode cX3_readEgg 31 = .ok (.goto 12, 3) := by decide +kernel
theorem dX3_readEgg_34 : decode cX3_readEgg 34 = .ok (.aload_n 0, 1) := by decide +kernel
theorem dX3_readEgg_35 : decode cX3_readEgg 35 = .ok (.ldc 61, 2) := by decide +kernel
theorem dX3_readEgg_37 : decode cX3_readEgg 37 = .ok (.bipush 99, 2) := by decide +kernel
theorem dX3_readEgg_39 : decode cX3_readEgg 39 = .ok (.iconst 0, 1) := by decide +kernel
theorem dX3_readEgg_40 : decode cX3_readEgg 40 = .ok (.invokevirtual 63, 3) := by decide +kernel
theorem dX3_readEgg_43 : decode cX3_readEgg 43 = .ok (.istore 4, 2) := by decide +kernel
theorem dX3_readEgg_45 : decode cX3_readEgg 45 = .ok (.iload 4, 2) := by decide +kernel
theorem dX3_readEgg_47 : decode cX3_readEgg 47 = .ok (.ifCond .ge 7, 3) := by decide +kernel
theorem dX3_readEgg_50 : decode cX3_readEgg 50 = .ok (.iconst (-1), 1) := by decide +kernel
theorem dX3_readEgg_51 : decode cX3_readEgg 51 = .ok (.goto 11, 3) := by decide +kernel
theorem dX3_readEgg_54 : decode cX3_readEgg 54 = .ok (.aload_n 0, 1) := by decide +kernel
theorem dX3_readEgg_55 : decode cX3_readEgg 55 = .ok (.ldc 67, 2) := by decide +kernel
theorem dX3_readEgg_57 : decode cX3_readEgg 57 = .ok (.iconst 3, 1) := by decide +kernel
theorem dX3_readEgg_58 : decode cX3_readEgg 58 = .ok (.iconst 0, 1) := by decide +kernel
theorem dX3_readEgg_59 : decode cX3_readEgg 59 = .ok (.invokevirtual 63, 3) := by decide +kernel
theorem dX3_readEgg_62 : decode cX3_readEgg 62 = .ok (.istore 5, 2) := by decide +kernel
theorem dX3_readEgg_64 : decode cX3_readEgg 64 = .ok (.iload 5, 2) := by decide +kernel
theorem dX3_readEgg_66 : decode cX3_readEgg 66 = .ok (.ifCond .ge 5, 3) := by decide +kernel
theorem dX3_readEgg_69 : decode cX3_readEgg 69 = .ok (.iconst 0, 1) := by decide +kernel
theorem dX3_readEgg_70 : decode cX3_readEgg 70 = .ok (.ireturn, 1) := by decide +kernel
theorem dX3_readEgg_71 : decode cX3_readEgg 71 = .ok (.aload_n 0, 1) := by decide +kernel
theorem dX3_readEgg_72 : decode cX3_readEgg 72 = .ok (.getfield 15, 3) := by decide +kernel
theorem dX3_readEgg_75 : decode cX3_readEgg 75 = .ok (.iload_n 2, 1) := by decide +kernel
theorem dX3_readEgg_76 : decode cX3_readEgg 76 = .ok (.iload_n 1, 1) := by decide +kernel
theorem dX3_readEgg_77 : decode cX3_readEgg 77 = .ok (.iload_n 3, 1) := by decide +kernel
theorem dX3_readEgg_78 : decode cX3_readEgg 78 = .ok (.iload 4, 2) := by decide +kernel
theorem dX3_readEgg_80 : decode cX3_readEgg 80 = .ok (.iload 5, 2) := by decide +kernel
theorem dX3_readEgg_82 : decode cX3_readEgg 82 = .ok (.invokevirtual 69, 3) := by decide +kernel
theorem dX3_readEgg_85 : decode cX3_readEgg 85 = .ok (.iconst 1, 1) := by decide +kernel
theorem dX3_readEgg_86 : decode cX3_readEgg 86 = .ok (.ireturn, 1) := by decide +kernel
theorem dX3_readHen_0 : decode cX3_readHen 0 = .ok (.aload_n 0, 1) := by decide +kernel
theorem dX3_readHen_1 : decode cX3_readHen 1 = .ok (.invokevirtual 19, 3) := by decide +kernel
theorem dX3_readHen_4 : decode cX3_readHen 4 = .ok (.aload_n 0, 1) := by decide +kernel
theorem dX3_readHen_5 : decode cX3_readHen 5 = .ok (.iconst 0, 1) := by decide +kernel
theorem dX3_readHen_6 : decode cX3_readHen 6 = .ok (.iconst 3, 1) := by decide +kernel
theorem dX3_readHen_7 : decode cX3_readHen 7 = .ok (.invokevirtual 57, 3) := by decide +kernel
theorem dX3_readHen_10 : decode cX3_readHen 10 = .ok (.istore_n 1, 1) := by decide +kernel
theorem dX3_readHen_11 : decode cX3_readHen 11 = .ok (.iload_n 1, 1) := by decide +kernel
theorem dX3_readHen_12 : decode cX3_readHen 12 = .ok (.ifCond .ge 7, 3) := by decide +kernel
theorem dX3_readHen_15 : decode cX3_readHen 15 = .ok (.iconst (-1), 1) := by decide +kernel
theorem dX3_readHen_16 : decode cX3_readHen 16 = .ok (.goto 10, 3) := by decide +kernel
theorem dX3_readHen_19 : decode cX3_readHen 19 = .ok (.aload_n 0, 1) := by decide +kernel
theorem dX3_readHen_20 : decode cX3_readHen 20 = .ok (.iconst 0, 1) := by decide +kernel
theorem dX3_readHen_21 : decode cX3_readHen 21 = .ok (.bipush 30, 2) := by decide +kernel
theorem dX3_readHen_23 : decode cX3_readHen 23 = .ok (.invokevirtual 57, 3) := by decide +kernel
theorem dX3_readHen_26 : decode cX3_readHen 26 = .ok (.istore_n 2, 1) := by decide +kernel
theorem dX3_readHen_27 : decode cX3_readHen 27 = .ok (.iload_n 2, 1) := by decide +kernel
theorem dX3_readHen_28 : decode cX3_readHen 28 = .ok (.ifCond .ge 5, 3) := by decide +kernel
theorem dX3_readHen_31 : decode cX3_readHen 31 = .ok (.iconst 0, 1) := by decide +kernel
theorem dX3_readHen_32 : decode cX3_readHen 32 = .ok (.ireturn, 1) := by decide +kernel
theorem dX3_readHen_33 : decode cX3_readHen 33 = .ok (.aload_n 0, 1) := by decide +kernel
theorem dX3_readHen_34 : decode cX3_readHen 34 = .ok (.getfield 15, 3) := by decide +kernel
theorem dX3_readHen_37 : decode cX3_readHen 37 = .ok (.getfield 73, 3) := by decide +kernel
theorem dX3_readHen_40 : decode cX3_readHen 40 = .ok (.iload_n 1, 1) := by decide +kernel
theorem dX3_readHen_41 : decode cX3_readHen 41 = .ok (.iconst 0, 1) := by decide +kernel
theorem dX3_readHen_42 : decode cX3_readHen 42 = .ok (.iload_n 2, 1) := by decide +kernel
theorem dX3_readHen_43 : decode cX3_readHen 43 = .ok (.invokevirtual 77, 3) := by decide +kernel
theorem dX3_readHen_46 : decode cX3_readHen 46 = .ok (.iconst 1, 1) := by decide +kernel
theorem dX3_readHen_47 : decode cX3_readHen 47 = .ok (.ireturn, 1) := by decide +kernel
theorem dX3_readWork_0 : decode cX3_readWork 0 = .ok (.aload_n 0, 1) := by decide +kernel
theorem dX3_readWork_1 : decode cX3_readWork 1 = .ok (.ldc 83, 2) := by decide +kernel
theorem dX3_readWork_3 : decode cX3_readWork 3 = .ok (.invokevirtual 34, 3) := by decide +kernel
theorem dX3_readWork_6 : decode cX3_readWork 6 = .ok (.ifCond .ne 5, 3) := by decide +kernel
theorem dX3_readWork_9 : decode cX3_readWork 9 = .ok (.iconst 0, 1) := by decide +kernel
theorem dX3_readWork_10 : decode cX3_readWork 10 = .ok (.ireturn, 1) := by decide +kernel
theorem dX3_readWork_11 : decode cX3_readWork 11 = .ok (.aload_n 0, 1) := by decide +kernel
theorem dX3_readWork_12 : decode cX3_readWork 12 = .ok (.invokevirtual 19, 3) := by decide +kernel
theorem dX3_readWork_15 : decode cX3_readWork 15 = .ok (.aload_n 0, 1) := by decide +kernel
theorem dX3_readWork_16 : decode cX3_readWork 16 = .ok (.iconst 0, 1) := by decide +kernel
theorem dX3_readWork_17 : decode cX3_readWork 17 = .ok (.iconst 5, 1) := by decide +kernel
theorem dX3_readWork_18 : decode cX3_readWork 18 = .ok (.invokevirtual 57, 3) := by decide +kernel
theorem dX3_readWork_21 : decode cX3_readWork 21 = .ok (.istore_n 1, 1) := by decide +kernel
theorem dX3_readWork_22 : decode cX3_readWork 22 = .ok (.iload_n 1, 1) := by decide +kernel
theorem dX3_readWork_23 : decode cX3_readWork 23 = .ok (.ifCond .ge 7, 3) := by decide +kernel
theorem dX3_readWork_26 : decode cX3_readWork 26 = .ok (.iconst (-1), 1) := by decide +kernel
theorem dX3_readWork_27 : decode cX3_readWork 27 = .ok (.goto 11, 3) := by decide +kernel
theorem dX3_readWork_30 : decode cX3_readWork 30 = .ok (.aload_n 0, 1) := by decide +kernel
theorem dX3_readWork_31 : decode cX3_readWork 31 = .ok (.iconst 0, 1) := by decide +kernel
theorem dX3_readWork_32 : decode cX3_readWork 32 = .ok (.sipush 999, 3) := by decide +kernel
theorem dX3_readWork_35 : decode cX3_readWork 35 = .ok (.invokevirtual 57, 3) := by decide +kernel
theorem dX3_readWork_38 : decode cX3_readWork 38 = .ok (.istore_n 2, 1) := by decide +kernel
theorem dX3_readWork_39 : decode cX3_readWork 39 = .ok (.iload_n 2, 1) := by decide +kernel
theorem dX3_readWork_40 : decode cX3_readWork 40 = .ok (.ifCond .ge 7, 3) := by decide +kernel
theorem dX3_readWork_43 : decode cX3_readWork 43 = .ok (.iconst (-1), 1) := by decide +kernel
theorem dX3_readWork_44 : decode cX3_readWork 44 = .ok (.goto 23, 3) := by decide +kernel
theorem dX3_readWork_47 : decode cX3_readWork 47 = .ok (.aload_n 0, 1) := by decide +kernel
theorem dX3_readWork_48 : decode cX3_readWork 48 = .ok (.ldc 85, 2) := by decide +kernel
theorem dX3_readWork_50 : decode cX3_readWork 50 = .ok (.ldc 87, 2) := by decide +kernel
theorem dX3_readWork_52 : decode cX3_readWork 52 = .ok (.aload_n 0, 1) := by decide +kernel
theorem dX3_readWork_53 : decode cX3_readWork 53 = .ok (.getfield 15, 3) := by decide +kernel
theorem dX3_readWork_56 : decode cX3_readWork 56 = .ok (.getfield 88, 3) := by decide +kernel
theorem dX3_readWork_59 : decode cX3_readWork 59 = .ok (.iload_n 1, 1) := by decide +kernel
theorem dX3_readWork_60 : decode cX3_readWork 60 = .ok (.iconst 1, 1) := by decide +kernel
theorem dX3_readWork_61 : decode cX3_readWork 61 = .ok (.invokevirtual 91, 3) := by decide +kernel
theorem dX3_readWork_64 : decode cX3_readWork 64 = .ok (.invokevirtual 63, 3) := by decide +kernel
theorem dX3_readWork_67 : decode cX3_readWork 67 = .ok (.istore_n 3, 1) := by decide +kernel
theorem dX3_readWork_68 : decode cX3_readWork 68 = .ok (.iload_n 3, 1) := by decide +kernel
theorem dX3_readWork_69 : decode cX3_readWork 69 = .ok (.ifCond .ge 7, 3) := by decide +kernel
theorem dX3_readWork_72 : decode cX3_readWork 72 = .ok (.iconst (-1), 1) := by decide +kernel
theorem dX3_readWork_73 : decode cX3_readWork 73 = .ok (.goto 23, 3) := by decide +kernel
theorem dX3_readWork_76 : decode cX3_readWork 76 = .ok (.aload_n 0, 1) := by decide +kernel
theorem dX3_readWork_77 : decode cX3_readWork 77 = .ok (.ldc 94, 2) := by decide +kernel
theorem dX3_readWork_79 : decode cX3_readWork 79 = .ok (.bipush 99, 2) := by decide +kernel
theorem dX3_readWork_81 : decode cX3_readWork 81 = .ok (.aload_n 0, 1) := by decide +kernel
theorem dX3_readWork_82 : decode cX3_readWork 82 = .ok (.getfield 15, 3) := by decide +kernel
theorem dX3_readWork_85 : decode cX3_readWork 85 = .ok (.getfield 88, 3) := by decide +kernel
theorem dX3_readWork_88 : decode cX3_readWork 88 = .ok (.iload_n 1, 1) := by decide +kernel
theorem dX3_readWork_89 : decode cX3_readWork 89 = .ok (.iconst 2, 1) := by decide +kernel
theorem dX3_readWork_90 : decode cX3_readWork 90 = .ok (.invokevirtual 91, 3) := by decide +kernel
theorem dX3_readWork_93 : decode cX3_readWork 93 = .ok (.invokevirtual 63, 3) := by decide +kernel
theorem dX3_readWork_96 : decode cX3_readWork 96 = .ok (.istore 4, 2) := by decide +kernel
theorem dX3_readWork_98 : decode cX3_readWork 98 = .ok (.iload 4, 2) := by decide +kernel
theorem dX3_readWork_100 : decode cX3_readWork 100 = .ok (.ifCond .ge 5, 3) := by decide +kernel
theorem dX3_readWork_103 : decode cX3_readWork 103 = .ok (.iconst 0, 1) := by decide +kernel
theorem dX3_readWork_104 : decode cX3_readWork 104 = .ok (.ireturn, 1) := by decide +kernel
theorem dX3_readWork_105 : decode cX3_readWork 105 = .ok (.aload_n 0, 1) := by decide +kernel
theorem dX3_readWork_106 : decode cX3_readWork 106 = .ok (.getfield 15, 3) := by decide +kernel
theorem dX3_readWork_109 : decode cX3_readWork 109 = .ok (.getfield 88, 3) := by decide +kernel
theorem dX3_readWork_112 : decode cX3_readWork 112 = .ok (.iload_n 1, 1) := by decide +kernel
theorem dX3_readWork_113 : decode cX3_readWork 113 = .ok (.iconst 0, 1) := by decide +kernel
theorem dX3_readWork_114 : decode cX3_readWork 114 = .ok (.iload_n 2, 1) := by decide +kernel
theorem dX3_readWork_115 : decode cX3_readWork 115 = .ok (.invokevirtual 77, 3) := by decide +kernel
theorem dX3_readWork_118 : decode cX3_readWork 118 = .ok (.aload_n 0, 1) := by decide +kernel
theorem dX3_readWork_119 : decode cX3_readWork 119 = .ok (.getfield 15, 3) := by decide +kernel
theorem dX3_readWork_122 : decode cX3_readWork 122 = .ok (.getfield 88, 3) := by decide +kernel
theorem dX3_readWork_125 : decode cX3_readWork 125 = .ok (.iload_n 1, 1) := by decide +kernel
theorem dX3_readWork_126 : decode cX3_readWork 126 = .ok (.iconst 1, 1) := by decide +kernel
theorem dX3_readWork_127 : decode cX3_readWork 127 = .ok (.iload_n 3, 1) := by decide +kernel
theorem dX3_readWork_128 : decode cX3_readWork 128 = .ok (.invokevirtual 77, 3) := by decide +kernel
theorem dX3_readWork_131 : decode cX3_readWork 131 = .ok (.aload_n 0, 1) := by decide +kernel
theorem dX3_readWork_132 : decode cX3_readWork 132 = .ok (.getfield 15, 3) := by decide +kernel
theorem dX3_readWork_135 : decode cX3_readWork 135 = .ok (.getfield 88, 3) := by decide +kernel
theorem dX3_readWork_138 : decode cX3_readWork 138 = .ok (.iload_n 1, 1) := by decide +kernel
theorem dX3_readWork_139 : decode cX3_readWork 139 = .ok (.iconst 2, 1) := by decide +kernel
theorem dX3_readWork_140 : decode cX3_readWork 140 = .ok (.iload 4, 2) := by decide +kernel
theorem dX3_readWork_142 : decode cX3_readWork 142 = .ok (.invokevirtual 77, 3) := by decide +kernel
theorem dX3_readWork_145 : decode cX3_readWork 145 = .ok (.iconst 1, 1) := by decide +kernel
theorem dX3_readWork_146 : decode cX3_readWork 146 = .ok (.ireturn, 1) := by decide +kernel
theorem dX3_readPerhaps_0 : decode cX3_readPerhaps 0 = .ok (.aload_n 0, 1) := by decide +kernel
theorem dX3_readPerhaps_1 : decode cX3_readPerhaps 1 = .ok (.aload_n 1, 1) := by decide +kernel
theorem dX3_readPerhaps_2 : decode cX3_readPerhaps 2 = .ok (.invokevirtual 34, 3) := by decide +kernel
theorem dX3_readPerhaps_5 : decode cX3_readPerhaps 5 = .ok (.ifCond .ne 5, 3) := by decide +kernel
theorem dX3_readPerhaps_8 : decode cX3_readPerhaps 8 = .ok (.iload_n 3, 1) := by decide +kernel
theorem dX3_readPerhaps_9 : decode cX3_readPerhaps 9 = .ok (.ireturn, 1) := by decide +kernel
theorem dX3_readPerhaps_10 : decode cX3_readPerhaps 10 = .ok (.aload_n 0, 1) := by decide +kernel
theorem dX3_readPerhaps_11 : decode cX3_readPerhaps 11 = .ok (.invokevirtual 19, 3) := by decide +kernel
theorem dX3_readPerhaps_14 : decode cX3_readPerhaps 14 = .ok (.aload_n 0, 1) := by decide +kernel
theorem dX3_readPerhaps_15 : decode cX3_readPerhaps 15 = .ok (.iconst 0, 1) := by decide +kernel
theorem dX3_readPerhaps_16 : decode cX3_readPerhaps 16 = .ok (.iload_n 2, 1) := by decide +kernel
theorem dX3_readPerhaps_17 : decode cX3_readPerhaps 17 = .ok (.invokevirtual 57, 3) := by decide +kernel
theorem dX3_readPerhaps_20 : decode cX3_readPerhaps 20 = .ok (.ireturn, 1) := by decide +kernel
theorem dX3_readNumber_0 : decode cX3_readNumber 0 = .ok (.aload_n 0, 1) := by decide +kernel
theorem dX3_readNumber_1 : decode cX3_readNumber 1 = .ok (.getfield 45, 3) := by decide +kernel
theorem dX3_readNumber_4 : decode cX3_readNumber 4 = .ok (.iconst 2, 1) := by decide +kernel
theorem dX3_readNumber_5 : decode cX3_readNumber 5 = .ok (.if_icmp .ne 19, 3) := by decide +kernel
theorem dX3_readNumber_8 : decode cX3_readNumber 8 = .ok (.aload_n 0, 1) := by decide +kernel
theorem dX3_readNumber_9 : decode cX3_readNumber 9 = .ok (.getfield 96, 3) := by decide +kernel
theorem dX3_readNumber_12 : decode cX3_readNumber 12 = .ok (.iload_n 1, 1) := by decide +kernel
theorem dX3_readNumber_13 : decode cX3_readNumber 13 = .ok (.if_icmp .lt 11, 3) := by decide +kernel
theorem dX3_readNumber_16 : decode cX3_readNumber 16 = .ok (.aload_n 0, 1) := by decide +kernel
theorem dX3_readNumber_17 : decode cX3_readNumber 17 = .ok (.getfield 96, 3) := by decide +kernel
theorem dX3_readNumber_20 : decode cX3_readNumber 20 = .ok (.iload_n 2, 1) := by decide +kernel
theorem dX3_readNumber_21 : decode cX3_readNumber 21 = .ok (.if_icmp .le 5, 3) := by decide +kernel
theorem dX3_readNumber_24 : decode cX3_readNumber 24 = .ok (.iconst (-1), 1) := by decide +kernel
theorem dX3_readNumber_25 : decode cX3_readNumber 25 = .ok (.ireturn, 1) := by decide +kernel
theorem dX3_readNumber_26 : decode cX3_readNumber 26 = .ok (.aload_n 0, 1) := by decide +kernel
theorem dX3_readNumber_27 : decode cX3_readNumber 27 = .ok (.getfield 96, 3) := by decide +kernel
theorem dX3_readNumber_30 : decode cX3_readNumber 30 = .ok (.istore_n 3, 1) := by decide +kernel
theorem dX3_readNumber_31 : decode cX3_readNumber 31 = .ok (.aload_n 0, 1) := by decide +kernel
theorem dX3_readNumber_32 : decode cX3_readNumber 32 = .ok (.invokevirtual 19, 3) := by decide +kernel
theorem dX3_readNumber_35 : decode cX3_readNumber 35 = .ok (.iload_n 3, 1) := by decide +kernel
theorem dX3_readNumber_36 : decode cX3_readNumber 36 = .ok (.ireturn, 1) := by decide +kernel
theorem dX3_kindAhead_0 : decode cX3_kindAhead 0 = .ok (.iconst 0, 1) := by decide +kernel
theorem dX3_kindAhead_1 : decode cX3_kindAhead 1 = .ok (.istore_n 1, 1) := by decide +kernel
theorem dX3_kindAhead_2 : decode cX3_kindAhead 2 = .ok (.iload_n 1, 1) := by decide +kernel
theorem dX3_kindAhead_3 : decode cX3_kindAhead 3 = .ok (.bipush 7, 2) := by decide +kernel
theorem dX3_kindAhead_5 : decode cX3_kindAhead 5 = .ok (.if_icmp .ge 22, 3) := by decide +kernel
theorem dX3_kindAhead_8 : decode cX3_kindAhead 8 = .ok (.aload_n 0, 1) := by decide +kernel
theorem dX3_kindAhead_9 : decode cX3_kindAhead 9 = .ok (.iload_n 1, 1) := by decide +kernel
theorem dX3_kindAhead_10 : decode cX3_kindAhead 10 = .ok (.invokestatic 101, 3) := by decide +kernel
theorem dX3_kindAhead_13 : decode cX3_kindAhead 13 = .ok (.invokevirtual 34, 3) := by decide +kernel
theorem dX3_kindAhead_16 : decode cX3_kindAhead 16 = .ok (.ifCond .eq 5, 3) := by decide +kernel
theorem dX3_kindAhead_19 : decode cX3_kindAhead 19 = .ok (.iload_n 1, 1) := by decide +kernel
theorem dX3_kindAhead_20 : decode cX3_kindAhead 20 = .ok (.ireturn, 1) := by decide +kernel
theorem dX3_kindAhead_21 : decode cX3_kindAhead 21 = .ok (.iinc 1 1, 3) := by decide +kernel
theorem dX3_kindAhead_24 : decode cX3_kindAhead 24 = .ok (.goto (-22), 3) := by decide +kernel
theorem dX3_kindAhead_27 : decode cX3_kindAhead 27 = .ok (.iconst (-1), 1) := by decide +kernel
theorem dX3_kindAhead_28 : decode cX3_kindAhead 28 = .ok (.ireturn, 1) := by decide +kernel
theorem dX3_wordOf_0 : decode cX3_wordOf 0 = .ok (.iload_n 0, 1) := by decide +kernel
theorem dX3_wordOf_1 : decode cX3_wordOf 1 = .ok (.tableswitch 57 1 6 #[39, 42, 45, 48, 51, 54], 39) := by decide +kernel
theorem dX3_wordOf_40 : decode cX3_wordOf 40 = .ok (.ldc 105, 2) := by decide +kernel
theorem dX3_wordOf_42 : decode cX3_wordOf 42 = .ok (.areturn, 1) := by decide +kernel
theorem dX3_wordOf_43 : decode cX3_wordOf 43 = .ok (.ldc 107, 2) := by decide +kernel
theorem dX3_wordOf_45 : decode cX3_wordOf 45 = .ok (.areturn, 1) := by decide +kernel
theorem dX3_wordOf_46 : decode cX3_wordOf 46 = .ok (.ldc 109, 2) := by decide +kernel
theorem dX3_wordOf_48 : decode cX3_wordOf 48 = .ok (.areturn, 1) := by decide +kernel
theorem dX3_wordOf_49 : decode cX3_wordOf 49 = .ok (.ldc 111, 2) := by decide +kernel
theorem dX3_wordOf_51 : decode cX3_wordOf 51 = .ok (.areturn, 1) := by decide +kernel
theorem dX3_wordOf_52 : decode cX3_wordOf 52 = .ok (.ldc 113, 2) := by decide +kernel
theorem dX3_wordOf_54 : decode cX3_wordOf 54 = .ok (.areturn, 1) := by decide +kernel
theorem dX3_wordOf_55 : decode cX3_wordOf 55 = .ok (.ldc 115, 2) := by decide +kernel
theorem dX3_wordOf_57 : decode cX3_wordOf 57 = .ok (.areturn, 1) := by decide +kernel
theorem dX3_wordOf_58 : decode cX3_wordOf 58 = .ok (.ldc 117, 2) := by decide +kernel
theorem dX3_wordOf_60 : decode cX3_wordOf 60 = .ok (.areturn, 1) := by decide +kernel
theorem dX3_isAhead_0 : decode cX3_isAhead 0 = .ok (.aload_n 0, 1) := by decide +kernel
theorem dX3_isAhead_1 : decode cX3_isAhead 1 = .ok (.getfield 45, 3) := by decide +kernel
theorem dX3_isAhead_4 : decode cX3_isAhead 4 = .ok (.iconst 1, 1) := by decide +kernel
theorem dX3_isAhead_5 : decode cX3_isAhead 5 = .ok (.if_icmp .ne 23, 3) := by decide +kernel
theorem dX3_isAhead_8 : decode cX3_isAhead 8 = .ok (.aload_n 1, 1) := by decide +kernel
theorem dX3_isAhead_9 : decode cX3_isAhead 9 = .ok (.ifnull 19, 3) := by decide +kernel
theorem dX3_isAhead_12 : decode cX3_isAhead 12 = .ok (.aload_n 1, 1) := by decide +kernel
theorem dX3_isAhead_13 : decode cX3_isAhead 13 = .ok (.invokevirtual 119, 3) := by decide +kernel
theorem dX3_isAhead_16 : decode cX3_isAhead 16 = .ok (.aload_n 0, 1) := by decide +kernel
theorem dX3_isAhead_17 : decode cX3_isAhead 17 = .ok (.getfield 124, 3) := by decide +kernel
theorem dX3_isAhead_20 : decode cX3_isAhead 20 = .ok (.aload_n 0, 1) := by decide +kernel
theorem dX3_isAhead_21 : decode cX3_isAhead 21 = .ok (.getfield 49, 3) := by decide +kernel
theorem dX3_isAhead_24 : decode cX3_isAhead 24 = .ok (.isub, 1) := by decide +kernel
theorem dX3_isAhead_25 : decode cX3_isAhead 25 = .ok (.if_icmp .eq 5, 3) := by decide +kernel
theorem dX3_isAhead_28 : decode cX3_isAhead 28 = .ok (.iconst 0, 1) := by decide +kernel
theorem dX3_isAhead_29 : decode cX3_isAhead 29 = .ok (.ireturn, 1) := by decide +kernel
theorem dX3_isAhead_30 : decode cX3_isAhead 30 = .ok (.iconst 0, 1) := by decide +kernel
theorem dX3_isAhead_31 : decode cX3_isAhead 31 = .ok (.istore_n 2, 1) := by decide +kernel
theorem dX3_isAhead_32 : decode cX3_isAhead 32 = .ok (.iload_n 2, 1) := by decide +kernel
theorem dX3_isAhead_33 : decode cX3_isAhead 33 = .ok (.aload_n 1, 1) := by decide +kernel
theorem dX3_isAhead_34 : decode cX3_isAhead 34 = .ok (.invokevirtual 119, 3) := by decide +kernel
theorem dX3_isAhead_37 : decode cX3_isAhead 37 = .ok (.if_icmp .ge 32, 3) := by decide +kernel
theorem dX3_isAhead_40 : decode cX3_isAhead 40 = .ok (.aload_n 1, 1) := by decide +kernel
theorem dX3_isAhead_41 : decode cX3_isAhead 41 = .ok (.iload_n 2, 1) := by decide +kernel
theorem dX3_isAhead_42 : decode cX3_isAhead 42 = .ok (.invokevirtual 127, 3) := by decide +kernel
theorem dX3_isAhead_45 : decode cX3_isAhead 45 = .ok (.aload_n 0, 1) := by decide +kernel
theorem dX3_isAhead_46 : decode cX3_isAhead 46 = .ok (.getfield 9, 3) := by decide +kernel
theorem dX3_isAhead_49 : decode cX3_isAhead 49 = .ok (.aload_n 0, 1) := by decide +kernel
theorem dX3_isAhead_50 : decode cX3_isAhead 50 = .ok (.getfield 49, 3) := by decide +kernel
theorem dX3_isAhead_53 : decode cX3_isAhead 53 = .ok (.iload_n 2, 1) := by decide +kernel
theorem dX3_isAhead_54 : decode cX3_isAhead 54 = .ok (.iadd, 1) := by decide +kernel
theorem dX3_isAhead_55 : decode cX3_isAhead 55 = .ok (.invokevirtual 131, 3) := by decide +kernel
theorem dX3_isAhead_58 : decode cX3_isAhead 58 = .ok (.if_icmp .eq 5, 3) := by decide +kernel
theorem dX3_isAhead_61 : decode cX3_isAhead 61 = .ok (.iconst 0, 1) := by decide +kernel
theorem dX3_isAhead_62 : decode cX3_isAhead 62 = .ok (.ireturn, 1) := by decide +kernel
theorem dX3_isAhead_63 : decode cX3_isAhead 63 = .ok (.iinc 2 1, 3) := by decide +kernel
theorem dX3_isAhead_66 : decode cX3_isAhead 66 = .ok (.goto (-34), 3) := by decide +kernel
theorem dX3_isAhead_69 : decode cX3_isAhead 69 = .ok (.iconst 1, 1) := by decide +kernel
theorem dX3_isAhead_70 : decode cX3_isAhead 70 = .ok (.ireturn, 1) := by decide +kernel
theorem dX3_advance_0 : decode cX3_advance 0 = .ok (.aload_n 0, 1) := by decide +kernel
theorem dX3_advance_1 : decode cX3_advance 1 = .ok (.getfield 124, 3) := by decide +kernel
theorem dX3_advance_4 : decode cX3_advance 4 = .ok (.bipush 120, 2) := by decide +kernel
theorem dX3_advance_6 : decode cX3_advance 6 = .ok (.if_icmp .ge 32, 3) := by decide +kernel
theorem dX3_advance_9 : decode cX3_advance 9 = .ok (.aload_n 0, 1) := by decide +kernel
theorem dX3_advance_10 : decode cX3_advance 10 = .ok (.getfield 9, 3) := by decide +kernel
theorem dX3_advance_13 : decode cX3_advance 13 = .ok (.aload_n 0, 1) := by decide +kernel
theorem dX3_advance_14 : decode cX3_advance 14 = .ok (.getfield 124, 3) := by decide +kernel
theorem dX3_advance_17 : decode cX3_advance 17 = .ok (.invokevirtual 131, 3) := by decide +kernel
theorem dX3_advance_20 : decode cX3_advance 20 = .ok (.bipush 32, 2) := by decide +kernel
theorem dX3_advance_22 : decode cX3_advance 22 = .ok (.if_icmp .ne 16, 3) := by decide +kernel
theorem dX3_advance_25 : decode cX3_advance 25 = .ok (.aload_n 0, 1) := by decide +kernel
theorem dX3_advance_26 : decode cX3_advance 26 = .ok (.dup, 1) := by decide +kernel
theorem dX3_advance_27 : decode cX3_advance 27 = .ok (.getfield 124, 3) := by decide +kernel
theorem dX3_advance_30 : decode cX3_advance 30 = .ok (.iconst 1, 1) := by decide +kernel
theorem dX3_advance_31 : decode cX3_advance 31 = .ok (.iadd, 1) := by decide +kernel
theorem dX3_advance_32 : decode cX3_advance 32 = .ok (.putfield 124, 3) := by decide +kernel
theorem dX3_advance_35 : decode cX3_advance 35 = .ok (.goto (-35), 3) := by decide +kernel
theorem dX3_advance_38 : decode cX3_advance 38 = .ok (.aload_n 0, 1) := by decide +kernel
theorem dX3_advance_39 : decode cX3_advance 39 = .ok (.aload_n 0, 1) := by decide +kernel
theorem dX3_advance_40 : decode cX3_advance 40 = .ok (.getfield 124, 3) := by decide +kernel
theorem dX3_advance_43 : decode cX3_advance 43 = .ok (.putfield 49, 3) := by decide +kernel
theorem dX3_advance_46 : decode cX3_advance 46 = .ok (.aload_n 0, 1) := by decide +kernel
theorem dX3_advance_47 : decode cX3_advance 47 = .ok (.aload_n 0, 1) := by decide +kernel
theorem dX3_advance_48 : decode cX3_advance 48 = .ok (.getfield 9, 3) := by decide +kernel
theorem dX3_advance_51 : decode cX3_advance 51 = .ok (.aload_n 0, 1) := by decide +kernel
theorem dX3_advance_52 : decode cX3_advance 52 = .ok (.getfield 124, 3) := by decide +kernel
theorem dX3_advance_55 : decode cX3_advance 55 = .ok (.invokevirtual 131, 3) := by decide +kernel
theorem dX3_advance_58 : decode cX3_advance 58 = .ok (.invokestatic 134, 3) := by decide +kernel
theorem dX3_advance_61 : decode cX3_advance 61 = .ok (.putfield 45, 3) := by decide +kernel
theorem dX3_advance_64 : decode cX3_advance 64 = .ok (.aload_n 0, 1) := by decide +kernel
theorem dX3_advance_65 : decode cX3_advance 65 = .ok (.iconst 0, 1) := by decide +kernel
theorem dX3_advance_66 : decode cX3_advance 66 = .ok (.putfield 96, 3) := by decide +kernel
theorem dX3_advance_69 : decode cX3_advance 69 = .ok (.aload_n 0, 1) := by decide +kernel
theorem dX3_advance_70 : decode cX3_advance 70 = .ok (.getfield 45, 3) := by decide +kernel
theorem dX3_advance_73 : decode cX3_advance 73 = .ok (.iconst 3, 1) := by decide +kernel
theorem dX3_advance_74 : decode cX3_advance 74 = .ok (.if_icmp .eq 11, 3) := by decide +kernel
theorem dX3_advance_77 : decode cX3_advance 77 = .ok (.aload_n 0, 1) := by decide +kernel
theorem dX3_advance_78 : decode cX3_advance 78 = .ok (.getfield 45, 3) := by decide +kernel
theorem dX3_advance_81 : decode cX3_advance 81 = .ok (.iconst 4, 1) := by decide +kernel
theorem dX3_advance_82 : decode cX3_advance 82 = .ok (.if_icmp .ne 14, 3) := by decide +kernel
theorem dX3_advance_85 : decode cX3_advance 85 = .ok (.aload_n 0, 1) := by decide +kernel
theorem dX3_advance_86 : decode cX3_advance 86 = .ok (.dup, 1) := by decide +kernel
theorem dX3_advance_87 : decode cX3_advance 87 = .ok (.getfield 124, 3) := by decide +kernel
theorem dX3_advance_90 : decode cX3_advance 90 = .ok (.iconst 1, 1) := by decide +kernel
theorem dX3_advance_91 : decode cX3_advance 91 = .ok (.iadd, 1) := by decide +kernel
theorem dX3_advance_92 : decode cX3_advance 92 = .ok (.putfield 124, 3) := by decide +kernel
theorem dX3_advance_95 : decode cX3_advance 95 = .ok (.return_, 1) := by decide +kernel
theorem dX3_advance_96 : decode cX3_advance 96 = .ok (.aload_n 0, 1) := by decide +kernel
theorem dX3_advance_97 : decode cX3_advance 97 = .ok (.getfield 45, 3) := by decide +kernel
theorem dX3_advance_100 : decode cX3_advance 100 = .ok (.ifCond .eq 89, 3) := by decide +kernel
theorem dX3_advance_103 : decode cX3_advance 103 = .ok (.aload_n 0, 1) := by decide +kernel
theorem dX3_advance_104 : decode cX3_advance 104 = .ok (.getfield 124, 3) := by decide +kernel
theorem dX3_advance_107 : decode cX3_advance 107 = .ok (.bipush 120, 2) := by decide +kernel
theorem dX3_advance_109 : decode cX3_advance 109 = .ok (.if_icmp .ge 80, 3) := by decide +kernel
theorem dX3_advance_112 : decode cX3_advance 112 = .ok (.aload_n 0, 1) := by decide +kernel
theorem dX3_advance_113 : decode cX3_advance 113 = .ok (.getfield 9, 3) := by decide +kernel
theorem dX3_advance_116 : decode cX3_advance 116 = .ok (.aload_n 0, 1) := by decide +kernel
theorem dX3_advance_117 : decode cX3_advance 117 = .ok (.getfield 124, 3) := by decide +kernel
theorem dX3_advance_120 : decode cX3_advance 120 = .ok (.invokevirtual 131, 3) := by decide +kernel
theorem dX3_advance_123 : decode cX3_advance 123 = .ok (.invokestatic 134, 3) := by decide +kernel
theorem dX3_advance_126 : decode cX3_advance 126 = .ok (.aload_n 0, 1) := by decide +kernel
theorem dX3_advance_127 : decode cX3_advance 127 = .ok (.getfield 45, 3) := by decide +kernel
theorem dX3_advance_130 : decode cX3_advance 130 = .ok (.if_icmp .ne 59, 3) := by decide +kernel
theorem dX3_advance_133 : decode cX3_advance 133 = .ok (.aload_n 0, 1) := by decide +kernel
theorem dX3_advance_134 : decode cX3_advance 134 = .ok (.aload_n 0, 1) := by decide +kernel
theorem dX3_advance_135 : decode cX3_advance 135 = .ok (.getfield 45, 3) := by decide +kernel
theorem dX3_advance_138 : decode cX3_advance 138 = .ok (.iconst 2, 1) := by decide +kernel
theorem dX3_advance_139 : decode cX3_advance 139 = .ok (.if_icmp .ne 33, 3) := by decide +kernel
theorem dX3_advance_142 : decode cX3_advance 142 = .ok (.aload_n 0, 1) := by decide +kernel
theorem dX3_advance_143 : decode cX3_advance 143 = .ok (.getfield 96, 3) := by decide +kernel
theorem dX3_advance_146 : decode cX3_advance 146 = .ok (.bipush 10, 2) := by decide +kernel
theorem dX3_advance_148 : decode cX3_advance 148 = .ok (.imul, 1) := by decide +kernel
theorem dX3_advance_149 : decode cX3_advance 149 = .ok (.aload_n 0, 1) := by decide +kernel
theorem dX3_advance_150 : decode cX3_advance 150 = .ok (.getfield 9, 3) := by decide +kernel
theorem dX3_advance_153 : decode cX3_advance 153 = .ok (.aload_n 0, 1) := by decide +kernel
theorem dX3_advance_154 : decode cX3_advance 154 = .ok (.getfield 124, 3) := by decide +kernel
theorem dX3_advance_157 : decode cX3_advance 157 = .ok (.invokevirtual 131, 3) := by decide +kernel
theorem dX3_advance_160 : decode cX3_advance 160 = .ok (.iadd, 1) := by decide +kernel
theorem dX3_advance_161 : decode cX3_advance 161 = .ok (.bipush 48, 2) := by decide +kernel
theorem dX3_advance_163 : decode cX3_advance 163 = .ok (.isub, 1) := by decide +kernel
theorem dX3_advance_164 : decode cX3_advance 164 = .ok (.ldc 137, 2) := by decide +kernel
theorem dX3_advance_166 : decode cX3_advance 166 = .ok (.invokestatic 138, 3) := by decide +kernel
theorem dX3_advance_169 : decode cX3_advance 169 = .ok (.goto 4, 3) := by decide +kernel
theorem dX3_advance_172 : decode cX3_advance 172 = .ok (.iconst 0, 1) := by decide +kernel
theorem dX3_advance_173 : decode cX3_advance 173 = .ok (.putfield 96, 3) := by decide +kernel
theorem dX3_advance_176 : decode cX3_advance 176 = .ok (.aload_n 0, 1) := by decide +kernel
theorem dX3_advance_177 : decode cX3_advance 177 = .ok (.dup, 1) := by decide +kernel
theorem dX3_advance_178 : decode cX3_advance 178 = .ok (.getfield 124, 3) := by decide +kernel
theorem dX3_advance_181 : decode cX3_advance 181 = .ok (.iconst 1, 1) := by decide +kernel
theorem dX3_advance_182 : decode cX3_advance 182 = .ok (.iadd, 1) := by decide +kernel
theorem dX3_advance_183 : decode cX3_advance 183 = .ok (.putfield 124, 3) := by decide +kernel
theorem dX3_advance_186 : decode cX3_advance 186 = .ok (.goto (-90), 3) := by decide +kernel
theorem dX3_advance_189 : decode cX3_advance 189 = .ok (.return_, 1) := by decide +kernel
theorem dX3_sortOf_0 : decode cX3_sortOf 0 = .ok (.iload_n 0, 1) := by decide +kernel
theorem dX3_sortOf_1 : decode cX3_sortOf 1 = .ok (.bipush 97, 2) := by decide +kernel
theorem dX3_sortOf_3 : decode cX3_sortOf 3 = .ok (.if_icmp .lt 11, 3) := by decide +kernel
theorem dX3_sortOf_6 : decode cX3_sortOf 6 = .ok (.iload_n 0, 1) := by decide +kernel
theorem dX3_sortOf_7 : decode cX3_sortOf 7 = .ok (.bipush 122, 2) := by decide +kernel
theorem dX3_sortOf_9 : decode cX3_sortOf 9 = .ok (.if_icmp .gt 5, 3) := by decide +kernel
theorem dX3_sortOf_12 : decode cX3_sortOf 12 = .ok (.iconst 1, 1) := by decide +kernel
theorem dX3_sortOf_13 : decode cX3_sortOf 13 = .ok (.ireturn, 1) := by decide +kernel
theorem dX3_sortOf_14 : decode cX3_sortOf 14 = .ok (.iload_n 0, 1) := by decide +kernel
theorem dX3_sortOf_15 : decode cX3_sortOf 15 = .ok (.bipush 48, 2) := by decide +kernel
theorem dX3_sortOf_17 : decode cX3_sortOf 17 = .ok (.if_icmp .lt 11, 3) := by decide +kernel
theorem dX3_sortOf_20 : decode cX3_sortOf 20 = .ok (.iload_n 0, 1) := by decide +kernel
theorem dX3_sortOf_21 : decode cX3_sortOf 21 = .ok (.bipush 57, 2) := by decide +kernel
theorem dX3_sortOf_23 : decode cX3_sortOf 23 = .ok (.if_icmp .gt 5, 3) := by decide +kernel
theorem dX3_sortOf_26 : decode cX3_sortOf 26 = .ok (.iconst 2, 1) := by decide +kernel
theorem dX3_sortOf_27 : decode cX3_sortOf 27 = .ok (.ireturn, 1) := by decide +kernel
theorem dX3_sortOf_28 : decode cX3_sortOf 28 = .ok (.iload_n 0, 1) := by decide +kernel
theorem dX3_sortOf_29 : decode cX3_sortOf 29 = .ok (.ifCond .ge 5, 3) := by decide +kernel
theorem dX3_sortOf_32 : decode cX3_sortOf 32 = .ok (.iconst 0, 1) := by decide +kernel
theorem dX3_sortOf_33 : decode cX3_sortOf 33 = .ok (.ireturn, 1) := by decide +kernel
theorem dX3_sortOf_34 : decode cX3_sortOf 34 = .ok (.iload_n 0, 1) := by decide +kernel
theorem dX3_sortOf_35 : decode cX3_sortOf 35 = .ok (.bipush 59, 2) := by decide +kernel
theorem dX3_sortOf_37 : decode cX3_sortOf 37 = .ok (.if_icmp .ne 7, 3) := by decide +kernel
theorem dX3_sortOf_40 : decode cX3_sortOf 40 = .ok (.iconst 3, 1) := by decide +kernel
theorem dX3_sortOf_41 : decode cX3_sortOf 41 = .ok (.goto 4, 3) := by decide +kernel
theorem dX3_sortOf_44 : decode cX3_sortOf 44 = .ok (.iconst 4, 1) := by decide +kernel
theorem dX3_sortOf_45 : decode cX3_sortOf 45 = .ok (.ireturn, 1) := by decide +kernel
theorem dX4_init_0 : decode cX4_init 0 = .ok (.aload_n 0, 1) := by decide +kernel
theorem dX4_init_1 : decode cX4_init 1 = .ok (.invokespecial 1, 3) := by decide +kernel
theorem dX4_init_4 : decode cX4_init 4 = .ok (.aload_n 0, 1) := by decide +kernel
theorem dX4_init_5 : decode cX4_init 5 = .ok (.bipush 40, 2) := by decide +kernel
theorem dX4_init_7 : decode cX4_init 7 = .ok (.newarray .int, 2) := by decide +kernel
theorem dX4_init_9 : decode cX4_init 9 = .ok (.putfield 9, 3) := by decide +kernel
theorem dX4_init_12 : decode cX4_init 12 = .ok (.return_, 1) := by decide +kernel
theorem dX4_hasWidth_0 : decode cX4_hasWidth 0 = .ok (.iload_n 0, 1) := by decide +kernel
theorem dX4_hasWidth_1 : decode cX4_hasWidth 1 = .ok (.bipush 8, 2) := by decide +kernel
theorem dX4_hasWidth_3 : decode cX4_hasWidth 3 = .ok (.if_icmp .eq 15, 3) := by decide +kernel
theorem dX4_hasWidth_6 : decode cX4_hasWidth 6 = .ok (.iload_n 0, 1) := by decide +kernel
theorem dX4_hasWidth_7 : decode cX4_hasWidth 7 = .ok (.bipush 16, 2) := by decide +kernel
theorem dX4_hasWidth_9 : decode cX4_hasWidth 9 = .ok (.if_icmp .eq 9, 3) := by decide +kernel
theorem dX4_hasWidth_12 : decode cX4_hasWidth 12 = .ok (.iload_n 0, 1) := by decide +kernel
theorem dX4_hasWidth_13 : decode cX4_hasWidth 13 = .ok (.bipush 32, 2) := by decide +kernel
theorem dX4_hasWidth_15 : decode cX4_hasWidth 15 = .ok (.if_icmp .ne 7, 3) := by decide +kernel
theorem dX4_hasWidth_18 : decode cX4_hasWidth 18 = .ok (.iconst 1, 1) := by decide +kernel
theorem dX4_hasWidth_19 : decode cX4_hasWidth 19 = .ok (.goto 4, 3) := by decide +kernel
theorem dX4_hasWidth_22 : decode cX4_hasWidth 22 = .ok (.iconst 0, 1) := by decide +kernel
theorem dX4_hasWidth_23 : decode cX4_hasWidth 23 = .ok (.ireturn, 1) := by decide +kernel
theorem dX4_isMissing_0 : decode cX4_isMissing 0 = .ok (.aload_n 0, 1) := by decide +kernel
theorem dX4_isMissing_1 : decode cX4_isMissing 1 = .ok (.getfield 13, 3) := by decide +kernel
theorem dX4_isMissing_4 : decode cX4_isMissing 4 = .ok (.ifCond .ne 7, 3) := by decide +kernel
theorem dX4_isMissing_7 : decode cX4_isMissing 7 = .ok (.iconst 1, 1) := by decide +kernel
theorem dX4_isMissing_8 : decode cX4_isMissing 8 = .ok (.goto 4, 3) := by decide +kernel
theorem dX4_isMissing_11 : decode cX4_isMissing 11 = .ok (.iconst 0, 1) := by decide +kernel
theorem dX4_isMissing_12 : decode cX4_isMissing 12 = .ok (.ireturn, 1) := by decide +kernel
theorem dX4_makeNew_0 : decode cX4_makeNew 0 = .ok (.aload_n 0, 1) := by decide +kernel
theorem dX4_makeNew_1 : decode cX4_makeNew 1 = .ok (.iload_n 1, 1) := by decide +kernel
theorem dX4_makeNew_2 : decode cX4_makeNew 2 = .ok (.putfield 13, 3) := by decide +kernel
theorem dX4_makeNew_5 : decode cX4_makeNew 5 = .ok (.aload_n 0, 1) := by decide +kernel
theorem dX4_makeNew_6 : decode cX4_makeNew 6 = .ok (.iload_n 1, 1) := by decide +kernel
theorem dX4_makeNew_7 : decode cX4_makeNew 7 = .ok (.ifCond .ne 7, 3) := by decide +kernel
theorem dX4_makeNew_10 : decode cX4_makeNew 10 = .ok (.iconst 0, 1) := by decide +kernel
theorem dX4_makeNew_11 : decode cX4_makeNew 11 = .ok (.goto 13, 3) := by decide +kernel
theorem dX4_makeNew_14 : decode cX4_makeNew 14 = .ok (.iconst 0, 1) := by decide +kernel
theorem dX4_makeNew_15 : decode cX4_makeNew 15 = .ok (.iload_n 2, 1) := by decide +kernel
theorem dX4_makeNew_16 : decode cX4_makeNew 16 = .ok (.bipush 40, 2) := by decide +kernel
theorem dX4_makeNew_18 : decode cX4_makeNew 18 = .ok (.invokestatic 17, 3) := by decide +kernel
theorem dX4_makeNew_21 : decode cX4_makeNew 21 = .ok (.invokestatic 23, 3) := by decide +kernel
theorem dX4_makeNew_24 : decode cX4_makeNew 24 = .ok (.putfield 26, 3) := by decide +kernel
theorem dX4_makeNew_27 : decode cX4_makeNew 27 = .ok (.iconst 0, 1) := by decide +kernel
theorem dX4_makeNew_28 : decode cX4_makeNew 28 = .ok (.istore_n 3, 1) := by decide +kernel
theorem dX4_makeNew_29 : decode cX4_makeNew 29 = .ok (.iload_n 3, 1) := by decide +kernel
theorem dX4_makeNew_30 : decode cX4_makeNew 30 = .ok (.bipush 40, 2) := by decide +kernel
theorem dX4_makeNew_32 : decode cX4_makeNew 32 = .ok (.if_icmp .ge 16, 3) := by decide +kernel
theorem dX4_makeNew_35 : decode cX4_makeNew 35 = .ok (.aload_n 0, 1) := by decide +kernel
theorem dX4_makeNew_36 : decode cX4_makeNew 36 = .ok (.getfield 9, 3) := by decide +kernel
theorem dX4_makeNew_39 : decode cX4_makeNew 39 = .ok (.iload_n 3, 1) := by decide +kernel
theorem dX4_makeNew_40 : decode cX4_makeNew 40 = .ok (.iconst 0, 1) := by decide +kernel
theorem dX4_makeNew_41 : decode cX4_makeNew 41 = .ok (.iastore, 1) := by decide +kernel
theorem dX4_makeNew_42 : decode cX4_makeNew 42 = .ok (.iinc 3 1, 3) := by decide +kernel
theorem dX4_makeNew_45 : decode cX4_makeNew 45 = .ok (.goto (-16), 3) := by decide +kernel
theorem dX4_makeNew_48 : decode cX4_makeNew 48 = .ok (.return_, 1) := by decide +kernel
theorem dX4_hasNumbers_0 : decode cX4_hasNumbers 0 = .ok (.iload_n 1, 1) := by decide +kernel
theorem dX4_hasNumbers_1 : decode cX4_hasNumbers 1 = .ok (.ifCond .lt 29, 3) := by decide +kernel
theorem dX4_hasNumbers_4 : decode cX4_hasNumbers 4 = .ok (.iload_n 2, 1) := by decide +kernel
theorem dX4_hasNumbers_5 : decode cX4_hasNumbers 5 = .ok (.ifCond .lt 25, 3) := by decide +kernel
theorem dX4_hasNumbers_8 : decode cX4_hasNumbers 8 = .ok (.iload_n 1, 1) := by decide +kernel
theorem dX4_hasNumbers_9 : decode cX4_hasNumbers 9 = .ok (.aload_n 0, 1) := by decide +kernel
theorem dX4_hasNumbers_10 : decode cX4_hasNumbers 10 = .ok (.getfield 26, 3) := by decide +kernel
theorem dX4_hasNumbers_13 : decode cX4_hasNumbers 13 = .ok (.if_icmp .gt 17, 3) := by decide +kernel
theorem dX4_hasNumbers_16 : decode cX4_hasNumbers 16 = .ok (.iload_n 2, 1) := by decide +kernel
theorem dX4_hasNumbers_17 : decode cX4_hasNumbers 17 = .ok (.aload_n 0, 1) := by decide +kernel
theorem dX4_hasNumbers_18 : decode cX4_hasNumbers 18 = .ok (.getfield 26, 3) := by decide +kernel
theorem dX4_hasNumbers_21 : decode cX4_hasNumbers 21 = .ok (.iload_n 1, 1) := by decide +kernel
theorem dX4_hasNumbers_22 : decode cX4_hasNumbers 22 = .ok (.isub, 1) := by decide +kernel
theorem dX4_hasNumbers_23 : decode cX4_hasNumbers 23 = .ok (.if_icmp .gt 7, 3) := by decide +kernel
theorem dX4_hasNumbers_26 : decode cX4_hasNumbers 26 = .ok (.iconst 1, 1) := by decide +kernel
theorem dX4_hasNumbers_27 : decode cX4_hasNumbers 27 = .ok (.goto 4, 3) := by decide +kernel
theorem dX4_hasNumbers_30 : decode cX4_hasNumbers 30 = .ok (.iconst 0, 1) := by decide +kernel
theorem dX4_hasNumbers_31 : decode cX4_hasNumbers 31 = .ok (.ireturn, 1) := by decide +kernel
theorem dX4_at_0 : decode cX4_at 0 = .ok (.iload_n 1, 1) := by decide +kernel
theorem dX4_at_1 : decode cX4_at 1 = .ok (.ifCond .lt 21, 3) := by decide +kernel
theorem dX4_at_4 : decode cX4_at 4 = .ok (.iload_n 1, 1) := by decide +kernel
theorem dX4_at_5 : decode cX4_at 5 = .ok (.aload_n 0, 1) := by decide +kernel
theorem dX4_at_6 : decode cX4_at 6 = .ok (.getfield 9, 3) := by decide +kernel
theorem dX4_at_9 : decode cX4_at 9 = .ok (.arraylength, 1) := by decide +kernel
theorem dX4_at_10 : decode cX4_at 10 = .ok (.if_icmp .ge 12, 3) := by decide +kernel
theorem dX4_at_13 : decode cX4_at 13 = .ok (.aload_n 0, 1) := by decide +kernel
theorem dX4_at_14 : decode cX4_at 14 = .ok (.getfield 9, 3) := by decide +kernel
theorem dX4_at_17 : decode cX4_at 17 = .ok (.iload_n 1, 1) := by decide +kernel
theorem dX4_at_18 : decode cX4_at 18 = .ok (.iaload, 1) := by decide +kernel
theorem dX4_at_19 : decode cX4_at 19 = .ok (.goto 4, 3) := by decide +kernel
theorem dX4_at_22 : decode cX4_at 22 = .ok (.iconst 0, 1) := by decide +kernel
theorem dX4_at_23 : decode cX4_at 23 = .ok (.ireturn, 1) := by decide +kernel
theorem dX4_put_0 : decode cX4_put 0 = .ok (.iload_n 1, 1) := by decide +kernel
theorem dX4_put_1 : decode cX4_put 1 = .ok (.ifCond .lt 12, 3) := by decide +kernel
theorem dX4_put_4 : decode cX4_put 4 = .ok (.iload_n 1, 1) := by decide +kernel
theorem dX4_put_5 : decode cX4_put 5 = .ok (.aload_n 0, 1) := by decide +kernel
theorem dX4_put_6 : decode cX4_put 6 = .ok (.getfield 9, 3) := by decide +kernel
theorem dX4_put_9 : decode cX4_put 9 = .ok (.arraylength, 1) := by decide +kernel
theorem dX4_put_10 : decode cX4_put 10 = .ok (.if_icmp .lt 4, 3) := by decide +kernel
theorem dX4_put_13 : decode cX4_put 13 = .ok (.return_, 1) := by decide +kernel
theorem dX4_put_14 : decode cX4_put 14 = .ok (.aload_n 0, 1) := by decide +kernel
theorem dX4_put_15 : decode cX4_put 15 = .ok (.getfield 13, 3) := by decide +kernel
theorem dX4_put_18 : decode cX4_put 18 = .ok (.bipush 8, 2) := by decide +kernel
theorem dX4_put_20 : decode cX4_put 20 = .ok (.if_icmp .ne 14, 3) := by decide +kernel
theorem dX4_put_23 : decode cX4_put 23 = .ok (.aload_n 0, 1) := by decide +kernel
theorem dX4_put_24 : decode cX4_put 24 = .ok (.getfield 9, 3) := by decide +kernel
theorem dX4_put_27 : decode cX4_put 27 = .ok (.iload_n 1, 1) := by decide +kernel
theorem dX4_put_28 : decode cX4_put 28 = .ok (.iload_n 2, 1) := by decide +kernel
theorem dX4_put_29 : decode cX4_put 29 = .ok (.i2b, 1) := by decide +kernel
theorem dX4_put_30 : decode cX4_put 30 = .ok (.iastore, 1) := by decide +kernel
theorem dX4_put_31 : decode cX4_put 31 = .ok (.goto 30, 3) := by decide +kernel
theorem dX4_put_34 : decode cX4_put 34 = .ok (.aload_n 0, 1) := by decide +kernel
theorem dX4_put_35 : decode cX4_put 35 = .ok (.getfield 13, 3) := by decide +kernel
theorem dX4_put_38 : decode cX4_put 38 = .ok (.bipush 16, 2) := by decide +kernel
theorem dX4_put_40 : decode cX4_put 40 = .ok (.if_icmp .ne 14, 3) := by decide +kernel
theorem dX4_put_43 : decode cX4_put 43 = .ok (.aload_n 0, 1) := by decide +kernel
theorem dX4_put_44 : decode cX4_put 44 = .ok (.getfield 9, 3) := by decide +kernel
theorem dX4_put_47 : decode cX4_put 47 = .ok (.iload_n 1, 1) := by decide +kernel
theorem dX4_put_48 : decode cX4_put 48 = .ok (.iload_n 2, 1) := by decide +kernel
theorem dX4_put_49 : decode cX4_put 49 = .ok (.i2s, 1) := by decide +kernel
theorem dX4_put_50 : decode cX4_put 50 = .ok (.iastore, 1) := by decide +kernel
theorem dX4_put_51 : decode cX4_put 51 = .ok (.goto 10, 3) := by decide +kernel
theorem dX4_put_54 : decode cX4_put 54 = .ok (.aload_n 0, 1) := by decide +kernel
theorem dX4_put_55 : decode cX4_put 55 = .ok (.getfield 9, 3) := by decide +kernel
theorem dX4_put_58 : decode cX4_put 58 = .ok (.iload_n 1, 1) := by decide +kernel
theorem dX4_put_59 : decode cX4_put 59 = .ok (.iload_n 2, 1) := by decide +kernel
theorem dX4_put_60 : decode cX4_put 60 = .ok (.iastore, 1) := by decide +kernel
theorem dX4_put_61 : decode cX4_put 61 = .ok (.return_, 1) := by decide +kernel
theorem dX5_init_0 : decode cX5_init 0 = .ok (.aload_n 0, 1) := by decide +kernel
theorem dX5_init_1 : decode cX5_init 1 = .ok (.invokespecial 1, 3) := by decide +kernel
theorem dX5_init_4 : decode cX5_init 4 = .ok (.aload_n 0, 1) := by decide +kernel
theorem dX5_init_5 : decode cX5_init 5 = .ok (.iload_n 1, 1) := by decide +kernel
theorem dX5_init_6 : decode cX5_init 6 = .ok (.bipush 8, 2) := by decide +kernel
theorem dX5_init_8 : decode cX5_init 8 = .ok (.invokestatic 9, 3) := by decide +kernel
theorem dX5_init_11 : decode cX5_init 11 = .ok (.putfield 15, 3) := by decide +kernel
theorem dX5_init_14 : decode cX5_init 14 = .ok (.aload_n 0, 1) := by decide +kernel
theorem dX5_init_15 : decode cX5_init 15 = .ok (.aload_n 2, 1) := by decide +kernel
theorem dX5_init_16 : decode cX5_init 16 = .ok (.putfield 19, 3) := by decide +kernel
theorem dX5_init_19 : decode cX5_init 19 = .ok (.aload_n 0, 1) := by decide +kernel
theorem dX5_init_20 : decode cX5_init 20 = .ok (.aload_n 3, 1) := by decide +kernel
theorem dX5_init_21 : decode cX5_init 21 = .ok (.putfield 23, 3) := by decide +kernel
theorem dX5_init_24 : decode cX5_init 24 = .ok (.aload_n 0, 1) := by decide +kernel
theorem dX5_init_25 : decode cX5_init 25 = .ok (.bipush 32, 2) := by decide +kernel
theorem dX5_init_27 : decode cX5_init 27 = .ok (.newarray .int, 2) := by decide +kernel
theorem dX5_init_29 : decode cX5_init 29 = .ok (.putfield 26, 3) := by decide +kernel
theorem dX5_init_32 : decode cX5_init 32 = .ok (.return_, 1) := by decide +kernel
theorem dX5_hasRow_0 : decode cX5_hasRow 0 = .ok (.iload_n 1, 1) := by decide +kernel
theorem dX5_hasRow_1 : decode cX5_hasRow 1 = .ok (.ifCond .lt 15, 3) := by decide +kernel
theorem dX5_hasRow_4 : decode cX5_hasRow 4 = .ok (.iload_n 1, 1) := by decide +kernel
theorem dX5_hasRow_5 : decode cX5_hasRow 5 = .ok (.aload_n 0, 1) := by decide +kernel
theorem dX5_hasRow_6 : decode cX5_hasRow 6 = .ok (.getfield 15, 3) := by decide +kernel
theorem dX5_hasRow_9 : decode cX5_hasRow 9 = .ok (.if_icmp .ge 7, 3) := by decide +kernel
theorem dX5_hasRow_12 : decode cX5_hasRow 12 = .ok (.iconst 1, 1) := by decide +kernel
theorem dX5_hasRow_13 : decode cX5_hasRow 13 = .ok (.goto 4, 3) := by decide +kernel
theorem dX5_hasRow_16 : decode cX5_hasRow 16 = .ok (.iconst 0, 1) := by decide +kernel
theorem dX5_hasRow_17 : decode cX5_hasRow 17 = .ok (.ireturn, 1) := by decide +kernel
theorem dX5_hasColumn_0 : decode cX5_hasColumn 0 = .ok (.iload_n 1, 1) := by decide +kernel
theorem dX5_hasColumn_1 : decode cX5_hasColumn 1 = .ok (.ifCond .lt 12, 3) := by decide +kernel
theorem dX5_hasColumn_4 : decode cX5_hasColumn 4 = .ok (.iload_n 1, 1) := by decide +kernel
theorem dX5_hasColumn_5 : decode cX5_hasColumn 5 = .ok (.iconst 4, 1) := by decide +kernel
theorem dX5_hasColumn_6 : decode cX5_hasColumn 6 = .ok (.if_icmp .ge 7, 3) := by decide +kernel
theorem dX5_hasColumn_9 : decode cX5_hasColumn 9 = .ok (.iconst 1, 1) := by decide +kernel
theorem dX5_hasColumn_10 : decode cX5_hasColumn 10 = .ok (.goto 4, 3) := by decide +kernel
theorem dX5_hasColumn_13 : decode cX5_hasColumn 13 = .ok (.iconst 0, 1) := by decide +kernel
theorem dX5_hasColumn_14 : decode cX5_hasColumn 14 = .ok (.ireturn, 1) := by decide +kernel
theorem dX5_takes_0 : decode cX5_takes 0 = .ok (.iload_n 1, 1) := by decide +kernel
theorem dX5_takes_1 : decode cX5_takes 1 = .ok (.ifCond .lt 45, 3) := by decide +kernel
theorem dX5_takes_4 : decode cX5_takes 4 = .ok (.iload_n 1, 1) := by decide +kernel
theorem dX5_takes_5 : decode cX5_takes 5 = .ok (.aload_n 0, 1) := by decide +kernel
theorem dX5_takes_6 : decode cX5_takes 6 = .ok (.getfield 19, 3) := by decide +kernel
theorem dX5_takes_9 : decode cX5_takes 9 = .ok (.arraylength, 1) := by decide +kernel
theorem dX5_takes_10 : decode cX5_takes 10 = .ok (.if_icmp .ge 36, 3) := by decide +kernel
theorem dX5_takes_13 : decode cX5_takes 13 = .ok (.iload_n 1, 1) := by decide +kernel
theorem dX5_takes_14 : decode cX5_takes 14 = .ok (.aload_n 0, 1) := by decide +kernel
theorem dX5_takes_15 : decode cX5_takes 15 = .ok (.getfield 23, 3) := by decide +kernel
theorem dX5_takes_18 : decode cX5_takes 18 = .ok (.arraylength, 1) := by decide +kernel
theorem dX5_takes_19 : decode cX5_takes 19 = .ok (.if_icmp .ge 27, 3) := by decide +kernel
theorem dX5_takes_22 : decode cX5_takes 22 = .ok (.iload_n 2, 1) := by decide +kernel
theorem dX5_takes_23 : decode cX5_takes 23 = .ok (.aload_n 0, 1) := by decide +kernel
theorem dX5_takes_24 : decode cX5_takes 24 = .ok (.getfield 19, 3) := by decide +kernel
theorem dX5_takes_27 : decode cX5_takes 27 = .ok (.iload_n 1, 1) := by decide +kernel
theorem dX5_takes_28 : decode cX5_takes 28 = .ok (.iaload, 1) := by decide +kernel
theorem dX5_takes_29 : decode cX5_takes 29 = .ok (.if_icmp .lt 17, 3) := by decide +kernel
theorem dX5_takes_32 : decode cX5_takes 32 = .ok (.iload_n 2, 1) := by decide +kernel
theorem dX5_takes_33 : decode cX5_takes 33 = .ok (.aload_n 0, 1) := by decide +kernel
theorem dX5_takes_34 : decode cX5_takes 34 = .ok (.getfield 23, 3) := by decide +kernel
theorem dX5_takes_37 : decode cX5_takes 37 = .ok (.iload_n 1, 1) := by decide +kernel
theorem dX5_takes_38 : decode cX5_takes 38 = .ok (.iaload, 1) := by decide +kernel
theorem dX5_takes_39 : decode cX5_takes 39 = .ok (.if_icmp .gt 7, 3) := by decide +kernel
theorem dX5_takes_42 : decode cX5_takes 42 = .ok (.iconst 1, 1) := by decide +kernel
theorem dX5_takes_43 : decode cX5_takes 43 = .ok (.goto 4, 3) := by decide +kernel
theorem dX5_takes_46 : decode cX5_takes 46 = .ok (.iconst 0, 1) := by decide +kernel
theorem dX5_takes_47 : decode cX5_takes 47 = .ok (.ireturn, 1) := by decide +kernel
theorem dX5_at_0 : decode cX5_at 0 = .ok (.iload_n 1, 1) := by decide +kernel
theorem dX5_at_1 : decode cX5_at 1 = .ok (.ifCond .lt 20, 3) := by decide +kernel
theorem dX5_at_4 : decode cX5_at 4 = .ok (.iload_n 1, 1) := by decide +kernel
theorem dX5_at_5 : decode cX5_at 5 = .ok (.aload_n 0, 1) := by decide +kernel
theorem dX5_at_6 : decode cX5_at 6 = .ok (.getfield 15, 3) := by decide +kernel
theorem dX5_at_9 : decode cX5_at 9 = .ok (.if_icmp .ge 12, 3) := by decide +kernel
theorem dX5_at_12 : decode cX5_at 12 = .ok (.iload_n 2, 1) := by decide +kernel
theorem dX5_at_13 : decode cX5_at 13 = .ok (.ifCond .lt 8, 3) := by decide +kernel
theorem dX5_at_16 : decode cX5_at 16 = .ok (.iload_n 2, 1) := by decide +kernel
theorem dX5_at_17 : decode cX5_at 17 = .ok (.iconst 4, 1) := by decide +kernel
theorem dX5_at_18 : decode cX5_at 18 = .ok (.if_icmp .lt 5, 3) := by decide +kernel
theorem dX5_at_21 : decode cX5_at 21 = .ok (.iconst 0, 1) := by decide +kernel
theorem dX5_at_22 : decode cX5_at 22 = .ok (.ireturn, 1) := by decide +kernel
theorem dX5_at_23 : decode cX5_at 23 = .ok (.aload_n 0, 1) := by decide +kernel
theorem dX5_at_24 : decode cX5_at 24 = .ok (.getfield 26, 3) := by decide +kernel
theorem dX5_at_27 : decode cX5_at 27 = .ok (.iload_n 1, 1) := by decide +kernel
theorem dX5_at_28 : decode cX5_at 28 = .ok (.iconst 4, 1) := by decide +kernel
theorem dX5_at_29 : decode cX5_at 29 = .ok (.imul, 1) := by decide +kernel
theorem dX5_at_30 : decode cX5_at 30 = .ok (.iload_n 2, 1) := by decide +kernel
theorem dX5_at_31 : decode cX5_at 31 = .ok (.iadd, 1) := by decide +kernel
theorem dX5_at_32 : decode cX5_at 32 = .ok (.iaload, 1) := by decide +kernel
theorem dX5_at_33 : decode cX5_at 33 = .ok (.ireturn, 1) := by decide +kernel
theorem dX5_put_0 : decode cX5_put 0 = .ok (.iload_n 1, 1) := by decide +kernel
theorem dX5_put_1 : decode cX5_put 1 = .ok (.ifCond .lt 31, 3) := by decide +kernel
theorem dX5_put_4 : decode cX5_put 4 = .ok (.iload_n 1, 1) := by decide +kernel
theorem dX5_put_5 : decode cX5_put 5 = .ok (.aload_n 0, 1) := by decide +kernel
theorem dX5_put_6 : decode cX5_put 6 = .ok (.getfield 15, 3) := by decide +kernel
theorem dX5_put_9 : decode cX5_put 9 = .ok (.if_icmp .ge 23, 3) := by decide +kernel
theorem dX5_put_12 : decode cX5_put 12 = .ok (.iload_n 2, 1) := by decide +kernel
theorem dX5_put_13 : decode cX5_put 13 = .ok (.ifCond .lt 19, 3) := by decide +kernel
theorem dX5_put_16 : decode cX5_put 16 = .ok (.iload_n 2, 1) := by decide +kernel
theorem dX5_put_17 : decode cX5_put 17 = .ok (.iconst 4, 1) := by decide +kernel
theorem dX5_put_18 : decode cX5_put 18 = .ok (.if_icmp .ge 14, 3) := by decide +kernel
theorem dX5_put_21 : decode cX5_put 21 = .ok (.aload_n 0, 1) := by decide +kernel
theorem dX5_put_22 : decode cX5_put 22 = .ok (.getfield 26, 3) := by decide +kernel
theorem dX5_put_25 : decode cX5_put 25 = .ok (.iload_n 1, 1) := by decide +kernel
theorem dX5_put_26 : decode cX5_put 26 = .ok (.iconst 4, 1) := by decide +kernel
theorem dX5_put_27 : decode cX5_put 27 = .ok (.imul, 1) := by decide +kernel
theorem dX5_put_28 : decode cX5_put 28 = .ok (.iload_n 2, 1) := by decide +kernel
theorem dX5_put_29 : decode cX5_put 29 = .ok (.iadd, 1) := by decide +kernel
theorem dX5_put_30 : decode cX5_put 30 = .ok (.iload_n 3, 1) := by decide +kernel
theorem dX5_put_31 : decode cX5_put 31 = .ok (.iastore, 1) := by decide +kernel
theorem dX5_put_32 : decode cX5_put 32 = .ok (.return_, 1) := by decide +kernel
theorem dX5_become_0 : decode cX5_become 0 = .ok (.aload_n 1, 1) := by decide +kernel
theorem dX5_become_1 : decode cX5_become 1 = .ok (.ifnull 14, 3) := by decide +kernel
theorem dX5_become_4 : decode cX5_become 4 = .ok (.aload_n 1, 1) := by decide +kernel
theorem dX5_become_5 : decode cX5_become 5 = .ok (.getfield 26, 3) := by decide +kernel
theorem dX5_become_8 : decode cX5_become 8 = .ok (.aload_n 0, 1) := by decide +kernel
theorem dX5_become_9 : decode cX5_become 9 = .ok (.getfield 26, 3) := by decide +kernel
theorem dX5_become_12 : decode cX5_become 12 = .ok (.invokestatic 29, 3) := by decide +kernel
theorem dX5_become_15 : decode cX5_become 15 = .ok (.return_, 1) := by decide +kernel
theorem dX6_init_0 : decode cX6_init 0 = .ok (.aload_n 0, 1) := by decide +kernel
theorem dX6_init_1 : decode cX6_init 1 = .ok (.invokespecial 1, 3) := by decide +kernel
theorem dX6_init_4 : decode cX6_init 4 = .ok (.aload_n 0, 1) := by decide +kernel
theorem dX6_init_5 : decode cX6_init 5 = .ok (.bipush 120, 2) := by decide +kernel
theorem dX6_init_7 : decode cX6_init 7 = .ok (.newarray .int, 2) := by decide +kernel
theorem dX6_init_9 : decode cX6_init 9 = .ok (.putfield 9, 3) := by decide +kernel
theorem dX6_init_12 : decode cX6_init 12 = .ok (.return_, 1) := by decide +kernel
theorem dX6_append_0 : decode cX6_append 0 = .ok (.aload_n 0, 1) := by decide +kernel
theorem dX6_append_1 : decode cX6_append 1 = .ok (.getfield 13, 3) := by decide +kernel
theorem dX6_append_4 : decode cX6_append 4 = .ok (.ifCond .lt 36, 3) := by decide +kernel
theorem dX6_append_7 : decode cX6_append 7 = .ok (.aload_n 0, 1) := by decide +kernel
theorem dX6_append_8 : decode cX6_append 8 = .ok (.getfield 13, 3) := by decide +kernel
theorem dX6_append_11 : decode cX6_append 11 = .ok (.bipush 120, 2) := by decide +kernel
theorem dX6_append_13 : decode cX6_append 13 = .ok (.if_icmp .ge 27, 3) := by decide +kernel
theorem dX6_append_16 : decode cX6_append 16 = .ok (.aload_n 0, 1) := by decide +kernel
theorem dX6_append_17 : decode cX6_append 17 = .ok (.getfield 9, 3) := by decide +kernel
theorem dX6_append_20 : decode cX6_append 20 = .ok (.aload_n 0, 1) := by decide +kernel
theorem dX6_append_21 : decode cX6_append 21 = .ok (.getfield 13, 3) := by decide +kernel
theorem dX6_append_24 : decode cX6_append 24 = .ok (.iload_n 1, 1) := by decide +kernel
theorem dX6_append_25 : decode cX6_append 25 = .ok (.sipush 255, 3) := by decide +kernel
theorem dX6_append_28 : decode cX6_append 28 = .ok (.iand, 1) := by decide +kernel
theorem dX6_append_29 : decode cX6_append 29 = .ok (.iastore, 1) := by decide +kernel
theorem dX6_append_30 : decode cX6_append 30 = .ok (.aload_n 0, 1) := by decide +kernel
theorem dX6_append_31 : decode cX6_append 31 = .ok (.dup, 1) := by decide +kernel
theorem dX6_append_32 : decode cX6_append 32 = .ok (.getfield 13, 3) := by decide +kernel
theorem dX6_append_35 : decode cX6_append 35 = .ok (.iconst 1, 1) := by decide +kernel
theorem dX6_append_36 : decode cX6_append 36 = .ok (.iadd, 1) := by decide +kernel
theorem dX6_append_37 : decode cX6_append 37 = .ok (.putfield 13, 3) := by decide +kernel
theorem dX6_append_40 : decode cX6_append 40 = .ok (.return_, 1) := by decide +kernel
theorem dX6_at_0 : decode cX6_at 0 = .ok (.iload_n 1, 1) := by decide +kernel
theorem dX6_at_1 : decode cX6_at 1 = .ok (.ifCond .lt 26, 3) := by decide +kernel
theorem dX6_at_4 : decode cX6_at 4 = .ok (.iload_n 1, 1) := by decide +kernel
theorem dX6_at_5 : decode cX6_at 5 = .ok (.aload_n 0, 1) := by decide +kernel
theorem dX6_at_6 : decode cX6_at 6 = .ok (.getfield 13, 3) := by decide +kernel
theorem dX6_at_9 : decode cX6_at 9 = .ok (.if_icmp .ge 18, 3) := by decide +kernel
theorem dX6_at_12 : decode cX6_at 12 = .ok (.iload_n 1, 1) := by decide +kernel
theorem dX6_at_13 : decode cX6_at 13 = .ok (.bipush 120, 2) := by decide +kernel
theorem dX6_at_15 : decode cX6_at 15 = .ok (.if_icmp .ge 12, 3) := by decide +kernel
theorem dX6_at_18 : decode cX6_at 18 = .ok (.aload_n 0, 1) := by decide +kernel
theorem dX6_at_19 : decode cX6_at 19 = .ok (.getfield 9, 3) := by decide +kernel
theorem dX6_at_22 : decode cX6_at 22 = .ok (.iload_n 1, 1) := by decide +kernel
theorem dX6_at_23 : decode cX6_at 23 = .ok (.iaload, 1) := by decide +kernel
theorem dX6_at_24 : decode cX6_at 24 = .ok (.goto 4, 3) := by decide +kernel
theorem dX6_at_27 : decode cX6_at 27 = .ok (.iconst (-1), 1) := by decide +kernel
theorem dX6_at_28 : decode cX6_at 28 = .ok (.ireturn, 1) := by decide +kernel
theorem dX7_init_0 : decode cX7_init 0 = .ok (.aload_n 0, 1) := by decide +kernel
theorem dX7_init_1 : decode cX7_init 1 = .ok (.invokespecial 1, 3) := by decide +kernel
theorem dX7_init_4 : decode cX7_init 4 = .ok (.aload_n 0, 1) := by decide +kernel
theorem dX7_init_5 : decode cX7_init 5 = .ok (.new 7, 3) := by decide +kernel
theorem dX7_init_8 : decode cX7_init 8 = .ok (.dup, 1) := by decide +kernel
theorem dX7_init_9 : decode cX7_init 9 = .ok (.invokespecial 9, 3) := by decide +kernel
theorem dX7_init_12 : decode cX7_init 12 = .ok (.putfield 10, 3) := by decide +kernel
theorem dX7_init_15 : decode cX7_init 15 = .ok (.aload_n 0, 1) := by decide +kernel
theorem dX7_init_16 : decode cX7_init 16 = .ok (.new 7, 3) := by decide +kernel
theorem dX7_init_19 : decode cX7_init 19 = .ok (.dup, 1) := by decide +kernel
theorem dX7_init_20 : decode cX7_init 20 = .ok (.invokespecial 9, 3) := by decide +kernel
theorem dX7_init_23 : decode cX7_init 23 = .ok (.putfield 16, 3) := by decide +kernel
theorem dX7_init_26 : decode cX7_init 26 = .ok (.aload_n 0, 1) := by decide +kernel
theorem dX7_init_27 : decode cX7_init 27 = .ok (.new 7, 3) := by decide +kernel
theorem dX7_init_30 : decode cX7_init 30 = .ok (.dup, 1) := by decide +kernel
theorem dX7_init_31 : decode cX7_init 31 = .ok (.invokespecial 9, 3) := by decide +kernel
theorem dX7_init_34 : decode cX7_init 34 = .ok (.putfield 19, 3) := by decide +kernel
theorem dX7_init_37 : decode cX7_init 37 = .ok (.aload_n 0, 1) := by decide +kernel
theorem dX7_init_38 : decode cX7_init 38 = .ok (.new 22, 3) := by decide +kernel
theorem dX7_init_41 : decode cX7_init 41 = .ok (.dup, 1) := by decide +kernel
theorem dX7_init_42 : decode cX7_init 42 = .ok (.invokespecial 24, 3) := by decide +kernel
theorem dX7_init_45 : decode cX7_init 45 = .ok (.putfield 25, 3) := by decide +kernel
theorem dX7_init_48 : decode cX7_init 48 = .ok (.aload_n 0, 1) := by decide +kernel
theorem dX7_init_49 : decode cX7_init 49 = .ok (.iconst 4, 1) := by decide +kernel
theorem dX7_init_50 : decode cX7_init 50 = .ok (.anewarray 29, 3) := by decide +kernel
theorem dX7_init_53 : decode cX7_init 53 = .ok (.putfield 31, 3) := by decide +kernel
theorem dX7_init_56 : decode cX7_init 56 = .ok (.iconst 0, 1) := by decide +kernel
theorem dX7_init_57 : decode cX7_init 57 = .ok (.istore_n 1, 1) := by decide +kernel
theorem dX7_init_58 : decode cX7_init 58 = .ok (.iload_n 1, 1) := by decide +kernel
theorem dX7_init_59 : decode cX7_init 59 = .ok (.iconst 4, 1) := by decide +kernel
theorem dX7_init_60 : decode cX7_init 60 = .ok (.if_icmp .ge 22, 3) := by decide +kernel
theorem dX7_init_63 : decode cX7_init 63 = .ok (.aload_n 0, 1) := by decide +kernel
theorem dX7_init_64 : decode cX7_init 64 = .ok (.getfield 31, 3) := by decide +kernel
theorem dX7_init_67 : decode cX7_init 67 = .ok (.iload_n 1, 1) := by decide +kernel
theorem dX7_init_68 : decode cX7_init 68 = .ok (.new 29, 3) := by decide +kernel
theorem dX7_init_71 : decode cX7_init 71 = .ok (.dup, 1) := by decide +kernel
theorem dX7_init_72 : decode cX7_init 72 = .ok (.invokespecial 35, 3) := by decide +kernel
theorem dX7_init_75 : decode cX7_init 75 = .ok (.aastore, 1) := by decide +kernel
theorem dX7_init_76 : decode cX7_init 76 = .ok (.iinc 1 1, 3) := by decide +kernel
theorem dX7_init_79 : decode cX7_init 79 = .ok (.goto (-21), 3) := by decide +kernel
theorem dX7_init_82 : decode cX7_init 82 = .ok (.aload_n 0, 1) := by decide +kernel
theorem dX7_init_83 : decode cX7_init 83 = .ok (.new 36, 3) := by decide +kernel
theorem dX7_init_86 : decode cX7_init 86 = .ok (.dup, 1) := by decide +kernel
theorem dX7_init_87 : decode cX7_init 87 = .ok (.invokespecial 38, 3) := by decide +kernel
theorem dX7_init_90 : decode cX7_init 90 = .ok (.putfield 39, 3) := by decide +kernel
theorem dX7_init_93 : decode cX7_init 93 = .ok (.aload_n 0, 1) := by decide +kernel
theorem dX7_init_94 : decode cX7_init 94 = .ok (.bipush 7, 2) := by decide +kernel
theorem dX7_init_96 : decode cX7_init 96 = .ok (.newarray .int, 2) := by decide +kernel
theorem dX7_init_98 : decode cX7_init 98 = .ok (.putfield 43, 3) := by decide +kernel
theorem dX7_init_101 : decode cX7_init 101 = .ok (.aload_n 0, 1) := by decide +kernel
theorem dX7_init_102 : decode cX7_init 102 = .ok (.iconst 0, 1) := by decide +kernel
theorem dX7_init_103 : decode cX7_init 103 = .ok (.putfield 47, 3) := by decide +kernel
theorem dX7_init_106 : decode cX7_init 106 = .ok (.return_, 1) := by decide +kernel
theorem dX7_egg_0 : decode cX7_egg 0 = .ok (.aload_n 0, 1) := by decide +kernel
theorem dX7_egg_1 : decode cX7_egg 1 = .ok (.getfield 10, 3) := by decide +kernel
theorem dX7_egg_4 : decode cX7_egg 4 = .ok (.getfield 51, 3) := by decide +kernel
theorem dX7_egg_7 : decode cX7_egg 7 = .ok (.astore 4, 2) := by decide +kernel
theorem dX7_egg_9 : decode cX7_egg 9 = .ok (.aload 4, 2) := by decide +kernel
theorem dX7_egg_11 : decode cX7_egg 11 = .ok (.iconst 0, 1) := by decide +kernel
theorem dX7_egg_12 : decode cX7_egg 12 = .ok (.iload_n 1, 1) := by decide +kernel
theorem dX7_egg_13 : decode cX7_egg 13 = .ok (.invokevirtual 55, 3) := by decide +kernel
theorem dX7_egg_16 : decode cX7_egg 16 = .ok (.ifCond .eq 23, 3) := by decide +kernel
theorem dX7_egg_19 : decode cX7_egg 19 = .ok (.aload 4, 2) := by decide +kernel
theorem dX7_egg_21 : decode cX7_egg 21 = .ok (.iconst 1, 1) := by decide +kernel
theorem dX7_egg_22 : decode cX7_egg 22 = .ok (.iload_n 2, 1) := by decide +kernel
theorem dX7_egg_23 : decode cX7_egg 23 = .ok (.invokevirtual 55, 3) := by decide +kernel
theorem dX7_egg_26 : decode cX7_egg 26 = .ok (.ifCond .eq 13, 3) := by decide +kernel
theorem dX7_egg_29 : decode cX7_egg 29 = .ok (.aload 4, 2) := by decide +kernel
theorem dX7_egg_31 : decode cX7_egg 31 = .ok (.iconst 3, 1) := by decide +kernel
theorem dX7_egg_32 : decode cX7_egg 32 = .ok (.iload_n 3, 1) := by decide +kernel
theorem dX7_egg_33 : decode cX7_egg 33 = .ok (.invokevirtual 55, 3) := by decide +kernel
theorem dX7_egg_36 : decode cX7_egg 36 = .ok (.ifCond .ne 9, 3) := by decide +kernel
theorem dX7_egg_39 : decode cX7_egg 39 = .ok (.aload_n 0, 1) := by decide +kernel
theorem dX7_egg_40 : decode cX7_egg 40 = .ok (.iconst 0, 1) := by decide +kernel
theorem dX7_egg_41 : decode cX7_egg 41 = .ok (.invokevirtual 61, 3) := by decide +kernel
theorem dX7_egg_44 : decode cX7_egg 44 = .ok (.ireturn, 1) := by decide +kernel
theorem dX7_egg_45 : decode cX7_egg 45 = .ok (.aload_n 0, 1) := by decide +kernel
theorem dX7_egg_46 : decode cX7_egg 46 = .ok (.getfield 10, 3) := by decide +kernel
theorem dX7_egg_49 : decode cX7_egg 49 = .ok (.invokevirtual 65, 3) := by decide +kernel
theorem dX7_egg_52 : decode cX7_egg 52 = .ok (.istore 5, 2) := by decide +kernel
theorem dX7_egg_54 : decode cX7_egg 54 = .ok (.iload 5, 2) := by decide +kernel
theorem dX7_egg_56 : decode cX7_egg 56 = .ok (.ifCond .ge 9, 3) := by decide +kernel
theorem dX7_egg_59 : decode cX7_egg 59 = .ok (.aload_n 0, 1) := by decide +kernel
theorem dX7_egg_60 : decode cX7_egg 60 = .ok (.iconst 1, 1) := by decide +kernel
theorem dX7_egg_61 : decode cX7_egg 61 = .ok (.invokevirtual 61, 3) := by decide +kernel
theorem dX7_egg_64 : decode cX7_egg 64 = .ok (.ireturn, 1) := by decide +kernel
theorem dX7_egg_65 : decode cX7_egg 65 = .ok (.aload_n 0, 1) := by decide +kernel
theorem dX7_egg_66 : decode cX7_egg 66 = .ok (.getfield 10, 3) := by decide +kernel
theorem dX7_egg_69 : decode cX7_egg 69 = .ok (.iload 5, 2) := by decide +kernel
theorem dX7_egg_71 : decode cX7_egg 71 = .ok (.iload_n 1, 1) := by decide +kernel
theorem dX7_egg_72 : decode cX7_egg 72 = .ok (.iload_n 2, 1) := by decide +kernel
theorem dX7_egg_73 : decode cX7_egg 73 = .ok (.iconst 0, 1) := by decide +kernel
theorem dX7_egg_74 : decode cX7_egg 74 = .ok (.iload_n 3, 1) := by decide +kernel
theorem dX7_egg_75 : decode cX7_egg 75 = .ok (.invokevirtual 69, 3) := by decide +kernel
theorem dX7_egg_78 : decode cX7_egg 78 = .ok (.iload 5, 2) := by decide +kernel
theorem dX7_egg_80 : decode cX7_egg 80 = .ok (.ireturn, 1) := by decide +kernel
theorem dX7_of_0 : decode cX7_of 0 = .ok (.aload_n 0, 1) := by decide +kernel
theorem dX7_of_1 : decode cX7_of 1 = .ok (.getfield 10, 3) := by decide +kernel
theorem dX7_of_4 : decode cX7_of 4 = .ok (.iload_n 1, 1) := by decide +kernel
theorem dX7_of_5 : decode cX7_of 5 = .ok (.invokevirtual 73, 3) := by decide +kernel
theorem dX7_of_8 : decode cX7_of 8 = .ok (.ifCond .eq 12, 3) := by decide +kernel
theorem dX7_of_11 : decode cX7_of 11 = .ok (.iload_n 2, 1) := by decide +kernel
theorem dX7_of_12 : decode cX7_of 12 = .ok (.iconst 0, 1) := by decide +kernel
theorem dX7_of_13 : decode cX7_of 13 = .ok (.iconst 5, 1) := by decide +kernel
theorem dX7_of_14 : decode cX7_of 14 = .ok (.invokestatic 77, 3) := by decide +kernel
theorem dX7_of_17 : decode cX7_of 17 = .ok (.ifCond .ne 9, 3) := by decide +kernel
theorem dX7_of_20 : decode cX7_of 20 = .ok (.aload_n 0, 1) := by decide +kernel
theorem dX7_of_21 : decode cX7_of 21 = .ok (.iconst 0, 1) := by decide +kernel
theorem dX7_of_22 : decode cX7_of 22 = .ok (.invokevirtual 61, 3) := by decide +kernel
theorem dX7_of_25 : decode cX7_of 25 = .ok (.ireturn, 1) := by decide +kernel
theorem dX7_of_26 : decode cX7_of 26 = .ok (.iload_n 2, 1) := by decide +kernel
theorem dX7_of_27 : decode cX7_of 27 = .ok (.iconst 4, 1) := by decide +kernel
theorem dX7_of_28 : decode cX7_of 28 = .ok (.if_icmp .ne 12, 3) := by decide +kernel
theorem dX7_of_31 : decode cX7_of 31 = .ok (.aload_n 0, 1) := by decide +kernel
theorem dX7_of_32 : decode cX7_of 32 = .ok (.getfield 10, 3) := by decide +kernel
theorem dX7_of_35 : decode cX7_of 35 = .ok (.iload_n 1, 1) := by decide +kernel
theorem dX7_of_36 : decode cX7_of 36 = .ok (.invokevirtual 81, 3) := by decide +kernel
theorem dX7_of_39 : decode cX7_of 39 = .ok (.ireturn, 1) := by decide +kernel
theorem dX7_of_40 : decode cX7_of 40 = .ok (.iload_n 2, 1) := by decide +kernel
theorem dX7_of_41 : decode cX7_of 41 = .ok (.iconst 5, 1) := by decide +kernel
theorem dX7_of_42 : decode cX7_of 42 = .ok (.if_icmp .ne 19, 3) := by decide +kernel
theorem dX7_of_45 : decode cX7_of 45 = .ok (.aload_n 0, 1) := by decide +kernel
theorem dX7_of_46 : decode cX7_of 46 = .ok (.getfield 10, 3) := by decide +kernel
theorem dX7_of_49 : decode cX7_of 49 = .ok (.getfield 51, 3) := by decide +kernel
theorem dX7_of_52 : decode cX7_of 52 = .ok (.iload_n 1, 1) := by decide +kernel
theorem dX7_of_53 : decode cX7_of 53 = .ok (.iconst 0, 1) := by decide +kernel
theorem dX7_of_54 : decode cX7_of 54 = .ok (.invokevirtual 84, 3) := by decide +kernel
theorem dX7_of_57 : decode cX7_of 57 = .ok (.invokestatic 88, 3) := by decide +kernel
theorem dX7_of_60 : decode cX7_of 60 = .ok (.ireturn, 1) := by decide +kernel
theorem dX7_of_61 : decode cX7_of 61 = .ok (.aload_n 0, 1) := by decide +kernel
theorem dX7_of_62 : decode cX7_of 62 = .ok (.getfield 10, 3) := by decide +kernel
theorem dX7_of_65 : decode cX7_of 65 = .ok (.getfield 51, 3) := by decide +kernel
theorem dX7_of_68 : decode cX7_of 68 = .ok (.iload_n 1, 1) := by decide +kernel
theorem dX7_of_69 : decode cX7_of 69 = .ok (.iload_n 2, 1) := by decide +kernel
theorem dX7_of_70 : decode cX7_of 70 = .ok (.invokevirtual 84, 3) := by decide +kernel
theorem dX7_of_73 : decode cX7_of 73 = .ok (.ireturn, 1) := by decide +kernel
theorem dX7_change_0 : decode cX7_change 0 = .ok (.aload_n 0, 1) := by decide +kernel
theorem dX7_change_1 : decode cX7_change 1 = .ok (.getfield 10, 3) := by decide +kernel
theorem dX7_change_4 : decode cX7_change 4 = .ok (.iload_n 1, 1) := by decide +kernel
theorem dX7_change_5 : decode cX7_change 5 = .ok (.invokevirtual 73, 3) := by decide +kernel
theorem dX7_change_8 : decode cX7_change 8 = .ok (.ifCond .eq 20, 3) := by decide +kernel
theorem dX7_change_11 : decode cX7_change 11 = .ok (.aload_n 0, 1) := by decide +kernel
theorem dX7_change_12 : decode cX7_change 12 = .ok (.aload_n 0, 1) := by decide +kernel
theorem dX7_change_13 : decode cX7_change 13 = .ok (.getfield 10, 3) := by decide +kernel
theorem dX7_change_16 : decode cX7_change 16 = .ok (.getfield 51, 3) := by decide +kernel
theorem dX7_change_19 : decode cX7_change 19 = .ok (.iload_n 1, 1) := by decide +kernel
theorem dX7_change_20 : decode cX7_change 20 = .ok (.iload_n 2, 1) := by decide +kernel
theorem dX7_change_21 : decode cX7_change 21 = .ok (.iload_n 3, 1) := by decide +kernel
theorem dX7_change_22 : decode cX7_change 22 = .ok (.invokevirtual 93, 3) := by decide +kernel
theorem dX7_change_25 : decode cX7_change 25 = .ok (.goto 8, 3) := by decide +kernel
theorem dX7_change_28 : decode cX7_change 28 = .ok (.aload_n 0, 1) := by decide +kernel
theorem dX7_change_29 : decode cX7_change 29 = .ok (.iconst 0, 1) := by decide +kernel
theorem dX7_change_30 : decode cX7_change 30 = .ok (.invokevirtual 61, 3) := by decide +kernel
theorem dX7_change_33 : decode cX7_change 33 = .ok (.ireturn, 1) := by decide +kernel
theorem dX7_hen_0 : decode cX7_hen 0 = .ok (.aload_n 0, 1) := by decide +kernel
theorem dX7_hen_1 : decode cX7_hen 1 = .ok (.aload_n 0, 1) := by decide +kernel
theorem dX7_hen_2 : decode cX7_hen 2 = .ok (.getfield 10, 3) := by decide +kernel
theorem dX7_hen_5 : decode cX7_hen 5 = .ok (.getfield 97, 3) := by decide +kernel
theorem dX7_hen_8 : decode cX7_hen 8 = .ok (.iload_n 1, 1) := by decide +kernel
theorem dX7_hen_9 : decode cX7_hen 9 = .ok (.iload_n 2, 1) := by decide +kernel
theorem dX7_hen_10 : decode cX7_hen 10 = .ok (.iload_n 3, 1) := by decide +kernel
theorem dX7_hen_11 : decode cX7_hen 11 = .ok (.invokevirtual 93, 3) := by decide +kernel
theorem dX7_hen_14 : decode cX7_hen 14 = .ok (.ireturn, 1) := by decide +kernel
theorem dX7_work_0 : decode cX7_work 0 = .ok (.aload_n 0, 1) := by decide +kernel
theorem dX7_work_1 : decode cX7_work 1 = .ok (.aload_n 0, 1) := by decide +kernel
theorem dX7_work_2 : decode cX7_work 2 = .ok (.getfield 10, 3) := by decide +kernel
theorem dX7_work_5 : decode cX7_work 5 = .ok (.getfield 100, 3) := by decide +kernel
theorem dX7_work_8 : decode cX7_work 8 = .ok (.iload_n 1, 1) := by decide +kernel
theorem dX7_work_9 : decode cX7_work 9 = .ok (.iload_n 2, 1) := by decide +kernel
theorem dX7_work_10 : decode cX7_work 10 = .ok (.iload_n 3, 1) := by decide +kernel
theorem dX7_work_11 : decode cX7_work 11 = .ok (.invokevirtual 93, 3) := by decide +kernel
theorem dX7_work_14 : decode cX7_work 14 = .ok (.ireturn, 1) := by decide +kernel
theorem dX7_henOf_0 : decode cX7_henOf 0 = .ok (.aload_n 0, 1) := by decide +kernel
theorem dX7_henOf_1 : decode cX7_henOf 1 = .ok (.getfield 10, 3) := by decide +kernel
theorem dX7_henOf_4 : decode cX7_henOf 4 = .ok (.getfield 97, 3) := by decide +kernel
theorem dX7_henOf_7 : decode cX7_henOf 7 = .ok (.iload_n 1, 1) := by decide +kernel
theorem dX7_henOf_8 : decode cX7_henOf 8 = .ok (.invokevirtual 103, 3) := by decide +kernel
theorem dX7_henOf_11 : decode cX7_henOf 11 = .ok (.ifCond .eq 17, 3) := by decide +kernel
theorem dX7_henOf_14 : decode cX7_henOf 14 = .ok (.aload_n 0, 1) := by decide +kernel
theorem dX7_henOf_15 : decode cX7_henOf 15 = .ok (.getfield 10, 3) := by decide +kernel
theorem dX7_henOf_18 : decode cX7_henOf 18 = .ok (.getfield 97, 3) := by decide +kernel
theorem dX7_henOf_21 : decode cX7_henOf 21 = .ok (.iload_n 2, 1) := by decide +kernel
theorem dX7_henOf_22 : decode cX7_henOf 22 = .ok (.invokevirtual 106, 3) := by decide +kernel
theorem dX7_henOf_25 : decode cX7_henOf 25 = .ok (.ifCond .ne 9, 3) := by decide +kernel
theorem dX7_henOf_28 : decode cX7_henOf 28 = .ok (.aload_n 0, 1) := by decide +kernel
theorem dX7_henOf_29 : decode cX7_henOf 29 = .ok (.iconst 0, 1) := by decide +kernel
theorem dX7_henOf_30 : decode cX7_henOf 30 = .ok (.invokevirtual 61, 3) := by decide +kernel
theorem dX7_henOf_33 : decode cX7_henOf 33 = .ok (.ireturn, 1) := by decide +kernel
theorem dX7_henOf_34 : decode cX7_henOf 34 = .ok (.aload_n 0, 1) := by decide +kernel
theorem dX7_henOf_35 : decode cX7_henOf 35 = .ok (.getfield 10, 3) := by decide +kernel
theorem dX7_henOf_38 : decode cX7_henOf 38 = .ok (.getfield 97, 3) := by decide +kernel
theorem dX7_henOf_41 : decode cX7_henOf 41 = .ok (.iload_n 1, 1) := by decide +kernel
theorem dX7_henOf_42 : decode cX7_henOf 42 = .ok (.iload_n 2, 1) := by decide +kernel
theorem dX7_henOf_43 : decode cX7_henOf 43 = .ok (.invokevirtual 84, 3) := by decide +kernel
theorem dX7_henOf_46 : decode cX7_henOf 46 = .ok (.ireturn, 1) := by decide +kernel
theorem dX7_workOf_0 : decode cX7_workOf 0 = .ok (.aload_n 0, 1) := by decide +kernel
theorem dX7_workOf_1 : decode cX7_workOf 1 = .ok (.getfield 10, 3) := by decide +kernel
theorem dX7_workOf_4 : decode cX7_workOf 4 = .ok (.getfield 100, 3) := by decide +kernel
theorem dX7_workOf_7 : decode cX7_workOf 7 = .ok (.iload_n 1, 1) := by decide +kernel
theorem dX7_workOf_8 : decode cX7_workOf 8 = .ok (.invokevirtual 103, 3) := by decide +kernel
theorem dX7_workOf_11 : decode cX7_workOf 11 = .ok (.ifCond .eq 12, 3) := by decide +kernel
theorem dX7_workOf_14 : decode cX7_workOf 14 = .ok (.iload_n 2, 1) := by decide +kernel
theorem dX7_workOf_15 : decode cX7_workOf 15 = .ok (.iconst 0, 1) := by decide +kernel
theorem dX7_workOf_16 : decode cX7_workOf 16 = .ok (.iconst 4, 1) := by decide +kernel
theorem dX7_workOf_17 : decode cX7_workOf 17 = .ok (.invokestatic 77, 3) := by decide +kernel
theorem dX7_workOf_20 : decode cX7_workOf 20 = .ok (.ifCond .ne 9, 3) := by decide +kernel
theorem dX7_workOf_23 : decode cX7_workOf 23 = .ok (.aload_n 0, 1) := by decide +kernel
theorem dX7_workOf_24 : decode cX7_workOf 24 = .ok (.iconst 0, 1) := by decide +kernel
theorem dX7_workOf_25 : decode cX7_workOf 25 = .ok (.invokevirtual 61, 3) := by decide +kernel
theorem dX7_workOf_28 : decode cX7_workOf 28 = .ok (.ireturn, 1) := by decide +kernel
theorem dX7_workOf_29 : decode cX7_workOf 29 = .ok (.iload_n 2, 1) := by decide +kernel
theorem dX7_workOf_30 : decode cX7_workOf 30 = .ok (.iconst 4, 1) := by decide +kernel
theorem dX7_workOf_31 : decode cX7_workOf 31 = .ok (.if_icmp .ne 20, 3) := by decide +kernel
theorem dX7_workOf_34 : decode cX7_workOf 34 = .ok (.aload_n 0, 1) := by decide +kernel
theorem dX7_workOf_35 : decode cX7_workOf 35 = .ok (.getfield 10, 3) := by decide +kernel
theorem dX7_workOf_38 : decode cX7_workOf 38 = .ok (.iload_n 1, 1) := by decide +kernel
theorem dX7_workOf_39 : decode cX7_workOf 39 = .ok (.invokevirtual 109, 3) := by decide +kernel
theorem dX7_workOf_42 : decode cX7_workOf 42 = .ok (.ifCond .eq 7, 3) := by decide +kernel
theorem dX7_workOf_45 : decode cX7_workOf 45 = .ok (.iconst 1, 1) := by decide +kernel
theorem dX7_workOf_46 : decode cX7_workOf 46 = .ok (.goto 4, 3) := by decide +kernel
theorem dX7_workOf_49 : decode cX7_workOf 49 = .ok (.iconst 0, 1) := by decide +kernel
theorem dX7_workOf_50 : decode cX7_workOf 50 = .ok (.ireturn, 1) := by decide +kernel
theorem dX7_workOf_51 : decode cX7_workOf 51 = .ok (.aload_n 0, 1) := by decide +kernel
theorem dX7_workOf_52 : decode cX7_workOf 52 = .ok (.getfield 10, 3) := by decide +kernel
theorem dX7_workOf_55 : decode cX7_workOf 55 = .ok (.getfield 100, 3) := by decide +kernel
theorem dX7_workOf_58 : decode cX7_workOf 58 = .ok (.iload_n 1, 1) := by decide +kernel
theorem dX7_workOf_59 : decode cX7_workOf 59 = .ok (.iload_n 2, 1) := by decide +kernel
theorem dX7_workOf_60 : decode cX7_workOf 60 = .ok (.invokevirtual 84, 3) := by decide +kernel
theorem dX7_workOf_63 : decode cX7_workOf 63 = .ok (.ireturn, 1) := by decide +kernel
theorem dX7_spend_0 : decode cX7_spend 0 = .ok (.aload_n 0, 1) := by decide +kernel
theorem dX7_spend_1 : decode cX7_spend 1 = .ok (.getfield 10, 3) := by decide +kernel
theorem dX7_spend_4 : decode cX7_spend 4 = .ok (.iload_n 1, 1) := by decide +kernel
theorem dX7_spend_5 : decode cX7_spend 5 = .ok (.invokevirtual 73, 3) := by decide +kernel
theorem dX7_spend_8 : decode cX7_spend 8 = .ok (.ifCond .eq 17, 3) := by decide +kernel
theorem dX7_spend_11 : decode cX7_spend 11 = .ok (.aload_n 0, 1) := by decide +kernel
theorem dX7_spend_12 : decode cX7_spend 12 = .ok (.getfield 10, 3) := by decide +kernel
theorem dX7_spend_15 : decode cX7_spend 15 = .ok (.getfield 100, 3) := by decide +kernel
theorem dX7_spend_18 : decode cX7_spend 18 = .ok (.iload_n 2, 1) := by decide +kernel
theorem dX7_spend_19 : decode cX7_spend 19 = .ok (.invokevirtual 103, 3) := by decide +kernel
theorem dX7_spend_22 : decode cX7_spend 22 = .ok (.ifCond .ne 9, 3) := by decide +kernel
theorem dX7_spend_25 : decode cX7_spend 25 = .ok (.aload_n 0, 1) := by decide +kernel
theorem dX7_spend_26 : decode cX7_spend 26 = .ok (.iconst 0, 1) := by decide +kernel
theorem dX7_spend_27 : decode cX7_spend 27 = .ok (.invokevirtual 61, 3) := by decide +kernel
theorem dX7_spend_30 : decode cX7_spend 30 = .ok (.ireturn, 1) := by decide +kernel
theorem dX7_spend_31 : decode cX7_spend 31 = .ok (.aload_n 0, 1) := by decide +kernel
theorem dX7_spend_32 : decode cX7_spend 32 = .ok (.getfield 10, 3) := by decide +kernel
theorem dX7_spend_35 : decode cX7_spend 35 = .ok (.iload_n 2, 1) := by decide +kernel
theorem dX7_spend_36 : decode cX7_spend 36 = .ok (.invokevirtual 112, 3) := by decide +kernel
theorem dX7_spend_39 : decode cX7_spend 39 = .ok (.ifCond .ne 9, 3) := by decide +kernel
theorem dX7_spend_42 : decode cX7_spend 42 = .ok (.aload_n 0, 1) := by decide +kernel
theorem dX7_spend_43 : decode cX7_spend 43 = .ok (.iconst 4, 1) := by decide +kernel
theorem dX7_spend_44 : decode cX7_spend 44 = .ok (.invokevirtual 61, 3) := by decide +kernel
theorem dX7_spend_47 : decode cX7_spend 47 = .ok (.ireturn, 1) := by decide +kernel
theorem dX7_spend_48 : decode cX7_spend 48 = .ok (.aload_n 0, 1) := by decide +kernel
theorem dX7_spend_49 : decode cX7_spend 49 = .ok (.getfield 10, 3) := by decide +kernel
theorem dX7_spend_52 : decode cX7_spend 52 = .ok (.iload_n 1, 1) := by decide +kernel
theorem dX7_spend_53 : decode cX7_spend 53 = .ok (.iload_n 2, 1) := by decide +kernel
theorem dX7_spend_54 : decode cX7_spend 54 = .ok (.invokevirtual 115, 3) := by decide +kernel
theorem dX7_spend_57 : decode cX7_spend 57 = .ok (.ireturn, 1) := by decide +kernel
theorem dX7_broken_0 : decode cX7_broken 0 = .ok (.aload_n 0, 1) := by decide +kernel
theorem dX7_broken_1 : decode cX7_broken 1 = .ok (.getfield 10, 3) := by decide +kernel
theorem dX7_broken_4 : decode cX7_broken 4 = .ok (.iload_n 1, 1) := by decide +kernel
theorem dX7_broken_5 : decode cX7_broken 5 = .ok (.invokevirtual 73, 3) := by decide +kernel
theorem dX7_broken_8 : decode cX7_broken 8 = .ok (.ifCond .ne 9, 3) := by decide +kernel
theorem dX7_broken_11 : decode cX7_broken 11 = .ok (.aload_n 0, 1) := by decide +kernel
theorem dX7_broken_12 : decode cX7_broken 12 = .ok (.iconst 0, 1) := by decide +kernel
theorem dX7_broken_13 : decode cX7_broken 13 = .ok (.invokevirtual 61, 3) := by decide +kernel
theorem dX7_broken_16 : decode cX7_broken 16 = .ok (.ireturn, 1) := by decide +kernel
theorem dX7_broken_17 : decode cX7_broken 17 = .ok (.aload_n 0, 1) := by decide +kernel
theorem dX7_broken_18 : decode cX7_broken 18 = .ok (.getfield 10, 3) := by decide +kernel
theorem dX7_broken_21 : decode cX7_broken 21 = .ok (.iload_n 1, 1) := by decide +kernel
theorem dX7_broken_22 : decode cX7_broken 22 = .ok (.invokevirtual 81, 3) := by decide +kernel
theorem dX7_broken_25 : decode cX7_broken 25 = .ok (.istore_n 2, 1) := by decide +kernel
theorem dX7_broken_26 : decode cX7_broken 26 = .ok (.aload_n 0, 1) := by decide +kernel
theorem dX7_broken_27 : decode cX7_broken 27 = .ok (.getfield 10, 3) := by decide +kernel
theorem dX7_broken_30 : decode cX7_broken 30 = .ok (.iload_n 1, 1) := by decide +kernel
theorem dX7_broken_31 : decode cX7_broken 31 = .ok (.invokevirtual 118, 3) := by decide +kernel
theorem dX7_broken_34 : decode cX7_broken 34 = .ok (.iload_n 2, 1) := by decide +kernel
theorem dX7_broken_35 : decode cX7_broken 35 = .ok (.ireturn, 1) := by decide +kernel
theorem dX7_go_0 : decode cX7_go 0 = .ok (.iload_n 1, 1) := by decide +kernel
theorem dX7_go_1 : decode cX7_go 1 = .ok (.iconst 1, 1) := by decide +kernel
theorem dX7_go_2 : decode cX7_go 2 = .ok (.bipush 60, 2) := by decide +kernel
theorem dX7_go_4 : decode cX7_go 4 = .ok (.invokestatic 77, 3) := by decide +kernel
theorem dX7_go_7 : decode cX7_go 7 = .ok (.ifCond .ne 9, 3) := by decide +kernel
theorem dX7_go_10 : decode cX7_go 10 = .ok (.aload_n 0, 1) := by decide +kernel
theorem dX7_go_11 : decode cX7_go 11 = .ok (.iconst 0, 1) := by decide +kernel
theorem dX7_go_12 : decode cX7_go 12 = .ok (.invokevirtual 61, 3) := by decide +kernel
theorem dX7_go_15 : decode cX7_go 15 = .ok (.ireturn, 1) := by decide +kernel
theorem dX7_go_16 : decode cX7_go 16 = .ok (.aload_n 0, 1) := by decide +kernel
theorem dX7_go_17 : decode cX7_go 17 = .ok (.getfield 10, 3) := by decide +kernel
theorem dX7_go_20 : decode cX7_go 20 = .ok (.getfield 122, 3) := by decide +kernel
theorem dX7_go_23 : decode cX7_go 23 = .ok (.iload_n 1, 1) := by decide +kernel
theorem dX7_go_24 : decode cX7_go 24 = .ok (.iadd, 1) := by decide +kernel
theorem dX7_go_25 : decode cX7_go 25 = .ok (.ldc 126, 2) := by decide +kernel
theorem dX7_go_27 : decode cX7_go 27 = .ok (.if_icmp .le 9, 3) := by decide +kernel
theorem dX7_go_30 : decode cX7_go 30 = .ok (.aload_n 0, 1) := by decide +kernel
theorem dX7_go_31 : decode cX7_go 31 = .ok (.iconst 4, 1) := by decide +kernel
theorem dX7_go_32 : decode cX7_go 32 = .ok (.invokevirtual 61, 3) := by decide +kernel
theorem dX7_go_35 : decode cX7_go 35 = .ok (.ireturn, 1) := by decide +kernel
theorem dX7_go_36 : decode cX7_go 36 = .ok (.aload_n 0, 1) := by decide +kernel
theorem dX7_go_37 : decode cX7_go 37 = .ok (.getfield 10, 3) := by decide +kernel
theorem dX7_go_40 : decode cX7_go 40 = .ok (.iload_n 1, 1) := by decide +kernel
theorem dX7_go_41 : decode cX7_go 41 = .ok (.invokevirtual 127, 3) := by decide +kernel
theorem dX7_go_44 : decode cX7_go 44 = .ok (.pop, 1) := by decide +kernel
theorem dX7_go_45 : decode cX7_go 45 = .ok (.aload_n 0, 1) := by decide +kernel
theorem dX7_go_46 : decode cX7_go 46 = .ok (.getfield 10, 3) := by decide +kernel
theorem dX7_go_49 : decode cX7_go 49 = .ok (.invokevirtual 130, 3) := by decide +kernel
theorem dX7_go_52 : decode cX7_go 52 = .ok (.invokestatic 133, 3) := by decide +kernel
theorem dX7_go_55 : decode cX7_go 55 = .ok (.ireturn, 1) := by decide +kernel
theorem dX7_now_0 : decode cX7_now 0 = .ok (.iload_n 1, 1) := by decide +kernel
theorem dX7_now_1 : decode cX7_now 1 = .ok (.tableswitch 75 0 4 #[35, 43, 51, 59, 67], 35) := by decide +kernel
theorem dX7_now_36 : decode cX7_now 36 = .ok (.aload_n 0, 1) := by decide +kernel
theorem dX7_now_37 : decode cX7_now 37 = .ok (.getfield 10, 3) := by decide +kernel
theorem dX7_now_40 : decode cX7_now 40 = .ok (.getfield 122, 3) := by decide +kernel
theorem dX7_now_43 : decode cX7_now 43 = .ok (.ireturn, 1) := by decide +kernel
theorem dX7_now_44 : decode cX7_now 44 = .ok (.aload_n 0, 1) := by decide +kernel
theorem dX7_now_45 : decode cX7_now 45 = .ok (.getfield 10, 3) := by decide +kernel
theorem dX7_now_48 : decode cX7_now 48 = .ok (.invokevirtual 130, 3) := by decide +kernel
theorem dX7_now_51 : decode cX7_now 51 = .ok (.ireturn, 1) := by decide +kernel
theorem dX7_now_52 : decode cX7_now 52 = .ok (.aload_n 0, 1) := by decide +kernel
theorem dX7_now_53 : decode cX7_now 53 = .ok (.getfield 10, 3) := by decide +kernel
theorem dX7_now_56 : decode cX7_now 56 = .ok (.invokevirtual 138, 3) := by decide +kernel
theorem dX7_now_59 : decode cX7_now 59 = .ok (.ireturn, 1) := by decide +kernel
theorem dX7_now_60 : decode cX7_now 60 = .ok (.aload_n 0, 1) := by decide +kernel
theorem dX7_now_61 : decode cX7_now 61 = .ok (.getfield 10, 3) := by decide +kernel
theorem dX7_now_64 : decode cX7_now 64 = .ok (.invokevirtual 141, 3) := by decide +kernel
theorem dX7_now_67 : decode cX7_now 67 = .ok (.ireturn, 1) := by decide +kernel
theorem dX7_now_68 : decode cX7_now 68 = .ok (.aload_n 0, 1) := by decide +kernel
theorem dX7_now_69 : decode cX7_now 69 = .ok (.getfield 10, 3) := by decide +kernel
theorem dX7_now_72 : decode cX7_now 72 = .ok (.getfield 144, 3) := by decide +kernel
theorem dX7_now_75 : decode cX7_now 75 = .ok (.ireturn, 1) := by decide +kernel
theorem dX7_now_76 : decode cX7_now 76 = .ok (.aload_n 0, 1) := by decide +kernel
theorem dX7_now_77 : decode cX7_now 77 = .ok (.iconst 0, 1) := by decide +kernel
theorem dX7_now_78 : decode cX7_now 78 = .ok (.invokevirtual 61, 3) := by decide +kernel
theorem dX7_now_81 : decode cX7_now 81 = .ok (.ireturn, 1) := by decide +kernel
theorem dX7_ahead_0 : decode cX7_ahead 0 = .ok (.iload_n 1, 1) := by decide +kernel
theorem dX7_ahead_1 : decode cX7_ahead 1 = .ok (.iconst 0, 1) := by decide +kernel
theorem dX7_ahead_2 : decode cX7_ahead 2 = .ok (.bipush 100, 2) := by decide +kernel
theorem dX7_ahead_4 : decode cX7_ahead 4 = .ok (.invokestatic 77, 3) := by decide +kernel
theorem dX7_ahead_7 : decode cX7_ahead 7 = .ok (.ifCond .ne 9, 3) := by decide +kernel
theorem dX7_ahead_10 : decode cX7_ahead 10 = .ok (.aload_n 0, 1) := by decide +kernel
theorem dX7_ahead_11 : decode cX7_ahead 11 = .ok (.iconst 0, 1) := by decide +kernel
theorem dX7_ahead_12 : decode cX7_ahead 12 = .ok (.invokevirtual 61, 3) := by decide +kernel
theorem dX7_ahead_15 : decode cX7_ahead 15 = .ok (.ireturn, 1) := by decide +kernel
theorem dX7_ahead_16 : decode cX7_ahead 16 = .ok (.aload_n 0, 1) := by decide +kernel
theorem dX7_ahead_17 : decode cX7_ahead 17 = .ok (.getfield 19, 3) := by decide +kernel
theorem dX7_ahead_20 : decode cX7_ahead 20 = .ok (.aload_n 0, 1) := by decide +kernel
theorem dX7_ahead_21 : decode cX7_ahead 21 = .ok (.getfield 10, 3) := by decide +kernel
theorem dX7_ahead_24 : decode cX7_ahead 24 = .ok (.invokevirtual 147, 3) := by decide +kernel
theorem dX7_ahead_27 : decode cX7_ahead 27 = .ok (.aload_n 0, 1) := by decide +kernel
theorem dX7_ahead_28 : decode cX7_ahead 28 = .ok (.getfield 19, 3) := by decide +kernel
theorem dX7_ahead_31 : decode cX7_ahead 31 = .ok (.iload_n 1, 1) := by decide +kernel
theorem dX7_ahead_32 : decode cX7_ahead 32 = .ok (.invokevirtual 127, 3) := by decide +kernel
theorem dX7_ahead_35 : decode cX7_ahead 35 = .ok (.pop, 1) := by decide +kernel
theorem dX7_ahead_36 : decode cX7_ahead 36 = .ok (.aload_n 0, 1) := by decide +kernel
theorem dX7_ahead_37 : decode cX7_ahead 37 = .ok (.getfield 19, 3) := by decide +kernel
theorem dX7_ahead_40 : decode cX7_ahead 40 = .ok (.invokevirtual 138, 3) := by decide +kernel
theorem dX7_ahead_43 : decode cX7_ahead 43 = .ok (.ireturn, 1) := by decide +kernel
theorem dX7_spoils_0 : decode cX7_spoils 0 = .ok (.iload_n 1, 1) := by decide +kernel
theorem dX7_spoils_1 : decode cX7_spoils 1 = .ok (.iconst 0, 1) := by decide +kernel
theorem dX7_spoils_2 : decode cX7_spoils 2 = .ok (.bipush 100, 2) := by decide +kernel
theorem dX7_spoils_4 : decode cX7_spoils 4 = .ok (.invokestatic 77, 3) := by decide +kernel
theorem dX7_spoils_7 : decode cX7_spoils 7 = .ok (.ifCond .ne 9, 3) := by decide +kernel
theorem dX7_spoils_10 : decode cX7_spoils 10 = .ok (.aload_n 0, 1) := by decide +kernel
theorem dX7_spoils_11 : decode cX7_spoils 11 = .ok (.iconst 0, 1) := by decide +kernel
theorem dX7_spoils_12 : decode cX7_spoils 12 = .ok (.invokevirtual 61, 3) := by decide +kernel
theorem dX7_spoils_15 : decode cX7_spoils 15 = .ok (.ireturn, 1) := by decide +kernel
theorem dX7_spoils_16 : decode cX7_spoils 16 = .ok (.aload_n 0, 1) := by decide +kernel
theorem dX7_spoils_17 : decode cX7_spoils 17 = .ok (.getfield 19, 3) := by decide +kernel
theorem dX7_spoils_20 : decode cX7_spoils 20 = .ok (.aload_n 0, 1) := by decide +kernel
theorem dX7_spoils_21 : decode cX7_spoils 21 = .ok (.getfield 10, 3) := by decide +kernel
theorem dX7_spoils_24 : decode cX7_spoils 24 = .ok (.invokevirtual 147, 3) := by decide +kernel
theorem dX7_spoils_27 : decode cX7_spoils 27 = .ok (.aload_n 0, 1) := by decide +kernel
theorem dX7_spoils_28 : decode cX7_spoils 28 = .ok (.getfield 19, 3) := by decide +kernel
theorem dX7_spoils_31 : decode cX7_spoils 31 = .ok (.iload_n 1, 1) := by decide +kernel
theorem dX7_spoils_32 : decode cX7_spoils 32 = .ok (.invokevirtual 127, 3) := by decide +kernel
theorem dX7_spoils_35 : decode cX7_spoils 35 = .ok (.ireturn, 1) := by decide +kernel
theorem dX7_ripe_0 : decode cX7_ripe 0 = .ok (.aload_n 0, 1) := by decide +kernel
theorem dX7_ripe_1 : decode cX7_ripe 1 = .ok (.getfield 10, 3) := by decide +kernel
theorem dX7_ripe_4 : decode cX7_ripe 4 = .ok (.iload_n 1, 1) := by decide +kernel
theorem dX7_ripe_5 : decode cX7_ripe 5 = .ok (.invokevirtual 73, 3) := by decide +kernel
theorem dX7_ripe_8 : decode cX7_ripe 8 = .ok (.ifCond .ne 9, 3) := by decide +kernel
theorem dX7_ripe_11 : decode cX7_ripe 11 = .ok (.aload_n 0, 1) := by decide +kernel
theorem dX7_ripe_12 : decode cX7_ripe 12 = .ok (.iconst 0, 1) := by decide +kernel
theorem dX7_ripe_13 : decode cX7_ripe 13 = .ok (.invokevirtual 61, 3) := by decide +kernel
theorem dX7_ripe_16 : decode cX7_ripe 16 = .ok (.ireturn, 1) := by decide +kernel
theorem dX7_ripe_17 : decode cX7_ripe 17 = .ok (.aload_n 0, 1) := by decide +kernel
theorem dX7_ripe_18 : decode cX7_ripe 18 = .ok (.getfield 10, 3) := by decide +kernel
theorem dX7_ripe_21 : decode cX7_ripe 21 = .ok (.getfield 51, 3) := by decide +kernel
theorem dX7_ripe_24 : decode cX7_ripe 24 = .ok (.iload_n 1, 1) := by decide +kernel
theorem dX7_ripe_25 : decode cX7_ripe 25 = .ok (.iconst 0, 1) := by decide +kernel
theorem dX7_ripe_26 : decode cX7_ripe 26 = .ok (.invokevirtual 84, 3) := by decide +kernel
theorem dX7_ripe_29 : decode cX7_ripe 29 = .ok (.istore_n 2, 1) := by decide +kernel
theorem dX7_ripe_30 : decode cX7_ripe 30 = .ok (.aload_n 0, 1) := by decide +kernel
theorem dX7_ripe_31 : decode cX7_ripe 31 = .ok (.getfield 10, 3) := by decide +kernel
theorem dX7_ripe_34 : decode cX7_ripe 34 = .ok (.getfield 51, 3) := by decide +kernel
theorem dX7_ripe_37 : decode cX7_ripe 37 = .ok (.iload_n 1, 1) := by decide +kernel
theorem dX7_ripe_38 : decode cX7_ripe 38 = .ok (.iconst 2, 1) := by decide +kernel
theorem dX7_ripe_39 : decode cX7_ripe 39 = .ok (.invokevirtual 84, 3) := by decide +kernel
theorem dX7_ripe_42 : decode cX7_ripe 42 = .ok (.istore_n 3, 1) := by decide +kernel
theorem dX7_ripe_43 : decode cX7_ripe 43 = .ok (.iconst 0, 1) := by decide +kernel
theorem dX7_ripe_44 : decode cX7_ripe 44 = .ok (.istore 4, 2) := by decide +kernel
theorem dX7_ripe_46 : decode cX7_ripe 46 = .ok (.aload_n 0, 1) := by decide +kernel
theorem dX7_ripe_47 : decode cX7_ripe 47 = .ok (.getfield 10, 3) := by decide +kernel
theorem dX7_ripe_50 : decode cX7_ripe 50 = .ok (.iload_n 1, 1) := by decide +kernel
theorem dX7_ripe_51 : decode cX7_ripe 51 = .ok (.invokevirtual 81, 3) := by decide +kernel
theorem dX7_ripe_54 : decode cX7_ripe 54 = .ok (.istore 5, 2) := by decide +kernel
theorem dX7_ripe_56 : decode cX7_ripe 56 = .ok (.iconst 1, 1) := by decide +kernel
theorem dX7_ripe_57 : decode cX7_ripe 57 = .ok (.istore 6, 2) := by decide +kernel
theorem dX7_ripe_59 : decode cX7_ripe 59 = .ok (.iload 6, 2) := by decide +kernel
theorem dX7_ripe_61 : decode cX7_ripe 61 = .ok (.bipush 100, 2) := by decide +kernel
theorem dX7_ripe_63 : decode cX7_ripe 63 = .ok (.if_icmp .gt 48, 3) := by decide +kernel
theorem dX7_ripe_66 : decode cX7_ripe 66 = .ok (.iload_n 2, 1) := by decide +kernel
theorem dX7_ripe_67 : decode cX7_ripe 67 = .ok (.iload_n 3, 1) := by decide +kernel
theorem dX7_ripe_68 : decode cX7_ripe 68 = .ok (.iload 6, 2) := by decide +kernel
theorem dX7_ripe_70 : decode cX7_ripe 70 = .ok (.invokestatic 151, 3) := by decide +kernel
theorem dX7_ripe_73 : decode cX7_ripe 73 = .ok (.ifCond .eq 38, 3) := by decide +kernel
theorem dX7_ripe_76 : decode cX7_ripe 76 = .ok (.aload_n 0, 1) := by decide +kernel
theorem dX7_ripe_77 : decode cX7_ripe 77 = .ok (.getfield 10, 3) := by decide +kernel
theorem dX7_ripe_80 : decode cX7_ripe 80 = .ok (.iload_n 1, 1) := by decide +kernel
theorem dX7_ripe_81 : decode cX7_ripe 81 = .ok (.iload_n 2, 1) := by decide +kernel
theorem dX7_ripe_82 : decode cX7_ripe 82 = .ok (.iload_n 3, 1) := by decide +kernel
theorem dX7_ripe_83 : decode cX7_ripe 83 = .ok (.iload 6, 2) := by decide +kernel
theorem dX7_ripe_85 : decode cX7_ripe 85 = .ok (.invokevirtual 154, 3) := by decide +kernel
theorem dX7_ripe_88 : decode cX7_ripe 88 = .ok (.istore 7, 2) := by decide +kernel
theorem dX7_ripe_90 : decode cX7_ripe 90 = .ok (.iload 7, 2) := by decide +kernel
theorem dX7_ripe_92 : decode cX7_ripe 92 = .ok (.iload 5, 2) := by decide +kernel
theorem dX7_ripe_94 : decode cX7_ripe 94 = .ok (.if_icmp .le 11, 3) := by decide +kernel
theorem dX7_ripe_97 : decode cX7_ripe 97 = .ok (.iload 7, 2) := by decide +kernel
theorem dX7_ripe_99 : decode cX7_ripe 99 = .ok (.istore 5, 2) := by decide +kernel
theorem dX7_ripe_101 : decode cX7_ripe 101 = .ok (.iload 6, 2) := by decide +kernel
theorem dX7_ripe_103 : decode cX7_ripe 103 = .ok (.istore 4, 2) := by decide +kernel
theorem dX7_ripe_105 : decode cX7_ripe 105 = .ok (.iinc 6 1, 3) := by decide +kernel
theorem dX7_ripe_108 : decode cX7_ripe 108 = .ok (.goto (-49), 3) := by decide +kernel
theorem dX7_ripe_111 : decode cX7_ripe 111 = .ok (.iload 4, 2) := by decide +kernel
theorem dX7_ripe_113 : decode cX7_ripe 113 = .ok (.ireturn, 1) := by decide +kernel
theorem dX7_lasts_0 : decode cX7_lasts 0 = .ok (.aload_n 0, 1) := by decide +kernel
theorem dX7_lasts_1 : decode cX7_lasts 1 = .ok (.getfield 10, 3) := by decide +kernel
theorem dX7_lasts_4 : decode cX7_lasts 4 = .ok (.iload_n 1, 1) := by decide +kernel
theorem dX7_lasts_5 : decode cX7_lasts 5 = .ok (.invokevirtual 73, 3) := by decide +kernel
theorem dX7_lasts_8 : decode cX7_lasts 8 = .ok (.ifCond .ne 9, 3) := by decide +kernel
theorem dX7_lasts_11 : decode cX7_lasts 11 = .ok (.aload_n 0, 1) := by decide +kernel
theorem dX7_lasts_12 : decode cX7_lasts 12 = .ok (.iconst 0, 1) := by decide +kernel
theorem dX7_lasts_13 : decode cX7_lasts 13 = .ok (.invokevirtual 61, 3) := by decide +kernel
theorem dX7_lasts_16 : decode cX7_lasts 16 = .ok (.ireturn, 1) := by decide +kernel
theorem dX7_lasts_17 : decode cX7_lasts 17 = .ok (.aload_n 0, 1) := by decide +kernel
theorem dX7_lasts_18 : decode cX7_lasts 18 = .ok (.getfield 10, 3) := by decide +kernel
theorem dX7_lasts_21 : decode cX7_lasts 21 = .ok (.getfield 51, 3) := by decide +kernel
theorem dX7_lasts_24 : decode cX7_lasts 24 = .ok (.iload_n 1, 1) := by decide +kernel
theorem dX7_lasts_25 : decode cX7_lasts 25 = .ok (.iconst 0, 1) := by decide +kernel
theorem dX7_lasts_26 : decode cX7_lasts 26 = .ok (.invokevirtual 84, 3) := by decide +kernel
theorem dX7_lasts_29 : decode cX7_lasts 29 = .ok (.istore_n 2, 1) := by decide +kernel
theorem dX7_lasts_30 : decode cX7_lasts 30 = .ok (.aload_n 0, 1) := by decide +kernel
theorem dX7_lasts_31 : decode cX7_lasts 31 = .ok (.getfield 10, 3) := by decide +kernel
theorem dX7_lasts_34 : decode cX7_lasts 34 = .ok (.getfield 51, 3) := by decide +kernel
theorem dX7_lasts_37 : decode cX7_lasts 37 = .ok (.iload_n 1, 1) := by decide +kernel
theorem dX7_lasts_38 : decode cX7_lasts 38 = .ok (.iconst 2, 1) := by decide +kernel
theorem dX7_lasts_39 : decode cX7_lasts 39 = .ok (.invokevirtual 84, 3) := by decide +kernel
theorem dX7_lasts_42 : decode cX7_lasts 42 = .ok (.istore_n 3, 1) := by decide +kernel
theorem dX7_lasts_43 : decode cX7_lasts 43 = .ok (.iconst 0, 1) := by decide +kernel
theorem dX7_lasts_44 : decode cX7_lasts 44 = .ok (.istore 4, 2) := by decide +kernel
theorem dX7_lasts_46 : decode cX7_lasts 46 = .ok (.iload 4, 2) := by decide +kernel
theorem dX7_lasts_48 : decode cX7_lasts 48 = .ok (.bipush 100, 2) := by decide +kernel
theorem dX7_lasts_50 : decode cX7_lasts 50 = .ok (.if_icmp .ge 19, 3) := by decide +kernel
theorem dX7_lasts_53 : decode cX7_lasts 53 = .ok (.iload_n 2, 1) := by decide +kernel
theorem dX7_lasts_54 : decode cX7_lasts 54 = .ok (.iload_n 3, 1) := by decide +kernel
theorem dX7_lasts_55 : decode cX7_lasts 55 = .ok (.iload 4, 2) := by decide +kernel
theorem dX7_lasts_57 : decode cX7_lasts 57 = .ok (.invokestatic 151, 3) := by decide +kernel
theorem dX7_lasts_60 : decode cX7_lasts 60 = .ok (.ifCond .eq 9, 3) := by decide +kernel
theorem dX7_lasts_63 : decode cX7_lasts 63 = .ok (.iinc 4 1, 3) := by decide +kernel
theorem dX7_lasts_66 : decode cX7_lasts 66 = .ok (.goto (-20), 3) := by decide +kernel
theorem dX7_lasts_69 : decode cX7_lasts 69 = .ok (.iload 4, 2) := by decide +kernel
theorem dX7_lasts_71 : decode cX7_lasts 71 = .ok (.ireturn, 1) := by decide +kernel
theorem dX7_when_0 : decode cX7_when 0 = .ok (.iload_n 1, 1) := by decide +kernel
theorem dX7_when_1 : decode cX7_when 1 = .ok (.iconst 0, 1) := by decide +kernel
theorem dX7_when_2 : decode cX7_when 2 = .ok (.sipush 9999, 3) := by decide +kernel
theorem dX7_when_5 : decode cX7_when 5 = .ok (.invokestatic 77, 3) := by decide +kernel
theorem dX7_when_8 : decode cX7_when 8 = .ok (.ifCond .ne 9, 3) := by decide +kernel
theorem dX7_when_11 : decode cX7_when 11 = .ok (.aload_n 0, 1) := by decide +kernel
theorem dX7_when_12 : decode cX7_when 12 = .ok (.iconst 0, 1) := by decide +kernel
theorem dX7_when_13 : decode cX7_when 13 = .ok (.invokevirtual 61, 3) := by decide +kernel
theorem dX7_when_16 : decode cX7_when 16 = .ok (.ireturn, 1) := by decide +kernel
theorem dX7_when_17 : decode cX7_when 17 = .ok (.aload_n 0, 1) := by decide +kernel
theorem dX7_when_18 : decode cX7_when 18 = .ok (.getfield 19, 3) := by decide +kernel
theorem dX7_when_21 : decode cX7_when 21 = .ok (.aload_n 0, 1) := by decide +kernel
theorem dX7_when_22 : decode cX7_when 22 = .ok (.getfield 10, 3) := by decide +kernel
theorem dX7_when_25 : decode cX7_when 25 = .ok (.invokevirtual 147, 3) := by decide +kernel
theorem dX7_when_28 : decode cX7_when 28 = .ok (.iconst 0, 1) := by decide +kernel
theorem dX7_when_29 : decode cX7_when 29 = .ok (.istore_n 2, 1) := by decide +kernel
theorem dX7_when_30 : decode cX7_when 30 = .ok (.iload_n 2, 1) := by decide +kernel
theorem dX7_when_31 : decode cX7_when 31 = .ok (.bipush 100, 2) := by decide +kernel
theorem dX7_when_33 : decode cX7_when 33 = .ok (.if_icmp .gt 31, 3) := by decide +kernel
theorem dX7_when_36 : decode cX7_when 36 = .ok (.aload_n 0, 1) := by decide +kernel
theorem dX7_when_37 : decode cX7_when 37 = .ok (.getfield 19, 3) := by decide +kernel
theorem dX7_when_40 : decode cX7_when 40 = .ok (.invokevirtual 138, 3) := by decide +kernel
theorem dX7_when_43 : decode cX7_when 43 = .ok (.iload_n 1, 1) := by decide +kernel
theorem dX7_when_44 : decode cX7_when 44 = .ok (.if_icmp .lt 5, 3) := by decide +kernel
theorem dX7_when_47 : decode cX7_when 47 = .ok (.iload_n 2, 1) := by decide +kernel
theorem dX7_when_48 : decode cX7_when 48 = .ok (.ireturn, 1) := by decide +kernel
theorem dX7_when_49 : decode cX7_when 49 = .ok (.aload_n 0, 1) := by decide +kernel
theorem dX7_when_50 : decode cX7_when 50 = .ok (.getfield 19, 3) := by decide +kernel
theorem dX7_when_53 : decode cX7_when 53 = .ok (.iconst 1, 1) := by decide +kernel
theorem dX7_when_54 : decode cX7_when 54 = .ok (.invokevirtual 127, 3) := by decide +kernel
theorem dX7_when_57 : decode cX7_when 57 = .ok (.pop, 1) := by decide +kernel
theorem dX7_when_58 : decode cX7_when 58 = .ok (.iinc 2 1, 3) := by decide +kernel
theorem dX7_when_61 : decode cX7_when 61 = .ok (.goto (-31), 3) := by decide +kernel
theorem dX7_when_64 : decode cX7_when 64 = .ok (.aload_n 0, 1) := by decide +kernel
theorem dX7_when_65 : decode cX7_when 65 = .ok (.iconst 3, 1) := by decide +kernel
theorem dX7_when_66 : decode cX7_when 66 = .ok (.invokevirtual 61, 3) := by decide +kernel
theorem dX7_when_69 : decode cX7_when 69 = .ok (.ireturn, 1) := by decide +kernel
theorem dX7_kindFor_0 : decode cX7_kindFor 0 = .ok (.aload_n 0, 1) := by decide +kernel
theorem dX7_kindFor_1 : decode cX7_kindFor 1 = .ok (.getfield 10, 3) := by decide +kernel
theorem dX7_kindFor_4 : decode cX7_kindFor 4 = .ok (.iload_n 1, 1) := by decide +kernel
theorem dX7_kindFor_5 : decode cX7_kindFor 5 = .ok (.invokevirtual 73, 3) := by decide +kernel
theorem dX7_kindFor_8 : decode cX7_kindFor 8 = .ok (.ifCond .eq 13, 3) := by decide +kernel
theorem dX7_kindFor_11 : decode cX7_kindFor 11 = .ok (.iload_n 2, 1) := by decide +kernel
theorem dX7_kindFor_12 : decode cX7_kindFor 12 = .ok (.iconst 0, 1) := by decide +kernel
theorem dX7_kindFor_13 : decode cX7_kindFor 13 = .ok (.bipush 100, 2) := by decide +kernel
theorem dX7_kindFor_15 : decode cX7_kindFor 15 = .ok (.invokestatic 77, 3) := by decide +kernel
theorem dX7_kindFor_18 : decode cX7_kindFor 18 = .ok (.ifCond .ne 9, 3) := by decide +kernel
theorem dX7_kindFor_21 : decode cX7_kindFor 21 = .ok (.aload_n 0, 1) := by decide +kernel
theorem dX7_kindFor_22 : decode cX7_kindFor 22 = .ok (.iconst 0, 1) := by decide +kernel
theorem dX7_kindFor_23 : decode cX7_kindFor 23 = .ok (.invokevirtual 61, 3) := by decide +kernel
theorem dX7_kindFor_26 : decode cX7_kindFor 26 = .ok (.ireturn, 1) := by decide +kernel
theorem dX7_kindFor_27 : decode cX7_kindFor 27 = .ok (.aload_n 0, 1) := by decide +kernel
theorem dX7_kindFor_28 : decode cX7_kindFor 28 = .ok (.getfield 10, 3) := by decide +kernel
theorem dX7_kindFor_31 : decode cX7_kindFor 31 = .ok (.getfield 51, 3) := by decide +kernel
theorem dX7_kindFor_34 : decode cX7_kindFor 34 = .ok (.iload_n 1, 1) := by decide +kernel
theorem dX7_kindFor_35 : decode cX7_kindFor 35 = .ok (.iconst 2, 1) := by decide +kernel
theorem dX7_kindFor_36 : decode cX7_kindFor 36 = .ok (.invokevirtual 84, 3) := by decide +kernel
theorem dX7_kindFor_39 : decode cX7_kindFor 39 = .ok (.istore_n 3, 1) := by decide +kernel
theorem dX7_kindFor_40 : decode cX7_kindFor 40 = .ok (.iconst 0, 1) := by decide +kernel
theorem dX7_kindFor_41 : decode cX7_kindFor 41 = .ok (.istore 4, 2) := by decide +kernel
theorem dX7_kindFor_43 : decode cX7_kindFor 43 = .ok (.aload_n 0, 1) := by decide +kernel
theorem dX7_kindFor_44 : decode cX7_kindFor 44 = .ok (.getfield 10, 3) := by decide +kernel
theorem dX7_kindFor_47 : decode cX7_kindFor 47 = .ok (.iload_n 1, 1) := by decide +kernel
theorem dX7_kindFor_48 : decode cX7_kindFor 48 = .ok (.iconst 0, 1) := by decide +kernel
theorem dX7_kindFor_49 : decode cX7_kindFor 49 = .ok (.iload_n 3, 1) := by decide +kernel
theorem dX7_kindFor_50 : decode cX7_kindFor 50 = .ok (.iload_n 2, 1) := by decide +kernel
theorem dX7_kindFor_51 : decode cX7_kindFor 51 = .ok (.invokevirtual 154, 3) := by decide +kernel
theorem dX7_kindFor_54 : decode cX7_kindFor 54 = .ok (.istore 5, 2) := by decide +kernel
theorem dX7_kindFor_56 : decode cX7_kindFor 56 = .ok (.iconst 1, 1) := by decide +kernel
theorem dX7_kindFor_57 : decode cX7_kindFor 57 = .ok (.istore 6, 2) := by decide +kernel
theorem dX7_kindFor_59 : decode cX7_kindFor 59 = .ok (.iload 6, 2) := by decide +kernel
theorem dX7_kindFor_61 : decode cX7_kindFor 61 = .ok (.bipush 7, 2) := by decide +kernel
theorem dX7_kindFor_63 : decode cX7_kindFor 63 = .ok (.if_icmp .ge 38, 3) := by decide +kernel
theorem dX7_kindFor_66 : decode cX7_kindFor 66 = .ok (.aload_n 0, 1) := by decide +kernel
theorem dX7_kindFor_67 : decode cX7_kindFor 67 = .ok (.getfield 10, 3) := by decide +kernel
theorem dX7_kindFor_70 : decode cX7_kindFor 70 = .ok (.iload_n 1, 1) := by decide +kernel
theorem dX7_kindFor_71 : decode cX7_kindFor 71 = .ok (.iload 6, 2) := by decide +kernel
theorem dX7_kindFor_73 : decode cX7_kindFor 73 = .ok (.iload_n 3, 1) := by decide +kernel
theorem dX7_kindFor_74 : decode cX7_kindFor 74 = .ok (.iload_n 2, 1) := by decide +kernel
theorem dX7_kindFor_75 : decode cX7_kindFor 75 = .ok (.invokevirtual 154, 3) := by decide +kernel
theorem dX7_kindFor_78 : decode cX7_kindFor 78 = .ok (.istore 7, 2) := by decide +kernel
theorem dX7_kindFor_80 : decode cX7_kindFor 80 = .ok (.iload 7, 2) := by decide +kernel
theorem dX7_kindFor_82 : decode cX7_kindFor 82 = .ok (.iload 5, 2) := by decide +kernel
theorem dX7_kindFor_84 : decode cX7_kindFor 84 = .ok (.if_icmp .le 11, 3) := by decide +kernel
theorem dX7_kindFor_87 : decode cX7_kindFor 87 = .ok (.iload 7, 2) := by decide +kernel
theorem dX7_kindFor_89 : decode cX7_kindFor 89 = .ok (.istore 5, 2) := by decide +kernel
theorem dX7_kindFor_91 : decode cX7_kindFor 91 = .ok (.iload 6, 2) := by decide +kernel
theorem dX7_kindFor_93 : decode cX7_kindFor 93 = .ok (.istore 4, 2) := by decide +kernel
theorem dX7_kindFor_95 : decode cX7_kindFor 95 = .ok (.iinc 6 1, 3) := by decide +kernel
theorem dX7_kindFor_98 : decode cX7_kindFor 98 = .ok (.goto (-39), 3) := by decide +kernel
theorem dX7_kindFor_101 : decode cX7_kindFor 101 = .ok (.iload 4, 2) := by decide +kernel
theorem dX7_kindFor_103 : decode cX7_kindFor 103 = .ok (.ireturn, 1) := by decide +kernel
theorem dX7_everyFor_0 : decode cX7_everyFor 0 = .ok (.aload_n 0, 1) := by decide +kernel
theorem dX7_everyFor_1 : decode cX7_everyFor 1 = .ok (.getfield 10, 3) := by decide +kernel
theorem dX7_everyFor_4 : decode cX7_everyFor 4 = .ok (.getfield 97, 3) := by decide +kernel
theorem dX7_everyFor_7 : decode cX7_everyFor 7 = .ok (.iload_n 1, 1) := by decide +kernel
theorem dX7_everyFor_8 : decode cX7_everyFor 8 = .ok (.invokevirtual 103, 3) := by decide +kernel
theorem dX7_everyFor_11 : decode cX7_everyFor 11 = .ok (.ifCond .eq 13, 3) := by decide +kernel
theorem dX7_everyFor_14 : decode cX7_everyFor 14 = .ok (.iload_n 2, 1) := by decide +kernel
theorem dX7_everyFor_15 : decode cX7_everyFor 15 = .ok (.iconst 0, 1) := by decide +kernel
theorem dX7_everyFor_16 : decode cX7_everyFor 16 = .ok (.bipush 60, 2) := by decide +kernel
theorem dX7_everyFor_18 : decode cX7_everyFor 18 = .ok (.invokestatic 77, 3) := by decide +kernel
theorem dX7_everyFor_21 : decode cX7_everyFor 21 = .ok (.ifCond .ne 9, 3) := by decide +kernel
theorem dX7_everyFor_24 : decode cX7_everyFor 24 = .ok (.aload_n 0, 1) := by decide +kernel
theorem dX7_everyFor_25 : decode cX7_everyFor 25 = .ok (.iconst 0, 1) := by decide +kernel
theorem dX7_everyFor_26 : decode cX7_everyFor 26 = .ok (.invokevirtual 61, 3) := by decide +kernel
theorem dX7_everyFor_29 : decode cX7_everyFor 29 = .ok (.ireturn, 1) := by decide +kernel
theorem dX7_everyFor_30 : decode cX7_everyFor 30 = .ok (.iconst 1, 1) := by decide +kernel
theorem dX7_everyFor_31 : decode cX7_everyFor 31 = .ok (.istore_n 3, 1) := by decide +kernel
theorem dX7_everyFor_32 : decode cX7_everyFor 32 = .ok (.aload_n 0, 1) := by decide +kernel
theorem dX7_everyFor_33 : decode cX7_everyFor 33 = .ok (.iload_n 1, 1) := by decide +kernel
theorem dX7_everyFor_34 : decode cX7_everyFor 34 = .ok (.iconst 1, 1) := by decide +kernel
theorem dX7_everyFor_35 : decode cX7_everyFor 35 = .ok (.iload_n 2, 1) := by decide +kernel
theorem dX7_everyFor_36 : decode cX7_everyFor 36 = .ok (.invokevirtual 158, 3) := by decide +kernel
theorem dX7_everyFor_39 : decode cX7_everyFor 39 = .ok (.istore 4, 2) := by decide +kernel
theorem dX7_everyFor_41 : decode cX7_everyFor 41 = .ok (.iconst 2, 1) := by decide +kernel
theorem dX7_everyFor_42 : decode cX7_everyFor 42 = .ok (.istore 5, 2) := by decide +kernel
theorem dX7_everyFor_44 : decode cX7_everyFor 44 = .ok (.iload 5, 2) := by decide +kernel
theorem dX7_everyFor_46 : decode cX7_everyFor 46 = .ok (.bipush 30, 2) := by decide +kernel
theorem dX7_everyFor_48 : decode cX7_everyFor 48 = .ok (.if_icmp .gt 33, 3) := by decide +kernel
theorem dX7_everyFor_51 : decode cX7_everyFor 51 = .ok (.aload_n 0, 1) := by decide +kernel
theorem dX7_everyFor_52 : decode cX7_everyFor 52 = .ok (.iload_n 1, 1) := by decide +kernel
theorem dX7_everyFor_53 : decode cX7_everyFor 53 = .ok (.iload 5, 2) := by decide +kernel
theorem dX7_everyFor_55 : decode cX7_everyFor 55 = .ok (.iload_n 2, 1) := by decide +kernel
theorem dX7_everyFor_56 : decode cX7_everyFor 56 = .ok (.invokevirtual 158, 3) := by decide +kernel
theorem dX7_everyFor_59 : decode cX7_everyFor 59 = .ok (.istore 6, 2) := by decide +kernel
theorem dX7_everyFor_61 : decode cX7_everyFor 61 = .ok (.iload 6, 2) := by decide +kernel
theorem dX7_everyFor_63 : decode cX7_everyFor 63 = .ok (.iload 4, 2) := by decide +kernel
theorem dX7_everyFor_65 : decode cX7_everyFor 65 = .ok (.if_icmp .le 10, 3) := by decide +kernel
theorem dX7_everyFor_68 : decode cX7_everyFor 68 = .ok (.iload 6, 2) := by decide +kernel
theorem dX7_everyFor_70 : decode cX7_everyFor 70 = .ok (.istore 4, 2) := by decide +kernel
theorem dX7_everyFor_72 : decode cX7_everyFor 72 = .ok (.iload 5, 2) := by decide +kernel
theorem dX7_everyFor_74 : decode cX7_everyFor 74 = .ok (.istore_n 3, 1) := by decide +kernel
theorem dX7_everyFor_75 : decode cX7_everyFor 75 = .ok (.iinc 5 1, 3) := by decide +kernel
theorem dX7_everyFor_78 : decode cX7_everyFor 78 = .ok (.goto (-34), 3) := by decide +kernel
theorem dX7_everyFor_81 : decode cX7_everyFor 81 = .ok (.iload_n 3, 1) := by decide +kernel
theorem dX7_everyFor_82 : decode cX7_everyFor 82 = .ok (.ireturn, 1) := by decide +kernel
theorem dX7_minutesWithEvery_0 : decode cX7_minutesWithEvery 0 = .ok (.aload_n 0, 1) := by decide +kernel
theorem dX7_minutesWithEvery_1 : decode cX7_minutesWithEvery 1 = .ok (.getfield 19, 3) := by decide +kernel
theorem dX7_minutesWithEvery_4 : decode cX7_minutesWithEvery 4 = .ok (.aload_n 0, 1) := by decide +kernel
theorem dX7_minutesWithEvery_5 : decode cX7_minutesWithEvery 5 = .ok (.getfield 10, 3) := by decide +kernel
theorem dX7_minutesWithEvery_8 : decode cX7_minutesWithEvery 8 = .ok (.invokevirtual 147, 3) := by decide +kernel
theorem dX7_minutesWithEvery_11 : decode cX7_minutesWithEvery 11 = .ok (.aload_n 0, 1) := by decide +kernel
theorem dX7_minutesWithEvery_12 : decode cX7_minutesWithEvery 12 = .ok (.getfield 19, 3) := by decide +kernel
theorem dX7_minutesWithEvery_15 : decode cX7_minutesWithEvery 15 = .ok (.getfield 97, 3) := by decide +kernel
theorem dX7_minutesWithEvery_18 : decode cX7_minutesWithEvery 18 = .ok (.iload_n 1, 1) := by decide +kernel
theorem dX7_minutesWithEvery_19 : decode cX7_minutesWithEvery 19 = .ok (.iconst 0, 1) := by decide +kernel
theorem dX7_minutesWithEvery_20 : decode cX7_minutesWithEvery 20 = .ok (.iload_n 2, 1) := by decide +kernel
theorem dX7_minutesWithEvery_21 : decode cX7_minutesWithEvery 21 = .ok (.invokevirtual 162, 3) := by decide +kernel
theorem dX7_minutesWithEvery_24 : decode cX7_minutesWithEvery 24 = .ok (.aload_n 0, 1) := by decide +kernel
theorem dX7_minutesWithEvery_25 : decode cX7_minutesWithEvery 25 = .ok (.getfield 19, 3) := by decide +kernel
theorem dX7_minutesWithEvery_28 : decode cX7_minutesWithEvery 28 = .ok (.iload_n 3, 1) := by decide +kernel
theorem dX7_minutesWithEvery_29 : decode cX7_minutesWithEvery 29 = .ok (.invokevirtual 127, 3) := by decide +kernel
theorem dX7_minutesWithEvery_32 : decode cX7_minutesWithEvery 32 = .ok (.pop, 1) := by decide +kernel
theorem dX7_minutesWithEvery_33 : decode cX7_minutesWithEvery 33 = .ok (.aload_n 0, 1) := by decide +kernel
theorem dX7_minutesWithEvery_34 : decode cX7_minutesWithEvery 34 = .ok (.getfield 19, 3) := by decide +kernel
theorem dX7_minutesWithEvery_37 : decode cX7_minutesWithEvery 37 = .ok (.invokevirtual 138, 3) := by decide +kernel
theorem dX7_minutesWithEvery_40 : decode cX7_minutesWithEvery 40 = .ok (.ireturn, 1) := by decide +kernel
theorem dX7_fewest_0 : decode cX7_fewest 0 = .ok (.aload_n 0, 1) := by decide +kernel
theorem dX7_fewest_1 : decode cX7_fewest 1 = .ok (.getfield 10, 3) := by decide +kernel
theorem dX7_fewest_4 : decode cX7_fewest 4 = .ok (.getfield 100, 3) := by decide +kernel
theorem dX7_fewest_7 : decode cX7_fewest 7 = .ok (.iload_n 1, 1) := by decide +kernel
theorem dX7_fewest_8 : decode cX7_fewest 8 = .ok (.invokevirtual 103, 3) := by decide +kernel
theorem dX7_fewest_11 : decode cX7_fewest 11 = .ok (.ifCond .ne 9, 3) := by decide +kernel
theorem dX7_fewest_14 : decode cX7_fewest 14 = .ok (.aload_n 0, 1) := by decide +kernel
theorem dX7_fewest_15 : decode cX7_fewest 15 = .ok (.iconst 0, 1) := by decide +kernel
theorem dX7_fewest_16 : decode cX7_fewest 16 = .ok (.invokevirtual 61, 3) := by decide +kernel
theorem dX7_fewest_19 : decode cX7_fewest 19 = .ok (.ireturn, 1) := by decide +kernel
theorem dX7_fewest_20 : decode cX7_fewest 20 = .ok (.aload_n 0, 1) := by decide +kernel
theorem dX7_fewest_21 : decode cX7_fewest 21 = .ok (.getfield 25, 3) := by decide +kernel
theorem dX7_fewest_24 : decode cX7_fewest 24 = .ok (.aload_n 0, 1) := by decide +kernel
theorem dX7_fewest_25 : decode cX7_fewest 25 = .ok (.getfield 10, 3) := by decide +kernel
theorem dX7_fewest_28 : decode cX7_fewest 28 = .ok (.invokevirtual 166, 3) := by decide +kernel
theorem dX7_fewest_31 : decode cX7_fewest 31 = .ok (.aload_n 0, 1) := by decide +kernel
theorem dX7_fewest_32 : decode cX7_fewest 32 = .ok (.getfield 25, 3) := by decide +kernel
theorem dX7_fewest_35 : decode cX7_fewest 35 = .ok (.aload_n 0, 1) := by decide +kernel
theorem dX7_fewest_36 : decode cX7_fewest 36 = .ok (.getfield 10, 3) := by decide +kernel
theorem dX7_fewest_39 : decode cX7_fewest 39 = .ok (.iload_n 1, 1) := by decide +kernel
theorem dX7_fewest_40 : decode cX7_fewest 40 = .ok (.invokevirtual 169, 3) := by decide +kernel
theorem dX7_fewest_43 : decode cX7_fewest 43 = .ok (.istore_n 2, 1) := by decide +kernel
theorem dX7_fewest_44 : decode cX7_fewest 44 = .ok (.iload_n 2, 1) := by decide +kernel
theorem dX7_fewest_45 : decode cX7_fewest 45 = .ok (.ifCond .ge 11, 3) := by decide +kernel
theorem dX7_fewest_48 : decode cX7_fewest 48 = .ok (.aload_n 0, 1) := by decide +kernel
theorem dX7_fewest_49 : decode cX7_fewest 49 = .ok (.iconst 3, 1) := by decide +kernel
theorem dX7_fewest_50 : decode cX7_fewest 50 = .ok (.invokevirtual 61, 3) := by decide +kernel
theorem dX7_fewest_53 : decode cX7_fewest 53 = .ok (.goto 4, 3) := by decide +kernel
theorem dX7_fewest_56 : decode cX7_fewest 56 = .ok (.iload_n 2, 1) := by decide +kernel
theorem dX7_fewest_57 : decode cX7_fewest 57 = .ok (.ireturn, 1) := by decide +kernel
theorem dX7_thrifty_0 : decode cX7_thrifty 0 = .ok (.aload_n 0, 1) := by decide +kernel
theorem dX7_thrifty_1 : decode cX7_thrifty 1 = .ok (.getfield 10, 3) := by decide +kernel
theorem dX7_thrifty_4 : decode cX7_thrifty 4 = .ok (.getfield 100, 3) := by decide +kernel
theorem dX7_thrifty_7 : decode cX7_thrifty 7 = .ok (.iload_n 1, 1) := by decide +kernel
theorem dX7_thrifty_8 : decode cX7_thrifty 8 = .ok (.invokevirtual 103, 3) := by decide +kernel
theorem dX7_thrifty_11 : decode cX7_thrifty 11 = .ok (.ifCond .ne 9, 3) := by decide +kernel
theorem dX7_thrifty_14 : decode cX7_thrifty 14 = .ok (.aload_n 0, 1) := by decide +kernel
theorem dX7_thrifty_15 : decode cX7_thrifty 15 = .ok (.iconst 0, 1) := by decide +kernel
theorem dX7_thrifty_16 : decode cX7_thrifty 16 = .ok (.invokevirtual 61, 3) := by decide +kernel
theorem dX7_thrifty_19 : decode cX7_thrifty 19 = .ok (.ireturn, 1) := by decide +kernel
theorem dX7_thrifty_20 : decode cX7_thrifty 20 = .ok (.aload_n 0, 1) := by decide +kernel
theorem dX7_thrifty_21 : decode cX7_thrifty 21 = .ok (.getfield 25, 3) := by decide +kernel
theorem dX7_thrifty_24 : decode cX7_thrifty 24 = .ok (.aload_n 0, 1) := by decide +kernel
theorem dX7_thrifty_25 : decode cX7_thrifty 25 = .ok (.getfield 10, 3) := by decide +kernel
theorem dX7_thrifty_28 : decode cX7_thrifty 28 = .ok (.invokevirtual 166, 3) := by decide +kernel
theorem dX7_thrifty_31 : decode cX7_thrifty 31 = .ok (.aload_n 0, 1) := by decide +kernel
theorem dX7_thrifty_32 : decode cX7_thrifty 32 = .ok (.getfield 25, 3) := by decide +kernel
theorem dX7_thrifty_35 : decode cX7_thrifty 35 = .ok (.aload_n 0, 1) := by decide +kernel
theorem dX7_thrifty_36 : decode cX7_thrifty 36 = .ok (.getfield 10, 3) := by decide +kernel
theorem dX7_thrifty_39 : decode cX7_thrifty 39 = .ok (.iload_n 1, 1) := by decide +kernel
theorem dX7_thrifty_40 : decode cX7_thrifty 40 = .ok (.invokevirtual 173, 3) := by decide +kernel
theorem dX7_thrifty_43 : decode cX7_thrifty 43 = .ok (.istore_n 2, 1) := by decide +kernel
theorem dX7_thrifty_44 : decode cX7_thrifty 44 = .ok (.iload_n 2, 1) := by decide +kernel
theorem dX7_thrifty_45 : decode cX7_thrifty 45 = .ok (.ifCond .ge 11, 3) := by decide +kernel
theorem dX7_thrifty_48 : decode cX7_thrifty 48 = .ok (.aload_n 0, 1) := by decide +kernel
theorem dX7_thrifty_49 : decode cX7_thrifty 49 = .ok (.iconst 3, 1) := by decide +kernel
theorem dX7_thrifty_50 : decode cX7_thrifty 50 = .ok (.invokevirtual 61, 3) := by decide +kernel
theorem dX7_thrifty_53 : decode cX7_thrifty 53 = .ok (.goto 4, 3) := by decide +kernel
theorem dX7_thrifty_56 : decode cX7_thrifty 56 = .ok (.iload_n 2, 1) := by decide +kernel
theorem dX7_thrifty_57 : decode cX7_thrifty 57 = .ok (.ireturn, 1) := by decide +kernel
theorem dX7_best_0 : decode cX7_best 0 = .ok (.aload_n 0, 1) := by decide +kernel
theorem dX7_best_1 : decode cX7_best 1 = .ok (.getfield 25, 3) := by decide +kernel
theorem dX7_best_4 : decode cX7_best 4 = .ok (.aload_n 0, 1) := by decide +kernel
theorem dX7_best_5 : decode cX7_best 5 = .ok (.getfield 10, 3) := by decide +kernel
theorem dX7_best_8 : decode cX7_best 8 = .ok (.invokevirtual 166, 3) := by decide +kernel
theorem dX7_best_11 : decode cX7_best 11 = .ok (.aload_n 0, 1) := by decide +kernel
theorem dX7_best_12 : decode cX7_best 12 = .ok (.getfield 25, 3) := by decide +kernel
theorem dX7_best_15 : decode cX7_best 15 = .ok (.aload_n 0, 1) := by decide +kernel
theorem dX7_best_16 : decode cX7_best 16 = .ok (.getfield 10, 3) := by decide +kernel
theorem dX7_best_19 : decode cX7_best 19 = .ok (.invokevirtual 176, 3) := by decide +kernel
theorem dX7_best_22 : decode cX7_best 22 = .ok (.invokestatic 180, 3) := by decide +kernel
theorem dX7_best_25 : decode cX7_best 25 = .ok (.ireturn, 1) := by decide +kernel
theorem dX7_bestWorks_0 : decode cX7_bestWorks 0 = .ok (.aload_n 0, 1) := by decide +kernel
theorem dX7_bestWorks_1 : decode cX7_bestWorks 1 = .ok (.getfield 25, 3) := by decide +kernel
theorem dX7_bestWorks_4 : decode cX7_bestWorks 4 = .ok (.aload_n 0, 1) := by decide +kernel
theorem dX7_bestWorks_5 : decode cX7_bestWorks 5 = .ok (.getfield 10, 3) := by decide +kernel
theorem dX7_bestWorks_8 : decode cX7_bestWorks 8 = .ok (.invokevirtual 166, 3) := by decide +kernel
theorem dX7_bestWorks_11 : decode cX7_bestWorks 11 = .ok (.aload_n 0, 1) := by decide +kernel
theorem dX7_bestWorks_12 : decode cX7_bestWorks 12 = .ok (.getfield 25, 3) := by decide +kernel
theorem dX7_bestWorks_15 : decode cX7_bestWorks 15 = .ok (.aload_n 0, 1) := by decide +kernel
theorem dX7_bestWorks_16 : decode cX7_bestWorks 16 = .ok (.getfield 10, 3) := by decide +kernel
theorem dX7_bestWorks_19 : decode cX7_bestWorks 19 = .ok (.invokevirtual 176, 3) := by decide +kernel
theorem dX7_bestWorks_22 : decode cX7_bestWorks 22 = .ok (.invokestatic 183, 3) := by decide +kernel
theorem dX7_bestWorks_25 : decode cX7_bestWorks 25 = .ok (.ireturn, 1) := by decide +kernel
theorem dX7_soonest_0 : decode cX7_soonest 0 = .ok (.aload_n 0, 1) := by decide +kernel
theorem dX7_soonest_1 : decode cX7_soonest 1 = .ok (.getfield 10, 3) := by decide +kernel
theorem dX7_soonest_4 : decode cX7_soonest 4 = .ok (.getfield 100, 3) := by decide +kernel
theorem dX7_soonest_7 : decode cX7_soonest 7 = .ok (.iload_n 1, 1) := by decide +kernel
theorem dX7_soonest_8 : decode cX7_soonest 8 = .ok (.invokevirtual 103, 3) := by decide +kernel
theorem dX7_soonest_11 : decode cX7_soonest 11 = .ok (.ifCond .ne 9, 3) := by decide +kernel
theorem dX7_soonest_14 : decode cX7_soonest 14 = .ok (.aload_n 0, 1) := by decide +kernel
theorem dX7_soonest_15 : decode cX7_soonest 15 = .ok (.iconst 0, 1) := by decide +kernel
theorem dX7_soonest_16 : decode cX7_soonest 16 = .ok (.invokevirtual 61, 3) := by decide +kernel
theorem dX7_soonest_19 : decode cX7_soonest 19 = .ok (.ireturn, 1) := by decide +kernel
theorem dX7_soonest_20 : decode cX7_soonest 20 = .ok (.aload_n 0, 1) := by decide +kernel
theorem dX7_soonest_21 : decode cX7_soonest 21 = .ok (.getfield 19, 3) := by decide +kernel
theorem dX7_soonest_24 : decode cX7_soonest 24 = .ok (.aload_n 0, 1) := by decide +kernel
theorem dX7_soonest_25 : decode cX7_soonest 25 = .ok (.getfield 10, 3) := by decide +kernel
theorem dX7_soonest_28 : decode cX7_soonest 28 = .ok (.invokevirtual 147, 3) := by decide +kernel
theorem dX7_soonest_31 : decode cX7_soonest 31 = .ok (.iconst 0, 1) := by decide +kernel
theorem dX7_soonest_32 : decode cX7_soonest 32 = .ok (.istore_n 2, 1) := by decide +kernel
theorem dX7_soonest_33 : decode cX7_soonest 33 = .ok (.iload_n 2, 1) := by decide +kernel
theorem dX7_soonest_34 : decode cX7_soonest 34 = .ok (.bipush 60, 2) := by decide +kernel
theorem dX7_soonest_36 : decode cX7_soonest 36 = .ok (.if_icmp .gt 49, 3) := by decide +kernel
theorem dX7_soonest_39 : decode cX7_soonest 39 = .ok (.aload_n 0, 1) := by decide +kernel
theorem dX7_soonest_40 : decode cX7_soonest 40 = .ok (.getfield 19, 3) := by decide +kernel
theorem dX7_soonest_43 : decode cX7_soonest 43 = .ok (.iload_n 1, 1) := by decide +kernel
theorem dX7_soonest_44 : decode cX7_soonest 44 = .ok (.invokevirtual 112, 3) := by decide +kernel
theorem dX7_soonest_47 : decode cX7_soonest 47 = .ok (.ifCond .eq 38, 3) := by decide +kernel
theorem dX7_soonest_50 : decode cX7_soonest 50 = .ok (.aload_n 0, 1) := by decide +kernel
theorem dX7_soonest_51 : decode cX7_soonest 51 = .ok (.getfield 19, 3) := by decide +kernel
theorem dX7_soonest_54 : decode cX7_soonest 54 = .ok (.iload_n 1, 1) := by decide +kernel
theorem dX7_soonest_55 : decode cX7_soonest 55 = .ok (.invokevirtual 186, 3) := by decide +kernel
theorem dX7_soonest_58 : decode cX7_soonest 58 = .ok (.aload_n 0, 1) := by decide +kernel
theorem dX7_soonest_59 : decode cX7_soonest 59 = .ok (.getfield 19, 3) := by decide +kernel
theorem dX7_soonest_62 : decode cX7_soonest 62 = .ok (.invokevirtual 138, 3) := by decide +kernel
theorem dX7_soonest_65 : decode cX7_soonest 65 = .ok (.if_icmp .gt 5, 3) := by decide +kernel
theorem dX7_soonest_68 : decode cX7_soonest 68 = .ok (.iload_n 2, 1) := by decide +kernel
theorem dX7_soonest_69 : decode cX7_soonest 69 = .ok (.ireturn, 1) := by decide +kernel
theorem dX7_soonest_70 : decode cX7_soonest 70 = .ok (.aload_n 0, 1) := by decide +kernel
theorem dX7_soonest_71 : decode cX7_soonest 71 = .ok (.getfield 19, 3) := by decide +kernel
theorem dX7_soonest_74 : decode cX7_soonest 74 = .ok (.iconst 1, 1) := by decide +kernel
theorem dX7_soonest_75 : decode cX7_soonest 75 = .ok (.invokevirtual 127, 3) := by decide +kernel
theorem dX7_soonest_78 : decode cX7_soonest 78 = .ok (.pop, 1) := by decide +kernel
theorem dX7_soonest_79 : decode cX7_soonest 79 = .ok (.iinc 2 1, 3) := by decide +kernel
theorem dX7_soonest_82 : decode cX7_soonest 82 = .ok (.goto (-49), 3) := by decide +kernel
theorem dX7_soonest_85 : decode cX7_soonest 85 = .ok (.aload_n 0, 1) := by decide +kernel
theorem dX7_soonest_86 : decode cX7_soonest 86 = .ok (.iconst 3, 1) := by decide +kernel
theorem dX7_soonest_87 : decode cX7_soonest 87 = .ok (.invokevirtual 61, 3) := by decide +kernel
theorem dX7_soonest_90 : decode cX7_soonest 90 = .ok (.ireturn, 1) := by decide +kernel
theorem dX7_nest_0 : decode cX7_nest 0 = .ok (.iload_n 1, 1) := by decide +kernel
theorem dX7_nest_1 : decode cX7_nest 1 = .ok (.iconst 0, 1) := by decide +kernel
theorem dX7_nest_2 : decode cX7_nest 2 = .ok (.iconst 3, 1) := by decide +kernel
theorem dX7_nest_3 : decode cX7_nest 3 = .ok (.invokestatic 77, 3) := by decide +kernel
theorem dX7_nest_6 : decode cX7_nest 6 = .ok (.ifCond .eq 14, 3) := by decide +kernel
theorem dX7_nest_9 : decode cX7_nest 9 = .ok (.aload_n 0, 1) := by decide +kernel
theorem dX7_nest_10 : decode cX7_nest 10 = .ok (.getfield 10, 3) := by decide +kernel
theorem dX7_nest_13 : decode cX7_nest 13 = .ok (.iload_n 1, 1) := by decide +kernel
theorem dX7_nest_14 : decode cX7_nest 14 = .ok (.invokevirtual 189, 3) := by decide +kernel
theorem dX7_nest_17 : decode cX7_nest 17 = .ok (.goto 8, 3) := by decide +kernel
theorem dX7_nest_20 : decode cX7_nest 20 = .ok (.aload_n 0, 1) := by decide +kernel
theorem dX7_nest_21 : decode cX7_nest 21 = .ok (.iconst 0, 1) := by decide +kernel
theorem dX7_nest_22 : decode cX7_nest 22 = .ok (.invokevirtual 61, 3) := by decide +kernel
theorem dX7_nest_25 : decode cX7_nest 25 = .ok (.ireturn, 1) := by decide +kernel
theorem dX7_guard_0 : decode cX7_guard 0 = .ok (.iconst 0, 1) := by decide +kernel
theorem dX7_guard_1 : decode cX7_guard 1 = .ok (.istore_n 1, 1) := by decide +kernel
theorem dX7_guard_2 : decode cX7_guard 2 = .ok (.iconst 1, 1) := by decide +kernel
theorem dX7_guard_3 : decode cX7_guard 3 = .ok (.istore_n 2, 1) := by decide +kernel
theorem dX7_guard_4 : decode cX7_guard 4 = .ok (.iload_n 2, 1) := by decide +kernel
theorem dX7_guard_5 : decode cX7_guard 5 = .ok (.iconst 4, 1) := by decide +kernel
theorem dX7_guard_6 : decode cX7_guard 6 = .ok (.if_icmp .ge 30, 3) := by decide +kernel
theorem dX7_guard_9 : decode cX7_guard 9 = .ok (.aload_n 0, 1) := by decide +kernel
theorem dX7_guard_10 : decode cX7_guard 10 = .ok (.getfield 10, 3) := by decide +kernel
theorem dX7_guard_13 : decode cX7_guard 13 = .ok (.iload_n 2, 1) := by decide +kernel
theorem dX7_guard_14 : decode cX7_guard 14 = .ok (.invokevirtual 189, 3) := by decide +kernel
theorem dX7_guard_17 : decode cX7_guard 17 = .ok (.aload_n 0, 1) := by decide +kernel
theorem dX7_guard_18 : decode cX7_guard 18 = .ok (.getfield 10, 3) := by decide +kernel
theorem dX7_guard_21 : decode cX7_guard 21 = .ok (.iload_n 1, 1) := by decide +kernel
theorem dX7_guard_22 : decode cX7_guard 22 = .ok (.invokevirtual 189, 3) := by decide +kernel
theorem dX7_guard_25 : decode cX7_guard 25 = .ok (.if_icmp .le 5, 3) := by decide +kernel
theorem dX7_guard_28 : decode cX7_guard 28 = .ok (.iload_n 2, 1) := by decide +kernel
theorem dX7_guard_29 : decode cX7_guard 29 = .ok (.istore_n 1, 1) := by decide +kernel
theorem dX7_guard_30 : decode cX7_guard 30 = .ok (.iinc 2 1, 3) := by decide +kernel
theorem dX7_guard_33 : decode cX7_guard 33 = .ok (.goto (-29), 3) := by decide +kernel
theorem dX7_guard_36 : decode cX7_guard 36 = .ok (.iload_n 1, 1) := by decide +kernel
theorem dX7_guard_37 : decode cX7_guard 37 = .ok (.ireturn, 1) := by decide +kernel
theorem dX7_halves_0 : decode cX7_halves 0 = .ok (.aload_n 0, 1) := by decide +kernel
theorem dX7_halves_1 : decode cX7_halves 1 = .ok (.getfield 25, 3) := by decide +kernel
theorem dX7_halves_4 : decode cX7_halves 4 = .ok (.aload_n 0, 1) := by decide +kernel
theorem dX7_halves_5 : decode cX7_halves 5 = .ok (.getfield 10, 3) := by decide +kernel
theorem dX7_halves_8 : decode cX7_halves 8 = .ok (.invokevirtual 166, 3) := by decide +kernel
theorem dX7_halves_11 : decode cX7_halves 11 = .ok (.aload_n 0, 1) := by decide +kernel
theorem dX7_halves_12 : decode cX7_halves 12 = .ok (.getfield 25, 3) := by decide +kernel
theorem dX7_halves_15 : decode cX7_halves 15 = .ok (.invokevirtual 192, 3) := by decide +kernel
theorem dX7_halves_18 : decode cX7_halves 18 = .ok (.ireturn, 1) := by decide +kernel
theorem dX7_apart_0 : decode cX7_apart 0 = .ok (.aload_n 0, 1) := by decide +kernel
theorem dX7_apart_1 : decode cX7_apart 1 = .ok (.getfield 25, 3) := by decide +kernel
theorem dX7_apart_4 : decode cX7_apart 4 = .ok (.aload_n 0, 1) := by decide +kernel
theorem dX7_apart_5 : decode cX7_apart 5 = .ok (.getfield 10, 3) := by decide +kernel
theorem dX7_apart_8 : decode cX7_apart 8 = .ok (.invokevirtual 166, 3) := by decide +kernel
theorem dX7_apart_11 : decode cX7_apart 11 = .ok (.aload_n 0, 1) := by decide +kernel
theorem dX7_apart_12 : decode cX7_apart 12 = .ok (.getfield 25, 3) := by decide +kernel
theorem dX7_apart_15 : decode cX7_apart 15 = .ok (.aload_n 0, 1) := by decide +kernel
theorem dX7_apart_16 : decode cX7_apart 16 = .ok (.getfield 25, 3) := by decide +kernel
theorem dX7_apart_19 : decode cX7_apart 19 = .ok (.invokevirtual 192, 3) := by decide +kernel
theorem dX7_apart_22 : decode cX7_apart 22 = .ok (.invokevirtual 195, 3) := by decide +kernel
theorem dX7_apart_25 : decode cX7_apart 25 = .ok (.ireturn, 1) := by decide +kernel
theorem dX7_sets_0 : decode cX7_sets 0 = .ok (.iload_n 1, 1) := by decide +kernel
theorem dX7_sets_1 : decode cX7_sets 1 = .ok (.sipush (-9999), 3) := by decide +kernel
theorem dX7_sets_4 : decode cX7_sets 4 = .ok (.sipush 9999, 3) := by decide +kernel
theorem dX7_sets_7 : decode cX7_sets 7 = .ok (.invokestatic 77, 3) := by decide +kernel
theorem dX7_sets_10 : decode cX7_sets 10 = .ok (.ifCond .ne 9, 3) := by decide +kernel
theorem dX7_sets_13 : decode cX7_sets 13 = .ok (.aload_n 0, 1) := by decide +kernel
theorem dX7_sets_14 : decode cX7_sets 14 = .ok (.iconst 0, 1) := by decide +kernel
theorem dX7_sets_15 : decode cX7_sets 15 = .ok (.invokevirtual 61, 3) := by decide +kernel
theorem dX7_sets_18 : decode cX7_sets 18 = .ok (.ireturn, 1) := by decide +kernel
theorem dX7_sets_19 : decode cX7_sets 19 = .ok (.aload_n 0, 1) := by decide +kernel
theorem dX7_sets_20 : decode cX7_sets 20 = .ok (.getfield 25, 3) := by decide +kernel
theorem dX7_sets_23 : decode cX7_sets 23 = .ok (.aload_n 0, 1) := by decide +kernel
theorem dX7_sets_24 : decode cX7_sets 24 = .ok (.getfield 10, 3) := by decide +kernel
theorem dX7_sets_27 : decode cX7_sets 27 = .ok (.invokevirtual 166, 3) := by decide +kernel
theorem dX7_sets_30 : decode cX7_sets 30 = .ok (.aload_n 0, 1) := by decide +kernel
theorem dX7_sets_31 : decode cX7_sets 31 = .ok (.getfield 25, 3) := by decide +kernel
theorem dX7_sets_34 : decode cX7_sets 34 = .ok (.iload_n 1, 1) := by decide +kernel
theorem dX7_sets_35 : decode cX7_sets 35 = .ok (.invokevirtual 198, 3) := by decide +kernel
theorem dX7_sets_38 : decode cX7_sets 38 = .ok (.ireturn, 1) := by decide +kernel
theorem dX7_ages_0 : decode cX7_ages 0 = .ok (.aload_n 0, 1) := by decide +kernel
theorem dX7_ages_1 : decode cX7_ages 1 = .ok (.iload_n 1, 1) := by decide +kernel
theorem dX7_ages_2 : decode cX7_ages 2 = .ok (.iload_n 2, 1) := by decide +kernel
theorem dX7_ages_3 : decode cX7_ages 3 = .ok (.invokevirtual 201, 3) := by decide +kernel
theorem dX7_ages_6 : decode cX7_ages 6 = .ok (.istore_n 3, 1) := by decide +kernel
theorem dX7_ages_7 : decode cX7_ages 7 = .ok (.iload_n 3, 1) := by decide +kernel
theorem dX7_ages_8 : decode cX7_ages 8 = .ok (.ifCond .lt 9, 3) := by decide +kernel
theorem dX7_ages_11 : decode cX7_ages 11 = .ok (.aload_n 0, 1) := by decide +kernel
theorem dX7_ages_12 : decode cX7_ages 12 = .ok (.iload_n 3, 1) := by decide +kernel
theorem dX7_ages_13 : decode cX7_ages 13 = .ok (.invokevirtual 61, 3) := by decide +kernel
theorem dX7_ages_16 : decode cX7_ages 16 = .ok (.ireturn, 1) := by decide +kernel
theorem dX7_ages_17 : decode cX7_ages 17 = .ok (.iconst 0, 1) := by decide +kernel
theorem dX7_ages_18 : decode cX7_ages 18 = .ok (.istore 4, 2) := by decide +kernel
theorem dX7_ages_20 : decode cX7_ages 20 = .ok (.iconst 0, 1) := by decide +kernel
theorem dX7_ages_21 : decode cX7_ages 21 = .ok (.istore 5, 2) := by decide +kernel
theorem dX7_ages_23 : decode cX7_ages 23 = .ok (.iload 5, 2) := by decide +kernel
theorem dX7_ages_25 : decode cX7_ages 25 = .ok (.bipush 99, 2) := by decide +kernel
theorem dX7_ages_27 : decode cX7_ages 27 = .ok (.if_icmp .gt 27, 3) := by decide +kernel
theorem dX7_ages_30 : decode cX7_ages 30 = .ok (.aload_n 0, 1) := by decide +kernel
theorem dX7_ages_31 : decode cX7_ages 31 = .ok (.aload_n 0, 1) := by decide +kernel
theorem dX7_ages_32 : decode cX7_ages 32 = .ok (.iload_n 1, 1) := by decide +kernel
theorem dX7_ages_33 : decode cX7_ages 33 = .ok (.invokevirtual 204, 3) := by decide +kernel
theorem dX7_ages_36 : decode cX7_ages 36 = .ok (.iload_n 2, 1) := by decide +kernel
theorem dX7_ages_37 : decode cX7_ages 37 = .ok (.iload 5, 2) := by decide +kernel
theorem dX7_ages_39 : decode cX7_ages 39 = .ok (.invokevirtual 208, 3) := by decide +kernel
theorem dX7_ages_42 : decode cX7_ages 42 = .ok (.ifCond .eq 6, 3) := by decide +kernel
theorem dX7_ages_45 : decode cX7_ages 45 = .ok (.iinc 4 1, 3) := by decide +kernel
theorem dX7_ages_48 : decode cX7_ages 48 = .ok (.iinc 5 1, 3) := by decide +kernel
theorem dX7_ages_51 : decode cX7_ages 51 = .ok (.goto (-28), 3) := by decide +kernel
theorem dX7_ages_54 : decode cX7_ages 54 = .ok (.iload 4, 2) := by decide +kernel
theorem dX7_ages_56 : decode cX7_ages 56 = .ok (.ireturn, 1) := by decide +kernel
theorem dX7_youngest_0 : decode cX7_youngest 0 = .ok (.aload_n 0, 1) := by decide +kernel
theorem dX7_youngest_1 : decode cX7_youngest 1 = .ok (.iload_n 1, 1) := by decide +kernel
theorem dX7_youngest_2 : decode cX7_youngest 2 = .ok (.iload_n 2, 1) := by decide +kernel
theorem dX7_youngest_3 : decode cX7_youngest 3 = .ok (.invokevirtual 201, 3) := by decide +kernel
theorem dX7_youngest_6 : decode cX7_youngest 6 = .ok (.istore_n 3, 1) := by decide +kernel
theorem dX7_youngest_7 : decode cX7_youngest 7 = .ok (.iload_n 3, 1) := by decide +kernel
theorem dX7_youngest_8 : decode cX7_youngest 8 = .ok (.ifCond .lt 9, 3) := by decide +kernel
theorem dX7_youngest_11 : decode cX7_youngest 11 = .ok (.aload_n 0, 1) := by decide +kernel
theorem dX7_youngest_12 : decode cX7_youngest 12 = .ok (.iload_n 3, 1) := by decide +kernel
theorem dX7_youngest_13 : decode cX7_youngest 13 = .ok (.invokevirtual 61, 3) := by decide +kernel
theorem dX7_youngest_16 : decode cX7_youngest 16 = .ok (.ireturn, 1) := by decide +kernel
theorem dX7_youngest_17 : decode cX7_youngest 17 = .ok (.iconst 0, 1) := by decide +kernel
theorem dX7_youngest_18 : decode cX7_youngest 18 = .ok (.istore 4, 2) := by decide +kernel
theorem dX7_youngest_20 : decode cX7_youngest 20 = .ok (.iload 4, 2) := by decide +kernel
theorem dX7_youngest_22 : decode cX7_youngest 22 = .ok (.bipush 99, 2) := by decide +kernel
theorem dX7_youngest_24 : decode cX7_youngest 24 = .ok (.if_icmp .gt 27, 3) := by decide +kernel
theorem dX7_youngest_27 : decode cX7_youngest 27 = .ok (.aload_n 0, 1) := by decide +kernel
theorem dX7_youngest_28 : decode cX7_youngest 28 = .ok (.aload_n 0, 1) := by decide +kernel
theorem dX7_youngest_29 : decode cX7_youngest 29 = .ok (.iload_n 1, 1) := by decide +kernel
theorem dX7_youngest_30 : decode cX7_youngest 30 = .ok (.invokevirtual 204, 3) := by decide +kernel
theorem dX7_youngest_33 : decode cX7_youngest 33 = .ok (.iload_n 2, 1) := by decide +kernel
theorem dX7_youngest_34 : decode cX7_youngest 34 = .ok (.iload 4, 2) := by decide +kernel
theorem dX7_youngest_36 : decode cX7_youngest 36 = .ok (.invokevirtual 208, 3) := by decide +kernel
theorem dX7_youngest_39 : decode cX7_youngest 39 = .ok (.ifCond .eq 6, 3) := by decide +kernel
theorem dX7_youngest_42 : decode cX7_youngest 42 = .ok (.iload 4, 2) := by decide +kernel
theorem dX7_youngest_44 : decode cX7_youngest 44 = .ok (.ireturn, 1) := by decide +kernel
theorem dX7_youngest_45 : decode cX7_youngest 45 = .ok (.iinc 4 1, 3) := by decide +kernel
theorem dX7_youngest_48 : decode cX7_youngest 48 = .ok (.goto (-28), 3) := by decide +kernel
theorem dX7_youngest_51 : decode cX7_youngest 51 = .ok (.aload_n 0, 1) := by decide +kernel
theorem dX7_youngest_52 : decode cX7_youngest 52 = .ok (.iconst 3, 1) := by decide +kernel
theorem dX7_youngest_53 : decode cX7_youngest 53 = .ok (.invokevirtual 61, 3) := by decide +kernel
theorem dX7_youngest_56 : decode cX7_youngest 56 = .ok (.ireturn, 1) := by decide +kernel
theorem dX7_wrongTold_0 : decode cX7_wrongTold 0 = .ok (.aload_n 0, 1) := by decide +kernel
theorem dX7_wrongTold_1 : decode cX7_wrongTold 1 = .ok (.iload_n 1, 1) := by decide +kernel
theorem dX7_wrongTold_2 : decode cX7_wrongTold 2 = .ok (.invokevirtual 212, 3) := by decide +kernel
theorem dX7_wrongTold_5 : decode cX7_wrongTold 5 = .ok (.istore_n 3, 1) := by decide +kernel
theorem dX7_wrongTold_6 : decode cX7_wrongTold 6 = .ok (.iload_n 3, 1) := by decide +kernel
theorem dX7_wrongTold_7 : decode cX7_wrongTold 7 = .ok (.ifCond .lt 5, 3) := by decide +kernel
theorem dX7_wrongTold_10 : decode cX7_wrongTold 10 = .ok (.iload_n 3, 1) := by decide +kernel
theorem dX7_wrongTold_11 : decode cX7_wrongTold 11 = .ok (.ireturn, 1) := by decide +kernel
theorem dX7_wrongTold_12 : decode cX7_wrongTold 12 = .ok (.aload_n 0, 1) := by decide +kernel
theorem dX7_wrongTold_13 : decode cX7_wrongTold 13 = .ok (.getfield 10, 3) := by decide +kernel
theorem dX7_wrongTold_16 : decode cX7_wrongTold 16 = .ok (.iload_n 2, 1) := by decide +kernel
theorem dX7_wrongTold_17 : decode cX7_wrongTold 17 = .ok (.invokevirtual 73, 3) := by decide +kernel
theorem dX7_wrongTold_20 : decode cX7_wrongTold 20 = .ok (.ifCond .eq 7, 3) := by decide +kernel
theorem dX7_wrongTold_23 : decode cX7_wrongTold 23 = .ok (.iconst (-1), 1) := by decide +kernel
theorem dX7_wrongTold_24 : decode cX7_wrongTold 24 = .ok (.goto 4, 3) := by decide +kernel
theorem dX7_wrongTold_27 : decode cX7_wrongTold 27 = .ok (.iconst 0, 1) := by decide +kernel
theorem dX7_wrongTold_28 : decode cX7_wrongTold 28 = .ok (.ireturn, 1) := by decide +kernel
theorem dX7_fits_0 : decode cX7_fits 0 = .ok (.aload_n 1, 1) := by decide +kernel
theorem dX7_fits_1 : decode cX7_fits 1 = .ok (.ifnonnull 5, 3) := by decide +kernel
theorem dX7_fits_4 : decode cX7_fits 4 = .ok (.iconst 0, 1) := by decide +kernel
theorem dX7_fits_5 : decode cX7_fits 5 = .ok (.ireturn, 1) := by decide +kernel
theorem dX7_fits_6 : decode cX7_fits 6 = .ok (.aload_n 0, 1) := by decide +kernel
theorem dX7_fits_7 : decode cX7_fits 7 = .ok (.getfield 10, 3) := by decide +kernel
theorem dX7_fits_10 : decode cX7_fits 10 = .ok (.getfield 51, 3) := by decide +kernel
theorem dX7_fits_13 : decode cX7_fits 13 = .ok (.iload_n 2, 1) := by decide +kernel
theorem dX7_fits_14 : decode cX7_fits 14 = .ok (.iconst 0, 1) := by decide +kernel
theorem dX7_fits_15 : decode cX7_fits 15 = .ok (.invokevirtual 84, 3) := by decide +kernel
theorem dX7_fits_18 : decode cX7_fits 18 = .ok (.istore 4, 2) := by decide +kernel
theorem dX7_fits_20 : decode cX7_fits 20 = .ok (.iconst 0, 1) := by decide +kernel
theorem dX7_fits_21 : decode cX7_fits 21 = .ok (.istore 5, 2) := by decide +kernel
theorem dX7_fits_23 : decode cX7_fits 23 = .ok (.iload 5, 2) := by decide +kernel
theorem dX7_fits_25 : decode cX7_fits 25 = .ok (.aload_n 1, 1) := by decide +kernel
theorem dX7_fits_26 : decode cX7_fits 26 = .ok (.getfield 215, 3) := by decide +kernel
theorem dX7_fits_29 : decode cX7_fits 29 = .ok (.if_icmp .ge 43, 3) := by decide +kernel
theorem dX7_fits_32 : decode cX7_fits 32 = .ok (.aload_n 1, 1) := by decide +kernel
theorem dX7_fits_33 : decode cX7_fits 33 = .ok (.iload 5, 2) := by decide +kernel
theorem dX7_fits_35 : decode cX7_fits 35 = .ok (.invokevirtual 218, 3) := by decide +kernel
theorem dX7_fits_38 : decode cX7_fits 38 = .ok (.istore 6, 2) := by decide +kernel
theorem dX7_fits_40 : decode cX7_fits 40 = .ok (.iload 6, 2) := by decide +kernel
theorem dX7_fits_42 : decode cX7_fits 42 = .ok (.iconst (-1), 1) := by decide +kernel
theorem dX7_fits_43 : decode cX7_fits 43 = .ok (.if_icmp .eq 23, 3) := by decide +kernel
theorem dX7_fits_46 : decode cX7_fits 46 = .ok (.iload 6, 2) := by decide +kernel
theorem dX7_fits_48 : decode cX7_fits 48 = .ok (.aload_n 0, 1) := by decide +kernel
theorem dX7_fits_49 : decode cX7_fits 49 = .ok (.getfield 10, 3) := by decide +kernel
theorem dX7_fits_52 : decode cX7_fits 52 = .ok (.iload_n 2, 1) := by decide +kernel
theorem dX7_fits_53 : decode cX7_fits 53 = .ok (.iload 4, 2) := by decide +kernel
theorem dX7_fits_55 : decode cX7_fits 55 = .ok (.iload_n 3, 1) := by decide +kernel
theorem dX7_fits_56 : decode cX7_fits 56 = .ok (.iload 5, 2) := by decide +kernel
theorem dX7_fits_58 : decode cX7_fits 58 = .ok (.invokevirtual 154, 3) := by decide +kernel
theorem dX7_fits_61 : decode cX7_fits 61 = .ok (.if_icmp .eq 5, 3) := by decide +kernel
theorem dX7_fits_64 : decode cX7_fits 64 = .ok (.iconst 0, 1) := by decide +kernel
theorem dX7_fits_65 : decode cX7_fits 65 = .ok (.ireturn, 1) := by decide +kernel
theorem dX7_fits_66 : decode cX7_fits 66 = .ok (.iinc 5 1, 3) := by decide +kernel
theorem dX7_fits_69 : decode cX7_fits 69 = .ok (.goto (-46), 3) := by decide +kernel
theorem dX7_fits_72 : decode cX7_fits 72 = .ok (.iconst 1, 1) := by decide +kernel
theorem dX7_fits_73 : decode cX7_fits 73 = .ok (.ireturn, 1) := by decide +kernel
theorem dX7_foxes_0 : decode cX7_foxes 0 = .ok (.iload_n 1, 1) := by decide +kernel
theorem dX7_foxes_1 : decode cX7_foxes 1 = .ok (.iconst 1, 1) := by decide +kernel
theorem dX7_foxes_2 : decode cX7_foxes 2 = .ok (.bipush 20, 2) := by decide +kernel
theorem dX7_foxes_4 : decode cX7_foxes 4 = .ok (.invokestatic 77, 3) := by decide +kernel
theorem dX7_foxes_7 : decode cX7_foxes 7 = .ok (.ifCond .ne 9, 3) := by decide +kernel
theorem dX7_foxes_10 : decode cX7_foxes 10 = .ok (.aload_n 0, 1) := by decide +kernel
theorem dX7_foxes_11 : decode cX7_foxes 11 = .ok (.iconst 0, 1) := by decide +kernel
theorem dX7_foxes_12 : decode cX7_foxes 12 = .ok (.invokevirtual 61, 3) := by decide +kernel
theorem dX7_foxes_15 : decode cX7_foxes 15 = .ok (.ireturn, 1) := by decide +kernel
theorem dX7_foxes_16 : decode cX7_foxes 16 = .ok (.aload_n 0, 1) := by decide +kernel
theorem dX7_foxes_17 : decode cX7_foxes 17 = .ok (.getfield 10, 3) := by decide +kernel
theorem dX7_foxes_20 : decode cX7_foxes 20 = .ok (.getfield 122, 3) := by decide +kernel
theorem dX7_foxes_23 : decode cX7_foxes 23 = .ok (.iload_n 1, 1) := by decide +kernel
theorem dX7_foxes_24 : decode cX7_foxes 24 = .ok (.iadd, 1) := by decide +kernel
theorem dX7_foxes_25 : decode cX7_foxes 25 = .ok (.ldc 126, 2) := by decide +kernel
theorem dX7_foxes_27 : decode cX7_foxes 27 = .ok (.if_icmp .le 9, 3) := by decide +kernel
theorem dX7_foxes_30 : decode cX7_foxes 30 = .ok (.aload_n 0, 1) := by decide +kernel
theorem dX7_foxes_31 : decode cX7_foxes 31 = .ok (.iconst 4, 1) := by decide +kernel
theorem dX7_foxes_32 : decode cX7_foxes 32 = .ok (.invokevirtual 61, 3) := by decide +kernel
theorem dX7_foxes_35 : decode cX7_foxes 35 = .ok (.ireturn, 1) := by decide +kernel
theorem dX7_foxes_36 : decode cX7_foxes 36 = .ok (.iconst 0, 1) := by decide +kernel
theorem dX7_foxes_37 : decode cX7_foxes 37 = .ok (.istore_n 2, 1) := by decide +kernel
theorem dX7_foxes_38 : decode cX7_foxes 38 = .ok (.iconst 0, 1) := by decide +kernel
theorem dX7_foxes_39 : decode cX7_foxes 39 = .ok (.istore_n 3, 1) := by decide +kernel
theorem dX7_foxes_40 : decode cX7_foxes 40 = .ok (.iload_n 3, 1) := by decide +kernel
theorem dX7_foxes_41 : decode cX7_foxes 41 = .ok (.iload_n 1, 1) := by decide +kernel
theorem dX7_foxes_42 : decode cX7_foxes 42 = .ok (.if_icmp .ge 28, 3) := by decide +kernel
theorem dX7_foxes_45 : decode cX7_foxes 45 = .ok (.iload_n 2, 1) := by decide +kernel
theorem dX7_foxes_46 : decode cX7_foxes 46 = .ok (.aload_n 0, 1) := by decide +kernel
theorem dX7_foxes_47 : decode cX7_foxes 47 = .ok (.getfield 10, 3) := by decide +kernel
theorem dX7_foxes_50 : decode cX7_foxes 50 = .ok (.invokevirtual 220, 3) := by decide +kernel
theorem dX7_foxes_53 : decode cX7_foxes 53 = .ok (.iadd, 1) := by decide +kernel
theorem dX7_foxes_54 : decode cX7_foxes 54 = .ok (.istore_n 2, 1) := by decide +kernel
theorem dX7_foxes_55 : decode cX7_foxes 55 = .ok (.aload_n 0, 1) := by decide +kernel
theorem dX7_foxes_56 : decode cX7_foxes 56 = .ok (.getfield 10, 3) := by decide +kernel
theorem dX7_foxes_59 : decode cX7_foxes 59 = .ok (.iconst 1, 1) := by decide +kernel
theorem dX7_foxes_60 : decode cX7_foxes 60 = .ok (.invokevirtual 127, 3) := by decide +kernel
theorem dX7_foxes_63 : decode cX7_foxes 63 = .ok (.pop, 1) := by decide +kernel
theorem dX7_foxes_64 : decode cX7_foxes 64 = .ok (.iinc 3 1, 3) := by decide +kernel
theorem dX7_foxes_67 : decode cX7_foxes 67 = .ok (.goto (-27), 3) := by decide +kernel
theorem dX7_foxes_70 : decode cX7_foxes 70 = .ok (.iload_n 2, 1) := by decide +kernel
theorem dX7_foxes_71 : decode cX7_foxes 71 = .ok (.ireturn, 1) := by decide +kernel
theorem dX7_odds_0 : decode cX7_odds 0 = .ok (.iload_n 1, 1) := by decide +kernel
theorem dX7_odds_1 : decode cX7_odds 1 = .ok (.iconst 0, 1) := by decide +kernel
theorem dX7_odds_2 : decode cX7_odds 2 = .ok (.bipush 20, 2) := by decide +kernel
theorem dX7_odds_4 : decode cX7_odds 4 = .ok (.invokestatic 77, 3) := by decide +kernel
theorem dX7_odds_7 : decode cX7_odds 7 = .ok (.ifCond .eq 12, 3) := by decide +kernel
theorem dX7_odds_10 : decode cX7_odds 10 = .ok (.iload_n 2, 1) := by decide +kernel
theorem dX7_odds_11 : decode cX7_odds 11 = .ok (.iconst 0, 1) := by decide +kernel
theorem dX7_odds_12 : decode cX7_odds 12 = .ok (.iconst 1, 1) := by decide +kernel
theorem dX7_odds_13 : decode cX7_odds 13 = .ok (.invokestatic 77, 3) := by decide +kernel
theorem dX7_odds_16 : decode cX7_odds 16 = .ok (.ifCond .ne 10, 3) := by decide +kernel
theorem dX7_odds_19 : decode cX7_odds 19 = .ok (.aload_n 0, 1) := by decide +kernel
theorem dX7_odds_20 : decode cX7_odds 20 = .ok (.iconst 0, 1) := by decide +kernel
theorem dX7_odds_21 : decode cX7_odds 21 = .ok (.invokevirtual 61, 3) := by decide +kernel
theorem dX7_odds_24 : decode cX7_odds 24 = .ok (.i2l, 1) := by decide +kernel
theorem dX7_odds_25 : decode cX7_odds 25 = .ok (.lreturn, 1) := by decide +kernel
theorem dX7_odds_26 : decode cX7_odds 26 = .ok (.lconst 1, 1) := by decide +kernel
theorem dX7_odds_27 : decode cX7_odds 27 = .ok (.lstore_n 3, 1) := by decide +kernel
theorem dX7_odds_28 : decode cX7_odds 28 = .ok (.iconst 0, 1) := by decide +kernel
theorem dX7_odds_29 : decode cX7_odds 29 = .ok (.istore 5, 2) := by decide +kernel
theorem dX7_odds_31 : decode cX7_odds 31 = .ok (.iload 5, 2) := by decide +kernel
theorem dX7_odds_33 : decode cX7_odds 33 = .ok (.iload_n 1, 1) := by decide +kernel
theorem dX7_odds_34 : decode cX7_odds 34 = .ok (.if_icmp .ge 25, 3) := by decide +kernel
theorem dX7_odds_37 : decode cX7_odds 37 = .ok (.lload_n 3, 1) := by decide +kernel
theorem dX7_odds_38 : decode cX7_odds 38 = .ok (.iload_n 2, 1) := by decide +kernel
theorem dX7_odds_39 : decode cX7_odds 39 = .ok (.ifCond .ne 9, 3) := by decide +kernel
theorem dX7_odds_42 : decode cX7_odds 42 = .ok (.ldc2_w 223, 3) := by decide +kernel
theorem dX7_odds_45 : decode cX7_odds 45 = .ok (.goto 6, 3) := by decide +kernel
theorem dX7_odds_48 : decode cX7_odds 48 = .ok (.ldc2_w 225, 3) := by decide +kernel
theorem dX7_odds_51 : decode cX7_odds 51 = .ok (.lmul, 1) := by decide +kernel
theorem dX7_odds_52 : decode cX7_odds 52 = .ok (.lstore_n 3, 1) := by decide +kernel
theorem dX7_odds_53 : decode cX7_odds 53 = .ok (.iinc 5 1, 3) := by decide +kernel
theorem dX7_odds_56 : decode cX7_odds 56 = .ok (.goto (-25), 3) := by decide +kernel
theorem dX7_odds_59 : decode cX7_odds 59 = .ok (.lload_n 3, 1) := by decide +kernel
theorem dX7_odds_60 : decode cX7_odds 60 = .ok (.lreturn, 1) := by decide +kernel
theorem dX7_seed_0 : decode cX7_seed 0 = .ok (.aload_n 0, 1) := by decide +kernel
theorem dX7_seed_1 : decode cX7_seed 1 = .ok (.getfield 10, 3) := by decide +kernel
theorem dX7_seed_4 : decode cX7_seed 4 = .ok (.getfield 227, 3) := by decide +kernel
theorem dX7_seed_7 : decode cX7_seed 7 = .ok (.istore_n 2, 1) := by decide +kernel
theorem dX7_seed_8 : decode cX7_seed 8 = .ok (.aload_n 0, 1) := by decide +kernel
theorem dX7_seed_9 : decode cX7_seed 9 = .ok (.getfield 10, 3) := by decide +kernel
theorem dX7_seed_12 : decode cX7_seed 12 = .ok (.iload_n 1, 1) := by decide +kernel
theorem dX7_seed_13 : decode cX7_seed 13 = .ok (.putfield 227, 3) := by decide +kernel
theorem dX7_seed_16 : decode cX7_seed 16 = .ok (.iload_n 2, 1) := by decide +kernel
theorem dX7_seed_17 : decode cX7_seed 17 = .ok (.ireturn, 1) := by decide +kernel
theorem dX7_feed_0 : decode cX7_feed 0 = .ok (.iload_n 2, 1) := by decide +kernel
theorem dX7_feed_1 : decode cX7_feed 1 = .ok (.iconst 1, 1) := by decide +kernel
theorem dX7_feed_2 : decode cX7_feed 2 = .ok (.iconst 4, 1) := by decide +kernel
theorem dX7_feed_3 : decode cX7_feed 3 = .ok (.invokestatic 77, 3) := by decide +kernel
theorem dX7_feed_6 : decode cX7_feed 6 = .ok (.ifCond .ne 9, 3) := by decide +kernel
theorem dX7_feed_9 : decode cX7_feed 9 = .ok (.aload_n 0, 1) := by decide +kernel
theorem dX7_feed_10 : decode cX7_feed 10 = .ok (.iconst 0, 1) := by decide +kernel
theorem dX7_feed_11 : decode cX7_feed 11 = .ok (.invokevirtual 61, 3) := by decide +kernel
theorem dX7_feed_14 : decode cX7_feed 14 = .ok (.ireturn, 1) := by decide +kernel
theorem dX7_feed_15 : decode cX7_feed 15 = .ok (.aload_n 0, 1) := by decide +kernel
theorem dX7_feed_16 : decode cX7_feed 16 = .ok (.getfield 39, 3) := by decide +kernel
theorem dX7_feed_19 : decode cX7_feed 19 = .ok (.getfield 230, 3) := by decide +kernel
theorem dX7_feed_22 : decode cX7_feed 22 = .ok (.iload_n 2, 1) := by decide +kernel
theorem dX7_feed_23 : decode cX7_feed 23 = .ok (.iadd, 1) := by decide +kernel
theorem dX7_feed_24 : decode cX7_feed 24 = .ok (.bipush 120, 2) := by decide +kernel
theorem dX7_feed_26 : decode cX7_feed 26 = .ok (.if_icmp .le 9, 3) := by decide +kernel
theorem dX7_feed_29 : decode cX7_feed 29 = .ok (.aload_n 0, 1) := by decide +kernel
theorem dX7_feed_30 : decode cX7_feed 30 = .ok (.iconst 1, 1) := by decide +kernel
theorem dX7_feed_31 : decode cX7_feed 31 = .ok (.invokevirtual 61, 3) := by decide +kernel
theorem dX7_feed_34 : decode cX7_feed 34 = .ok (.ireturn, 1) := by decide +kernel
theorem dX7_feed_35 : decode cX7_feed 35 = .ok (.iload_n 2, 1) := by decide +kernel
theorem dX7_feed_36 : decode cX7_feed 36 = .ok (.iconst 1, 1) := by decide +kernel
theorem dX7_feed_37 : decode cX7_feed 37 = .ok (.isub, 1) := by decide +kernel
theorem dX7_feed_38 : decode cX7_feed 38 = .ok (.istore_n 3, 1) := by decide +kernel
theorem dX7_feed_39 : decode cX7_feed 39 = .ok (.iload_n 3, 1) := by decide +kernel
theorem dX7_feed_40 : decode cX7_feed 40 = .ok (.ifCond .lt 22, 3) := by decide +kernel
theorem dX7_feed_43 : decode cX7_feed 43 = .ok (.aload_n 0, 1) := by decide +kernel
theorem dX7_feed_44 : decode cX7_feed 44 = .ok (.getfield 39, 3) := by decide +kernel
theorem dX7_feed_47 : decode cX7_feed 47 = .ok (.iload_n 1, 1) := by decide +kernel
theorem dX7_feed_48 : decode cX7_feed 48 = .ok (.bipush 8, 2) := by decide +kernel
theorem dX7_feed_50 : decode cX7_feed 50 = .ok (.iload_n 3, 1) := by decide +kernel
theorem dX7_feed_51 : decode cX7_feed 51 = .ok (.imul, 1) := by decide +kernel
theorem dX7_feed_52 : decode cX7_feed 52 = .ok (.iushr, 1) := by decide +kernel
theorem dX7_feed_53 : decode cX7_feed 53 = .ok (.invokevirtual 231, 3) := by decide +kernel
theorem dX7_feed_56 : decode cX7_feed 56 = .ok (.iinc 3 (-1), 3) := by decide +kernel
theorem dX7_feed_59 : decode cX7_feed 59 = .ok (.goto (-20), 3) := by decide +kernel
theorem dX7_feed_62 : decode cX7_feed 62 = .ok (.aload_n 0, 1) := by decide +kernel
theorem dX7_feed_63 : decode cX7_feed 63 = .ok (.getfield 39, 3) := by decide +kernel
theorem dX7_feed_66 : decode cX7_feed 66 = .ok (.getfield 230, 3) := by decide +kernel
theorem dX7_feed_69 : decode cX7_feed 69 = .ok (.ireturn, 1) := by decide +kernel
theorem dX7_wipe_0 : decode cX7_wipe 0 = .ok (.aload_n 0, 1) := by decide +kernel
theorem dX7_wipe_1 : decode cX7_wipe 1 = .ok (.getfield 39, 3) := by decide +kernel
theorem dX7_wipe_4 : decode cX7_wipe 4 = .ok (.getfield 230, 3) := by decide +kernel
theorem dX7_wipe_7 : decode cX7_wipe 7 = .ok (.istore_n 1, 1) := by decide +kernel
theorem dX7_wipe_8 : decode cX7_wipe 8 = .ok (.aload_n 0, 1) := by decide +kernel
theorem dX7_wipe_9 : decode cX7_wipe 9 = .ok (.getfield 39, 3) := by decide +kernel
theorem dX7_wipe_12 : decode cX7_wipe 12 = .ok (.iconst 0, 1) := by decide +kernel
theorem dX7_wipe_13 : decode cX7_wipe 13 = .ok (.putfield 230, 3) := by decide +kernel
theorem dX7_wipe_16 : decode cX7_wipe 16 = .ok (.iload_n 1, 1) := by decide +kernel
theorem dX7_wipe_17 : decode cX7_wipe 17 = .ok (.ireturn, 1) := by decide +kernel
theorem dX7_text_0 : decode cX7_text 0 = .ok (.aload_n 0, 1) := by decide +kernel
theorem dX7_text_1 : decode cX7_text 1 = .ok (.getfield 19, 3) := by decide +kernel
theorem dX7_text_4 : decode cX7_text 4 = .ok (.aload_n 0, 1) := by decide +kernel
theorem dX7_text_5 : decode cX7_text 5 = .ok (.getfield 10, 3) := by decide +kernel
theorem dX7_text_8 : decode cX7_text 8 = .ok (.invokevirtual 147, 3) := by decide +kernel
theorem dX7_text_11 : decode cX7_text 11 = .ok (.new 234, 3) := by decide +kernel
theorem dX7_text_14 : decode cX7_text 14 = .ok (.dup, 1) := by decide +kernel
theorem dX7_text_15 : decode cX7_text 15 = .ok (.aload_n 0, 1) := by decide +kernel
theorem dX7_text_16 : decode cX7_text 16 = .ok (.getfield 39, 3) := by decide +kernel
theorem dX7_text_19 : decode cX7_text 19 = .ok (.aload_n 0, 1) := by decide +kernel
theorem dX7_text_20 : decode cX7_text 20 = .ok (.getfield 19, 3) := by decide +kernel
theorem dX7_text_23 : decode cX7_text 23 = .ok (.invokespecial 236, 3) := by decide +kernel
theorem dX7_text_26 : decode cX7_text 26 = .ok (.invokevirtual 239, 3) := by decide +kernel
theorem dX7_text_29 : decode cX7_text 29 = .ok (.istore_n 1, 1) := by decide +kernel
theorem dX7_text_30 : decode cX7_text 30 = .ok (.iload_n 1, 1) := by decide +kernel
theorem dX7_text_31 : decode cX7_text 31 = .ok (.ifCond .lt 14, 3) := by decide +kernel
theorem dX7_text_34 : decode cX7_text 34 = .ok (.aload_n 0, 1) := by decide +kernel
theorem dX7_text_35 : decode cX7_text 35 = .ok (.getfield 10, 3) := by decide +kernel
theorem dX7_text_38 : decode cX7_text 38 = .ok (.aload_n 0, 1) := by decide +kernel
theorem dX7_text_39 : decode cX7_text 39 = .ok (.getfield 19, 3) := by decide +kernel
theorem dX7_text_42 : decode cX7_text 42 = .ok (.invokevirtual 147, 3) := by decide +kernel
theorem dX7_text_45 : decode cX7_text 45 = .ok (.aload_n 0, 1) := by decide +kernel
theorem dX7_text_46 : decode cX7_text 46 = .ok (.getfield 39, 3) := by decide +kernel
theorem dX7_text_49 : decode cX7_text 49 = .ok (.iconst 0, 1) := by decide +kernel
theorem dX7_text_50 : decode cX7_text 50 = .ok (.putfield 230, 3) := by decide +kernel
theorem dX7_text_53 : decode cX7_text 53 = .ok (.iload_n 1, 1) := by decide +kernel
theorem dX7_text_54 : decode cX7_text 54 = .ok (.ireturn, 1) := by decide +kernel
theorem dX7_hold_0 : decode cX7_hold 0 = .ok (.iload_n 1, 1) := by decide +kernel
theorem dX7_hold_1 : decode cX7_hold 1 = .ok (.iconst 0, 1) := by decide +kernel
theorem dX7_hold_2 : decode cX7_hold 2 = .ok (.bipush 9, 2) := by decide +kernel
theorem dX7_hold_4 : decode cX7_hold 4 = .ok (.invokestatic 77, 3) := by decide +kernel
theorem dX7_hold_7 : decode cX7_hold 7 = .ok (.ifCond .eq 13, 3) := by decide +kernel
theorem dX7_hold_10 : decode cX7_hold 10 = .ok (.iload_n 2, 1) := by decide +kernel
theorem dX7_hold_11 : decode cX7_hold 11 = .ok (.iconst (-1), 1) := by decide +kernel
theorem dX7_hold_12 : decode cX7_hold 12 = .ok (.bipush 7, 2) := by decide +kernel
theorem dX7_hold_14 : decode cX7_hold 14 = .ok (.invokestatic 77, 3) := by decide +kernel
theorem dX7_hold_17 : decode cX7_hold 17 = .ok (.ifCond .ne 9, 3) := by decide +kernel
theorem dX7_hold_20 : decode cX7_hold 20 = .ok (.aload_n 0, 1) := by decide +kernel
theorem dX7_hold_21 : decode cX7_hold 21 = .ok (.iconst 0, 1) := by decide +kernel
theorem dX7_hold_22 : decode cX7_hold 22 = .ok (.invokevirtual 61, 3) := by decide +kernel
theorem dX7_hold_25 : decode cX7_hold 25 = .ok (.ireturn, 1) := by decide +kernel
theorem dX7_hold_26 : decode cX7_hold 26 = .ok (.aload_n 0, 1) := by decide +kernel
theorem dX7_hold_27 : decode cX7_hold 27 = .ok (.getfield 10, 3) := by decide +kernel
theorem dX7_hold_30 : decode cX7_hold 30 = .ok (.iload_n 1, 1) := by decide +kernel
theorem dX7_hold_31 : decode cX7_hold 31 = .ok (.iload_n 2, 1) := by decide +kernel
theorem dX7_hold_32 : decode cX7_hold 32 = .ok (.invokevirtual 242, 3) := by decide +kernel
theorem dX7_hold_35 : decode cX7_hold 35 = .ok (.iconst 1, 1) := by decide +kernel
theorem dX7_hold_36 : decode cX7_hold 36 = .ok (.ireturn, 1) := by decide +kernel
theorem dX7_as_0 : decode cX7_as 0 = .ok (.iload_n 1, 1) := by decide +kernel
theorem dX7_as_1 : decode cX7_as 1 = .ok (.iconst 0, 1) := by decide +kernel
theorem dX7_as_2 : decode cX7_as 2 = .ok (.bipush 9, 2) := by decide +kernel
theorem dX7_as_4 : decode cX7_as 4 = .ok (.invokestatic 77, 3) := by decide +kernel
theorem dX7_as_7 : decode cX7_as 7 = .ok (.ifCond .eq 13, 3) := by decide +kernel
theorem dX7_as_10 : decode cX7_as 10 = .ok (.iload_n 2, 1) := by decide +kernel
theorem dX7_as_11 : decode cX7_as 11 = .ok (.iconst 0, 1) := by decide +kernel
theorem dX7_as_12 : decode cX7_as 12 = .ok (.bipush 6, 2) := by decide +kernel
theorem dX7_as_14 : decode cX7_as 14 = .ok (.invokestatic 77, 3) := by decide +kernel
theorem dX7_as_17 : decode cX7_as 17 = .ok (.ifCond .ne 9, 3) := by decide +kernel
theorem dX7_as_20 : decode cX7_as 20 = .ok (.aload_n 0, 1) := by decide +kernel
theorem dX7_as_21 : decode cX7_as 21 = .ok (.iconst 0, 1) := by decide +kernel
theorem dX7_as_22 : decode cX7_as 22 = .ok (.invokevirtual 61, 3) := by decide +kernel
theorem dX7_as_25 : decode cX7_as 25 = .ok (.ireturn, 1) := by decide +kernel
theorem dX7_as_26 : decode cX7_as 26 = .ok (.aload_n 0, 1) := by decide +kernel
theorem dX7_as_27 : decode cX7_as 27 = .ok (.getfield 10, 3) := by decide +kernel
theorem dX7_as_30 : decode cX7_as 30 = .ok (.iload_n 1, 1) := by decide +kernel
theorem dX7_as_31 : decode cX7_as 31 = .ok (.invokevirtual 246, 3) := by decide +kernel
theorem dX7_as_34 : decode cX7_as 34 = .ok (.istore_n 3, 1) := by decide +kernel
theorem dX7_as_35 : decode cX7_as 35 = .ok (.aload_n 0, 1) := by decide +kernel
theorem dX7_as_36 : decode cX7_as 36 = .ok (.getfield 10, 3) := by decide +kernel
theorem dX7_as_39 : decode cX7_as 39 = .ok (.iload_n 3, 1) := by decide +kernel
theorem dX7_as_40 : decode cX7_as 40 = .ok (.invokevirtual 73, 3) := by decide +kernel
theorem dX7_as_43 : decode cX7_as 43 = .ok (.ifCond .ne 9, 3) := by decide +kernel
theorem dX7_as_46 : decode cX7_as 46 = .ok (.aload_n 0, 1) := by decide +kernel
theorem dX7_as_47 : decode cX7_as 47 = .ok (.iconst 5, 1) := by decide +kernel
theorem dX7_as_48 : decode cX7_as 48 = .ok (.invokevirtual 61, 3) := by decide +kernel
theorem dX7_as_51 : decode cX7_as 51 = .ok (.ireturn, 1) := by decide +kernel
theorem dX7_as_52 : decode cX7_as 52 = .ok (.aload_n 0, 1) := by decide +kernel
theorem dX7_as_53 : decode cX7_as 53 = .ok (.getfield 10, 3) := by decide +kernel
theorem dX7_as_56 : decode cX7_as 56 = .ok (.getfield 51, 3) := by decide +kernel
theorem dX7_as_59 : decode cX7_as 59 = .ok (.iload_n 3, 1) := by decide +kernel
theorem dX7_as_60 : decode cX7_as 60 = .ok (.iconst 0, 1) := by decide +kernel
theorem dX7_as_61 : decode cX7_as 61 = .ok (.invokevirtual 84, 3) := by decide +kernel
theorem dX7_as_64 : decode cX7_as 64 = .ok (.iload_n 2, 1) := by decide +kernel
theorem dX7_as_65 : decode cX7_as 65 = .ok (.invokestatic 249, 3) := by decide +kernel
theorem dX7_as_68 : decode cX7_as 68 = .ok (.ifCond .eq 7, 3) := by decide +kernel
theorem dX7_as_71 : decode cX7_as 71 = .ok (.iload_n 3, 1) := by decide +kernel
theorem dX7_as_72 : decode cX7_as 72 = .ok (.goto 8, 3) := by decide +kernel
theorem dX7_as_75 : decode cX7_as 75 = .ok (.aload_n 0, 1) := by decide +kernel
theorem dX7_as_76 : decode cX7_as 76 = .ok (.iconst 2, 1) := by decide +kernel
theorem dX7_as_77 : decode cX7_as 77 = .ok (.invokevirtual 61, 3) := by decide +kernel
theorem dX7_as_80 : decode cX7_as 80 = .ok (.ireturn, 1) := by decide +kernel
theorem dX7_sheet_0 : decode cX7_sheet 0 = .ok (.aload_n 0, 1) := by decide +kernel
theorem dX7_sheet_1 : decode cX7_sheet 1 = .ok (.iload_n 1, 1) := by decide +kernel
theorem dX7_sheet_2 : decode cX7_sheet 2 = .ok (.invokevirtual 204, 3) := by decide +kernel
theorem dX7_sheet_5 : decode cX7_sheet 5 = .ok (.astore 4, 2) := by decide +kernel
theorem dX7_sheet_7 : decode cX7_sheet 7 = .ok (.aload 4, 2) := by decide +kernel
theorem dX7_sheet_9 : decode cX7_sheet 9 = .ok (.ifnull 14, 3) := by decide +kernel
theorem dX7_sheet_12 : decode cX7_sheet 12 = .ok (.iload_n 2, 1) := by decide +kernel
theorem dX7_sheet_13 : decode cX7_sheet 13 = .ok (.ifCond .eq 16, 3) := by decide +kernel
theorem dX7_sheet_16 : decode cX7_sheet 16 = .ok (.iload_n 2, 1) := by decide +kernel
theorem dX7_sheet_17 : decode cX7_sheet 17 = .ok (.invokestatic 252, 3) := by decide +kernel
theorem dX7_sheet_20 : decode cX7_sheet 20 = .ok (.ifCond .ne 9, 3) := by decide +kernel
theorem dX7_sheet_23 : decode cX7_sheet 23 = .ok (.aload_n 0, 1) := by decide +kernel
theorem dX7_sheet_24 : decode cX7_sheet 24 = .ok (.iconst 0, 1) := by decide +kernel
theorem dX7_sheet_25 : decode cX7_sheet 25 = .ok (.invokevirtual 61, 3) := by decide +kernel
theorem dX7_sheet_28 : decode cX7_sheet 28 = .ok (.ireturn, 1) := by decide +kernel
theorem dX7_sheet_29 : decode cX7_sheet 29 = .ok (.iload_n 3, 1) := by decide +kernel
theorem dX7_sheet_30 : decode cX7_sheet 30 = .ok (.ifCond .ge 10, 3) := by decide +kernel
theorem dX7_sheet_33 : decode cX7_sheet 33 = .ok (.aload_n 0, 1) := by decide +kernel
theorem dX7_sheet_34 : decode cX7_sheet 34 = .ok (.bipush 6, 2) := by decide +kernel
theorem dX7_sheet_36 : decode cX7_sheet 36 = .ok (.invokevirtual 61, 3) := by decide +kernel
theorem dX7_sheet_39 : decode cX7_sheet 39 = .ok (.ireturn, 1) := by decide +kernel
theorem dX7_sheet_40 : decode cX7_sheet 40 = .ok (.iload_n 3, 1) := by decide +kernel
theorem dX7_sheet_41 : decode cX7_sheet 41 = .ok (.bipush 40, 2) := by decide +kernel
theorem dX7_sheet_43 : decode cX7_sheet 43 = .ok (.if_icmp .le 9, 3) := by decide +kernel
theorem dX7_sheet_46 : decode cX7_sheet 46 = .ok (.aload_n 0, 1) := by decide +kernel
theorem dX7_sheet_47 : decode cX7_sheet 47 = .ok (.iconst 0, 1) := by decide +kernel
theorem dX7_sheet_48 : decode cX7_sheet 48 = .ok (.invokevirtual 61, 3) := by decide +kernel
theorem dX7_sheet_51 : decode cX7_sheet 51 = .ok (.ireturn, 1) := by decide +kernel
theorem dX7_sheet_52 : decode cX7_sheet 52 = .ok (.aload 4, 2) := by decide +kernel
theorem dX7_sheet_54 : decode cX7_sheet 54 = .ok (.iload_n 2, 1) := by decide +kernel
theorem dX7_sheet_55 : decode cX7_sheet 55 = .ok (.iload_n 3, 1) := by decide +kernel
theorem dX7_sheet_56 : decode cX7_sheet 56 = .ok (.invokevirtual 255, 3) := by decide +kernel
theorem dX7_sheet_59 : decode cX7_sheet 59 = .ok (.aload 4, 2) := by decide +kernel
theorem dX7_sheet_61 : decode cX7_sheet 61 = .ok (.getfield 215, 3) := by decide +kernel
theorem dX7_sheet_64 : decode cX7_sheet 64 = .ok (.ireturn, 1) := by decide +kernel
theorem dX7_write_0 : decode cX7_write 0 = .ok (.aload_n 0, 1) := by decide +kernel
theorem dX7_write_1 : decode cX7_write 1 = .ok (.iload_n 1, 1) := by decide +kernel
theorem dX7_write_2 : decode cX7_write 2 = .ok (.invokevirtual 212, 3) := by decide +kernel
theorem dX7_write_5 : decode cX7_write 5 = .ok (.istore 4, 2) := by decide +kernel
theorem dX7_write_7 : decode cX7_write 7 = .ok (.iload 4, 2) := by decide +kernel
theorem dX7_write_9 : decode cX7_write 9 = .ok (.ifCond .lt 10, 3) := by decide +kernel
theorem dX7_write_12 : decode cX7_write 12 = .ok (.aload_n 0, 1) := by decide +kernel
theorem dX7_write_13 : decode cX7_write 13 = .ok (.iload 4, 2) := by decide +kernel
theorem dX7_write_15 : decode cX7_write 15 = .ok (.invokevirtual 61, 3) := by decide +kernel
theorem dX7_write_18 : decode cX7_write 18 = .ok (.ireturn, 1) := by decide +kernel
theorem dX7_write_19 : decode cX7_write 19 = .ok (.aload_n 0, 1) := by decide +kernel
theorem dX7_write_20 : decode cX7_write 20 = .ok (.iload_n 1, 1) := by decide +kernel
theorem dX7_write_21 : decode cX7_write 21 = .ok (.invokevirtual 204, 3) := by decide +kernel
theorem dX7_write_24 : decode cX7_write 24 = .ok (.astore 5, 2) := by decide +kernel
theorem dX7_write_26 : decode cX7_write 26 = .ok (.aload 5, 2) := by decide +kernel
theorem dX7_write_28 : decode cX7_write 28 = .ok (.ifnull 18, 3) := by decide +kernel
theorem dX7_write_31 : decode cX7_write 31 = .ok (.iload_n 2, 1) := by decide +kernel
theorem dX7_write_32 : decode cX7_write 32 = .ok (.iconst 0, 1) := by decide +kernel
theorem dX7_write_33 : decode cX7_write 33 = .ok (.aload 5, 2) := by decide +kernel
theorem dX7_write_35 : decode cX7_write 35 = .ok (.getfield 215, 3) := by decide +kernel
theorem dX7_write_38 : decode cX7_write 38 = .ok (.iconst 1, 1) := by decide +kernel
theorem dX7_write_39 : decode cX7_write 39 = .ok (.isub, 1) := by decide +kernel
theorem dX7_write_40 : decode cX7_write 40 = .ok (.invokestatic 77, 3) := by decide +kernel
theorem dX7_write_43 : decode cX7_write 43 = .ok (.ifCond .ne 9, 3) := by decide +kernel
theorem dX7_write_46 : decode cX7_write 46 = .ok (.aload_n 0, 1) := by decide +kernel
theorem dX7_write_47 : decode cX7_write 47 = .ok (.iconst 0, 1) := by decide +kernel
theorem dX7_write_48 : decode cX7_write 48 = .ok (.invokevirtual 61, 3) := by decide +kernel
theorem dX7_write_51 : decode cX7_write 51 = .ok (.ireturn, 1) := by decide +kernel
theorem dX7_write_52 : decode cX7_write 52 = .ok (.aload 5, 2) := by decide +kernel
theorem dX7_write_54 : decode cX7_write 54 = .ok (.iload_n 2, 1) := by decide +kernel
theorem dX7_write_55 : decode cX7_write 55 = .ok (.iload_n 3, 1) := by decide +kernel
theorem dX7_write_56 : decode cX7_write 56 = .ok (.invokevirtual 258, 3) := by decide +kernel
theorem dX7_write_59 : decode cX7_write 59 = .ok (.iconst 1, 1) := by decide +kernel
theorem dX7_write_60 : decode cX7_write 60 = .ok (.ireturn, 1) := by decide +kernel
theorem dX7_copy_0 : decode cX7_copy 0 = .ok (.aload_n 0, 1) := by decide +kernel
theorem dX7_copy_1 : decode cX7_copy 1 = .ok (.iload_n 1, 1) := by decide +kernel
theorem dX7_copy_2 : decode cX7_copy 2 = .ok (.invokevirtual 204, 3) := by decide +kernel
theorem dX7_copy_5 : decode cX7_copy 5 = .ok (.astore 6, 2) := by decide +kernel
theorem dX7_copy_7 : decode cX7_copy 7 = .ok (.aload_n 0, 1) := by decide +kernel
theorem dX7_copy_8 : decode cX7_copy 8 = .ok (.iload_n 3, 1) := by decide +kernel
theorem dX7_copy_9 : decode cX7_copy 9 = .ok (.invokevirtual 204, 3) := by decide +kernel
theorem dX7_copy_12 : decode cX7_copy 12 = .ok (.astore 7, 2) := by decide +kernel
theorem dX7_copy_14 : decode cX7_copy 14 = .ok (.aload 6, 2) := by decide +kernel
theorem dX7_copy_16 : decode cX7_copy 16 = .ok (.ifnull 8, 3) := by decide +kernel
theorem dX7_copy_19 : decode cX7_copy 19 = .ok (.aload 7, 2) := by decide +kernel
theorem dX7_copy_21 : decode cX7_copy 21 = .ok (.ifnonnull 9, 3) := by decide +kernel
theorem dX7_copy_24 : decode cX7_copy 24 = .ok (.aload_n 0, 1) := by decide +kernel
theorem dX7_copy_25 : decode cX7_copy 25 = .ok (.iconst 0, 1) := by decide +kernel
theorem dX7_copy_26 : decode cX7_copy 26 = .ok (.invokevirtual 61, 3) := by decide +kernel
theorem dX7_copy_29 : decode cX7_copy 29 = .ok (.ireturn, 1) := by decide +kernel
theorem dX7_copy_30 : decode cX7_copy 30 = .ok (.aload 6, 2) := by decide +kernel
theorem dX7_copy_32 : decode cX7_copy 32 = .ok (.invokevirtual 260, 3) := by decide +kernel
theorem dX7_copy_35 : decode cX7_copy 35 = .ok (.ifCond .ne 11, 3) := by decide +kernel
theorem dX7_copy_38 : decode cX7_copy 38 = .ok (.aload 7, 2) := by decide +kernel
theorem dX7_copy_40 : decode cX7_copy 40 = .ok (.invokevirtual 260, 3) := by decide +kernel
theorem dX7_copy_43 : decode cX7_copy 43 = .ok (.ifCond .eq 9, 3) := by decide +kernel
theorem dX7_copy_46 : decode cX7_copy 46 = .ok (.aload_n 0, 1) := by decide +kernel
theorem dX7_copy_47 : decode cX7_copy 47 = .ok (.iconst 5, 1) := by decide +kernel
theorem dX7_copy_48 : decode cX7_copy 48 = .ok (.invokevirtual 61, 3) := by decide +kernel
theorem dX7_copy_51 : decode cX7_copy 51 = .ok (.ireturn, 1) := by decide +kernel
theorem dX7_copy_52 : decode cX7_copy 52 = .ok (.aload 6, 2) := by decide +kernel
theorem dX7_copy_54 : decode cX7_copy 54 = .ok (.getfield 264, 3) := by decide +kernel
theorem dX7_copy_57 : decode cX7_copy 57 = .ok (.aload 7, 2) := by decide +kernel
theorem dX7_copy_59 : decode cX7_copy 59 = .ok (.getfield 264, 3) := by decide +kernel
theorem dX7_copy_62 : decode cX7_copy 62 = .ok (.if_icmp .eq 9, 3) := by decide +kernel
theorem dX7_copy_65 : decode cX7_copy 65 = .ok (.aload_n 0, 1) := by decide +kernel
theorem dX7_copy_66 : decode cX7_copy 66 = .ok (.iconst 2, 1) := by decide +kernel
theorem dX7_copy_67 : decode cX7_copy 67 = .ok (.invokevirtual 61, 3) := by decide +kernel
theorem dX7_copy_70 : decode cX7_copy 70 = .ok (.ireturn, 1) := by decide +kernel
theorem dX7_copy_71 : decode cX7_copy 71 = .ok (.aload 6, 2) := by decide +kernel
theorem dX7_copy_73 : decode cX7_copy 73 = .ok (.iload_n 2, 1) := by decide +kernel
theorem dX7_copy_74 : decode cX7_copy 74 = .ok (.iload 5, 2) := by decide +kernel
theorem dX7_copy_76 : decode cX7_copy 76 = .ok (.invokevirtual 267, 3) := by decide +kernel
theorem dX7_copy_79 : decode cX7_copy 79 = .ok (.ifCond .eq 15, 3) := by decide +kernel
theorem dX7_copy_82 : decode cX7_copy 82 = .ok (.aload 7, 2) := by decide +kernel
theorem dX7_copy_84 : decode cX7_copy 84 = .ok (.iload 4, 2) := by decide +kernel
theorem dX7_copy_86 : decode cX7_copy 86 = .ok (.iload 5, 2) := by decide +kernel
theorem dX7_copy_88 : decode cX7_copy 88 = .ok (.invokevirtual 267, 3) := by decide +kernel
theorem dX7_copy_91 : decode cX7_copy 91 = .ok (.ifCond .ne 9, 3) := by decide +kernel
theorem dX7_copy_94 : decode cX7_copy 94 = .ok (.aload_n 0, 1) := by decide +kernel
theorem dX7_copy_95 : decode cX7_copy 95 = .ok (.iconst 0, 1) := by decide +kernel
theorem dX7_copy_96 : decode cX7_copy 96 = .ok (.invokevirtual 61, 3) := by decide +kernel
theorem dX7_copy_99 : decode cX7_copy 99 = .ok (.ireturn, 1) := by decide +kernel
theorem dX7_copy_100 : decode cX7_copy 100 = .ok (.aload 6, 2) := by decide +kernel
theorem dX7_copy_102 : decode cX7_copy 102 = .ok (.iload_n 2, 1) := by decide +kernel
theorem dX7_copy_103 : decode cX7_copy 103 = .ok (.aload 7, 2) := by decide +kernel
theorem dX7_copy_105 : decode cX7_copy 105 = .ok (.iload 4, 2) := by decide +kernel
theorem dX7_copy_107 : decode cX7_copy 107 = .ok (.iload 5, 2) := by decide +kernel
theorem dX7_copy_109 : decode cX7_copy 109 = .ok (.invokestatic 270, 3) := by decide +kernel
theorem dX7_copy_112 : decode cX7_copy 112 = .ok (.iload 5, 2) := by decide +kernel
theorem dX7_copy_114 : decode cX7_copy 114 = .ok (.ireturn, 1) := by decide +kernel
theorem dX7_copyNumbers_0 : decode cX7_copyNumbers 0 = .ok (.aload_n 0, 1) := by decide +kernel
theorem dX7_copyNumbers_1 : decode cX7_copyNumbers 1 = .ok (.ifnull 7, 3) := by decide +kernel
theorem dX7_copyNumbers_4 : decode cX7_copyNumbers 4 = .ok (.aload_n 2, 1) := by decide +kernel
theorem dX7_copyNumbers_5 : decode cX7_copyNumbers 5 = .ok (.ifnonnull 4, 3) := by decide +kernel
theorem dX7_copyNumbers_8 : decode cX7_copyNumbers 8 = .ok (.return_, 1) := by decide +kernel
theorem dX7_copyNumbers_9 : decode cX7_copyNumbers 9 = .ok (.iload_n 3, 1) := by decide +kernel
theorem dX7_copyNumbers_10 : decode cX7_copyNumbers 10 = .ok (.iload_n 1, 1) := by decide +kernel
theorem dX7_copyNumbers_11 : decode cX7_copyNumbers 11 = .ok (.if_icmp .le 7, 3) := by decide +kernel
theorem dX7_copyNumbers_14 : decode cX7_copyNumbers 14 = .ok (.iconst 1, 1) := by decide +kernel
theorem dX7_copyNumbers_15 : decode cX7_copyNumbers 15 = .ok (.goto 4, 3) := by decide +kernel
theorem dX7_copyNumbers_18 : decode cX7_copyNumbers 18 = .ok (.iconst 0, 1) := by decide +kernel
theorem dX7_copyNumbers_19 : decode cX7_copyNumbers 19 = .ok (.istore 5, 2) := by decide +kernel
theorem dX7_copyNumbers_21 : decode cX7_copyNumbers 21 = .ok (.iconst 0, 1) := by decide +kernel
theorem dX7_copyNumbers_22 : decode cX7_copyNumbers 22 = .ok (.istore 6, 2) := by decide +kernel
theorem dX7_copyNumbers_24 : decode cX7_copyNumbers 24 = .ok (.iload 6, 2) := by decide +kernel
theorem dX7_copyNumbers_26 : decode cX7_copyNumbers 26 = .ok (.iload 4, 2) := by decide +kernel
theorem dX7_copyNumbers_28 : decode cX7_copyNumbers 28 = .ok (.if_icmp .ge 44, 3) := by decide +kernel
theorem dX7_copyNumbers_31 : decode cX7_copyNumbers 31 = .ok (.iload 5, 2) := by decide +kernel
theorem dX7_copyNumbers_33 : decode cX7_copyNumbers 33 = .ok (.ifCond .eq 13, 3) := by decide +kernel
theorem dX7_copyNumbers_36 : decode cX7_copyNumbers 36 = .ok (.iload 4, 2) := by decide +kernel
theorem dX7_copyNumbers_38 : decode cX7_copyNumbers 38 = .ok (.iconst 1, 1) := by decide +kernel
theorem dX7_copyNumbers_39 : decode cX7_copyNumbers 39 = .ok (.isub, 1) := by decide +kernel
theorem dX7_copyNumbers_40 : decode cX7_copyNumbers 40 = .ok (.iload 6, 2) := by decide +kernel
theorem dX7_copyNumbers_42 : decode cX7_copyNumbers 42 = .ok (.isub, 1) := by decide +kernel
theorem dX7_copyNumbers_43 : decode cX7_copyNumbers 43 = .ok (.goto 5, 3) := by decide +kernel
theorem dX7_copyNumbers_46 : decode cX7_copyNumbers 46 = .ok (.iload 6, 2) := by decide +kernel
theorem dX7_copyNumbers_48 : decode cX7_copyNumbers 48 = .ok (.istore 7, 2) := by decide +kernel
theorem dX7_copyNumbers_50 : decode cX7_copyNumbers 50 = .ok (.aload_n 2, 1) := by decide +kernel
theorem dX7_copyNumbers_51 : decode cX7_copyNumbers 51 = .ok (.iload_n 3, 1) := by decide +kernel
theorem dX7_copyNumbers_52 : decode cX7_copyNumbers 52 = .ok (.iload 7, 2) := by decide +kernel
theorem dX7_copyNumbers_54 : decode cX7_copyNumbers 54 = .ok (.iadd, 1) := by decide +kernel
theorem dX7_copyNumbers_55 : decode cX7_copyNumbers 55 = .ok (.aload_n 0, 1) := by decide +kernel
theorem dX7_copyNumbers_56 : decode cX7_copyNumbers 56 = .ok (.iload_n 1, 1) := by decide +kernel
theorem dX7_copyNumbers_57 : decode cX7_copyNumbers 57 = .ok (.iload 7, 2) := by decide +kernel
theorem dX7_copyNumbers_59 : decode cX7_copyNumbers 59 = .ok (.iadd, 1) := by decide +kernel
theorem dX7_copyNumbers_60 : decode cX7_copyNumbers 60 = .ok (.invokevirtual 218, 3) := by decide +kernel
theorem dX7_copyNumbers_63 : decode cX7_copyNumbers 63 = .ok (.invokevirtual 258, 3) := by decide +kernel
theorem dX7_copyNumbers_66 : decode cX7_copyNumbers 66 = .ok (.iinc 6 1, 3) := by decide +kernel
theorem dX7_copyNumbers_69 : decode cX7_copyNumbers 69 = .ok (.goto (-45), 3) := by decide +kernel
theorem dX7_copyNumbers_72 : decode cX7_copyNumbers 72 = .ok (.return_, 1) := by decide +kernel
theorem dX7_load_0 : decode cX7_load 0 = .ok (.aload_n 0, 1) := by decide +kernel
theorem dX7_load_1 : decode cX7_load 1 = .ok (.iload_n 1, 1) := by decide +kernel
theorem dX7_load_2 : decode cX7_load 2 = .ok (.invokevirtual 212, 3) := by decide +kernel
theorem dX7_load_5 : decode cX7_load 5 = .ok (.istore_n 2, 1) := by decide +kernel
theorem dX7_load_6 : decode cX7_load 6 = .ok (.iload_n 2, 1) := by decide +kernel
theorem dX7_load_7 : decode cX7_load 7 = .ok (.ifCond .lt 9, 3) := by decide +kernel
theorem dX7_load_10 : decode cX7_load 10 = .ok (.aload_n 0, 1) := by decide +kernel
theorem dX7_load_11 : decode cX7_load 11 = .ok (.iload_n 2, 1) := by decide +kernel
theorem dX7_load_12 : decode cX7_load 12 = .ok (.invokevirtual 61, 3) := by decide +kernel
theorem dX7_load_15 : decode cX7_load 15 = .ok (.ireturn, 1) := by decide +kernel
theorem dX7_load_16 : decode cX7_load 16 = .ok (.aload_n 0, 1) := by decide +kernel
theorem dX7_load_17 : decode cX7_load 17 = .ok (.iload_n 1, 1) := by decide +kernel
theorem dX7_load_18 : decode cX7_load 18 = .ok (.invokevirtual 204, 3) := by decide +kernel
theorem dX7_load_21 : decode cX7_load 21 = .ok (.astore_n 3, 1) := by decide +kernel
theorem dX7_load_22 : decode cX7_load 22 = .ok (.iconst 0, 1) := by decide +kernel
theorem dX7_load_23 : decode cX7_load 23 = .ok (.istore 4, 2) := by decide +kernel
theorem dX7_load_25 : decode cX7_load 25 = .ok (.aload_n 3, 1) := by decide +kernel
theorem dX7_load_26 : decode cX7_load 26 = .ok (.ifnull 64, 3) := by decide +kernel
theorem dX7_load_29 : decode cX7_load 29 = .ok (.iload 4, 2) := by decide +kernel
theorem dX7_load_31 : decode cX7_load 31 = .ok (.aload_n 3, 1) := by decide +kernel
theorem dX7_load_32 : decode cX7_load 32 = .ok (.getfield 215, 3) := by decide +kernel
theorem dX7_load_35 : decode cX7_load 35 = .ok (.if_icmp .ge 55, 3) := by decide +kernel
theorem dX7_load_38 : decode cX7_load 38 = .ok (.iload 4, 2) := by decide +kernel
theorem dX7_load_40 : decode cX7_load 40 = .ok (.bipush 6, 2) := by decide +kernel
theorem dX7_load_42 : decode cX7_load 42 = .ok (.if_icmp .ge 48, 3) := by decide +kernel
theorem dX7_load_45 : decode cX7_load 45 = .ok (.aload_n 0, 1) := by decide +kernel
theorem dX7_load_46 : decode cX7_load 46 = .ok (.getfield 10, 3) := by decide +kernel
theorem dX7_load_49 : decode cX7_load 49 = .ok (.getfield 100, 3) := by decide +kernel
theorem dX7_load_52 : decode cX7_load 52 = .ok (.iconst 0, 1) := by decide +kernel
theorem dX7_load_53 : decode cX7_load 53 = .ok (.aload_n 3, 1) := by decide +kernel
theorem dX7_load_54 : decode cX7_load 54 = .ok (.iload 4, 2) := by decide +kernel
theorem dX7_load_56 : decode cX7_load 56 = .ok (.invokevirtual 218, 3) := by decide +kernel
theorem dX7_load_59 : decode cX7_load 59 = .ok (.invokevirtual 55, 3) := by decide +kernel
theorem dX7_load_62 : decode cX7_load 62 = .ok (.ifCond .eq 28, 3) := by decide +kernel
theorem dX7_load_65 : decode cX7_load 65 = .ok (.aload_n 0, 1) := by decide +kernel
theorem dX7_load_66 : decode cX7_load 66 = .ok (.getfield 10, 3) := by decide +kernel
theorem dX7_load_69 : decode cX7_load 69 = .ok (.getfield 100, 3) := by decide +kernel
theorem dX7_load_72 : decode cX7_load 72 = .ok (.iload 4, 2) := by decide +kernel
theorem dX7_load_74 : decode cX7_load 74 = .ok (.iconst 0, 1) := by decide +kernel
theorem dX7_load_75 : decode cX7_load 75 = .ok (.aload_n 3, 1) := by decide +kernel
theorem dX7_load_76 : decode cX7_load 76 = .ok (.iload 4, 2) := by decide +kernel
theorem dX7_load_78 : decode cX7_load 78 = .ok (.invokevirtual 218, 3) := by decide +kernel
theorem dX7_load_81 : decode cX7_load 81 = .ok (.invokevirtual 162, 3) := by decide +kernel
theorem dX7_load_84 : decode cX7_load 84 = .ok (.iinc 4 1, 3) := by decide +kernel
theorem dX7_load_87 : decode cX7_load 87 = .ok (.goto (-62), 3) := by decide +kernel
theorem dX7_load_90 : decode cX7_load 90 = .ok (.iload 4, 2) := by decide +kernel
theorem dX7_load_92 : decode cX7_load 92 = .ok (.ireturn, 1) := by decide +kernel
theorem dX7_judge_0 : decode cX7_judge 0 = .ok (.aload_n 0, 1) := by decide +kernel
theorem dX7_judge_1 : decode cX7_judge 1 = .ok (.iload_n 1, 1) := by decide +kernel
theorem dX7_judge_2 : decode cX7_judge 2 = .ok (.invokevirtual 212, 3) := by decide +kernel
theorem dX7_judge_5 : decode cX7_judge 5 = .ok (.istore_n 2, 1) := by decide +kernel
theorem dX7_judge_6 : decode cX7_judge 6 = .ok (.iload_n 2, 1) := by decide +kernel
theorem dX7_judge_7 : decode cX7_judge 7 = .ok (.ifCond .lt 9, 3) := by decide +kernel
theorem dX7_judge_10 : decode cX7_judge 10 = .ok (.aload_n 0, 1) := by decide +kernel
theorem dX7_judge_11 : decode cX7_judge 11 = .ok (.iload_n 2, 1) := by decide +kernel
theorem dX7_judge_12 : decode cX7_judge 12 = .ok (.invokevirtual 61, 3) := by decide +kernel
theorem dX7_judge_15 : decode cX7_judge 15 = .ok (.ireturn, 1) := by decide +kernel
theorem dX7_judge_16 : decode cX7_judge 16 = .ok (.aload_n 0, 1) := by decide +kernel
theorem dX7_judge_17 : decode cX7_judge 17 = .ok (.iload_n 1, 1) := by decide +kernel
theorem dX7_judge_18 : decode cX7_judge 18 = .ok (.invokevirtual 204, 3) := by decide +kernel
theorem dX7_judge_21 : decode cX7_judge 21 = .ok (.astore_n 3, 1) := by decide +kernel
theorem dX7_judge_22 : decode cX7_judge 22 = .ok (.iconst 0, 1) := by decide +kernel
theorem dX7_judge_23 : decode cX7_judge 23 = .ok (.istore 4, 2) := by decide +kernel
theorem dX7_judge_25 : decode cX7_judge 25 = .ok (.iconst 0, 1) := by decide +kernel
theorem dX7_judge_26 : decode cX7_judge 26 = .ok (.istore 5, 2) := by decide +kernel
theorem dX7_judge_28 : decode cX7_judge 28 = .ok (.aload_n 3, 1) := by decide +kernel
theorem dX7_judge_29 : decode cX7_judge 29 = .ok (.ifnull 99, 3) := by decide +kernel
theorem dX7_judge_32 : decode cX7_judge 32 = .ok (.iload 5, 2) := by decide +kernel
theorem dX7_judge_34 : decode cX7_judge 34 = .ok (.aload_n 3, 1) := by decide +kernel
theorem dX7_judge_35 : decode cX7_judge 35 = .ok (.getfield 215, 3) := by decide +kernel
theorem dX7_judge_38 : decode cX7_judge 38 = .ok (.if_icmp .ge 90, 3) := by decide +kernel
theorem dX7_judge_41 : decode cX7_judge 41 = .ok (.aload_n 3, 1) := by decide +kernel
theorem dX7_judge_42 : decode cX7_judge 42 = .ok (.iload 5, 2) := by decide +kernel
theorem dX7_judge_44 : decode cX7_judge 44 = .ok (.invokevirtual 218, 3) := by decide +kernel
theorem dX7_judge_47 : decode cX7_judge 47 = .ok (.istore 6, 2) := by decide +kernel
theorem dX7_judge_49 : decode cX7_judge 49 = .ok (.aload_n 0, 1) := by decide +kernel
theorem dX7_judge_50 : decode cX7_judge 50 = .ok (.getfield 10, 3) := by decide +kernel
theorem dX7_judge_53 : decode cX7_judge 53 = .ok (.iload 6, 2) := by decide +kernel
theorem dX7_judge_55 : decode cX7_judge 55 = .ok (.invokevirtual 73, 3) := by decide +kernel
theorem dX7_judge_58 : decode cX7_judge 58 = .ok (.ifCond .eq 13, 3) := by decide +kernel
theorem dX7_judge_61 : decode cX7_judge 61 = .ok (.iload 4, 2) := by decide +kernel
theorem dX7_judge_63 : decode cX7_judge 63 = .ok (.iconst 1, 1) := by decide +kernel
theorem dX7_judge_64 : decode cX7_judge 64 = .ok (.iload 6, 2) := by decide +kernel
theorem dX7_judge_66 : decode cX7_judge 66 = .ok (.ishl, 1) := by decide +kernel
theorem dX7_judge_67 : decode cX7_judge 67 = .ok (.iand, 1) := by decide +kernel
theorem dX7_judge_68 : decode cX7_judge 68 = .ok (.ifCond .eq 8, 3) := by decide +kernel
theorem dX7_judge_71 : decode cX7_judge 71 = .ok (.iconst 1, 1) := by decide +kernel
theorem dX7_judge_72 : decode cX7_judge 72 = .ok (.iload 5, 2) := by decide +kernel
theorem dX7_judge_74 : decode cX7_judge 74 = .ok (.iadd, 1) := by decide +kernel
theorem dX7_judge_75 : decode cX7_judge 75 = .ok (.ireturn, 1) := by decide +kernel
theorem dX7_judge_76 : decode cX7_judge 76 = .ok (.iload 5, 2) := by decide +kernel
theorem dX7_judge_78 : decode cX7_judge 78 = .ok (.ifCond .le 35, 3) := by decide +kernel
theorem dX7_judge_81 : decode cX7_judge 81 = .ok (.aload_n 0, 1) := by decide +kernel
theorem dX7_judge_82 : decode cX7_judge 82 = .ok (.getfield 10, 3) := by decide +kernel
theorem dX7_judge_85 : decode cX7_judge 85 = .ok (.iload 6, 2) := by decide +kernel
theorem dX7_judge_87 : decode cX7_judge 87 = .ok (.invokevirtual 81, 3) := by decide +kernel
theorem dX7_judge_90 : decode cX7_judge 90 = .ok (.aload_n 0, 1) := by decide +kernel
theorem dX7_judge_91 : decode cX7_judge 91 = .ok (.getfield 10, 3) := by decide +kernel
theorem dX7_judge_94 : decode cX7_judge 94 = .ok (.aload_n 3, 1) := by decide +kernel
theorem dX7_judge_95 : decode cX7_judge 95 = .ok (.iload 5, 2) := by decide +kernel
theorem dX7_judge_97 : decode cX7_judge 97 = .ok (.iconst 1, 1) := by decide +kernel
theorem dX7_judge_98 : decode cX7_judge 98 = .ok (.isub, 1) := by decide +kernel
theorem dX7_judge_99 : decode cX7_judge 99 = .ok (.invokevirtual 218, 3) := by decide +kernel
theorem dX7_judge_102 : decode cX7_judge 102 = .ok (.invokevirtual 81, 3) := by decide +kernel
theorem dX7_judge_105 : decode cX7_judge 105 = .ok (.if_icmp .le 8, 3) := by decide +kernel
theorem dX7_judge_108 : decode cX7_judge 108 = .ok (.iconst 1, 1) := by decide +kernel
theorem dX7_judge_109 : decode cX7_judge 109 = .ok (.iload 5, 2) := by decide +kernel
theorem dX7_judge_111 : decode cX7_judge 111 = .ok (.iadd, 1) := by decide +kernel
theorem dX7_judge_112 : decode cX7_judge 112 = .ok (.ireturn, 1) := by decide +kernel
theorem dX7_judge_113 : decode cX7_judge 113 = .ok (.iload 4, 2) := by decide +kernel
theorem dX7_judge_115 : decode cX7_judge 115 = .ok (.iconst 1, 1) := by decide +kernel
theorem dX7_judge_116 : decode cX7_judge 116 = .ok (.iload 6, 2) := by decide +kernel
theorem dX7_judge_118 : decode cX7_judge 118 = .ok (.ishl, 1) := by decide +kernel
theorem dX7_judge_119 : decode cX7_judge 119 = .ok (.ior, 1) := by decide +kernel
theorem dX7_judge_120 : decode cX7_judge 120 = .ok (.istore 4, 2) := by decide +kernel
theorem dX7_judge_122 : decode cX7_judge 122 = .ok (.iinc 5 1, 3) := by decide +kernel
theorem dX7_judge_125 : decode cX7_judge 125 = .ok (.goto (-97), 3) := by decide +kernel
theorem dX7_judge_128 : decode cX7_judge 128 = .ok (.iconst 0, 1) := by decide +kernel
theorem dX7_judge_129 : decode cX7_judge 129 = .ok (.ireturn, 1) := by decide +kernel
theorem dX7_image_0 : decode cX7_image 0 = .ok (.aload_n 0, 1) := by decide +kernel
theorem dX7_image_1 : decode cX7_image 1 = .ok (.getfield 16, 3) := by decide +kernel
theorem dX7_image_4 : decode cX7_image 4 = .ok (.aload_n 0, 1) := by decide +kernel
theorem dX7_image_5 : decode cX7_image 5 = .ok (.getfield 10, 3) := by decide +kernel
theorem dX7_image_8 : decode cX7_image 8 = .ok (.invokevirtual 147, 3) := by decide +kernel
theorem dX7_image_11 : decode cX7_image 11 = .ok (.aload_n 0, 1) := by decide +kernel
theorem dX7_image_12 : decode cX7_image 12 = .ok (.iconst 1, 1) := by decide +kernel
theorem dX7_image_13 : decode cX7_image 13 = .ok (.putfield 47, 3) := by decide +kernel
theorem dX7_image_16 : decode cX7_image 16 = .ok (.iconst 1, 1) := by decide +kernel
theorem dX7_image_17 : decode cX7_image 17 = .ok (.ireturn, 1) := by decide +kernel
theorem dX7_undo_0 : decode cX7_undo 0 = .ok (.aload_n 0, 1) := by decide +kernel
theorem dX7_undo_1 : decode cX7_undo 1 = .ok (.getfield 47, 3) := by decide +kernel
theorem dX7_undo_4 : decode cX7_undo 4 = .ok (.ifCond .ne 9, 3) := by decide +kernel
theorem dX7_undo_7 : decode cX7_undo 7 = .ok (.aload_n 0, 1) := by decide +kernel
theorem dX7_undo_8 : decode cX7_undo 8 = .ok (.iconst 3, 1) := by decide +kernel
theorem dX7_undo_9 : decode cX7_undo 9 = .ok (.invokevirtual 61, 3) := by decide +kernel
theorem dX7_undo_12 : decode cX7_undo 12 = .ok (.ireturn, 1) := by decide +kernel
theorem dX7_undo_13 : decode cX7_undo 13 = .ok (.aload_n 0, 1) := by decide +kernel
theorem dX7_undo_14 : decode cX7_undo 14 = .ok (.getfield 10, 3) := by decide +kernel
theorem dX7_undo_17 : decode cX7_undo 17 = .ok (.aload_n 0, 1) := by decide +kernel
theorem dX7_undo_18 : decode cX7_undo 18 = .ok (.getfield 16, 3) := by decide +kernel
theorem dX7_undo_21 : decode cX7_undo 21 = .ok (.invokevirtual 147, 3) := by decide +kernel
theorem dX7_undo_24 : decode cX7_undo 24 = .ok (.aload_n 0, 1) := by decide +kernel
theorem dX7_undo_25 : decode cX7_undo 25 = .ok (.getfield 10, 3) := by decide +kernel
theorem dX7_undo_28 : decode cX7_undo 28 = .ok (.getfield 122, 3) := by decide +kernel
theorem dX7_undo_31 : decode cX7_undo 31 = .ok (.ireturn, 1) := by decide +kernel
theorem dX7_tear_0 : decode cX7_tear 0 = .ok (.aload_n 0, 1) := by decide +kernel
theorem dX7_tear_1 : decode cX7_tear 1 = .ok (.getfield 47, 3) := by decide +kernel
theorem dX7_tear_4 : decode cX7_tear 4 = .ok (.ifCond .eq 7, 3) := by decide +kernel
theorem dX7_tear_7 : decode cX7_tear 7 = .ok (.iconst 1, 1) := by decide +kernel
theorem dX7_tear_8 : decode cX7_tear 8 = .ok (.goto 4, 3) := by decide +kernel
theorem dX7_tear_11 : decode cX7_tear 11 = .ok (.iconst 0, 1) := by decide +kernel
theorem dX7_tear_12 : decode cX7_tear 12 = .ok (.istore_n 1, 1) := by decide +kernel
theorem dX7_tear_13 : decode cX7_tear 13 = .ok (.aload_n 0, 1) := by decide +kernel
theorem dX7_tear_14 : decode cX7_tear 14 = .ok (.iconst 0, 1) := by decide +kernel
theorem dX7_tear_15 : decode cX7_tear 15 = .ok (.putfield 47, 3) := by decide +kernel
theorem dX7_tear_18 : decode cX7_tear 18 = .ok (.iload_n 1, 1) := by decide +kernel
theorem dX7_tear_19 : decode cX7_tear 19 = .ok (.ireturn, 1) := by decide +kernel
theorem dX7_count_0 : decode cX7_count 0 = .ok (.iload_n 1, 1) := by decide +kernel
theorem dX7_count_1 : decode cX7_count 1 = .ok (.tableswitch 117 0 7 #[47, 55, 66, 77, 85, 93, 101, 109], 47) := by decide +kernel
theorem dX7_count_48 : decode cX7_count 48 = .ok (.aload_n 0, 1) := by decide +kernel
theorem dX7_count_49 : decode cX7_count 49 = .ok (.getfield 10, 3) := by decide +kernel
theorem dX7_count_52 : decode cX7_count 52 = .ok (.getfield 122, 3) := by decide +kernel
theorem dX7_count_55 : decode cX7_count 55 = .ok (.ireturn, 1) := by decide +kernel
theorem dX7_count_56 : decode cX7_count 56 = .ok (.aload_n 0, 1) := by decide +kernel
theorem dX7_count_57 : decode cX7_count 57 = .ok (.getfield 10, 3) := by decide +kernel
theorem dX7_count_60 : decode cX7_count 60 = .ok (.invokevirtual 130, 3) := by decide +kernel
theorem dX7_count_63 : decode cX7_count 63 = .ok (.invokestatic 133, 3) := by decide +kernel
theorem dX7_count_66 : decode cX7_count 66 = .ok (.ireturn, 1) := by decide +kernel
theorem dX7_count_67 : decode cX7_count 67 = .ok (.aload_n 0, 1) := by decide +kernel
theorem dX7_count_68 : decode cX7_count 68 = .ok (.getfield 10, 3) := by decide +kernel
theorem dX7_count_71 : decode cX7_count 71 = .ok (.invokevirtual 141, 3) := by decide +kernel
theorem dX7_count_74 : decode cX7_count 74 = .ok (.invokestatic 133, 3) := by decide +kernel
theorem dX7_count_77 : decode cX7_count 77 = .ok (.ireturn, 1) := by decide +kernel
theorem dX7_count_78 : decode cX7_count 78 = .ok (.aload_n 0, 1) := by decide +kernel
theorem dX7_count_79 : decode cX7_count 79 = .ok (.getfield 10, 3) := by decide +kernel
theorem dX7_count_82 : decode cX7_count 82 = .ok (.getfield 144, 3) := by decide +kernel
theorem dX7_count_85 : decode cX7_count 85 = .ok (.ireturn, 1) := by decide +kernel
theorem dX7_count_86 : decode cX7_count 86 = .ok (.aload_n 0, 1) := by decide +kernel
theorem dX7_count_87 : decode cX7_count 87 = .ok (.getfield 10, 3) := by decide +kernel
theorem dX7_count_90 : decode cX7_count 90 = .ok (.invokevirtual 138, 3) := by decide +kernel
theorem dX7_count_93 : decode cX7_count 93 = .ok (.ireturn, 1) := by decide +kernel
theorem dX7_count_94 : decode cX7_count 94 = .ok (.aload_n 0, 1) := by decide +kernel
theorem dX7_count_95 : decode cX7_count 95 = .ok (.getfield 39, 3) := by decide +kernel
theorem dX7_count_98 : decode cX7_count 98 = .ok (.getfield 230, 3) := by decide +kernel
theorem dX7_count_101 : decode cX7_count 101 = .ok (.ireturn, 1) := by decide +kernel
theorem dX7_count_102 : decode cX7_count 102 = .ok (.aload_n 0, 1) := by decide +kernel
theorem dX7_count_103 : decode cX7_count 103 = .ok (.getfield 10, 3) := by decide +kernel
theorem dX7_count_106 : decode cX7_count 106 = .ok (.getfield 227, 3) := by decide +kernel
theorem dX7_count_109 : decode cX7_count 109 = .ok (.ireturn, 1) := by decide +kernel
theorem dX7_count_110 : decode cX7_count 110 = .ok (.aload_n 0, 1) := by decide +kernel
theorem dX7_count_111 : decode cX7_count 111 = .ok (.getfield 10, 3) := by decide +kernel
theorem dX7_count_114 : decode cX7_count 114 = .ok (.invokevirtual 274, 3) := by decide +kernel
theorem dX7_count_117 : decode cX7_count 117 = .ok (.ireturn, 1) := by decide +kernel
theorem dX7_count_118 : decode cX7_count 118 = .ok (.aload_n 0, 1) := by decide +kernel
theorem dX7_count_119 : decode cX7_count 119 = .ok (.iconst 0, 1) := by decide +kernel
theorem dX7_count_120 : decode cX7_count 120 = .ok (.invokevirtual 61, 3) := by decide +kernel
theorem dX7_count_123 : decode cX7_count 123 = .ok (.ireturn, 1) := by decide +kernel
theorem dX7_status_0 : decode cX7_status 0 = .ok (.iload_n 1, 1) := by decide +kernel
theorem dX7_status_1 : decode cX7_status 1 = .ok (.iconst (-1), 1) := by decide +kernel
theorem dX7_status_2 : decode cX7_status 2 = .ok (.if_icmp .ne 33, 3) := by decide +kernel
theorem dX7_status_5 : decode cX7_status 5 = .ok (.iconst 0, 1) := by decide +kernel
theorem dX7_status_6 : decode cX7_status 6 = .ok (.istore_n 2, 1) := by decide +kernel
theorem dX7_status_7 : decode cX7_status 7 = .ok (.iconst 0, 1) := by decide +kernel
theorem dX7_status_8 : decode cX7_status 8 = .ok (.istore_n 3, 1) := by decide +kernel
theorem dX7_status_9 : decode cX7_status 9 = .ok (.iload_n 3, 1) := by decide +kernel
theorem dX7_status_10 : decode cX7_status 10 = .ok (.aload_n 0, 1) := by decide +kernel
theorem dX7_status_11 : decode cX7_status 11 = .ok (.getfield 43, 3) := by decide +kernel
theorem dX7_status_14 : decode cX7_status 14 = .ok (.arraylength, 1) := by decide +kernel
theorem dX7_status_15 : decode cX7_status 15 = .ok (.if_icmp .ge 18, 3) := by decide +kernel
theorem dX7_status_18 : decode cX7_status 18 = .ok (.iload_n 2, 1) := by decide +kernel
theorem dX7_status_19 : decode cX7_status 19 = .ok (.aload_n 0, 1) := by decide +kernel
theorem dX7_status_20 : decode cX7_status 20 = .ok (.getfield 43, 3) := by decide +kernel
theorem dX7_status_23 : decode cX7_status 23 = .ok (.iload_n 3, 1) := by decide +kernel
theorem dX7_status_24 : decode cX7_status 24 = .ok (.iaload, 1) := by decide +kernel
theorem dX7_status_25 : decode cX7_status 25 = .ok (.iadd, 1) := by decide +kernel
theorem dX7_status_26 : decode cX7_status 26 = .ok (.istore_n 2, 1) := by decide +kernel
theorem dX7_status_27 : decode cX7_status 27 = .ok (.iinc 3 1, 3) := by decide +kernel
theorem dX7_status_30 : decode cX7_status 30 = .ok (.goto (-21), 3) := by decide +kernel
theorem dX7_status_33 : decode cX7_status 33 = .ok (.iload_n 2, 1) := by decide +kernel
theorem dX7_status_34 : decode cX7_status 34 = .ok (.ireturn, 1) := by decide +kernel
theorem dX7_status_35 : decode cX7_status 35 = .ok (.iload_n 1, 1) := by decide +kernel
theorem dX7_status_36 : decode cX7_status 36 = .ok (.ifCond .lt 12, 3) := by decide +kernel
theorem dX7_status_39 : decode cX7_status 39 = .ok (.iload_n 1, 1) := by decide +kernel
theorem dX7_status_40 : decode cX7_status 40 = .ok (.aload_n 0, 1) := by decide +kernel
theorem dX7_status_41 : decode cX7_status 41 = .ok (.getfield 43, 3) := by decide +kernel
theorem dX7_status_44 : decode cX7_status 44 = .ok (.arraylength, 1) := by decide +kernel
theorem dX7_status_45 : decode cX7_status 45 = .ok (.if_icmp .lt 9, 3) := by decide +kernel
theorem dX7_status_48 : decode cX7_status 48 = .ok (.aload_n 0, 1) := by decide +kernel
theorem dX7_status_49 : decode cX7_status 49 = .ok (.iconst 0, 1) := by decide +kernel
theorem dX7_status_50 : decode cX7_status 50 = .ok (.invokevirtual 61, 3) := by decide +kernel
theorem dX7_status_53 : decode cX7_status 53 = .ok (.ireturn, 1) := by decide +kernel
theorem dX7_status_54 : decode cX7_status 54 = .ok (.aload_n 0, 1) := by decide +kernel
theorem dX7_status_55 : decode cX7_status 55 = .ok (.getfield 43, 3) := by decide +kernel
theorem dX7_status_58 : decode cX7_status 58 = .ok (.iload_n 1, 1) := by decide +kernel
theorem dX7_status_59 : decode cX7_status 59 = .ok (.iaload, 1) := by decide +kernel
theorem dX7_status_60 : decode cX7_status 60 = .ok (.ireturn, 1) := by decide +kernel
theorem dX7_finding_0 : decode cX7_finding 0 = .ok (.iload_n 1, 1) := by decide +kernel
theorem dX7_finding_1 : decode cX7_finding 1 = .ok (.ifCond .lt 22, 3) := by decide +kernel
theorem dX7_finding_4 : decode cX7_finding 4 = .ok (.iload_n 1, 1) := by decide +kernel
theorem dX7_finding_5 : decode cX7_finding 5 = .ok (.aload_n 0, 1) := by decide +kernel
theorem dX7_finding_6 : decode cX7_finding 6 = .ok (.getfield 43, 3) := by decide +kernel
theorem dX7_finding_9 : decode cX7_finding 9 = .ok (.arraylength, 1) := by decide +kernel
theorem dX7_finding_10 : decode cX7_finding 10 = .ok (.if_icmp .ge 13, 3) := by decide +kernel
theorem dX7_finding_13 : decode cX7_finding 13 = .ok (.aload_n 0, 1) := by decide +kernel
theorem dX7_finding_14 : decode cX7_finding 14 = .ok (.getfield 43, 3) := by decide +kernel
theorem dX7_finding_17 : decode cX7_finding 17 = .ok (.iload_n 1, 1) := by decide +kernel
theorem dX7_finding_18 : decode cX7_finding 18 = .ok (.dup2, 1) := by decide +kernel
theorem dX7_finding_19 : decode cX7_finding 19 = .ok (.iaload, 1) := by decide +kernel
theorem dX7_finding_20 : decode cX7_finding 20 = .ok (.iconst 1, 1) := by decide +kernel
theorem dX7_finding_21 : decode cX7_finding 21 = .ok (.iadd, 1) := by decide +kernel
theorem dX7_finding_22 : decode cX7_finding 22 = .ok (.iastore, 1) := by decide +kernel
theorem dX7_finding_23 : decode cX7_finding 23 = .ok (.ldc_w 277, 3) := by decide +kernel
theorem dX7_finding_26 : decode cX7_finding 26 = .ok (.iload_n 1, 1) := by decide +kernel
theorem dX7_finding_27 : decode cX7_finding 27 = .ok (.isub, 1) := by decide +kernel
theorem dX7_finding_28 : decode cX7_finding 28 = .ok (.ireturn, 1) := by decide +kernel
theorem dX7_replace_0 : decode cX7_replace 0 = .ok (.aload_n 1, 1) := by decide +kernel
theorem dX7_replace_1 : decode cX7_replace 1 = .ok (.ifnull 21, 3) := by decide +kernel
theorem dX7_replace_4 : decode cX7_replace 4 = .ok (.aload_n 1, 1) := by decide +kernel
theorem dX7_replace_5 : decode cX7_replace 5 = .ok (.iload_n 2, 1) := by decide +kernel
theorem dX7_replace_6 : decode cX7_replace 6 = .ok (.invokevirtual 103, 3) := by decide +kernel
theorem dX7_replace_9 : decode cX7_replace 9 = .ok (.ifCond .eq 13, 3) := by decide +kernel
theorem dX7_replace_12 : decode cX7_replace 12 = .ok (.aload_n 1, 1) := by decide +kernel
theorem dX7_replace_13 : decode cX7_replace 13 = .ok (.iload_n 3, 1) := by decide +kernel
theorem dX7_replace_14 : decode cX7_replace 14 = .ok (.iload 4, 2) := by decide +kernel
theorem dX7_replace_16 : decode cX7_replace 16 = .ok (.invokevirtual 55, 3) := by decide +kernel
theorem dX7_replace_19 : decode cX7_replace 19 = .ok (.ifCond .ne 9, 3) := by decide +kernel
theorem dX7_replace_22 : decode cX7_replace 22 = .ok (.aload_n 0, 1) := by decide +kernel
theorem dX7_replace_23 : decode cX7_replace 23 = .ok (.iconst 0, 1) := by decide +kernel
theorem dX7_replace_24 : decode cX7_replace 24 = .ok (.invokevirtual 61, 3) := by decide +kernel
theorem dX7_replace_27 : decode cX7_replace 27 = .ok (.ireturn, 1) := by decide +kernel
theorem dX7_replace_28 : decode cX7_replace 28 = .ok (.aload_n 1, 1) := by decide +kernel
theorem dX7_replace_29 : decode cX7_replace 29 = .ok (.iload_n 2, 1) := by decide +kernel
theorem dX7_replace_30 : decode cX7_replace 30 = .ok (.iload_n 3, 1) := by decide +kernel
theorem dX7_replace_31 : decode cX7_replace 31 = .ok (.invokevirtual 84, 3) := by decide +kernel
theorem dX7_replace_34 : decode cX7_replace 34 = .ok (.istore 5, 2) := by decide +kernel
theorem dX7_replace_36 : decode cX7_replace 36 = .ok (.aload_n 1, 1) := by decide +kernel
theorem dX7_replace_37 : decode cX7_replace 37 = .ok (.iload_n 2, 1) := by decide +kernel
theorem dX7_replace_38 : decode cX7_replace 38 = .ok (.iload_n 3, 1) := by decide +kernel
theorem dX7_replace_39 : decode cX7_replace 39 = .ok (.iload 4, 2) := by decide +kernel
theorem dX7_replace_41 : decode cX7_replace 41 = .ok (.invokevirtual 162, 3) := by decide +kernel
theorem dX7_replace_44 : decode cX7_replace 44 = .ok (.iload 5, 2) := by decide +kernel
theorem dX7_replace_46 : decode cX7_replace 46 = .ok (.ireturn, 1) := by decide +kernel
theorem dX7_sheetAt_0 : decode cX7_sheetAt 0 = .ok (.iload_n 1, 1) := by decide +kernel
theorem dX7_sheetAt_1 : decode cX7_sheetAt 1 = .ok (.ifCond .lt 21, 3) := by decide +kernel
theorem dX7_sheetAt_4 : decode cX7_sheetAt 4 = .ok (.iload_n 1, 1) := by decide +kernel
theorem dX7_sheetAt_5 : decode cX7_sheetAt 5 = .ok (.aload_n 0, 1) := by decide +kernel
theorem dX7_sheetAt_6 : decode cX7_sheetAt 6 = .ok (.getfield 31, 3) := by decide +kernel
theorem dX7_sheetAt_9 : decode cX7_sheetAt 9 = .ok (.arraylength, 1) := by decide +kernel
theorem dX7_sheetAt_10 : decode cX7_sheetAt 10 = .ok (.if_icmp .ge 12, 3) := by decide +kernel
theorem dX7_sheetAt_13 : decode cX7_sheetAt 13 = .ok (.aload_n 0, 1) := by decide +kernel
theorem dX7_sheetAt_14 : decode cX7_sheetAt 14 = .ok (.getfield 31, 3) := by decide +kernel
theorem dX7_sheetAt_17 : decode cX7_sheetAt 17 = .ok (.iload_n 1, 1) := by decide +kernel
theorem dX7_sheetAt_18 : decode cX7_sheetAt 18 = .ok (.aaload, 1) := by decide +kernel
theorem dX7_sheetAt_19 : decode cX7_sheetAt 19 = .ok (.goto 4, 3) := by decide +kernel
theorem dX7_sheetAt_22 : decode cX7_sheetAt 22 = .ok (.aconst_null, 1) := by decide +kernel
theorem dX7_sheetAt_23 : decode cX7_sheetAt 23 = .ok (.areturn, 1) := by decide +kernel
theorem dX7_wrongSheet_0 : decode cX7_wrongSheet 0 = .ok (.aload_n 0, 1) := by decide +kernel
theorem dX7_wrongSheet_1 : decode cX7_wrongSheet 1 = .ok (.iload_n 1, 1) := by decide +kernel
theorem dX7_wrongSheet_2 : decode cX7_wrongSheet 2 = .ok (.invokevirtual 204, 3) := by decide +kernel
theorem dX7_wrongSheet_5 : decode cX7_wrongSheet 5 = .ok (.astore_n 2, 1) := by decide +kernel
theorem dX7_wrongSheet_6 : decode cX7_wrongSheet 6 = .ok (.aload_n 2, 1) := by decide +kernel
theorem dX7_wrongSheet_7 : decode cX7_wrongSheet 7 = .ok (.ifnonnull 5, 3) := by decide +kernel
theorem dX7_wrongSheet_10 : decode cX7_wrongSheet 10 = .ok (.iconst 0, 1) := by decide +kernel
theorem dX7_wrongSheet_11 : decode cX7_wrongSheet 11 = .ok (.ireturn, 1) := by decide +kernel
theorem dX7_wrongSheet_12 : decode cX7_wrongSheet 12 = .ok (.aload_n 2, 1) := by decide +kernel
theorem dX7_wrongSheet_13 : decode cX7_wrongSheet 13 = .ok (.invokevirtual 260, 3) := by decide +kernel
theorem dX7_wrongSheet_16 : decode cX7_wrongSheet 16 = .ok (.ifCond .eq 7, 3) := by decide +kernel
theorem dX7_wrongSheet_19 : decode cX7_wrongSheet 19 = .ok (.iconst 5, 1) := by decide +kernel
theorem dX7_wrongSheet_20 : decode cX7_wrongSheet 20 = .ok (.goto 4, 3) := by decide +kernel
theorem dX7_wrongSheet_23 : decode cX7_wrongSheet 23 = .ok (.iconst (-1), 1) := by decide +kernel
theorem dX7_wrongSheet_24 : decode cX7_wrongSheet 24 = .ok (.ireturn, 1) := by decide +kernel
theorem dX7_within_0 : decode cX7_within 0 = .ok (.iload_n 0, 1) := by decide +kernel
theorem dX7_within_1 : decode cX7_within 1 = .ok (.iload_n 1, 1) := by decide +kernel
theorem dX7_within_2 : decode cX7_within 2 = .ok (.if_icmp .lt 12, 3) := by decide +kernel
theorem dX7_within_5 : decode cX7_within 5 = .ok (.iload_n 0, 1) := by decide +kernel
theorem dX7_within_6 : decode cX7_within 6 = .ok (.iload_n 2, 1) := by decide +kernel
theorem dX7_within_7 : decode cX7_within 7 = .ok (.if_icmp .gt 7, 3) := by decide +kernel
theorem dX7_within_10 : decode cX7_within 10 = .ok (.iconst 1, 1) := by decide +kernel
theorem dX7_within_11 : decode cX7_within 11 = .ok (.goto 4, 3) := by decide +kernel
theorem dX7_within_14 : decode cX7_within 14 = .ok (.iconst 0, 1) := by decide +kernel
theorem dX7_within_15 : decode cX7_within 15 = .ok (.ireturn, 1) := by decide +kernel
theorem dX7_copyRow_0 : decode cX7_copyRow 0 = .ok (.aload_n 0, 1) := by decide +kernel
theorem dX7_copyRow_1 : decode cX7_copyRow 1 = .ok (.ifnull 7, 3) := by decide +kernel
theorem dX7_copyRow_4 : decode cX7_copyRow 4 = .ok (.aload_n 1, 1) := by decide +kernel
theorem dX7_copyRow_5 : decode cX7_copyRow 5 = .ok (.ifnonnull 4, 3) := by decide +kernel
theorem dX7_copyRow_8 : decode cX7_copyRow 8 = .ok (.return_, 1) := by decide +kernel
theorem dX7_copyRow_9 : decode cX7_copyRow 9 = .ok (.iconst 0, 1) := by decide +kernel
theorem dX7_copyRow_10 : decode cX7_copyRow 10 = .ok (.istore_n 2, 1) := by decide +kernel
theorem dX7_copyRow_11 : decode cX7_copyRow 11 = .ok (.iload_n 2, 1) := by decide +kernel
theorem dX7_copyRow_12 : decode cX7_copyRow 12 = .ok (.aload_n 0, 1) := by decide +kernel
theorem dX7_copyRow_13 : decode cX7_copyRow 13 = .ok (.arraylength, 1) := by decide +kernel
theorem dX7_copyRow_14 : decode cX7_copyRow 14 = .ok (.if_icmp .ge 21, 3) := by decide +kernel
theorem dX7_copyRow_17 : decode cX7_copyRow 17 = .ok (.iload_n 2, 1) := by decide +kernel
theorem dX7_copyRow_18 : decode cX7_copyRow 18 = .ok (.aload_n 1, 1) := by decide +kernel
theorem dX7_copyRow_19 : decode cX7_copyRow 19 = .ok (.arraylength, 1) := by decide +kernel
theorem dX7_copyRow_20 : decode cX7_copyRow 20 = .ok (.if_icmp .ge 15, 3) := by decide +kernel
theorem dX7_copyRow_23 : decode cX7_copyRow 23 = .ok (.aload_n 1, 1) := by decide +kernel
theorem dX7_copyRow_24 : decode cX7_copyRow 24 = .ok (.iload_n 2, 1) := by decide +kernel
theorem dX7_copyRow_25 : decode cX7_copyRow 25 = .ok (.aload_n 0, 1) := by decide +kernel
theorem dX7_copyRow_26 : decode cX7_copyRow 26 = .ok (.iload_n 2, 1) := by decide +kernel
theorem dX7_copyRow_27 : decode cX7_copyRow 27 = .ok (.iaload, 1) := by decide +kernel
theorem dX7_copyRow_28 : decode cX7_copyRow 28 = .ok (.iastore, 1) := by decide +kernel
theorem dX7_copyRow_29 : decode cX7_copyRow 29 = .ok (.iinc 2 1, 3) := by decide +kernel
theorem dX7_copyRow_32 : decode cX7_copyRow 32 = .ok (.goto (-21), 3) := by decide +kernel
theorem dX7_copyRow_35 : decode cX7_copyRow 35 = .ok (.return_, 1) := by decide +kernel
theorem dJ6_bitCount_0f7a4_0 : decode cJ6_bitCount_0f7a4 0 = .ok (.iload_n 0, 1) := by decide +kernel
theorem dJ6_bitCount_0f7a4_1 : decode cJ6_bitCount_0f7a4 1 = .ok (.iload_n 0, 1) := by decide +kernel
theorem dJ6_bitCount_0f7a4_2 : decode cJ6_bitCount_0f7a4 2 = .ok (.iconst 1, 1) := by decide +kernel
theorem dJ6_bitCount_0f7a4_3 : decode cJ6_bitCount_0f7a4 3 = .ok (.iushr, 1) := by decide +kernel
theorem dJ6_bitCount_0f7a4_4 : decode cJ6_bitCount_0f7a4 4 = .ok (.ldc_w 265, 3) := by decide +kernel
theorem dJ6_bitCount_0f7a4_7 : decode cJ6_bitCount_0f7a4 7 = .ok (.iand, 1) := by decide +kernel
theorem dJ6_bitCount_0f7a4_8 : decode cJ6_bitCount_0f7a4 8 = .ok (.isub, 1) := by decide +kernel
theorem dJ6_bitCount_0f7a4_9 : decode cJ6_bitCount_0f7a4 9 = .ok (.istore_n 0, 1) := by decide +kernel
theorem dJ6_bitCount_0f7a4_10 : decode cJ6_bitCount_0f7a4 10 = .ok (.iload_n 0, 1) := by decide +kernel
theorem dJ6_bitCount_0f7a4_11 : decode cJ6_bitCount_0f7a4 11 = .ok (.ldc_w 266, 3) := by decide +kernel
theorem dJ6_bitCount_0f7a4_14 : decode cJ6_bitCount_0f7a4 14 = .ok (.iand, 1) := by decide +kernel
theorem dJ6_bitCount_0f7a4_15 : decode cJ6_bitCount_0f7a4 15 = .ok (.iload_n 0, 1) := by decide +kernel
theorem dJ6_bitCount_0f7a4_16 : decode cJ6_bitCount_0f7a4 16 = .ok (.iconst 2, 1) := by decide +kernel
theorem dJ6_bitCount_0f7a4_17 : decode cJ6_bitCount_0f7a4 17 = .ok (.iushr, 1) := by decide +kernel
theorem dJ6_bitCount_0f7a4_18 : decode cJ6_bitCount_0f7a4 18 = .ok (.ldc_w 266, 3) := by decide +kernel
theorem dJ6_bitCount_0f7a4_21 : decode cJ6_bitCount_0f7a4 21 = .ok (.iand, 1) := by decide +kernel
theorem dJ6_bitCount_0f7a4_22 : decode cJ6_bitCount_0f7a4 22 = .ok (.iadd, 1) := by decide +kernel
theorem dJ6_bitCount_0f7a4_23 : decode cJ6_bitCount_0f7a4 23 = .ok (.istore_n 0, 1) := by decide +kernel
theorem dJ6_bitCount_0f7a4_24 : decode cJ6_bitCount_0f7a4 24 = .ok (.iload_n 0, 1) := by decide +kernel
theorem dJ6_bitCount_0f7a4_25 : decode cJ6_bitCount_0f7a4 25 = .ok (.iload_n 0, 1) := by decide +kernel
theorem dJ6_bitCount_0f7a4_26 : decode cJ6_bitCount_0f7a4 26 = .ok (.iconst 4, 1) := by decide +kernel
theorem dJ6_bitCount_0f7a4_27 : decode cJ6_bitCount_0f7a4 27 = .ok (.iushr, 1) := by decide +kernel
theorem dJ6_bitCount_0f7a4_28 : decode cJ6_bitCount_0f7a4 28 = .ok (.iadd, 1) := by decide +kernel
theorem dJ6_bitCount_0f7a4_29 : decode cJ6_bitCount_0f7a4 29 = .ok (.ldc_w 267, 3) := by decide +kernel
theorem dJ6_bitCount_0f7a4_32 : decode cJ6_bitCount_0f7a4 32 = .ok (.iand, 1) := by decide +kernel
theorem dJ6_bitCount_0f7a4_33 : decode cJ6_bitCount_0f7a4 33 = .ok (.istore_n 0, 1) := by decide +kernel
theorem dJ6_bitCount_0f7a4_34 : decode cJ6_bitCount_0f7a4 34 = .ok (.iload_n 0, 1) := by decide +kernel
theorem dJ6_bitCount_0f7a4_35 : decode cJ6_bitCount_0f7a4 35 = .ok (.iload_n 0, 1) := by decide +kernel
theorem dJ6_bitCount_0f7a4_36 : decode cJ6_bitCount_0f7a4 36 = .ok (.bipush 8, 2) := by decide +kernel
theorem dJ6_bitCount_0f7a4_38 : decode cJ6_bitCount_0f7a4 38 = .ok (.iushr, 1) := by decide +kernel
theorem dJ6_bitCount_0f7a4_39 : decode cJ6_bitCount_0f7a4 39 = .ok (.iadd, 1) := by decide +kernel
theorem dJ6_bitCount_0f7a4_40 : decode cJ6_bitCount_0f7a4 40 = .ok (.istore_n 0, 1) := by decide +kernel
theorem dJ6_bitCount_0f7a4_41 : decode cJ6_bitCount_0f7a4 41 = .ok (.iload_n 0, 1) := by decide +kernel
theorem dJ6_bitCount_0f7a4_42 : decode cJ6_bitCount_0f7a4 42 = .ok (.iload_n 0, 1) := by decide +kernel
theorem dJ6_bitCount_0f7a4_43 : decode cJ6_bitCount_0f7a4 43 = .ok (.bipush 16, 2) := by decide +kernel
theorem dJ6_bitCount_0f7a4_45 : decode cJ6_bitCount_0f7a4 45 = .ok (.iushr, 1) := by decide +kernel
theorem dJ6_bitCount_0f7a4_46 : decode cJ6_bitCount_0f7a4 46 = .ok (.iadd, 1) := by decide +kernel
theorem dJ6_bitCount_0f7a4_47 : decode cJ6_bitCount_0f7a4 47 = .ok (.istore_n 0, 1) := by decide +kernel
theorem dJ6_bitCount_0f7a4_48 : decode cJ6_bitCount_0f7a4 48 = .ok (.iload_n 0, 1) := by decide +kernel
theorem dJ6_bitCount_0f7a4_49 : decode cJ6_bitCount_0f7a4 49 = .ok (.bipush 63, 2) := by decide +kernel
theorem dJ6_bitCount_0f7a4_51 : decode cJ6_bitCount_0f7a4 51 = .ok (.iand, 1) := by decide +kernel
theorem dJ6_bitCount_0f7a4_52 : decode cJ6_bitCount_0f7a4 52 = .ok (.ireturn, 1) := by decide +kernel
theorem dJ9_abs_0f7a4_0 : decode cJ9_abs_0f7a4 0 = .ok (.iload_n 0, 1) := by decide +kernel
theorem dJ9_abs_0f7a4_1 : decode cJ9_abs_0f7a4 1 = .ok (.ifCond .ge 8, 3) := by decide +kernel
theorem dJ9_abs_0f7a4_4 : decode cJ9_abs_0f7a4 4 = .ok (.iload_n 0, 1) := by decide +kernel
theorem dJ9_abs_0f7a4_5 : decode cJ9_abs_0f7a4 5 = .ok (.ineg, 1) := by decide +kernel
theorem dJ9_abs_0f7a4_6 : decode cJ9_abs_0f7a4 6 = .ok (.goto 4, 3) := by decide +kernel
theorem dJ9_abs_0f7a4_9 : decode cJ9_abs_0f7a4 9 = .ok (.iload_n 0, 1) := by decide +kernel
theorem dJ9_abs_0f7a4_10 : decode cJ9_abs_0f7a4 10 = .ok (.ireturn, 1) := by decide +kernel
theorem dJ9_max_7cf53_0 : decode cJ9_max_7cf53 0 = .ok (.iload_n 0, 1) := by decide +kernel
theorem dJ9_max_7cf53_1 : decode cJ9_max_7cf53 1 = .ok (.iload_n 1, 1) := by decide +kernel
theorem dJ9_max_7cf53_2 : decode cJ9_max_7cf53 2 = .ok (.if_icmp .lt 7, 3) := by decide +kernel
theorem dJ9_max_7cf53_5 : decode cJ9_max_7cf53 5 = .ok (.iload_n 0, 1) := by decide +kernel
theorem dJ9_max_7cf53_6 : decode cJ9_max_7cf53 6 = .ok (.goto 4, 3) := by decide +kernel
theorem dJ9_max_7cf53_9 : decode cJ9_max_7cf53 9 = .ok (.iload_n 1, 1) := by decide +kernel
theorem dJ9_max_7cf53_10 : decode cJ9_max_7cf53 10 = .ok (.ireturn, 1) := by decide +kernel
theorem dJ9_min_7cf53_0 : decode cJ9_min_7cf53 0 = .ok (.iload_n 0, 1) := by decide +kernel
theorem dJ9_min_7cf53_1 : decode cJ9_min_7cf53 1 = .ok (.iload_n 1, 1) := by decide +kernel
theorem dJ9_min_7cf53_2 : decode cJ9_min_7cf53 2 = .ok (.if_icmp .gt 7, 3) := by decide +kernel
theorem dJ9_min_7cf53_5 : decode cJ9_min_7cf53 5 = .ok (.iload_n 0, 1) := by decide +kernel
theorem dJ9_min_7cf53_6 : decode cJ9_min_7cf53 6 = .ok (.goto 4, 3) := by decide +kernel
theorem dJ9_min_7cf53_9 : decode cJ9_min_7cf53 9 = .ok (.iload_n 1, 1) := by decide +kernel
theorem dJ9_min_7cf53_10 : decode cJ9_min_7cf53 10 = .ok (.ireturn, 1) := by decide +kernel
theorem dJ0_length_8abf5_0 : decode cJ0_length_8abf5 0 = .ok (.aload_n 0, 1) := by decide +kernel
theorem dJ0_length_8abf5_1 : decode cJ0_length_8abf5 1 = .ok (.getfield 9, 3) := by decide +kernel
theorem dJ0_length_8abf5_4 : decode cJ0_length_8abf5 4 = .ok (.arraylength, 1) := by decide +kernel
theorem dJ0_length_8abf5_5 : decode cJ0_length_8abf5 5 = .ok (.aload_n 0, 1) := by decide +kernel
theorem dJ0_length_8abf5_6 : decode cJ0_length_8abf5 6 = .ok (.invokevirtual 335, 3) := by decide +kernel
theorem dJ0_length_8abf5_9 : decode cJ0_length_8abf5 9 = .ok (.ishr, 1) := by decide +kernel
theorem dJ0_length_8abf5_10 : decode cJ0_length_8abf5 10 = .ok (.ireturn, 1) := by decide +kernel
theorem dJ0_charAt_5068e_0 : decode cJ0_charAt_5068e 0 = .ok (.aload_n 0, 1) := by decide +kernel
theorem dJ0_charAt_5068e_1 : decode cJ0_charAt_5068e 1 = .ok (.invokevirtual 492, 3) := by decide +kernel
theorem dJ0_charAt_5068e_4 : decode cJ0_charAt_5068e 4 = .ok (.ifCond .eq 12, 3) := by decide +kernel
theorem dJ0_charAt_5068e_7 : decode cJ0_charAt_5068e 7 = .ok (.aload_n 0, 1) := by decide +kernel
theorem dJ0_charAt_5068e_8 : decode cJ0_charAt_5068e 8 = .ok (.getfield 9, 3) := by decide +kernel
theorem dJ0_charAt_5068e_11 : decode cJ0_charAt_5068e 11 = .ok (.iload_n 1, 1) := by decide +kernel
theorem dJ0_charAt_5068e_12 : decode cJ0_charAt_5068e 12 = .ok (.invokestatic 495, 3) := by decide +kernel
theorem dJ0_charAt_5068e_15 : decode cJ0_charAt_5068e 15 = .ok (.ireturn, 1) := by decide +kernel
theorem dJ0_charAt_5068e_16 : decode cJ0_charAt_5068e 16 = .ok (.aload_n 0, 1) := by decide +kernel
theorem dJ0_charAt_5068e_17 : decode cJ0_charAt_5068e 17 = .ok (.getfield 9, 3) := by decide +kernel
theorem dJ0_charAt_5068e_20 : decode cJ0_charAt_5068e 20 = .ok (.iload_n 1, 1) := by decide +kernel
theorem dJ0_charAt_5068e_21 : decode cJ0_charAt_5068e 21 = .ok (.invokestatic 498, 3) := by decide +kernel
theorem dJ0_charAt_5068e_24 : decode cJ0_charAt_5068e 24 = .ok (.ireturn, 1) := by decide +kernel
theorem dJ0_coder_7d493_0 : decode cJ0_coder_7d493 0 = .ok (.getstatic 38, 3) := by decide +kernel
theorem dJ0_coder_7d493_3 : decode cJ0_coder_7d493 3 = .ok (.ifCond .eq 10, 3) := by decide +kernel
theorem dJ0_coder_7d493_6 : decode cJ0_coder_7d493 6 = .ok (.aload_n 0, 1) := by decide +kernel
theorem dJ0_coder_7d493_7 : decode cJ0_coder_7d493 7 = .ok (.getfield 15, 3) := by decide +kernel
theorem dJ0_coder_7d493_10 : decode cJ0_coder_7d493 10 = .ok (.goto 4, 3) := by decide +kernel
theorem dJ0_coder_7d493_13 : decode cJ0_coder_7d493 13 = .ok (.iconst 1, 1) := by decide +kernel
theorem dJ0_coder_7d493_14 : decode cJ0_coder_7d493 14 = .ok (.ireturn, 1) := by decide +kernel
theorem dJ0_isLatin1_aae02_0 : decode cJ0_isLatin1_aae02 0 = .ok (.getstatic 38, 3) := by decide +kernel
theorem dJ0_isLatin1_aae02_3 : decode cJ0_isLatin1_aae02 3 = .ok (.ifCond .eq 14, 3) := by decide +kernel
theorem dJ0_isLatin1_aae02_6 : decode cJ0_isLatin1_aae02 6 = .ok (.aload_n 0, 1) := by decide +kernel
theorem dJ0_isLatin1_aae02_7 : decode cJ0_isLatin1_aae02 7 = .ok (.getfield 15, 3) := by decide +kernel
theorem dJ0_isLatin1_aae02_10 : decode cJ0_isLatin1_aae02 10 = .ok (.ifCond .ne 7, 3) := by decide +kernel
theorem dJ0_isLatin1_aae02_13 : decode cJ0_isLatin1_aae02 13 = .ok (.iconst 1, 1) := by decide +kernel
theorem dJ0_isLatin1_aae02_14 : decode cJ0_isLatin1_aae02 14 = .ok (.goto 4, 3) := by decide +kernel
theorem dJ0_isLatin1_aae02_17 : decode cJ0_isLatin1_aae02 17 = .ok (.iconst 0, 1) := by decide +kernel
theorem dJ0_isLatin1_aae02_18 : decode cJ0_isLatin1_aae02 18 = .ok (.ireturn, 1) := by decide +kernel
theorem dJ0_checkIndex_df160_0 : decode cJ0_checkIndex_df160 0 = .ok (.iload_n 0, 1) := by decide +kernel
theorem dJ0_checkIndex_df160_1 : decode cJ0_checkIndex_df160 1 = .ok (.iload_n 1, 1) := by decide +kernel
theorem dJ0_checkIndex_df160_2 : decode cJ0_checkIndex_df160 2 = .ok (.getstatic 1053, 3) := by decide +kernel
theorem dJ0_checkIndex_df160_5 : decode cJ0_checkIndex_df160 5 = .ok (.invokestatic 1059, 3) := by decide +kernel
theorem dJ0_checkIndex_df160_8 : decode cJ0_checkIndex_df160 8 = .ok (.pop, 1) := by decide +kernel
theorem dJ0_checkIndex_df160_9 : decode cJ0_checkIndex_df160 9 = .ok (.return_, 1) := by decide +kernel
theorem dJ1_charAt_3b067_0 : decode cJ1_charAt_3b067 0 = .ok (.iload_n 1, 1) := by decide +kernel
theorem dJ1_charAt_3b067_1 : decode cJ1_charAt_3b067 1 = .ok (.aload_n 0, 1) := by decide +kernel
theorem dJ1_charAt_3b067_2 : decode cJ1_charAt_3b067 2 = .ok (.arraylength, 1) := by decide +kernel
theorem dJ1_charAt_3b067_3 : decode cJ1_charAt_3b067 3 = .ok (.invokestatic 9, 3) := by decide +kernel
theorem dJ1_charAt_3b067_6 : decode cJ1_charAt_3b067 6 = .ok (.aload_n 0, 1) := by decide +kernel
theorem dJ1_charAt_3b067_7 : decode cJ1_charAt_3b067 7 = .ok (.iload_n 1, 1) := by decide +kernel
theorem dJ1_charAt_3b067_8 : decode cJ1_charAt_3b067 8 = .ok (.baload, 1) := by decide +kernel
theorem dJ1_charAt_3b067_9 : decode cJ1_charAt_3b067 9 = .ok (.sipush 255, 3) := by decide +kernel
theorem dJ1_charAt_3b067_12 : decode cJ1_charAt_3b067 12 = .ok (.iand, 1) := by decide +kernel
theorem dJ1_charAt_3b067_13 : decode cJ1_charAt_3b067 13 = .ok (.i2c, 1) := by decide +kernel
theorem dJ1_charAt_3b067_14 : decode cJ1_charAt_3b067 14 = .ok (.ireturn, 1) := by decide +kernel
theorem dJ2_getChar_3b067_0 : decode cJ2_getChar_3b067 0 = .ok (.getstatic 44, 3) := by decide +kernel
theorem dJ2_getChar_3b067_3 : decode cJ2_getChar_3b067 3 = .ok (.ifCond .ne 25, 3) := by decide +kernel
theorem dJ2_getChar_3b067_6 : decode cJ2_getChar_3b067 6 = .ok (.iload_n 1, 1) := by decide +kernel
theorem dJ2_getChar_3b067_7 : decode cJ2_getChar_3b067 7 = .ok (.ifCond .lt 11, 3) := by decide +kernel
theorem dJ2_getChar_3b067_10 : decode cJ2_getChar_3b067 10 = .ok (.iload_n 1, 1) := by decide +kernel
theorem dJ2_getChar_3b067_11 : decode cJ2_getChar_3b067 11 = .ok (.aload_n 0, 1) := by decide +kernel
theorem dJ2_getChar_3b067_12 : decode cJ2_getChar_3b067 12 = .ok (.invokestatic 48, 3) := by decide +kernel
theorem dJ2_getChar_3b067_15 : decode cJ2_getChar_3b067 15 = .ok (.if_icmp .lt 13, 3) := by decide +kernel
theorem dJ2_getChar_3b067_18 : decode cJ2_getChar_3b067 18 = .ok (.new 52, 3) := by decide +kernel
theorem dJ2_getChar_3b067_21 : decode cJ2_getChar_3b067 21 = .ok (.dup, 1) := by decide +kernel
theorem dJ2_getChar_3b067_22 : decode cJ2_getChar_3b067 22 = .ok (.ldc 54, 2) := by decide +kernel
theorem dJ2_getChar_3b067_24 : decode cJ2_getChar_3b067 24 = .ok (.invokespecial 56, 3) := by decide +kernel
theorem dJ2_getChar_3b067_27 : decode cJ2_getChar_3b067 27 = .ok (.athrow, 1) := by decide +kernel
theorem dJ2_getChar_3b067_28 : decode cJ2_getChar_3b067 28 = .ok (.iload_n 1, 1) := by decide +kernel
theorem dJ2_getChar_3b067_29 : decode cJ2_getChar_3b067 29 = .ok (.iconst 1, 1) := by decide +kernel
theorem dJ2_getChar_3b067_30 : decode cJ2_getChar_3b067 30 = .ok (.ishl, 1) := by decide +kernel
theorem dJ2_getChar_3b067_31 : decode cJ2_getChar_3b067 31 = .ok (.istore_n 1, 1) := by decide +kernel
theorem dJ2_getChar_3b067_32 : decode cJ2_getChar_3b067 32 = .ok (.aload_n 0, 1) := by decide +kernel
theorem dJ2_getChar_3b067_33 : decode cJ2_getChar_3b067 33 = .ok (.iload_n 1, 1) := by decide +kernel
theorem dJ2_getChar_3b067_34 : decode cJ2_getChar_3b067 34 = .ok (.iinc 1 1, 3) := by decide +kernel
theorem dJ2_getChar_3b067_37 : decode cJ2_getChar_3b067 37 = .ok (.baload, 1) := by decide +kernel
theorem dJ2_getChar_3b067_38 : decode cJ2_getChar_3b067 38 = .ok (.sipush 255, 3) := by decide +kernel
theorem dJ2_getChar_3b067_41 : decode cJ2_getChar_3b067 41 = .ok (.iand, 1) := by decide +kernel
theorem dJ2_getChar_3b067_42 : decode cJ2_getChar_3b067 42 = .ok (.getstatic 59, 3) := by decide +kernel
theorem dJ2_getChar_3b067_45 : decode cJ2_getChar_3b067 45 = .ok (.ishl, 1) := by decide +kernel
theorem dJ2_getChar_3b067_46 : decode cJ2_getChar_3b067 46 = .ok (.aload_n 0, 1) := by decide +kernel
theorem dJ2_getChar_3b067_47 : decode cJ2_getChar_3b067 47 = .ok (.iload_n 1, 1) := by decide +kernel
theorem dJ2_getChar_3b067_48 : decode cJ2_getChar_3b067 48 = .ok (.baload, 1) := by decide +kernel
theorem dJ2_getChar_3b067_49 : decode cJ2_getChar_3b067 49 = .ok (.sipush 255, 3) := by decide +kernel
theorem dJ2_getChar_3b067_52 : decode cJ2_getChar_3b067 52 = .ok (.iand, 1) := by decide +kernel
theorem dJ2_getChar_3b067_53 : decode cJ2_getChar_3b067 53 = .ok (.getstatic 63, 3) := by decide +kernel
theorem dJ2_getChar_3b067_56 : decode cJ2_getChar_3b067 56 = .ok (.ishl, 1) := by decide +kernel
theorem dJ2_getChar_3b067_57 : decode cJ2_getChar_3b067 57 = .ok (.ior, 1) := by decide +kernel
theorem dJ2_getChar_3b067_58 : decode cJ2_getChar_3b067 58 = .ok (.i2c, 1) := by decide +kernel
theorem dJ2_getChar_3b067_59 : decode cJ2_getChar_3b067 59 = .ok (.ireturn, 1) := by decide +kernel
theorem dJ2_length_9d52b_0 : decode cJ2_length_9d52b 0 = .ok (.aload_n 0, 1) := by decide +kernel
theorem dJ2_length_9d52b_1 : decode cJ2_length_9d52b 1 = .ok (.arraylength, 1) := by decide +kernel
theorem dJ2_length_9d52b_2 : decode cJ2_length_9d52b 2 = .ok (.iconst 1, 1) := by decide +kernel
theorem dJ2_length_9d52b_3 : decode cJ2_length_9d52b 3 = .ok (.ishr, 1) := by decide +kernel
theorem dJ2_length_9d52b_4 : decode cJ2_length_9d52b 4 = .ok (.ireturn, 1) := by decide +kernel
theorem dJ2_charAt_3b067_0 : decode cJ2_charAt_3b067 0 = .ok (.iload_n 1, 1) := by decide +kernel
theorem dJ2_charAt_3b067_1 : decode cJ2_charAt_3b067 1 = .ok (.aload_n 0, 1) := by decide +kernel
theorem dJ2_charAt_3b067_2 : decode cJ2_charAt_3b067 2 = .ok (.invokestatic 67, 3) := by decide +kernel
theorem dJ2_charAt_3b067_5 : decode cJ2_charAt_3b067 5 = .ok (.aload_n 0, 1) := by decide +kernel
theorem dJ2_charAt_3b067_6 : decode cJ2_charAt_3b067 6 = .ok (.iload_n 1, 1) := by decide +kernel
theorem dJ2_charAt_3b067_7 : decode cJ2_charAt_3b067 7 = .ok (.invokestatic 71, 3) := by decide +kernel
theorem dJ2_charAt_3b067_10 : decode cJ2_charAt_3b067 10 = .ok (.ireturn, 1) := by decide +kernel
theorem dJ2_checkIndex_2214a_0 : decode cJ2_checkIndex_2214a 0 = .ok (.iload_n 0, 1) := by decide +kernel
theorem dJ2_checkIndex_2214a_1 : decode cJ2_checkIndex_2214a 1 = .ok (.aload_n 1, 1) := by decide +kernel
theorem dJ2_checkIndex_2214a_2 : decode cJ2_checkIndex_2214a 2 = .ok (.invokestatic 48, 3) := by decide +kernel
theorem dJ2_checkIndex_2214a_5 : decode cJ2_checkIndex_2214a 5 = .ok (.invokestatic 414, 3) := by decide +kernel
theorem dJ2_checkIndex_2214a_8 : decode cJ2_checkIndex_2214a 8 = .ok (.return_, 1) := by decide +kernel
theorem dJ3_checkIndex_8e157_0 : decode cJ3_checkIndex_8e157 0 = .ok (.iload_n 0, 1) := by decide +kernel
theorem dJ3_checkIndex_8e157_1 : decode cJ3_checkIndex_8e157 1 = .ok (.ifCond .lt 8, 3) := by decide +kernel
theorem dJ3_checkIndex_8e157_4 : decode cJ3_checkIndex_8e157 4 = .ok (.iload_n 0, 1) := by decide +kernel
theorem dJ3_checkIndex_8e157_5 : decode cJ3_checkIndex_8e157 5 = .ok (.iload_n 1, 1) := by decide +kernel
theorem dJ3_checkIndex_8e157_6 : decode cJ3_checkIndex_8e157 6 = .ok (.if_icmp .lt 10, 3) := by decide +kernel
theorem dJ3_checkIndex_8e157_9 : decode cJ3_checkIndex_8e157 9 = .ok (.aload_n 2, 1) := by decide +kernel
theorem dJ3_checkIndex_8e157_10 : decode cJ3_checkIndex_8e157 10 = .ok (.iload_n 0, 1) := by decide +kernel
theorem dJ3_checkIndex_8e157_11 : decode cJ3_checkIndex_8e157 11 = .ok (.iload_n 1, 1) := by decide +kernel
theorem dJ3_checkIndex_8e157_12 : decode cJ3_checkIndex_8e157 12 = .ok (.invokestatic 95, 3) := by decide +kernel
theorem dJ3_checkIndex_8e157_15 : decode cJ3_checkIndex_8e157 15 = .ok (.athrow, 1) := by decide +kernel
theorem dJ3_checkIndex_8e157_16 : decode cJ3_checkIndex_8e157 16 = .ok (.iload_n 0, 1) := by decide +kernel
theorem dJ3_checkIndex_8e157_17 : decode cJ3_checkIndex_8e157 17 = .ok (.ireturn, 1) := by decide +kernel
