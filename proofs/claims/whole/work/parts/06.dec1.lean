theorem dX0_init_0 : decode cX0_init 0 = .ok (.aload_n 0, 1) := by decide +kernel
theorem dX0_init_1 : decode cX0_init 1 = .ok (.invokespecial 3, 3) := by decide +kernel
theorem dX0_init_4 : decode cX0_init 4 = .ok (.aload_n 0, 1) := by decide +kernel
theorem dX0_init_5 : decode cX0_init 5 = .ok (.bipush 16, 2) := by decide +kernel
theorem dX0_init_7 : decode cX0_init 7 = .ok (.newarray .int, 2) := by decide +kernel
theorem dX0_init_9 : decode cX0_init 9 = .ok (.putfield 9, 3) := by decide +kernel
theorem dX0_init_12 : decode cX0_init 12 = .ok (.aload_n 0, 1) := by decide +kernel
theorem dX0_init_13 : decode cX0_init 13 = .ok (.bipush 16, 2) := by decide +kernel
theorem dX0_init_15 : decode cX0_init 15 = .ok (.newarray .int, 2) := by decide +kernel
theorem dX0_init_17 : decode cX0_init 17 = .ok (.putfield 15, 3) := by decide +kernel
theorem dX0_init_20 : decode cX0_init 20 = .ok (.aload_n 0, 1) := by decide +kernel
theorem dX0_init_21 : decode cX0_init 21 = .ok (.bipush 16, 2) := by decide +kernel
theorem dX0_init_23 : decode cX0_init 23 = .ok (.newarray .int, 2) := by decide +kernel
theorem dX0_init_25 : decode cX0_init 25 = .ok (.putfield 18, 3) := by decide +kernel
theorem dX0_init_28 : decode cX0_init 28 = .ok (.aload_n 0, 1) := by decide +kernel
theorem dX0_init_29 : decode cX0_init 29 = .ok (.bipush 100, 2) := by decide +kernel
theorem dX0_init_31 : decode cX0_init 31 = .ok (.newarray .int, 2) := by decide +kernel
theorem dX0_init_33 : decode cX0_init 33 = .ok (.putfield 21, 3) := by decide +kernel
theorem dX0_init_36 : decode cX0_init 36 = .ok (.aload_n 0, 1) := by decide +kernel
theorem dX0_init_37 : decode cX0_init 37 = .ok (.iconst 4, 1) := by decide +kernel
theorem dX0_init_38 : decode cX0_init 38 = .ok (.newarray .int, 2) := by decide +kernel
theorem dX0_init_40 : decode cX0_init 40 = .ok (.putfield 24, 3) := by decide +kernel
theorem dX0_init_43 : decode cX0_init 43 = .ok (.aload_n 0, 1) := by decide +kernel
theorem dX0_init_44 : decode cX0_init 44 = .ok (.bipush 6, 2) := by decide +kernel
theorem dX0_init_46 : decode cX0_init 46 = .ok (.newarray .int, 2) := by decide +kernel
theorem dX0_init_48 : decode cX0_init 48 = .ok (.putfield 27, 3) := by decide +kernel
theorem dX0_init_51 : decode cX0_init 51 = .ok (.aload_n 0, 1) := by decide +kernel
theorem dX0_init_52 : decode cX0_init 52 = .ok (.sipush 700, 3) := by decide +kernel
theorem dX0_init_55 : decode cX0_init 55 = .ok (.newarray .int, 2) := by decide +kernel
theorem dX0_init_57 : decode cX0_init 57 = .ok (.putfield 30, 3) := by decide +kernel
theorem dX0_init_60 : decode cX0_init 60 = .ok (.aload_n 0, 1) := by decide +kernel
theorem dX0_init_61 : decode cX0_init 61 = .ok (.bipush 64, 2) := by decide +kernel
theorem dX0_init_63 : decode cX0_init 63 = .ok (.newarray .int, 2) := by decide +kernel
theorem dX0_init_65 : decode cX0_init 65 = .ok (.putfield 33, 3) := by decide +kernel
theorem dX0_init_68 : decode cX0_init 68 = .ok (.aload_n 0, 1) := by decide +kernel
theorem dX0_init_69 : decode cX0_init 69 = .ok (.invokevirtual 36, 3) := by decide +kernel
theorem dX0_init_72 : decode cX0_init 72 = .ok (.return_, 1) := by decide +kernel
theorem dX0_empty_0 : decode cX0_empty 0 = .ok (.aload_n 0, 1) := by decide +kernel
theorem dX0_empty_1 : decode cX0_empty 1 = .ok (.iconst 1, 1) := by decide +kernel
theorem dX0_empty_2 : decode cX0_empty 2 = .ok (.putfield 39, 3) := by decide +kernel
theorem dX0_empty_5 : decode cX0_empty 5 = .ok (.aload_n 0, 1) := by decide +kernel
theorem dX0_empty_6 : decode cX0_empty 6 = .ok (.iconst 0, 1) := by decide +kernel
theorem dX0_empty_7 : decode cX0_empty 7 = .ok (.putfield 43, 3) := by decide +kernel
theorem dX0_empty_10 : decode cX0_empty 10 = .ok (.aload_n 0, 1) := by decide +kernel
theorem dX0_empty_11 : decode cX0_empty 11 = .ok (.iconst 0, 1) := by decide +kernel
theorem dX0_empty_12 : decode cX0_empty 12 = .ok (.putfield 46, 3) := by decide +kernel
theorem dX0_empty_15 : decode cX0_empty 15 = .ok (.aload_n 0, 1) := by decide +kernel
theorem dX0_empty_16 : decode cX0_empty 16 = .ok (.iconst 0, 1) := by decide +kernel
theorem dX0_empty_17 : decode cX0_empty 17 = .ok (.putfield 49, 3) := by decide +kernel
theorem dX0_empty_20 : decode cX0_empty 20 = .ok (.aload_n 0, 1) := by decide +kernel
theorem dX0_empty_21 : decode cX0_empty 21 = .ok (.iconst 0, 1) := by decide +kernel
theorem dX0_empty_22 : decode cX0_empty 22 = .ok (.putfield 52, 3) := by decide +kernel
theorem dX0_empty_25 : decode cX0_empty 25 = .ok (.aload_n 0, 1) := by decide +kernel
theorem dX0_empty_26 : decode cX0_empty 26 = .ok (.getfield 21, 3) := by decide +kernel
theorem dX0_empty_29 : decode cX0_empty 29 = .ok (.bipush 10, 2) := by decide +kernel
theorem dX0_empty_31 : decode cX0_empty 31 = .ok (.invokestatic 55, 3) := by decide +kernel
theorem dX0_empty_34 : decode cX0_empty 34 = .ok (.return_, 1) := by decide +kernel
theorem dX0_walkBetween_0 : decode cX0_walkBetween 0 = .ok (.iload_n 1, 1) := by decide +kernel
theorem dX0_walkBetween_1 : decode cX0_walkBetween 1 = .ok (.iload_n 2, 1) := by decide +kernel
theorem dX0_walkBetween_2 : decode cX0_walkBetween 2 = .ok (.if_icmp .ne 7, 3) := by decide +kernel
theorem dX0_walkBetween_5 : decode cX0_walkBetween 5 = .ok (.iconst 0, 1) := by decide +kernel
theorem dX0_walkBetween_6 : decode cX0_walkBetween 6 = .ok (.goto 16, 3) := by decide +kernel
theorem dX0_walkBetween_9 : decode cX0_walkBetween 9 = .ok (.aload_n 0, 1) := by decide +kernel
theorem dX0_walkBetween_10 : decode cX0_walkBetween 10 = .ok (.getfield 21, 3) := by decide +kernel
theorem dX0_walkBetween_13 : decode cX0_walkBetween 13 = .ok (.iload_n 1, 1) := by decide +kernel
theorem dX0_walkBetween_14 : decode cX0_walkBetween 14 = .ok (.bipush 10, 2) := by decide +kernel
theorem dX0_walkBetween_16 : decode cX0_walkBetween 16 = .ok (.imul, 1) := by decide +kernel
theorem dX0_walkBetween_17 : decode cX0_walkBetween 17 = .ok (.iload_n 2, 1) := by decide +kernel
theorem dX0_walkBetween_18 : decode cX0_walkBetween 18 = .ok (.iadd, 1) := by decide +kernel
theorem dX0_walkBetween_19 : decode cX0_walkBetween 19 = .ok (.invokestatic 61, 3) := by decide +kernel
theorem dX0_walkBetween_22 : decode cX0_walkBetween 22 = .ok (.ireturn, 1) := by decide +kernel
theorem dX0_setWalk_0 : decode cX0_setWalk 0 = .ok (.aload_n 0, 1) := by decide +kernel
theorem dX0_setWalk_1 : decode cX0_setWalk 1 = .ok (.getfield 21, 3) := by decide +kernel
theorem dX0_setWalk_4 : decode cX0_setWalk 4 = .ok (.iload_n 1, 1) := by decide +kernel
theorem dX0_setWalk_5 : decode cX0_setWalk 5 = .ok (.bipush 10, 2) := by decide +kernel
theorem dX0_setWalk_7 : decode cX0_setWalk 7 = .ok (.imul, 1) := by decide +kernel
theorem dX0_setWalk_8 : decode cX0_setWalk 8 = .ok (.iload_n 2, 1) := by decide +kernel
theorem dX0_setWalk_9 : decode cX0_setWalk 9 = .ok (.iadd, 1) := by decide +kernel
theorem dX0_setWalk_10 : decode cX0_setWalk 10 = .ok (.iload_n 3, 1) := by decide +kernel
theorem dX0_setWalk_11 : decode cX0_setWalk 11 = .ok (.invokestatic 65, 3) := by decide +kernel
theorem dX0_setWalk_14 : decode cX0_setWalk 14 = .ok (.aload_n 0, 1) := by decide +kernel
theorem dX0_setWalk_15 : decode cX0_setWalk 15 = .ok (.getfield 21, 3) := by decide +kernel
theorem dX0_setWalk_18 : decode cX0_setWalk 18 = .ok (.iload_n 2, 1) := by decide +kernel
theorem dX0_setWalk_19 : decode cX0_setWalk 19 = .ok (.bipush 10, 2) := by decide +kernel
theorem dX0_setWalk_21 : decode cX0_setWalk 21 = .ok (.imul, 1) := by decide +kernel
theorem dX0_setWalk_22 : decode cX0_setWalk 22 = .ok (.iload_n 1, 1) := by decide +kernel
theorem dX0_setWalk_23 : decode cX0_setWalk 23 = .ok (.iadd, 1) := by decide +kernel
theorem dX0_setWalk_24 : decode cX0_setWalk 24 = .ok (.iload_n 3, 1) := by decide +kernel
theorem dX0_setWalk_25 : decode cX0_setWalk 25 = .ok (.invokestatic 65, 3) := by decide +kernel
theorem dX0_setWalk_28 : decode cX0_setWalk 28 = .ok (.return_, 1) := by decide +kernel
theorem dX0_addCode_0 : decode cX0_addCode 0 = .ok (.aload_n 0, 1) := by decide +kernel
theorem dX0_addCode_1 : decode cX0_addCode 1 = .ok (.getfield 52, 3) := by decide +kernel
theorem dX0_addCode_4 : decode cX0_addCode 4 = .ok (.aload_n 0, 1) := by decide +kernel
theorem dX0_addCode_5 : decode cX0_addCode 5 = .ok (.getfield 30, 3) := by decide +kernel
theorem dX0_addCode_8 : decode cX0_addCode 8 = .ok (.arraylength, 1) := by decide +kernel
theorem dX0_addCode_9 : decode cX0_addCode 9 = .ok (.if_icmp .ge 25, 3) := by decide +kernel
theorem dX0_addCode_12 : decode cX0_addCode 12 = .ok (.aload_n 0, 1) := by decide +kernel
theorem dX0_addCode_13 : decode cX0_addCode 13 = .ok (.getfield 30, 3) := by decide +kernel
theorem dX0_addCode_16 : decode cX0_addCode 16 = .ok (.aload_n 0, 1) := by decide +kernel
theorem dX0_addCode_17 : decode cX0_addCode 17 = .ok (.getfield 52, 3) := by decide +kernel
theorem dX0_addCode_20 : decode cX0_addCode 20 = .ok (.iload_n 1, 1) := by decide +kernel
theorem dX0_addCode_21 : decode cX0_addCode 21 = .ok (.invokestatic 65, 3) := by decide +kernel
theorem dX0_addCode_24 : decode cX0_addCode 24 = .ok (.aload_n 0, 1) := by decide +kernel
theorem dX0_addCode_25 : decode cX0_addCode 25 = .ok (.dup, 1) := by decide +kernel
theorem dX0_addCode_26 : decode cX0_addCode 26 = .ok (.getfield 52, 3) := by decide +kernel
theorem dX0_addCode_29 : decode cX0_addCode 29 = .ok (.iconst 1, 1) := by decide +kernel
theorem dX0_addCode_30 : decode cX0_addCode 30 = .ok (.iadd, 1) := by decide +kernel
theorem dX0_addCode_31 : decode cX0_addCode 31 = .ok (.putfield 52, 3) := by decide +kernel
theorem dX0_addCode_34 : decode cX0_addCode 34 = .ok (.return_, 1) := by decide +kernel
theorem dX0_rulesHold_0 : decode cX0_rulesHold 0 = .ok (.iconst 0, 1) := by decide +kernel
theorem dX0_rulesHold_1 : decode cX0_rulesHold 1 = .ok (.istore_n 2, 1) := by decide +kernel
theorem dX0_rulesHold_2 : decode cX0_rulesHold 2 = .ok (.iload_n 2, 1) := by decide +kernel
theorem dX0_rulesHold_3 : decode cX0_rulesHold 3 = .ok (.aload_n 0, 1) := by decide +kernel
theorem dX0_rulesHold_4 : decode cX0_rulesHold 4 = .ok (.getfield 46, 3) := by decide +kernel
theorem dX0_rulesHold_7 : decode cX0_rulesHold 7 = .ok (.if_icmp .ge 27, 3) := by decide +kernel
theorem dX0_rulesHold_10 : decode cX0_rulesHold 10 = .ok (.aload_n 0, 1) := by decide +kernel
theorem dX0_rulesHold_11 : decode cX0_rulesHold 11 = .ok (.aload_n 0, 1) := by decide +kernel
theorem dX0_rulesHold_12 : decode cX0_rulesHold 12 = .ok (.getfield 24, 3) := by decide +kernel
theorem dX0_rulesHold_15 : decode cX0_rulesHold 15 = .ok (.iload_n 2, 1) := by decide +kernel
theorem dX0_rulesHold_16 : decode cX0_rulesHold 16 = .ok (.invokestatic 61, 3) := by decide +kernel
theorem dX0_rulesHold_19 : decode cX0_rulesHold 19 = .ok (.aload_n 1, 1) := by decide +kernel
theorem dX0_rulesHold_20 : decode cX0_rulesHold 20 = .ok (.invokevirtual 69, 3) := by decide +kernel
theorem dX0_rulesHold_23 : decode cX0_rulesHold 23 = .ok (.ifCond .ne 5, 3) := by decide +kernel
theorem dX0_rulesHold_26 : decode cX0_rulesHold 26 = .ok (.iconst 0, 1) := by decide +kernel
theorem dX0_rulesHold_27 : decode cX0_rulesHold 27 = .ok (.ireturn, 1) := by decide +kernel
theorem dX0_rulesHold_28 : decode cX0_rulesHold 28 = .ok (.iinc 2 1, 3) := by decide +kernel
theorem dX0_rulesHold_31 : decode cX0_rulesHold 31 = .ok (.goto (-29), 3) := by decide +kernel
theorem dX0_rulesHold_34 : decode cX0_rulesHold 34 = .ok (.iconst 1, 1) := by decide +kernel
theorem dX0_rulesHold_35 : decode cX0_rulesHold 35 = .ok (.ireturn, 1) := by decide +kernel
theorem dX0_askHolds_0 : decode cX0_askHolds 0 = .ok (.aload_n 0, 1) := by decide +kernel
theorem dX0_askHolds_1 : decode cX0_askHolds 1 = .ok (.aload_n 0, 1) := by decide +kernel
theorem dX0_askHolds_2 : decode cX0_askHolds 2 = .ok (.getfield 27, 3) := by decide +kernel
theorem dX0_askHolds_5 : decode cX0_askHolds 5 = .ok (.iload_n 1, 1) := by decide +kernel
theorem dX0_askHolds_6 : decode cX0_askHolds 6 = .ok (.invokestatic 61, 3) := by decide +kernel
theorem dX0_askHolds_9 : decode cX0_askHolds 9 = .ok (.aload_n 2, 1) := by decide +kernel
theorem dX0_askHolds_10 : decode cX0_askHolds 10 = .ok (.invokevirtual 69, 3) := by decide +kernel
theorem dX0_askHolds_13 : decode cX0_askHolds 13 = .ok (.ifCond .eq 7, 3) := by decide +kernel
theorem dX0_askHolds_16 : decode cX0_askHolds 16 = .ok (.iconst 1, 1) := by decide +kernel
theorem dX0_askHolds_17 : decode cX0_askHolds 17 = .ok (.goto 4, 3) := by decide +kernel
theorem dX0_askHolds_20 : decode cX0_askHolds 20 = .ok (.iconst 0, 1) := by decide +kernel
theorem dX0_askHolds_21 : decode cX0_askHolds 21 = .ok (.ireturn, 1) := by decide +kernel
theorem dX0_exprValue_0 : decode cX0_exprValue 0 = .ok (.iconst 0, 1) := by decide +kernel
theorem dX0_exprValue_1 : decode cX0_exprValue 1 = .ok (.istore_n 3, 1) := by decide +kernel
theorem dX0_exprValue_2 : decode cX0_exprValue 2 = .ok (.iload_n 1, 1) := by decide +kernel
theorem dX0_exprValue_3 : decode cX0_exprValue 3 = .ok (.istore 4, 2) := by decide +kernel
theorem dX0_exprValue_5 : decode cX0_exprValue 5 = .ok (.iload 4, 2) := by decide +kernel
theorem dX0_exprValue_7 : decode cX0_exprValue 7 = .ok (.aload_n 0, 1) := by decide +kernel
theorem dX0_exprValue_8 : decode cX0_exprValue 8 = .ok (.getfield 52, 3) := by decide +kernel
theorem dX0_exprValue_11 : decode cX0_exprValue 11 = .ok (.if_icmp .ge 154, 3) := by decide +kernel
theorem dX0_exprValue_14 : decode cX0_exprValue 14 = .ok (.aload_n 0, 1) := by decide +kernel
theorem dX0_exprValue_15 : decode cX0_exprValue 15 = .ok (.getfield 30, 3) := by decide +kernel
theorem dX0_exprValue_18 : decode cX0_exprValue 18 = .ok (.iload 4, 2) := by decide +kernel
theorem dX0_exprValue_20 : decode cX0_exprValue 20 = .ok (.invokestatic 61, 3) := by decide +kernel
theorem dX0_exprValue_23 : decode cX0_exprValue 23 = .ok (.istore 5, 2) := by decide +kernel
theorem dX0_exprValue_25 : decode cX0_exprValue 25 = .ok (.iload 5, 2) := by decide +kernel
theorem dX0_exprValue_27 : decode cX0_exprValue 27 = .ok (.bipush (-17), 2) := by decide +kernel
theorem dX0_exprValue_29 : decode cX0_exprValue 29 = .ok (.if_icmp .ne 6, 3) := by decide +kernel
theorem dX0_exprValue_32 : decode cX0_exprValue 32 = .ok (.goto 133, 3) := by decide +kernel
theorem dX0_exprValue_35 : decode cX0_exprValue 35 = .ok (.iload 5, 2) := by decide +kernel
theorem dX0_exprValue_37 : decode cX0_exprValue 37 = .ok (.ifCond .lt 19, 3) := by decide +kernel
theorem dX0_exprValue_40 : decode cX0_exprValue 40 = .ok (.aload_n 0, 1) := by decide +kernel
theorem dX0_exprValue_41 : decode cX0_exprValue 41 = .ok (.getfield 33, 3) := by decide +kernel
theorem dX0_exprValue_44 : decode cX0_exprValue 44 = .ok (.iload_n 3, 1) := by decide +kernel
theorem dX0_exprValue_45 : decode cX0_exprValue 45 = .ok (.iload 5, 2) := by decide +kernel
theorem dX0_exprValue_47 : decode cX0_exprValue 47 = .ok (.invokestatic 65, 3) := by decide +kernel
theorem dX0_exprValue_50 : decode cX0_exprValue 50 = .ok (.iinc 3 1, 3) := by decide +kernel
theorem dX0_exprValue_53 : decode cX0_exprValue 53 = .ok (.goto 106, 3) := by decide +kernel
theorem dX0_exprValue_56 : decode cX0_exprValue 56 = .ok (.iload 5, 2) := by decide +kernel
theorem dX0_exprValue_58 : decode cX0_exprValue 58 = .ok (.bipush (-8), 2) := by decide +kernel
theorem dX0_exprValue_60 : decode cX0_exprValue 60 = .ok (.if_icmp .le 25, 3) := by decide +kernel
theorem dX0_exprValue_63 : decode cX0_exprValue 63 = .ok (.aload_n 0, 1) := by decide +kernel
theorem dX0_exprValue_64 : decode cX0_exprValue 64 = .ok (.getfield 33, 3) := by decide +kernel
theorem dX0_exprValue_67 : decode cX0_exprValue 67 = .ok (.iload_n 3, 1) := by decide +kernel
theorem dX0_exprValue_68 : decode cX0_exprValue 68 = .ok (.aload_n 2, 1) := by decide +kernel
theorem dX0_exprValue_69 : decode cX0_exprValue 69 = .ok (.iconst (-1), 1) := by decide +kernel
theorem dX0_exprValue_70 : decode cX0_exprValue 70 = .ok (.iload 5, 2) := by decide +kernel
theorem dX0_exprValue_72 : decode cX0_exprValue 72 = .ok (.isub, 1) := by decide +kernel
theorem dX0_exprValue_73 : decode cX0_exprValue 73 = .ok (.invokestatic 61, 3) := by decide +kernel
theorem dX0_exprValue_76 : decode cX0_exprValue 76 = .ok (.invokestatic 65, 3) := by decide +kernel
theorem dX0_exprValue_79 : decode cX0_exprValue 79 = .ok (.iinc 3 1, 3) := by decide +kernel
theorem dX0_exprValue_82 : decode cX0_exprValue 82 = .ok (.goto 77, 3) := by decide +kernel
theorem dX0_exprValue_85 : decode cX0_exprValue 85 = .ok (.iload 5, 2) := by decide +kernel
theorem dX0_exprValue_87 : decode cX0_exprValue 87 = .ok (.bipush (-8), 2) := by decide +kernel
theorem dX0_exprValue_89 : decode cX0_exprValue 89 = .ok (.if_icmp .ne 34, 3) := by decide +kernel
theorem dX0_exprValue_92 : decode cX0_exprValue 92 = .ok (.aload_n 0, 1) := by decide +kernel
theorem dX0_exprValue_93 : decode cX0_exprValue 93 = .ok (.getfield 33, 3) := by decide +kernel
theorem dX0_exprValue_96 : decode cX0_exprValue 96 = .ok (.iload_n 3, 1) := by decide +kernel
theorem dX0_exprValue_97 : decode cX0_exprValue 97 = .ok (.iconst 1, 1) := by decide +kernel
theorem dX0_exprValue_98 : decode cX0_exprValue 98 = .ok (.isub, 1) := by decide +kernel
theorem dX0_exprValue_99 : decode cX0_exprValue 99 = .ok (.aload_n 0, 1) := by decide +kernel
theorem dX0_exprValue_100 : decode cX0_exprValue 100 = .ok (.getfield 33, 3) := by decide +kernel
theorem dX0_exprValue_103 : decode cX0_exprValue 103 = .ok (.iload_n 3, 1) := by decide +kernel
theorem dX0_exprValue_104 : decode cX0_exprValue 104 = .ok (.iconst 1, 1) := by decide +kernel
theorem dX0_exprValue_105 : decode cX0_exprValue 105 = .ok (.isub, 1) := by decide +kernel
theorem dX0_exprValue_106 : decode cX0_exprValue 106 = .ok (.invokestatic 61, 3) := by decide +kernel
theorem dX0_exprValue_109 : decode cX0_exprValue 109 = .ok (.ifCond .ne 7, 3) := by decide +kernel
theorem dX0_exprValue_112 : decode cX0_exprValue 112 = .ok (.iconst 1, 1) := by decide +kernel
theorem dX0_exprValue_113 : decode cX0_exprValue 113 = .ok (.goto 4, 3) := by decide +kernel
theorem dX0_exprValue_116 : decode cX0_exprValue 116 = .ok (.iconst 0, 1) := by decide +kernel
theorem dX0_exprValue_117 : decode cX0_exprValue 117 = .ok (.invokestatic 65, 3) := by decide +kernel
theorem dX0_exprValue_120 : decode cX0_exprValue 120 = .ok (.goto 39, 3) := by decide +kernel
theorem dX0_exprValue_123 : decode cX0_exprValue 123 = .ok (.iinc 3 (-1), 3) := by decide +kernel
theorem dX0_exprValue_126 : decode cX0_exprValue 126 = .ok (.aload_n 0, 1) := by decide +kernel
theorem dX0_exprValue_127 : decode cX0_exprValue 127 = .ok (.getfield 33, 3) := by decide +kernel
theorem dX0_exprValue_130 : decode cX0_exprValue 130 = .ok (.iload_n 3, 1) := by decide +kernel
theorem dX0_exprValue_131 : decode cX0_exprValue 131 = .ok (.iconst 1, 1) := by decide +kernel
theorem dX0_exprValue_132 : decode cX0_exprValue 132 = .ok (.isub, 1) := by decide +kernel
theorem dX0_exprValue_133 : decode cX0_exprValue 133 = .ok (.iload 5, 2) := by decide +kernel
theorem dX0_exprValue_135 : decode cX0_exprValue 135 = .ok (.aload_n 0, 1) := by decide +kernel
theorem dX0_exprValue_136 : decode cX0_exprValue 136 = .ok (.getfield 33, 3) := by decide +kernel
theorem dX0_exprValue_139 : decode cX0_exprValue 139 = .ok (.iload_n 3, 1) := by decide +kernel
theorem dX0_exprValue_140 : decode cX0_exprValue 140 = .ok (.iconst 1, 1) := by decide +kernel
theorem dX0_exprValue_141 : decode cX0_exprValue 141 = .ok (.isub, 1) := by decide +kernel
theorem dX0_exprValue_142 : decode cX0_exprValue 142 = .ok (.invokestatic 61, 3) := by decide +kernel
theorem dX0_exprValue_145 : decode cX0_exprValue 145 = .ok (.aload_n 0, 1) := by decide +kernel
theorem dX0_exprValue_146 : decode cX0_exprValue 146 = .ok (.getfield 33, 3) := by decide +kernel
theorem dX0_exprValue_149 : decode cX0_exprValue 149 = .ok (.iload_n 3, 1) := by decide +kernel
theorem dX0_exprValue_150 : decode cX0_exprValue 150 = .ok (.invokestatic 61, 3) := by decide +kernel
theorem dX0_exprValue_153 : decode cX0_exprValue 153 = .ok (.invokestatic 73, 3) := by decide +kernel
theorem dX0_exprValue_156 : decode cX0_exprValue 156 = .ok (.invokestatic 65, 3) := by decide +kernel
theorem dX0_exprValue_159 : decode cX0_exprValue 159 = .ok (.iinc 4 1, 3) := by decide +kernel
theorem dX0_exprValue_162 : decode cX0_exprValue 162 = .ok (.goto (-157), 3) := by decide +kernel
theorem dX0_exprValue_165 : decode cX0_exprValue 165 = .ok (.aload_n 0, 1) := by decide +kernel
theorem dX0_exprValue_166 : decode cX0_exprValue 166 = .ok (.getfield 33, 3) := by decide +kernel
theorem dX0_exprValue_169 : decode cX0_exprValue 169 = .ok (.iconst 0, 1) := by decide +kernel
theorem dX0_exprValue_170 : decode cX0_exprValue 170 = .ok (.invokestatic 61, 3) := by decide +kernel
theorem dX0_exprValue_173 : decode cX0_exprValue 173 = .ok (.ireturn, 1) := by decide +kernel
theorem dX0_join_0 : decode cX0_join 0 = .ok (.iload_n 0, 1) := by decide +kernel
theorem dX0_join_1 : decode cX0_join 1 = .ok (.tableswitch 105 (-15) (-9) #[101, 97, 93, 82, 71, 57, 43], 43) := by decide +kernel
theorem dX0_join_44 : decode cX0_join 44 = .ok (.iload_n 1, 1) := by decide +kernel
theorem dX0_join_45 : decode cX0_join 45 = .ok (.ifCond .ne 7, 3) := by decide +kernel
theorem dX0_join_48 : decode cX0_join 48 = .ok (.iload_n 2, 1) := by decide +kernel
theorem dX0_join_49 : decode cX0_join 49 = .ok (.ifCond .eq 7, 3) := by decide +kernel
theorem dX0_join_52 : decode cX0_join 52 = .ok (.iconst 1, 1) := by decide +kernel
theorem dX0_join_53 : decode cX0_join 53 = .ok (.goto 4, 3) := by decide +kernel
theorem dX0_join_56 : decode cX0_join 56 = .ok (.iconst 0, 1) := by decide +kernel
theorem dX0_join_57 : decode cX0_join 57 = .ok (.ireturn, 1) := by decide +kernel
theorem dX0_join_58 : decode cX0_join 58 = .ok (.iload_n 1, 1) := by decide +kernel
theorem dX0_join_59 : decode cX0_join 59 = .ok (.ifCond .eq 11, 3) := by decide +kernel
theorem dX0_join_62 : decode cX0_join 62 = .ok (.iload_n 2, 1) := by decide +kernel
theorem dX0_join_63 : decode cX0_join 63 = .ok (.ifCond .eq 7, 3) := by decide +kernel
theorem dX0_join_66 : decode cX0_join 66 = .ok (.iconst 1, 1) := by decide +kernel
theorem dX0_join_67 : decode cX0_join 67 = .ok (.goto 4, 3) := by decide +kernel
theorem dX0_join_70 : decode cX0_join 70 = .ok (.iconst 0, 1) := by decide +kernel
theorem dX0_join_71 : decode cX0_join 71 = .ok (.ireturn, 1) := by decide +kernel
theorem dX0_join_72 : decode cX0_join 72 = .ok (.iload_n 1, 1) := by decide +kernel
theorem dX0_join_73 : decode cX0_join 73 = .ok (.iload_n 2, 1) := by decide +kernel
theorem dX0_join_74 : decode cX0_join 74 = .ok (.if_icmp .ge 7, 3) := by decide +kernel
theorem dX0_join_77 : decode cX0_join 77 = .ok (.iconst 1, 1) := by decide +kernel
theorem dX0_join_78 : decode cX0_join 78 = .ok (.goto 4, 3) := by decide +kernel
theorem dX0_join_81 : decode cX0_join 81 = .ok (.iconst 0, 1) := by decide +kernel
theorem dX0_join_82 : decode cX0_join 82 = .ok (.ireturn, 1) := by decide +kernel
theorem dX0_join_83 : decode cX0_join 83 = .ok (.iload_n 1, 1) := by decide +kernel
theorem dX0_join_84 : decode cX0_join 84 = .ok (.iload_n 2, 1) := by decide +kernel
theorem dX0_join_85 : decode cX0_join 85 = .ok (.if_icmp .ne 7, 3) := by decide +kernel
theorem dX0_join_88 : decode cX0_join 88 = .ok (.iconst 1, 1) := by decide +kernel
theorem dX0_join_89 : decode cX0_join 89 = .ok (.goto 4, 3) := by decide +kernel
theorem dX0_join_92 : decode cX0_join 92 = .ok (.iconst 0, 1) := by decide +kernel
theorem dX0_join_93 : decode cX0_join 93 = .ok (.ireturn, 1) := by decide +kernel
theorem dX0_join_94 : decode cX0_join 94 = .ok (.iload_n 1, 1) := by decide +kernel
theorem dX0_join_95 : decode cX0_join 95 = .ok (.iload_n 2, 1) := by decide +kernel
theorem dX0_join_96 : decode cX0_join 96 = .ok (.iadd, 1) := by decide +kernel
theorem dX0_join_97 : decode cX0_join 97 = .ok (.ireturn, 1) := by decide +kernel
theorem dX0_join_98 : decode cX0_join 98 = .ok (.iload_n 1, 1) := by decide +kernel
theorem dX0_join_99 : decode cX0_join 99 = .ok (.iload_n 2, 1) := by decide +kernel
theorem dX0_join_100 : decode cX0_join 100 = .ok (.isub, 1) := by decide +kernel
theorem dX0_join_101 : decode cX0_join 101 = .ok (.ireturn, 1) := by decide +kernel
theorem dX0_join_102 : decode cX0_join 102 = .ok (.iload_n 1, 1) := by decide +kernel
theorem dX0_join_103 : decode cX0_join 103 = .ok (.iload_n 2, 1) := by decide +kernel
theorem dX0_join_104 : decode cX0_join 104 = .ok (.imul, 1) := by decide +kernel
theorem dX0_join_105 : decode cX0_join 105 = .ok (.ireturn, 1) := by decide +kernel
theorem dX0_join_106 : decode cX0_join 106 = .ok (.iload_n 2, 1) := by decide +kernel
theorem dX0_join_107 : decode cX0_join 107 = .ok (.ifCond .ne 7, 3) := by decide +kernel
theorem dX0_join_110 : decode cX0_join 110 = .ok (.iconst 0, 1) := by decide +kernel
theorem dX0_join_111 : decode cX0_join 111 = .ok (.goto 6, 3) := by decide +kernel
theorem dX0_join_114 : decode cX0_join 114 = .ok (.iload_n 1, 1) := by decide +kernel
theorem dX0_join_115 : decode cX0_join 115 = .ok (.iload_n 2, 1) := by decide +kernel
theorem dX0_join_116 : decode cX0_join 116 = .ok (.idiv, 1) := by decide +kernel
theorem dX0_join_117 : decode cX0_join 117 = .ok (.ireturn, 1) := by decide +kernel
theorem dX1_init_0 : decode cX1_init 0 = .ok (.aload_n 0, 1) := by decide +kernel
theorem dX1_init_1 : decode cX1_init 1 = .ok (.invokespecial 3, 3) := by decide +kernel
theorem dX1_init_4 : decode cX1_init 4 = .ok (.aload_n 0, 1) := by decide +kernel
theorem dX1_init_5 : decode cX1_init 5 = .ok (.bipush 6, 2) := by decide +kernel
theorem dX1_init_7 : decode cX1_init 7 = .ok (.newarray .int, 2) := by decide +kernel
theorem dX1_init_9 : decode cX1_init 9 = .ok (.putfield 9, 3) := by decide +kernel
theorem dX1_init_12 : decode cX1_init 12 = .ok (.aload_n 0, 1) := by decide +kernel
theorem dX1_init_13 : decode cX1_init 13 = .ok (.sipush 1024, 3) := by decide +kernel
theorem dX1_init_16 : decode cX1_init 16 = .ok (.newarray .int, 2) := by decide +kernel
theorem dX1_init_18 : decode cX1_init 18 = .ok (.putfield 15, 3) := by decide +kernel
theorem dX1_init_21 : decode cX1_init 21 = .ok (.return_, 1) := by decide +kernel
theorem dX1_fewestOf_0 : decode cX1_fewestOf 0 = .ok (.iconst 0, 1) := by decide +kernel
theorem dX1_fewestOf_1 : decode cX1_fewestOf 1 = .ok (.istore_n 3, 1) := by decide +kernel
theorem dX1_fewestOf_2 : decode cX1_fewestOf 2 = .ok (.iload_n 3, 1) := by decide +kernel
theorem dX1_fewestOf_3 : decode cX1_fewestOf 3 = .ok (.iload_n 1, 1) := by decide +kernel
theorem dX1_fewestOf_4 : decode cX1_fewestOf 4 = .ok (.if_icmp .gt 30, 3) := by decide +kernel
theorem dX1_fewestOf_7 : decode cX1_fewestOf 7 = .ok (.iload_n 3, 1) := by decide +kernel
theorem dX1_fewestOf_8 : decode cX1_fewestOf 8 = .ok (.iload_n 1, 1) := by decide +kernel
theorem dX1_fewestOf_9 : decode cX1_fewestOf 9 = .ok (.iand, 1) := by decide +kernel
theorem dX1_fewestOf_10 : decode cX1_fewestOf 10 = .ok (.iload_n 3, 1) := by decide +kernel
theorem dX1_fewestOf_11 : decode cX1_fewestOf 11 = .ok (.if_icmp .ne 17, 3) := by decide +kernel
theorem dX1_fewestOf_14 : decode cX1_fewestOf 14 = .ok (.aload_n 0, 1) := by decide +kernel
theorem dX1_fewestOf_15 : decode cX1_fewestOf 15 = .ok (.getfield 15, 3) := by decide +kernel
theorem dX1_fewestOf_18 : decode cX1_fewestOf 18 = .ok (.iload_n 3, 1) := by decide +kernel
theorem dX1_fewestOf_19 : decode cX1_fewestOf 19 = .ok (.aload_n 0, 1) := by decide +kernel
theorem dX1_fewestOf_20 : decode cX1_fewestOf 20 = .ok (.iload_n 3, 1) := by decide +kernel
theorem dX1_fewestOf_21 : decode cX1_fewestOf 21 = .ok (.iload_n 2, 1) := by decide +kernel
theorem dX1_fewestOf_22 : decode cX1_fewestOf 22 = .ok (.invokevirtual 18, 3) := by decide +kernel
theorem dX1_fewestOf_25 : decode cX1_fewestOf 25 = .ok (.invokestatic 22, 3) := by decide +kernel
theorem dX1_fewestOf_28 : decode cX1_fewestOf 28 = .ok (.iinc 3 1, 3) := by decide +kernel
theorem dX1_fewestOf_31 : decode cX1_fewestOf 31 = .ok (.goto (-29), 3) := by decide +kernel
theorem dX1_fewestOf_34 : decode cX1_fewestOf 34 = .ok (.aload_n 0, 1) := by decide +kernel
theorem dX1_fewestOf_35 : decode cX1_fewestOf 35 = .ok (.getfield 15, 3) := by decide +kernel
theorem dX1_fewestOf_38 : decode cX1_fewestOf 38 = .ok (.iload_n 1, 1) := by decide +kernel
theorem dX1_fewestOf_39 : decode cX1_fewestOf 39 = .ok (.invokestatic 26, 3) := by decide +kernel
theorem dX1_fewestOf_42 : decode cX1_fewestOf 42 = .ok (.ireturn, 1) := by decide +kernel
theorem dX1_fewestAmong_0 : decode cX1_fewestAmong 0 = .ok (.iload_n 1, 1) := by decide +kernel
theorem dX1_fewestAmong_1 : decode cX1_fewestAmong 1 = .ok (.invokestatic 30, 3) := by decide +kernel
theorem dX1_fewestAmong_4 : decode cX1_fewestAmong 4 = .ok (.iconst 1, 1) := by decide +kernel
theorem dX1_fewestAmong_5 : decode cX1_fewestAmong 5 = .ok (.if_icmp .gt 5, 3) := by decide +kernel
theorem dX1_fewestAmong_8 : decode cX1_fewestAmong 8 = .ok (.iconst 0, 1) := by decide +kernel
theorem dX1_fewestAmong_9 : decode cX1_fewestAmong 9 = .ok (.ireturn, 1) := by decide +kernel
theorem dX1_fewestAmong_10 : decode cX1_fewestAmong 10 = .ok (.bipush 99, 2) := by decide +kernel
theorem dX1_fewestAmong_12 : decode cX1_fewestAmong 12 = .ok (.istore_n 3, 1) := by decide +kernel
theorem dX1_fewestAmong_13 : decode cX1_fewestAmong 13 = .ok (.iconst 0, 1) := by decide +kernel
theorem dX1_fewestAmong_14 : decode cX1_fewestAmong 14 = .ok (.istore 4, 2) := by decide +kernel
theorem dX1_fewestAmong_16 : decode cX1_fewestAmong 16 = .ok (.iload 4, 2) := by decide +kernel
theorem dX1_fewestAmong_18 : decode cX1_fewestAmong 18 = .ok (.iload_n 2, 1) := by decide +kernel
theorem dX1_fewestAmong_19 : decode cX1_fewestAmong 19 = .ok (.if_icmp .ge 21, 3) := by decide +kernel
theorem dX1_fewestAmong_22 : decode cX1_fewestAmong 22 = .ok (.iload_n 3, 1) := by decide +kernel
theorem dX1_fewestAmong_23 : decode cX1_fewestAmong 23 = .ok (.aload_n 0, 1) := by decide +kernel
theorem dX1_fewestAmong_24 : decode cX1_fewestAmong 24 = .ok (.iload_n 1, 1) := by decide +kernel
theorem dX1_fewestAmong_25 : decode cX1_fewestAmong 25 = .ok (.iload 4, 2) := by decide +kernel
theorem dX1_fewestAmong_27 : decode cX1_fewestAmong 27 = .ok (.invokevirtual 36, 3) := by decide +kernel
theorem dX1_fewestAmong_30 : decode cX1_fewestAmong 30 = .ok (.invokestatic 39, 3) := by decide +kernel
theorem dX1_fewestAmong_33 : decode cX1_fewestAmong 33 = .ok (.istore_n 3, 1) := by decide +kernel
theorem dX1_fewestAmong_34 : decode cX1_fewestAmong 34 = .ok (.iinc 4 1, 3) := by decide +kernel
theorem dX1_fewestAmong_37 : decode cX1_fewestAmong 37 = .ok (.goto (-21), 3) := by decide +kernel
theorem dX1_fewestAmong_40 : decode cX1_fewestAmong 40 = .ok (.iload_n 3, 1) := by decide +kernel
theorem dX1_fewestAmong_41 : decode cX1_fewestAmong 41 = .ok (.ireturn, 1) := by decide +kernel
theorem dX1_fewestBy_0 : decode cX1_fewestBy 0 = .ok (.iload_n 1, 1) := by decide +kernel
theorem dX1_fewestBy_1 : decode cX1_fewestBy 1 = .ok (.aload_n 0, 1) := by decide +kernel
theorem dX1_fewestBy_2 : decode cX1_fewestBy 2 = .ok (.getfield 9, 3) := by decide +kernel
theorem dX1_fewestBy_5 : decode cX1_fewestBy 5 = .ok (.iload_n 2, 1) := by decide +kernel
theorem dX1_fewestBy_6 : decode cX1_fewestBy 6 = .ok (.invokestatic 26, 3) := by decide +kernel
theorem dX1_fewestBy_9 : decode cX1_fewestBy 9 = .ok (.iand, 1) := by decide +kernel
theorem dX1_fewestBy_10 : decode cX1_fewestBy 10 = .ok (.istore_n 3, 1) := by decide +kernel
theorem dX1_fewestBy_11 : decode cX1_fewestBy 11 = .ok (.iload_n 1, 1) := by decide +kernel
theorem dX1_fewestBy_12 : decode cX1_fewestBy 12 = .ok (.iload_n 3, 1) := by decide +kernel
theorem dX1_fewestBy_13 : decode cX1_fewestBy 13 = .ok (.iconst (-1), 1) := by decide +kernel
theorem dX1_fewestBy_14 : decode cX1_fewestBy 14 = .ok (.ixor, 1) := by decide +kernel
theorem dX1_fewestBy_15 : decode cX1_fewestBy 15 = .ok (.iand, 1) := by decide +kernel
theorem dX1_fewestBy_16 : decode cX1_fewestBy 16 = .ok (.istore 4, 2) := by decide +kernel
theorem dX1_fewestBy_18 : decode cX1_fewestBy 18 = .ok (.iload_n 3, 1) := by decide +kernel
theorem dX1_fewestBy_19 : decode cX1_fewestBy 19 = .ok (.ifCond .eq 8, 3) := by decide +kernel
theorem dX1_fewestBy_22 : decode cX1_fewestBy 22 = .ok (.iload 4, 2) := by decide +kernel
theorem dX1_fewestBy_24 : decode cX1_fewestBy 24 = .ok (.ifCond .ne 6, 3) := by decide +kernel
theorem dX1_fewestBy_27 : decode cX1_fewestBy 27 = .ok (.bipush 99, 2) := by decide +kernel
theorem dX1_fewestBy_29 : decode cX1_fewestBy 29 = .ok (.ireturn, 1) := by decide +kernel
theorem dX1_fewestBy_30 : decode cX1_fewestBy 30 = .ok (.iconst 1, 1) := by decide +kernel
theorem dX1_fewestBy_31 : decode cX1_fewestBy 31 = .ok (.aload_n 0, 1) := by decide +kernel
theorem dX1_fewestBy_32 : decode cX1_fewestBy 32 = .ok (.getfield 15, 3) := by decide +kernel
theorem dX1_fewestBy_35 : decode cX1_fewestBy 35 = .ok (.iload_n 3, 1) := by decide +kernel
theorem dX1_fewestBy_36 : decode cX1_fewestBy 36 = .ok (.invokestatic 26, 3) := by decide +kernel
theorem dX1_fewestBy_39 : decode cX1_fewestBy 39 = .ok (.aload_n 0, 1) := by decide +kernel
theorem dX1_fewestBy_40 : decode cX1_fewestBy 40 = .ok (.getfield 15, 3) := by decide +kernel
theorem dX1_fewestBy_43 : decode cX1_fewestBy 43 = .ok (.iload 4, 2) := by decide +kernel
theorem dX1_fewestBy_45 : decode cX1_fewestBy 45 = .ok (.invokestatic 26, 3) := by decide +kernel
theorem dX1_fewestBy_48 : decode cX1_fewestBy 48 = .ok (.invokestatic 44, 3) := by decide +kernel
theorem dX1_fewestBy_51 : decode cX1_fewestBy 51 = .ok (.iadd, 1) := by decide +kernel
theorem dX1_fewestBy_52 : decode cX1_fewestBy 52 = .ok (.ireturn, 1) := by decide +kernel
theorem dX1_firstOf_0 : decode cX1_firstOf 0 = .ok (.aload_n 0, 1) := by decide +kernel
theorem dX1_firstOf_1 : decode cX1_firstOf 1 = .ok (.getfield 15, 3) := by decide +kernel
theorem dX1_firstOf_4 : decode cX1_firstOf 4 = .ok (.iload_n 1, 1) := by decide +kernel
theorem dX1_firstOf_5 : decode cX1_firstOf 5 = .ok (.invokestatic 26, 3) := by decide +kernel
theorem dX1_firstOf_8 : decode cX1_firstOf 8 = .ok (.ifCond .ne 5, 3) := by decide +kernel
theorem dX1_firstOf_11 : decode cX1_firstOf 11 = .ok (.iconst (-1), 1) := by decide +kernel
theorem dX1_firstOf_12 : decode cX1_firstOf 12 = .ok (.ireturn, 1) := by decide +kernel
theorem dX1_firstOf_13 : decode cX1_firstOf 13 = .ok (.iconst 0, 1) := by decide +kernel
theorem dX1_firstOf_14 : decode cX1_firstOf 14 = .ok (.istore_n 3, 1) := by decide +kernel
theorem dX1_firstOf_15 : decode cX1_firstOf 15 = .ok (.iload_n 3, 1) := by decide +kernel
theorem dX1_firstOf_16 : decode cX1_firstOf 16 = .ok (.iload_n 2, 1) := by decide +kernel
theorem dX1_firstOf_17 : decode cX1_firstOf 17 = .ok (.if_icmp .ge 28, 3) := by decide +kernel
theorem dX1_firstOf_20 : decode cX1_firstOf 20 = .ok (.aload_n 0, 1) := by decide +kernel
theorem dX1_firstOf_21 : decode cX1_firstOf 21 = .ok (.iload_n 1, 1) := by decide +kernel
theorem dX1_firstOf_22 : decode cX1_firstOf 22 = .ok (.iload_n 3, 1) := by decide +kernel
theorem dX1_firstOf_23 : decode cX1_firstOf 23 = .ok (.invokevirtual 36, 3) := by decide +kernel
theorem dX1_firstOf_26 : decode cX1_firstOf 26 = .ok (.aload_n 0, 1) := by decide +kernel
theorem dX1_firstOf_27 : decode cX1_firstOf 27 = .ok (.getfield 15, 3) := by decide +kernel
theorem dX1_firstOf_30 : decode cX1_firstOf 30 = .ok (.iload_n 1, 1) := by decide +kernel
theorem dX1_firstOf_31 : decode cX1_firstOf 31 = .ok (.invokestatic 26, 3) := by decide +kernel
theorem dX1_firstOf_34 : decode cX1_firstOf 34 = .ok (.if_icmp .ne 5, 3) := by decide +kernel
theorem dX1_firstOf_37 : decode cX1_firstOf 37 = .ok (.iload_n 3, 1) := by decide +kernel
theorem dX1_firstOf_38 : decode cX1_firstOf 38 = .ok (.ireturn, 1) := by decide +kernel
theorem dX1_firstOf_39 : decode cX1_firstOf 39 = .ok (.iinc 3 1, 3) := by decide +kernel
theorem dX1_firstOf_42 : decode cX1_firstOf 42 = .ok (.goto (-27), 3) := by decide +kernel
theorem dX1_firstOf_45 : decode cX1_firstOf 45 = .ok (.iconst (-1), 1) := by decide +kernel
theorem dX1_firstOf_46 : decode cX1_firstOf 46 = .ok (.ireturn, 1) := by decide +kernel
theorem dX2_init_0 : decode cX2_init 0 = .ok (.aload_n 0, 1) := by decide +kernel
theorem dX2_init_1 : decode cX2_init 1 = .ok (.invokespecial 3, 3) := by decide +kernel
theorem dX2_init_4 : decode cX2_init 4 = .ok (.aload_n 0, 1) := by decide +kernel
theorem dX2_init_5 : decode cX2_init 5 = .ok (.bipush 10, 2) := by decide +kernel
theorem dX2_init_7 : decode cX2_init 7 = .ok (.newarray .int, 2) := by decide +kernel
theorem dX2_init_9 : decode cX2_init 9 = .ok (.putfield 9, 3) := by decide +kernel
theorem dX2_init_12 : decode cX2_init 12 = .ok (.aload_n 0, 1) := by decide +kernel
theorem dX2_init_13 : decode cX2_init 13 = .ok (.iconst 0, 1) := by decide +kernel
theorem dX2_init_14 : decode cX2_init 14 = .ok (.putfield 15, 3) := by decide +kernel
theorem dX2_init_17 : decode cX2_init 17 = .ok (.return_, 1) := by decide +kernel
theorem dX2_callAt_0 : decode cX2_callAt 0 = .ok (.aload_n 0, 1) := by decide +kernel
theorem dX2_callAt_1 : decode cX2_callAt 1 = .ok (.getfield 9, 3) := by decide +kernel
theorem dX2_callAt_4 : decode cX2_callAt 4 = .ok (.iconst (-1), 1) := by decide +kernel
theorem dX2_callAt_5 : decode cX2_callAt 5 = .ok (.invokestatic 19, 3) := by decide +kernel
theorem dX2_callAt_8 : decode cX2_callAt 8 = .ok (.aload_n 0, 1) := by decide +kernel
theorem dX2_callAt_9 : decode cX2_callAt 9 = .ok (.iconst 0, 1) := by decide +kernel
theorem dX2_callAt_10 : decode cX2_callAt 10 = .ok (.putfield 15, 3) := by decide +kernel
theorem dX2_callAt_13 : decode cX2_callAt 13 = .ok (.aload_n 0, 1) := by decide +kernel
theorem dX2_callAt_14 : decode cX2_callAt 14 = .ok (.aload_n 1, 1) := by decide +kernel
theorem dX2_callAt_15 : decode cX2_callAt 15 = .ok (.iload_n 2, 1) := by decide +kernel
theorem dX2_callAt_16 : decode cX2_callAt 16 = .ok (.invokevirtual 25, 3) := by decide +kernel
theorem dX2_callAt_19 : decode cX2_callAt 19 = .ok (.return_, 1) := by decide +kernel
theorem dX2_callOn_0 : decode cX2_callOn 0 = .ok (.aload_n 0, 1) := by decide +kernel
theorem dX2_callOn_1 : decode cX2_callOn 1 = .ok (.getfield 15, 3) := by decide +kernel
theorem dX2_callOn_4 : decode cX2_callOn 4 = .ok (.aload_n 1, 1) := by decide +kernel
theorem dX2_callOn_5 : decode cX2_callOn 5 = .ok (.getfield 29, 3) := by decide +kernel
theorem dX2_callOn_8 : decode cX2_callOn 8 = .ok (.if_icmp .ge 62, 3) := by decide +kernel
theorem dX2_callOn_11 : decode cX2_callOn 11 = .ok (.aload_n 1, 1) := by decide +kernel
theorem dX2_callOn_12 : decode cX2_callOn 12 = .ok (.aload_n 0, 1) := by decide +kernel
theorem dX2_callOn_13 : decode cX2_callOn 13 = .ok (.getfield 15, 3) := by decide +kernel
theorem dX2_callOn_16 : decode cX2_callOn 16 = .ok (.iconst 2, 1) := by decide +kernel
theorem dX2_callOn_17 : decode cX2_callOn 17 = .ok (.invokevirtual 34, 3) := by decide +kernel
theorem dX2_callOn_20 : decode cX2_callOn 20 = .ok (.iload_n 2, 1) := by decide +kernel
theorem dX2_callOn_21 : decode cX2_callOn 21 = .ok (.if_icmp .gt 49, 3) := by decide +kernel
theorem dX2_callOn_24 : decode cX2_callOn 24 = .ok (.aload_n 1, 1) := by decide +kernel
theorem dX2_callOn_25 : decode cX2_callOn 25 = .ok (.aload_n 0, 1) := by decide +kernel
theorem dX2_callOn_26 : decode cX2_callOn 26 = .ok (.getfield 15, 3) := by decide +kernel
theorem dX2_callOn_29 : decode cX2_callOn 29 = .ok (.iconst 5, 1) := by decide +kernel
theorem dX2_callOn_30 : decode cX2_callOn 30 = .ok (.invokevirtual 34, 3) := by decide +kernel
theorem dX2_callOn_33 : decode cX2_callOn 33 = .ok (.iconst 1, 1) := by decide +kernel
theorem dX2_callOn_34 : decode cX2_callOn 34 = .ok (.if_icmp .ne 23, 3) := by decide +kernel
theorem dX2_callOn_37 : decode cX2_callOn 37 = .ok (.aload_n 0, 1) := by decide +kernel
theorem dX2_callOn_38 : decode cX2_callOn 38 = .ok (.getfield 9, 3) := by decide +kernel
theorem dX2_callOn_41 : decode cX2_callOn 41 = .ok (.aload_n 1, 1) := by decide +kernel
theorem dX2_callOn_42 : decode cX2_callOn 42 = .ok (.aload_n 0, 1) := by decide +kernel
theorem dX2_callOn_43 : decode cX2_callOn 43 = .ok (.getfield 15, 3) := by decide +kernel
theorem dX2_callOn_46 : decode cX2_callOn 46 = .ok (.iconst 1, 1) := by decide +kernel
theorem dX2_callOn_47 : decode cX2_callOn 47 = .ok (.invokevirtual 34, 3) := by decide +kernel
theorem dX2_callOn_50 : decode cX2_callOn 50 = .ok (.aload_n 0, 1) := by decide +kernel
theorem dX2_callOn_51 : decode cX2_callOn 51 = .ok (.getfield 15, 3) := by decide +kernel
theorem dX2_callOn_54 : decode cX2_callOn 54 = .ok (.invokestatic 38, 3) := by decide +kernel
theorem dX2_callOn_57 : decode cX2_callOn 57 = .ok (.aload_n 0, 1) := by decide +kernel
theorem dX2_callOn_58 : decode cX2_callOn 58 = .ok (.dup, 1) := by decide +kernel
theorem dX2_callOn_59 : decode cX2_callOn 59 = .ok (.getfield 15, 3) := by decide +kernel
theorem dX2_callOn_62 : decode cX2_callOn 62 = .ok (.iconst 1, 1) := by decide +kernel
theorem dX2_callOn_63 : decode cX2_callOn 63 = .ok (.iadd, 1) := by decide +kernel
theorem dX2_callOn_64 : decode cX2_callOn 64 = .ok (.putfield 15, 3) := by decide +kernel
theorem dX2_callOn_67 : decode cX2_callOn 67 = .ok (.goto (-67), 3) := by decide +kernel
theorem dX2_callOn_70 : decode cX2_callOn 70 = .ok (.return_, 1) := by decide +kernel
theorem dX2_nameOf_0 : decode cX2_nameOf 0 = .ok (.aload_n 0, 1) := by decide +kernel
theorem dX2_nameOf_1 : decode cX2_nameOf 1 = .ok (.getfield 9, 3) := by decide +kernel
theorem dX2_nameOf_4 : decode cX2_nameOf 4 = .ok (.iload_n 2, 1) := by decide +kernel
theorem dX2_nameOf_5 : decode cX2_nameOf 5 = .ok (.invokestatic 42, 3) := by decide +kernel
theorem dX2_nameOf_8 : decode cX2_nameOf 8 = .ok (.istore_n 3, 1) := by decide +kernel
theorem dX2_nameOf_9 : decode cX2_nameOf 9 = .ok (.iload_n 3, 1) := by decide +kernel
theorem dX2_nameOf_10 : decode cX2_nameOf 10 = .ok (.iconst (-1), 1) := by decide +kernel
theorem dX2_nameOf_11 : decode cX2_nameOf 11 = .ok (.if_icmp .ne 7, 3) := by decide +kernel
theorem dX2_nameOf_14 : decode cX2_nameOf 14 = .ok (.iconst (-1), 1) := by decide +kernel
theorem dX2_nameOf_15 : decode cX2_nameOf 15 = .ok (.goto 9, 3) := by decide +kernel
theorem dX2_nameOf_18 : decode cX2_nameOf 18 = .ok (.aload_n 1, 1) := by decide +kernel
theorem dX2_nameOf_19 : decode cX2_nameOf 19 = .ok (.iload_n 3, 1) := by decide +kernel
theorem dX2_nameOf_20 : decode cX2_nameOf 20 = .ok (.iconst 0, 1) := by decide +kernel
theorem dX2_nameOf_21 : decode cX2_nameOf 21 = .ok (.invokevirtual 34, 3) := by decide +kernel
theorem dX2_nameOf_24 : decode cX2_nameOf 24 = .ok (.ireturn, 1) := by decide +kernel
theorem dX2_housesOf_0 : decode cX2_housesOf 0 = .ok (.iconst 0, 1) := by decide +kernel
theorem dX2_housesOf_1 : decode cX2_housesOf 1 = .ok (.istore_n 3, 1) := by decide +kernel
theorem dX2_housesOf_2 : decode cX2_housesOf 2 = .ok (.iconst 0, 1) := by decide +kernel
theorem dX2_housesOf_3 : decode cX2_housesOf 3 = .ok (.istore 4, 2) := by decide +kernel
theorem dX2_housesOf_5 : decode cX2_housesOf 5 = .ok (.iload 4, 2) := by decide +kernel
theorem dX2_housesOf_7 : decode cX2_housesOf 7 = .ok (.bipush 10, 2) := by decide +kernel
theorem dX2_housesOf_9 : decode cX2_housesOf 9 = .ok (.if_icmp .ge 27, 3) := by decide +kernel
theorem dX2_housesOf_12 : decode cX2_housesOf 12 = .ok (.aload_n 0, 1) := by decide +kernel
theorem dX2_housesOf_13 : decode cX2_housesOf 13 = .ok (.aload_n 1, 1) := by decide +kernel
theorem dX2_housesOf_14 : decode cX2_housesOf 14 = .ok (.iload 4, 2) := by decide +kernel
theorem dX2_housesOf_16 : decode cX2_housesOf 16 = .ok (.invokevirtual 46, 3) := by decide +kernel
theorem dX2_housesOf_19 : decode cX2_housesOf 19 = .ok (.iload_n 2, 1) := by decide +kernel
theorem dX2_housesOf_20 : decode cX2_housesOf 20 = .ok (.if_icmp .ne 10, 3) := by decide +kernel
theorem dX2_housesOf_23 : decode cX2_housesOf 23 = .ok (.iload_n 3, 1) := by decide +kernel
theorem dX2_housesOf_24 : decode cX2_housesOf 24 = .ok (.iconst 1, 1) := by decide +kernel
theorem dX2_housesOf_25 : decode cX2_housesOf 25 = .ok (.iload 4, 2) := by decide +kernel
theorem dX2_housesOf_27 : decode cX2_housesOf 27 = .ok (.ishl, 1) := by decide +kernel
theorem dX2_housesOf_28 : decode cX2_housesOf 28 = .ok (.ior, 1) := by decide +kernel
theorem dX2_housesOf_29 : decode cX2_housesOf 29 = .ok (.istore_n 3, 1) := by decide +kernel
theorem dX2_housesOf_30 : decode cX2_housesOf 30 = .ok (.iinc 4 1, 3) := by decide +kernel
theorem dX2_housesOf_33 : decode cX2_housesOf 33 = .ok (.goto (-28), 3) := by decide +kernel
theorem dX2_housesOf_36 : decode cX2_housesOf 36 = .ok (.iload_n 3, 1) := by decide +kernel
theorem dX2_housesOf_37 : decode cX2_housesOf 37 = .ok (.ireturn, 1) := by decide +kernel
theorem dX2_leastOf_0 : decode cX2_leastOf 0 = .ok (.iconst 0, 1) := by decide +kernel
theorem dX2_leastOf_1 : decode cX2_leastOf 1 = .ok (.istore_n 1, 1) := by decide +kernel
theorem dX2_leastOf_2 : decode cX2_leastOf 2 = .ok (.iload_n 1, 1) := by decide +kernel
theorem dX2_leastOf_3 : decode cX2_leastOf 3 = .ok (.bipush 10, 2) := by decide +kernel
theorem dX2_leastOf_5 : decode cX2_leastOf 5 = .ok (.if_icmp .ge 17, 3) := by decide +kernel
theorem dX2_leastOf_8 : decode cX2_leastOf 8 = .ok (.iload_n 0, 1) := by decide +kernel
theorem dX2_leastOf_9 : decode cX2_leastOf 9 = .ok (.iload_n 1, 1) := by decide +kernel
theorem dX2_leastOf_10 : decode cX2_leastOf 10 = .ok (.ishr, 1) := by decide +kernel
theorem dX2_leastOf_11 : decode cX2_leastOf 11 = .ok (.iconst 1, 1) := by decide +kernel
theorem dX2_leastOf_12 : decode cX2_leastOf 12 = .ok (.iand, 1) := by decide +kernel
theorem dX2_leastOf_13 : decode cX2_leastOf 13 = .ok (.ifCond .ne 9, 3) := by decide +kernel
theorem dX2_leastOf_16 : decode cX2_leastOf 16 = .ok (.iinc 1 1, 3) := by decide +kernel
theorem dX2_leastOf_19 : decode cX2_leastOf 19 = .ok (.goto (-17), 3) := by decide +kernel
theorem dX2_leastOf_22 : decode cX2_leastOf 22 = .ok (.iload_n 1, 1) := by decide +kernel
theorem dX2_leastOf_23 : decode cX2_leastOf 23 = .ok (.ireturn, 1) := by decide +kernel
theorem dX3_init_0 : decode cX3_init 0 = .ok (.aload_n 0, 1) := by decide +kernel
theorem dX3_init_1 : decode cX3_init 1 = .ok (.invokespecial 5, 3) := by decide +kernel
theorem dX3_init_4 : decode cX3_init 4 = .ok (.aload_n 0, 1) := by decide +kernel
theorem dX3_init_5 : decode cX3_init 5 = .ok (.iconst 0, 1) := by decide +kernel
theorem dX3_init_6 : decode cX3_init 6 = .ok (.putfield 11, 3) := by decide +kernel
theorem dX3_init_9 : decode cX3_init 9 = .ok (.aload_n 0, 1) := by decide +kernel
theorem dX3_init_10 : decode cX3_init 10 = .ok (.iconst 0, 1) := by decide +kernel
theorem dX3_init_11 : decode cX3_init 11 = .ok (.putfield 15, 3) := by decide +kernel
theorem dX3_init_14 : decode cX3_init 14 = .ok (.aload_n 0, 1) := by decide +kernel
theorem dX3_init_15 : decode cX3_init 15 = .ok (.iconst 0, 1) := by decide +kernel
theorem dX3_init_16 : decode cX3_init 16 = .ok (.putfield 18, 3) := by decide +kernel
theorem dX3_init_19 : decode cX3_init 19 = .ok (.aload_n 0, 1) := by decide +kernel
theorem dX3_init_20 : decode cX3_init 20 = .ok (.bipush 41, 2) := by decide +kernel
theorem dX3_init_22 : decode cX3_init 22 = .ok (.newarray .int, 2) := by decide +kernel
theorem dX3_init_24 : decode cX3_init 24 = .ok (.putfield 21, 3) := by decide +kernel
theorem dX3_init_27 : decode cX3_init 27 = .ok (.return_, 1) := by decide +kernel
theorem dX3_compare_0 : decode cX3_compare 0 = .ok (.iconst 0, 1) := by decide +kernel
theorem dX3_compare_1 : decode cX3_compare 1 = .ok (.istore_n 3, 1) := by decide +kernel
theorem dX3_compare_2 : decode cX3_compare 2 = .ok (.iload_n 3, 1) := by decide +kernel
theorem dX3_compare_3 : decode cX3_compare 3 = .ok (.aload_n 1, 1) := by decide +kernel
theorem dX3_compare_4 : decode cX3_compare 4 = .ok (.getfield 25, 3) := by decide +kernel
theorem dX3_compare_7 : decode cX3_compare 7 = .ok (.if_icmp .gt 22, 3) := by decide +kernel
theorem dX3_compare_10 : decode cX3_compare 10 = .ok (.aload_n 0, 1) := by decide +kernel
theorem dX3_compare_11 : decode cX3_compare 11 = .ok (.getfield 21, 3) := by decide +kernel
theorem dX3_compare_14 : decode cX3_compare 14 = .ok (.iload_n 3, 1) := by decide +kernel
theorem dX3_compare_15 : decode cX3_compare 15 = .ok (.iload_n 3, 1) := by decide +kernel
theorem dX3_compare_16 : decode cX3_compare 16 = .ok (.sipush 1000, 3) := by decide +kernel
theorem dX3_compare_19 : decode cX3_compare 19 = .ok (.imul, 1) := by decide +kernel
theorem dX3_compare_20 : decode cX3_compare 20 = .ok (.invokestatic 30, 3) := by decide +kernel
theorem dX3_compare_23 : decode cX3_compare 23 = .ok (.iinc 3 1, 3) := by decide +kernel
theorem dX3_compare_26 : decode cX3_compare 26 = .ok (.goto (-24), 3) := by decide +kernel
theorem dX3_compare_29 : decode cX3_compare 29 = .ok (.aload_n 0, 1) := by decide +kernel
theorem dX3_compare_30 : decode cX3_compare 30 = .ok (.iconst 0, 1) := by decide +kernel
theorem dX3_compare_31 : decode cX3_compare 31 = .ok (.putfield 18, 3) := by decide +kernel
theorem dX3_compare_34 : decode cX3_compare 34 = .ok (.iconst 0, 1) := by decide +kernel
theorem dX3_compare_35 : decode cX3_compare 35 = .ok (.istore_n 3, 1) := by decide +kernel
theorem dX3_compare_36 : decode cX3_compare 36 = .ok (.iload_n 3, 1) := by decide +kernel
theorem dX3_compare_37 : decode cX3_compare 37 = .ok (.aload_n 1, 1) := by decide +kernel
theorem dX3_compare_38 : decode cX3_compare 38 = .ok (.getfield 34, 3) := by decide +kernel
theorem dX3_compare_41 : decode cX3_compare 41 = .ok (.if_icmp .ge 39, 3) := by decide +kernel
theorem dX3_compare_44 : decode cX3_compare 44 = .ok (.aload_n 1, 1) := by decide +kernel
theorem dX3_compare_45 : decode cX3_compare 45 = .ok (.iload_n 3, 1) := by decide +kernel
theorem dX3_compare_46 : decode cX3_compare 46 = .ok (.invokevirtual 37, 3) := by decide +kernel
theorem dX3_compare_49 : decode cX3_compare 49 = .ok (.iload_n 2, 1) := by decide +kernel
theorem dX3_compare_50 : decode cX3_compare 50 = .ok (.if_icmp .ne 24, 3) := by decide +kernel
theorem dX3_compare_53 : decode cX3_compare 53 = .ok (.aload_n 0, 1) := by decide +kernel
theorem dX3_compare_54 : decode cX3_compare 54 = .ok (.aload_n 1, 1) := by decide +kernel
theorem dX3_compare_55 : decode cX3_compare 55 = .ok (.aload_n 1, 1) := by decide +kernel
theorem dX3_compare_56 : decode cX3_compare 56 = .ok (.iload_n 3, 1) := by decide +kernel
theorem dX3_compare_57 : decode cX3_compare 57 = .ok (.iconst 0, 1) := by decide +kernel
theorem dX3_compare_58 : decode cX3_compare 58 = .ok (.invokevirtual 41, 3) := by decide +kernel
theorem dX3_compare_61 : decode cX3_compare 61 = .ok (.invokevirtual 45, 3) := by decide +kernel
theorem dX3_compare_64 : decode cX3_compare 64 = .ok (.aload_n 0, 1) := by decide +kernel
theorem dX3_compare_65 : decode cX3_compare 65 = .ok (.dup, 1) := by decide +kernel
theorem dX3_compare_66 : decode cX3_compare 66 = .ok (.getfield 18, 3) := by decide +kernel
theorem dX3_compare_69 : decode cX3_compare 69 = .ok (.iconst 1, 1) := by decide +kernel
theorem dX3_compare_70 : decode cX3_compare 70 = .ok (.iadd, 1) := by decide +kernel
theorem dX3_compare_71 : decode cX3_compare 71 = .ok (.putfield 18, 3) := by decide +kernel
theorem dX3_compare_74 : decode cX3_compare 74 = .ok (.iinc 3 1, 3) := by decide +kernel
theorem dX3_compare_77 : decode cX3_compare 77 = .ok (.goto (-41), 3) := by decide +kernel
theorem dX3_compare_80 : decode cX3_compare 80 = .ok (.aload_n 0, 1) := by decide +kernel
theorem dX3_compare_81 : decode cX3_compare 81 = .ok (.getfield 21, 3) := by decide +kernel
theorem dX3_compare_84 : decode cX3_compare 84 = .ok (.aload_n 1, 1) := by decide +kernel
theorem dX3_compare_85 : decode cX3_compare 85 = .ok (.getfield 25, 3) := by decide +kernel
theorem dX3_compare_88 : decode cX3_compare 88 = .ok (.invokestatic 49, 3) := by decide +kernel
theorem dX3_compare_91 : decode cX3_compare 91 = .ok (.istore_n 3, 1) := by decide +kernel
theorem dX3_compare_92 : decode cX3_compare 92 = .ok (.aload_n 0, 1) := by decide +kernel
theorem dX3_compare_93 : decode cX3_compare 93 = .ok (.iload_n 3, 1) := by decide +kernel
theorem dX3_compare_94 : decode cX3_compare 94 = .ok (.sipush 1000, 3) := by decide +kernel
theorem dX3_compare_97 : decode cX3_compare 97 = .ok (.iadd, 1) := by decide +kernel
theorem dX3_compare_98 : decode cX3_compare 98 = .ok (.iconst 1, 1) := by decide +kernel
theorem dX3_compare_99 : decode cX3_compare 99 = .ok (.isub, 1) := by decide +kernel
theorem dX3_compare_100 : decode cX3_compare 100 = .ok (.sipush 1000, 3) := by decide +kernel
theorem dX3_compare_103 : decode cX3_compare 103 = .ok (.idiv, 1) := by decide +kernel
theorem dX3_compare_104 : decode cX3_compare 104 = .ok (.putfield 11, 3) := by decide +kernel
theorem dX3_compare_107 : decode cX3_compare 107 = .ok (.aload_n 0, 1) := by decide +kernel
theorem dX3_compare_108 : decode cX3_compare 108 = .ok (.aload_n 0, 1) := by decide +kernel
theorem dX3_compare_109 : decode cX3_compare 109 = .ok (.getfield 11, 3) := by decide +kernel
theorem dX3_compare_112 : decode cX3_compare 112 = .ok (.sipush 1000, 3) := by decide +kernel
theorem dX3_compare_115 : decode cX3_compare 115 = .ok (.imul, 1) := by decide +kernel
theorem dX3_compare_116 : decode cX3_compare 116 = .ok (.iload_n 3, 1) := by decide +kernel
theorem dX3_compare_117 : decode cX3_compare 117 = .ok (.isub, 1) := by decide +kernel
theorem dX3_compare_118 : decode cX3_compare 118 = .ok (.putfield 15, 3) := by decide +kernel
theorem dX3_compare_121 : decode cX3_compare 121 = .ok (.return_, 1) := by decide +kernel
theorem dX3_addTrueOne_0 : decode cX3_addTrueOne 0 = .ok (.aload_n 0, 1) := by decide +kernel
theorem dX3_addTrueOne_1 : decode cX3_addTrueOne 1 = .ok (.getfield 21, 3) := by decide +kernel
theorem dX3_addTrueOne_4 : decode cX3_addTrueOne 4 = .ok (.iconst 0, 1) := by decide +kernel
theorem dX3_addTrueOne_5 : decode cX3_addTrueOne 5 = .ok (.invokestatic 49, 3) := by decide +kernel
theorem dX3_addTrueOne_8 : decode cX3_addTrueOne 8 = .ok (.istore_n 3, 1) := by decide +kernel
theorem dX3_addTrueOne_9 : decode cX3_addTrueOne 9 = .ok (.aload_n 0, 1) := by decide +kernel
theorem dX3_addTrueOne_10 : decode cX3_addTrueOne 10 = .ok (.getfield 21, 3) := by decide +kernel
theorem dX3_addTrueOne_13 : decode cX3_addTrueOne 13 = .ok (.iconst 0, 1) := by decide +kernel
theorem dX3_addTrueOne_14 : decode cX3_addTrueOne 14 = .ok (.iload_n 3, 1) := by decide +kernel
theorem dX3_addTrueOne_15 : decode cX3_addTrueOne 15 = .ok (.sipush 999, 3) := by decide +kernel
theorem dX3_addTrueOne_18 : decode cX3_addTrueOne 18 = .ok (.iadd, 1) := by decide +kernel
theorem dX3_addTrueOne_19 : decode cX3_addTrueOne 19 = .ok (.invokestatic 30, 3) := by decide +kernel
theorem dX3_addTrueOne_22 : decode cX3_addTrueOne 22 = .ok (.iconst 1, 1) := by decide +kernel
theorem dX3_addTrueOne_23 : decode cX3_addTrueOne 23 = .ok (.istore 4, 2) := by decide +kernel
theorem dX3_addTrueOne_25 : decode cX3_addTrueOne 25 = .ok (.iload 4, 2) := by decide +kernel
theorem dX3_addTrueOne_27 : decode cX3_addTrueOne 27 = .ok (.aload_n 1, 1) := by decide +kernel
theorem dX3_addTrueOne_28 : decode cX3_addTrueOne 28 = .ok (.getfield 25, 3) := by decide +kernel
theorem dX3_addTrueOne_31 : decode cX3_addTrueOne 31 = .ok (.if_icmp .gt 91, 3) := by decide +kernel
theorem dX3_addTrueOne_34 : decode cX3_addTrueOne 34 = .ok (.aload_n 0, 1) := by decide +kernel
theorem dX3_addTrueOne_35 : decode cX3_addTrueOne 35 = .ok (.getfield 21, 3) := by decide +kernel
theorem dX3_addTrueOne_38 : decode cX3_addTrueOne 38 = .ok (.iload 4, 2) := by decide +kernel
theorem dX3_addTrueOne_40 : decode cX3_addTrueOne 40 = .ok (.invokestatic 49, 3) := by decide +kernel
theorem dX3_addTrueOne_43 : decode cX3_addTrueOne 43 = .ok (.istore 5, 2) := by decide +kernel
theorem dX3_addTrueOne_45 : decode cX3_addTrueOne 45 = .ok (.iload_n 3, 1) := by decide +kernel
theorem dX3_addTrueOne_46 : decode cX3_addTrueOne 46 = .ok (.aload_n 1, 1) := by decide +kernel
theorem dX3_addTrueOne_47 : decode cX3_addTrueOne 47 = .ok (.getfield 53, 3) := by decide +kernel
theorem dX3_addTrueOne_50 : decode cX3_addTrueOne 50 = .ok (.iload 4, 2) := by decide +kernel
theorem dX3_addTrueOne_52 : decode cX3_addTrueOne 52 = .ok (.iconst 1, 1) := by decide +kernel
theorem dX3_addTrueOne_53 : decode cX3_addTrueOne 53 = .ok (.isub, 1) := by decide +kernel
theorem dX3_addTrueOne_54 : decode cX3_addTrueOne 54 = .ok (.invokestatic 49, 3) := by decide +kernel
theorem dX3_addTrueOne_57 : decode cX3_addTrueOne 57 = .ok (.iload_n 2, 1) := by decide +kernel
theorem dX3_addTrueOne_58 : decode cX3_addTrueOne 58 = .ok (.if_icmp .ne 7, 3) := by decide +kernel
theorem dX3_addTrueOne_61 : decode cX3_addTrueOne 61 = .ok (.iconst 0, 1) := by decide +kernel
theorem dX3_addTrueOne_62 : decode cX3_addTrueOne 62 = .ok (.goto 6, 3) := by decide +kernel
theorem dX3_addTrueOne_65 : decode cX3_addTrueOne 65 = .ok (.sipush 1000, 3) := by decide +kernel
theorem dX3_addTrueOne_68 : decode cX3_addTrueOne 68 = .ok (.iadd, 1) := by decide +kernel
theorem dX3_addTrueOne_69 : decode cX3_addTrueOne 69 = .ok (.istore 6, 2) := by decide +kernel
theorem dX3_addTrueOne_71 : decode cX3_addTrueOne 71 = .ok (.aload_n 0, 1) := by decide +kernel
theorem dX3_addTrueOne_72 : decode cX3_addTrueOne 72 = .ok (.getfield 21, 3) := by decide +kernel
theorem dX3_addTrueOne_75 : decode cX3_addTrueOne 75 = .ok (.iload 4, 2) := by decide +kernel
theorem dX3_addTrueOne_77 : decode cX3_addTrueOne 77 = .ok (.iconst 1, 1) := by decide +kernel
theorem dX3_addTrueOne_78 : decode cX3_addTrueOne 78 = .ok (.isub, 1) := by decide +kernel
theorem dX3_addTrueOne_79 : decode cX3_addTrueOne 79 = .ok (.invokestatic 49, 3) := by decide +kernel
theorem dX3_addTrueOne_82 : decode cX3_addTrueOne 82 = .ok (.sipush 1000, 3) := by decide +kernel
theorem dX3_addTrueOne_85 : decode cX3_addTrueOne 85 = .ok (.iadd, 1) := by decide +kernel
theorem dX3_addTrueOne_86 : decode cX3_addTrueOne 86 = .ok (.istore 7, 2) := by decide +kernel
theorem dX3_addTrueOne_88 : decode cX3_addTrueOne 88 = .ok (.aload_n 0, 1) := by decide +kernel
theorem dX3_addTrueOne_89 : decode cX3_addTrueOne 89 = .ok (.getfield 21, 3) := by decide +kernel
theorem dX3_addTrueOne_92 : decode cX3_addTrueOne 92 = .ok (.iload 4, 2) := by decide +kernel
theorem dX3_addTrueOne_94 : decode cX3_addTrueOne 94 = .ok (.iload 6, 2) := by decide +kernel
theorem dX3_addTrueOne_96 : decode cX3_addTrueOne 96 = .ok (.iload 7, 2) := by decide +kernel
theorem dX3_addTrueOne_98 : decode cX3_addTrueOne 98 = .ok (.iload 5, 2) := by decide +kernel
theorem dX3_addTrueOne_100 : decode cX3_addTrueOne 100 = .ok (.sipush 999, 3) := by decide +kernel
theorem dX3_addTrueOne_103 : decode cX3_addTrueOne 103 = .ok (.iadd, 1) := by decide +kernel
theorem dX3_addTrueOne_104 : decode cX3_addTrueOne 104 = .ok (.invokestatic 56, 3) := by decide +kernel
theorem dX3_addTrueOne_107 : decode cX3_addTrueOne 107 = .ok (.invokestatic 56, 3) := by decide +kernel
theorem dX3_addTrueOne_110 : decode cX3_addTrueOne 110 = .ok (.invokestatic 30, 3) := by decide +kernel
theorem dX3_addTrueOne_113 : decode cX3_addTrueOne 113 = .ok (.iload 5, 2) := by decide +kernel
theorem dX3_addTrueOne_115 : decode cX3_addTrueOne 115 = .ok (.istore_n 3, 1) := by decide +kernel
theorem dX3_addTrueOne_116 : decode cX3_addTrueOne 116 = .ok (.iinc 4 1, 3) := by decide +kernel
theorem dX3_addTrueOne_119 : decode cX3_addTrueOne 119 = .ok (.goto (-94), 3) := by decide +kernel
theorem dX3_addTrueOne_122 : decode cX3_addTrueOne 122 = .ok (.return_, 1) := by decide +kernel
theorem dX4_init_0 : decode cX4_init 0 = .ok (.aload_n 0, 1) := by decide +kernel
theorem dX4_init_1 : decode cX4_init 1 = .ok (.invokespecial 3, 3) := by decide +kernel
theorem dX4_init_4 : decode cX4_init 4 = .ok (.aload_n 0, 1) := by decide +kernel
theorem dX4_init_5 : decode cX4_init 5 = .ok (.bipush 17, 2) := by decide +kernel
theorem dX4_init_7 : decode cX4_init 7 = .ok (.newarray .int, 2) := by decide +kernel
theorem dX4_init_9 : decode cX4_init 9 = .ok (.putfield 9, 3) := by decide +kernel
theorem dX4_init_12 : decode cX4_init 12 = .ok (.return_, 1) := by decide +kernel
theorem dX4_lastOf_0 : decode cX4_lastOf 0 = .ok (.aload_n 0, 1) := by decide +kernel
theorem dX4_lastOf_1 : decode cX4_lastOf 1 = .ok (.getfield 9, 3) := by decide +kernel
theorem dX4_lastOf_4 : decode cX4_lastOf 4 = .ok (.iconst 0, 1) := by decide +kernel
theorem dX4_lastOf_5 : decode cX4_lastOf 5 = .ok (.invokestatic 15, 3) := by decide +kernel
theorem dX4_lastOf_8 : decode cX4_lastOf 8 = .ok (.aload_n 0, 1) := by decide +kernel
theorem dX4_lastOf_9 : decode cX4_lastOf 9 = .ok (.getfield 9, 3) := by decide +kernel
theorem dX4_lastOf_12 : decode cX4_lastOf 12 = .ok (.iconst 0, 1) := by decide +kernel
theorem dX4_lastOf_13 : decode cX4_lastOf 13 = .ok (.ldc 21, 2) := by decide +kernel
theorem dX4_lastOf_15 : decode cX4_lastOf 15 = .ok (.invokestatic 22, 3) := by decide +kernel
theorem dX4_lastOf_18 : decode cX4_lastOf 18 = .ok (.iconst 0, 1) := by decide +kernel
theorem dX4_lastOf_19 : decode cX4_lastOf 19 = .ok (.istore 4, 2) := by decide +kernel
theorem dX4_lastOf_21 : decode cX4_lastOf 21 = .ok (.iconst 0, 1) := by decide +kernel
theorem dX4_lastOf_22 : decode cX4_lastOf 22 = .ok (.istore 5, 2) := by decide +kernel
theorem dX4_lastOf_24 : decode cX4_lastOf 24 = .ok (.iload 5, 2) := by decide +kernel
theorem dX4_lastOf_26 : decode cX4_lastOf 26 = .ok (.aload_n 1, 1) := by decide +kernel
theorem dX4_lastOf_27 : decode cX4_lastOf 27 = .ok (.getfield 26, 3) := by decide +kernel
theorem dX4_lastOf_30 : decode cX4_lastOf 30 = .ok (.if_icmp .ge 47, 3) := by decide +kernel
theorem dX4_lastOf_33 : decode cX4_lastOf 33 = .ok (.iload 5, 2) := by decide +kernel
theorem dX4_lastOf_35 : decode cX4_lastOf 35 = .ok (.iload_n 3, 1) := by decide +kernel
theorem dX4_lastOf_36 : decode cX4_lastOf 36 = .ok (.if_icmp .eq 35, 3) := by decide +kernel
theorem dX4_lastOf_39 : decode cX4_lastOf 39 = .ok (.aload_n 2, 1) := by decide +kernel
theorem dX4_lastOf_40 : decode cX4_lastOf 40 = .ok (.iload 5, 2) := by decide +kernel
theorem dX4_lastOf_42 : decode cX4_lastOf 42 = .ok (.invokestatic 32, 3) := by decide +kernel
theorem dX4_lastOf_45 : decode cX4_lastOf 45 = .ok (.aload_n 2, 1) := by decide +kernel
theorem dX4_lastOf_46 : decode cX4_lastOf 46 = .ok (.iload_n 3, 1) := by decide +kernel
theorem dX4_lastOf_47 : decode cX4_lastOf 47 = .ok (.invokestatic 32, 3) := by decide +kernel
theorem dX4_lastOf_50 : decode cX4_lastOf 50 = .ok (.if_icmp .ne 21, 3) := by decide +kernel
theorem dX4_lastOf_53 : decode cX4_lastOf 53 = .ok (.iinc 4 1, 3) := by decide +kernel
theorem dX4_lastOf_56 : decode cX4_lastOf 56 = .ok (.aload_n 0, 1) := by decide +kernel
theorem dX4_lastOf_57 : decode cX4_lastOf 57 = .ok (.iload 4, 2) := by decide +kernel
theorem dX4_lastOf_59 : decode cX4_lastOf 59 = .ok (.aload_n 1, 1) := by decide +kernel
theorem dX4_lastOf_60 : decode cX4_lastOf 60 = .ok (.getfield 36, 3) := by decide +kernel
theorem dX4_lastOf_63 : decode cX4_lastOf 63 = .ok (.iload 5, 2) := by decide +kernel
theorem dX4_lastOf_65 : decode cX4_lastOf 65 = .ok (.invokestatic 32, 3) := by decide +kernel
theorem dX4_lastOf_68 : decode cX4_lastOf 68 = .ok (.invokevirtual 39, 3) := by decide +kernel
theorem dX4_lastOf_71 : decode cX4_lastOf 71 = .ok (.iinc 5 1, 3) := by decide +kernel
theorem dX4_lastOf_74 : decode cX4_lastOf 74 = .ok (.goto (-50), 3) := by decide +kernel
theorem dX4_lastOf_77 : decode cX4_lastOf 77 = .ok (.iconst 0, 1) := by decide +kernel
theorem dX4_lastOf_78 : decode cX4_lastOf 78 = .ok (.istore 5, 2) := by decide +kernel
theorem dX4_lastOf_80 : decode cX4_lastOf 80 = .ok (.iconst 0, 1) := by decide +kernel
theorem dX4_lastOf_81 : decode cX4_lastOf 81 = .ok (.istore 6, 2) := by decide +kernel
theorem dX4_lastOf_83 : decode cX4_lastOf 83 = .ok (.iload 6, 2) := by decide +kernel
theorem dX4_lastOf_85 : decode cX4_lastOf 85 = .ok (.iload 4, 2) := by decide +kernel
theorem dX4_lastOf_87 : decode cX4_lastOf 87 = .ok (.if_icmp .gt 41, 3) := by decide +kernel
theorem dX4_lastOf_90 : decode cX4_lastOf 90 = .ok (.iload 5, 2) := by decide +kernel
theorem dX4_lastOf_92 : decode cX4_lastOf 92 = .ok (.aload_n 0, 1) := by decide +kernel
theorem dX4_lastOf_93 : decode cX4_lastOf 93 = .ok (.getfield 9, 3) := by decide +kernel
theorem dX4_lastOf_96 : decode cX4_lastOf 96 = .ok (.iload 6, 2) := by decide +kernel
theorem dX4_lastOf_98 : decode cX4_lastOf 98 = .ok (.invokestatic 32, 3) := by decide +kernel
theorem dX4_lastOf_101 : decode cX4_lastOf 101 = .ok (.aload_n 1, 1) := by decide +kernel
theorem dX4_lastOf_102 : decode cX4_lastOf 102 = .ok (.getfield 36, 3) := by decide +kernel
theorem dX4_lastOf_105 : decode cX4_lastOf 105 = .ok (.iload_n 3, 1) := by decide +kernel
theorem dX4_lastOf_106 : decode cX4_lastOf 106 = .ok (.invokestatic 32, 3) := by decide +kernel
theorem dX4_lastOf_109 : decode cX4_lastOf 109 = .ok (.imul, 1) := by decide +kernel
theorem dX4_lastOf_110 : decode cX4_lastOf 110 = .ok (.sipush 1000, 3) := by decide +kernel
theorem dX4_lastOf_113 : decode cX4_lastOf 113 = .ok (.idiv, 1) := by decide +kernel
theorem dX4_lastOf_114 : decode cX4_lastOf 114 = .ok (.iload 6, 2) := by decide +kernel
theorem dX4_lastOf_116 : decode cX4_lastOf 116 = .ok (.iconst 1, 1) := by decide +kernel
theorem dX4_lastOf_117 : decode cX4_lastOf 117 = .ok (.iadd, 1) := by decide +kernel
theorem dX4_lastOf_118 : decode cX4_lastOf 118 = .ok (.idiv, 1) := by decide +kernel
theorem dX4_lastOf_119 : decode cX4_lastOf 119 = .ok (.iadd, 1) := by decide +kernel
theorem dX4_lastOf_120 : decode cX4_lastOf 120 = .ok (.istore 5, 2) := by decide +kernel
theorem dX4_lastOf_122 : decode cX4_lastOf 122 = .ok (.iinc 6 1, 3) := by decide +kernel
theorem dX4_lastOf_125 : decode cX4_lastOf 125 = .ok (.goto (-42), 3) := by decide +kernel
theorem dX4_lastOf_128 : decode cX4_lastOf 128 = .ok (.iload 5, 2) := by decide +kernel
theorem dX4_lastOf_130 : decode cX4_lastOf 130 = .ok (.ireturn, 1) := by decide +kernel
theorem dX4_addOther_0 : decode cX4_addOther 0 = .ok (.iload_n 1, 1) := by decide +kernel
theorem dX4_addOther_1 : decode cX4_addOther 1 = .ok (.istore_n 3, 1) := by decide +kernel
theorem dX4_addOther_2 : decode cX4_addOther 2 = .ok (.iload_n 3, 1) := by decide +kernel
theorem dX4_addOther_3 : decode cX4_addOther 3 = .ok (.ifCond .lt 56, 3) := by decide +kernel
theorem dX4_addOther_6 : decode cX4_addOther 6 = .ok (.aload_n 0, 1) := by decide +kernel
theorem dX4_addOther_7 : decode cX4_addOther 7 = .ok (.getfield 9, 3) := by decide +kernel
theorem dX4_addOther_10 : decode cX4_addOther 10 = .ok (.iload_n 3, 1) := by decide +kernel
theorem dX4_addOther_11 : decode cX4_addOther 11 = .ok (.invokestatic 32, 3) := by decide +kernel
theorem dX4_addOther_14 : decode cX4_addOther 14 = .ok (.sipush 1000, 3) := by decide +kernel
theorem dX4_addOther_17 : decode cX4_addOther 17 = .ok (.iload_n 2, 1) := by decide +kernel
theorem dX4_addOther_18 : decode cX4_addOther 18 = .ok (.isub, 1) := by decide +kernel
theorem dX4_addOther_19 : decode cX4_addOther 19 = .ok (.imul, 1) := by decide +kernel
theorem dX4_addOther_20 : decode cX4_addOther 20 = .ok (.istore 4, 2) := by decide +kernel
theorem dX4_addOther_22 : decode cX4_addOther 22 = .ok (.aload_n 0, 1) := by decide +kernel
theorem dX4_addOther_23 : decode cX4_addOther 23 = .ok (.getfield 9, 3) := by decide +kernel
theorem dX4_addOther_26 : decode cX4_addOther 26 = .ok (.iload_n 3, 1) := by decide +kernel
theorem dX4_addOther_27 : decode cX4_addOther 27 = .ok (.iconst 1, 1) := by decide +kernel
theorem dX4_addOther_28 : decode cX4_addOther 28 = .ok (.isub, 1) := by decide +kernel
theorem dX4_addOther_29 : decode cX4_addOther 29 = .ok (.invokestatic 32, 3) := by decide +kernel
theorem dX4_addOther_32 : decode cX4_addOther 32 = .ok (.iload_n 2, 1) := by decide +kernel
theorem dX4_addOther_33 : decode cX4_addOther 33 = .ok (.imul, 1) := by decide +kernel
theorem dX4_addOther_34 : decode cX4_addOther 34 = .ok (.istore 5, 2) := by decide +kernel
theorem dX4_addOther_36 : decode cX4_addOther 36 = .ok (.aload_n 0, 1) := by decide +kernel
theorem dX4_addOther_37 : decode cX4_addOther 37 = .ok (.getfield 9, 3) := by decide +kernel
theorem dX4_addOther_40 : decode cX4_addOther 40 = .ok (.iload_n 3, 1) := by decide +kernel
theorem dX4_addOther_41 : decode cX4_addOther 41 = .ok (.iload 4, 2) := by decide +kernel
theorem dX4_addOther_43 : decode cX4_addOther 43 = .ok (.iload 5, 2) := by decide +kernel
theorem dX4_addOther_45 : decode cX4_addOther 45 = .ok (.iadd, 1) := by decide +kernel
theorem dX4_addOther_46 : decode cX4_addOther 46 = .ok (.sipush 1000, 3) := by decide +kernel
theorem dX4_addOther_49 : decode cX4_addOther 49 = .ok (.idiv, 1) := by decide +kernel
theorem dX4_addOther_50 : decode cX4_addOther 50 = .ok (.invokestatic 22, 3) := by decide +kernel
theorem dX4_addOther_53 : decode cX4_addOther 53 = .ok (.iinc 3 (-1), 3) := by decide +kernel
theorem dX4_addOther_56 : decode cX4_addOther 56 = .ok (.goto (-54), 3) := by decide +kernel
theorem dX4_addOther_59 : decode cX4_addOther 59 = .ok (.return_, 1) := by decide +kernel
theorem dX4_nobodyOf_0 : decode cX4_nobodyOf 0 = .ok (.ldc 21, 2) := by decide +kernel
theorem dX4_nobodyOf_2 : decode cX4_nobodyOf 2 = .ok (.istore 4, 2) := by decide +kernel
theorem dX4_nobodyOf_4 : decode cX4_nobodyOf 4 = .ok (.iconst 0, 1) := by decide +kernel
theorem dX4_nobodyOf_5 : decode cX4_nobodyOf 5 = .ok (.istore 5, 2) := by decide +kernel
theorem dX4_nobodyOf_7 : decode cX4_nobodyOf 7 = .ok (.iload 5, 2) := by decide +kernel
theorem dX4_nobodyOf_9 : decode cX4_nobodyOf 9 = .ok (.aload_n 1, 1) := by decide +kernel
theorem dX4_nobodyOf_10 : decode cX4_nobodyOf 10 = .ok (.getfield 26, 3) := by decide +kernel
theorem dX4_nobodyOf_13 : decode cX4_nobodyOf 13 = .ok (.if_icmp .ge 41, 3) := by decide +kernel
theorem dX4_nobodyOf_16 : decode cX4_nobodyOf 16 = .ok (.aload_n 2, 1) := by decide +kernel
theorem dX4_nobodyOf_17 : decode cX4_nobodyOf 17 = .ok (.iload 5, 2) := by decide +kernel
theorem dX4_nobodyOf_19 : decode cX4_nobodyOf 19 = .ok (.invokestatic 32, 3) := by decide +kernel
theorem dX4_nobodyOf_22 : decode cX4_nobodyOf 22 = .ok (.iload_n 3, 1) := by decide +kernel
theorem dX4_nobodyOf_23 : decode cX4_nobodyOf 23 = .ok (.if_icmp .ne 25, 3) := by decide +kernel
theorem dX4_nobodyOf_26 : decode cX4_nobodyOf 26 = .ok (.iload 4, 2) := by decide +kernel
theorem dX4_nobodyOf_28 : decode cX4_nobodyOf 28 = .ok (.sipush 1000, 3) := by decide +kernel
theorem dX4_nobodyOf_31 : decode cX4_nobodyOf 31 = .ok (.aload_n 1, 1) := by decide +kernel
theorem dX4_nobodyOf_32 : decode cX4_nobodyOf 32 = .ok (.getfield 36, 3) := by decide +kernel
theorem dX4_nobodyOf_35 : decode cX4_nobodyOf 35 = .ok (.iload 5, 2) := by decide +kernel
theorem dX4_nobodyOf_37 : decode cX4_nobodyOf 37 = .ok (.invokestatic 32, 3) := by decide +kernel
theorem dX4_nobodyOf_40 : decode cX4_nobodyOf 40 = .ok (.isub, 1) := by decide +kernel
theorem dX4_nobodyOf_41 : decode cX4_nobodyOf 41 = .ok (.imul, 1) := by decide +kernel
theorem dX4_nobodyOf_42 : decode cX4_nobodyOf 42 = .ok (.sipush 1000, 3) := by decide +kernel
theorem dX4_nobodyOf_45 : decode cX4_nobodyOf 45 = .ok (.idiv, 1) := by decide +kernel
theorem dX4_nobodyOf_46 : decode cX4_nobodyOf 46 = .ok (.istore 4, 2) := by decide +kernel
theorem dX4_nobodyOf_48 : decode cX4_nobodyOf 48 = .ok (.iinc 5 1, 3) := by decide +kernel
theorem dX4_nobodyOf_51 : decode cX4_nobodyOf 51 = .ok (.goto (-44), 3) := by decide +kernel
theorem dX4_nobodyOf_54 : decode cX4_nobodyOf 54 = .ok (.iload 4, 2) := by decide +kernel
theorem dX4_nobodyOf_56 : decode cX4_nobodyOf 56 = .ok (.ireturn, 1) := by decide +kernel
theorem dX6_init_0 : decode cX6_init 0 = .ok (.aload_n 0, 1) := by decide +kernel
theorem dX6_init_1 : decode cX6_init 1 = .ok (.invokespecial 3, 3) := by decide +kernel
theorem dX6_init_4 : decode cX6_init 4 = .ok (.aload_n 0, 1) := by decide +kernel
theorem dX6_init_5 : decode cX6_init 5 = .ok (.iconst 0, 1) := by decide +kernel
theorem dX6_init_6 : decode cX6_init 6 = .ok (.putfield 9, 3) := by decide +kernel
theorem dX6_init_9 : decode cX6_init 9 = .ok (.aload_n 0, 1) := by decide +kernel
theorem dX6_init_10 : decode cX6_init 10 = .ok (.iconst 0, 1) := by decide +kernel
theorem dX6_init_11 : decode cX6_init 11 = .ok (.putfield 15, 3) := by decide +kernel
theorem dX6_init_14 : decode cX6_init 14 = .ok (.aload_n 0, 1) := by decide +kernel
theorem dX6_init_15 : decode cX6_init 15 = .ok (.iconst 0, 1) := by decide +kernel
theorem dX6_init_16 : decode cX6_init 16 = .ok (.putfield 18, 3) := by decide +kernel
theorem dX6_init_19 : decode cX6_init 19 = .ok (.aload_n 0, 1) := by decide +kernel
theorem dX6_init_20 : decode cX6_init 20 = .ok (.sipush 1200, 3) := by decide +kernel
theorem dX6_init_23 : decode cX6_init 23 = .ok (.newarray .int, 2) := by decide +kernel
theorem dX6_init_25 : decode cX6_init 25 = .ok (.putfield 21, 3) := by decide +kernel
theorem dX6_init_28 : decode cX6_init 28 = .ok (.aload_n 0, 1) := by decide +kernel
theorem dX6_init_29 : decode cX6_init 29 = .ok (.bipush 40, 2) := by decide +kernel
theorem dX6_init_31 : decode cX6_init 31 = .ok (.newarray .int, 2) := by decide +kernel
theorem dX6_init_33 : decode cX6_init 33 = .ok (.putfield 25, 3) := by decide +kernel
theorem dX6_init_36 : decode cX6_init 36 = .ok (.aload_n 0, 1) := by decide +kernel
theorem dX6_init_37 : decode cX6_init 37 = .ok (.bipush 40, 2) := by decide +kernel
theorem dX6_init_39 : decode cX6_init 39 = .ok (.newarray .int, 2) := by decide +kernel
theorem dX6_init_41 : decode cX6_init 41 = .ok (.putfield 28, 3) := by decide +kernel
theorem dX6_init_44 : decode cX6_init 44 = .ok (.aload_n 0, 1) := by decide +kernel
theorem dX6_init_45 : decode cX6_init 45 = .ok (.bipush 40, 2) := by decide +kernel
theorem dX6_init_47 : decode cX6_init 47 = .ok (.newarray .int, 2) := by decide +kernel
theorem dX6_init_49 : decode cX6_init 49 = .ok (.putfield 31, 3) := by decide +kernel
theorem dX6_init_52 : decode cX6_init 52 = .ok (.aload_n 0, 1) := by decide +kernel
theorem dX6_init_53 : decode cX6_init 53 = .ok (.bipush 16, 2) := by decide +kernel
theorem dX6_init_55 : decode cX6_init 55 = .ok (.newarray .int, 2) := by decide +kernel
theorem dX6_init_57 : decode cX6_init 57 = .ok (.putfield 34, 3) := by decide +kernel
theorem dX6_init_60 : decode cX6_init 60 = .ok (.aload_n 0, 1) := by decide +kernel
theorem dX6_init_61 : decode cX6_init 61 = .ok (.iconst 4, 1) := by decide +kernel
theorem dX6_init_62 : decode cX6_init 62 = .ok (.newarray .int, 2) := by decide +kernel
theorem dX6_init_64 : decode cX6_init 64 = .ok (.putfield 37, 3) := by decide +kernel
theorem dX6_init_67 : decode cX6_init 67 = .ok (.return_, 1) := by decide +kernel
theorem dX6_startAnew_0 : decode cX6_startAnew 0 = .ok (.aload_n 0, 1) := by decide +kernel
theorem dX6_startAnew_1 : decode cX6_startAnew 1 = .ok (.iconst 0, 1) := by decide +kernel
theorem dX6_startAnew_2 : decode cX6_startAnew 2 = .ok (.putfield 9, 3) := by decide +kernel
theorem dX6_startAnew_5 : decode cX6_startAnew 5 = .ok (.aload_n 0, 1) := by decide +kernel
theorem dX6_startAnew_6 : decode cX6_startAnew 6 = .ok (.iconst 0, 1) := by decide +kernel
theorem dX6_startAnew_7 : decode cX6_startAnew 7 = .ok (.putfield 15, 3) := by decide +kernel
theorem dX6_startAnew_10 : decode cX6_startAnew 10 = .ok (.aload_n 0, 1) := by decide +kernel
theorem dX6_startAnew_11 : decode cX6_startAnew 11 = .ok (.iconst 0, 1) := by decide +kernel
theorem dX6_startAnew_12 : decode cX6_startAnew 12 = .ok (.putfield 18, 3) := by decide +kernel
theorem dX6_startAnew_15 : decode cX6_startAnew 15 = .ok (.aload_n 1, 1) := by decide +kernel
theorem dX6_startAnew_16 : decode cX6_startAnew 16 = .ok (.getfield 40, 3) := by decide +kernel
theorem dX6_startAnew_19 : decode cX6_startAnew 19 = .ok (.aload_n 0, 1) := by decide +kernel
theorem dX6_startAnew_20 : decode cX6_startAnew 20 = .ok (.getfield 34, 3) := by decide +kernel
theorem dX6_startAnew_23 : decode cX6_startAnew 23 = .ok (.invokestatic 43, 3) := by decide +kernel
theorem dX6_startAnew_26 : decode cX6_startAnew 26 = .ok (.return_, 1) := by decide +kernel
theorem dX6_copyFrom_0 : decode cX6_copyFrom 0 = .ok (.aload_n 0, 1) := by decide +kernel
theorem dX6_copyFrom_1 : decode cX6_copyFrom 1 = .ok (.aload_n 1, 1) := by decide +kernel
theorem dX6_copyFrom_2 : decode cX6_copyFrom 2 = .ok (.getfield 9, 3) := by decide +kernel
theorem dX6_copyFrom_5 : decode cX6_copyFrom 5 = .ok (.putfield 9, 3) := by decide +kernel
theorem dX6_copyFrom_8 : decode cX6_copyFrom 8 = .ok (.aload_n 0, 1) := by decide +kernel
theorem dX6_copyFrom_9 : decode cX6_copyFrom 9 = .ok (.aload_n 1, 1) := by decide +kernel
theorem dX6_copyFrom_10 : decode cX6_copyFrom 10 = .ok (.getfield 15, 3) := by decide +kernel
theorem dX6_copyFrom_13 : decode cX6_copyFrom 13 = .ok (.putfield 15, 3) := by decide +kernel
theorem dX6_copyFrom_16 : decode cX6_copyFrom 16 = .ok (.aload_n 0, 1) := by decide +kernel
theorem dX6_copyFrom_17 : decode cX6_copyFrom 17 = .ok (.aload_n 1, 1) := by decide +kernel
theorem dX6_copyFrom_18 : decode cX6_copyFrom 18 = .ok (.getfield 18, 3) := by decide +kernel
theorem dX6_copyFrom_21 : decode cX6_copyFrom 21 = .ok (.putfield 18, 3) := by decide +kernel
theorem dX6_copyFrom_24 : decode cX6_copyFrom 24 = .ok (.aload_n 1, 1) := by decide +kernel
theorem dX6_copyFrom_25 : decode cX6_copyFrom 25 = .ok (.getfield 21, 3) := by decide +kernel
theorem dX6_copyFrom_28 : decode cX6_copyFrom 28 = .ok (.aload_n 0, 1) := by decide +kernel
theorem dX6_copyFrom_29 : decode cX6_copyFrom 29 = .ok (.getfield 21, 3) := by decide +kernel
theorem dX6_copyFrom_32 : decode cX6_copyFrom 32 = .ok (.invokestatic 43, 3) := by decide +kernel
theorem dX6_copyFrom_35 : decode cX6_copyFrom 35 = .ok (.aload_n 1, 1) := by decide +kernel
theorem dX6_copyFrom_36 : decode cX6_copyFrom 36 = .ok (.getfield 25, 3) := by decide +kernel
theorem dX6_copyFrom_39 : decode cX6_copyFrom 39 = .ok (.aload_n 0, 1) := by decide +kernel
theorem dX6_copyFrom_40 : decode cX6_copyFrom 40 = .ok (.getfield 25, 3) := by decide +kernel
theorem dX6_copyFrom_43 : decode cX6_copyFrom 43 = .ok (.invokestatic 43, 3) := by decide +kernel
theorem dX6_copyFrom_46 : decode cX6_copyFrom 46 = .ok (.aload_n 1, 1) := by decide +kernel
theorem dX6_copyFrom_47 : decode cX6_copyFrom 47 = .ok (.getfield 28, 3) := by decide +kernel
theorem dX6_copyFrom_50 : decode cX6_copyFrom 50 = .ok (.aload_n 0, 1) := by decide +kernel
theorem dX6_copyFrom_51 : decode cX6_copyFrom 51 = .ok (.getfield 28, 3) := by decide +kernel
theorem dX6_copyFrom_54 : decode cX6_copyFrom 54 = .ok (.invokestatic 43, 3) := by decide +kernel
theorem dX6_copyFrom_57 : decode cX6_copyFrom 57 = .ok (.aload_n 1, 1) := by decide +kernel
theorem dX6_copyFrom_58 : decode cX6_copyFrom 58 = .ok (.getfield 31, 3) := by decide +kernel
theorem dX6_copyFrom_61 : decode cX6_copyFrom 61 = .ok (.aload_n 0, 1) := by decide +kernel
theorem dX6_copyFrom_62 : decode cX6_copyFrom 62 = .ok (.getfield 31, 3) := by decide +kernel
theorem dX6_copyFrom_65 : decode cX6_copyFrom 65 = .ok (.invokestatic 43, 3) := by decide +kernel
theorem dX6_copyFrom_68 : decode cX6_copyFrom 68 = .ok (.aload_n 1, 1) := by decide +kernel
theorem dX6_copyFrom_69 : decode cX6_copyFrom 69 = .ok (.getfield 34, 3) := by decide +kernel
theorem dX6_copyFrom_72 : decode cX6_copyFrom 72 = .ok (.aload_n 0, 1) := by decide +kernel
theorem dX6_copyFrom_73 : decode cX6_copyFrom 73 = .ok (.getfield 34, 3) := by decide +kernel
theorem dX6_copyFrom_76 : decode cX6_copyFrom 76 = .ok (.invokestatic 43, 3) := by decide +kernel
theorem dX6_copyFrom_79 : decode cX6_copyFrom 79 = .ok (.aload_n 1, 1) := by decide +kernel
theorem dX6_copyFrom_80 : decode cX6_copyFrom 80 = .ok (.getfield 37, 3) := by decide +kernel
theorem dX6_copyFrom_83 : decode cX6_copyFrom 83 = .ok (.aload_n 0, 1) := by decide +kernel
theorem dX6_copyFrom_84 : decode cX6_copyFrom 84 = .ok (.getfield 37, 3) := by decide +kernel
theorem dX6_copyFrom_87 : decode cX6_copyFrom 87 = .ok (.invokestatic 43, 3) := by decide +kernel
theorem dX6_copyFrom_90 : decode cX6_copyFrom 90 = .ok (.return_, 1) := by decide +kernel
theorem dX6_countRefused_0 : decode cX6_countRefused 0 = .ok (.aload_n 0, 1) := by decide +kernel
theorem dX6_countRefused_1 : decode cX6_countRefused 1 = .ok (.getfield 37, 3) := by decide +kernel
theorem dX6_countRefused_4 : decode cX6_countRefused 4 = .ok (.iload_n 1, 1) := by decide +kernel
theorem dX6_countRefused_5 : decode cX6_countRefused 5 = .ok (.aload_n 0, 1) := by decide +kernel
theorem dX6_countRefused_6 : decode cX6_countRefused 6 = .ok (.getfield 37, 3) := by decide +kernel
theorem dX6_countRefused_9 : decode cX6_countRefused 9 = .ok (.iload_n 1, 1) := by decide +kernel
theorem dX6_countRefused_10 : decode cX6_countRefused 10 = .ok (.invokestatic 47, 3) := by decide +kernel
theorem dX6_countRefused_13 : decode cX6_countRefused 13 = .ok (.iconst 1, 1) := by decide +kernel
theorem dX6_countRefused_14 : decode cX6_countRefused 14 = .ok (.iadd, 1) := by decide +kernel
theorem dX6_countRefused_15 : decode cX6_countRefused 15 = .ok (.invokestatic 51, 3) := by decide +kernel
theorem dX6_countRefused_18 : decode cX6_countRefused 18 = .ok (.return_, 1) := by decide +kernel
theorem dX6_tearsNumber_0 : decode cX6_tearsNumber 0 = .ok (.aload_n 0, 1) := by decide +kernel
theorem dX6_tearsNumber_1 : decode cX6_tearsNumber 1 = .ok (.getfield 21, 3) := by decide +kernel
theorem dX6_tearsNumber_4 : decode cX6_tearsNumber 4 = .ok (.iload_n 1, 1) := by decide +kernel
theorem dX6_tearsNumber_5 : decode cX6_tearsNumber 5 = .ok (.bipush 6, 2) := by decide +kernel
theorem dX6_tearsNumber_7 : decode cX6_tearsNumber 7 = .ok (.imul, 1) := by decide +kernel
theorem dX6_tearsNumber_8 : decode cX6_tearsNumber 8 = .ok (.iload_n 2, 1) := by decide +kernel
theorem dX6_tearsNumber_9 : decode cX6_tearsNumber 9 = .ok (.iadd, 1) := by decide +kernel
theorem dX6_tearsNumber_10 : decode cX6_tearsNumber 10 = .ok (.invokestatic 47, 3) := by decide +kernel
theorem dX6_tearsNumber_13 : decode cX6_tearsNumber 13 = .ok (.ireturn, 1) := by decide +kernel
theorem dX6_nowHour_0 : decode cX6_nowHour 0 = .ok (.aload_n 0, 1) := by decide +kernel
theorem dX6_nowHour_1 : decode cX6_nowHour 1 = .ok (.getfield 9, 3) := by decide +kernel
theorem dX6_nowHour_4 : decode cX6_nowHour 4 = .ok (.ifCond .ne 7, 3) := by decide +kernel
theorem dX6_nowHour_7 : decode cX6_nowHour 7 = .ok (.iconst 0, 1) := by decide +kernel
theorem dX6_nowHour_8 : decode cX6_nowHour 8 = .ok (.goto 14, 3) := by decide +kernel
theorem dX6_nowHour_11 : decode cX6_nowHour 11 = .ok (.aload_n 0, 1) := by decide +kernel
theorem dX6_nowHour_12 : decode cX6_nowHour 12 = .ok (.aload_n 0, 1) := by decide +kernel
theorem dX6_nowHour_13 : decode cX6_nowHour 13 = .ok (.getfield 9, 3) := by decide +kernel
theorem dX6_nowHour_16 : decode cX6_nowHour 16 = .ok (.iconst 1, 1) := by decide +kernel
theorem dX6_nowHour_17 : decode cX6_nowHour 17 = .ok (.isub, 1) := by decide +kernel
theorem dX6_nowHour_18 : decode cX6_nowHour 18 = .ok (.iconst 2, 1) := by decide +kernel
theorem dX6_nowHour_19 : decode cX6_nowHour 19 = .ok (.invokevirtual 55, 3) := by decide +kernel
theorem dX6_nowHour_22 : decode cX6_nowHour 22 = .ok (.ireturn, 1) := by decide +kernel
theorem dX6_dayOf_0 : decode cX6_dayOf 0 = .ok (.aload_n 0, 1) := by decide +kernel
theorem dX6_dayOf_1 : decode cX6_dayOf 1 = .ok (.iload_n 1, 1) := by decide +kernel
theorem dX6_dayOf_2 : decode cX6_dayOf 2 = .ok (.iconst 2, 1) := by decide +kernel
theorem dX6_dayOf_3 : decode cX6_dayOf 3 = .ok (.invokevirtual 55, 3) := by decide +kernel
theorem dX6_dayOf_6 : decode cX6_dayOf 6 = .ok (.bipush 24, 2) := by decide +kernel
theorem dX6_dayOf_8 : decode cX6_dayOf 8 = .ok (.idiv, 1) := by decide +kernel
theorem dX6_dayOf_9 : decode cX6_dayOf 9 = .ok (.ireturn, 1) := by decide +kernel
theorem dX6_tearsOn_0 : decode cX6_tearsOn 0 = .ok (.iconst 0, 1) := by decide +kernel
theorem dX6_tearsOn_1 : decode cX6_tearsOn 1 = .ok (.istore_n 3, 1) := by decide +kernel
theorem dX6_tearsOn_2 : decode cX6_tearsOn 2 = .ok (.iconst 0, 1) := by decide +kernel
theorem dX6_tearsOn_3 : decode cX6_tearsOn 3 = .ok (.istore 4, 2) := by decide +kernel
theorem dX6_tearsOn_5 : decode cX6_tearsOn 5 = .ok (.iload 4, 2) := by decide +kernel
theorem dX6_tearsOn_7 : decode cX6_tearsOn 7 = .ok (.aload_n 0, 1) := by decide +kernel
theorem dX6_tearsOn_8 : decode cX6_tearsOn 8 = .ok (.getfield 9, 3) := by decide +kernel
theorem dX6_tearsOn_11 : decode cX6_tearsOn 11 = .ok (.if_icmp .ge 33, 3) := by decide +kernel
theorem dX6_tearsOn_14 : decode cX6_tearsOn 14 = .ok (.aload_n 0, 1) := by decide +kernel
theorem dX6_tearsOn_15 : decode cX6_tearsOn 15 = .ok (.iload 4, 2) := by decide +kernel
theorem dX6_tearsOn_17 : decode cX6_tearsOn 17 = .ok (.iconst 1, 1) := by decide +kernel
theorem dX6_tearsOn_18 : decode cX6_tearsOn 18 = .ok (.invokevirtual 55, 3) := by decide +kernel
theorem dX6_tearsOn_21 : decode cX6_tearsOn 21 = .ok (.iload_n 1, 1) := by decide +kernel
theorem dX6_tearsOn_22 : decode cX6_tearsOn 22 = .ok (.if_icmp .ne 16, 3) := by decide +kernel
theorem dX6_tearsOn_25 : decode cX6_tearsOn 25 = .ok (.aload_n 0, 1) := by decide +kernel
theorem dX6_tearsOn_26 : decode cX6_tearsOn 26 = .ok (.iload 4, 2) := by decide +kernel
theorem dX6_tearsOn_28 : decode cX6_tearsOn 28 = .ok (.invokevirtual 59, 3) := by decide +kernel
theorem dX6_tearsOn_31 : decode cX6_tearsOn 31 = .ok (.iload_n 2, 1) := by decide +kernel
theorem dX6_tearsOn_32 : decode cX6_tearsOn 32 = .ok (.if_icmp .ne 6, 3) := by decide +kernel
theorem dX6_tearsOn_35 : decode cX6_tearsOn 35 = .ok (.iinc 3 1, 3) := by decide +kernel
theorem dX6_tearsOn_38 : decode cX6_tearsOn 38 = .ok (.iinc 4 1, 3) := by decide +kernel
theorem dX6_tearsOn_41 : decode cX6_tearsOn 41 = .ok (.goto (-36), 3) := by decide +kernel
theorem dX6_tearsOn_44 : decode cX6_tearsOn 44 = .ok (.iload_n 3, 1) := by decide +kernel
theorem dX6_tearsOn_45 : decode cX6_tearsOn 45 = .ok (.ireturn, 1) := by decide +kernel
theorem dX6_tell_0 : decode cX6_tell 0 = .ok (.aload_n 0, 1) := by decide +kernel
theorem dX6_tell_1 : decode cX6_tell 1 = .ok (.getfield 9, 3) := by decide +kernel
theorem dX6_tell_4 : decode cX6_tell 4 = .ok (.bipush 6, 2) := by decide +kernel
theorem dX6_tell_6 : decode cX6_tell 6 = .ok (.imul, 1) := by decide +kernel
theorem dX6_tell_7 : decode cX6_tell 7 = .ok (.istore 4, 2) := by decide +kernel
theorem dX6_tell_9 : decode cX6_tell 9 = .ok (.aload_n 0, 1) := by decide +kernel
theorem dX6_tell_10 : decode cX6_tell 10 = .ok (.getfield 21, 3) := by decide +kernel
theorem dX6_tell_13 : decode cX6_tell 13 = .ok (.iload 4, 2) := by decide +kernel
theorem dX6_tell_15 : decode cX6_tell 15 = .ok (.iconst 0, 1) := by decide +kernel
theorem dX6_tell_16 : decode cX6_tell 16 = .ok (.iadd, 1) := by decide +kernel
theorem dX6_tell_17 : decode cX6_tell 17 = .ok (.aload_n 1, 1) := by decide +kernel
theorem dX6_tell_18 : decode cX6_tell 18 = .ok (.iconst 1, 1) := by decide +kernel
theorem dX6_tell_19 : decode cX6_tell 19 = .ok (.invokestatic 47, 3) := by decide +kernel
theorem dX6_tell_22 : decode cX6_tell 22 = .ok (.invokestatic 51, 3) := by decide +kernel
theorem dX6_tell_25 : decode cX6_tell 25 = .ok (.aload_n 0, 1) := by decide +kernel
theorem dX6_tell_26 : decode cX6_tell 26 = .ok (.getfield 21, 3) := by decide +kernel
theorem dX6_tell_29 : decode cX6_tell 29 = .ok (.iload 4, 2) := by decide +kernel
theorem dX6_tell_31 : decode cX6_tell 31 = .ok (.iconst 1, 1) := by decide +kernel
theorem dX6_tell_32 : decode cX6_tell 32 = .ok (.iadd, 1) := by decide +kernel
theorem dX6_tell_33 : decode cX6_tell 33 = .ok (.aload_n 1, 1) := by decide +kernel
theorem dX6_tell_34 : decode cX6_tell 34 = .ok (.iconst 0, 1) := by decide +kernel
theorem dX6_tell_35 : decode cX6_tell 35 = .ok (.invokestatic 47, 3) := by decide +kernel
theorem dX6_tell_38 : decode cX6_tell 38 = .ok (.invokestatic 51, 3) := by decide +kernel
theorem dX6_tell_41 : decode cX6_tell 41 = .ok (.aload_n 0, 1) := by decide +kernel
theorem dX6_tell_42 : decode cX6_tell 42 = .ok (.getfield 21, 3) := by decide +kernel
theorem dX6_tell_45 : decode cX6_tell 45 = .ok (.iload 4, 2) := by decide +kernel
theorem dX6_tell_47 : decode cX6_tell 47 = .ok (.iconst 2, 1) := by decide +kernel
theorem dX6_tell_48 : decode cX6_tell 48 = .ok (.iadd, 1) := by decide +kernel
theorem dX6_tell_49 : decode cX6_tell 49 = .ok (.iload_n 2, 1) := by decide +kernel
theorem dX6_tell_50 : decode cX6_tell 50 = .ok (.invokestatic 51, 3) := by decide +kernel
theorem dX6_tell_53 : decode cX6_tell 53 = .ok (.aload_n 0, 1) := by decide +kernel
theorem dX6_tell_54 : decode cX6_tell 54 = .ok (.getfield 21, 3) := by decide +kernel
theorem dX6_tell_57 : decode cX6_tell 57 = .ok (.iload 4, 2) := by decide +kernel
theorem dX6_tell_59 : decode cX6_tell 59 = .ok (.iconst 3, 1) := by decide +kernel
theorem dX6_tell_60 : decode cX6_tell 60 = .ok (.iadd, 1) := by decide +kernel
theorem dX6_tell_61 : decode cX6_tell 61 = .ok (.aload_n 1, 1) := by decide +kernel
theorem dX6_tell_62 : decode cX6_tell 62 = .ok (.iconst 2, 1) := by decide +kernel
theorem dX6_tell_63 : decode cX6_tell 63 = .ok (.invokestatic 47, 3) := by decide +kernel
theorem dX6_tell_66 : decode cX6_tell 66 = .ok (.invokestatic 51, 3) := by decide +kernel
theorem dX6_tell_69 : decode cX6_tell 69 = .ok (.aload_n 0, 1) := by decide +kernel
theorem dX6_tell_70 : decode cX6_tell 70 = .ok (.getfield 21, 3) := by decide +kernel
theorem dX6_tell_73 : decode cX6_tell 73 = .ok (.iload 4, 2) := by decide +kernel
theorem dX6_tell_75 : decode cX6_tell 75 = .ok (.iconst 4, 1) := by decide +kernel
theorem dX6_tell_76 : decode cX6_tell 76 = .ok (.iadd, 1) := by decide +kernel
theorem dX6_tell_77 : decode cX6_tell 77 = .ok (.aload_n 1, 1) := by decide +kernel
theorem dX6_tell_78 : decode cX6_tell 78 = .ok (.bipush 6, 2) := by decide +kernel
theorem dX6_tell_80 : decode cX6_tell 80 = .ok (.invokestatic 47, 3) := by decide +kernel
theorem dX6_tell_83 : decode cX6_tell 83 = .ok (.invokestatic 51, 3) := by decide +kernel
theorem dX6_tell_86 : decode cX6_tell 86 = .ok (.aload_n 0, 1) := by decide +kernel
theorem dX6_tell_87 : decode cX6_tell 87 = .ok (.getfield 21, 3) := by decide +kernel
theorem dX6_tell_90 : decode cX6_tell 90 = .ok (.iload 4, 2) := by decide +kernel
theorem dX6_tell_92 : decode cX6_tell 92 = .ok (.iconst 5, 1) := by decide +kernel
theorem dX6_tell_93 : decode cX6_tell 93 = .ok (.iadd, 1) := by decide +kernel
theorem dX6_tell_94 : decode cX6_tell 94 = .ok (.iload_n 3, 1) := by decide +kernel
theorem dX6_tell_95 : decode cX6_tell 95 = .ok (.ifCond .eq 7, 3) := by decide +kernel
theorem dX6_tell_98 : decode cX6_tell 98 = .ok (.iconst 1, 1) := by decide +kernel
theorem dX6_tell_99 : decode cX6_tell 99 = .ok (.goto 4, 3) := by decide +kernel
theorem dX6_tell_102 : decode cX6_tell 102 = .ok (.iconst 0, 1) := by decide +kernel
theorem dX6_tell_103 : decode cX6_tell 103 = .ok (.invokestatic 51, 3) := by decide +kernel
theorem dX6_tell_106 : decode cX6_tell 106 = .ok (.aload_n 0, 1) := by decide +kernel
theorem dX6_tell_107 : decode cX6_tell 107 = .ok (.dup, 1) := by decide +kernel
theorem dX6_tell_108 : decode cX6_tell 108 = .ok (.getfield 9, 3) := by decide +kernel
theorem dX6_tell_111 : decode cX6_tell 111 = .ok (.iconst 1, 1) := by decide +kernel
theorem dX6_tell_112 : decode cX6_tell 112 = .ok (.iadd, 1) := by decide +kernel
theorem dX6_tell_113 : decode cX6_tell 113 = .ok (.putfield 9, 3) := by decide +kernel
theorem dX6_tell_116 : decode cX6_tell 116 = .ok (.return_, 1) := by decide +kernel
theorem dX6_writeLetter_0 : decode cX6_writeLetter 0 = .ok (.aload_n 0, 1) := by decide +kernel
theorem dX6_writeLetter_1 : decode cX6_writeLetter 1 = .ok (.getfield 25, 3) := by decide +kernel
theorem dX6_writeLetter_4 : decode cX6_writeLetter 4 = .ok (.aload_n 0, 1) := by decide +kernel
theorem dX6_writeLetter_5 : decode cX6_writeLetter 5 = .ok (.getfield 15, 3) := by decide +kernel
theorem dX6_writeLetter_8 : decode cX6_writeLetter 8 = .ok (.iload_n 1, 1) := by decide +kernel
theorem dX6_writeLetter_9 : decode cX6_writeLetter 9 = .ok (.invokestatic 51, 3) := by decide +kernel
theorem dX6_writeLetter_12 : decode cX6_writeLetter 12 = .ok (.aload_n 0, 1) := by decide +kernel
theorem dX6_writeLetter_13 : decode cX6_writeLetter 13 = .ok (.getfield 28, 3) := by decide +kernel
theorem dX6_writeLetter_16 : decode cX6_writeLetter 16 = .ok (.aload_n 0, 1) := by decide +kernel
theorem dX6_writeLetter_17 : decode cX6_writeLetter 17 = .ok (.getfield 15, 3) := by decide +kernel
theorem dX6_writeLetter_20 : decode cX6_writeLetter 20 = .ok (.iload_n 2, 1) := by decide +kernel
theorem dX6_writeLetter_21 : decode cX6_writeLetter 21 = .ok (.invokestatic 51, 3) := by decide +kernel
theorem dX6_writeLetter_24 : decode cX6_writeLetter 24 = .ok (.aload_n 0, 1) := by decide +kernel
theorem dX6_writeLetter_25 : decode cX6_writeLetter 25 = .ok (.dup, 1) := by decide +kernel
theorem dX6_writeLetter_26 : decode cX6_writeLetter 26 = .ok (.getfield 15, 3) := by decide +kernel
theorem dX6_writeLetter_29 : decode cX6_writeLetter 29 = .ok (.iconst 1, 1) := by decide +kernel
theorem dX6_writeLetter_30 : decode cX6_writeLetter 30 = .ok (.iadd, 1) := by decide +kernel
theorem dX6_writeLetter_31 : decode cX6_writeLetter 31 = .ok (.putfield 15, 3) := by decide +kernel
theorem dX6_writeLetter_34 : decode cX6_writeLetter 34 = .ok (.return_, 1) := by decide +kernel
theorem dX6_hoursCalled_0 : decode cX6_hoursCalled 0 = .ok (.iconst 0, 1) := by decide +kernel
theorem dX6_hoursCalled_1 : decode cX6_hoursCalled 1 = .ok (.istore 5, 2) := by decide +kernel
theorem dX6_hoursCalled_3 : decode cX6_hoursCalled 3 = .ok (.iconst (-1), 1) := by decide +kernel
theorem dX6_hoursCalled_4 : decode cX6_hoursCalled 4 = .ok (.istore 6, 2) := by decide +kernel
theorem dX6_hoursCalled_6 : decode cX6_hoursCalled 6 = .ok (.iload_n 3, 1) := by decide +kernel
theorem dX6_hoursCalled_7 : decode cX6_hoursCalled 7 = .ok (.istore 7, 2) := by decide +kernel
theorem dX6_hoursCalled_9 : decode cX6_hoursCalled 9 = .ok (.iconst 0, 1) := by decide +kernel
theorem dX6_hoursCalled_10 : decode cX6_hoursCalled 10 = .ok (.istore 8, 2) := by decide +kernel
theorem dX6_hoursCalled_12 : decode cX6_hoursCalled 12 = .ok (.iload 8, 2) := by decide +kernel
theorem dX6_hoursCalled_14 : decode cX6_hoursCalled 14 = .ok (.aload_n 0, 1) := by decide +kernel
theorem dX6_hoursCalled_15 : decode cX6_hoursCalled 15 = .ok (.getfield 9, 3) := by decide +kernel
theorem dX6_hoursCalled_18 : decode cX6_hoursCalled 18 = .ok (.if_icmp .ge 91, 3) := by decide +kernel
theorem dX6_hoursCalled_21 : decode cX6_hoursCalled 21 = .ok (.aload_n 0, 1) := by decide +kernel
theorem dX6_hoursCalled_22 : decode cX6_hoursCalled 22 = .ok (.iload 8, 2) := by decide +kernel
theorem dX6_hoursCalled_24 : decode cX6_hoursCalled 24 = .ok (.iconst 2, 1) := by decide +kernel
theorem dX6_hoursCalled_25 : decode cX6_hoursCalled 25 = .ok (.invokevirtual 55, 3) := by decide +kernel
theorem dX6_hoursCalled_28 : decode cX6_hoursCalled 28 = .ok (.istore 9, 2) := by decide +kernel
theorem dX6_hoursCalled_30 : decode cX6_hoursCalled 30 = .ok (.iload 9, 2) := by decide +kernel
theorem dX6_hoursCalled_32 : decode cX6_hoursCalled 32 = .ok (.iload 4, 2) := by decide +kernel
theorem dX6_hoursCalled_34 : decode cX6_hoursCalled 34 = .ok (.if_icmp .le 6, 3) := by decide +kernel
theorem dX6_hoursCalled_37 : decode cX6_hoursCalled 37 = .ok (.goto 72, 3) := by decide +kernel
theorem dX6_hoursCalled_40 : decode cX6_hoursCalled 40 = .ok (.aload_n 0, 1) := by decide +kernel
theorem dX6_hoursCalled_41 : decode cX6_hoursCalled 41 = .ok (.iload 8, 2) := by decide +kernel
theorem dX6_hoursCalled_43 : decode cX6_hoursCalled 43 = .ok (.iconst 1, 1) := by decide +kernel
theorem dX6_hoursCalled_44 : decode cX6_hoursCalled 44 = .ok (.invokevirtual 55, 3) := by decide +kernel
theorem dX6_hoursCalled_47 : decode cX6_hoursCalled 47 = .ok (.iload_n 1, 1) := by decide +kernel
theorem dX6_hoursCalled_48 : decode cX6_hoursCalled 48 = .ok (.if_icmp .ne 55, 3) := by decide +kernel
theorem dX6_hoursCalled_51 : decode cX6_hoursCalled 51 = .ok (.aload_n 0, 1) := by decide +kernel
theorem dX6_hoursCalled_52 : decode cX6_hoursCalled 52 = .ok (.iload 8, 2) := by decide +kernel
theorem dX6_hoursCalled_54 : decode cX6_hoursCalled 54 = .ok (.iconst 5, 1) := by decide +kernel
theorem dX6_hoursCalled_55 : decode cX6_hoursCalled 55 = .ok (.invokevirtual 55, 3) := by decide +kernel
theorem dX6_hoursCalled_58 : decode cX6_hoursCalled 58 = .ok (.iconst 1, 1) := by decide +kernel
theorem dX6_hoursCalled_59 : decode cX6_hoursCalled 59 = .ok (.if_icmp .ne 44, 3) := by decide +kernel
theorem dX6_hoursCalled_62 : decode cX6_hoursCalled 62 = .ok (.iload 9, 2) := by decide +kernel
theorem dX6_hoursCalled_64 : decode cX6_hoursCalled 64 = .ok (.iload_n 3, 1) := by decide +kernel
theorem dX6_hoursCalled_65 : decode cX6_hoursCalled 65 = .ok (.invokestatic 63, 3) := by decide +kernel
theorem dX6_hoursCalled_68 : decode cX6_hoursCalled 68 = .ok (.istore 10, 2) := by decide +kernel
theorem dX6_hoursCalled_70 : decode cX6_hoursCalled 70 = .ok (.iload 5, 2) := by decide +kernel
theorem dX6_hoursCalled_72 : decode cX6_hoursCalled 72 = .ok (.iload 6, 2) := by decide +kernel
theorem dX6_hoursCalled_74 : decode cX6_hoursCalled 74 = .ok (.iload_n 2, 1) := by decide +kernel
theorem dX6_hoursCalled_75 : decode cX6_hoursCalled 75 = .ok (.if_icmp .ne 11, 3) := by decide +kernel
theorem dX6_hoursCalled_78 : decode cX6_hoursCalled 78 = .ok (.iload 10, 2) := by decide +kernel
theorem dX6_hoursCalled_80 : decode cX6_hoursCalled 80 = .ok (.iload 7, 2) := by decide +kernel
theorem dX6_hoursCalled_82 : decode cX6_hoursCalled 82 = .ok (.isub, 1) := by decide +kernel
theorem dX6_hoursCalled_83 : decode cX6_hoursCalled 83 = .ok (.goto 4, 3) := by decide +kernel
theorem dX6_hoursCalled_86 : decode cX6_hoursCalled 86 = .ok (.iconst 0, 1) := by decide +kernel
theorem dX6_hoursCalled_87 : decode cX6_hoursCalled 87 = .ok (.iadd, 1) := by decide +kernel
theorem dX6_hoursCalled_88 : decode cX6_hoursCalled 88 = .ok (.istore 5, 2) := by decide +kernel
theorem dX6_hoursCalled_90 : decode cX6_hoursCalled 90 = .ok (.aload_n 0, 1) := by decide +kernel
theorem dX6_hoursCalled_91 : decode cX6_hoursCalled 91 = .ok (.iload 8, 2) := by decide +kernel
theorem dX6_hoursCalled_93 : decode cX6_hoursCalled 93 = .ok (.iconst 0, 1) := by decide +kernel
theorem dX6_hoursCalled_94 : decode cX6_hoursCalled 94 = .ok (.invokevirtual 55, 3) := by decide +kernel
theorem dX6_hoursCalled_97 : decode cX6_hoursCalled 97 = .ok (.istore 6, 2) := by decide +kernel
theorem dX6_hoursCalled_99 : decode cX6_hoursCalled 99 = .ok (.iload 10, 2) := by decide +kernel
theorem dX6_hoursCalled_101 : decode cX6_hoursCalled 101 = .ok (.istore 7, 2) := by decide +kernel
theorem dX6_hoursCalled_103 : decode cX6_hoursCalled 103 = .ok (.iinc 8 1, 3) := by decide +kernel
theorem dX6_hoursCalled_106 : decode cX6_hoursCalled 106 = .ok (.goto (-94), 3) := by decide +kernel
theorem dX6_hoursCalled_109 : decode cX6_hoursCalled 109 = .ok (.iload 6, 2) := by decide +kernel
theorem dX6_hoursCalled_111 : decode cX6_hoursCalled 111 = .ok (.iload_n 2, 1) := by decide +kernel
theorem dX6_hoursCalled_112 : decode cX6_hoursCalled 112 = .ok (.if_icmp .ne 16, 3) := by decide +kernel
theorem dX6_hoursCalled_115 : decode cX6_hoursCalled 115 = .ok (.iload 5, 2) := by decide +kernel
theorem dX6_hoursCalled_117 : decode cX6_hoursCalled 117 = .ok (.iload 4, 2) := by decide +kernel
theorem dX6_hoursCalled_119 : decode cX6_hoursCalled 119 = .ok (.iadd, 1) := by decide +kernel
theorem dX6_hoursCalled_120 : decode cX6_hoursCalled 120 = .ok (.iconst 1, 1) := by decide +kernel
theorem dX6_hoursCalled_121 : decode cX6_hoursCalled 121 = .ok (.iadd, 1) := by decide +kernel
theorem dX6_hoursCalled_122 : decode cX6_hoursCalled 122 = .ok (.iload 7, 2) := by decide +kernel
theorem dX6_hoursCalled_124 : decode cX6_hoursCalled 124 = .ok (.isub, 1) := by decide +kernel
theorem dX6_hoursCalled_125 : decode cX6_hoursCalled 125 = .ok (.goto 5, 3) := by decide +kernel
theorem dX6_hoursCalled_128 : decode cX6_hoursCalled 128 = .ok (.iload 5, 2) := by decide +kernel
theorem dX6_hoursCalled_130 : decode cX6_hoursCalled 130 = .ok (.ireturn, 1) := by decide +kernel
theorem dX6_weptBehind_0 : decode cX6_weptBehind 0 = .ok (.iconst 0, 1) := by decide +kernel
theorem dX6_weptBehind_1 : decode cX6_weptBehind 1 = .ok (.istore_n 2, 1) := by decide +kernel
theorem dX6_weptBehind_2 : decode cX6_weptBehind 2 = .ok (.iconst 0, 1) := by decide +kernel
theorem dX6_weptBehind_3 : decode cX6_weptBehind 3 = .ok (.istore_n 3, 1) := by decide +kernel
theorem dX6_weptBehind_4 : decode cX6_weptBehind 4 = .ok (.iload_n 3, 1) := by decide +kernel
theorem dX6_weptBehind_5 : decode cX6_weptBehind 5 = .ok (.aload_n 0, 1) := by decide +kernel
theorem dX6_weptBehind_6 : decode cX6_weptBehind 6 = .ok (.getfield 9, 3) := by decide +kernel
theorem dX6_weptBehind_9 : decode cX6_weptBehind 9 = .ok (.if_icmp .ge 40, 3) := by decide +kernel
theorem dX6_weptBehind_12 : decode cX6_weptBehind 12 = .ok (.aload_n 0, 1) := by decide +kernel
theorem dX6_weptBehind_13 : decode cX6_weptBehind 13 = .ok (.iload_n 3, 1) := by decide +kernel
theorem dX6_weptBehind_14 : decode cX6_weptBehind 14 = .ok (.iconst 2, 1) := by decide +kernel
theorem dX6_weptBehind_15 : decode cX6_weptBehind 15 = .ok (.invokevirtual 55, 3) := by decide +kernel
theorem dX6_weptBehind_18 : decode cX6_weptBehind 18 = .ok (.iload_n 1, 1) := by decide +kernel
theorem dX6_weptBehind_19 : decode cX6_weptBehind 19 = .ok (.if_icmp .le 24, 3) := by decide +kernel
theorem dX6_weptBehind_22 : decode cX6_weptBehind 22 = .ok (.aload_n 0, 1) := by decide +kernel
theorem dX6_weptBehind_23 : decode cX6_weptBehind 23 = .ok (.iload_n 3, 1) := by decide +kernel
theorem dX6_weptBehind_24 : decode cX6_weptBehind 24 = .ok (.iconst 5, 1) := by decide +kernel
theorem dX6_weptBehind_25 : decode cX6_weptBehind 25 = .ok (.invokevirtual 55, 3) := by decide +kernel
theorem dX6_weptBehind_28 : decode cX6_weptBehind 28 = .ok (.iconst 1, 1) := by decide +kernel
theorem dX6_weptBehind_29 : decode cX6_weptBehind 29 = .ok (.if_icmp .ne 14, 3) := by decide +kernel
theorem dX6_weptBehind_32 : decode cX6_weptBehind 32 = .ok (.iload_n 2, 1) := by decide +kernel
theorem dX6_weptBehind_33 : decode cX6_weptBehind 33 = .ok (.iconst 1, 1) := by decide +kernel
theorem dX6_weptBehind_34 : decode cX6_weptBehind 34 = .ok (.aload_n 0, 1) := by decide +kernel
theorem dX6_weptBehind_35 : decode cX6_weptBehind 35 = .ok (.iload_n 3, 1) := by decide +kernel
theorem dX6_weptBehind_36 : decode cX6_weptBehind 36 = .ok (.iconst 1, 1) := by decide +kernel
theorem dX6_weptBehind_37 : decode cX6_weptBehind 37 = .ok (.invokevirtual 55, 3) := by decide +kernel
theorem dX6_weptBehind_40 : decode cX6_weptBehind 40 = .ok (.ishl, 1) := by decide +kernel
theorem dX6_weptBehind_41 : decode cX6_weptBehind 41 = .ok (.ior, 1) := by decide +kernel
theorem dX6_weptBehind_42 : decode cX6_weptBehind 42 = .ok (.istore_n 2, 1) := by decide +kernel
theorem dX6_weptBehind_43 : decode cX6_weptBehind 43 = .ok (.iinc 3 1, 3) := by decide +kernel
theorem dX6_weptBehind_46 : decode cX6_weptBehind 46 = .ok (.goto (-42), 3) := by decide +kernel
theorem dX6_weptBehind_49 : decode cX6_weptBehind 49 = .ok (.iload_n 2, 1) := by decide +kernel
theorem dX6_weptBehind_50 : decode cX6_weptBehind 50 = .ok (.ireturn, 1) := by decide +kernel
theorem dX8_init_0 : decode cX8_init 0 = .ok (.aload_n 0, 1) := by decide +kernel
theorem dX8_init_1 : decode cX8_init 1 = .ok (.invokespecial 3, 3) := by decide +kernel
theorem dX8_init_4 : decode cX8_init 4 = .ok (.aload_n 0, 1) := by decide +kernel
theorem dX8_init_5 : decode cX8_init 5 = .ok (.iconst 0, 1) := by decide +kernel
theorem dX8_init_6 : decode cX8_init 6 = .ok (.putfield 9, 3) := by decide +kernel
theorem dX8_init_9 : decode cX8_init 9 = .ok (.aload_n 0, 1) := by decide +kernel
theorem dX8_init_10 : decode cX8_init 10 = .ok (.bipush 10, 2) := by decide +kernel
theorem dX8_init_12 : decode cX8_init 12 = .ok (.newarray .int, 2) := by decide +kernel
theorem dX8_init_14 : decode cX8_init 14 = .ok (.putfield 15, 3) := by decide +kernel
theorem dX8_init_17 : decode cX8_init 17 = .ok (.aload_n 0, 1) := by decide +kernel
theorem dX8_init_18 : decode cX8_init 18 = .ok (.bipush 10, 2) := by decide +kernel
theorem dX8_init_20 : decode cX8_init 20 = .ok (.newarray .int, 2) := by decide +kernel
theorem dX8_init_22 : decode cX8_init 22 = .ok (.putfield 19, 3) := by decide +kernel
theorem dX8_init_25 : decode cX8_init 25 = .ok (.aload_n 0, 1) := by decide +kernel
theorem dX8_init_26 : decode cX8_init 26 = .ok (.sipush 5120, 3) := by decide +kernel
theorem dX8_init_29 : decode cX8_init 29 = .ok (.newarray .int, 2) := by decide +kernel
theorem dX8_init_31 : decode cX8_init 31 = .ok (.putfield 22, 3) := by decide +kernel
theorem dX8_init_34 : decode cX8_init 34 = .ok (.return_, 1) := by decide +kernel
theorem dX8_plan_0 : decode cX8_plan 0 = .ok (.aload_n 0, 1) := by decide +kernel
theorem dX8_plan_1 : decode cX8_plan 1 = .ok (.iconst 0, 1) := by decide +kernel
theorem dX8_plan_2 : decode cX8_plan 2 = .ok (.putfield 9, 3) := by decide +kernel
theorem dX8_plan_5 : decode cX8_plan 5 = .ok (.iconst 1, 1) := by decide +kernel
theorem dX8_plan_6 : decode cX8_plan 6 = .ok (.istore_n 3, 1) := by decide +kernel
theorem dX8_plan_7 : decode cX8_plan 7 = .ok (.iload_n 3, 1) := by decide +kernel
theorem dX8_plan_8 : decode cX8_plan 8 = .ok (.bipush 10, 2) := by decide +kernel
theorem dX8_plan_10 : decode cX8_plan 10 = .ok (.if_icmp .ge 40, 3) := by decide +kernel
theorem dX8_plan_13 : decode cX8_plan 13 = .ok (.iload_n 2, 1) := by decide +kernel
theorem dX8_plan_14 : decode cX8_plan 14 = .ok (.iload_n 3, 1) := by decide +kernel
theorem dX8_plan_15 : decode cX8_plan 15 = .ok (.ishr, 1) := by decide +kernel
theorem dX8_plan_16 : decode cX8_plan 16 = .ok (.iconst 1, 1) := by decide +kernel
theorem dX8_plan_17 : decode cX8_plan 17 = .ok (.iand, 1) := by decide +kernel
theorem dX8_plan_18 : decode cX8_plan 18 = .ok (.iconst 1, 1) := by decide +kernel
theorem dX8_plan_19 : decode cX8_plan 19 = .ok (.if_icmp .ne 25, 3) := by decide +kernel
theorem dX8_plan_22 : decode cX8_plan 22 = .ok (.aload_n 0, 1) := by decide +kernel
theorem dX8_plan_23 : decode cX8_plan 23 = .ok (.dup, 1) := by decide +kernel
theorem dX8_plan_24 : decode cX8_plan 24 = .ok (.getfield 9, 3) := by decide +kernel
theorem dX8_plan_27 : decode cX8_plan 27 = .ok (.iconst 1, 1) := by decide +kernel
theorem dX8_plan_28 : decode cX8_plan 28 = .ok (.iadd, 1) := by decide +kernel
theorem dX8_plan_29 : decode cX8_plan 29 = .ok (.putfield 9, 3) := by decide +kernel
theorem dX8_plan_32 : decode cX8_plan 32 = .ok (.aload_n 0, 1) := by decide +kernel
theorem dX8_plan_33 : decode cX8_plan 33 = .ok (.getfield 19, 3) := by decide +kernel
theorem dX8_plan_36 : decode cX8_plan 36 = .ok (.aload_n 0, 1) := by decide +kernel
theorem dX8_plan_37 : decode cX8_plan 37 = .ok (.getfield 9, 3) := by decide +kernel
theorem dX8_plan_40 : decode cX8_plan 40 = .ok (.iload_n 3, 1) := by decide +kernel
theorem dX8_plan_41 : decode cX8_plan 41 = .ok (.invokestatic 25, 3) := by decide +kernel
theorem dX8_plan_44 : decode cX8_plan 44 = .ok (.iinc 3 1, 3) := by decide +kernel
theorem dX8_plan_47 : decode cX8_plan 47 = .ok (.goto (-40), 3) := by decide +kernel
theorem dX8_plan_50 : decode cX8_plan 50 = .ok (.iconst 0, 1) := by decide +kernel
theorem dX8_plan_51 : decode cX8_plan 51 = .ok (.istore_n 3, 1) := by decide +kernel
theorem dX8_plan_52 : decode cX8_plan 52 = .ok (.iload_n 3, 1) := by decide +kernel
theorem dX8_plan_53 : decode cX8_plan 53 = .ok (.iconst 1, 1) := by decide +kernel
theorem dX8_plan_54 : decode cX8_plan 54 = .ok (.aload_n 0, 1) := by decide +kernel
theorem dX8_plan_55 : decode cX8_plan 55 = .ok (.getfield 9, 3) := by decide +kernel
theorem dX8_plan_58 : decode cX8_plan 58 = .ok (.ishl, 1) := by decide +kernel
theorem dX8_plan_59 : decode cX8_plan 59 = .ok (.if_icmp .ge 49, 3) := by decide +kernel
theorem dX8_plan_62 : decode cX8_plan 62 = .ok (.iconst 0, 1) := by decide +kernel
theorem dX8_plan_63 : decode cX8_plan 63 = .ok (.istore 4, 2) := by decide +kernel
theorem dX8_plan_65 : decode cX8_plan 65 = .ok (.iload 4, 2) := by decide +kernel
theorem dX8_plan_67 : decode cX8_plan 67 = .ok (.aload_n 0, 1) := by decide +kernel
theorem dX8_plan_68 : decode cX8_plan 68 = .ok (.getfield 9, 3) := by decide +kernel
theorem dX8_plan_71 : decode cX8_plan 71 = .ok (.if_icmp .gt 31, 3) := by decide +kernel
theorem dX8_plan_74 : decode cX8_plan 74 = .ok (.aload_n 0, 1) := by decide +kernel
theorem dX8_plan_75 : decode cX8_plan 75 = .ok (.getfield 22, 3) := by decide +kernel
theorem dX8_plan_78 : decode cX8_plan 78 = .ok (.iload_n 3, 1) := by decide +kernel
theorem dX8_plan_79 : decode cX8_plan 79 = .ok (.bipush 10, 2) := by decide +kernel
theorem dX8_plan_81 : decode cX8_plan 81 = .ok (.imul, 1) := by decide +kernel
theorem dX8_plan_82 : decode cX8_plan 82 = .ok (.iload 4, 2) := by decide +kernel
theorem dX8_plan_84 : decode cX8_plan 84 = .ok (.iadd, 1) := by decide +kernel
theorem dX8_plan_85 : decode cX8_plan 85 = .ok (.aload_n 0, 1) := by decide +kernel
theorem dX8_plan_86 : decode cX8_plan 86 = .ok (.aload_n 1, 1) := by decide +kernel
theorem dX8_plan_87 : decode cX8_plan 87 = .ok (.iload_n 3, 1) := by decide +kernel
theorem dX8_plan_88 : decode cX8_plan 88 = .ok (.iload 4, 2) := by decide +kernel
theorem dX8_plan_90 : decode cX8_plan 90 = .ok (.invokevirtual 29, 3) := by decide +kernel
theorem dX8_plan_93 : decode cX8_plan 93 = .ok (.invokestatic 25, 3) := by decide +kernel
theorem dX8_plan_96 : decode cX8_plan 96 = .ok (.iinc 4 1, 3) := by decide +kernel
theorem dX8_plan_99 : decode cX8_plan 99 = .ok (.goto (-34), 3) := by decide +kernel
theorem dX8_plan_102 : decode cX8_plan 102 = .ok (.iinc 3 1, 3) := by decide +kernel
theorem dX8_plan_105 : decode cX8_plan 105 = .ok (.goto (-53), 3) := by decide +kernel
theorem dX8_plan_108 : decode cX8_plan 108 = .ok (.aload_n 0, 1) := by decide +kernel
theorem dX8_plan_109 : decode cX8_plan 109 = .ok (.aload_n 1, 1) := by decide +kernel
theorem dX8_plan_110 : decode cX8_plan 110 = .ok (.invokevirtual 33, 3) := by decide +kernel
theorem dX8_plan_113 : decode cX8_plan 113 = .ok (.aload_n 0, 1) := by decide +kernel
theorem dX8_plan_114 : decode cX8_plan 114 = .ok (.getfield 22, 3) := by decide +kernel
theorem dX8_plan_117 : decode cX8_plan 117 = .ok (.iconst 1, 1) := by decide +kernel
theorem dX8_plan_118 : decode cX8_plan 118 = .ok (.aload_n 0, 1) := by decide +kernel
theorem dX8_plan_119 : decode cX8_plan 119 = .ok (.getfield 9, 3) := by decide +kernel
theorem dX8_plan_122 : decode cX8_plan 122 = .ok (.ishl, 1) := by decide +kernel
theorem dX8_plan_123 : decode cX8_plan 123 = .ok (.iconst 1, 1) := by decide +kernel
theorem dX8_plan_124 : decode cX8_plan 124 = .ok (.isub, 1) := by decide +kernel
theorem dX8_plan_125 : decode cX8_plan 125 = .ok (.bipush 10, 2) := by decide +kernel
theorem dX8_plan_127 : decode cX8_plan 127 = .ok (.imul, 1) := by decide +kernel
theorem dX8_plan_128 : decode cX8_plan 128 = .ok (.invokestatic 37, 3) := by decide +kernel
theorem dX8_plan_131 : decode cX8_plan 131 = .ok (.ireturn, 1) := by decide +kernel
theorem dX8_leastFrom_0 : decode cX8_leastFrom 0 = .ok (.iload_n 2, 1) := by decide +kernel
theorem dX8_leastFrom_1 : decode cX8_leastFrom 1 = .ok (.ifCond .ne 17, 3) := by decide +kernel
theorem dX8_leastFrom_4 : decode cX8_leastFrom 4 = .ok (.aload_n 1, 1) := by decide +kernel
theorem dX8_leastFrom_5 : decode cX8_leastFrom 5 = .ok (.aload_n 0, 1) := by decide +kernel
theorem dX8_leastFrom_6 : decode cX8_leastFrom 6 = .ok (.getfield 19, 3) := by decide +kernel
theorem dX8_leastFrom_9 : decode cX8_leastFrom 9 = .ok (.iload_n 3, 1) := by decide +kernel
theorem dX8_leastFrom_10 : decode cX8_leastFrom 10 = .ok (.invokestatic 37, 3) := by decide +kernel
theorem dX8_leastFrom_13 : decode cX8_leastFrom 13 = .ok (.iconst 0, 1) := by decide +kernel
theorem dX8_leastFrom_14 : decode cX8_leastFrom 14 = .ok (.invokevirtual 41, 3) := by decide +kernel
theorem dX8_leastFrom_17 : decode cX8_leastFrom 17 = .ok (.ireturn, 1) := by decide +kernel
theorem dX8_leastFrom_18 : decode cX8_leastFrom 18 = .ok (.ldc 47, 2) := by decide +kernel
theorem dX8_leastFrom_20 : decode cX8_leastFrom 20 = .ok (.istore 4, 2) := by decide +kernel
theorem dX8_leastFrom_22 : decode cX8_leastFrom 22 = .ok (.iconst 1, 1) := by decide +kernel
theorem dX8_leastFrom_23 : decode cX8_leastFrom 23 = .ok (.istore 5, 2) := by decide +kernel
theorem dX8_leastFrom_25 : decode cX8_leastFrom 25 = .ok (.iload 5, 2) := by decide +kernel
theorem dX8_leastFrom_27 : decode cX8_leastFrom 27 = .ok (.aload_n 0, 1) := by decide +kernel
theorem dX8_leastFrom_28 : decode cX8_leastFrom 28 = .ok (.getfield 9, 3) := by decide +kernel
theorem dX8_leastFrom_31 : decode cX8_leastFrom 31 = .ok (.if_icmp .gt 37, 3) := by decide +kernel
theorem dX8_leastFrom_34 : decode cX8_leastFrom 34 = .ok (.iload_n 2, 1) := by decide +kernel
theorem dX8_leastFrom_35 : decode cX8_leastFrom 35 = .ok (.iload 5, 2) := by decide +kernel
theorem dX8_leastFrom_37 : decode cX8_leastFrom 37 = .ok (.iconst 1, 1) := by decide +kernel
theorem dX8_leastFrom_38 : decode cX8_leastFrom 38 = .ok (.isub, 1) := by decide +kernel
theorem dX8_leastFrom_39 : decode cX8_leastFrom 39 = .ok (.ishr, 1) := by decide +kernel
theorem dX8_leastFrom_40 : decode cX8_leastFrom 40 = .ok (.iconst 1, 1) := by decide +kernel
theorem dX8_leastFrom_41 : decode cX8_leastFrom 41 = .ok (.iand, 1) := by decide +kernel
theorem dX8_leastFrom_42 : decode cX8_leastFrom 42 = .ok (.iconst 1, 1) := by decide +kernel
theorem dX8_leastFrom_43 : decode cX8_leastFrom 43 = .ok (.if_icmp .ne 19, 3) := by decide +kernel
theorem dX8_leastFrom_46 : decode cX8_leastFrom 46 = .ok (.iload 4, 2) := by decide +kernel
theorem dX8_leastFrom_48 : decode cX8_leastFrom 48 = .ok (.aload_n 0, 1) := by decide +kernel
theorem dX8_leastFrom_49 : decode cX8_leastFrom 49 = .ok (.aload_n 1, 1) := by decide +kernel
theorem dX8_leastFrom_50 : decode cX8_leastFrom 50 = .ok (.iload_n 2, 1) := by decide +kernel
theorem dX8_leastFrom_51 : decode cX8_leastFrom 51 = .ok (.iload_n 3, 1) := by decide +kernel
theorem dX8_leastFrom_52 : decode cX8_leastFrom 52 = .ok (.iload 5, 2) := by decide +kernel
theorem dX8_leastFrom_54 : decode cX8_leastFrom 54 = .ok (.invokevirtual 48, 3) := by decide +kernel
theorem dX8_leastFrom_57 : decode cX8_leastFrom 57 = .ok (.invokestatic 52, 3) := by decide +kernel
theorem dX8_leastFrom_60 : decode cX8_leastFrom 60 = .ok (.istore 4, 2) := by decide +kernel
theorem dX8_leastFrom_62 : decode cX8_leastFrom 62 = .ok (.iinc 5 1, 3) := by decide +kernel
theorem dX8_leastFrom_65 : decode cX8_leastFrom 65 = .ok (.goto (-40), 3) := by decide +kernel
theorem dX8_leastFrom_68 : decode cX8_leastFrom 68 = .ok (.iload 4, 2) := by decide +kernel
theorem dX8_leastFrom_70 : decode cX8_leastFrom 70 = .ok (.ireturn, 1) := by decide +kernel
theorem dX8_leastBy_0 : decode cX8_leastBy 0 = .ok (.iload_n 2, 1) := by decide +kernel
theorem dX8_leastBy_1 : decode cX8_leastBy 1 = .ok (.iconst 1, 1) := by decide +kernel
theorem dX8_leastBy_2 : decode cX8_leastBy 2 = .ok (.iload 4, 2) := by decide +kernel
theorem dX8_leastBy_4 : decode cX8_leastBy 4 = .ok (.iconst 1, 1) := by decide +kernel
theorem dX8_leastBy_5 : decode cX8_leastBy 5 = .ok (.isub, 1) := by decide +kernel
theorem dX8_leastBy_6 : decode cX8_leastBy 6 = .ok (.ishl, 1) := by decide +kernel
theorem dX8_leastBy_7 : decode cX8_leastBy 7 = .ok (.iconst (-1), 1) := by decide +kernel
theorem dX8_leastBy_8 : decode cX8_leastBy 8 = .ok (.ixor, 1) := by decide +kernel
theorem dX8_leastBy_9 : decode cX8_leastBy 9 = .ok (.iand, 1) := by decide +kernel
theorem dX8_leastBy_10 : decode cX8_leastBy 10 = .ok (.istore 5, 2) := by decide +kernel
theorem dX8_leastBy_12 : decode cX8_leastBy 12 = .ok (.aload_n 1, 1) := by decide +kernel
theorem dX8_leastBy_13 : decode cX8_leastBy 13 = .ok (.aload_n 0, 1) := by decide +kernel
theorem dX8_leastBy_14 : decode cX8_leastBy 14 = .ok (.getfield 19, 3) := by decide +kernel
theorem dX8_leastBy_17 : decode cX8_leastBy 17 = .ok (.iload_n 3, 1) := by decide +kernel
theorem dX8_leastBy_18 : decode cX8_leastBy 18 = .ok (.invokestatic 37, 3) := by decide +kernel
theorem dX8_leastBy_21 : decode cX8_leastBy 21 = .ok (.aload_n 0, 1) := by decide +kernel
theorem dX8_leastBy_22 : decode cX8_leastBy 22 = .ok (.getfield 19, 3) := by decide +kernel
theorem dX8_leastBy_25 : decode cX8_leastBy 25 = .ok (.iload 4, 2) := by decide +kernel
theorem dX8_leastBy_27 : decode cX8_leastBy 27 = .ok (.invokestatic 37, 3) := by decide +kernel
theorem dX8_leastBy_30 : decode cX8_leastBy 30 = .ok (.invokevirtual 41, 3) := by decide +kernel
theorem dX8_leastBy_33 : decode cX8_leastBy 33 = .ok (.aload_n 0, 1) := by decide +kernel
theorem dX8_leastBy_34 : decode cX8_leastBy 34 = .ok (.getfield 22, 3) := by decide +kernel
theorem dX8_leastBy_37 : decode cX8_leastBy 37 = .ok (.iload 5, 2) := by decide +kernel
theorem dX8_leastBy_39 : decode cX8_leastBy 39 = .ok (.bipush 10, 2) := by decide +kernel
theorem dX8_leastBy_41 : decode cX8_leastBy 41 = .ok (.imul, 1) := by decide +kernel
theorem dX8_leastBy_42 : decode cX8_leastBy 42 = .ok (.iload 4, 2) := by decide +kernel
theorem dX8_leastBy_44 : decode cX8_leastBy 44 = .ok (.iadd, 1) := by decide +kernel
theorem dX8_leastBy_45 : decode cX8_leastBy 45 = .ok (.invokestatic 37, 3) := by decide +kernel
theorem dX8_leastBy_48 : decode cX8_leastBy 48 = .ok (.iadd, 1) := by decide +kernel
theorem dX8_leastBy_49 : decode cX8_leastBy 49 = .ok (.ireturn, 1) := by decide +kernel
theorem dX8_trace_0 : decode cX8_trace 0 = .ok (.iconst 1, 1) := by decide +kernel
theorem dX8_trace_1 : decode cX8_trace 1 = .ok (.aload_n 0, 1) := by decide +kernel
theorem dX8_trace_2 : decode cX8_trace 2 = .ok (.getfield 9, 3) := by decide +kernel
theorem dX8_trace_5 : decode cX8_trace 5 = .ok (.ishl, 1) := by decide +kernel
theorem dX8_trace_6 : decode cX8_trace 6 = .ok (.iconst 1, 1) := by decide +kernel
theorem dX8_trace_7 : decode cX8_trace 7 = .ok (.isub, 1) := by decide +kernel
theorem dX8_trace_8 : decode cX8_trace 8 = .ok (.istore_n 2, 1) := by decide +kernel
theorem dX8_trace_9 : decode cX8_trace 9 = .ok (.iconst 0, 1) := by decide +kernel
theorem dX8_trace_10 : decode cX8_trace 10 = .ok (.istore_n 3, 1) := by decide +kernel
theorem dX8_trace_11 : decode cX8_trace 11 = .ok (.iconst 0, 1) := by decide +kernel
theorem dX8_trace_12 : decode cX8_trace 12 = .ok (.istore 4, 2) := by decide +kernel
theorem dX8_trace_14 : decode cX8_trace 14 = .ok (.iload 4, 2) := by decide +kernel
theorem dX8_trace_16 : decode cX8_trace 16 = .ok (.aload_n 0, 1) := by decide +kernel
theorem dX8_trace_17 : decode cX8_trace 17 = .ok (.getfield 9, 3) := by decide +kernel
theorem dX8_trace_20 : decode cX8_trace 20 = .ok (.if_icmp .ge 71, 3) := by decide +kernel
theorem dX8_trace_23 : decode cX8_trace 23 = .ok (.iconst 1, 1) := by decide +kernel
theorem dX8_trace_24 : decode cX8_trace 24 = .ok (.istore 5, 2) := by decide +kernel
theorem dX8_trace_26 : decode cX8_trace 26 = .ok (.iload 5, 2) := by decide +kernel
theorem dX8_trace_28 : decode cX8_trace 28 = .ok (.aload_n 0, 1) := by decide +kernel
theorem dX8_trace_29 : decode cX8_trace 29 = .ok (.getfield 9, 3) := by decide +kernel
theorem dX8_trace_32 : decode cX8_trace 32 = .ok (.if_icmp .ge 21, 3) := by decide +kernel
theorem dX8_trace_35 : decode cX8_trace 35 = .ok (.aload_n 0, 1) := by decide +kernel
theorem dX8_trace_36 : decode cX8_trace 36 = .ok (.aload_n 1, 1) := by decide +kernel
theorem dX8_trace_37 : decode cX8_trace 37 = .ok (.iload_n 2, 1) := by decide +kernel
theorem dX8_trace_38 : decode cX8_trace 38 = .ok (.iload_n 3, 1) := by decide +kernel
theorem dX8_trace_39 : decode cX8_trace 39 = .ok (.iload 5, 2) := by decide +kernel
theorem dX8_trace_41 : decode cX8_trace 41 = .ok (.invokevirtual 57, 3) := by decide +kernel
theorem dX8_trace_44 : decode cX8_trace 44 = .ok (.ifCond .ne 9, 3) := by decide +kernel
theorem dX8_trace_47 : decode cX8_trace 47 = .ok (.iinc 5 1, 3) := by decide +kernel
theorem dX8_trace_50 : decode cX8_trace 50 = .ok (.goto (-24), 3) := by decide +kernel
theorem dX8_trace_53 : decode cX8_trace 53 = .ok (.aload_n 0, 1) := by decide +kernel
theorem dX8_trace_54 : decode cX8_trace 54 = .ok (.getfield 15, 3) := by decide +kernel
theorem dX8_trace_57 : decode cX8_trace 57 = .ok (.iload 4, 2) := by decide +kernel
theorem dX8_trace_59 : decode cX8_trace 59 = .ok (.aload_n 0, 1) := by decide +kernel
theorem dX8_trace_60 : decode cX8_trace 60 = .ok (.getfield 19, 3) := by decide +kernel
theorem dX8_trace_63 : decode cX8_trace 63 = .ok (.iload 5, 2) := by decide +kernel
theorem dX8_trace_65 : decode cX8_trace 65 = .ok (.invokestatic 37, 3) := by decide +kernel
theorem dX8_trace_68 : decode cX8_trace 68 = .ok (.invokestatic 25, 3) := by decide +kernel
theorem dX8_trace_71 : decode cX8_trace 71 = .ok (.iload_n 2, 1) := by decide +kernel
theorem dX8_trace_72 : decode cX8_trace 72 = .ok (.iconst 1, 1) := by decide +kernel
theorem dX8_trace_73 : decode cX8_trace 73 = .ok (.iload 5, 2) := by decide +kernel
theorem dX8_trace_75 : decode cX8_trace 75 = .ok (.iconst 1, 1) := by decide +kernel
theorem dX8_trace_76 : decode cX8_trace 76 = .ok (.isub, 1) := by decide +kernel
theorem dX8_trace_77 : decode cX8_trace 77 = .ok (.ishl, 1) := by decide +kernel
theorem dX8_trace_78 : decode cX8_trace 78 = .ok (.iconst (-1), 1) := by decide +kernel
theorem dX8_trace_79 : decode cX8_trace 79 = .ok (.ixor, 1) := by decide +kernel
theorem dX8_trace_80 : decode cX8_trace 80 = .ok (.iand, 1) := by decide +kernel
theorem dX8_trace_81 : decode cX8_trace 81 = .ok (.istore_n 2, 1) := by decide +kernel
theorem dX8_trace_82 : decode cX8_trace 82 = .ok (.iload 5, 2) := by decide +kernel
theorem dX8_trace_84 : decode cX8_trace 84 = .ok (.istore_n 3, 1) := by decide +kernel
theorem dX8_trace_85 : decode cX8_trace 85 = .ok (.iinc 4 1, 3) := by decide +kernel
theorem dX8_trace_88 : decode cX8_trace 88 = .ok (.goto (-74), 3) := by decide +kernel
theorem dX8_trace_91 : decode cX8_trace 91 = .ok (.return_, 1) := by decide +kernel
theorem dX8_isBest_0 : decode cX8_isBest 0 = .ok (.iload_n 2, 1) := by decide +kernel
theorem dX8_isBest_1 : decode cX8_isBest 1 = .ok (.iload 4, 2) := by decide +kernel
theorem dX8_isBest_3 : decode cX8_isBest 3 = .ok (.iconst 1, 1) := by decide +kernel
theorem dX8_isBest_4 : decode cX8_isBest 4 = .ok (.isub, 1) := by decide +kernel
theorem dX8_isBest_5 : decode cX8_isBest 5 = .ok (.ishr, 1) := by decide +kernel
theorem dX8_isBest_6 : decode cX8_isBest 6 = .ok (.iconst 1, 1) := by decide +kernel
theorem dX8_isBest_7 : decode cX8_isBest 7 = .ok (.iand, 1) := by decide +kernel
theorem dX8_isBest_8 : decode cX8_isBest 8 = .ok (.iconst 1, 1) := by decide +kernel
theorem dX8_isBest_9 : decode cX8_isBest 9 = .ok (.if_icmp .ne 32, 3) := by decide +kernel
theorem dX8_isBest_12 : decode cX8_isBest 12 = .ok (.aload_n 0, 1) := by decide +kernel
theorem dX8_isBest_13 : decode cX8_isBest 13 = .ok (.aload_n 1, 1) := by decide +kernel
theorem dX8_isBest_14 : decode cX8_isBest 14 = .ok (.iload_n 2, 1) := by decide +kernel
theorem dX8_isBest_15 : decode cX8_isBest 15 = .ok (.iload_n 3, 1) := by decide +kernel
theorem dX8_isBest_16 : decode cX8_isBest 16 = .ok (.iload 4, 2) := by decide +kernel
theorem dX8_isBest_18 : decode cX8_isBest 18 = .ok (.invokevirtual 48, 3) := by decide +kernel
theorem dX8_isBest_21 : decode cX8_isBest 21 = .ok (.aload_n 0, 1) := by decide +kernel
theorem dX8_isBest_22 : decode cX8_isBest 22 = .ok (.getfield 22, 3) := by decide +kernel
theorem dX8_isBest_25 : decode cX8_isBest 25 = .ok (.iload_n 2, 1) := by decide +kernel
theorem dX8_isBest_26 : decode cX8_isBest 26 = .ok (.bipush 10, 2) := by decide +kernel
theorem dX8_isBest_28 : decode cX8_isBest 28 = .ok (.imul, 1) := by decide +kernel
theorem dX8_isBest_29 : decode cX8_isBest 29 = .ok (.iload_n 3, 1) := by decide +kernel
theorem dX8_isBest_30 : decode cX8_isBest 30 = .ok (.iadd, 1) := by decide +kernel
theorem dX8_isBest_31 : decode cX8_isBest 31 = .ok (.invokestatic 37, 3) := by decide +kernel
theorem dX8_isBest_34 : decode cX8_isBest 34 = .ok (.if_icmp .ne 7, 3) := by decide +kernel
theorem dX8_isBest_37 : decode cX8_isBest 37 = .ok (.iconst 1, 1) := by decide +kernel
theorem dX8_isBest_38 : decode cX8_isBest 38 = .ok (.goto 4, 3) := by decide +kernel
theorem dX8_isBest_41 : decode cX8_isBest 41 = .ok (.iconst 0, 1) := by decide +kernel
theorem dX8_isBest_42 : decode cX8_isBest 42 = .ok (.ireturn, 1) := by decide +kernel
theorem dX9_init_0 : decode cX9_init 0 = .ok (.aload_n 0, 1) := by decide +kernel
theorem dX9_init_1 : decode cX9_init 1 = .ok (.invokespecial 3, 3) := by decide +kernel
theorem dX9_init_4 : decode cX9_init 4 = .ok (.aload_n 0, 1) := by decide +kernel
theorem dX9_init_5 : decode cX9_init 5 = .ok (.iconst (-1), 1) := by decide +kernel
theorem dX9_init_6 : decode cX9_init 6 = .ok (.putfield 9, 3) := by decide +kernel
theorem dX9_init_9 : decode cX9_init 9 = .ok (.aload_n 0, 1) := by decide +kernel
theorem dX9_init_10 : decode cX9_init 10 = .ok (.iconst (-1), 1) := by decide +kernel
theorem dX9_init_11 : decode cX9_init 11 = .ok (.putfield 15, 3) := by decide +kernel
theorem dX9_init_14 : decode cX9_init 14 = .ok (.aload_n 0, 1) := by decide +kernel
theorem dX9_init_15 : decode cX9_init 15 = .ok (.iconst (-1), 1) := by decide +kernel
theorem dX9_init_16 : decode cX9_init 16 = .ok (.putfield 18, 3) := by decide +kernel
theorem dX9_init_19 : decode cX9_init 19 = .ok (.return_, 1) := by decide +kernel
theorem dX9_follow_0 : decode cX9_follow 0 = .ok (.aload_n 1, 1) := by decide +kernel
theorem dX9_follow_1 : decode cX9_follow 1 = .ok (.getfield 21, 3) := by decide +kernel
theorem dX9_follow_4 : decode cX9_follow 4 = .ok (.iload_n 2, 1) := by decide +kernel
theorem dX9_follow_5 : decode cX9_follow 5 = .ok (.invokestatic 27, 3) := by decide +kernel
theorem dX9_follow_8 : decode cX9_follow 8 = .ok (.istore 4, 2) := by decide +kernel
theorem dX9_follow_10 : decode cX9_follow 10 = .ok (.aload_n 1, 1) := by decide +kernel
theorem dX9_follow_11 : decode cX9_follow 11 = .ok (.getfield 31, 3) := by decide +kernel
theorem dX9_follow_14 : decode cX9_follow 14 = .ok (.iload_n 2, 1) := by decide +kernel
theorem dX9_follow_15 : decode cX9_follow 15 = .ok (.invokestatic 27, 3) := by decide +kernel
theorem dX9_follow_18 : decode cX9_follow 18 = .ok (.istore 5, 2) := by decide +kernel
theorem dX9_follow_20 : decode cX9_follow 20 = .ok (.aload_n 3, 1) := by decide +kernel
theorem dX9_follow_21 : decode cX9_follow 21 = .ok (.aload_n 1, 1) := by decide +kernel
theorem dX9_follow_22 : decode cX9_follow 22 = .ok (.iload 5, 2) := by decide +kernel
theorem dX9_follow_24 : decode cX9_follow 24 = .ok (.invokevirtual 34, 3) := by decide +kernel
theorem dX9_follow_27 : decode cX9_follow 27 = .ok (.aload_n 0, 1) := by decide +kernel
theorem dX9_follow_28 : decode cX9_follow 28 = .ok (.aload_n 3, 1) := by decide +kernel
theorem dX9_follow_29 : decode cX9_follow 29 = .ok (.aload_n 1, 1) := by decide +kernel
theorem dX9_follow_30 : decode cX9_follow 30 = .ok (.iload 4, 2) := by decide +kernel
theorem dX9_follow_32 : decode cX9_follow 32 = .ok (.invokevirtual 40, 3) := by decide +kernel
theorem dX9_follow_35 : decode cX9_follow 35 = .ok (.invokestatic 44, 3) := by decide +kernel
theorem dX9_follow_38 : decode cX9_follow 38 = .ok (.putfield 9, 3) := by decide +kernel
theorem dX9_follow_41 : decode cX9_follow 41 = .ok (.aload_n 0, 1) := by decide +kernel
theorem dX9_follow_42 : decode cX9_follow 42 = .ok (.iconst (-1), 1) := by decide +kernel
theorem dX9_follow_43 : decode cX9_follow 43 = .ok (.putfield 15, 3) := by decide +kernel
theorem dX9_follow_46 : decode cX9_follow 46 = .ok (.aload_n 0, 1) := by decide +kernel
theorem dX9_follow_47 : decode cX9_follow 47 = .ok (.iconst (-1), 1) := by decide +kernel
theorem dX9_follow_48 : decode cX9_follow 48 = .ok (.putfield 18, 3) := by decide +kernel
theorem dX9_follow_51 : decode cX9_follow 51 = .ok (.iload 5, 2) := by decide +kernel
theorem dX9_follow_53 : decode cX9_follow 53 = .ok (.bipush 24, 2) := by decide +kernel
theorem dX9_follow_55 : decode cX9_follow 55 = .ok (.iadd, 1) := by decide +kernel
theorem dX9_follow_56 : decode cX9_follow 56 = .ok (.bipush 6, 2) := by decide +kernel
theorem dX9_follow_58 : decode cX9_follow 58 = .ok (.isub, 1) := by decide +kernel
theorem dX9_follow_59 : decode cX9_follow 59 = .ok (.bipush 24, 2) := by decide +kernel
theorem dX9_follow_61 : decode cX9_follow 61 = .ok (.idiv, 1) := by decide +kernel
theorem dX9_follow_62 : decode cX9_follow 62 = .ok (.istore 6, 2) := by decide +kernel
theorem dX9_follow_64 : decode cX9_follow 64 = .ok (.iconst 0, 1) := by decide +kernel
theorem dX9_follow_65 : decode cX9_follow 65 = .ok (.istore 7, 2) := by decide +kernel
theorem dX9_follow_67 : decode cX9_follow 67 = .ok (.iload 6, 2) := by decide +kernel
theorem dX9_follow_69 : decode cX9_follow 69 = .ok (.istore 8, 2) := by decide +kernel
theorem dX9_follow_71 : decode cX9_follow 71 = .ok (.iload 8, 2) := by decide +kernel
theorem dX9_follow_73 : decode cX9_follow 73 = .ok (.iload 6, 2) := by decide +kernel
theorem dX9_follow_75 : decode cX9_follow 75 = .ok (.bipush 30, 2) := by decide +kernel
theorem dX9_follow_77 : decode cX9_follow 77 = .ok (.iadd, 1) := by decide +kernel
theorem dX9_follow_78 : decode cX9_follow 78 = .ok (.if_icmp .ge 84, 3) := by decide +kernel
theorem dX9_follow_81 : decode cX9_follow 81 = .ok (.aload_n 3, 1) := by decide +kernel
theorem dX9_follow_82 : decode cX9_follow 82 = .ok (.aload_n 1, 1) := by decide +kernel
theorem dX9_follow_83 : decode cX9_follow 83 = .ok (.iload 8, 2) := by decide +kernel
theorem dX9_follow_85 : decode cX9_follow 85 = .ok (.bipush 24, 2) := by decide +kernel
theorem dX9_follow_87 : decode cX9_follow 87 = .ok (.imul, 1) := by decide +kernel
theorem dX9_follow_88 : decode cX9_follow 88 = .ok (.bipush 6, 2) := by decide +kernel
theorem dX9_follow_90 : decode cX9_follow 90 = .ok (.iadd, 1) := by decide +kernel
theorem dX9_follow_91 : decode cX9_follow 91 = .ok (.invokevirtual 48, 3) := by decide +kernel
theorem dX9_follow_94 : decode cX9_follow 94 = .ok (.aload_n 3, 1) := by decide +kernel
theorem dX9_follow_95 : decode cX9_follow 95 = .ok (.aload_n 1, 1) := by decide +kernel
theorem dX9_follow_96 : decode cX9_follow 96 = .ok (.iload 4, 2) := by decide +kernel
theorem dX9_follow_98 : decode cX9_follow 98 = .ok (.invokevirtual 40, 3) := by decide +kernel
theorem dX9_follow_101 : decode cX9_follow 101 = .ok (.istore 9, 2) := by decide +kernel
theorem dX9_follow_103 : decode cX9_follow 103 = .ok (.iload 9, 2) := by decide +kernel
theorem dX9_follow_105 : decode cX9_follow 105 = .ok (.invokestatic 51, 3) := by decide +kernel
theorem dX9_follow_108 : decode cX9_follow 108 = .ok (.istore 10, 2) := by decide +kernel
theorem dX9_follow_110 : decode cX9_follow 110 = .ok (.iload 7, 2) := by decide +kernel
theorem dX9_follow_112 : decode cX9_follow 112 = .ok (.iload 10, 2) := by decide +kernel
theorem dX9_follow_114 : decode cX9_follow 114 = .ok (.iconst 1, 1) := by decide +kernel
theorem dX9_follow_115 : decode cX9_follow 115 = .ok (.if_icmp .le 7, 3) := by decide +kernel
theorem dX9_follow_118 : decode cX9_follow 118 = .ok (.iconst 1, 1) := by decide +kernel
theorem dX9_follow_119 : decode cX9_follow 119 = .ok (.goto 4, 3) := by decide +kernel
theorem dX9_follow_122 : decode cX9_follow 122 = .ok (.iconst 0, 1) := by decide +kernel
theorem dX9_follow_123 : decode cX9_follow 123 = .ok (.iadd, 1) := by decide +kernel
theorem dX9_follow_124 : decode cX9_follow 124 = .ok (.istore 7, 2) := by decide +kernel
theorem dX9_follow_126 : decode cX9_follow 126 = .ok (.iload 10, 2) := by decide +kernel
theorem dX9_follow_128 : decode cX9_follow 128 = .ok (.iconst 1, 1) := by decide +kernel
theorem dX9_follow_129 : decode cX9_follow 129 = .ok (.if_icmp .eq 9, 3) := by decide +kernel
theorem dX9_follow_132 : decode cX9_follow 132 = .ok (.iload 7, 2) := by decide +kernel
theorem dX9_follow_134 : decode cX9_follow 134 = .ok (.iconst 3, 1) := by decide +kernel
theorem dX9_follow_135 : decode cX9_follow 135 = .ok (.if_icmp .ne 21, 3) := by decide +kernel
theorem dX9_follow_138 : decode cX9_follow 138 = .ok (.aload_n 0, 1) := by decide +kernel
theorem dX9_follow_139 : decode cX9_follow 139 = .ok (.iload 9, 2) := by decide +kernel
theorem dX9_follow_141 : decode cX9_follow 141 = .ok (.invokestatic 56, 3) := by decide +kernel
theorem dX9_follow_144 : decode cX9_follow 144 = .ok (.putfield 15, 3) := by decide +kernel
theorem dX9_follow_147 : decode cX9_follow 147 = .ok (.aload_n 0, 1) := by decide +kernel
theorem dX9_follow_148 : decode cX9_follow 148 = .ok (.iload 8, 2) := by decide +kernel
theorem dX9_follow_150 : decode cX9_follow 150 = .ok (.putfield 18, 3) := by decide +kernel
theorem dX9_follow_153 : decode cX9_follow 153 = .ok (.goto 9, 3) := by decide +kernel
theorem dX9_follow_156 : decode cX9_follow 156 = .ok (.iinc 8 1, 3) := by decide +kernel
theorem dX9_follow_159 : decode cX9_follow 159 = .ok (.goto (-88), 3) := by decide +kernel
theorem dX9_follow_162 : decode cX9_follow 162 = .ok (.return_, 1) := by decide +kernel
theorem dX9_meantBy_0 : decode cX9_meantBy 0 = .ok (.iload_n 0, 1) := by decide +kernel
theorem dX9_meantBy_1 : decode cX9_meantBy 1 = .ok (.ifCond .ne 5, 3) := by decide +kernel
theorem dX9_meantBy_4 : decode cX9_meantBy 4 = .ok (.iconst (-1), 1) := by decide +kernel
theorem dX9_meantBy_5 : decode cX9_meantBy 5 = .ok (.ireturn, 1) := by decide +kernel
theorem dX9_meantBy_6 : decode cX9_meantBy 6 = .ok (.iload_n 0, 1) := by decide +kernel
theorem dX9_meantBy_7 : decode cX9_meantBy 7 = .ok (.invokestatic 51, 3) := by decide +kernel
theorem dX9_meantBy_10 : decode cX9_meantBy 10 = .ok (.iconst 1, 1) := by decide +kernel
theorem dX9_meantBy_11 : decode cX9_meantBy 11 = .ok (.if_icmp .ne 10, 3) := by decide +kernel
theorem dX9_meantBy_14 : decode cX9_meantBy 14 = .ok (.iload_n 0, 1) := by decide +kernel
theorem dX9_meantBy_15 : decode cX9_meantBy 15 = .ok (.invokestatic 56, 3) := by decide +kernel
theorem dX9_meantBy_18 : decode cX9_meantBy 18 = .ok (.goto 5, 3) := by decide +kernel
theorem dX9_meantBy_21 : decode cX9_meantBy 21 = .ok (.bipush (-2), 2) := by decide +kernel
theorem dX9_meantBy_23 : decode cX9_meantBy 23 = .ok (.ireturn, 1) := by decide +kernel
theorem dJ6_bitCount_0f7a4_0 : decode cJ6_bitCount_0f7a4 0 = .ok (.iload_n 0, 1) := by decide +kernel
theorem dJ6_bitCount_0f7a4_1 : decode cJ6_bitCount_0f7a4 1 = .ok (.iload_n 0, 1) := by decide +kernel
theorem dJ6_bitCount_0f7a4_2 : decode cJ6_bitCount_0f7a4 2 = .ok (.iconst 1, 1) := by decide +kernel
theorem dJ6_bitCount_0f7a4_3 : decode cJ6_bitCount_0f7a4 3 = .ok (.iushr, 1) := by decide +kernel
theorem dJ6_bitCount_0f7a4_4 : decode cJ6_bitCount_0f7a4 4 = .ok (.ldc_w 265, 3) := by decide +kernel
theorem dJ6_bitCount_0f7a4_7 : decode cJ6_bitCount_0f7a4 7 = .ok (.iand, 1) := by decide +kernel
theorem dJ6_bitCount_0f7a4_8 : decode cJ6_bitCount_0f7a4 8 = .ok (.isub, 1) := by decide +kernel
theorem dJ6_bitCount_0f7a4_9 : decode cJ6_bitCount_0f7a4 9 = .ok (.istore_n 0, 1) := by decide +kernel
theorem dJ6_bitCount_0f7a4_10 : decode cJ6_bitCount_0f7a4 10 = .ok (.iload_n 0, 1) := by decide +kernel
theorem dJ6_bitCount_0f7a4_11 : decode cJ6_bitCount_0f7a4 11 = .ok (.ldc_w 266, 3) := by decide +kernel
theorem dJ6_bitCount_0f7a4_14 : decode cJ6_bitCount_0f7a4 14 = .ok (.iand, 1) := by decide +kernel
theorem dJ6_bitCount_0f7a4_15 : decode cJ6_bitCount_0f7a4 15 = .ok (.iload_n 0, 1) := by decide +kernel
theorem dJ6_bitCount_0f7a4_16 : decode cJ6_bitCount_0f7a4 16 = .ok (.iconst 2, 1) := by decide +kernel
theorem dJ6_bitCount_0f7a4_17 : decode cJ6_bitCount_0f7a4 17 = .ok (.iushr, 1) := by decide +kernel
theorem dJ6_bitCount_0f7a4_18 : decode cJ6_bitCount_0f7a4 18 = .ok (.ldc_w 266, 3) := by decide +kernel
theorem dJ6_bitCount_0f7a4_21 : decode cJ6_bitCount_0f7a4 21 = .ok (.iand, 1) := by decide +kernel
theorem dJ6_bitCount_0f7a4_22 : decode cJ6_bitCount_0f7a4 22 = .ok (.iadd, 1) := by decide +kernel
theorem dJ6_bitCount_0f7a4_23 : decode cJ6_bitCount_0f7a4 23 = .ok (.istore_n 0, 1) := by decide +kernel
theorem dJ6_bitCount_0f7a4_24 : decode cJ6_bitCount_0f7a4 24 = .ok (.iload_n 0, 1) := by decide +kernel
theorem dJ6_bitCount_0f7a4_25 : decode cJ6_bitCount_0f7a4 25 = .ok (.iload_n 0, 1) := by decide +kernel
theorem dJ6_bitCount_0f7a4_26 : decode cJ6_bitCount_0f7a4 26 = .ok (.iconst 4, 1) := by decide +kernel
theorem dJ6_bitCount_0f7a4_27 : decode cJ6_bitCount_0f7a4 27 = .ok (.iushr, 1) := by decide +kernel
theorem dJ6_bitCount_0f7a4_28 : decode cJ6_bitCount_0f7a4 28 = .ok (.iadd, 1) := by decide +kernel
theorem dJ6_bitCount_0f7a4_29 : decode cJ6_bitCount_0f7a4 29 = .ok (.ldc_w 267, 3) := by decide +kernel
theorem dJ6_bitCount_0f7a4_32 : decode cJ6_bitCount_0f7a4 32 = .ok (.iand, 1) := by decide +kernel
theorem dJ6_bitCount_0f7a4_33 : decode cJ6_bitCount_0f7a4 33 = .ok (.istore_n 0, 1) := by decide +kernel
theorem dJ6_bitCount_0f7a4_34 : decode cJ6_bitCount_0f7a4 34 = .ok (.iload_n 0, 1) := by decide +kernel
theorem dJ6_bitCount_0f7a4_35 : decode cJ6_bitCount_0f7a4 35 = .ok (.iload_n 0, 1) := by decide +kernel
theorem dJ6_bitCount_0f7a4_36 : decode cJ6_bitCount_0f7a4 36 = .ok (.bipush 8, 2) := by decide +kernel
theorem dJ6_bitCount_0f7a4_38 : decode cJ6_bitCount_0f7a4 38 = .ok (.iushr, 1) := by decide +kernel
theorem dJ6_bitCount_0f7a4_39 : decode cJ6_bitCount_0f7a4 39 = .ok (.iadd, 1) := by decide +kernel
theorem dJ6_bitCount_0f7a4_40 : decode cJ6_bitCount_0f7a4 40 = .ok (.istore_n 0, 1) := by decide +kernel
theorem dJ6_bitCount_0f7a4_41 : decode cJ6_bitCount_0f7a4 41 = .ok (.iload_n 0, 1) := by decide +kernel
theorem dJ6_bitCount_0f7a4_42 : decode cJ6_bitCount_0f7a4 42 = .ok (.iload_n 0, 1) := by decide +kernel
theorem dJ6_bitCount_0f7a4_43 : decode cJ6_bitCount_0f7a4 43 = .ok (.bipush 16, 2) := by decide +kernel
theorem dJ6_bitCount_0f7a4_45 : decode cJ6_bitCount_0f7a4 45 = .ok (.iushr, 1) := by decide +kernel
theorem dJ6_bitCount_0f7a4_46 : decode cJ6_bitCount_0f7a4 46 = .ok (.iadd, 1) := by decide +kernel
theorem dJ6_bitCount_0f7a4_47 : decode cJ6_bitCount_0f7a4 47 = .ok (.istore_n 0, 1) := by decide +kernel
theorem dJ6_bitCount_0f7a4_48 : decode cJ6_bitCount_0f7a4 48 = .ok (.iload_n 0, 1) := by decide +kernel
theorem dJ6_bitCount_0f7a4_49 : decode cJ6_bitCount_0f7a4 49 = .ok (.bipush 63, 2) := by decide +kernel
theorem dJ6_bitCount_0f7a4_51 : decode cJ6_bitCount_0f7a4 51 = .ok (.iand, 1) := by decide +kernel
theorem dJ6_bitCount_0f7a4_52 : decode cJ6_bitCount_0f7a4 52 = .ok (.ireturn, 1) := by decide +kernel
theorem dJ7_fill_53178_0 : decode cJ7_fill_53178 0 = .ok (.iconst 0, 1) := by decide +kernel
theorem dJ7_fill_53178_1 : decode cJ7_fill_53178 1 = .ok (.istore_n 2, 1) := by decide +kernel
theorem dJ7_fill_53178_2 : decode cJ7_fill_53178 2 = .ok (.aload_n 0, 1) := by decide +kernel
theorem dJ7_fill_53178_3 : decode cJ7_fill_53178 3 = .ok (.arraylength, 1) := by decide +kernel
theorem dJ7_fill_53178_4 : decode cJ7_fill_53178 4 = .ok (.istore_n 3, 1) := by decide +kernel
theorem dJ7_fill_53178_5 : decode cJ7_fill_53178 5 = .ok (.iload_n 2, 1) := by decide +kernel
theorem dJ7_fill_53178_6 : decode cJ7_fill_53178 6 = .ok (.iload_n 3, 1) := by decide +kernel
theorem dJ7_fill_53178_7 : decode cJ7_fill_53178 7 = .ok (.if_icmp .ge 13, 3) := by decide +kernel
theorem dJ7_fill_53178_10 : decode cJ7_fill_53178 10 = .ok (.aload_n 0, 1) := by decide +kernel
theorem dJ7_fill_53178_11 : decode cJ7_fill_53178 11 = .ok (.iload_n 2, 1) := by decide +kernel
theorem dJ7_fill_53178_12 : decode cJ7_fill_53178 12 = .ok (.iload_n 1, 1) := by decide +kernel
theorem dJ7_fill_53178_13 : decode cJ7_fill_53178 13 = .ok (.iastore, 1) := by decide +kernel
theorem dJ7_fill_53178_14 : decode cJ7_fill_53178 14 = .ok (.iinc 2 1, 3) := by decide +kernel
theorem dJ7_fill_53178_17 : decode cJ7_fill_53178 17 = .ok (.goto (-12), 3) := by decide +kernel
theorem dJ7_fill_53178_20 : decode cJ7_fill_53178 20 = .ok (.return_, 1) := by decide +kernel
