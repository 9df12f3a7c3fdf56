theorem dX5_init_0 : decode cX5_init 0 = .ok (.aload_n 0, 1) := by decide +kernel
theorem dX5_init_1 : decode cX5_init 1 = .ok (.invokespecial 3, 3) := by decide +kernel
theorem dX5_init_4 : decode cX5_init 4 = .ok (.aload_n 0, 1) := by decide +kernel
theorem dX5_init_5 : decode cX5_init 5 = .ok (.new 9, 3) := by decide +kernel
theorem dX5_init_8 : decode cX5_init 8 = .ok (.dup, 1) := by decide +kernel
theorem dX5_init_9 : decode cX5_init 9 = .ok (.invokespecial 11, 3) := by decide +kernel
theorem dX5_init_12 : decode cX5_init 12 = .ok (.putfield 12, 3) := by decide +kernel
theorem dX5_init_15 : decode cX5_init 15 = .ok (.aload_n 0, 1) := by decide +kernel
theorem dX5_init_16 : decode cX5_init 16 = .ok (.new 18, 3) := by decide +kernel
theorem dX5_init_19 : decode cX5_init 19 = .ok (.dup, 1) := by decide +kernel
theorem dX5_init_20 : decode cX5_init 20 = .ok (.invokespecial 20, 3) := by decide +kernel
theorem dX5_init_23 : decode cX5_init 23 = .ok (.putfield 21, 3) := by decide +kernel
theorem dX5_init_26 : decode cX5_init 26 = .ok (.aload_n 0, 1) := by decide +kernel
theorem dX5_init_27 : decode cX5_init 27 = .ok (.iconst 0, 1) := by decide +kernel
theorem dX5_init_28 : decode cX5_init 28 = .ok (.putfield 25, 3) := by decide +kernel
theorem dX5_init_31 : decode cX5_init 31 = .ok (.aload_n 0, 1) := by decide +kernel
theorem dX5_init_32 : decode cX5_init 32 = .ok (.iconst 0, 1) := by decide +kernel
theorem dX5_init_33 : decode cX5_init 33 = .ok (.putfield 29, 3) := by decide +kernel
theorem dX5_init_36 : decode cX5_init 36 = .ok (.aload_n 0, 1) := by decide +kernel
theorem dX5_init_37 : decode cX5_init 37 = .ok (.iconst 0, 1) := by decide +kernel
theorem dX5_init_38 : decode cX5_init 38 = .ok (.putfield 32, 3) := by decide +kernel
theorem dX5_init_41 : decode cX5_init 41 = .ok (.aload_n 0, 1) := by decide +kernel
theorem dX5_init_42 : decode cX5_init 42 = .ok (.iconst 0, 1) := by decide +kernel
theorem dX5_init_43 : decode cX5_init 43 = .ok (.putfield 35, 3) := by decide +kernel
theorem dX5_init_46 : decode cX5_init 46 = .ok (.aload_n 0, 1) := by decide +kernel
theorem dX5_init_47 : decode cX5_init 47 = .ok (.iconst 0, 1) := by decide +kernel
theorem dX5_init_48 : decode cX5_init 48 = .ok (.putfield 38, 3) := by decide +kernel
theorem dX5_init_51 : decode cX5_init 51 = .ok (.return_, 1) := by decide +kernel
theorem dX5_readCity_0 : decode cX5_readCity 0 = .ok (.aload_n 0, 1) := by decide +kernel
theorem dX5_readCity_1 : decode cX5_readCity 1 = .ok (.getfield 12, 3) := by decide +kernel
theorem dX5_readCity_4 : decode cX5_readCity 4 = .ok (.iload_n 1, 1) := by decide +kernel
theorem dX5_readCity_5 : decode cX5_readCity 5 = .ok (.invokevirtual 41, 3) := by decide +kernel
theorem dX5_readCity_8 : decode cX5_readCity 8 = .ok (.aload_n 0, 1) := by decide +kernel
theorem dX5_readCity_9 : decode cX5_readCity 9 = .ok (.getfield 21, 3) := by decide +kernel
theorem dX5_readCity_12 : decode cX5_readCity 12 = .ok (.invokevirtual 45, 3) := by decide +kernel
theorem dX5_readCity_15 : decode cX5_readCity 15 = .ok (.aload_n 0, 1) := by decide +kernel
theorem dX5_readCity_16 : decode cX5_readCity 16 = .ok (.iconst 0, 1) := by decide +kernel
theorem dX5_readCity_17 : decode cX5_readCity 17 = .ok (.putfield 38, 3) := by decide +kernel
theorem dX5_readCity_20 : decode cX5_readCity 20 = .ok (.aload_n 0, 1) := by decide +kernel
theorem dX5_readCity_21 : decode cX5_readCity 21 = .ok (.iconst 0, 1) := by decide +kernel
theorem dX5_readCity_22 : decode cX5_readCity 22 = .ok (.invokevirtual 48, 3) := by decide +kernel
theorem dX5_readCity_25 : decode cX5_readCity 25 = .ok (.iconst 1, 1) := by decide +kernel
theorem dX5_readCity_26 : decode cX5_readCity 26 = .ok (.istore_n 2, 1) := by decide +kernel
theorem dX5_readCity_27 : decode cX5_readCity 27 = .ok (.iconst 0, 1) := by decide +kernel
theorem dX5_readCity_28 : decode cX5_readCity 28 = .ok (.istore_n 3, 1) := by decide +kernel
theorem dX5_readCity_29 : decode cX5_readCity 29 = .ok (.iload_n 3, 1) := by decide +kernel
theorem dX5_readCity_30 : decode cX5_readCity 30 = .ok (.sipush 700, 3) := by decide +kernel
theorem dX5_readCity_33 : decode cX5_readCity 33 = .ok (.if_icmp .ge 59, 3) := by decide +kernel
theorem dX5_readCity_36 : decode cX5_readCity 36 = .ok (.iload_n 2, 1) := by decide +kernel
theorem dX5_readCity_37 : decode cX5_readCity 37 = .ok (.ifCond .eq 55, 3) := by decide +kernel
theorem dX5_readCity_40 : decode cX5_readCity 40 = .ok (.aload_n 0, 1) := by decide +kernel
theorem dX5_readCity_41 : decode cX5_readCity 41 = .ok (.getfield 29, 3) := by decide +kernel
theorem dX5_readCity_44 : decode cX5_readCity 44 = .ok (.ifCond .eq 48, 3) := by decide +kernel
theorem dX5_readCity_47 : decode cX5_readCity 47 = .ok (.aload_n 0, 1) := by decide +kernel
theorem dX5_readCity_48 : decode cX5_readCity 48 = .ok (.iload_n 3, 1) := by decide +kernel
theorem dX5_readCity_49 : decode cX5_readCity 49 = .ok (.ifCond .ne 7, 3) := by decide +kernel
theorem dX5_readCity_52 : decode cX5_readCity 52 = .ok (.iconst 1, 1) := by decide +kernel
theorem dX5_readCity_53 : decode cX5_readCity 53 = .ok (.goto 4, 3) := by decide +kernel
theorem dX5_readCity_56 : decode cX5_readCity 56 = .ok (.iconst 0, 1) := by decide +kernel
theorem dX5_readCity_57 : decode cX5_readCity 57 = .ok (.invokevirtual 51, 3) := by decide +kernel
theorem dX5_readCity_60 : decode cX5_readCity 60 = .ok (.ifCond .eq 15, 3) := by decide +kernel
theorem dX5_readCity_63 : decode cX5_readCity 63 = .ok (.aload_n 0, 1) := by decide +kernel
theorem dX5_readCity_64 : decode cX5_readCity 64 = .ok (.iconst 3, 1) := by decide +kernel
theorem dX5_readCity_65 : decode cX5_readCity 65 = .ok (.invokevirtual 55, 3) := by decide +kernel
theorem dX5_readCity_68 : decode cX5_readCity 68 = .ok (.ifCond .eq 7, 3) := by decide +kernel
theorem dX5_readCity_71 : decode cX5_readCity 71 = .ok (.iconst 1, 1) := by decide +kernel
theorem dX5_readCity_72 : decode cX5_readCity 72 = .ok (.goto 4, 3) := by decide +kernel
theorem dX5_readCity_75 : decode cX5_readCity 75 = .ok (.iconst 0, 1) := by decide +kernel
theorem dX5_readCity_76 : decode cX5_readCity 76 = .ok (.istore_n 2, 1) := by decide +kernel
theorem dX5_readCity_77 : decode cX5_readCity 77 = .ok (.aload_n 0, 1) := by decide +kernel
theorem dX5_readCity_78 : decode cX5_readCity 78 = .ok (.getfield 21, 3) := by decide +kernel
theorem dX5_readCity_81 : decode cX5_readCity 81 = .ok (.bipush (-17), 2) := by decide +kernel
theorem dX5_readCity_83 : decode cX5_readCity 83 = .ok (.invokevirtual 59, 3) := by decide +kernel
theorem dX5_readCity_86 : decode cX5_readCity 86 = .ok (.iinc 3 1, 3) := by decide +kernel
theorem dX5_readCity_89 : decode cX5_readCity 89 = .ok (.goto (-60), 3) := by decide +kernel
theorem dX5_readCity_92 : decode cX5_readCity 92 = .ok (.aload_n 0, 1) := by decide +kernel
theorem dX5_readCity_93 : decode cX5_readCity 93 = .ok (.getfield 38, 3) := by decide +kernel
theorem dX5_readCity_96 : decode cX5_readCity 96 = .ok (.ireturn, 1) := by decide +kernel
theorem dX5_place_0 : decode cX5_place 0 = .ok (.aload_n 0, 1) := by decide +kernel
theorem dX5_place_1 : decode cX5_place 1 = .ok (.getfield 12, 3) := by decide +kernel
theorem dX5_place_4 : decode cX5_place 4 = .ok (.getfield 62, 3) := by decide +kernel
theorem dX5_place_7 : decode cX5_place 7 = .ok (.aload_n 0, 1) := by decide +kernel
theorem dX5_place_8 : decode cX5_place 8 = .ok (.getfield 25, 3) := by decide +kernel
theorem dX5_place_11 : decode cX5_place 11 = .ok (.invokestatic 66, 3) := by decide +kernel
theorem dX5_place_14 : decode cX5_place 14 = .ok (.ireturn, 1) := by decide +kernel
theorem dX5_goTo_0 : decode cX5_goTo 0 = .ok (.aload_n 0, 1) := by decide +kernel
theorem dX5_goTo_1 : decode cX5_goTo 1 = .ok (.iload_n 1, 1) := by decide +kernel
theorem dX5_goTo_2 : decode cX5_goTo 2 = .ok (.putfield 25, 3) := by decide +kernel
theorem dX5_goTo_5 : decode cX5_goTo 5 = .ok (.aload_n 0, 1) := by decide +kernel
theorem dX5_goTo_6 : decode cX5_goTo 6 = .ok (.aload_n 0, 1) := by decide +kernel
theorem dX5_goTo_7 : decode cX5_goTo 7 = .ok (.getfield 12, 3) := by decide +kernel
theorem dX5_goTo_10 : decode cX5_goTo 10 = .ok (.getfield 70, 3) := by decide +kernel
theorem dX5_goTo_13 : decode cX5_goTo 13 = .ok (.iload_n 1, 1) := by decide +kernel
theorem dX5_goTo_14 : decode cX5_goTo 14 = .ok (.invokestatic 66, 3) := by decide +kernel
theorem dX5_goTo_17 : decode cX5_goTo 17 = .ok (.putfield 29, 3) := by decide +kernel
theorem dX5_goTo_20 : decode cX5_goTo 20 = .ok (.aload_n 0, 1) := by decide +kernel
theorem dX5_goTo_21 : decode cX5_goTo 21 = .ok (.aload_n 0, 1) := by decide +kernel
theorem dX5_goTo_22 : decode cX5_goTo 22 = .ok (.getfield 12, 3) := by decide +kernel
theorem dX5_goTo_25 : decode cX5_goTo 25 = .ok (.getfield 73, 3) := by decide +kernel
theorem dX5_goTo_28 : decode cX5_goTo 28 = .ok (.iload_n 1, 1) := by decide +kernel
theorem dX5_goTo_29 : decode cX5_goTo 29 = .ok (.invokestatic 66, 3) := by decide +kernel
theorem dX5_goTo_32 : decode cX5_goTo 32 = .ok (.putfield 32, 3) := by decide +kernel
theorem dX5_goTo_35 : decode cX5_goTo 35 = .ok (.return_, 1) := by decide +kernel
theorem dX5_readClause_0 : decode cX5_readClause 0 = .ok (.aload_n 0, 1) := by decide +kernel
theorem dX5_readClause_1 : decode cX5_readClause 1 = .ok (.getfield 29, 3) := by decide +kernel
theorem dX5_readClause_4 : decode cX5_readClause 4 = .ok (.tableswitch 135 (-2) 9 #[81, 135, 135, 135, 135, 135, 135, 135, 64, 86, 91, 113], 64) := by decide +kernel
theorem dX5_readClause_68 : decode cX5_readClause 68 = .ok (.iload_n 1, 1) := by decide +kernel
theorem dX5_readClause_69 : decode cX5_readClause 69 = .ok (.ifCond .eq 10, 3) := by decide +kernel
theorem dX5_readClause_72 : decode cX5_readClause 72 = .ok (.aload_n 0, 1) := by decide +kernel
theorem dX5_readClause_73 : decode cX5_readClause 73 = .ok (.invokevirtual 76, 3) := by decide +kernel
theorem dX5_readClause_76 : decode cX5_readClause 76 = .ok (.goto 8, 3) := by decide +kernel
theorem dX5_readClause_79 : decode cX5_readClause 79 = .ok (.aload_n 0, 1) := by decide +kernel
theorem dX5_readClause_80 : decode cX5_readClause 80 = .ok (.iconst 5, 1) := by decide +kernel
theorem dX5_readClause_81 : decode cX5_readClause 81 = .ok (.invokevirtual 80, 3) := by decide +kernel
theorem dX5_readClause_84 : decode cX5_readClause 84 = .ok (.ireturn, 1) := by decide +kernel
theorem dX5_readClause_85 : decode cX5_readClause 85 = .ok (.aload_n 0, 1) := by decide +kernel
theorem dX5_readClause_86 : decode cX5_readClause 86 = .ok (.invokevirtual 83, 3) := by decide +kernel
theorem dX5_readClause_89 : decode cX5_readClause 89 = .ok (.ireturn, 1) := by decide +kernel
theorem dX5_readClause_90 : decode cX5_readClause 90 = .ok (.aload_n 0, 1) := by decide +kernel
theorem dX5_readClause_91 : decode cX5_readClause 91 = .ok (.invokevirtual 86, 3) := by decide +kernel
theorem dX5_readClause_94 : decode cX5_readClause 94 = .ok (.ireturn, 1) := by decide +kernel
theorem dX5_readClause_95 : decode cX5_readClause 95 = .ok (.aload_n 0, 1) := by decide +kernel
theorem dX5_readClause_96 : decode cX5_readClause 96 = .ok (.invokevirtual 89, 3) := by decide +kernel
theorem dX5_readClause_99 : decode cX5_readClause 99 = .ok (.ifCond .eq 16, 3) := by decide +kernel
theorem dX5_readClause_102 : decode cX5_readClause 102 = .ok (.aload_n 0, 1) := by decide +kernel
theorem dX5_readClause_103 : decode cX5_readClause 103 = .ok (.iconst 0, 1) := by decide +kernel
theorem dX5_readClause_104 : decode cX5_readClause 104 = .ok (.iconst 0, 1) := by decide +kernel
theorem dX5_readClause_105 : decode cX5_readClause 105 = .ok (.invokevirtual 92, 3) := by decide +kernel
theorem dX5_readClause_108 : decode cX5_readClause 108 = .ok (.ifCond .eq 7, 3) := by decide +kernel
theorem dX5_readClause_111 : decode cX5_readClause 111 = .ok (.iconst 1, 1) := by decide +kernel
theorem dX5_readClause_112 : decode cX5_readClause 112 = .ok (.goto 4, 3) := by decide +kernel
theorem dX5_readClause_115 : decode cX5_readClause 115 = .ok (.iconst 0, 1) := by decide +kernel
theorem dX5_readClause_116 : decode cX5_readClause 116 = .ok (.ireturn, 1) := by decide +kernel
theorem dX5_readClause_117 : decode cX5_readClause 117 = .ok (.aload_n 0, 1) := by decide +kernel
theorem dX5_readClause_118 : decode cX5_readClause 118 = .ok (.invokevirtual 96, 3) := by decide +kernel
theorem dX5_readClause_121 : decode cX5_readClause 121 = .ok (.ifCond .eq 16, 3) := by decide +kernel
theorem dX5_readClause_124 : decode cX5_readClause 124 = .ok (.aload_n 0, 1) := by decide +kernel
theorem dX5_readClause_125 : decode cX5_readClause 125 = .ok (.iconst 0, 1) := by decide +kernel
theorem dX5_readClause_126 : decode cX5_readClause 126 = .ok (.iconst 0, 1) := by decide +kernel
theorem dX5_readClause_127 : decode cX5_readClause 127 = .ok (.invokevirtual 92, 3) := by decide +kernel
theorem dX5_readClause_130 : decode cX5_readClause 130 = .ok (.ifCond .eq 7, 3) := by decide +kernel
theorem dX5_readClause_133 : decode cX5_readClause 133 = .ok (.iconst 1, 1) := by decide +kernel
theorem dX5_readClause_134 : decode cX5_readClause 134 = .ok (.goto 4, 3) := by decide +kernel
theorem dX5_readClause_137 : decode cX5_readClause 137 = .ok (.iconst 0, 1) := by decide +kernel
theorem dX5_readClause_138 : decode cX5_readClause 138 = .ok (.ireturn, 1) := by decide +kernel
theorem dX5_readClause_139 : decode cX5_readClause 139 = .ok (.aload_n 0, 1) := by decide +kernel
theorem dX5_readClause_140 : decode cX5_readClause 140 = .ok (.iconst 1, 1) := by decide +kernel
theorem dX5_readClause_141 : decode cX5_readClause 141 = .ok (.invokevirtual 80, 3) := by decide +kernel
theorem dX5_readClause_144 : decode cX5_readClause 144 = .ok (.ireturn, 1) := by decide +kernel
theorem dX5_readHouses_0 : decode cX5_readHouses 0 = .ok (.aload_n 0, 1) := by decide +kernel
theorem dX5_readHouses_1 : decode cX5_readHouses 1 = .ok (.aload_n 0, 1) := by decide +kernel
theorem dX5_readHouses_2 : decode cX5_readHouses 2 = .ok (.getfield 25, 3) := by decide +kernel
theorem dX5_readHouses_5 : decode cX5_readHouses 5 = .ok (.iconst 1, 1) := by decide +kernel
theorem dX5_readHouses_6 : decode cX5_readHouses 6 = .ok (.iadd, 1) := by decide +kernel
theorem dX5_readHouses_7 : decode cX5_readHouses 7 = .ok (.invokevirtual 48, 3) := by decide +kernel
theorem dX5_readHouses_10 : decode cX5_readHouses 10 = .ok (.aload_n 0, 1) := by decide +kernel
theorem dX5_readHouses_11 : decode cX5_readHouses 11 = .ok (.iconst 1, 1) := by decide +kernel
theorem dX5_readHouses_12 : decode cX5_readHouses 12 = .ok (.bipush 10, 2) := by decide +kernel
theorem dX5_readHouses_14 : decode cX5_readHouses 14 = .ok (.invokevirtual 99, 3) := by decide +kernel
theorem dX5_readHouses_17 : decode cX5_readHouses 17 = .ok (.ifCond .ne 5, 3) := by decide +kernel
theorem dX5_readHouses_20 : decode cX5_readHouses 20 = .ok (.iconst 0, 1) := by decide +kernel
theorem dX5_readHouses_21 : decode cX5_readHouses 21 = .ok (.ireturn, 1) := by decide +kernel
theorem dX5_readHouses_22 : decode cX5_readHouses 22 = .ok (.aload_n 0, 1) := by decide +kernel
theorem dX5_readHouses_23 : decode cX5_readHouses 23 = .ok (.getfield 21, 3) := by decide +kernel
theorem dX5_readHouses_26 : decode cX5_readHouses 26 = .ok (.aload_n 0, 1) := by decide +kernel
theorem dX5_readHouses_27 : decode cX5_readHouses 27 = .ok (.getfield 35, 3) := by decide +kernel
theorem dX5_readHouses_30 : decode cX5_readHouses 30 = .ok (.putfield 102, 3) := by decide +kernel
theorem dX5_readHouses_33 : decode cX5_readHouses 33 = .ok (.iconst 1, 1) := by decide +kernel
theorem dX5_readHouses_34 : decode cX5_readHouses 34 = .ok (.ireturn, 1) := by decide +kernel
theorem dX5_readPerson_0 : decode cX5_readPerson 0 = .ok (.aload_n 0, 1) := by decide +kernel
theorem dX5_readPerson_1 : decode cX5_readPerson 1 = .ok (.getfield 21, 3) := by decide +kernel
theorem dX5_readPerson_4 : decode cX5_readPerson 4 = .ok (.getfield 105, 3) := by decide +kernel
theorem dX5_readPerson_7 : decode cX5_readPerson 7 = .ok (.istore_n 1, 1) := by decide +kernel
theorem dX5_readPerson_8 : decode cX5_readPerson 8 = .ok (.iload_n 1, 1) := by decide +kernel
theorem dX5_readPerson_9 : decode cX5_readPerson 9 = .ok (.bipush 16, 2) := by decide +kernel
theorem dX5_readPerson_11 : decode cX5_readPerson 11 = .ok (.if_icmp .lt 9, 3) := by decide +kernel
theorem dX5_readPerson_14 : decode cX5_readPerson 14 = .ok (.aload_n 0, 1) := by decide +kernel
theorem dX5_readPerson_15 : decode cX5_readPerson 15 = .ok (.iconst 2, 1) := by decide +kernel
theorem dX5_readPerson_16 : decode cX5_readPerson 16 = .ok (.invokevirtual 80, 3) := by decide +kernel
theorem dX5_readPerson_19 : decode cX5_readPerson 19 = .ok (.ireturn, 1) := by decide +kernel
theorem dX5_readPerson_20 : decode cX5_readPerson 20 = .ok (.aload_n 0, 1) := by decide +kernel
theorem dX5_readPerson_21 : decode cX5_readPerson 21 = .ok (.aload_n 0, 1) := by decide +kernel
theorem dX5_readPerson_22 : decode cX5_readPerson 22 = .ok (.getfield 25, 3) := by decide +kernel
theorem dX5_readPerson_25 : decode cX5_readPerson 25 = .ok (.iconst 1, 1) := by decide +kernel
theorem dX5_readPerson_26 : decode cX5_readPerson 26 = .ok (.iadd, 1) := by decide +kernel
theorem dX5_readPerson_27 : decode cX5_readPerson 27 = .ok (.invokevirtual 48, 3) := by decide +kernel
theorem dX5_readPerson_30 : decode cX5_readPerson 30 = .ok (.aload_n 0, 1) := by decide +kernel
theorem dX5_readPerson_31 : decode cX5_readPerson 31 = .ok (.iconst (-1), 1) := by decide +kernel
theorem dX5_readPerson_32 : decode cX5_readPerson 32 = .ok (.invokevirtual 108, 3) := by decide +kernel
theorem dX5_readPerson_35 : decode cX5_readPerson 35 = .ok (.ifCond .ne 5, 3) := by decide +kernel
theorem dX5_readPerson_38 : decode cX5_readPerson 38 = .ok (.iconst 0, 1) := by decide +kernel
theorem dX5_readPerson_39 : decode cX5_readPerson 39 = .ok (.ireturn, 1) := by decide +kernel
theorem dX5_readPerson_40 : decode cX5_readPerson 40 = .ok (.aload_n 0, 1) := by decide +kernel
theorem dX5_readPerson_41 : decode cX5_readPerson 41 = .ok (.getfield 21, 3) := by decide +kernel
theorem dX5_readPerson_44 : decode cX5_readPerson 44 = .ok (.getfield 111, 3) := by decide +kernel
theorem dX5_readPerson_47 : decode cX5_readPerson 47 = .ok (.iload_n 1, 1) := by decide +kernel
theorem dX5_readPerson_48 : decode cX5_readPerson 48 = .ok (.aload_n 0, 1) := by decide +kernel
theorem dX5_readPerson_49 : decode cX5_readPerson 49 = .ok (.getfield 35, 3) := by decide +kernel
theorem dX5_readPerson_52 : decode cX5_readPerson 52 = .ok (.invokestatic 114, 3) := by decide +kernel
theorem dX5_readPerson_55 : decode cX5_readPerson 55 = .ok (.aload_n 0, 1) := by decide +kernel
theorem dX5_readPerson_56 : decode cX5_readPerson 56 = .ok (.getfield 21, 3) := by decide +kernel
theorem dX5_readPerson_59 : decode cX5_readPerson 59 = .ok (.getfield 118, 3) := by decide +kernel
theorem dX5_readPerson_62 : decode cX5_readPerson 62 = .ok (.iload_n 1, 1) := by decide +kernel
theorem dX5_readPerson_63 : decode cX5_readPerson 63 = .ok (.bipush 100, 2) := by decide +kernel
theorem dX5_readPerson_65 : decode cX5_readPerson 65 = .ok (.invokestatic 114, 3) := by decide +kernel
theorem dX5_readPerson_68 : decode cX5_readPerson 68 = .ok (.aload_n 0, 1) := by decide +kernel
theorem dX5_readPerson_69 : decode cX5_readPerson 69 = .ok (.getfield 29, 3) := by decide +kernel
theorem dX5_readPerson_72 : decode cX5_readPerson 72 = .ok (.bipush 10, 2) := by decide +kernel
theorem dX5_readPerson_74 : decode cX5_readPerson 74 = .ok (.if_icmp .ne 41, 3) := by decide +kernel
theorem dX5_readPerson_77 : decode cX5_readPerson 77 = .ok (.aload_n 0, 1) := by decide +kernel
theorem dX5_readPerson_78 : decode cX5_readPerson 78 = .ok (.aload_n 0, 1) := by decide +kernel
theorem dX5_readPerson_79 : decode cX5_readPerson 79 = .ok (.getfield 25, 3) := by decide +kernel
theorem dX5_readPerson_82 : decode cX5_readPerson 82 = .ok (.iconst 1, 1) := by decide +kernel
theorem dX5_readPerson_83 : decode cX5_readPerson 83 = .ok (.iadd, 1) := by decide +kernel
theorem dX5_readPerson_84 : decode cX5_readPerson 84 = .ok (.invokevirtual 48, 3) := by decide +kernel
theorem dX5_readPerson_87 : decode cX5_readPerson 87 = .ok (.aload_n 0, 1) := by decide +kernel
theorem dX5_readPerson_88 : decode cX5_readPerson 88 = .ok (.iconst 0, 1) := by decide +kernel
theorem dX5_readPerson_89 : decode cX5_readPerson 89 = .ok (.sipush 1000, 3) := by decide +kernel
theorem dX5_readPerson_92 : decode cX5_readPerson 92 = .ok (.invokevirtual 99, 3) := by decide +kernel
theorem dX5_readPerson_95 : decode cX5_readPerson 95 = .ok (.ifCond .ne 5, 3) := by decide +kernel
theorem dX5_readPerson_98 : decode cX5_readPerson 98 = .ok (.iconst 0, 1) := by decide +kernel
theorem dX5_readPerson_99 : decode cX5_readPerson 99 = .ok (.ireturn, 1) := by decide +kernel
theorem dX5_readPerson_100 : decode cX5_readPerson 100 = .ok (.aload_n 0, 1) := by decide +kernel
theorem dX5_readPerson_101 : decode cX5_readPerson 101 = .ok (.getfield 21, 3) := by decide +kernel
theorem dX5_readPerson_104 : decode cX5_readPerson 104 = .ok (.getfield 118, 3) := by decide +kernel
theorem dX5_readPerson_107 : decode cX5_readPerson 107 = .ok (.iload_n 1, 1) := by decide +kernel
theorem dX5_readPerson_108 : decode cX5_readPerson 108 = .ok (.aload_n 0, 1) := by decide +kernel
theorem dX5_readPerson_109 : decode cX5_readPerson 109 = .ok (.getfield 35, 3) := by decide +kernel
theorem dX5_readPerson_112 : decode cX5_readPerson 112 = .ok (.invokestatic 114, 3) := by decide +kernel
theorem dX5_readPerson_115 : decode cX5_readPerson 115 = .ok (.aload_n 0, 1) := by decide +kernel
theorem dX5_readPerson_116 : decode cX5_readPerson 116 = .ok (.getfield 29, 3) := by decide +kernel
theorem dX5_readPerson_119 : decode cX5_readPerson 119 = .ok (.bipush (-4), 2) := by decide +kernel
theorem dX5_readPerson_121 : decode cX5_readPerson 121 = .ok (.if_icmp .ne 7, 3) := by decide +kernel
theorem dX5_readPerson_124 : decode cX5_readPerson 124 = .ok (.iconst 1, 1) := by decide +kernel
theorem dX5_readPerson_125 : decode cX5_readPerson 125 = .ok (.goto 4, 3) := by decide +kernel
theorem dX5_readPerson_128 : decode cX5_readPerson 128 = .ok (.iconst 0, 1) := by decide +kernel
theorem dX5_readPerson_129 : decode cX5_readPerson 129 = .ok (.istore_n 2, 1) := by decide +kernel
theorem dX5_readPerson_130 : decode cX5_readPerson 130 = .ok (.iload_n 2, 1) := by decide +kernel
theorem dX5_readPerson_131 : decode cX5_readPerson 131 = .ok (.ifCond .eq 13, 3) := by decide +kernel
theorem dX5_readPerson_134 : decode cX5_readPerson 134 = .ok (.aload_n 0, 1) := by decide +kernel
theorem dX5_readPerson_135 : decode cX5_readPerson 135 = .ok (.aload_n 0, 1) := by decide +kernel
theorem dX5_readPerson_136 : decode cX5_readPerson 136 = .ok (.getfield 25, 3) := by decide +kernel
theorem dX5_readPerson_139 : decode cX5_readPerson 139 = .ok (.iconst 1, 1) := by decide +kernel
theorem dX5_readPerson_140 : decode cX5_readPerson 140 = .ok (.iadd, 1) := by decide +kernel
theorem dX5_readPerson_141 : decode cX5_readPerson 141 = .ok (.invokevirtual 48, 3) := by decide +kernel
theorem dX5_readPerson_144 : decode cX5_readPerson 144 = .ok (.aload_n 0, 1) := by decide +kernel
theorem dX5_readPerson_145 : decode cX5_readPerson 145 = .ok (.getfield 21, 3) := by decide +kernel
theorem dX5_readPerson_148 : decode cX5_readPerson 148 = .ok (.getfield 121, 3) := by decide +kernel
theorem dX5_readPerson_151 : decode cX5_readPerson 151 = .ok (.iload_n 1, 1) := by decide +kernel
theorem dX5_readPerson_152 : decode cX5_readPerson 152 = .ok (.iload_n 2, 1) := by decide +kernel
theorem dX5_readPerson_153 : decode cX5_readPerson 153 = .ok (.ifCond .eq 7, 3) := by decide +kernel
theorem dX5_readPerson_156 : decode cX5_readPerson 156 = .ok (.iconst 1, 1) := by decide +kernel
theorem dX5_readPerson_157 : decode cX5_readPerson 157 = .ok (.goto 4, 3) := by decide +kernel
theorem dX5_readPerson_160 : decode cX5_readPerson 160 = .ok (.iconst 0, 1) := by decide +kernel
theorem dX5_readPerson_161 : decode cX5_readPerson 161 = .ok (.invokestatic 114, 3) := by decide +kernel
theorem dX5_readPerson_164 : decode cX5_readPerson 164 = .ok (.aload_n 0, 1) := by decide +kernel
theorem dX5_readPerson_165 : decode cX5_readPerson 165 = .ok (.getfield 21, 3) := by decide +kernel
theorem dX5_readPerson_168 : decode cX5_readPerson 168 = .ok (.dup, 1) := by decide +kernel
theorem dX5_readPerson_169 : decode cX5_readPerson 169 = .ok (.getfield 105, 3) := by decide +kernel
theorem dX5_readPerson_172 : decode cX5_readPerson 172 = .ok (.iconst 1, 1) := by decide +kernel
theorem dX5_readPerson_173 : decode cX5_readPerson 173 = .ok (.iadd, 1) := by decide +kernel
theorem dX5_readPerson_174 : decode cX5_readPerson 174 = .ok (.putfield 105, 3) := by decide +kernel
theorem dX5_readPerson_177 : decode cX5_readPerson 177 = .ok (.iconst 1, 1) := by decide +kernel
theorem dX5_readPerson_178 : decode cX5_readPerson 178 = .ok (.ireturn, 1) := by decide +kernel
theorem dX5_readWalk_0 : decode cX5_readWalk 0 = .ok (.aload_n 0, 1) := by decide +kernel
theorem dX5_readWalk_1 : decode cX5_readWalk 1 = .ok (.aload_n 0, 1) := by decide +kernel
theorem dX5_readWalk_2 : decode cX5_readWalk 2 = .ok (.getfield 25, 3) := by decide +kernel
theorem dX5_readWalk_5 : decode cX5_readWalk 5 = .ok (.iconst 1, 1) := by decide +kernel
theorem dX5_readWalk_6 : decode cX5_readWalk 6 = .ok (.iadd, 1) := by decide +kernel
theorem dX5_readWalk_7 : decode cX5_readWalk 7 = .ok (.invokevirtual 48, 3) := by decide +kernel
theorem dX5_readWalk_10 : decode cX5_readWalk 10 = .ok (.aload_n 0, 1) := by decide +kernel
theorem dX5_readWalk_11 : decode cX5_readWalk 11 = .ok (.iconst (-1), 1) := by decide +kernel
theorem dX5_readWalk_12 : decode cX5_readWalk 12 = .ok (.invokevirtual 108, 3) := by decide +kernel
theorem dX5_readWalk_15 : decode cX5_readWalk 15 = .ok (.ifCond .ne 5, 3) := by decide +kernel
theorem dX5_readWalk_18 : decode cX5_readWalk 18 = .ok (.iconst 0, 1) := by decide +kernel
theorem dX5_readWalk_19 : decode cX5_readWalk 19 = .ok (.ireturn, 1) := by decide +kernel
theorem dX5_readWalk_20 : decode cX5_readWalk 20 = .ok (.aload_n 0, 1) := by decide +kernel
theorem dX5_readWalk_21 : decode cX5_readWalk 21 = .ok (.getfield 35, 3) := by decide +kernel
theorem dX5_readWalk_24 : decode cX5_readWalk 24 = .ok (.istore_n 1, 1) := by decide +kernel
theorem dX5_readWalk_25 : decode cX5_readWalk 25 = .ok (.aload_n 0, 1) := by decide +kernel
theorem dX5_readWalk_26 : decode cX5_readWalk 26 = .ok (.iload_n 1, 1) := by decide +kernel
theorem dX5_readWalk_27 : decode cX5_readWalk 27 = .ok (.invokevirtual 108, 3) := by decide +kernel
theorem dX5_readWalk_30 : decode cX5_readWalk 30 = .ok (.ifCond .ne 5, 3) := by decide +kernel
theorem dX5_readWalk_33 : decode cX5_readWalk 33 = .ok (.iconst 0, 1) := by decide +kernel
theorem dX5_readWalk_34 : decode cX5_readWalk 34 = .ok (.ireturn, 1) := by decide +kernel
theorem dX5_readWalk_35 : decode cX5_readWalk 35 = .ok (.aload_n 0, 1) := by decide +kernel
theorem dX5_readWalk_36 : decode cX5_readWalk 36 = .ok (.getfield 35, 3) := by decide +kernel
theorem dX5_readWalk_39 : decode cX5_readWalk 39 = .ok (.istore_n 2, 1) := by decide +kernel
theorem dX5_readWalk_40 : decode cX5_readWalk 40 = .ok (.aload_n 0, 1) := by decide +kernel
theorem dX5_readWalk_41 : decode cX5_readWalk 41 = .ok (.iconst 1, 1) := by decide +kernel
theorem dX5_readWalk_42 : decode cX5_readWalk 42 = .ok (.bipush 99, 2) := by decide +kernel
theorem dX5_readWalk_44 : decode cX5_readWalk 44 = .ok (.invokevirtual 99, 3) := by decide +kernel
theorem dX5_readWalk_47 : decode cX5_readWalk 47 = .ok (.ifCond .ne 5, 3) := by decide +kernel
theorem dX5_readWalk_50 : decode cX5_readWalk 50 = .ok (.iconst 0, 1) := by decide +kernel
theorem dX5_readWalk_51 : decode cX5_readWalk 51 = .ok (.ireturn, 1) := by decide +kernel
theorem dX5_readWalk_52 : decode cX5_readWalk 52 = .ok (.aload_n 0, 1) := by decide +kernel
theorem dX5_readWalk_53 : decode cX5_readWalk 53 = .ok (.getfield 21, 3) := by decide +kernel
theorem dX5_readWalk_56 : decode cX5_readWalk 56 = .ok (.iload_n 1, 1) := by decide +kernel
theorem dX5_readWalk_57 : decode cX5_readWalk 57 = .ok (.iload_n 2, 1) := by decide +kernel
theorem dX5_readWalk_58 : decode cX5_readWalk 58 = .ok (.aload_n 0, 1) := by decide +kernel
theorem dX5_readWalk_59 : decode cX5_readWalk 59 = .ok (.getfield 35, 3) := by decide +kernel
theorem dX5_readWalk_62 : decode cX5_readWalk 62 = .ok (.invokevirtual 124, 3) := by decide +kernel
theorem dX5_readWalk_65 : decode cX5_readWalk 65 = .ok (.iconst 1, 1) := by decide +kernel
theorem dX5_readWalk_66 : decode cX5_readWalk 66 = .ok (.ireturn, 1) := by decide +kernel
theorem dX5_beginRule_0 : decode cX5_beginRule 0 = .ok (.aload_n 0, 1) := by decide +kernel
theorem dX5_beginRule_1 : decode cX5_beginRule 1 = .ok (.getfield 21, 3) := by decide +kernel
theorem dX5_beginRule_4 : decode cX5_beginRule 4 = .ok (.getfield 128, 3) := by decide +kernel
theorem dX5_beginRule_7 : decode cX5_beginRule 7 = .ok (.iconst 4, 1) := by decide +kernel
theorem dX5_beginRule_8 : decode cX5_beginRule 8 = .ok (.if_icmp .lt 9, 3) := by decide +kernel
theorem dX5_beginRule_11 : decode cX5_beginRule 11 = .ok (.aload_n 0, 1) := by decide +kernel
theorem dX5_beginRule_12 : decode cX5_beginRule 12 = .ok (.iconst 2, 1) := by decide +kernel
theorem dX5_beginRule_13 : decode cX5_beginRule 13 = .ok (.invokevirtual 80, 3) := by decide +kernel
theorem dX5_beginRule_16 : decode cX5_beginRule 16 = .ok (.ireturn, 1) := by decide +kernel
theorem dX5_beginRule_17 : decode cX5_beginRule 17 = .ok (.aload_n 0, 1) := by decide +kernel
theorem dX5_beginRule_18 : decode cX5_beginRule 18 = .ok (.aload_n 0, 1) := by decide +kernel
theorem dX5_beginRule_19 : decode cX5_beginRule 19 = .ok (.getfield 25, 3) := by decide +kernel
theorem dX5_beginRule_22 : decode cX5_beginRule 22 = .ok (.iconst 1, 1) := by decide +kernel
theorem dX5_beginRule_23 : decode cX5_beginRule 23 = .ok (.iadd, 1) := by decide +kernel
theorem dX5_beginRule_24 : decode cX5_beginRule 24 = .ok (.invokevirtual 48, 3) := by decide +kernel
theorem dX5_beginRule_27 : decode cX5_beginRule 27 = .ok (.aload_n 0, 1) := by decide +kernel
theorem dX5_beginRule_28 : decode cX5_beginRule 28 = .ok (.getfield 21, 3) := by decide +kernel
theorem dX5_beginRule_31 : decode cX5_beginRule 31 = .ok (.getfield 131, 3) := by decide +kernel
theorem dX5_beginRule_34 : decode cX5_beginRule 34 = .ok (.aload_n 0, 1) := by decide +kernel
theorem dX5_beginRule_35 : decode cX5_beginRule 35 = .ok (.getfield 21, 3) := by decide +kernel
theorem dX5_beginRule_38 : decode cX5_beginRule 38 = .ok (.getfield 128, 3) := by decide +kernel
theorem dX5_beginRule_41 : decode cX5_beginRule 41 = .ok (.aload_n 0, 1) := by decide +kernel
theorem dX5_beginRule_42 : decode cX5_beginRule 42 = .ok (.getfield 21, 3) := by decide +kernel
theorem dX5_beginRule_45 : decode cX5_beginRule 45 = .ok (.getfield 134, 3) := by decide +kernel
theorem dX5_beginRule_48 : decode cX5_beginRule 48 = .ok (.invokestatic 114, 3) := by decide +kernel
theorem dX5_beginRule_51 : decode cX5_beginRule 51 = .ok (.aload_n 0, 1) := by decide +kernel
theorem dX5_beginRule_52 : decode cX5_beginRule 52 = .ok (.getfield 21, 3) := by decide +kernel
theorem dX5_beginRule_55 : decode cX5_beginRule 55 = .ok (.dup, 1) := by decide +kernel
theorem dX5_beginRule_56 : decode cX5_beginRule 56 = .ok (.getfield 128, 3) := by decide +kernel
theorem dX5_beginRule_59 : decode cX5_beginRule 59 = .ok (.iconst 1, 1) := by decide +kernel
theorem dX5_beginRule_60 : decode cX5_beginRule 60 = .ok (.iadd, 1) := by decide +kernel
theorem dX5_beginRule_61 : decode cX5_beginRule 61 = .ok (.putfield 128, 3) := by decide +kernel
theorem dX5_beginRule_64 : decode cX5_beginRule 64 = .ok (.iconst 1, 1) := by decide +kernel
theorem dX5_beginRule_65 : decode cX5_beginRule 65 = .ok (.ireturn, 1) := by decide +kernel
theorem dX5_beginAsk_0 : decode cX5_beginAsk 0 = .ok (.aload_n 0, 1) := by decide +kernel
theorem dX5_beginAsk_1 : decode cX5_beginAsk 1 = .ok (.getfield 21, 3) := by decide +kernel
theorem dX5_beginAsk_4 : decode cX5_beginAsk 4 = .ok (.getfield 137, 3) := by decide +kernel
theorem dX5_beginAsk_7 : decode cX5_beginAsk 7 = .ok (.bipush 6, 2) := by decide +kernel
theorem dX5_beginAsk_9 : decode cX5_beginAsk 9 = .ok (.if_icmp .lt 9, 3) := by decide +kernel
theorem dX5_beginAsk_12 : decode cX5_beginAsk 12 = .ok (.aload_n 0, 1) := by decide +kernel
theorem dX5_beginAsk_13 : decode cX5_beginAsk 13 = .ok (.iconst 2, 1) := by decide +kernel
theorem dX5_beginAsk_14 : decode cX5_beginAsk 14 = .ok (.invokevirtual 80, 3) := by decide +kernel
theorem dX5_beginAsk_17 : decode cX5_beginAsk 17 = .ok (.ireturn, 1) := by decide +kernel
theorem dX5_beginAsk_18 : decode cX5_beginAsk 18 = .ok (.aload_n 0, 1) := by decide +kernel
theorem dX5_beginAsk_19 : decode cX5_beginAsk 19 = .ok (.aload_n 0, 1) := by decide +kernel
theorem dX5_beginAsk_20 : decode cX5_beginAsk 20 = .ok (.getfield 25, 3) := by decide +kernel
theorem dX5_beginAsk_23 : decode cX5_beginAsk 23 = .ok (.iconst 1, 1) := by decide +kernel
theorem dX5_beginAsk_24 : decode cX5_beginAsk 24 = .ok (.iadd, 1) := by decide +kernel
theorem dX5_beginAsk_25 : decode cX5_beginAsk 25 = .ok (.invokevirtual 48, 3) := by decide +kernel
theorem dX5_beginAsk_28 : decode cX5_beginAsk 28 = .ok (.aload_n 0, 1) := by decide +kernel
theorem dX5_beginAsk_29 : decode cX5_beginAsk 29 = .ok (.getfield 21, 3) := by decide +kernel
theorem dX5_beginAsk_32 : decode cX5_beginAsk 32 = .ok (.getfield 140, 3) := by decide +kernel
theorem dX5_beginAsk_35 : decode cX5_beginAsk 35 = .ok (.aload_n 0, 1) := by decide +kernel
theorem dX5_beginAsk_36 : decode cX5_beginAsk 36 = .ok (.getfield 21, 3) := by decide +kernel
theorem dX5_beginAsk_39 : decode cX5_beginAsk 39 = .ok (.getfield 137, 3) := by decide +kernel
theorem dX5_beginAsk_42 : decode cX5_beginAsk 42 = .ok (.aload_n 0, 1) := by decide +kernel
theorem dX5_beginAsk_43 : decode cX5_beginAsk 43 = .ok (.getfield 21, 3) := by decide +kernel
theorem dX5_beginAsk_46 : decode cX5_beginAsk 46 = .ok (.getfield 134, 3) := by decide +kernel
theorem dX5_beginAsk_49 : decode cX5_beginAsk 49 = .ok (.invokestatic 114, 3) := by decide +kernel
theorem dX5_beginAsk_52 : decode cX5_beginAsk 52 = .ok (.aload_n 0, 1) := by decide +kernel
theorem dX5_beginAsk_53 : decode cX5_beginAsk 53 = .ok (.getfield 21, 3) := by decide +kernel
theorem dX5_beginAsk_56 : decode cX5_beginAsk 56 = .ok (.dup, 1) := by decide +kernel
theorem dX5_beginAsk_57 : decode cX5_beginAsk 57 = .ok (.getfield 137, 3) := by decide +kernel
theorem dX5_beginAsk_60 : decode cX5_beginAsk 60 = .ok (.iconst 1, 1) := by decide +kernel
theorem dX5_beginAsk_61 : decode cX5_beginAsk 61 = .ok (.iadd, 1) := by decide +kernel
theorem dX5_beginAsk_62 : decode cX5_beginAsk 62 = .ok (.putfield 137, 3) := by decide +kernel
theorem dX5_beginAsk_65 : decode cX5_beginAsk 65 = .ok (.iconst 1, 1) := by decide +kernel
theorem dX5_beginAsk_66 : decode cX5_beginAsk 66 = .ok (.ireturn, 1) := by decide +kernel
theorem dX5_readLevel_0 : decode cX5_readLevel 0 = .ok (.iload_n 1, 1) := by decide +kernel
theorem dX5_readLevel_1 : decode cX5_readLevel 1 = .ok (.iconst 5, 1) := by decide +kernel
theorem dX5_readLevel_2 : decode cX5_readLevel 2 = .ok (.if_icmp .lt 9, 3) := by decide +kernel
theorem dX5_readLevel_5 : decode cX5_readLevel 5 = .ok (.aload_n 0, 1) := by decide +kernel
theorem dX5_readLevel_6 : decode cX5_readLevel 6 = .ok (.iload_n 2, 1) := by decide +kernel
theorem dX5_readLevel_7 : decode cX5_readLevel 7 = .ok (.invokevirtual 143, 3) := by decide +kernel
theorem dX5_readLevel_10 : decode cX5_readLevel 10 = .ok (.ireturn, 1) := by decide +kernel
theorem dX5_readLevel_11 : decode cX5_readLevel 11 = .ok (.iload_n 1, 1) := by decide +kernel
theorem dX5_readLevel_12 : decode cX5_readLevel 12 = .ok (.iconst 2, 1) := by decide +kernel
theorem dX5_readLevel_13 : decode cX5_readLevel 13 = .ok (.if_icmp .ne 9, 3) := by decide +kernel
theorem dX5_readLevel_16 : decode cX5_readLevel 16 = .ok (.aload_n 0, 1) := by decide +kernel
theorem dX5_readLevel_17 : decode cX5_readLevel 17 = .ok (.iload_n 2, 1) := by decide +kernel
theorem dX5_readLevel_18 : decode cX5_readLevel 18 = .ok (.invokevirtual 146, 3) := by decide +kernel
theorem dX5_readLevel_21 : decode cX5_readLevel 21 = .ok (.ireturn, 1) := by decide +kernel
theorem dX5_readLevel_22 : decode cX5_readLevel 22 = .ok (.aload_n 0, 1) := by decide +kernel
theorem dX5_readLevel_23 : decode cX5_readLevel 23 = .ok (.iload_n 1, 1) := by decide +kernel
theorem dX5_readLevel_24 : decode cX5_readLevel 24 = .ok (.iconst 1, 1) := by decide +kernel
theorem dX5_readLevel_25 : decode cX5_readLevel 25 = .ok (.iadd, 1) := by decide +kernel
theorem dX5_readLevel_26 : decode cX5_readLevel 26 = .ok (.iload_n 2, 1) := by decide +kernel
theorem dX5_readLevel_27 : decode cX5_readLevel 27 = .ok (.invokevirtual 92, 3) := by decide +kernel
theorem dX5_readLevel_30 : decode cX5_readLevel 30 = .ok (.ifCond .ne 5, 3) := by decide +kernel
theorem dX5_readLevel_33 : decode cX5_readLevel 33 = .ok (.iconst 0, 1) := by decide +kernel
theorem dX5_readLevel_34 : decode cX5_readLevel 34 = .ok (.ireturn, 1) := by decide +kernel
theorem dX5_readLevel_35 : decode cX5_readLevel 35 = .ok (.iconst 0, 1) := by decide +kernel
theorem dX5_readLevel_36 : decode cX5_readLevel 36 = .ok (.istore_n 3, 1) := by decide +kernel
theorem dX5_readLevel_37 : decode cX5_readLevel 37 = .ok (.iload_n 3, 1) := by decide +kernel
theorem dX5_readLevel_38 : decode cX5_readLevel 38 = .ok (.sipush 700, 3) := by decide +kernel
theorem dX5_readLevel_41 : decode cX5_readLevel 41 = .ok (.if_icmp .ge 55, 3) := by decide +kernel
theorem dX5_readLevel_44 : decode cX5_readLevel 44 = .ok (.aload_n 0, 1) := by decide +kernel
theorem dX5_readLevel_45 : decode cX5_readLevel 45 = .ok (.iload_n 1, 1) := by decide +kernel
theorem dX5_readLevel_46 : decode cX5_readLevel 46 = .ok (.invokevirtual 149, 3) := by decide +kernel
theorem dX5_readLevel_49 : decode cX5_readLevel 49 = .ok (.ifCond .eq 47, 3) := by decide +kernel
theorem dX5_readLevel_52 : decode cX5_readLevel 52 = .ok (.aload_n 0, 1) := by decide +kernel
theorem dX5_readLevel_53 : decode cX5_readLevel 53 = .ok (.getfield 29, 3) := by decide +kernel
theorem dX5_readLevel_56 : decode cX5_readLevel 56 = .ok (.istore 4, 2) := by decide +kernel
theorem dX5_readLevel_58 : decode cX5_readLevel 58 = .ok (.aload_n 0, 1) := by decide +kernel
theorem dX5_readLevel_59 : decode cX5_readLevel 59 = .ok (.aload_n 0, 1) := by decide +kernel
theorem dX5_readLevel_60 : decode cX5_readLevel 60 = .ok (.getfield 25, 3) := by decide +kernel
theorem dX5_readLevel_63 : decode cX5_readLevel 63 = .ok (.iconst 1, 1) := by decide +kernel
theorem dX5_readLevel_64 : decode cX5_readLevel 64 = .ok (.iadd, 1) := by decide +kernel
theorem dX5_readLevel_65 : decode cX5_readLevel 65 = .ok (.invokevirtual 48, 3) := by decide +kernel
theorem dX5_readLevel_68 : decode cX5_readLevel 68 = .ok (.aload_n 0, 1) := by decide +kernel
theorem dX5_readLevel_69 : decode cX5_readLevel 69 = .ok (.iload_n 1, 1) := by decide +kernel
theorem dX5_readLevel_70 : decode cX5_readLevel 70 = .ok (.iconst 1, 1) := by decide +kernel
theorem dX5_readLevel_71 : decode cX5_readLevel 71 = .ok (.iadd, 1) := by decide +kernel
theorem dX5_readLevel_72 : decode cX5_readLevel 72 = .ok (.iload_n 2, 1) := by decide +kernel
theorem dX5_readLevel_73 : decode cX5_readLevel 73 = .ok (.invokevirtual 92, 3) := by decide +kernel
theorem dX5_readLevel_76 : decode cX5_readLevel 76 = .ok (.ifCond .ne 5, 3) := by decide +kernel
theorem dX5_readLevel_79 : decode cX5_readLevel 79 = .ok (.iconst 0, 1) := by decide +kernel
theorem dX5_readLevel_80 : decode cX5_readLevel 80 = .ok (.ireturn, 1) := by decide +kernel
theorem dX5_readLevel_81 : decode cX5_readLevel 81 = .ok (.aload_n 0, 1) := by decide +kernel
theorem dX5_readLevel_82 : decode cX5_readLevel 82 = .ok (.getfield 21, 3) := by decide +kernel
theorem dX5_readLevel_85 : decode cX5_readLevel 85 = .ok (.iload 4, 2) := by decide +kernel
theorem dX5_readLevel_87 : decode cX5_readLevel 87 = .ok (.invokevirtual 59, 3) := by decide +kernel
theorem dX5_readLevel_90 : decode cX5_readLevel 90 = .ok (.iinc 3 1, 3) := by decide +kernel
theorem dX5_readLevel_93 : decode cX5_readLevel 93 = .ok (.goto (-56), 3) := by decide +kernel
theorem dX5_readLevel_96 : decode cX5_readLevel 96 = .ok (.iconst 1, 1) := by decide +kernel
theorem dX5_readLevel_97 : decode cX5_readLevel 97 = .ok (.ireturn, 1) := by decide +kernel
theorem dX5_readTest_0 : decode cX5_readTest 0 = .ok (.iconst 0, 1) := by decide +kernel
theorem dX5_readTest_1 : decode cX5_readTest 1 = .ok (.istore_n 2, 1) := by decide +kernel
theorem dX5_readTest_2 : decode cX5_readTest 2 = .ok (.iload_n 2, 1) := by decide +kernel
theorem dX5_readTest_3 : decode cX5_readTest 3 = .ok (.bipush 6, 2) := by decide +kernel
theorem dX5_readTest_5 : decode cX5_readTest 5 = .ok (.if_icmp .ge 28, 3) := by decide +kernel
theorem dX5_readTest_8 : decode cX5_readTest 8 = .ok (.aload_n 0, 1) := by decide +kernel
theorem dX5_readTest_9 : decode cX5_readTest 9 = .ok (.getfield 29, 3) := by decide +kernel
theorem dX5_readTest_12 : decode cX5_readTest 12 = .ok (.bipush (-8), 2) := by decide +kernel
theorem dX5_readTest_14 : decode cX5_readTest 14 = .ok (.if_icmp .ne 19, 3) := by decide +kernel
theorem dX5_readTest_17 : decode cX5_readTest 17 = .ok (.iinc 2 1, 3) := by decide +kernel
theorem dX5_readTest_20 : decode cX5_readTest 20 = .ok (.aload_n 0, 1) := by decide +kernel
theorem dX5_readTest_21 : decode cX5_readTest 21 = .ok (.aload_n 0, 1) := by decide +kernel
theorem dX5_readTest_22 : decode cX5_readTest 22 = .ok (.getfield 25, 3) := by decide +kernel
theorem dX5_readTest_25 : decode cX5_readTest 25 = .ok (.iconst 1, 1) := by decide +kernel
theorem dX5_readTest_26 : decode cX5_readTest 26 = .ok (.iadd, 1) := by decide +kernel
theorem dX5_readTest_27 : decode cX5_readTest 27 = .ok (.invokevirtual 48, 3) := by decide +kernel
theorem dX5_readTest_30 : decode cX5_readTest 30 = .ok (.goto (-28), 3) := by decide +kernel
theorem dX5_readTest_33 : decode cX5_readTest 33 = .ok (.aload_n 0, 1) := by decide +kernel
theorem dX5_readTest_34 : decode cX5_readTest 34 = .ok (.getfield 29, 3) := by decide +kernel
theorem dX5_readTest_37 : decode cX5_readTest 37 = .ok (.bipush (-8), 2) := by decide +kernel
theorem dX5_readTest_39 : decode cX5_readTest 39 = .ok (.if_icmp .ne 9, 3) := by decide +kernel
theorem dX5_readTest_42 : decode cX5_readTest 42 = .ok (.aload_n 0, 1) := by decide +kernel
theorem dX5_readTest_43 : decode cX5_readTest 43 = .ok (.iconst 2, 1) := by decide +kernel
theorem dX5_readTest_44 : decode cX5_readTest 44 = .ok (.invokevirtual 80, 3) := by decide +kernel
theorem dX5_readTest_47 : decode cX5_readTest 47 = .ok (.ireturn, 1) := by decide +kernel
theorem dX5_readTest_48 : decode cX5_readTest 48 = .ok (.aload_n 0, 1) := by decide +kernel
theorem dX5_readTest_49 : decode cX5_readTest 49 = .ok (.iconst 3, 1) := by decide +kernel
theorem dX5_readTest_50 : decode cX5_readTest 50 = .ok (.iload_n 1, 1) := by decide +kernel
theorem dX5_readTest_51 : decode cX5_readTest 51 = .ok (.invokevirtual 92, 3) := by decide +kernel
theorem dX5_readTest_54 : decode cX5_readTest 54 = .ok (.ifCond .ne 5, 3) := by decide +kernel
theorem dX5_readTest_57 : decode cX5_readTest 57 = .ok (.iconst 0, 1) := by decide +kernel
theorem dX5_readTest_58 : decode cX5_readTest 58 = .ok (.ireturn, 1) := by decide +kernel
theorem dX5_readTest_59 : decode cX5_readTest 59 = .ok (.aload_n 0, 1) := by decide +kernel
theorem dX5_readTest_60 : decode cX5_readTest 60 = .ok (.iconst 2, 1) := by decide +kernel
theorem dX5_readTest_61 : decode cX5_readTest 61 = .ok (.invokevirtual 149, 3) := by decide +kernel
theorem dX5_readTest_64 : decode cX5_readTest 64 = .ok (.ifCond .eq 37, 3) := by decide +kernel
theorem dX5_readTest_67 : decode cX5_readTest 67 = .ok (.aload_n 0, 1) := by decide +kernel
theorem dX5_readTest_68 : decode cX5_readTest 68 = .ok (.getfield 29, 3) := by decide +kernel
theorem dX5_readTest_71 : decode cX5_readTest 71 = .ok (.istore_n 3, 1) := by decide +kernel
theorem dX5_readTest_72 : decode cX5_readTest 72 = .ok (.aload_n 0, 1) := by decide +kernel
theorem dX5_readTest_73 : decode cX5_readTest 73 = .ok (.aload_n 0, 1) := by decide +kernel
theorem dX5_readTest_74 : decode cX5_readTest 74 = .ok (.getfield 25, 3) := by decide +kernel
theorem dX5_readTest_77 : decode cX5_readTest 77 = .ok (.iconst 1, 1) := by decide +kernel
theorem dX5_readTest_78 : decode cX5_readTest 78 = .ok (.iadd, 1) := by decide +kernel
theorem dX5_readTest_79 : decode cX5_readTest 79 = .ok (.invokevirtual 48, 3) := by decide +kernel
theorem dX5_readTest_82 : decode cX5_readTest 82 = .ok (.aload_n 0, 1) := by decide +kernel
theorem dX5_readTest_83 : decode cX5_readTest 83 = .ok (.iconst 3, 1) := by decide +kernel
theorem dX5_readTest_84 : decode cX5_readTest 84 = .ok (.iload_n 1, 1) := by decide +kernel
theorem dX5_readTest_85 : decode cX5_readTest 85 = .ok (.invokevirtual 92, 3) := by decide +kernel
theorem dX5_readTest_88 : decode cX5_readTest 88 = .ok (.ifCond .ne 5, 3) := by decide +kernel
theorem dX5_readTest_91 : decode cX5_readTest 91 = .ok (.iconst 0, 1) := by decide +kernel
theorem dX5_readTest_92 : decode cX5_readTest 92 = .ok (.ireturn, 1) := by decide +kernel
theorem dX5_readTest_93 : decode cX5_readTest 93 = .ok (.aload_n 0, 1) := by decide +kernel
theorem dX5_readTest_94 : decode cX5_readTest 94 = .ok (.getfield 21, 3) := by decide +kernel
theorem dX5_readTest_97 : decode cX5_readTest 97 = .ok (.iload_n 3, 1) := by decide +kernel
theorem dX5_readTest_98 : decode cX5_readTest 98 = .ok (.invokevirtual 59, 3) := by decide +kernel
theorem dX5_readTest_101 : decode cX5_readTest 101 = .ok (.iconst 0, 1) := by decide +kernel
theorem dX5_readTest_102 : decode cX5_readTest 102 = .ok (.istore_n 3, 1) := by decide +kernel
theorem dX5_readTest_103 : decode cX5_readTest 103 = .ok (.iload_n 3, 1) := by decide +kernel
theorem dX5_readTest_104 : decode cX5_readTest 104 = .ok (.iload_n 2, 1) := by decide +kernel
theorem dX5_readTest_105 : decode cX5_readTest 105 = .ok (.if_icmp .ge 18, 3) := by decide +kernel
theorem dX5_readTest_108 : decode cX5_readTest 108 = .ok (.aload_n 0, 1) := by decide +kernel
theorem dX5_readTest_109 : decode cX5_readTest 109 = .ok (.getfield 21, 3) := by decide +kernel
theorem dX5_readTest_112 : decode cX5_readTest 112 = .ok (.bipush (-8), 2) := by decide +kernel
theorem dX5_readTest_114 : decode cX5_readTest 114 = .ok (.invokevirtual 59, 3) := by decide +kernel
theorem dX5_readTest_117 : decode cX5_readTest 117 = .ok (.iinc 3 1, 3) := by decide +kernel
theorem dX5_readTest_120 : decode cX5_readTest 120 = .ok (.goto (-17), 3) := by decide +kernel
theorem dX5_readTest_123 : decode cX5_readTest 123 = .ok (.iconst 1, 1) := by decide +kernel
theorem dX5_readTest_124 : decode cX5_readTest 124 = .ok (.ireturn, 1) := by decide +kernel
theorem dX5_readPart_0 : decode cX5_readPart 0 = .ok (.aload_n 0, 1) := by decide +kernel
theorem dX5_readPart_1 : decode cX5_readPart 1 = .ok (.getfield 29, 3) := by decide +kernel
theorem dX5_readPart_4 : decode cX5_readPart 4 = .ok (.iconst 1, 1) := by decide +kernel
theorem dX5_readPart_5 : decode cX5_readPart 5 = .ok (.if_icmp .ne 29, 3) := by decide +kernel
theorem dX5_readPart_8 : decode cX5_readPart 8 = .ok (.aload_n 0, 1) := by decide +kernel
theorem dX5_readPart_9 : decode cX5_readPart 9 = .ok (.iconst 0, 1) := by decide +kernel
theorem dX5_readPart_10 : decode cX5_readPart 10 = .ok (.sipush 9999, 3) := by decide +kernel
theorem dX5_readPart_13 : decode cX5_readPart 13 = .ok (.invokevirtual 99, 3) := by decide +kernel
theorem dX5_readPart_16 : decode cX5_readPart 16 = .ok (.ifCond .ne 5, 3) := by decide +kernel
theorem dX5_readPart_19 : decode cX5_readPart 19 = .ok (.iconst 0, 1) := by decide +kernel
theorem dX5_readPart_20 : decode cX5_readPart 20 = .ok (.ireturn, 1) := by decide +kernel
theorem dX5_readPart_21 : decode cX5_readPart 21 = .ok (.aload_n 0, 1) := by decide +kernel
theorem dX5_readPart_22 : decode cX5_readPart 22 = .ok (.getfield 21, 3) := by decide +kernel
theorem dX5_readPart_25 : decode cX5_readPart 25 = .ok (.aload_n 0, 1) := by decide +kernel
theorem dX5_readPart_26 : decode cX5_readPart 26 = .ok (.getfield 35, 3) := by decide +kernel
theorem dX5_readPart_29 : decode cX5_readPart 29 = .ok (.invokevirtual 59, 3) := by decide +kernel
theorem dX5_readPart_32 : decode cX5_readPart 32 = .ok (.iconst 1, 1) := by decide +kernel
theorem dX5_readPart_33 : decode cX5_readPart 33 = .ok (.ireturn, 1) := by decide +kernel
theorem dX5_readPart_34 : decode cX5_readPart 34 = .ok (.aload_n 0, 1) := by decide +kernel
theorem dX5_readPart_35 : decode cX5_readPart 35 = .ok (.getfield 29, 3) := by decide +kernel
theorem dX5_readPart_38 : decode cX5_readPart 38 = .ok (.iconst (-1), 1) := by decide +kernel
theorem dX5_readPart_39 : decode cX5_readPart 39 = .ok (.if_icmp .gt 35, 3) := by decide +kernel
theorem dX5_readPart_42 : decode cX5_readPart 42 = .ok (.aload_n 0, 1) := by decide +kernel
theorem dX5_readPart_43 : decode cX5_readPart 43 = .ok (.getfield 29, 3) := by decide +kernel
theorem dX5_readPart_46 : decode cX5_readPart 46 = .ok (.bipush (-8), 2) := by decide +kernel
theorem dX5_readPart_48 : decode cX5_readPart 48 = .ok (.if_icmp .le 26, 3) := by decide +kernel
theorem dX5_readPart_51 : decode cX5_readPart 51 = .ok (.aload_n 0, 1) := by decide +kernel
theorem dX5_readPart_52 : decode cX5_readPart 52 = .ok (.getfield 21, 3) := by decide +kernel
theorem dX5_readPart_55 : decode cX5_readPart 55 = .ok (.aload_n 0, 1) := by decide +kernel
theorem dX5_readPart_56 : decode cX5_readPart 56 = .ok (.getfield 29, 3) := by decide +kernel
theorem dX5_readPart_59 : decode cX5_readPart 59 = .ok (.invokevirtual 59, 3) := by decide +kernel
theorem dX5_readPart_62 : decode cX5_readPart 62 = .ok (.aload_n 0, 1) := by decide +kernel
theorem dX5_readPart_63 : decode cX5_readPart 63 = .ok (.aload_n 0, 1) := by decide +kernel
theorem dX5_readPart_64 : decode cX5_readPart 64 = .ok (.getfield 25, 3) := by decide +kernel
theorem dX5_readPart_67 : decode cX5_readPart 67 = .ok (.iconst 1, 1) := by decide +kernel
theorem dX5_readPart_68 : decode cX5_readPart 68 = .ok (.iadd, 1) := by decide +kernel
theorem dX5_readPart_69 : decode cX5_readPart 69 = .ok (.invokevirtual 48, 3) := by decide +kernel
theorem dX5_readPart_72 : decode cX5_readPart 72 = .ok (.iconst 1, 1) := by decide +kernel
theorem dX5_readPart_73 : decode cX5_readPart 73 = .ok (.ireturn, 1) := by decide +kernel
theorem dX5_readPart_74 : decode cX5_readPart 74 = .ok (.aload_n 0, 1) := by decide +kernel
theorem dX5_readPart_75 : decode cX5_readPart 75 = .ok (.invokevirtual 152, 3) := by decide +kernel
theorem dX5_readPart_78 : decode cX5_readPart 78 = .ok (.ifCond .eq 9, 3) := by decide +kernel
theorem dX5_readPart_81 : decode cX5_readPart 81 = .ok (.aload_n 0, 1) := by decide +kernel
theorem dX5_readPart_82 : decode cX5_readPart 82 = .ok (.iconst 3, 1) := by decide +kernel
theorem dX5_readPart_83 : decode cX5_readPart 83 = .ok (.invokevirtual 80, 3) := by decide +kernel
theorem dX5_readPart_86 : decode cX5_readPart 86 = .ok (.ireturn, 1) := by decide +kernel
theorem dX5_readPart_87 : decode cX5_readPart 87 = .ok (.aload_n 0, 1) := by decide +kernel
theorem dX5_readPart_88 : decode cX5_readPart 88 = .ok (.iconst 4, 1) := by decide +kernel
theorem dX5_readPart_89 : decode cX5_readPart 89 = .ok (.invokevirtual 55, 3) := by decide +kernel
theorem dX5_readPart_92 : decode cX5_readPart 92 = .ok (.ifCond .ne 5, 3) := by decide +kernel
theorem dX5_readPart_95 : decode cX5_readPart 95 = .ok (.iconst 0, 1) := by decide +kernel
theorem dX5_readPart_96 : decode cX5_readPart 96 = .ok (.ireturn, 1) := by decide +kernel
theorem dX5_readPart_97 : decode cX5_readPart 97 = .ok (.iload_n 1, 1) := by decide +kernel
theorem dX5_readPart_98 : decode cX5_readPart 98 = .ok (.iconst 1, 1) := by decide +kernel
theorem dX5_readPart_99 : decode cX5_readPart 99 = .ok (.iadd, 1) := by decide +kernel
theorem dX5_readPart_100 : decode cX5_readPart 100 = .ok (.bipush 6, 2) := by decide +kernel
theorem dX5_readPart_102 : decode cX5_readPart 102 = .ok (.if_icmp .lt 46, 3) := by decide +kernel
theorem dX5_readPart_105 : decode cX5_readPart 105 = .ok (.aload_n 0, 1) := by decide +kernel
theorem dX5_readPart_106 : decode cX5_readPart 106 = .ok (.getfield 29, 3) := by decide +kernel
theorem dX5_readPart_109 : decode cX5_readPart 109 = .ok (.iconst 1, 1) := by decide +kernel
theorem dX5_readPart_110 : decode cX5_readPart 110 = .ok (.if_icmp .eq 18, 3) := by decide +kernel
theorem dX5_readPart_113 : decode cX5_readPart 113 = .ok (.aload_n 0, 1) := by decide +kernel
theorem dX5_readPart_114 : decode cX5_readPart 114 = .ok (.getfield 29, 3) := by decide +kernel
theorem dX5_readPart_117 : decode cX5_readPart 117 = .ok (.iconst 4, 1) := by decide +kernel
theorem dX5_readPart_118 : decode cX5_readPart 118 = .ok (.if_icmp .eq 10, 3) := by decide +kernel
theorem dX5_readPart_121 : decode cX5_readPart 121 = .ok (.aload_n 0, 1) := by decide +kernel
theorem dX5_readPart_122 : decode cX5_readPart 122 = .ok (.invokevirtual 152, 3) := by decide +kernel
theorem dX5_readPart_125 : decode cX5_readPart 125 = .ok (.ifCond .eq 7, 3) := by decide +kernel
theorem dX5_readPart_128 : decode cX5_readPart 128 = .ok (.iconst 1, 1) := by decide +kernel
theorem dX5_readPart_129 : decode cX5_readPart 129 = .ok (.goto 4, 3) := by decide +kernel
theorem dX5_readPart_132 : decode cX5_readPart 132 = .ok (.iconst 0, 1) := by decide +kernel
theorem dX5_readPart_133 : decode cX5_readPart 133 = .ok (.istore_n 2, 1) := by decide +kernel
theorem dX5_readPart_134 : decode cX5_readPart 134 = .ok (.aload_n 0, 1) := by decide +kernel
theorem dX5_readPart_135 : decode cX5_readPart 135 = .ok (.iload_n 2, 1) := by decide +kernel
theorem dX5_readPart_136 : decode cX5_readPart 136 = .ok (.ifCond .eq 7, 3) := by decide +kernel
theorem dX5_readPart_139 : decode cX5_readPart 139 = .ok (.iconst 2, 1) := by decide +kernel
theorem dX5_readPart_140 : decode cX5_readPart 140 = .ok (.goto 4, 3) := by decide +kernel
theorem dX5_readPart_143 : decode cX5_readPart 143 = .ok (.iconst 1, 1) := by decide +kernel
theorem dX5_readPart_144 : decode cX5_readPart 144 = .ok (.invokevirtual 80, 3) := by decide +kernel
theorem dX5_readPart_147 : decode cX5_readPart 147 = .ok (.ireturn, 1) := by decide +kernel
theorem dX5_readPart_148 : decode cX5_readPart 148 = .ok (.aload_n 0, 1) := by decide +kernel
theorem dX5_readPart_149 : decode cX5_readPart 149 = .ok (.iconst 0, 1) := by decide +kernel
theorem dX5_readPart_150 : decode cX5_readPart 150 = .ok (.iload_n 1, 1) := by decide +kernel
theorem dX5_readPart_151 : decode cX5_readPart 151 = .ok (.iconst 1, 1) := by decide +kernel
theorem dX5_readPart_152 : decode cX5_readPart 152 = .ok (.iadd, 1) := by decide +kernel
theorem dX5_readPart_153 : decode cX5_readPart 153 = .ok (.invokevirtual 92, 3) := by decide +kernel
theorem dX5_readPart_156 : decode cX5_readPart 156 = .ok (.ifCond .eq 15, 3) := by decide +kernel
theorem dX5_readPart_159 : decode cX5_readPart 159 = .ok (.aload_n 0, 1) := by decide +kernel
theorem dX5_readPart_160 : decode cX5_readPart 160 = .ok (.iconst 5, 1) := by decide +kernel
theorem dX5_readPart_161 : decode cX5_readPart 161 = .ok (.invokevirtual 55, 3) := by decide +kernel
theorem dX5_readPart_164 : decode cX5_readPart 164 = .ok (.ifCond .eq 7, 3) := by decide +kernel
theorem dX5_readPart_167 : decode cX5_readPart 167 = .ok (.iconst 1, 1) := by decide +kernel
theorem dX5_readPart_168 : decode cX5_readPart 168 = .ok (.goto 4, 3) := by decide +kernel
theorem dX5_readPart_171 : decode cX5_readPart 171 = .ok (.iconst 0, 1) := by decide +kernel
theorem dX5_readPart_172 : decode cX5_readPart 172 = .ok (.ireturn, 1) := by decide +kernel
theorem dX5_joins_0 : decode cX5_joins 0 = .ok (.iload_n 1, 1) := by decide +kernel
theorem dX5_joins_1 : decode cX5_joins 1 = .ok (.tableswitch 137 0 4 #[35, 50, 65, 89, 113], 35) := by decide +kernel
theorem dX5_joins_36 : decode cX5_joins 36 = .ok (.aload_n 0, 1) := by decide +kernel
theorem dX5_joins_37 : decode cX5_joins 37 = .ok (.getfield 29, 3) := by decide +kernel
theorem dX5_joins_40 : decode cX5_joins 40 = .ok (.bipush (-9), 2) := by decide +kernel
theorem dX5_joins_42 : decode cX5_joins 42 = .ok (.if_icmp .ne 7, 3) := by decide +kernel
theorem dX5_joins_45 : decode cX5_joins 45 = .ok (.iconst 1, 1) := by decide +kernel
theorem dX5_joins_46 : decode cX5_joins 46 = .ok (.goto 4, 3) := by decide +kernel
theorem dX5_joins_49 : decode cX5_joins 49 = .ok (.iconst 0, 1) := by decide +kernel
theorem dX5_joins_50 : decode cX5_joins 50 = .ok (.ireturn, 1) := by decide +kernel
theorem dX5_joins_51 : decode cX5_joins 51 = .ok (.aload_n 0, 1) := by decide +kernel
theorem dX5_joins_52 : decode cX5_joins 52 = .ok (.getfield 29, 3) := by decide +kernel
theorem dX5_joins_55 : decode cX5_joins 55 = .ok (.bipush (-10), 2) := by decide +kernel
theorem dX5_joins_57 : decode cX5_joins 57 = .ok (.if_icmp .ne 7, 3) := by decide +kernel
theorem dX5_joins_60 : decode cX5_joins 60 = .ok (.iconst 1, 1) := by decide +kernel
theorem dX5_joins_61 : decode cX5_joins 61 = .ok (.goto 4, 3) := by decide +kernel
theorem dX5_joins_64 : decode cX5_joins 64 = .ok (.iconst 0, 1) := by decide +kernel
theorem dX5_joins_65 : decode cX5_joins 65 = .ok (.ireturn, 1) := by decide +kernel
theorem dX5_joins_66 : decode cX5_joins 66 = .ok (.aload_n 0, 1) := by decide +kernel
theorem dX5_joins_67 : decode cX5_joins 67 = .ok (.getfield 29, 3) := by decide +kernel
theorem dX5_joins_70 : decode cX5_joins 70 = .ok (.bipush (-11), 2) := by decide +kernel
theorem dX5_joins_72 : decode cX5_joins 72 = .ok (.if_icmp .eq 12, 3) := by decide +kernel
theorem dX5_joins_75 : decode cX5_joins 75 = .ok (.aload_n 0, 1) := by decide +kernel
theorem dX5_joins_76 : decode cX5_joins 76 = .ok (.getfield 29, 3) := by decide +kernel
theorem dX5_joins_79 : decode cX5_joins 79 = .ok (.bipush (-12), 2) := by decide +kernel
theorem dX5_joins_81 : decode cX5_joins 81 = .ok (.if_icmp .ne 7, 3) := by decide +kernel
theorem dX5_joins_84 : decode cX5_joins 84 = .ok (.iconst 1, 1) := by decide +kernel
theorem dX5_joins_85 : decode cX5_joins 85 = .ok (.goto 4, 3) := by decide +kernel
theorem dX5_joins_88 : decode cX5_joins 88 = .ok (.iconst 0, 1) := by decide +kernel
theorem dX5_joins_89 : decode cX5_joins 89 = .ok (.ireturn, 1) := by decide +kernel
theorem dX5_joins_90 : decode cX5_joins 90 = .ok (.aload_n 0, 1) := by decide +kernel
theorem dX5_joins_91 : decode cX5_joins 91 = .ok (.getfield 29, 3) := by decide +kernel
theorem dX5_joins_94 : decode cX5_joins 94 = .ok (.bipush (-13), 2) := by decide +kernel
theorem dX5_joins_96 : decode cX5_joins 96 = .ok (.if_icmp .eq 12, 3) := by decide +kernel
theorem dX5_joins_99 : decode cX5_joins 99 = .ok (.aload_n 0, 1) := by decide +kernel
theorem dX5_joins_100 : decode cX5_joins 100 = .ok (.getfield 29, 3) := by decide +kernel
theorem dX5_joins_103 : decode cX5_joins 103 = .ok (.bipush (-14), 2) := by decide +kernel
theorem dX5_joins_105 : decode cX5_joins 105 = .ok (.if_icmp .ne 7, 3) := by decide +kernel
theorem dX5_joins_108 : decode cX5_joins 108 = .ok (.iconst 1, 1) := by decide +kernel
theorem dX5_joins_109 : decode cX5_joins 109 = .ok (.goto 4, 3) := by decide +kernel
theorem dX5_joins_112 : decode cX5_joins 112 = .ok (.iconst 0, 1) := by decide +kernel
theorem dX5_joins_113 : decode cX5_joins 113 = .ok (.ireturn, 1) := by decide +kernel
theorem dX5_joins_114 : decode cX5_joins 114 = .ok (.aload_n 0, 1) := by decide +kernel
theorem dX5_joins_115 : decode cX5_joins 115 = .ok (.getfield 29, 3) := by decide +kernel
theorem dX5_joins_118 : decode cX5_joins 118 = .ok (.bipush (-15), 2) := by decide +kernel
theorem dX5_joins_120 : decode cX5_joins 120 = .ok (.if_icmp .eq 12, 3) := by decide +kernel
theorem dX5_joins_123 : decode cX5_joins 123 = .ok (.aload_n 0, 1) := by decide +kernel
theorem dX5_joins_124 : decode cX5_joins 124 = .ok (.getfield 29, 3) := by decide +kernel
theorem dX5_joins_127 : decode cX5_joins 127 = .ok (.bipush (-16), 2) := by decide +kernel
theorem dX5_joins_129 : decode cX5_joins 129 = .ok (.if_icmp .ne 7, 3) := by decide +kernel
theorem dX5_joins_132 : decode cX5_joins 132 = .ok (.iconst 1, 1) := by decide +kernel
theorem dX5_joins_133 : decode cX5_joins 133 = .ok (.goto 4, 3) := by decide +kernel
theorem dX5_joins_136 : decode cX5_joins 136 = .ok (.iconst 0, 1) := by decide +kernel
theorem dX5_joins_137 : decode cX5_joins 137 = .ok (.ireturn, 1) := by decide +kernel
theorem dX5_joins_138 : decode cX5_joins 138 = .ok (.iconst 0, 1) := by decide +kernel
theorem dX5_joins_139 : decode cX5_joins 139 = .ok (.ireturn, 1) := by decide +kernel
theorem dX5_isWord_0 : decode cX5_isWord 0 = .ok (.aload_n 0, 1) := by decide +kernel
theorem dX5_isWord_1 : decode cX5_isWord 1 = .ok (.getfield 29, 3) := by decide +kernel
theorem dX5_isWord_4 : decode cX5_isWord 4 = .ok (.iconst (-1), 1) := by decide +kernel
theorem dX5_isWord_5 : decode cX5_isWord 5 = .ok (.if_icmp .gt 12, 3) := by decide +kernel
theorem dX5_isWord_8 : decode cX5_isWord 8 = .ok (.aload_n 0, 1) := by decide +kernel
theorem dX5_isWord_9 : decode cX5_isWord 9 = .ok (.getfield 29, 3) := by decide +kernel
theorem dX5_isWord_12 : decode cX5_isWord 12 = .ok (.bipush (-10), 2) := by decide +kernel
theorem dX5_isWord_14 : decode cX5_isWord 14 = .ok (.if_icmp .ge 12, 3) := by decide +kernel
theorem dX5_isWord_17 : decode cX5_isWord 17 = .ok (.aload_n 0, 1) := by decide +kernel
theorem dX5_isWord_18 : decode cX5_isWord 18 = .ok (.getfield 29, 3) := by decide +kernel
theorem dX5_isWord_21 : decode cX5_isWord 21 = .ok (.bipush 6, 2) := by decide +kernel
theorem dX5_isWord_23 : decode cX5_isWord 23 = .ok (.if_icmp .lt 7, 3) := by decide +kernel
theorem dX5_isWord_26 : decode cX5_isWord 26 = .ok (.iconst 1, 1) := by decide +kernel
theorem dX5_isWord_27 : decode cX5_isWord 27 = .ok (.goto 4, 3) := by decide +kernel
theorem dX5_isWord_30 : decode cX5_isWord 30 = .ok (.iconst 0, 1) := by decide +kernel
theorem dX5_isWord_31 : decode cX5_isWord 31 = .ok (.ireturn, 1) := by decide +kernel
theorem dX5_take_0 : decode cX5_take 0 = .ok (.aload_n 0, 1) := by decide +kernel
theorem dX5_take_1 : decode cX5_take 1 = .ok (.getfield 29, 3) := by decide +kernel
theorem dX5_take_4 : decode cX5_take 4 = .ok (.iload_n 1, 1) := by decide +kernel
theorem dX5_take_5 : decode cX5_take 5 = .ok (.if_icmp .eq 9, 3) := by decide +kernel
theorem dX5_take_8 : decode cX5_take 8 = .ok (.aload_n 0, 1) := by decide +kernel
theorem dX5_take_9 : decode cX5_take 9 = .ok (.iconst 1, 1) := by decide +kernel
theorem dX5_take_10 : decode cX5_take 10 = .ok (.invokevirtual 80, 3) := by decide +kernel
theorem dX5_take_13 : decode cX5_take 13 = .ok (.ireturn, 1) := by decide +kernel
theorem dX5_take_14 : decode cX5_take 14 = .ok (.aload_n 0, 1) := by decide +kernel
theorem dX5_take_15 : decode cX5_take 15 = .ok (.aload_n 0, 1) := by decide +kernel
theorem dX5_take_16 : decode cX5_take 16 = .ok (.getfield 25, 3) := by decide +kernel
theorem dX5_take_19 : decode cX5_take 19 = .ok (.iconst 1, 1) := by decide +kernel
theorem dX5_take_20 : decode cX5_take 20 = .ok (.iadd, 1) := by decide +kernel
theorem dX5_take_21 : decode cX5_take 21 = .ok (.invokevirtual 48, 3) := by decide +kernel
theorem dX5_take_24 : decode cX5_take 24 = .ok (.iconst 1, 1) := by decide +kernel
theorem dX5_take_25 : decode cX5_take 25 = .ok (.ireturn, 1) := by decide +kernel
theorem dX5_takeNumber_0 : decode cX5_takeNumber 0 = .ok (.aload_n 0, 1) := by decide +kernel
theorem dX5_takeNumber_1 : decode cX5_takeNumber 1 = .ok (.getfield 29, 3) := by decide +kernel
theorem dX5_takeNumber_4 : decode cX5_takeNumber 4 = .ok (.iconst 1, 1) := by decide +kernel
theorem dX5_takeNumber_5 : decode cX5_takeNumber 5 = .ok (.if_icmp .eq 9, 3) := by decide +kernel
theorem dX5_takeNumber_8 : decode cX5_takeNumber 8 = .ok (.aload_n 0, 1) := by decide +kernel
theorem dX5_takeNumber_9 : decode cX5_takeNumber 9 = .ok (.iconst 1, 1) := by decide +kernel
theorem dX5_takeNumber_10 : decode cX5_takeNumber 10 = .ok (.invokevirtual 80, 3) := by decide +kernel
theorem dX5_takeNumber_13 : decode cX5_takeNumber 13 = .ok (.ireturn, 1) := by decide +kernel
theorem dX5_takeNumber_14 : decode cX5_takeNumber 14 = .ok (.aload_n 0, 1) := by decide +kernel
theorem dX5_takeNumber_15 : decode cX5_takeNumber 15 = .ok (.getfield 32, 3) := by decide +kernel
theorem dX5_takeNumber_18 : decode cX5_takeNumber 18 = .ok (.iload_n 1, 1) := by decide +kernel
theorem dX5_takeNumber_19 : decode cX5_takeNumber 19 = .ok (.if_icmp .lt 11, 3) := by decide +kernel
theorem dX5_takeNumber_22 : decode cX5_takeNumber 22 = .ok (.aload_n 0, 1) := by decide +kernel
theorem dX5_takeNumber_23 : decode cX5_takeNumber 23 = .ok (.getfield 32, 3) := by decide +kernel
theorem dX5_takeNumber_26 : decode cX5_takeNumber 26 = .ok (.iload_n 2, 1) := by decide +kernel
theorem dX5_takeNumber_27 : decode cX5_takeNumber 27 = .ok (.if_icmp .le 9, 3) := by decide +kernel
theorem dX5_takeNumber_30 : decode cX5_takeNumber 30 = .ok (.aload_n 0, 1) := by decide +kernel
theorem dX5_takeNumber_31 : decode cX5_takeNumber 31 = .ok (.iconst 2, 1) := by decide +kernel
theorem dX5_takeNumber_32 : decode cX5_takeNumber 32 = .ok (.invokevirtual 80, 3) := by decide +kernel
theorem dX5_takeNumber_35 : decode cX5_takeNumber 35 = .ok (.ireturn, 1) := by decide +kernel
theorem dX5_takeNumber_36 : decode cX5_takeNumber 36 = .ok (.aload_n 0, 1) := by decide +kernel
theorem dX5_takeNumber_37 : decode cX5_takeNumber 37 = .ok (.aload_n 0, 1) := by decide +kernel
theorem dX5_takeNumber_38 : decode cX5_takeNumber 38 = .ok (.getfield 32, 3) := by decide +kernel
theorem dX5_takeNumber_41 : decode cX5_takeNumber 41 = .ok (.putfield 35, 3) := by decide +kernel
theorem dX5_takeNumber_44 : decode cX5_takeNumber 44 = .ok (.aload_n 0, 1) := by decide +kernel
theorem dX5_takeNumber_45 : decode cX5_takeNumber 45 = .ok (.aload_n 0, 1) := by decide +kernel
theorem dX5_takeNumber_46 : decode cX5_takeNumber 46 = .ok (.getfield 25, 3) := by decide +kernel
theorem dX5_takeNumber_49 : decode cX5_takeNumber 49 = .ok (.iconst 1, 1) := by decide +kernel
theorem dX5_takeNumber_50 : decode cX5_takeNumber 50 = .ok (.iadd, 1) := by decide +kernel
theorem dX5_takeNumber_51 : decode cX5_takeNumber 51 = .ok (.invokevirtual 48, 3) := by decide +kernel
theorem dX5_takeNumber_54 : decode cX5_takeNumber 54 = .ok (.iconst 1, 1) := by decide +kernel
theorem dX5_takeNumber_55 : decode cX5_takeNumber 55 = .ok (.ireturn, 1) := by decide +kernel
theorem dX5_takeHouse_0 : decode cX5_takeHouse 0 = .ok (.aload_n 0, 1) := by decide +kernel
theorem dX5_takeHouse_1 : decode cX5_takeHouse 1 = .ok (.getfield 29, 3) := by decide +kernel
theorem dX5_takeHouse_4 : decode cX5_takeHouse 4 = .ok (.iconst 1, 1) := by decide +kernel
theorem dX5_takeHouse_5 : decode cX5_takeHouse 5 = .ok (.if_icmp .eq 9, 3) := by decide +kernel
theorem dX5_takeHouse_8 : decode cX5_takeHouse 8 = .ok (.aload_n 0, 1) := by decide +kernel
theorem dX5_takeHouse_9 : decode cX5_takeHouse 9 = .ok (.iconst 1, 1) := by decide +kernel
theorem dX5_takeHouse_10 : decode cX5_takeHouse 10 = .ok (.invokevirtual 80, 3) := by decide +kernel
theorem dX5_takeHouse_13 : decode cX5_takeHouse 13 = .ok (.ireturn, 1) := by decide +kernel
theorem dX5_takeHouse_14 : decode cX5_takeHouse 14 = .ok (.aload_n 0, 1) := by decide +kernel
theorem dX5_takeHouse_15 : decode cX5_takeHouse 15 = .ok (.getfield 32, 3) := by decide +kernel
theorem dX5_takeHouse_18 : decode cX5_takeHouse 18 = .ok (.aload_n 0, 1) := by decide +kernel
theorem dX5_takeHouse_19 : decode cX5_takeHouse 19 = .ok (.getfield 21, 3) := by decide +kernel
theorem dX5_takeHouse_22 : decode cX5_takeHouse 22 = .ok (.getfield 102, 3) := by decide +kernel
theorem dX5_takeHouse_25 : decode cX5_takeHouse 25 = .ok (.if_icmp .lt 23, 3) := by decide +kernel
theorem dX5_takeHouse_28 : decode cX5_takeHouse 28 = .ok (.aload_n 0, 1) := by decide +kernel
theorem dX5_takeHouse_29 : decode cX5_takeHouse 29 = .ok (.aload_n 0, 1) := by decide +kernel
theorem dX5_takeHouse_30 : decode cX5_takeHouse 30 = .ok (.getfield 32, 3) := by decide +kernel
theorem dX5_takeHouse_33 : decode cX5_takeHouse 33 = .ok (.sipush 9999, 3) := by decide +kernel
theorem dX5_takeHouse_36 : decode cX5_takeHouse 36 = .ok (.if_icmp .le 7, 3) := by decide +kernel
theorem dX5_takeHouse_39 : decode cX5_takeHouse 39 = .ok (.iconst 2, 1) := by decide +kernel
theorem dX5_takeHouse_40 : decode cX5_takeHouse 40 = .ok (.goto 4, 3) := by decide +kernel
theorem dX5_takeHouse_43 : decode cX5_takeHouse 43 = .ok (.iconst 3, 1) := by decide +kernel
theorem dX5_takeHouse_44 : decode cX5_takeHouse 44 = .ok (.invokevirtual 80, 3) := by decide +kernel
theorem dX5_takeHouse_47 : decode cX5_takeHouse 47 = .ok (.ireturn, 1) := by decide +kernel
theorem dX5_takeHouse_48 : decode cX5_takeHouse 48 = .ok (.aload_n 0, 1) := by decide +kernel
theorem dX5_takeHouse_49 : decode cX5_takeHouse 49 = .ok (.getfield 32, 3) := by decide +kernel
theorem dX5_takeHouse_52 : decode cX5_takeHouse 52 = .ok (.iload_n 1, 1) := by decide +kernel
theorem dX5_takeHouse_53 : decode cX5_takeHouse 53 = .ok (.if_icmp .ne 9, 3) := by decide +kernel
theorem dX5_takeHouse_56 : decode cX5_takeHouse 56 = .ok (.aload_n 0, 1) := by decide +kernel
theorem dX5_takeHouse_57 : decode cX5_takeHouse 57 = .ok (.iconst 4, 1) := by decide +kernel
theorem dX5_takeHouse_58 : decode cX5_takeHouse 58 = .ok (.invokevirtual 80, 3) := by decide +kernel
theorem dX5_takeHouse_61 : decode cX5_takeHouse 61 = .ok (.ireturn, 1) := by decide +kernel
theorem dX5_takeHouse_62 : decode cX5_takeHouse 62 = .ok (.aload_n 0, 1) := by decide +kernel
theorem dX5_takeHouse_63 : decode cX5_takeHouse 63 = .ok (.aload_n 0, 1) := by decide +kernel
theorem dX5_takeHouse_64 : decode cX5_takeHouse 64 = .ok (.getfield 32, 3) := by decide +kernel
theorem dX5_takeHouse_67 : decode cX5_takeHouse 67 = .ok (.putfield 35, 3) := by decide +kernel
theorem dX5_takeHouse_70 : decode cX5_takeHouse 70 = .ok (.aload_n 0, 1) := by decide +kernel
theorem dX5_takeHouse_71 : decode cX5_takeHouse 71 = .ok (.aload_n 0, 1) := by decide +kernel
theorem dX5_takeHouse_72 : decode cX5_takeHouse 72 = .ok (.getfield 25, 3) := by decide +kernel
theorem dX5_takeHouse_75 : decode cX5_takeHouse 75 = .ok (.iconst 1, 1) := by decide +kernel
theorem dX5_takeHouse_76 : decode cX5_takeHouse 76 = .ok (.iadd, 1) := by decide +kernel
theorem dX5_takeHouse_77 : decode cX5_takeHouse 77 = .ok (.invokevirtual 48, 3) := by decide +kernel
theorem dX5_takeHouse_80 : decode cX5_takeHouse 80 = .ok (.iconst 1, 1) := by decide +kernel
theorem dX5_takeHouse_81 : decode cX5_takeHouse 81 = .ok (.ireturn, 1) := by decide +kernel
theorem dX5_refuse_0 : decode cX5_refuse 0 = .ok (.aload_n 0, 1) := by decide +kernel
theorem dX5_refuse_1 : decode cX5_refuse 1 = .ok (.iload_n 1, 1) := by decide +kernel
theorem dX5_refuse_2 : decode cX5_refuse 2 = .ok (.putfield 38, 3) := by decide +kernel
theorem dX5_refuse_5 : decode cX5_refuse 5 = .ok (.iconst 0, 1) := by decide +kernel
theorem dX5_refuse_6 : decode cX5_refuse 6 = .ok (.ireturn, 1) := by decide +kernel
theorem dX7_init_0 : decode cX7_init 0 = .ok (.aload_n 0, 1) := by decide +kernel
theorem dX7_init_1 : decode cX7_init 1 = .ok (.invokespecial 3, 3) := by decide +kernel
theorem dX7_init_4 : decode cX7_init 4 = .ok (.aload_n 0, 1) := by decide +kernel
theorem dX7_init_5 : decode cX7_init 5 = .ok (.sipush 700, 3) := by decide +kernel
theorem dX7_init_8 : decode cX7_init 8 = .ok (.newarray .int, 2) := by decide +kernel
theorem dX7_init_10 : decode cX7_init 10 = .ok (.putfield 9, 3) := by decide +kernel
theorem dX7_init_13 : decode cX7_init 13 = .ok (.aload_n 0, 1) := by decide +kernel
theorem dX7_init_14 : decode cX7_init 14 = .ok (.iconst 0, 1) := by decide +kernel
theorem dX7_init_15 : decode cX7_init 15 = .ok (.putfield 15, 3) := by decide +kernel
theorem dX7_init_18 : decode cX7_init 18 = .ok (.aload_n 0, 1) := by decide +kernel
theorem dX7_init_19 : decode cX7_init 19 = .ok (.iconst 0, 1) := by decide +kernel
theorem dX7_init_20 : decode cX7_init 20 = .ok (.putfield 19, 3) := by decide +kernel
theorem dX7_init_23 : decode cX7_init 23 = .ok (.aload_n 0, 1) := by decide +kernel
theorem dX7_init_24 : decode cX7_init 24 = .ok (.sipush 701, 3) := by decide +kernel
theorem dX7_init_27 : decode cX7_init 27 = .ok (.newarray .int, 2) := by decide +kernel
theorem dX7_init_29 : decode cX7_init 29 = .ok (.putfield 22, 3) := by decide +kernel
theorem dX7_init_32 : decode cX7_init 32 = .ok (.aload_n 0, 1) := by decide +kernel
theorem dX7_init_33 : decode cX7_init 33 = .ok (.sipush 701, 3) := by decide +kernel
theorem dX7_init_36 : decode cX7_init 36 = .ok (.newarray .int, 2) := by decide +kernel
theorem dX7_init_38 : decode cX7_init 38 = .ok (.putfield 25, 3) := by decide +kernel
theorem dX7_init_41 : decode cX7_init 41 = .ok (.aload_n 0, 1) := by decide +kernel
theorem dX7_init_42 : decode cX7_init 42 = .ok (.sipush 701, 3) := by decide +kernel
theorem dX7_init_45 : decode cX7_init 45 = .ok (.newarray .int, 2) := by decide +kernel
theorem dX7_init_47 : decode cX7_init 47 = .ok (.putfield 28, 3) := by decide +kernel
theorem dX7_init_50 : decode cX7_init 50 = .ok (.return_, 1) := by decide +kernel
theorem dX7_tapeNumber_0 : decode cX7_tapeNumber 0 = .ok (.bipush 24, 2) := by decide +kernel
theorem dX7_tapeNumber_2 : decode cX7_tapeNumber 2 = .ok (.istore_n 2, 1) := by decide +kernel
theorem dX7_tapeNumber_3 : decode cX7_tapeNumber 3 = .ok (.iload_n 2, 1) := by decide +kernel
theorem dX7_tapeNumber_4 : decode cX7_tapeNumber 4 = .ok (.ifCond .lt 37, 3) := by decide +kernel
theorem dX7_tapeNumber_7 : decode cX7_tapeNumber 7 = .ok (.aload_n 0, 1) := by decide +kernel
theorem dX7_tapeNumber_8 : decode cX7_tapeNumber 8 = .ok (.getfield 9, 3) := by decide +kernel
theorem dX7_tapeNumber_11 : decode cX7_tapeNumber 11 = .ok (.aload_n 0, 1) := by decide +kernel
theorem dX7_tapeNumber_12 : decode cX7_tapeNumber 12 = .ok (.getfield 15, 3) := by decide +kernel
theorem dX7_tapeNumber_15 : decode cX7_tapeNumber 15 = .ok (.iload_n 1, 1) := by decide +kernel
theorem dX7_tapeNumber_16 : decode cX7_tapeNumber 16 = .ok (.iload_n 2, 1) := by decide +kernel
theorem dX7_tapeNumber_17 : decode cX7_tapeNumber 17 = .ok (.ishr, 1) := by decide +kernel
theorem dX7_tapeNumber_18 : decode cX7_tapeNumber 18 = .ok (.sipush 255, 3) := by decide +kernel
theorem dX7_tapeNumber_21 : decode cX7_tapeNumber 21 = .ok (.iand, 1) := by decide +kernel
theorem dX7_tapeNumber_22 : decode cX7_tapeNumber 22 = .ok (.invokestatic 31, 3) := by decide +kernel
theorem dX7_tapeNumber_25 : decode cX7_tapeNumber 25 = .ok (.aload_n 0, 1) := by decide +kernel
theorem dX7_tapeNumber_26 : decode cX7_tapeNumber 26 = .ok (.dup, 1) := by decide +kernel
theorem dX7_tapeNumber_27 : decode cX7_tapeNumber 27 = .ok (.getfield 15, 3) := by decide +kernel
theorem dX7_tapeNumber_30 : decode cX7_tapeNumber 30 = .ok (.iconst 1, 1) := by decide +kernel
theorem dX7_tapeNumber_31 : decode cX7_tapeNumber 31 = .ok (.iadd, 1) := by decide +kernel
theorem dX7_tapeNumber_32 : decode cX7_tapeNumber 32 = .ok (.putfield 15, 3) := by decide +kernel
theorem dX7_tapeNumber_35 : decode cX7_tapeNumber 35 = .ok (.iinc 2 (-8), 3) := by decide +kernel
theorem dX7_tapeNumber_38 : decode cX7_tapeNumber 38 = .ok (.goto (-35), 3) := by decide +kernel
theorem dX7_tapeNumber_41 : decode cX7_tapeNumber 41 = .ok (.return_, 1) := by decide +kernel
theorem dX7_split_0 : decode cX7_split 0 = .ok (.aload_n 0, 1) := by decide +kernel
theorem dX7_split_1 : decode cX7_split 1 = .ok (.iconst 0, 1) := by decide +kernel
theorem dX7_split_2 : decode cX7_split 2 = .ok (.putfield 19, 3) := by decide +kernel
theorem dX7_split_5 : decode cX7_split 5 = .ok (.aload_n 0, 1) := by decide +kernel
theorem dX7_split_6 : decode cX7_split 6 = .ok (.iconst 0, 1) := by decide +kernel
theorem dX7_split_7 : decode cX7_split 7 = .ok (.putfield 15, 3) := by decide +kernel
theorem dX7_split_10 : decode cX7_split 10 = .ok (.iconst 0, 1) := by decide +kernel
theorem dX7_split_11 : decode cX7_split 11 = .ok (.istore_n 2, 1) := by decide +kernel
theorem dX7_split_12 : decode cX7_split 12 = .ok (.iconst 0, 1) := by decide +kernel
theorem dX7_split_13 : decode cX7_split 13 = .ok (.istore_n 3, 1) := by decide +kernel
theorem dX7_split_14 : decode cX7_split 14 = .ok (.iload_n 3, 1) := by decide +kernel
theorem dX7_split_15 : decode cX7_split 15 = .ok (.iload_n 1, 1) := by decide +kernel
theorem dX7_split_16 : decode cX7_split 16 = .ok (.if_icmp .ge 58, 3) := by decide +kernel
theorem dX7_split_19 : decode cX7_split 19 = .ok (.iload_n 2, 1) := by decide +kernel
theorem dX7_split_20 : decode cX7_split 20 = .ok (.iload_n 1, 1) := by decide +kernel
theorem dX7_split_21 : decode cX7_split 21 = .ok (.if_icmp .ge 53, 3) := by decide +kernel
theorem dX7_split_24 : decode cX7_split 24 = .ok (.aload_n 0, 1) := by decide +kernel
theorem dX7_split_25 : decode cX7_split 25 = .ok (.iload_n 2, 1) := by decide +kernel
theorem dX7_split_26 : decode cX7_split 26 = .ok (.iload_n 1, 1) := by decide +kernel
theorem dX7_split_27 : decode cX7_split 27 = .ok (.invokevirtual 35, 3) := by decide +kernel
theorem dX7_split_30 : decode cX7_split 30 = .ok (.istore 4, 2) := by decide +kernel
theorem dX7_split_32 : decode cX7_split 32 = .ok (.aload_n 0, 1) := by decide +kernel
theorem dX7_split_33 : decode cX7_split 33 = .ok (.getfield 9, 3) := by decide +kernel
theorem dX7_split_36 : decode cX7_split 36 = .ok (.iload_n 2, 1) := by decide +kernel
theorem dX7_split_37 : decode cX7_split 37 = .ok (.invokestatic 39, 3) := by decide +kernel
theorem dX7_split_40 : decode cX7_split 40 = .ok (.invokestatic 43, 3) := by decide +kernel
theorem dX7_split_43 : decode cX7_split 43 = .ok (.ifCond .ne 22, 3) := by decide +kernel
theorem dX7_split_46 : decode cX7_split 46 = .ok (.aload_n 0, 1) := by decide +kernel
theorem dX7_split_47 : decode cX7_split 47 = .ok (.aload_n 0, 1) := by decide +kernel
theorem dX7_split_48 : decode cX7_split 48 = .ok (.iload_n 2, 1) := by decide +kernel
theorem dX7_split_49 : decode cX7_split 49 = .ok (.iload 4, 2) := by decide +kernel
theorem dX7_split_51 : decode cX7_split 51 = .ok (.invokevirtual 47, 3) := by decide +kernel
theorem dX7_split_54 : decode cX7_split 54 = .ok (.iload_n 2, 1) := by decide +kernel
theorem dX7_split_55 : decode cX7_split 55 = .ok (.aload_n 0, 1) := by decide +kernel
theorem dX7_split_56 : decode cX7_split 56 = .ok (.iload_n 2, 1) := by decide +kernel
theorem dX7_split_57 : decode cX7_split 57 = .ok (.iload 4, 2) := by decide +kernel
theorem dX7_split_59 : decode cX7_split 59 = .ok (.invokevirtual 50, 3) := by decide +kernel
theorem dX7_split_62 : decode cX7_split 62 = .ok (.invokevirtual 53, 3) := by decide +kernel
theorem dX7_split_65 : decode cX7_split 65 = .ok (.iload 4, 2) := by decide +kernel
theorem dX7_split_67 : decode cX7_split 67 = .ok (.istore_n 2, 1) := by decide +kernel
theorem dX7_split_68 : decode cX7_split 68 = .ok (.iinc 3 1, 3) := by decide +kernel
theorem dX7_split_71 : decode cX7_split 71 = .ok (.goto (-57), 3) := by decide +kernel
theorem dX7_split_74 : decode cX7_split 74 = .ok (.aload_n 0, 1) := by decide +kernel
theorem dX7_split_75 : decode cX7_split 75 = .ok (.iconst 0, 1) := by decide +kernel
theorem dX7_split_76 : decode cX7_split 76 = .ok (.iload_n 1, 1) := by decide +kernel
theorem dX7_split_77 : decode cX7_split 77 = .ok (.iconst 0, 1) := by decide +kernel
theorem dX7_split_78 : decode cX7_split 78 = .ok (.invokevirtual 53, 3) := by decide +kernel
theorem dX7_split_81 : decode cX7_split 81 = .ok (.return_, 1) := by decide +kernel
theorem dX7_add_0 : decode cX7_add 0 = .ok (.aload_n 0, 1) := by decide +kernel
theorem dX7_add_1 : decode cX7_add 1 = .ok (.getfield 22, 3) := by decide +kernel
theorem dX7_add_4 : decode cX7_add 4 = .ok (.aload_n 0, 1) := by decide +kernel
theorem dX7_add_5 : decode cX7_add 5 = .ok (.getfield 19, 3) := by decide +kernel
theorem dX7_add_8 : decode cX7_add 8 = .ok (.iload_n 1, 1) := by decide +kernel
theorem dX7_add_9 : decode cX7_add 9 = .ok (.invokestatic 31, 3) := by decide +kernel
theorem dX7_add_12 : decode cX7_add 12 = .ok (.aload_n 0, 1) := by decide +kernel
theorem dX7_add_13 : decode cX7_add 13 = .ok (.getfield 25, 3) := by decide +kernel
theorem dX7_add_16 : decode cX7_add 16 = .ok (.aload_n 0, 1) := by decide +kernel
theorem dX7_add_17 : decode cX7_add 17 = .ok (.getfield 19, 3) := by decide +kernel
theorem dX7_add_20 : decode cX7_add 20 = .ok (.iload_n 2, 1) := by decide +kernel
theorem dX7_add_21 : decode cX7_add 21 = .ok (.invokestatic 31, 3) := by decide +kernel
theorem dX7_add_24 : decode cX7_add 24 = .ok (.aload_n 0, 1) := by decide +kernel
theorem dX7_add_25 : decode cX7_add 25 = .ok (.getfield 28, 3) := by decide +kernel
theorem dX7_add_28 : decode cX7_add 28 = .ok (.aload_n 0, 1) := by decide +kernel
theorem dX7_add_29 : decode cX7_add 29 = .ok (.getfield 19, 3) := by decide +kernel
theorem dX7_add_32 : decode cX7_add 32 = .ok (.iload_n 3, 1) := by decide +kernel
theorem dX7_add_33 : decode cX7_add 33 = .ok (.invokestatic 31, 3) := by decide +kernel
theorem dX7_add_36 : decode cX7_add 36 = .ok (.aload_n 0, 1) := by decide +kernel
theorem dX7_add_37 : decode cX7_add 37 = .ok (.dup, 1) := by decide +kernel
theorem dX7_add_38 : decode cX7_add 38 = .ok (.getfield 19, 3) := by decide +kernel
theorem dX7_add_41 : decode cX7_add 41 = .ok (.iconst 1, 1) := by decide +kernel
theorem dX7_add_42 : decode cX7_add 42 = .ok (.iadd, 1) := by decide +kernel
theorem dX7_add_43 : decode cX7_add 43 = .ok (.putfield 19, 3) := by decide +kernel
theorem dX7_add_46 : decode cX7_add 46 = .ok (.return_, 1) := by decide +kernel
theorem dX7_endOf_0 : decode cX7_endOf 0 = .ok (.aload_n 0, 1) := by decide +kernel
theorem dX7_endOf_1 : decode cX7_endOf 1 = .ok (.getfield 9, 3) := by decide +kernel
theorem dX7_endOf_4 : decode cX7_endOf 4 = .ok (.iload_n 1, 1) := by decide +kernel
theorem dX7_endOf_5 : decode cX7_endOf 5 = .ok (.invokestatic 39, 3) := by decide +kernel
theorem dX7_endOf_8 : decode cX7_endOf 8 = .ok (.invokestatic 57, 3) := by decide +kernel
theorem dX7_endOf_11 : decode cX7_endOf 11 = .ok (.istore_n 3, 1) := by decide +kernel
theorem dX7_endOf_12 : decode cX7_endOf 12 = .ok (.aload_n 0, 1) := by decide +kernel
theorem dX7_endOf_13 : decode cX7_endOf 13 = .ok (.getfield 9, 3) := by decide +kernel
theorem dX7_endOf_16 : decode cX7_endOf 16 = .ok (.iload_n 1, 1) := by decide +kernel
theorem dX7_endOf_17 : decode cX7_endOf 17 = .ok (.invokestatic 39, 3) := by decide +kernel
theorem dX7_endOf_20 : decode cX7_endOf 20 = .ok (.invokestatic 60, 3) := by decide +kernel
theorem dX7_endOf_23 : decode cX7_endOf 23 = .ok (.istore 4, 2) := by decide +kernel
theorem dX7_endOf_25 : decode cX7_endOf 25 = .ok (.iload_n 1, 1) := by decide +kernel
theorem dX7_endOf_26 : decode cX7_endOf 26 = .ok (.iconst 1, 1) := by decide +kernel
theorem dX7_endOf_27 : decode cX7_endOf 27 = .ok (.iadd, 1) := by decide +kernel
theorem dX7_endOf_28 : decode cX7_endOf 28 = .ok (.istore 5, 2) := by decide +kernel
theorem dX7_endOf_30 : decode cX7_endOf 30 = .ok (.iload 5, 2) := by decide +kernel
theorem dX7_endOf_32 : decode cX7_endOf 32 = .ok (.iload_n 2, 1) := by decide +kernel
theorem dX7_endOf_33 : decode cX7_endOf 33 = .ok (.if_icmp .ge 48, 3) := by decide +kernel
theorem dX7_endOf_36 : decode cX7_endOf 36 = .ok (.iload_n 3, 1) := by decide +kernel
theorem dX7_endOf_37 : decode cX7_endOf 37 = .ok (.ifCond .eq 18, 3) := by decide +kernel
theorem dX7_endOf_40 : decode cX7_endOf 40 = .ok (.aload_n 0, 1) := by decide +kernel
theorem dX7_endOf_41 : decode cX7_endOf 41 = .ok (.getfield 9, 3) := by decide +kernel
theorem dX7_endOf_44 : decode cX7_endOf 44 = .ok (.iload 5, 2) := by decide +kernel
theorem dX7_endOf_46 : decode cX7_endOf 46 = .ok (.invokestatic 39, 3) := by decide +kernel
theorem dX7_endOf_49 : decode cX7_endOf 49 = .ok (.invokestatic 57, 3) := by decide +kernel
theorem dX7_endOf_52 : decode cX7_endOf 52 = .ok (.ifCond .ne 23, 3) := by decide +kernel
theorem dX7_endOf_55 : decode cX7_endOf 55 = .ok (.iload 4, 2) := by decide +kernel
theorem dX7_endOf_57 : decode cX7_endOf 57 = .ok (.ifCond .eq 24, 3) := by decide +kernel
theorem dX7_endOf_60 : decode cX7_endOf 60 = .ok (.aload_n 0, 1) := by decide +kernel
theorem dX7_endOf_61 : decode cX7_endOf 61 = .ok (.getfield 9, 3) := by decide +kernel
theorem dX7_endOf_64 : decode cX7_endOf 64 = .ok (.iload 5, 2) := by decide +kernel
theorem dX7_endOf_66 : decode cX7_endOf 66 = .ok (.invokestatic 39, 3) := by decide +kernel
theorem dX7_endOf_69 : decode cX7_endOf 69 = .ok (.invokestatic 60, 3) := by decide +kernel
theorem dX7_endOf_72 : decode cX7_endOf 72 = .ok (.ifCond .eq 9, 3) := by decide +kernel
theorem dX7_endOf_75 : decode cX7_endOf 75 = .ok (.iinc 5 1, 3) := by decide +kernel
theorem dX7_endOf_78 : decode cX7_endOf 78 = .ok (.goto (-48), 3) := by decide +kernel
theorem dX7_endOf_81 : decode cX7_endOf 81 = .ok (.iload 5, 2) := by decide +kernel
theorem dX7_endOf_83 : decode cX7_endOf 83 = .ok (.ireturn, 1) := by decide +kernel
theorem dX7_numberOf_0 : decode cX7_numberOf 0 = .ok (.iload_n 2, 1) := by decide +kernel
theorem dX7_numberOf_1 : decode cX7_numberOf 1 = .ok (.iload_n 1, 1) := by decide +kernel
theorem dX7_numberOf_2 : decode cX7_numberOf 2 = .ok (.isub, 1) := by decide +kernel
theorem dX7_numberOf_3 : decode cX7_numberOf 3 = .ok (.iconst 4, 1) := by decide +kernel
theorem dX7_numberOf_4 : decode cX7_numberOf 4 = .ok (.if_icmp .le 7, 3) := by decide +kernel
theorem dX7_numberOf_7 : decode cX7_numberOf 7 = .ok (.sipush 10000, 3) := by decide +kernel
theorem dX7_numberOf_10 : decode cX7_numberOf 10 = .ok (.ireturn, 1) := by decide +kernel
theorem dX7_numberOf_11 : decode cX7_numberOf 11 = .ok (.iconst 0, 1) := by decide +kernel
theorem dX7_numberOf_12 : decode cX7_numberOf 12 = .ok (.istore_n 3, 1) := by decide +kernel
theorem dX7_numberOf_13 : decode cX7_numberOf 13 = .ok (.iload_n 1, 1) := by decide +kernel
theorem dX7_numberOf_14 : decode cX7_numberOf 14 = .ok (.istore 4, 2) := by decide +kernel
theorem dX7_numberOf_16 : decode cX7_numberOf 16 = .ok (.iload 4, 2) := by decide +kernel
theorem dX7_numberOf_18 : decode cX7_numberOf 18 = .ok (.iload_n 2, 1) := by decide +kernel
theorem dX7_numberOf_19 : decode cX7_numberOf 19 = .ok (.if_icmp .ge 27, 3) := by decide +kernel
theorem dX7_numberOf_22 : decode cX7_numberOf 22 = .ok (.bipush 10, 2) := by decide +kernel
theorem dX7_numberOf_24 : decode cX7_numberOf 24 = .ok (.iload_n 3, 1) := by decide +kernel
theorem dX7_numberOf_25 : decode cX7_numberOf 25 = .ok (.imul, 1) := by decide +kernel
theorem dX7_numberOf_26 : decode cX7_numberOf 26 = .ok (.aload_n 0, 1) := by decide +kernel
theorem dX7_numberOf_27 : decode cX7_numberOf 27 = .ok (.getfield 9, 3) := by decide +kernel
theorem dX7_numberOf_30 : decode cX7_numberOf 30 = .ok (.iload 4, 2) := by decide +kernel
theorem dX7_numberOf_32 : decode cX7_numberOf 32 = .ok (.invokestatic 39, 3) := by decide +kernel
theorem dX7_numberOf_35 : decode cX7_numberOf 35 = .ok (.iadd, 1) := by decide +kernel
theorem dX7_numberOf_36 : decode cX7_numberOf 36 = .ok (.bipush 48, 2) := by decide +kernel
theorem dX7_numberOf_38 : decode cX7_numberOf 38 = .ok (.isub, 1) := by decide +kernel
theorem dX7_numberOf_39 : decode cX7_numberOf 39 = .ok (.istore_n 3, 1) := by decide +kernel
theorem dX7_numberOf_40 : decode cX7_numberOf 40 = .ok (.iinc 4 1, 3) := by decide +kernel
theorem dX7_numberOf_43 : decode cX7_numberOf 43 = .ok (.goto (-27), 3) := by decide +kernel
theorem dX7_numberOf_46 : decode cX7_numberOf 46 = .ok (.iload_n 3, 1) := by decide +kernel
theorem dX7_numberOf_47 : decode cX7_numberOf 47 = .ok (.ireturn, 1) := by decide +kernel
theorem dX7_kindOf_0 : decode cX7_kindOf 0 = .ok (.aload_n 0, 1) := by decide +kernel
theorem dX7_kindOf_1 : decode cX7_kindOf 1 = .ok (.getfield 9, 3) := by decide +kernel
theorem dX7_kindOf_4 : decode cX7_kindOf 4 = .ok (.iload_n 1, 1) := by decide +kernel
theorem dX7_kindOf_5 : decode cX7_kindOf 5 = .ok (.invokestatic 39, 3) := by decide +kernel
theorem dX7_kindOf_8 : decode cX7_kindOf 8 = .ok (.istore_n 3, 1) := by decide +kernel
theorem dX7_kindOf_9 : decode cX7_kindOf 9 = .ok (.iload_n 3, 1) := by decide +kernel
theorem dX7_kindOf_10 : decode cX7_kindOf 10 = .ok (.invokestatic 60, 3) := by decide +kernel
theorem dX7_kindOf_13 : decode cX7_kindOf 13 = .ok (.ifCond .eq 5, 3) := by decide +kernel
theorem dX7_kindOf_16 : decode cX7_kindOf 16 = .ok (.iconst 1, 1) := by decide +kernel
theorem dX7_kindOf_17 : decode cX7_kindOf 17 = .ok (.ireturn, 1) := by decide +kernel
theorem dX7_kindOf_18 : decode cX7_kindOf 18 = .ok (.iload_n 3, 1) := by decide +kernel
theorem dX7_kindOf_19 : decode cX7_kindOf 19 = .ok (.invokestatic 57, 3) := by decide +kernel
theorem dX7_kindOf_22 : decode cX7_kindOf 22 = .ok (.ifCond .ne 8, 3) := by decide +kernel
theorem dX7_kindOf_25 : decode cX7_kindOf 25 = .ok (.iload_n 3, 1) := by decide +kernel
theorem dX7_kindOf_26 : decode cX7_kindOf 26 = .ok (.invokestatic 63, 3) := by decide +kernel
theorem dX7_kindOf_29 : decode cX7_kindOf 29 = .ok (.ireturn, 1) := by decide +kernel
theorem dX7_kindOf_30 : decode cX7_kindOf 30 = .ok (.aload_n 0, 1) := by decide +kernel
theorem dX7_kindOf_31 : decode cX7_kindOf 31 = .ok (.iload_n 1, 1) := by decide +kernel
theorem dX7_kindOf_32 : decode cX7_kindOf 32 = .ok (.iload_n 2, 1) := by decide +kernel
theorem dX7_kindOf_33 : decode cX7_kindOf 33 = .ok (.invokevirtual 67, 3) := by decide +kernel
theorem dX7_kindOf_36 : decode cX7_kindOf 36 = .ok (.istore 4, 2) := by decide +kernel
theorem dX7_kindOf_38 : decode cX7_kindOf 38 = .ok (.iload 4, 2) := by decide +kernel
theorem dX7_kindOf_40 : decode cX7_kindOf 40 = .ok (.bipush 11, 2) := by decide +kernel
theorem dX7_kindOf_42 : decode cX7_kindOf 42 = .ok (.if_icmp .ne 12, 3) := by decide +kernel
theorem dX7_kindOf_45 : decode cX7_kindOf 45 = .ok (.aload_n 0, 1) := by decide +kernel
theorem dX7_kindOf_46 : decode cX7_kindOf 46 = .ok (.iload_n 1, 1) := by decide +kernel
theorem dX7_kindOf_47 : decode cX7_kindOf 47 = .ok (.iload_n 2, 1) := by decide +kernel
theorem dX7_kindOf_48 : decode cX7_kindOf 48 = .ok (.invokevirtual 70, 3) := by decide +kernel
theorem dX7_kindOf_51 : decode cX7_kindOf 51 = .ok (.goto 5, 3) := by decide +kernel
theorem dX7_kindOf_54 : decode cX7_kindOf 54 = .ok (.iload 4, 2) := by decide +kernel
theorem dX7_kindOf_56 : decode cX7_kindOf 56 = .ok (.ireturn, 1) := by decide +kernel
theorem dX7_kindOfSign_0 : decode cX7_kindOfSign 0 = .ok (.iload_n 0, 1) := by decide +kernel
theorem dX7_kindOfSign_1 : decode cX7_kindOfSign 1 = .ok (.tableswitch 127 40 61 #[105, 107, 115, 109, 127, 112, 127, 118, 127, 127, 127, 127, 127, 127, 127, 127, 127, 127, 127, 103, 121, 124], 103) := by decide +kernel
theorem dX7_kindOfSign_104 : decode cX7_kindOfSign 104 = .ok (.iconst 3, 1) := by decide +kernel
theorem dX7_kindOfSign_105 : decode cX7_kindOfSign 105 = .ok (.ireturn, 1) := by decide +kernel
theorem dX7_kindOfSign_106 : decode cX7_kindOfSign 106 = .ok (.iconst 4, 1) := by decide +kernel
theorem dX7_kindOfSign_107 : decode cX7_kindOfSign 107 = .ok (.ireturn, 1) := by decide +kernel
theorem dX7_kindOfSign_108 : decode cX7_kindOfSign 108 = .ok (.iconst 5, 1) := by decide +kernel
theorem dX7_kindOfSign_109 : decode cX7_kindOfSign 109 = .ok (.ireturn, 1) := by decide +kernel
theorem dX7_kindOfSign_110 : decode cX7_kindOfSign 110 = .ok (.bipush (-13), 2) := by decide +kernel
theorem dX7_kindOfSign_112 : decode cX7_kindOfSign 112 = .ok (.ireturn, 1) := by decide +kernel
theorem dX7_kindOfSign_113 : decode cX7_kindOfSign 113 = .ok (.bipush (-14), 2) := by decide +kernel
theorem dX7_kindOfSign_115 : decode cX7_kindOfSign 115 = .ok (.ireturn, 1) := by decide +kernel
theorem dX7_kindOfSign_116 : decode cX7_kindOfSign 116 = .ok (.bipush (-15), 2) := by decide +kernel
theorem dX7_kindOfSign_118 : decode cX7_kindOfSign 118 = .ok (.ireturn, 1) := by decide +kernel
theorem dX7_kindOfSign_119 : decode cX7_kindOfSign 119 = .ok (.bipush (-16), 2) := by decide +kernel
theorem dX7_kindOfSign_121 : decode cX7_kindOfSign 121 = .ok (.ireturn, 1) := by decide +kernel
theorem dX7_kindOfSign_122 : decode cX7_kindOfSign 122 = .ok (.bipush (-11), 2) := by decide +kernel
theorem dX7_kindOfSign_124 : decode cX7_kindOfSign 124 = .ok (.ireturn, 1) := by decide +kernel
theorem dX7_kindOfSign_125 : decode cX7_kindOfSign 125 = .ok (.bipush (-12), 2) := by decide +kernel
theorem dX7_kindOfSign_127 : decode cX7_kindOfSign 127 = .ok (.ireturn, 1) := by decide +kernel
theorem dX7_kindOfSign_128 : decode cX7_kindOfSign 128 = .ok (.iconst 2, 1) := by decide +kernel
theorem dX7_kindOfSign_129 : decode cX7_kindOfSign 129 = .ok (.ireturn, 1) := by decide +kernel
theorem dX7_kindOfValue_0 : decode cX7_kindOfValue 0 = .ok (.aload_n 0, 1) := by decide +kernel
theorem dX7_kindOfValue_1 : decode cX7_kindOfValue 1 = .ok (.iload_n 1, 1) := by decide +kernel
theorem dX7_kindOfValue_2 : decode cX7_kindOfValue 2 = .ok (.iload_n 2, 1) := by decide +kernel
theorem dX7_kindOfValue_3 : decode cX7_kindOfValue 3 = .ok (.ldc 73, 2) := by decide +kernel
theorem dX7_kindOfValue_5 : decode cX7_kindOfValue 5 = .ok (.invokevirtual 75, 3) := by decide +kernel
theorem dX7_kindOfValue_8 : decode cX7_kindOfValue 8 = .ok (.ifCond .eq 5, 3) := by decide +kernel
theorem dX7_kindOfValue_11 : decode cX7_kindOfValue 11 = .ok (.iconst (-1), 1) := by decide +kernel
theorem dX7_kindOfValue_12 : decode cX7_kindOfValue 12 = .ok (.ireturn, 1) := by decide +kernel
theorem dX7_kindOfValue_13 : decode cX7_kindOfValue 13 = .ok (.aload_n 0, 1) := by decide +kernel
theorem dX7_kindOfValue_14 : decode cX7_kindOfValue 14 = .ok (.iload_n 1, 1) := by decide +kernel
theorem dX7_kindOfValue_15 : decode cX7_kindOfValue 15 = .ok (.iload_n 2, 1) := by decide +kernel
theorem dX7_kindOfValue_16 : decode cX7_kindOfValue 16 = .ok (.ldc 79, 2) := by decide +kernel
theorem dX7_kindOfValue_18 : decode cX7_kindOfValue 18 = .ok (.invokevirtual 75, 3) := by decide +kernel
theorem dX7_kindOfValue_21 : decode cX7_kindOfValue 21 = .ok (.ifCond .eq 6, 3) := by decide +kernel
theorem dX7_kindOfValue_24 : decode cX7_kindOfValue 24 = .ok (.bipush (-2), 2) := by decide +kernel
theorem dX7_kindOfValue_26 : decode cX7_kindOfValue 26 = .ok (.ireturn, 1) := by decide +kernel
theorem dX7_kindOfValue_27 : decode cX7_kindOfValue 27 = .ok (.aload_n 0, 1) := by decide +kernel
theorem dX7_kindOfValue_28 : decode cX7_kindOfValue 28 = .ok (.iload_n 1, 1) := by decide +kernel
theorem dX7_kindOfValue_29 : decode cX7_kindOfValue 29 = .ok (.iload_n 2, 1) := by decide +kernel
theorem dX7_kindOfValue_30 : decode cX7_kindOfValue 30 = .ok (.ldc 81, 2) := by decide +kernel
theorem dX7_kindOfValue_32 : decode cX7_kindOfValue 32 = .ok (.invokevirtual 75, 3) := by decide +kernel
theorem dX7_kindOfValue_35 : decode cX7_kindOfValue 35 = .ok (.ifCond .eq 6, 3) := by decide +kernel
theorem dX7_kindOfValue_38 : decode cX7_kindOfValue 38 = .ok (.bipush (-3), 2) := by decide +kernel
theorem dX7_kindOfValue_40 : decode cX7_kindOfValue 40 = .ok (.ireturn, 1) := by decide +kernel
theorem dX7_kindOfValue_41 : decode cX7_kindOfValue 41 = .ok (.aload_n 0, 1) := by decide +kernel
theorem dX7_kindOfValue_42 : decode cX7_kindOfValue 42 = .ok (.iload_n 1, 1) := by decide +kernel
theorem dX7_kindOfValue_43 : decode cX7_kindOfValue 43 = .ok (.iload_n 2, 1) := by decide +kernel
theorem dX7_kindOfValue_44 : decode cX7_kindOfValue 44 = .ok (.ldc 83, 2) := by decide +kernel
theorem dX7_kindOfValue_46 : decode cX7_kindOfValue 46 = .ok (.invokevirtual 75, 3) := by decide +kernel
theorem dX7_kindOfValue_49 : decode cX7_kindOfValue 49 = .ok (.ifCond .eq 6, 3) := by decide +kernel
theorem dX7_kindOfValue_52 : decode cX7_kindOfValue 52 = .ok (.bipush (-4), 2) := by decide +kernel
theorem dX7_kindOfValue_54 : decode cX7_kindOfValue 54 = .ok (.ireturn, 1) := by decide +kernel
theorem dX7_kindOfValue_55 : decode cX7_kindOfValue 55 = .ok (.aload_n 0, 1) := by decide +kernel
theorem dX7_kindOfValue_56 : decode cX7_kindOfValue 56 = .ok (.iload_n 1, 1) := by decide +kernel
theorem dX7_kindOfValue_57 : decode cX7_kindOfValue 57 = .ok (.iload_n 2, 1) := by decide +kernel
theorem dX7_kindOfValue_58 : decode cX7_kindOfValue 58 = .ok (.ldc 85, 2) := by decide +kernel
theorem dX7_kindOfValue_60 : decode cX7_kindOfValue 60 = .ok (.invokevirtual 75, 3) := by decide +kernel
theorem dX7_kindOfValue_63 : decode cX7_kindOfValue 63 = .ok (.ifCond .eq 6, 3) := by decide +kernel
theorem dX7_kindOfValue_66 : decode cX7_kindOfValue 66 = .ok (.bipush (-5), 2) := by decide +kernel
theorem dX7_kindOfValue_68 : decode cX7_kindOfValue 68 = .ok (.ireturn, 1) := by decide +kernel
theorem dX7_kindOfValue_69 : decode cX7_kindOfValue 69 = .ok (.aload_n 0, 1) := by decide +kernel
theorem dX7_kindOfValue_70 : decode cX7_kindOfValue 70 = .ok (.iload_n 1, 1) := by decide +kernel
theorem dX7_kindOfValue_71 : decode cX7_kindOfValue 71 = .ok (.iload_n 2, 1) := by decide +kernel
theorem dX7_kindOfValue_72 : decode cX7_kindOfValue 72 = .ok (.ldc 87, 2) := by decide +kernel
theorem dX7_kindOfValue_74 : decode cX7_kindOfValue 74 = .ok (.invokevirtual 75, 3) := by decide +kernel
theorem dX7_kindOfValue_77 : decode cX7_kindOfValue 77 = .ok (.ifCond .eq 6, 3) := by decide +kernel
theorem dX7_kindOfValue_80 : decode cX7_kindOfValue 80 = .ok (.bipush (-6), 2) := by decide +kernel
theorem dX7_kindOfValue_82 : decode cX7_kindOfValue 82 = .ok (.ireturn, 1) := by decide +kernel
theorem dX7_kindOfValue_83 : decode cX7_kindOfValue 83 = .ok (.aload_n 0, 1) := by decide +kernel
theorem dX7_kindOfValue_84 : decode cX7_kindOfValue 84 = .ok (.iload_n 1, 1) := by decide +kernel
theorem dX7_kindOfValue_85 : decode cX7_kindOfValue 85 = .ok (.iload_n 2, 1) := by decide +kernel
theorem dX7_kindOfValue_86 : decode cX7_kindOfValue 86 = .ok (.ldc 89, 2) := by decide +kernel
theorem dX7_kindOfValue_88 : decode cX7_kindOfValue 88 = .ok (.invokevirtual 75, 3) := by decide +kernel
theorem dX7_kindOfValue_91 : decode cX7_kindOfValue 91 = .ok (.ifCond .eq 8, 3) := by decide +kernel
theorem dX7_kindOfValue_94 : decode cX7_kindOfValue 94 = .ok (.bipush (-7), 2) := by decide +kernel
theorem dX7_kindOfValue_96 : decode cX7_kindOfValue 96 = .ok (.goto 5, 3) := by decide +kernel
theorem dX7_kindOfValue_99 : decode cX7_kindOfValue 99 = .ok (.bipush 11, 2) := by decide +kernel
theorem dX7_kindOfValue_101 : decode cX7_kindOfValue 101 = .ok (.ireturn, 1) := by decide +kernel
theorem dX7_kindOfWord_0 : decode cX7_kindOfWord 0 = .ok (.aload_n 0, 1) := by decide +kernel
theorem dX7_kindOfWord_1 : decode cX7_kindOfWord 1 = .ok (.iload_n 1, 1) := by decide +kernel
theorem dX7_kindOfWord_2 : decode cX7_kindOfWord 2 = .ok (.iload_n 2, 1) := by decide +kernel
theorem dX7_kindOfWord_3 : decode cX7_kindOfWord 3 = .ok (.ldc 91, 2) := by decide +kernel
theorem dX7_kindOfWord_5 : decode cX7_kindOfWord 5 = .ok (.invokevirtual 75, 3) := by decide +kernel
theorem dX7_kindOfWord_8 : decode cX7_kindOfWord 8 = .ok (.ifCond .eq 6, 3) := by decide +kernel
theorem dX7_kindOfWord_11 : decode cX7_kindOfWord 11 = .ok (.bipush (-8), 2) := by decide +kernel
theorem dX7_kindOfWord_13 : decode cX7_kindOfWord 13 = .ok (.ireturn, 1) := by decide +kernel
theorem dX7_kindOfWord_14 : decode cX7_kindOfWord 14 = .ok (.aload_n 0, 1) := by decide +kernel
theorem dX7_kindOfWord_15 : decode cX7_kindOfWord 15 = .ok (.iload_n 1, 1) := by decide +kernel
theorem dX7_kindOfWord_16 : decode cX7_kindOfWord 16 = .ok (.iload_n 2, 1) := by decide +kernel
theorem dX7_kindOfWord_17 : decode cX7_kindOfWord 17 = .ok (.ldc 93, 2) := by decide +kernel
theorem dX7_kindOfWord_19 : decode cX7_kindOfWord 19 = .ok (.invokevirtual 75, 3) := by decide +kernel
theorem dX7_kindOfWord_22 : decode cX7_kindOfWord 22 = .ok (.ifCond .eq 6, 3) := by decide +kernel
theorem dX7_kindOfWord_25 : decode cX7_kindOfWord 25 = .ok (.bipush (-9), 2) := by decide +kernel
theorem dX7_kindOfWord_27 : decode cX7_kindOfWord 27 = .ok (.ireturn, 1) := by decide +kernel
theorem dX7_kindOfWord_28 : decode cX7_kindOfWord 28 = .ok (.aload_n 0, 1) := by decide +kernel
theorem dX7_kindOfWord_29 : decode cX7_kindOfWord 29 = .ok (.iload_n 1, 1) := by decide +kernel
theorem dX7_kindOfWord_30 : decode cX7_kindOfWord 30 = .ok (.iload_n 2, 1) := by decide +kernel
theorem dX7_kindOfWord_31 : decode cX7_kindOfWord 31 = .ok (.ldc 95, 2) := by decide +kernel
theorem dX7_kindOfWord_33 : decode cX7_kindOfWord 33 = .ok (.invokevirtual 75, 3) := by decide +kernel
theorem dX7_kindOfWord_36 : decode cX7_kindOfWord 36 = .ok (.ifCond .eq 6, 3) := by decide +kernel
theorem dX7_kindOfWord_39 : decode cX7_kindOfWord 39 = .ok (.bipush (-10), 2) := by decide +kernel
theorem dX7_kindOfWord_41 : decode cX7_kindOfWord 41 = .ok (.ireturn, 1) := by decide +kernel
theorem dX7_kindOfWord_42 : decode cX7_kindOfWord 42 = .ok (.aload_n 0, 1) := by decide +kernel
theorem dX7_kindOfWord_43 : decode cX7_kindOfWord 43 = .ok (.iload_n 1, 1) := by decide +kernel
theorem dX7_kindOfWord_44 : decode cX7_kindOfWord 44 = .ok (.iload_n 2, 1) := by decide +kernel
theorem dX7_kindOfWord_45 : decode cX7_kindOfWord 45 = .ok (.ldc 97, 2) := by decide +kernel
theorem dX7_kindOfWord_47 : decode cX7_kindOfWord 47 = .ok (.invokevirtual 75, 3) := by decide +kernel
theorem dX7_kindOfWord_50 : decode cX7_kindOfWord 50 = .ok (.ifCond .eq 6, 3) := by decide +kernel
theorem dX7_kindOfWord_53 : decode cX7_kindOfWord 53 = .ok (.bipush 6, 2) := by decide +kernel
theorem dX7_kindOfWord_55 : decode cX7_kindOfWord 55 = .ok (.ireturn, 1) := by decide +kernel
theorem dX7_kindOfWord_56 : decode cX7_kindOfWord 56 = .ok (.aload_n 0, 1) := by decide +kernel
theorem dX7_kindOfWord_57 : decode cX7_kindOfWord 57 = .ok (.iload_n 1, 1) := by decide +kernel
theorem dX7_kindOfWord_58 : decode cX7_kindOfWord 58 = .ok (.iload_n 2, 1) := by decide +kernel
theorem dX7_kindOfWord_59 : decode cX7_kindOfWord 59 = .ok (.ldc 99, 2) := by decide +kernel
theorem dX7_kindOfWord_61 : decode cX7_kindOfWord 61 = .ok (.invokevirtual 75, 3) := by decide +kernel
theorem dX7_kindOfWord_64 : decode cX7_kindOfWord 64 = .ok (.ifCond .eq 6, 3) := by decide +kernel
theorem dX7_kindOfWord_67 : decode cX7_kindOfWord 67 = .ok (.bipush 7, 2) := by decide +kernel
theorem dX7_kindOfWord_69 : decode cX7_kindOfWord 69 = .ok (.ireturn, 1) := by decide +kernel
theorem dX7_kindOfWord_70 : decode cX7_kindOfWord 70 = .ok (.aload_n 0, 1) := by decide +kernel
theorem dX7_kindOfWord_71 : decode cX7_kindOfWord 71 = .ok (.iload_n 1, 1) := by decide +kernel
theorem dX7_kindOfWord_72 : decode cX7_kindOfWord 72 = .ok (.iload_n 2, 1) := by decide +kernel
theorem dX7_kindOfWord_73 : decode cX7_kindOfWord 73 = .ok (.ldc 101, 2) := by decide +kernel
theorem dX7_kindOfWord_75 : decode cX7_kindOfWord 75 = .ok (.invokevirtual 75, 3) := by decide +kernel
theorem dX7_kindOfWord_78 : decode cX7_kindOfWord 78 = .ok (.ifCond .eq 6, 3) := by decide +kernel
theorem dX7_kindOfWord_81 : decode cX7_kindOfWord 81 = .ok (.bipush 8, 2) := by decide +kernel
theorem dX7_kindOfWord_83 : decode cX7_kindOfWord 83 = .ok (.ireturn, 1) := by decide +kernel
theorem dX7_kindOfWord_84 : decode cX7_kindOfWord 84 = .ok (.aload_n 0, 1) := by decide +kernel
theorem dX7_kindOfWord_85 : decode cX7_kindOfWord 85 = .ok (.iload_n 1, 1) := by decide +kernel
theorem dX7_kindOfWord_86 : decode cX7_kindOfWord 86 = .ok (.iload_n 2, 1) := by decide +kernel
theorem dX7_kindOfWord_87 : decode cX7_kindOfWord 87 = .ok (.ldc 103, 2) := by decide +kernel
theorem dX7_kindOfWord_89 : decode cX7_kindOfWord 89 = .ok (.invokevirtual 75, 3) := by decide +kernel
theorem dX7_kindOfWord_92 : decode cX7_kindOfWord 92 = .ok (.ifCond .eq 6, 3) := by decide +kernel
theorem dX7_kindOfWord_95 : decode cX7_kindOfWord 95 = .ok (.bipush 9, 2) := by decide +kernel
theorem dX7_kindOfWord_97 : decode cX7_kindOfWord 97 = .ok (.ireturn, 1) := by decide +kernel
theorem dX7_kindOfWord_98 : decode cX7_kindOfWord 98 = .ok (.aload_n 0, 1) := by decide +kernel
theorem dX7_kindOfWord_99 : decode cX7_kindOfWord 99 = .ok (.iload_n 1, 1) := by decide +kernel
theorem dX7_kindOfWord_100 : decode cX7_kindOfWord 100 = .ok (.iload_n 2, 1) := by decide +kernel
theorem dX7_kindOfWord_101 : decode cX7_kindOfWord 101 = .ok (.ldc 105, 2) := by decide +kernel
theorem dX7_kindOfWord_103 : decode cX7_kindOfWord 103 = .ok (.invokevirtual 75, 3) := by decide +kernel
theorem dX7_kindOfWord_106 : decode cX7_kindOfWord 106 = .ok (.ifCond .eq 8, 3) := by decide +kernel
theorem dX7_kindOfWord_109 : decode cX7_kindOfWord 109 = .ok (.bipush 10, 2) := by decide +kernel
theorem dX7_kindOfWord_111 : decode cX7_kindOfWord 111 = .ok (.goto 5, 3) := by decide +kernel
theorem dX7_kindOfWord_114 : decode cX7_kindOfWord 114 = .ok (.bipush 11, 2) := by decide +kernel
theorem dX7_kindOfWord_116 : decode cX7_kindOfWord 116 = .ok (.ireturn, 1) := by decide +kernel
theorem dX7_isWord_0 : decode cX7_isWord 0 = .ok (.iload_n 2, 1) := by decide +kernel
theorem dX7_isWord_1 : decode cX7_isWord 1 = .ok (.iload_n 1, 1) := by decide +kernel
theorem dX7_isWord_2 : decode cX7_isWord 2 = .ok (.isub, 1) := by decide +kernel
theorem dX7_isWord_3 : decode cX7_isWord 3 = .ok (.aload_n 3, 1) := by decide +kernel
theorem dX7_isWord_4 : decode cX7_isWord 4 = .ok (.invokevirtual 107, 3) := by decide +kernel
theorem dX7_isWord_7 : decode cX7_isWord 7 = .ok (.if_icmp .eq 5, 3) := by decide +kernel
theorem dX7_isWord_10 : decode cX7_isWord 10 = .ok (.iconst 0, 1) := by decide +kernel
theorem dX7_isWord_11 : decode cX7_isWord 11 = .ok (.ireturn, 1) := by decide +kernel
theorem dX7_isWord_12 : decode cX7_isWord 12 = .ok (.iconst 0, 1) := by decide +kernel
theorem dX7_isWord_13 : decode cX7_isWord 13 = .ok (.istore 4, 2) := by decide +kernel
theorem dX7_isWord_15 : decode cX7_isWord 15 = .ok (.iload 4, 2) := by decide +kernel
theorem dX7_isWord_17 : decode cX7_isWord 17 = .ok (.aload_n 3, 1) := by decide +kernel
theorem dX7_isWord_18 : decode cX7_isWord 18 = .ok (.invokevirtual 107, 3) := by decide +kernel
theorem dX7_isWord_21 : decode cX7_isWord 21 = .ok (.if_icmp .ge 31, 3) := by decide +kernel
theorem dX7_isWord_24 : decode cX7_isWord 24 = .ok (.aload_n 0, 1) := by decide +kernel
theorem dX7_isWord_25 : decode cX7_isWord 25 = .ok (.getfield 9, 3) := by decide +kernel
theorem dX7_isWord_28 : decode cX7_isWord 28 = .ok (.iload_n 1, 1) := by decide +kernel
theorem dX7_isWord_29 : decode cX7_isWord 29 = .ok (.iload 4, 2) := by decide +kernel
theorem dX7_isWord_31 : decode cX7_isWord 31 = .ok (.iadd, 1) := by decide +kernel
theorem dX7_isWord_32 : decode cX7_isWord 32 = .ok (.invokestatic 39, 3) := by decide +kernel
theorem dX7_isWord_35 : decode cX7_isWord 35 = .ok (.aload_n 3, 1) := by decide +kernel
theorem dX7_isWord_36 : decode cX7_isWord 36 = .ok (.iload 4, 2) := by decide +kernel
theorem dX7_isWord_38 : decode cX7_isWord 38 = .ok (.invokevirtual 113, 3) := by decide +kernel
theorem dX7_isWord_41 : decode cX7_isWord 41 = .ok (.if_icmp .eq 5, 3) := by decide +kernel
theorem dX7_isWord_44 : decode cX7_isWord 44 = .ok (.iconst 0, 1) := by decide +kernel
theorem dX7_isWord_45 : decode cX7_isWord 45 = .ok (.ireturn, 1) := by decide +kernel
theorem dX7_isWord_46 : decode cX7_isWord 46 = .ok (.iinc 4 1, 3) := by decide +kernel
theorem dX7_isWord_49 : decode cX7_isWord 49 = .ok (.goto (-34), 3) := by decide +kernel
theorem dX7_isWord_52 : decode cX7_isWord 52 = .ok (.iconst 1, 1) := by decide +kernel
theorem dX7_isWord_53 : decode cX7_isWord 53 = .ok (.ireturn, 1) := by decide +kernel
theorem dX7_isBlank_0 : decode cX7_isBlank 0 = .ok (.iload_n 0, 1) := by decide +kernel
theorem dX7_isBlank_1 : decode cX7_isBlank 1 = .ok (.bipush 32, 2) := by decide +kernel
theorem dX7_isBlank_3 : decode cX7_isBlank 3 = .ok (.if_icmp .eq 9, 3) := by decide +kernel
theorem dX7_isBlank_6 : decode cX7_isBlank 6 = .ok (.iload_n 0, 1) := by decide +kernel
theorem dX7_isBlank_7 : decode cX7_isBlank 7 = .ok (.bipush 10, 2) := by decide +kernel
theorem dX7_isBlank_9 : decode cX7_isBlank 9 = .ok (.if_icmp .ne 7, 3) := by decide +kernel
theorem dX7_isBlank_12 : decode cX7_isBlank 12 = .ok (.iconst 1, 1) := by decide +kernel
theorem dX7_isBlank_13 : decode cX7_isBlank 13 = .ok (.goto 4, 3) := by decide +kernel
theorem dX7_isBlank_16 : decode cX7_isBlank 16 = .ok (.iconst 0, 1) := by decide +kernel
theorem dX7_isBlank_17 : decode cX7_isBlank 17 = .ok (.ireturn, 1) := by decide +kernel
theorem dX7_isLetter_0 : decode cX7_isLetter 0 = .ok (.iload_n 0, 1) := by decide +kernel
theorem dX7_isLetter_1 : decode cX7_isLetter 1 = .ok (.bipush 97, 2) := by decide +kernel
theorem dX7_isLetter_3 : decode cX7_isLetter 3 = .ok (.if_icmp .lt 13, 3) := by decide +kernel
theorem dX7_isLetter_6 : decode cX7_isLetter 6 = .ok (.iload_n 0, 1) := by decide +kernel
theorem dX7_isLetter_7 : decode cX7_isLetter 7 = .ok (.bipush 122, 2) := by decide +kernel
theorem dX7_isLetter_9 : decode cX7_isLetter 9 = .ok (.if_icmp .gt 7, 3) := by decide +kernel
theorem dX7_isLetter_12 : decode cX7_isLetter 12 = .ok (.iconst 1, 1) := by decide +kernel
theorem dX7_isLetter_13 : decode cX7_isLetter 13 = .ok (.goto 4, 3) := by decide +kernel
theorem dX7_isLetter_16 : decode cX7_isLetter 16 = .ok (.iconst 0, 1) := by decide +kernel
theorem dX7_isLetter_17 : decode cX7_isLetter 17 = .ok (.ireturn, 1) := by decide +kernel
theorem dX7_isDigit_0 : decode cX7_isDigit 0 = .ok (.iload_n 0, 1) := by decide +kernel
theorem dX7_isDigit_1 : decode cX7_isDigit 1 = .ok (.bipush 48, 2) := by decide +kernel
theorem dX7_isDigit_3 : decode cX7_isDigit 3 = .ok (.if_icmp .lt 13, 3) := by decide +kernel
theorem dX7_isDigit_6 : decode cX7_isDigit 6 = .ok (.iload_n 0, 1) := by decide +kernel
theorem dX7_isDigit_7 : decode cX7_isDigit 7 = .ok (.bipush 57, 2) := by decide +kernel
theorem dX7_isDigit_9 : decode cX7_isDigit 9 = .ok (.if_icmp .gt 7, 3) := by decide +kernel
theorem dX7_isDigit_12 : decode cX7_isDigit 12 = .ok (.iconst 1, 1) := by decide +kernel
theorem dX7_isDigit_13 : decode cX7_isDigit 13 = .ok (.goto 4, 3) := by decide +kernel
theorem dX7_isDigit_16 : decode cX7_isDigit 16 = .ok (.iconst 0, 1) := by decide +kernel
theorem dX7_isDigit_17 : decode cX7_isDigit 17 = .ok (.ireturn, 1) := by decide +kernel
theorem dX10_init_0 : decode cX10_init 0 = .ok (.aload_n 0, 1) := by decide +kernel
theorem dX10_init_1 : decode cX10_init 1 = .ok (.invokespecial 1, 3) := by decide +kernel
theorem dX10_init_4 : decode cX10_init 4 = .ok (.aload_n 0, 1) := by decide +kernel
theorem dX10_init_5 : decode cX10_init 5 = .ok (.new 7, 3) := by decide +kernel
theorem dX10_init_8 : decode cX10_init 8 = .ok (.dup, 1) := by decide +kernel
theorem dX10_init_9 : decode cX10_init 9 = .ok (.invokespecial 9, 3) := by decide +kernel
theorem dX10_init_12 : decode cX10_init 12 = .ok (.putfield 10, 3) := by decide +kernel
theorem dX10_init_15 : decode cX10_init 15 = .ok (.aload_n 0, 1) := by decide +kernel
theorem dX10_init_16 : decode cX10_init 16 = .ok (.new 16, 3) := by decide +kernel
theorem dX10_init_19 : decode cX10_init 19 = .ok (.dup, 1) := by decide +kernel
theorem dX10_init_20 : decode cX10_init 20 = .ok (.invokespecial 18, 3) := by decide +kernel
theorem dX10_init_23 : decode cX10_init 23 = .ok (.putfield 19, 3) := by decide +kernel
theorem dX10_init_26 : decode cX10_init 26 = .ok (.aload_n 0, 1) := by decide +kernel
theorem dX10_init_27 : decode cX10_init 27 = .ok (.new 16, 3) := by decide +kernel
theorem dX10_init_30 : decode cX10_init 30 = .ok (.dup, 1) := by decide +kernel
theorem dX10_init_31 : decode cX10_init 31 = .ok (.invokespecial 18, 3) := by decide +kernel
theorem dX10_init_34 : decode cX10_init 34 = .ok (.putfield 23, 3) := by decide +kernel
theorem dX10_init_37 : decode cX10_init 37 = .ok (.aload_n 0, 1) := by decide +kernel
theorem dX10_init_38 : decode cX10_init 38 = .ok (.new 26, 3) := by decide +kernel
theorem dX10_init_41 : decode cX10_init 41 = .ok (.dup, 1) := by decide +kernel
theorem dX10_init_42 : decode cX10_init 42 = .ok (.invokespecial 28, 3) := by decide +kernel
theorem dX10_init_45 : decode cX10_init 45 = .ok (.putfield 29, 3) := by decide +kernel
theorem dX10_init_48 : decode cX10_init 48 = .ok (.aload_n 0, 1) := by decide +kernel
theorem dX10_init_49 : decode cX10_init 49 = .ok (.new 33, 3) := by decide +kernel
theorem dX10_init_52 : decode cX10_init 52 = .ok (.dup, 1) := by decide +kernel
theorem dX10_init_53 : decode cX10_init 53 = .ok (.invokespecial 35, 3) := by decide +kernel
theorem dX10_init_56 : decode cX10_init 56 = .ok (.putfield 36, 3) := by decide +kernel
theorem dX10_init_59 : decode cX10_init 59 = .ok (.aload_n 0, 1) := by decide +kernel
theorem dX10_init_60 : decode cX10_init 60 = .ok (.new 40, 3) := by decide +kernel
theorem dX10_init_63 : decode cX10_init 63 = .ok (.dup, 1) := by decide +kernel
theorem dX10_init_64 : decode cX10_init 64 = .ok (.invokespecial 42, 3) := by decide +kernel
theorem dX10_init_67 : decode cX10_init 67 = .ok (.putfield 43, 3) := by decide +kernel
theorem dX10_init_70 : decode cX10_init 70 = .ok (.aload_n 0, 1) := by decide +kernel
theorem dX10_init_71 : decode cX10_init 71 = .ok (.new 47, 3) := by decide +kernel
theorem dX10_init_74 : decode cX10_init 74 = .ok (.dup, 1) := by decide +kernel
theorem dX10_init_75 : decode cX10_init 75 = .ok (.invokespecial 49, 3) := by decide +kernel
theorem dX10_init_78 : decode cX10_init 78 = .ok (.putfield 50, 3) := by decide +kernel
theorem dX10_init_81 : decode cX10_init 81 = .ok (.aload_n 0, 1) := by decide +kernel
theorem dX10_init_82 : decode cX10_init 82 = .ok (.new 54, 3) := by decide +kernel
theorem dX10_init_85 : decode cX10_init 85 = .ok (.dup, 1) := by decide +kernel
theorem dX10_init_86 : decode cX10_init 86 = .ok (.invokespecial 56, 3) := by decide +kernel
theorem dX10_init_89 : decode cX10_init 89 = .ok (.putfield 57, 3) := by decide +kernel
theorem dX10_init_92 : decode cX10_init 92 = .ok (.aload_n 0, 1) := by decide +kernel
theorem dX10_init_93 : decode cX10_init 93 = .ok (.new 61, 3) := by decide +kernel
theorem dX10_init_96 : decode cX10_init 96 = .ok (.dup, 1) := by decide +kernel
theorem dX10_init_97 : decode cX10_init 97 = .ok (.invokespecial 63, 3) := by decide +kernel
theorem dX10_init_100 : decode cX10_init 100 = .ok (.putfield 64, 3) := by decide +kernel
theorem dX10_init_103 : decode cX10_init 103 = .ok (.aload_n 0, 1) := by decide +kernel
theorem dX10_init_104 : decode cX10_init 104 = .ok (.bipush 7, 2) := by decide +kernel
theorem dX10_init_106 : decode cX10_init 106 = .ok (.newarray .int, 2) := by decide +kernel
theorem dX10_init_108 : decode cX10_init 108 = .ok (.putfield 68, 3) := by decide +kernel
theorem dX10_init_111 : decode cX10_init 111 = .ok (.aload_n 0, 1) := by decide +kernel
theorem dX10_init_112 : decode cX10_init 112 = .ok (.new 72, 3) := by decide +kernel
theorem dX10_init_115 : decode cX10_init 115 = .ok (.dup, 1) := by decide +kernel
theorem dX10_init_116 : decode cX10_init 116 = .ok (.invokespecial 74, 3) := by decide +kernel
theorem dX10_init_119 : decode cX10_init 119 = .ok (.putfield 75, 3) := by decide +kernel
theorem dX10_init_122 : decode cX10_init 122 = .ok (.aload_n 0, 1) := by decide +kernel
theorem dX10_init_123 : decode cX10_init 123 = .ok (.iconst (-1), 1) := by decide +kernel
theorem dX10_init_124 : decode cX10_init 124 = .ok (.putfield 79, 3) := by decide +kernel
theorem dX10_init_127 : decode cX10_init 127 = .ok (.aload_n 0, 1) := by decide +kernel
theorem dX10_init_128 : decode cX10_init 128 = .ok (.iconst 0, 1) := by decide +kernel
theorem dX10_init_129 : decode cX10_init 129 = .ok (.putfield 83, 3) := by decide +kernel
theorem dX10_init_132 : decode cX10_init 132 = .ok (.return_, 1) := by decide +kernel
theorem dX10_feed_0 : decode cX10_feed 0 = .ok (.aload_n 0, 1) := by decide +kernel
theorem dX10_feed_1 : decode cX10_feed 1 = .ok (.getfield 10, 3) := by decide +kernel
theorem dX10_feed_4 : decode cX10_feed 4 = .ok (.getfield 87, 3) := by decide +kernel
theorem dX10_feed_7 : decode cX10_feed 7 = .ok (.getfield 91, 3) := by decide +kernel
theorem dX10_feed_10 : decode cX10_feed 10 = .ok (.bipush 20, 2) := by decide +kernel
theorem dX10_feed_12 : decode cX10_feed 12 = .ok (.iadd, 1) := by decide +kernel
theorem dX10_feed_13 : decode cX10_feed 13 = .ok (.sipush 700, 3) := by decide +kernel
theorem dX10_feed_16 : decode cX10_feed 16 = .ok (.if_icmp .le 5, 3) := by decide +kernel
theorem dX10_feed_19 : decode cX10_feed 19 = .ok (.iconst (-1), 1) := by decide +kernel
theorem dX10_feed_20 : decode cX10_feed 20 = .ok (.ireturn, 1) := by decide +kernel
theorem dX10_feed_21 : decode cX10_feed 21 = .ok (.aload_n 0, 1) := by decide +kernel
theorem dX10_feed_22 : decode cX10_feed 22 = .ok (.getfield 10, 3) := by decide +kernel
theorem dX10_feed_25 : decode cX10_feed 25 = .ok (.getfield 87, 3) := by decide +kernel
theorem dX10_feed_28 : decode cX10_feed 28 = .ok (.iload_n 1, 1) := by decide +kernel
theorem dX10_feed_29 : decode cX10_feed 29 = .ok (.invokevirtual 96, 3) := by decide +kernel
theorem dX10_feed_32 : decode cX10_feed 32 = .ok (.aload_n 0, 1) := by decide +kernel
theorem dX10_feed_33 : decode cX10_feed 33 = .ok (.getfield 10, 3) := by decide +kernel
theorem dX10_feed_36 : decode cX10_feed 36 = .ok (.getfield 87, 3) := by decide +kernel
theorem dX10_feed_39 : decode cX10_feed 39 = .ok (.iload_n 2, 1) := by decide +kernel
theorem dX10_feed_40 : decode cX10_feed 40 = .ok (.invokevirtual 96, 3) := by decide +kernel
theorem dX10_feed_43 : decode cX10_feed 43 = .ok (.aload_n 0, 1) := by decide +kernel
theorem dX10_feed_44 : decode cX10_feed 44 = .ok (.getfield 10, 3) := by decide +kernel
theorem dX10_feed_47 : decode cX10_feed 47 = .ok (.getfield 87, 3) := by decide +kernel
theorem dX10_feed_50 : decode cX10_feed 50 = .ok (.iload_n 3, 1) := by decide +kernel
theorem dX10_feed_51 : decode cX10_feed 51 = .ok (.invokevirtual 96, 3) := by decide +kernel
theorem dX10_feed_54 : decode cX10_feed 54 = .ok (.aload_n 0, 1) := by decide +kernel
theorem dX10_feed_55 : decode cX10_feed 55 = .ok (.getfield 10, 3) := by decide +kernel
theorem dX10_feed_58 : decode cX10_feed 58 = .ok (.getfield 87, 3) := by decide +kernel
theorem dX10_feed_61 : decode cX10_feed 61 = .ok (.iload 4, 2) := by decide +kernel
theorem dX10_feed_63 : decode cX10_feed 63 = .ok (.invokevirtual 96, 3) := by decide +kernel
theorem dX10_feed_66 : decode cX10_feed 66 = .ok (.aload_n 0, 1) := by decide +kernel
theorem dX10_feed_67 : decode cX10_feed 67 = .ok (.getfield 10, 3) := by decide +kernel
theorem dX10_feed_70 : decode cX10_feed 70 = .ok (.getfield 87, 3) := by decide +kernel
theorem dX10_feed_73 : decode cX10_feed 73 = .ok (.iload 5, 2) := by decide +kernel
theorem dX10_feed_75 : decode cX10_feed 75 = .ok (.invokevirtual 96, 3) := by decide +kernel
theorem dX10_feed_78 : decode cX10_feed 78 = .ok (.aload_n 0, 1) := by decide +kernel
theorem dX10_feed_79 : decode cX10_feed 79 = .ok (.getfield 10, 3) := by decide +kernel
theorem dX10_feed_82 : decode cX10_feed 82 = .ok (.getfield 87, 3) := by decide +kernel
theorem dX10_feed_85 : decode cX10_feed 85 = .ok (.getfield 91, 3) := by decide +kernel
theorem dX10_feed_88 : decode cX10_feed 88 = .ok (.ireturn, 1) := by decide +kernel
theorem dX10_city_0 : decode cX10_city 0 = .ok (.iload_n 1, 1) := by decide +kernel
theorem dX10_city_1 : decode cX10_city 1 = .ok (.ifCond .lt 17, 3) := by decide +kernel
theorem dX10_city_4 : decode cX10_city 4 = .ok (.iload_n 1, 1) := by decide +kernel
theorem dX10_city_5 : decode cX10_city 5 = .ok (.aload_n 0, 1) := by decide +kernel
theorem dX10_city_6 : decode cX10_city 6 = .ok (.getfield 10, 3) := by decide +kernel
theorem dX10_city_9 : decode cX10_city 9 = .ok (.getfield 87, 3) := by decide +kernel
theorem dX10_city_12 : decode cX10_city 12 = .ok (.getfield 91, 3) := by decide +kernel
theorem dX10_city_15 : decode cX10_city 15 = .ok (.if_icmp .le 13, 3) := by decide +kernel
theorem dX10_city_18 : decode cX10_city 18 = .ok (.new 100, 3) := by decide +kernel
theorem dX10_city_21 : decode cX10_city 21 = .ok (.dup, 1) := by decide +kernel
theorem dX10_city_22 : decode cX10_city 22 = .ok (.ldc 102, 2) := by decide +kernel
theorem dX10_city_24 : decode cX10_city 24 = .ok (.invokespecial 104, 3) := by decide +kernel
theorem dX10_city_27 : decode cX10_city 27 = .ok (.athrow, 1) := by decide +kernel
theorem dX10_city_28 : decode cX10_city 28 = .ok (.aload_n 0, 1) := by decide +kernel
theorem dX10_city_29 : decode cX10_city 29 = .ok (.getfield 10, 3) := by decide +kernel
theorem dX10_city_32 : decode cX10_city 32 = .ok (.iload_n 1, 1) := by decide +kernel
theorem dX10_city_33 : decode cX10_city 33 = .ok (.invokevirtual 107, 3) := by decide +kernel
theorem dX10_city_36 : decode cX10_city 36 = .ok (.istore_n 2, 1) := by decide +kernel
theorem dX10_city_37 : decode cX10_city 37 = .ok (.iload_n 2, 1) := by decide +kernel
theorem dX10_city_38 : decode cX10_city 38 = .ok (.ifCond .eq 24, 3) := by decide +kernel
theorem dX10_city_41 : decode cX10_city 41 = .ok (.aload_n 0, 1) := by decide +kernel
theorem dX10_city_42 : decode cX10_city 42 = .ok (.aload_n 0, 1) := by decide +kernel
theorem dX10_city_43 : decode cX10_city 43 = .ok (.getfield 10, 3) := by decide +kernel
theorem dX10_city_46 : decode cX10_city 46 = .ok (.invokevirtual 111, 3) := by decide +kernel
theorem dX10_city_49 : decode cX10_city 49 = .ok (.putfield 79, 3) := by decide +kernel
theorem dX10_city_52 : decode cX10_city 52 = .ok (.aload_n 0, 1) := by decide +kernel
theorem dX10_city_53 : decode cX10_city 53 = .ok (.getfield 19, 3) := by decide +kernel
theorem dX10_city_56 : decode cX10_city 56 = .ok (.iconst 0, 1) := by decide +kernel
theorem dX10_city_57 : decode cX10_city 57 = .ok (.invokevirtual 115, 3) := by decide +kernel
theorem dX10_city_60 : decode cX10_city 60 = .ok (.iload_n 2, 1) := by decide +kernel
theorem dX10_city_61 : decode cX10_city 61 = .ok (.ireturn, 1) := by decide +kernel
theorem dX10_city_62 : decode cX10_city 62 = .ok (.aload_n 0, 1) := by decide +kernel
theorem dX10_city_63 : decode cX10_city 63 = .ok (.getfield 10, 3) := by decide +kernel
theorem dX10_city_66 : decode cX10_city 66 = .ok (.getfield 118, 3) := by decide +kernel
theorem dX10_city_69 : decode cX10_city 69 = .ok (.astore_n 3, 1) := by decide +kernel
theorem dX10_city_70 : decode cX10_city 70 = .ok (.aload_n 0, 1) := by decide +kernel
theorem dX10_city_71 : decode cX10_city 71 = .ok (.getfield 10, 3) := by decide +kernel
theorem dX10_city_74 : decode cX10_city 74 = .ok (.aload_n 0, 1) := by decide +kernel
theorem dX10_city_75 : decode cX10_city 75 = .ok (.getfield 75, 3) := by decide +kernel
theorem dX10_city_78 : decode cX10_city 78 = .ok (.putfield 118, 3) := by decide +kernel
theorem dX10_city_81 : decode cX10_city 81 = .ok (.aload_n 0, 1) := by decide +kernel
theorem dX10_city_82 : decode cX10_city 82 = .ok (.aload_n 3, 1) := by decide +kernel
theorem dX10_city_83 : decode cX10_city 83 = .ok (.putfield 75, 3) := by decide +kernel
theorem dX10_city_86 : decode cX10_city 86 = .ok (.aload_n 0, 1) := by decide +kernel
theorem dX10_city_87 : decode cX10_city 87 = .ok (.iconst (-1), 1) := by decide +kernel
theorem dX10_city_88 : decode cX10_city 88 = .ok (.putfield 79, 3) := by decide +kernel
theorem dX10_city_91 : decode cX10_city 91 = .ok (.aload_n 0, 1) := by decide +kernel
theorem dX10_city_92 : decode cX10_city 92 = .ok (.getfield 19, 3) := by decide +kernel
theorem dX10_city_95 : decode cX10_city 95 = .ok (.aload_n 3, 1) := by decide +kernel
theorem dX10_city_96 : decode cX10_city 96 = .ok (.invokevirtual 121, 3) := by decide +kernel
theorem dX10_city_99 : decode cX10_city 99 = .ok (.aload_n 0, 1) := by decide +kernel
theorem dX10_city_100 : decode cX10_city 100 = .ok (.getfield 43, 3) := by decide +kernel
theorem dX10_city_103 : decode cX10_city 103 = .ok (.iconst 0, 1) := by decide +kernel
theorem dX10_city_104 : decode cX10_city 104 = .ok (.putfield 125, 3) := by decide +kernel
theorem dX10_city_107 : decode cX10_city 107 = .ok (.aload_n 0, 1) := by decide +kernel
theorem dX10_city_108 : decode cX10_city 108 = .ok (.iconst 0, 1) := by decide +kernel
theorem dX10_city_109 : decode cX10_city 109 = .ok (.putfield 83, 3) := by decide +kernel
theorem dX10_city_112 : decode cX10_city 112 = .ok (.iconst 0, 1) := by decide +kernel
theorem dX10_city_113 : decode cX10_city 113 = .ok (.ireturn, 1) := by decide +kernel
theorem dX10_fault_0 : decode cX10_fault 0 = .ok (.aload_n 0, 1) := by decide +kernel
theorem dX10_fault_1 : decode cX10_fault 1 = .ok (.getfield 79, 3) := by decide +kernel
theorem dX10_fault_4 : decode cX10_fault 4 = .ok (.ireturn, 1) := by decide +kernel
theorem dX10_count_0 : decode cX10_count 0 = .ok (.iload_n 1, 1) := by decide +kernel
theorem dX10_count_1 : decode cX10_count 1 = .ok (.tableswitch 126 0 8 #[51, 59, 67, 75, 83, 91, 99, 107, 118], 51) := by decide +kernel
theorem dX10_count_52 : decode cX10_count 52 = .ok (.aload_n 0, 1) := by decide +kernel
theorem dX10_count_53 : decode cX10_count 53 = .ok (.getfield 75, 3) := by decide +kernel
theorem dX10_count_56 : decode cX10_count 56 = .ok (.getfield 128, 3) := by decide +kernel
theorem dX10_count_59 : decode cX10_count 59 = .ok (.ireturn, 1) := by decide +kernel
theorem dX10_count_60 : decode cX10_count 60 = .ok (.aload_n 0, 1) := by decide +kernel
theorem dX10_count_61 : decode cX10_count 61 = .ok (.getfield 75, 3) := by decide +kernel
theorem dX10_count_64 : decode cX10_count 64 = .ok (.getfield 131, 3) := by decide +kernel
theorem dX10_count_67 : decode cX10_count 67 = .ok (.ireturn, 1) := by decide +kernel
theorem dX10_count_68 : decode cX10_count 68 = .ok (.aload_n 0, 1) := by decide +kernel
theorem dX10_count_69 : decode cX10_count 69 = .ok (.getfield 75, 3) := by decide +kernel
theorem dX10_count_72 : decode cX10_count 72 = .ok (.getfield 134, 3) := by decide +kernel
theorem dX10_count_75 : decode cX10_count 75 = .ok (.ireturn, 1) := by decide +kernel
theorem dX10_count_76 : decode cX10_count 76 = .ok (.aload_n 0, 1) := by decide +kernel
theorem dX10_count_77 : decode cX10_count 77 = .ok (.getfield 75, 3) := by decide +kernel
theorem dX10_count_80 : decode cX10_count 80 = .ok (.getfield 137, 3) := by decide +kernel
theorem dX10_count_83 : decode cX10_count 83 = .ok (.ireturn, 1) := by decide +kernel
theorem dX10_count_84 : decode cX10_count 84 = .ok (.aload_n 0, 1) := by decide +kernel
theorem dX10_count_85 : decode cX10_count 85 = .ok (.getfield 19, 3) := by decide +kernel
theorem dX10_count_88 : decode cX10_count 88 = .ok (.getfield 140, 3) := by decide +kernel
theorem dX10_count_91 : decode cX10_count 91 = .ok (.ireturn, 1) := by decide +kernel
theorem dX10_count_92 : decode cX10_count 92 = .ok (.aload_n 0, 1) := by decide +kernel
theorem dX10_count_93 : decode cX10_count 93 = .ok (.getfield 19, 3) := by decide +kernel
theorem dX10_count_96 : decode cX10_count 96 = .ok (.getfield 143, 3) := by decide +kernel
theorem dX10_count_99 : decode cX10_count 99 = .ok (.ireturn, 1) := by decide +kernel
theorem dX10_count_100 : decode cX10_count 100 = .ok (.aload_n 0, 1) := by decide +kernel
theorem dX10_count_101 : decode cX10_count 101 = .ok (.getfield 19, 3) := by decide +kernel
theorem dX10_count_104 : decode cX10_count 104 = .ok (.getfield 146, 3) := by decide +kernel
theorem dX10_count_107 : decode cX10_count 107 = .ok (.ireturn, 1) := by decide +kernel
theorem dX10_count_108 : decode cX10_count 108 = .ok (.aload_n 0, 1) := by decide +kernel
theorem dX10_count_109 : decode cX10_count 109 = .ok (.getfield 10, 3) := by decide +kernel
theorem dX10_count_112 : decode cX10_count 112 = .ok (.getfield 87, 3) := by decide +kernel
theorem dX10_count_115 : decode cX10_count 115 = .ok (.getfield 91, 3) := by decide +kernel
theorem dX10_count_118 : decode cX10_count 118 = .ok (.ireturn, 1) := by decide +kernel
theorem dX10_count_119 : decode cX10_count 119 = .ok (.aload_n 0, 1) := by decide +kernel
theorem dX10_count_120 : decode cX10_count 120 = .ok (.getfield 19, 3) := by decide +kernel
theorem dX10_count_123 : decode cX10_count 123 = .ok (.invokevirtual 149, 3) := by decide +kernel
theorem dX10_count_126 : decode cX10_count 126 = .ok (.ireturn, 1) := by decide +kernel
theorem dX10_count_127 : decode cX10_count 127 = .ok (.iload_n 1, 1) := by decide +kernel
theorem dX10_count_128 : decode cX10_count 128 = .ok (.bipush 9, 2) := by decide +kernel
theorem dX10_count_130 : decode cX10_count 130 = .ok (.isub, 1) := by decide +kernel
theorem dX10_count_131 : decode cX10_count 131 = .ok (.iconst 4, 1) := by decide +kernel
theorem dX10_count_132 : decode cX10_count 132 = .ok (.invokestatic 152, 3) := by decide +kernel
theorem dX10_count_135 : decode cX10_count 135 = .ok (.aload_n 0, 1) := by decide +kernel
theorem dX10_count_136 : decode cX10_count 136 = .ok (.getfield 19, 3) := by decide +kernel
theorem dX10_count_139 : decode cX10_count 139 = .ok (.getfield 156, 3) := by decide +kernel
theorem dX10_count_142 : decode cX10_count 142 = .ok (.iload_n 1, 1) := by decide +kernel
theorem dX10_count_143 : decode cX10_count 143 = .ok (.bipush 9, 2) := by decide +kernel
theorem dX10_count_145 : decode cX10_count 145 = .ok (.isub, 1) := by decide +kernel
theorem dX10_count_146 : decode cX10_count 146 = .ok (.invokestatic 159, 3) := by decide +kernel
theorem dX10_count_149 : decode cX10_count 149 = .ok (.ireturn, 1) := by decide +kernel
theorem dX10_person_0 : decode cX10_person 0 = .ok (.aload_n 0, 1) := by decide +kernel
theorem dX10_person_1 : decode cX10_person 1 = .ok (.iload_n 1, 1) := by decide +kernel
theorem dX10_person_2 : decode cX10_person 2 = .ok (.invokevirtual 163, 3) := by decide +kernel
theorem dX10_person_5 : decode cX10_person 5 = .ok (.iload_n 2, 1) := by decide +kernel
theorem dX10_person_6 : decode cX10_person 6 = .ok (.iconst 3, 1) := by decide +kernel
theorem dX10_person_7 : decode cX10_person 7 = .ok (.invokestatic 152, 3) := by decide +kernel
theorem dX10_person_10 : decode cX10_person 10 = .ok (.iload_n 2, 1) := by decide +kernel
theorem dX10_person_11 : decode cX10_person 11 = .ok (.ifCond .ne 15, 3) := by decide +kernel
theorem dX10_person_14 : decode cX10_person 14 = .ok (.aload_n 0, 1) := by decide +kernel
theorem dX10_person_15 : decode cX10_person 15 = .ok (.getfield 19, 3) := by decide +kernel
theorem dX10_person_18 : decode cX10_person 18 = .ok (.getfield 166, 3) := by decide +kernel
theorem dX10_person_21 : decode cX10_person 21 = .ok (.iload_n 1, 1) := by decide +kernel
theorem dX10_person_22 : decode cX10_person 22 = .ok (.invokestatic 159, 3) := by decide +kernel
theorem dX10_person_25 : decode cX10_person 25 = .ok (.ireturn, 1) := by decide +kernel
theorem dX10_person_26 : decode cX10_person 26 = .ok (.iload_n 2, 1) := by decide +kernel
theorem dX10_person_27 : decode cX10_person 27 = .ok (.iconst 1, 1) := by decide +kernel
theorem dX10_person_28 : decode cX10_person 28 = .ok (.if_icmp .ne 17, 3) := by decide +kernel
theorem dX10_person_31 : decode cX10_person 31 = .ok (.aload_n 0, 1) := by decide +kernel
theorem dX10_person_32 : decode cX10_person 32 = .ok (.getfield 75, 3) := by decide +kernel
theorem dX10_person_35 : decode cX10_person 35 = .ok (.getfield 169, 3) := by decide +kernel
theorem dX10_person_38 : decode cX10_person 38 = .ok (.iload_n 1, 1) := by decide +kernel
theorem dX10_person_39 : decode cX10_person 39 = .ok (.invokestatic 159, 3) := by decide +kernel
theorem dX10_person_42 : decode cX10_person 42 = .ok (.goto 14, 3) := by decide +kernel
theorem dX10_person_45 : decode cX10_person 45 = .ok (.aload_n 0, 1) := by decide +kernel
theorem dX10_person_46 : decode cX10_person 46 = .ok (.getfield 75, 3) := by decide +kernel
theorem dX10_person_49 : decode cX10_person 49 = .ok (.getfield 172, 3) := by decide +kernel
theorem dX10_person_52 : decode cX10_person 52 = .ok (.iload_n 1, 1) := by decide +kernel
theorem dX10_person_53 : decode cX10_person 53 = .ok (.invokestatic 159, 3) := by decide +kernel
theorem dX10_person_56 : decode cX10_person 56 = .ok (.ireturn, 1) := by decide +kernel
theorem dX10_walk_0 : decode cX10_walk 0 = .ok (.aload_n 0, 1) := by decide +kernel
theorem dX10_walk_1 : decode cX10_walk 1 = .ok (.iload_n 1, 1) := by decide +kernel
theorem dX10_walk_2 : decode cX10_walk 2 = .ok (.invokevirtual 175, 3) := by decide +kernel
theorem dX10_walk_5 : decode cX10_walk 5 = .ok (.aload_n 0, 1) := by decide +kernel
theorem dX10_walk_6 : decode cX10_walk 6 = .ok (.iload_n 2, 1) := by decide +kernel
theorem dX10_walk_7 : decode cX10_walk 7 = .ok (.invokevirtual 175, 3) := by decide +kernel
theorem dX10_walk_10 : decode cX10_walk 10 = .ok (.aload_n 0, 1) := by decide +kernel
theorem dX10_walk_11 : decode cX10_walk 11 = .ok (.getfield 75, 3) := by decide +kernel
theorem dX10_walk_14 : decode cX10_walk 14 = .ok (.iload_n 1, 1) := by decide +kernel
theorem dX10_walk_15 : decode cX10_walk 15 = .ok (.iload_n 2, 1) := by decide +kernel
theorem dX10_walk_16 : decode cX10_walk 16 = .ok (.invokevirtual 178, 3) := by decide +kernel
theorem dX10_walk_19 : decode cX10_walk 19 = .ok (.ireturn, 1) := by decide +kernel
theorem dX10_move_0 : decode cX10_move 0 = .ok (.aload_n 0, 1) := by decide +kernel
theorem dX10_move_1 : decode cX10_move 1 = .ok (.iload_n 1, 1) := by decide +kernel
theorem dX10_move_2 : decode cX10_move 2 = .ok (.invokevirtual 163, 3) := by decide +kernel
theorem dX10_move_5 : decode cX10_move 5 = .ok (.aload_n 0, 1) := by decide +kernel
theorem dX10_move_6 : decode cX10_move 6 = .ok (.iload_n 2, 1) := by decide +kernel
theorem dX10_move_7 : decode cX10_move 7 = .ok (.invokevirtual 175, 3) := by decide +kernel
theorem dX10_move_10 : decode cX10_move 10 = .ok (.aload_n 0, 1) := by decide +kernel
theorem dX10_move_11 : decode cX10_move 11 = .ok (.getfield 19, 3) := by decide +kernel
theorem dX10_move_14 : decode cX10_move 14 = .ok (.getfield 166, 3) := by decide +kernel
theorem dX10_move_17 : decode cX10_move 17 = .ok (.iload_n 1, 1) := by decide +kernel
theorem dX10_move_18 : decode cX10_move 18 = .ok (.iload_n 2, 1) := by decide +kernel
theorem dX10_move_19 : decode cX10_move 19 = .ok (.invokestatic 182, 3) := by decide +kernel
theorem dX10_move_22 : decode cX10_move 22 = .ok (.return_, 1) := by decide +kernel
theorem dX10_weep_0 : decode cX10_weep 0 = .ok (.aload_n 0, 1) := by decide +kernel
theorem dX10_weep_1 : decode cX10_weep 1 = .ok (.iload_n 1, 1) := by decide +kernel
theorem dX10_weep_2 : decode cX10_weep 2 = .ok (.invokevirtual 163, 3) := by decide +kernel
theorem dX10_weep_5 : decode cX10_weep 5 = .ok (.aload_n 0, 1) := by decide +kernel
theorem dX10_weep_6 : decode cX10_weep 6 = .ok (.getfield 19, 3) := by decide +kernel
theorem dX10_weep_9 : decode cX10_weep 9 = .ok (.getfield 140, 3) := by decide +kernel
theorem dX10_weep_12 : decode cX10_weep 12 = .ok (.sipush 200, 3) := by decide +kernel
theorem dX10_weep_15 : decode cX10_weep 15 = .ok (.if_icmp .ge 31, 3) := by decide +kernel
theorem dX10_weep_18 : decode cX10_weep 18 = .ok (.iload_n 2, 1) := by decide +kernel
theorem dX10_weep_19 : decode cX10_weep 19 = .ok (.aload_n 0, 1) := by decide +kernel
theorem dX10_weep_20 : decode cX10_weep 20 = .ok (.getfield 19, 3) := by decide +kernel
theorem dX10_weep_23 : decode cX10_weep 23 = .ok (.invokevirtual 149, 3) := by decide +kernel
theorem dX10_weep_26 : decode cX10_weep 26 = .ok (.if_icmp .lt 20, 3) := by decide +kernel
theorem dX10_weep_29 : decode cX10_weep 29 = .ok (.iload_n 2, 1) := by decide +kernel
theorem dX10_weep_30 : decode cX10_weep 30 = .ok (.sipush 2399, 3) := by decide +kernel
theorem dX10_weep_33 : decode cX10_weep 33 = .ok (.if_icmp .gt 13, 3) := by decide +kernel
theorem dX10_weep_36 : decode cX10_weep 36 = .ok (.iload_n 3, 1) := by decide +kernel
theorem dX10_weep_37 : decode cX10_weep 37 = .ok (.ifCond .lt 9, 3) := by decide +kernel
theorem dX10_weep_40 : decode cX10_weep 40 = .ok (.iload_n 3, 1) := by decide +kernel
theorem dX10_weep_41 : decode cX10_weep 41 = .ok (.bipush 9, 2) := by decide +kernel
theorem dX10_weep_43 : decode cX10_weep 43 = .ok (.if_icmp .le 13, 3) := by decide +kernel
theorem dX10_weep_46 : decode cX10_weep 46 = .ok (.aload_n 0, 1) := by decide +kernel
theorem dX10_weep_47 : decode cX10_weep 47 = .ok (.getfield 19, 3) := by decide +kernel
theorem dX10_weep_50 : decode cX10_weep 50 = .ok (.iconst 1, 1) := by decide +kernel
theorem dX10_weep_51 : decode cX10_weep 51 = .ok (.invokevirtual 115, 3) := by decide +kernel
theorem dX10_weep_54 : decode cX10_weep 54 = .ok (.iconst (-1), 1) := by decide +kernel
theorem dX10_weep_55 : decode cX10_weep 55 = .ok (.ireturn, 1) := by decide +kernel
theorem dX10_weep_56 : decode cX10_weep 56 = .ok (.aload_n 0, 1) := by decide +kernel
theorem dX10_weep_57 : decode cX10_weep 57 = .ok (.getfield 19, 3) := by decide +kernel
theorem dX10_weep_60 : decode cX10_weep 60 = .ok (.getfield 166, 3) := by decide +kernel
theorem dX10_weep_63 : decode cX10_weep 63 = .ok (.iload_n 1, 1) := by decide +kernel
theorem dX10_weep_64 : decode cX10_weep 64 = .ok (.invokestatic 159, 3) := by decide +kernel
theorem dX10_weep_67 : decode cX10_weep 67 = .ok (.istore 4, 2) := by decide +kernel
theorem dX10_weep_69 : decode cX10_weep 69 = .ok (.aload_n 0, 1) := by decide +kernel
theorem dX10_weep_70 : decode cX10_weep 70 = .ok (.getfield 19, 3) := by decide +kernel
theorem dX10_weep_73 : decode cX10_weep 73 = .ok (.iload 4, 2) := by decide +kernel
theorem dX10_weep_75 : decode cX10_weep 75 = .ok (.iload_n 2, 1) := by decide +kernel
theorem dX10_weep_76 : decode cX10_weep 76 = .ok (.bipush 24, 2) := by decide +kernel
theorem dX10_weep_78 : decode cX10_weep 78 = .ok (.idiv, 1) := by decide +kernel
theorem dX10_weep_79 : decode cX10_weep 79 = .ok (.invokevirtual 186, 3) := by decide +kernel
theorem dX10_weep_82 : decode cX10_weep 82 = .ok (.istore 5, 2) := by decide +kernel
theorem dX10_weep_84 : decode cX10_weep 84 = .ok (.aload_n 0, 1) := by decide +kernel
theorem dX10_weep_85 : decode cX10_weep 85 = .ok (.iload 4, 2) := by decide +kernel
theorem dX10_weep_87 : decode cX10_weep 87 = .ok (.iload_n 1, 1) := by decide +kernel
theorem dX10_weep_88 : decode cX10_weep 88 = .ok (.iload_n 3, 1) := by decide +kernel
theorem dX10_weep_89 : decode cX10_weep 89 = .ok (.aload_n 0, 1) := by decide +kernel
theorem dX10_weep_90 : decode cX10_weep 90 = .ok (.getfield 75, 3) := by decide +kernel
theorem dX10_weep_93 : decode cX10_weep 93 = .ok (.getfield 172, 3) := by decide +kernel
theorem dX10_weep_96 : decode cX10_weep 96 = .ok (.iload_n 1, 1) := by decide +kernel
theorem dX10_weep_97 : decode cX10_weep 97 = .ok (.invokestatic 159, 3) := by decide +kernel
theorem dX10_weep_100 : decode cX10_weep 100 = .ok (.iload_n 2, 1) := by decide +kernel
theorem dX10_weep_101 : decode cX10_weep 101 = .ok (.iload 5, 2) := by decide +kernel
theorem dX10_weep_103 : decode cX10_weep 103 = .ok (.invokevirtual 189, 3) := by decide +kernel
theorem dX10_weep_106 : decode cX10_weep 106 = .ok (.aload_n 0, 1) := by decide +kernel
theorem dX10_weep_107 : decode cX10_weep 107 = .ok (.getfield 19, 3) := by decide +kernel
theorem dX10_weep_110 : decode cX10_weep 110 = .ok (.aload_n 0, 1) := by decide +kernel
theorem dX10_weep_111 : decode cX10_weep 111 = .ok (.getfield 68, 3) := by decide +kernel
theorem dX10_weep_114 : decode cX10_weep 114 = .ok (.iload_n 2, 1) := by decide +kernel
theorem dX10_weep_115 : decode cX10_weep 115 = .ok (.aload_n 0, 1) := by decide +kernel
theorem dX10_weep_116 : decode cX10_weep 116 = .ok (.getfield 75, 3) := by decide +kernel
theorem dX10_weep_119 : decode cX10_weep 119 = .ok (.aload_n 0, 1) := by decide +kernel
theorem dX10_weep_120 : decode cX10_weep 120 = .ok (.getfield 68, 3) := by decide +kernel
theorem dX10_weep_123 : decode cX10_weep 123 = .ok (.invokevirtual 193, 3) := by decide +kernel
theorem dX10_weep_126 : decode cX10_weep 126 = .ok (.invokevirtual 197, 3) := by decide +kernel
theorem dX10_weep_129 : decode cX10_weep 129 = .ok (.aload_n 0, 1) := by decide +kernel
theorem dX10_weep_130 : decode cX10_weep 130 = .ok (.getfield 19, 3) := by decide +kernel
theorem dX10_weep_133 : decode cX10_weep 133 = .ok (.getfield 140, 3) := by decide +kernel
theorem dX10_weep_136 : decode cX10_weep 136 = .ok (.ireturn, 1) := by decide +kernel
theorem dX10_tears_0 : decode cX10_tears 0 = .ok (.iload_n 1, 1) := by decide +kernel
theorem dX10_tears_1 : decode cX10_tears 1 = .ok (.ifCond .lt 14, 3) := by decide +kernel
theorem dX10_tears_4 : decode cX10_tears 4 = .ok (.iload_n 1, 1) := by decide +kernel
theorem dX10_tears_5 : decode cX10_tears 5 = .ok (.aload_n 0, 1) := by decide +kernel
theorem dX10_tears_6 : decode cX10_tears 6 = .ok (.getfield 19, 3) := by decide +kernel
theorem dX10_tears_9 : decode cX10_tears 9 = .ok (.getfield 140, 3) := by decide +kernel
theorem dX10_tears_12 : decode cX10_tears 12 = .ok (.if_icmp .lt 13, 3) := by decide +kernel
theorem dX10_tears_15 : decode cX10_tears 15 = .ok (.new 201, 3) := by decide +kernel
theorem dX10_tears_18 : decode cX10_tears 18 = .ok (.dup, 1) := by decide +kernel
theorem dX10_tears_19 : decode cX10_tears 19 = .ok (.ldc 203, 2) := by decide +kernel
theorem dX10_tears_21 : decode cX10_tears 21 = .ok (.invokespecial 205, 3) := by decide +kernel
theorem dX10_tears_24 : decode cX10_tears 24 = .ok (.athrow, 1) := by decide +kernel
theorem dX10_tears_25 : decode cX10_tears 25 = .ok (.iload_n 2, 1) := by decide +kernel
theorem dX10_tears_26 : decode cX10_tears 26 = .ok (.bipush 6, 2) := by decide +kernel
theorem dX10_tears_28 : decode cX10_tears 28 = .ok (.invokestatic 152, 3) := by decide +kernel
theorem dX10_tears_31 : decode cX10_tears 31 = .ok (.aload_n 0, 1) := by decide +kernel
theorem dX10_tears_32 : decode cX10_tears 32 = .ok (.getfield 19, 3) := by decide +kernel
theorem dX10_tears_35 : decode cX10_tears 35 = .ok (.iload_n 1, 1) := by decide +kernel
theorem dX10_tears_36 : decode cX10_tears 36 = .ok (.iload_n 2, 1) := by decide +kernel
theorem dX10_tears_37 : decode cX10_tears 37 = .ok (.invokevirtual 206, 3) := by decide +kernel
theorem dX10_tears_40 : decode cX10_tears 40 = .ok (.ireturn, 1) := by decide +kernel
theorem dX10_name_0 : decode cX10_name 0 = .ok (.aload_n 0, 1) := by decide +kernel
theorem dX10_name_1 : decode cX10_name 1 = .ok (.iload_n 1, 1) := by decide +kernel
theorem dX10_name_2 : decode cX10_name 2 = .ok (.invokevirtual 175, 3) := by decide +kernel
theorem dX10_name_5 : decode cX10_name 5 = .ok (.iload_n 2, 1) := by decide +kernel
theorem dX10_name_6 : decode cX10_name 6 = .ok (.invokestatic 209, 3) := by decide +kernel
theorem dX10_name_9 : decode cX10_name 9 = .ok (.aload_n 0, 1) := by decide +kernel
theorem dX10_name_10 : decode cX10_name 10 = .ok (.getfield 29, 3) := by decide +kernel
theorem dX10_name_13 : decode cX10_name 13 = .ok (.aload_n 0, 1) := by decide +kernel
theorem dX10_name_14 : decode cX10_name 14 = .ok (.getfield 19, 3) := by decide +kernel
theorem dX10_name_17 : decode cX10_name 17 = .ok (.iload_n 2, 1) := by decide +kernel
theorem dX10_name_18 : decode cX10_name 18 = .ok (.invokevirtual 212, 3) := by decide +kernel
theorem dX10_name_21 : decode cX10_name 21 = .ok (.aload_n 0, 1) := by decide +kernel
theorem dX10_name_22 : decode cX10_name 22 = .ok (.getfield 29, 3) := by decide +kernel
theorem dX10_name_25 : decode cX10_name 25 = .ok (.aload_n 0, 1) := by decide +kernel
theorem dX10_name_26 : decode cX10_name 26 = .ok (.getfield 19, 3) := by decide +kernel
theorem dX10_name_29 : decode cX10_name 29 = .ok (.iload_n 1, 1) := by decide +kernel
theorem dX10_name_30 : decode cX10_name 30 = .ok (.invokevirtual 216, 3) := by decide +kernel
theorem dX10_name_33 : decode cX10_name 33 = .ok (.ireturn, 1) := by decide +kernel
theorem dX10_houses_0 : decode cX10_houses 0 = .ok (.aload_n 0, 1) := by decide +kernel
theorem dX10_houses_1 : decode cX10_houses 1 = .ok (.iload_n 1, 1) := by decide +kernel
theorem dX10_houses_2 : decode cX10_houses 2 = .ok (.invokevirtual 163, 3) := by decide +kernel
theorem dX10_houses_5 : decode cX10_houses 5 = .ok (.iload_n 2, 1) := by decide +kernel
theorem dX10_houses_6 : decode cX10_houses 6 = .ok (.invokestatic 209, 3) := by decide +kernel
theorem dX10_houses_9 : decode cX10_houses 9 = .ok (.aload_n 0, 1) := by decide +kernel
theorem dX10_houses_10 : decode cX10_houses 10 = .ok (.getfield 29, 3) := by decide +kernel
theorem dX10_houses_13 : decode cX10_houses 13 = .ok (.aload_n 0, 1) := by decide +kernel
theorem dX10_houses_14 : decode cX10_houses 14 = .ok (.getfield 19, 3) := by decide +kernel
theorem dX10_houses_17 : decode cX10_houses 17 = .ok (.iload_n 2, 1) := by decide +kernel
theorem dX10_houses_18 : decode cX10_houses 18 = .ok (.invokevirtual 212, 3) := by decide +kernel
theorem dX10_houses_21 : decode cX10_houses 21 = .ok (.aload_n 0, 1) := by decide +kernel
theorem dX10_houses_22 : decode cX10_houses 22 = .ok (.getfield 29, 3) := by decide +kernel
theorem dX10_houses_25 : decode cX10_houses 25 = .ok (.aload_n 0, 1) := by decide +kernel
theorem dX10_houses_26 : decode cX10_houses 26 = .ok (.getfield 19, 3) := by decide +kernel
theorem dX10_houses_29 : decode cX10_houses 29 = .ok (.iload_n 1, 1) := by decide +kernel
theorem dX10_houses_30 : decode cX10_houses 30 = .ok (.invokevirtual 220, 3) := by decide +kernel
theorem dX10_houses_33 : decode cX10_houses 33 = .ok (.ireturn, 1) := by decide +kernel
theorem dX10_letter_0 : decode cX10_letter 0 = .ok (.aload_n 0, 1) := by decide +kernel
theorem dX10_letter_1 : decode cX10_letter 1 = .ok (.iload_n 1, 1) := by decide +kernel
theorem dX10_letter_2 : decode cX10_letter 2 = .ok (.invokevirtual 163, 3) := by decide +kernel
theorem dX10_letter_5 : decode cX10_letter 5 = .ok (.iload_n 2, 1) := by decide +kernel
theorem dX10_letter_6 : decode cX10_letter 6 = .ok (.invokestatic 209, 3) := by decide +kernel
theorem dX10_letter_9 : decode cX10_letter 9 = .ok (.aload_n 0, 1) := by decide +kernel
theorem dX10_letter_10 : decode cX10_letter 10 = .ok (.getfield 19, 3) := by decide +kernel
theorem dX10_letter_13 : decode cX10_letter 13 = .ok (.getfield 143, 3) := by decide +kernel
theorem dX10_letter_16 : decode cX10_letter 16 = .ok (.bipush 40, 2) := by decide +kernel
theorem dX10_letter_18 : decode cX10_letter 18 = .ok (.if_icmp .lt 13, 3) := by decide +kernel
theorem dX10_letter_21 : decode cX10_letter 21 = .ok (.aload_n 0, 1) := by decide +kernel
theorem dX10_letter_22 : decode cX10_letter 22 = .ok (.getfield 19, 3) := by decide +kernel
theorem dX10_letter_25 : decode cX10_letter 25 = .ok (.iconst 2, 1) := by decide +kernel
theorem dX10_letter_26 : decode cX10_letter 26 = .ok (.invokevirtual 115, 3) := by decide +kernel
theorem dX10_letter_29 : decode cX10_letter 29 = .ok (.iconst (-1), 1) := by decide +kernel
theorem dX10_letter_30 : decode cX10_letter 30 = .ok (.ireturn, 1) := by decide +kernel
theorem dX10_letter_31 : decode cX10_letter 31 = .ok (.aload_n 0, 1) := by decide +kernel
theorem dX10_letter_32 : decode cX10_letter 32 = .ok (.getfield 19, 3) := by decide +kernel
theorem dX10_letter_35 : decode cX10_letter 35 = .ok (.iload_n 1, 1) := by decide +kernel
theorem dX10_letter_36 : decode cX10_letter 36 = .ok (.iload_n 2, 1) := by decide +kernel
theorem dX10_letter_37 : decode cX10_letter 37 = .ok (.invokevirtual 223, 3) := by decide +kernel
theorem dX10_letter_40 : decode cX10_letter 40 = .ok (.aload_n 0, 1) := by decide +kernel
theorem dX10_letter_41 : decode cX10_letter 41 = .ok (.getfield 19, 3) := by decide +kernel
theorem dX10_letter_44 : decode cX10_letter 44 = .ok (.getfield 143, 3) := by decide +kernel
theorem dX10_letter_47 : decode cX10_letter 47 = .ok (.iconst 1, 1) := by decide +kernel
theorem dX10_letter_48 : decode cX10_letter 48 = .ok (.isub, 1) := by decide +kernel
theorem dX10_letter_49 : decode cX10_letter 49 = .ok (.ireturn, 1) := by decide +kernel
theorem dX10_post_0 : decode cX10_post 0 = .ok (.iload_n 1, 1) := by decide +kernel
theorem dX10_post_1 : decode cX10_post 1 = .ok (.ifCond .lt 14, 3) := by decide +kernel
theorem dX10_post_4 : decode cX10_post 4 = .ok (.iload_n 1, 1) := by decide +kernel
theorem dX10_post_5 : decode cX10_post 5 = .ok (.aload_n 0, 1) := by decide +kernel
theorem dX10_post_6 : decode cX10_post 6 = .ok (.getfield 19, 3) := by decide +kernel
theorem dX10_post_9 : decode cX10_post 9 = .ok (.getfield 143, 3) := by decide +kernel
theorem dX10_post_12 : decode cX10_post 12 = .ok (.if_icmp .lt 13, 3) := by decide +kernel
theorem dX10_post_15 : decode cX10_post 15 = .ok (.new 201, 3) := by decide +kernel
theorem dX10_post_18 : decode cX10_post 18 = .ok (.dup, 1) := by decide +kernel
theorem dX10_post_19 : decode cX10_post 19 = .ok (.ldc 226, 2) := by decide +kernel
theorem dX10_post_21 : decode cX10_post 21 = .ok (.invokespecial 205, 3) := by decide +kernel
theorem dX10_post_24 : decode cX10_post 24 = .ok (.athrow, 1) := by decide +kernel
theorem dX10_post_25 : decode cX10_post 25 = .ok (.iload_n 2, 1) := by decide +kernel
theorem dX10_post_26 : decode cX10_post 26 = .ok (.bipush 6, 2) := by decide +kernel
theorem dX10_post_28 : decode cX10_post 28 = .ok (.invokestatic 152, 3) := by decide +kernel
theorem dX10_post_31 : decode cX10_post 31 = .ok (.aload_n 0, 1) := by decide +kernel
theorem dX10_post_32 : decode cX10_post 32 = .ok (.getfield 36, 3) := by decide +kernel
theorem dX10_post_35 : decode cX10_post 35 = .ok (.aload_n 0, 1) := by decide +kernel
theorem dX10_post_36 : decode cX10_post 36 = .ok (.getfield 19, 3) := by decide +kernel
theorem dX10_post_39 : decode cX10_post 39 = .ok (.iload_n 1, 1) := by decide +kernel
theorem dX10_post_40 : decode cX10_post 40 = .ok (.aload_n 0, 1) := by decide +kernel
theorem dX10_post_41 : decode cX10_post 41 = .ok (.getfield 29, 3) := by decide +kernel
theorem dX10_post_44 : decode cX10_post 44 = .ok (.invokevirtual 228, 3) := by decide +kernel
theorem dX10_post_47 : decode cX10_post 47 = .ok (.iload_n 2, 1) := by decide +kernel
theorem dX10_post_48 : decode cX10_post 48 = .ok (.tableswitch 84 0 4 #[36, 48, 60, 68, 76], 36) := by decide +kernel
theorem dX10_post_84 : decode cX10_post 84 = .ok (.aload_n 0, 1) := by decide +kernel
theorem dX10_post_85 : decode cX10_post 85 = .ok (.getfield 19, 3) := by decide +kernel
theorem dX10_post_88 : decode cX10_post 88 = .ok (.getfield 232, 3) := by decide +kernel
theorem dX10_post_91 : decode cX10_post 91 = .ok (.iload_n 1, 1) := by decide +kernel
theorem dX10_post_92 : decode cX10_post 92 = .ok (.invokestatic 159, 3) := by decide +kernel
theorem dX10_post_95 : decode cX10_post 95 = .ok (.ireturn, 1) := by decide +kernel
theorem dX10_post_96 : decode cX10_post 96 = .ok (.aload_n 0, 1) := by decide +kernel
theorem dX10_post_97 : decode cX10_post 97 = .ok (.getfield 19, 3) := by decide +kernel
theorem dX10_post_100 : decode cX10_post 100 = .ok (.getfield 235, 3) := by decide +kernel
theorem dX10_post_103 : decode cX10_post 103 = .ok (.iload_n 1, 1) := by decide +kernel
theorem dX10_post_104 : decode cX10_post 104 = .ok (.invokestatic 159, 3) := by decide +kernel
theorem dX10_post_107 : decode cX10_post 107 = .ok (.ireturn, 1) := by decide +kernel
theorem dX10_post_108 : decode cX10_post 108 = .ok (.aload_n 0, 1) := by decide +kernel
theorem dX10_post_109 : decode cX10_post 109 = .ok (.getfield 36, 3) := by decide +kernel
theorem dX10_post_112 : decode cX10_post 112 = .ok (.getfield 238, 3) := by decide +kernel
theorem dX10_post_115 : decode cX10_post 115 = .ok (.ireturn, 1) := by decide +kernel
theorem dX10_post_116 : decode cX10_post 116 = .ok (.aload_n 0, 1) := by decide +kernel
theorem dX10_post_117 : decode cX10_post 117 = .ok (.getfield 36, 3) := by decide +kernel
theorem dX10_post_120 : decode cX10_post 120 = .ok (.getfield 241, 3) := by decide +kernel
theorem dX10_post_123 : decode cX10_post 123 = .ok (.ireturn, 1) := by decide +kernel
theorem dX10_post_124 : decode cX10_post 124 = .ok (.aload_n 0, 1) := by decide +kernel
theorem dX10_post_125 : decode cX10_post 125 = .ok (.getfield 36, 3) := by decide +kernel
theorem dX10_post_128 : decode cX10_post 128 = .ok (.getfield 244, 3) := by decide +kernel
theorem dX10_post_131 : decode cX10_post 131 = .ok (.ireturn, 1) := by decide +kernel
theorem dX10_post_132 : decode cX10_post 132 = .ok (.aload_n 0, 1) := by decide +kernel
theorem dX10_post_133 : decode cX10_post 133 = .ok (.getfield 36, 3) := by decide +kernel
theorem dX10_post_136 : decode cX10_post 136 = .ok (.getfield 241, 3) := by decide +kernel
theorem dX10_post_139 : decode cX10_post 139 = .ok (.iconst (-1), 1) := by decide +kernel
theorem dX10_post_140 : decode cX10_post 140 = .ok (.if_icmp .eq 24, 3) := by decide +kernel
theorem dX10_post_143 : decode cX10_post 143 = .ok (.aload_n 0, 1) := by decide +kernel
theorem dX10_post_144 : decode cX10_post 144 = .ok (.getfield 36, 3) := by decide +kernel
theorem dX10_post_147 : decode cX10_post 147 = .ok (.getfield 241, 3) := by decide +kernel
theorem dX10_post_150 : decode cX10_post 150 = .ok (.aload_n 0, 1) := by decide +kernel
theorem dX10_post_151 : decode cX10_post 151 = .ok (.getfield 36, 3) := by decide +kernel
theorem dX10_post_154 : decode cX10_post 154 = .ok (.getfield 238, 3) := by decide +kernel
theorem dX10_post_157 : decode cX10_post 157 = .ok (.if_icmp .eq 7, 3) := by decide +kernel
theorem dX10_post_160 : decode cX10_post 160 = .ok (.iconst 1, 1) := by decide +kernel
theorem dX10_post_161 : decode cX10_post 161 = .ok (.goto 4, 3) := by decide +kernel
theorem dX10_post_164 : decode cX10_post 164 = .ok (.iconst 0, 1) := by decide +kernel
theorem dX10_post_165 : decode cX10_post 165 = .ok (.ireturn, 1) := by decide +kernel
theorem dX10_round_0 : decode cX10_round 0 = .ok (.iload_n 1, 1) := by decide +kernel
theorem dX10_round_1 : decode cX10_round 1 = .ok (.ifCond .lt 10, 3) := by decide +kernel
theorem dX10_round_4 : decode cX10_round 4 = .ok (.iload_n 1, 1) := by decide +kernel
theorem dX10_round_5 : decode cX10_round 5 = .ok (.sipush 130, 3) := by decide +kernel
theorem dX10_round_8 : decode cX10_round 8 = .ok (.if_icmp .le 13, 3) := by decide +kernel
theorem dX10_round_11 : decode cX10_round 11 = .ok (.new 201, 3) := by decide +kernel
theorem dX10_round_14 : decode cX10_round 14 = .ok (.dup, 1) := by decide +kernel
theorem dX10_round_15 : decode cX10_round 15 = .ok (.ldc 247, 2) := by decide +kernel
theorem dX10_round_17 : decode cX10_round 17 = .ok (.invokespecial 205, 3) := by decide +kernel
theorem dX10_round_20 : decode cX10_round 20 = .ok (.athrow, 1) := by decide +kernel
theorem dX10_round_21 : decode cX10_round 21 = .ok (.iconst 0, 1) := by decide +kernel
theorem dX10_round_22 : decode cX10_round 22 = .ok (.istore_n 2, 1) := by decide +kernel
theorem dX10_round_23 : decode cX10_round 23 = .ok (.iconst 0, 1) := by decide +kernel
theorem dX10_round_24 : decode cX10_round 24 = .ok (.istore_n 3, 1) := by decide +kernel
theorem dX10_round_25 : decode cX10_round 25 = .ok (.iload_n 3, 1) := by decide +kernel
theorem dX10_round_26 : decode cX10_round 26 = .ok (.aload_n 0, 1) := by decide +kernel
theorem dX10_round_27 : decode cX10_round 27 = .ok (.getfield 19, 3) := by decide +kernel
theorem dX10_round_30 : decode cX10_round 30 = .ok (.getfield 143, 3) := by decide +kernel
theorem dX10_round_33 : decode cX10_round 33 = .ok (.if_icmp .ge 58, 3) := by decide +kernel
theorem dX10_round_36 : decode cX10_round 36 = .ok (.aload_n 0, 1) := by decide +kernel
theorem dX10_round_37 : decode cX10_round 37 = .ok (.getfield 36, 3) := by decide +kernel
theorem dX10_round_40 : decode cX10_round 40 = .ok (.aload_n 0, 1) := by decide +kernel
theorem dX10_round_41 : decode cX10_round 41 = .ok (.getfield 19, 3) := by decide +kernel
theorem dX10_round_44 : decode cX10_round 44 = .ok (.iload_n 3, 1) := by decide +kernel
theorem dX10_round_45 : decode cX10_round 45 = .ok (.aload_n 0, 1) := by decide +kernel
theorem dX10_round_46 : decode cX10_round 46 = .ok (.getfield 29, 3) := by decide +kernel
theorem dX10_round_49 : decode cX10_round 49 = .ok (.invokevirtual 228, 3) := by decide +kernel
theorem dX10_round_52 : decode cX10_round 52 = .ok (.aload_n 0, 1) := by decide +kernel
theorem dX10_round_53 : decode cX10_round 53 = .ok (.getfield 36, 3) := by decide +kernel
theorem dX10_round_56 : decode cX10_round 56 = .ok (.getfield 244, 3) := by decide +kernel
theorem dX10_round_59 : decode cX10_round 59 = .ok (.iload_n 1, 1) := by decide +kernel
theorem dX10_round_60 : decode cX10_round 60 = .ok (.if_icmp .ne 25, 3) := by decide +kernel
theorem dX10_round_63 : decode cX10_round 63 = .ok (.aload_n 0, 1) := by decide +kernel
theorem dX10_round_64 : decode cX10_round 64 = .ok (.getfield 36, 3) := by decide +kernel
theorem dX10_round_67 : decode cX10_round 67 = .ok (.getfield 241, 3) := by decide +kernel
theorem dX10_round_70 : decode cX10_round 70 = .ok (.ifCond .le 15, 3) := by decide +kernel
theorem dX10_round_73 : decode cX10_round 73 = .ok (.iload_n 2, 1) := by decide +kernel
theorem dX10_round_74 : decode cX10_round 74 = .ok (.iconst 1, 1) := by decide +kernel
theorem dX10_round_75 : decode cX10_round 75 = .ok (.aload_n 0, 1) := by decide +kernel
theorem dX10_round_76 : decode cX10_round 76 = .ok (.getfield 36, 3) := by decide +kernel
theorem dX10_round_79 : decode cX10_round 79 = .ok (.getfield 241, 3) := by decide +kernel
theorem dX10_round_82 : decode cX10_round 82 = .ok (.ishl, 1) := by decide +kernel
theorem dX10_round_83 : decode cX10_round 83 = .ok (.ior, 1) := by decide +kernel
theorem dX10_round_84 : decode cX10_round 84 = .ok (.istore_n 2, 1) := by decide +kernel
theorem dX10_round_85 : decode cX10_round 85 = .ok (.iinc 3 1, 3) := by decide +kernel
theorem dX10_round_88 : decode cX10_round 88 = .ok (.goto (-63), 3) := by decide +kernel
theorem dX10_round_91 : decode cX10_round 91 = .ok (.aload_n 0, 1) := by decide +kernel
theorem dX10_round_92 : decode cX10_round 92 = .ok (.getfield 43, 3) := by decide +kernel
theorem dX10_round_95 : decode cX10_round 95 = .ok (.aload_n 0, 1) := by decide +kernel
theorem dX10_round_96 : decode cX10_round 96 = .ok (.getfield 75, 3) := by decide +kernel
theorem dX10_round_99 : decode cX10_round 99 = .ok (.iload_n 2, 1) := by decide +kernel
theorem dX10_round_100 : decode cX10_round 100 = .ok (.invokevirtual 249, 3) := by decide +kernel
theorem dX10_round_103 : decode cX10_round 103 = .ok (.ireturn, 1) := by decide +kernel
theorem dX10_rounded_0 : decode cX10_rounded 0 = .ok (.iload_n 1, 1) := by decide +kernel
theorem dX10_rounded_1 : decode cX10_rounded 1 = .ok (.ifCond .lt 14, 3) := by decide +kernel
theorem dX10_rounded_4 : decode cX10_rounded 4 = .ok (.iload_n 1, 1) := by decide +kernel
theorem dX10_rounded_5 : decode cX10_rounded 5 = .ok (.aload_n 0, 1) := by decide +kernel
theorem dX10_rounded_6 : decode cX10_rounded 6 = .ok (.getfield 43, 3) := by decide +kernel
theorem dX10_rounded_9 : decode cX10_rounded 9 = .ok (.getfield 125, 3) := by decide +kernel
theorem dX10_rounded_12 : decode cX10_rounded 12 = .ok (.if_icmp .lt 13, 3) := by decide +kernel
theorem dX10_rounded_15 : decode cX10_rounded 15 = .ok (.new 201, 3) := by decide +kernel
theorem dX10_rounded_18 : decode cX10_rounded 18 = .ok (.dup, 1) := by decide +kernel
theorem dX10_rounded_19 : decode cX10_rounded 19 = .ok (.ldc 253, 2) := by decide +kernel
theorem dX10_rounded_21 : decode cX10_rounded 21 = .ok (.invokespecial 205, 3) := by decide +kernel
theorem dX10_rounded_24 : decode cX10_rounded 24 = .ok (.athrow, 1) := by decide +kernel
theorem dX10_rounded_25 : decode cX10_rounded 25 = .ok (.aload_n 0, 1) := by decide +kernel
theorem dX10_rounded_26 : decode cX10_rounded 26 = .ok (.getfield 43, 3) := by decide +kernel
theorem dX10_rounded_29 : decode cX10_rounded 29 = .ok (.getfield 255, 3) := by decide +kernel
theorem dX10_rounded_32 : decode cX10_rounded 32 = .ok (.iload_n 1, 1) := by decide +kernel
theorem dX10_rounded_33 : decode cX10_rounded 33 = .ok (.invokestatic 159, 3) := by decide +kernel
theorem dX10_rounded_36 : decode cX10_rounded 36 = .ok (.ireturn, 1) := by decide +kernel
theorem dX10_holds_0 : decode cX10_holds 0 = .ok (.iload_n 1, 1) := by decide +kernel
theorem dX10_holds_1 : decode cX10_holds 1 = .ok (.ifCond .lt 14, 3) := by decide +kernel
theorem dX10_holds_4 : decode cX10_holds 4 = .ok (.iload_n 1, 1) := by decide +kernel
theorem dX10_holds_5 : decode cX10_holds 5 = .ok (.aload_n 0, 1) := by decide +kernel
theorem dX10_holds_6 : decode cX10_holds 6 = .ok (.getfield 75, 3) := by decide +kernel
theorem dX10_holds_9 : decode cX10_holds 9 = .ok (.getfield 137, 3) := by decide +kernel
theorem dX10_holds_12 : decode cX10_holds 12 = .ok (.if_icmp .lt 14, 3) := by decide +kernel
theorem dX10_holds_15 : decode cX10_holds 15 = .ok (.new 201, 3) := by decide +kernel
theorem dX10_holds_18 : decode cX10_holds 18 = .ok (.dup, 1) := by decide +kernel
theorem dX10_holds_19 : decode cX10_holds 19 = .ok (.ldc_w 258, 3) := by decide +kernel
theorem dX10_holds_22 : decode cX10_holds 22 = .ok (.invokespecial 205, 3) := by decide +kernel
theorem dX10_holds_25 : decode cX10_holds 25 = .ok (.athrow, 1) := by decide +kernel
theorem dX10_holds_26 : decode cX10_holds 26 = .ok (.aload_n 0, 1) := by decide +kernel
theorem dX10_holds_27 : decode cX10_holds 27 = .ok (.iload_n 2, 1) := by decide +kernel
theorem dX10_holds_28 : decode cX10_holds 28 = .ok (.invokevirtual 175, 3) := by decide +kernel
theorem dX10_holds_31 : decode cX10_holds 31 = .ok (.aload_n 0, 1) := by decide +kernel
theorem dX10_holds_32 : decode cX10_holds 32 = .ok (.getfield 29, 3) := by decide +kernel
theorem dX10_holds_35 : decode cX10_holds 35 = .ok (.aload_n 0, 1) := by decide +kernel
theorem dX10_holds_36 : decode cX10_holds 36 = .ok (.getfield 19, 3) := by decide +kernel
theorem dX10_holds_39 : decode cX10_holds 39 = .ok (.aload_n 0, 1) := by decide +kernel
theorem dX10_holds_40 : decode cX10_holds 40 = .ok (.getfield 19, 3) := by decide +kernel
theorem dX10_holds_43 : decode cX10_holds 43 = .ok (.invokevirtual 149, 3) := by decide +kernel
theorem dX10_holds_46 : decode cX10_holds 46 = .ok (.invokevirtual 212, 3) := by decide +kernel
theorem dX10_holds_49 : decode cX10_holds 49 = .ok (.aload_n 0, 1) := by decide +kernel
theorem dX10_holds_50 : decode cX10_holds 50 = .ok (.iload_n 1, 1) := by decide +kernel
theorem dX10_holds_51 : decode cX10_holds 51 = .ok (.iload_n 2, 1) := by decide +kernel
theorem dX10_holds_52 : decode cX10_holds 52 = .ok (.invokevirtual 260, 3) := by decide +kernel
theorem dX10_holds_55 : decode cX10_holds 55 = .ok (.ireturn, 1) := by decide +kernel
theorem dX10_stranger_0 : decode cX10_stranger 0 = .ok (.iload_n 2, 1) := by decide +kernel
theorem dX10_stranger_1 : decode cX10_stranger 1 = .ok (.iconst 2, 1) := by decide +kernel
theorem dX10_stranger_2 : decode cX10_stranger 2 = .ok (.invokestatic 152, 3) := by decide +kernel
theorem dX10_stranger_5 : decode cX10_stranger 5 = .ok (.iload_n 1, 1) := by decide +kernel
theorem dX10_stranger_6 : decode cX10_stranger 6 = .ok (.ifCond .lt 16, 3) := by decide +kernel
theorem dX10_stranger_9 : decode cX10_stranger 9 = .ok (.iload_n 1, 1) := by decide +kernel
theorem dX10_stranger_10 : decode cX10_stranger 10 = .ok (.iconst 1, 1) := by decide +kernel
theorem dX10_stranger_11 : decode cX10_stranger 11 = .ok (.aload_n 0, 1) := by decide +kernel
theorem dX10_stranger_12 : decode cX10_stranger 12 = .ok (.getfield 75, 3) := by decide +kernel
theorem dX10_stranger_15 : decode cX10_stranger 15 = .ok (.getfield 128, 3) := by decide +kernel
theorem dX10_stranger_18 : decode cX10_stranger 18 = .ok (.ishl, 1) := by decide +kernel
theorem dX10_stranger_19 : decode cX10_stranger 19 = .ok (.if_icmp .lt 14, 3) := by decide +kernel
theorem dX10_stranger_22 : decode cX10_stranger 22 = .ok (.new 100, 3) := by decide +kernel
theorem dX10_stranger_25 : decode cX10_stranger 25 = .ok (.dup, 1) := by decide +kernel
theorem dX10_stranger_26 : decode cX10_stranger 26 = .ok (.ldc_w 264, 3) := by decide +kernel
theorem dX10_stranger_29 : decode cX10_stranger 29 = .ok (.invokespecial 104, 3) := by decide +kernel
theorem dX10_stranger_32 : decode cX10_stranger 32 = .ok (.athrow, 1) := by decide +kernel
theorem dX10_stranger_33 : decode cX10_stranger 33 = .ok (.aload_n 0, 1) := by decide +kernel
theorem dX10_stranger_34 : decode cX10_stranger 34 = .ok (.getfield 29, 3) := by decide +kernel
theorem dX10_stranger_37 : decode cX10_stranger 37 = .ok (.aload_n 0, 1) := by decide +kernel
theorem dX10_stranger_38 : decode cX10_stranger 38 = .ok (.getfield 19, 3) := by decide +kernel
theorem dX10_stranger_41 : decode cX10_stranger 41 = .ok (.aload_n 0, 1) := by decide +kernel
theorem dX10_stranger_42 : decode cX10_stranger 42 = .ok (.getfield 19, 3) := by decide +kernel
theorem dX10_stranger_45 : decode cX10_stranger 45 = .ok (.invokevirtual 149, 3) := by decide +kernel
theorem dX10_stranger_48 : decode cX10_stranger 48 = .ok (.invokevirtual 212, 3) := by decide +kernel
theorem dX10_stranger_51 : decode cX10_stranger 51 = .ok (.iconst 0, 1) := by decide +kernel
theorem dX10_stranger_52 : decode cX10_stranger 52 = .ok (.istore_n 3, 1) := by decide +kernel
theorem dX10_stranger_53 : decode cX10_stranger 53 = .ok (.iload_n 3, 1) := by decide +kernel
theorem dX10_stranger_54 : decode cX10_stranger 54 = .ok (.aload_n 0, 1) := by decide +kernel
theorem dX10_stranger_55 : decode cX10_stranger 55 = .ok (.getfield 75, 3) := by decide +kernel
theorem dX10_stranger_58 : decode cX10_stranger 58 = .ok (.getfield 137, 3) := by decide +kernel
theorem dX10_stranger_61 : decode cX10_stranger 61 = .ok (.if_icmp .ge 26, 3) := by decide +kernel
theorem dX10_stranger_64 : decode cX10_stranger 64 = .ok (.aload_n 0, 1) := by decide +kernel
theorem dX10_stranger_65 : decode cX10_stranger 65 = .ok (.getfield 50, 3) := by decide +kernel
theorem dX10_stranger_68 : decode cX10_stranger 68 = .ok (.getfield 266, 3) := by decide +kernel
theorem dX10_stranger_71 : decode cX10_stranger 71 = .ok (.iload_n 3, 1) := by decide +kernel
theorem dX10_stranger_72 : decode cX10_stranger 72 = .ok (.aload_n 0, 1) := by decide +kernel
theorem dX10_stranger_73 : decode cX10_stranger 73 = .ok (.iload_n 3, 1) := by decide +kernel
theorem dX10_stranger_74 : decode cX10_stranger 74 = .ok (.iload_n 1, 1) := by decide +kernel
theorem dX10_stranger_75 : decode cX10_stranger 75 = .ok (.invokevirtual 269, 3) := by decide +kernel
theorem dX10_stranger_78 : decode cX10_stranger 78 = .ok (.invokestatic 182, 3) := by decide +kernel
theorem dX10_stranger_81 : decode cX10_stranger 81 = .ok (.iinc 3 1, 3) := by decide +kernel
theorem dX10_stranger_84 : decode cX10_stranger 84 = .ok (.goto (-31), 3) := by decide +kernel
theorem dX10_stranger_87 : decode cX10_stranger 87 = .ok (.aload_n 0, 1) := by decide +kernel
theorem dX10_stranger_88 : decode cX10_stranger 88 = .ok (.getfield 50, 3) := by decide +kernel
theorem dX10_stranger_91 : decode cX10_stranger 91 = .ok (.iload_n 1, 1) := by decide +kernel
theorem dX10_stranger_92 : decode cX10_stranger 92 = .ok (.aload_n 0, 1) := by decide +kernel
theorem dX10_stranger_93 : decode cX10_stranger 93 = .ok (.getfield 75, 3) := by decide +kernel
theorem dX10_stranger_96 : decode cX10_stranger 96 = .ok (.getfield 137, 3) := by decide +kernel
theorem dX10_stranger_99 : decode cX10_stranger 99 = .ok (.invokevirtual 272, 3) := by decide +kernel
theorem dX10_stranger_102 : decode cX10_stranger 102 = .ok (.istore_n 3, 1) := by decide +kernel
theorem dX10_stranger_103 : decode cX10_stranger 103 = .ok (.iload_n 3, 1) := by decide +kernel
theorem dX10_stranger_104 : decode cX10_stranger 104 = .ok (.bipush 99, 2) := by decide +kernel
theorem dX10_stranger_106 : decode cX10_stranger 106 = .ok (.if_icmp .lt 5, 3) := by decide +kernel
theorem dX10_stranger_109 : decode cX10_stranger 109 = .ok (.iconst (-1), 1) := by decide +kernel
theorem dX10_stranger_110 : decode cX10_stranger 110 = .ok (.ireturn, 1) := by decide +kernel
theorem dX10_stranger_111 : decode cX10_stranger 111 = .ok (.iload_n 2, 1) := by decide +kernel
theorem dX10_stranger_112 : decode cX10_stranger 112 = .ok (.ifCond .ne 7, 3) := by decide +kernel
theorem dX10_stranger_115 : decode cX10_stranger 115 = .ok (.iload_n 3, 1) := by decide +kernel
theorem dX10_stranger_116 : decode cX10_stranger 116 = .ok (.goto 18, 3) := by decide +kernel
theorem dX10_stranger_119 : decode cX10_stranger 119 = .ok (.aload_n 0, 1) := by decide +kernel
theorem dX10_stranger_120 : decode cX10_stranger 120 = .ok (.getfield 50, 3) := by decide +kernel
theorem dX10_stranger_123 : decode cX10_stranger 123 = .ok (.iload_n 1, 1) := by decide +kernel
theorem dX10_stranger_124 : decode cX10_stranger 124 = .ok (.aload_n 0, 1) := by decide +kernel
theorem dX10_stranger_125 : decode cX10_stranger 125 = .ok (.getfield 75, 3) := by decide +kernel
theorem dX10_stranger_128 : decode cX10_stranger 128 = .ok (.getfield 137, 3) := by decide +kernel
theorem dX10_stranger_131 : decode cX10_stranger 131 = .ok (.invokevirtual 275, 3) := by decide +kernel
theorem dX10_stranger_134 : decode cX10_stranger 134 = .ok (.ireturn, 1) := by decide +kernel
theorem dX10_write_0 : decode cX10_write 0 = .ok (.aload_n 0, 1) := by decide +kernel
theorem dX10_write_1 : decode cX10_write 1 = .ok (.iload_n 1, 1) := by decide +kernel
theorem dX10_write_2 : decode cX10_write 2 = .ok (.invokevirtual 163, 3) := by decide +kernel
theorem dX10_write_5 : decode cX10_write 5 = .ok (.aload_n 0, 1) := by decide +kernel
theorem dX10_write_6 : decode cX10_write 6 = .ok (.getfield 19, 3) := by decide +kernel
theorem dX10_write_9 : decode cX10_write 9 = .ok (.getfield 146, 3) := by decide +kernel
theorem dX10_write_12 : decode cX10_write 12 = .ok (.bipush 40, 2) := by decide +kernel
theorem dX10_write_14 : decode cX10_write 14 = .ok (.if_icmp .lt 13, 3) := by decide +kernel
theorem dX10_write_17 : decode cX10_write 17 = .ok (.aload_n 0, 1) := by decide +kernel
theorem dX10_write_18 : decode cX10_write 18 = .ok (.getfield 19, 3) := by decide +kernel
theorem dX10_write_21 : decode cX10_write 21 = .ok (.iconst 3, 1) := by decide +kernel
theorem dX10_write_22 : decode cX10_write 22 = .ok (.invokevirtual 115, 3) := by decide +kernel
theorem dX10_write_25 : decode cX10_write 25 = .ok (.iconst (-1), 1) := by decide +kernel
theorem dX10_write_26 : decode cX10_write 26 = .ok (.ireturn, 1) := by decide +kernel
theorem dX10_write_27 : decode cX10_write 27 = .ok (.aload_n 0, 1) := by decide +kernel
theorem dX10_write_28 : decode cX10_write 28 = .ok (.getfield 19, 3) := by decide +kernel
theorem dX10_write_31 : decode cX10_write 31 = .ok (.getfield 278, 3) := by decide +kernel
theorem dX10_write_34 : decode cX10_write 34 = .ok (.aload_n 0, 1) := by decide +kernel
theorem dX10_write_35 : decode cX10_write 35 = .ok (.getfield 19, 3) := by decide +kernel
theorem dX10_write_38 : decode cX10_write 38 = .ok (.getfield 146, 3) := by decide +kernel
theorem dX10_write_41 : decode cX10_write 41 = .ok (.iload_n 1, 1) := by decide +kernel
theorem dX10_write_42 : decode cX10_write 42 = .ok (.invokestatic 182, 3) := by decide +kernel
theorem dX10_write_45 : decode cX10_write 45 = .ok (.aload_n 0, 1) := by decide +kernel
theorem dX10_write_46 : decode cX10_write 46 = .ok (.getfield 19, 3) := by decide +kernel
theorem dX10_write_49 : decode cX10_write 49 = .ok (.dup, 1) := by decide +kernel
theorem dX10_write_50 : decode cX10_write 50 = .ok (.getfield 146, 3) := by decide +kernel
theorem dX10_write_53 : decode cX10_write 53 = .ok (.iconst 1, 1) := by decide +kernel
theorem dX10_write_54 : decode cX10_write 54 = .ok (.iadd, 1) := by decide +kernel
theorem dX10_write_55 : decode cX10_write 55 = .ok (.putfield 146, 3) := by decide +kernel
theorem dX10_write_58 : decode cX10_write 58 = .ok (.aload_n 0, 1) := by decide +kernel
theorem dX10_write_59 : decode cX10_write 59 = .ok (.getfield 19, 3) := by decide +kernel
theorem dX10_write_62 : decode cX10_write 62 = .ok (.getfield 146, 3) := by decide +kernel
theorem dX10_write_65 : decode cX10_write 65 = .ok (.ireturn, 1) := by decide +kernel
theorem dX10_clear_0 : decode cX10_clear 0 = .ok (.aload_n 0, 1) := by decide +kernel
theorem dX10_clear_1 : decode cX10_clear 1 = .ok (.getfield 19, 3) := by decide +kernel
theorem dX10_clear_4 : decode cX10_clear 4 = .ok (.getfield 146, 3) := by decide +kernel
theorem dX10_clear_7 : decode cX10_clear 7 = .ok (.istore_n 1, 1) := by decide +kernel
theorem dX10_clear_8 : decode cX10_clear 8 = .ok (.aload_n 0, 1) := by decide +kernel
theorem dX10_clear_9 : decode cX10_clear 9 = .ok (.getfield 19, 3) := by decide +kernel
theorem dX10_clear_12 : decode cX10_clear 12 = .ok (.iconst 0, 1) := by decide +kernel
theorem dX10_clear_13 : decode cX10_clear 13 = .ok (.putfield 146, 3) := by decide +kernel
theorem dX10_clear_16 : decode cX10_clear 16 = .ok (.iload_n 1, 1) := by decide +kernel
theorem dX10_clear_17 : decode cX10_clear 17 = .ok (.ireturn, 1) := by decide +kernel
theorem dX10_register_0 : decode cX10_register 0 = .ok (.iload_n 1, 1) := by decide +kernel
theorem dX10_register_1 : decode cX10_register 1 = .ok (.ifCond .lt 9, 3) := by decide +kernel
theorem dX10_register_4 : decode cX10_register 4 = .ok (.iload_n 1, 1) := by decide +kernel
theorem dX10_register_5 : decode cX10_register 5 = .ok (.bipush 100, 2) := by decide +kernel
theorem dX10_register_7 : decode cX10_register 7 = .ok (.if_icmp .lt 13, 3) := by decide +kernel
theorem dX10_register_10 : decode cX10_register 10 = .ok (.new 201, 3) := by decide +kernel
theorem dX10_register_13 : decode cX10_register 13 = .ok (.dup, 1) := by decide +kernel
theorem dX10_register_14 : decode cX10_register 14 = .ok (.ldc 247, 2) := by decide +kernel
theorem dX10_register_16 : decode cX10_register 16 = .ok (.invokespecial 205, 3) := by decide +kernel
theorem dX10_register_19 : decode cX10_register 19 = .ok (.athrow, 1) := by decide +kernel
theorem dX10_register_20 : decode cX10_register 20 = .ok (.iload_n 2, 1) := by decide +kernel
theorem dX10_register_21 : decode cX10_register 21 = .ok (.iconst 3, 1) := by decide +kernel
theorem dX10_register_22 : decode cX10_register 22 = .ok (.invokestatic 152, 3) := by decide +kernel
theorem dX10_register_25 : decode cX10_register 25 = .ok (.aload_n 0, 1) := by decide +kernel
theorem dX10_register_26 : decode cX10_register 26 = .ok (.getfield 57, 3) := by decide +kernel
theorem dX10_register_29 : decode cX10_register 29 = .ok (.aload_n 0, 1) := by decide +kernel
theorem dX10_register_30 : decode cX10_register 30 = .ok (.getfield 19, 3) := by decide +kernel
theorem dX10_register_33 : decode cX10_register 33 = .ok (.iload_n 1, 1) := by decide +kernel
theorem dX10_register_34 : decode cX10_register 34 = .ok (.invokevirtual 281, 3) := by decide +kernel
theorem dX10_register_37 : decode cX10_register 37 = .ok (.iload_n 2, 1) := by decide +kernel
theorem dX10_register_38 : decode cX10_register 38 = .ok (.ifCond .ne 11, 3) := by decide +kernel
theorem dX10_register_41 : decode cX10_register 41 = .ok (.aload_n 0, 1) := by decide +kernel
theorem dX10_register_42 : decode cX10_register 42 = .ok (.getfield 57, 3) := by decide +kernel
theorem dX10_register_45 : decode cX10_register 45 = .ok (.getfield 284, 3) := by decide +kernel
theorem dX10_register_48 : decode cX10_register 48 = .ok (.ireturn, 1) := by decide +kernel
theorem dX10_register_49 : decode cX10_register 49 = .ok (.iload_n 2, 1) := by decide +kernel
theorem dX10_register_50 : decode cX10_register 50 = .ok (.iconst 1, 1) := by decide +kernel
theorem dX10_register_51 : decode cX10_register 51 = .ok (.if_icmp .ne 13, 3) := by decide +kernel
theorem dX10_register_54 : decode cX10_register 54 = .ok (.aload_n 0, 1) := by decide +kernel
theorem dX10_register_55 : decode cX10_register 55 = .ok (.getfield 57, 3) := by decide +kernel
theorem dX10_register_58 : decode cX10_register 58 = .ok (.getfield 287, 3) := by decide +kernel
theorem dX10_register_61 : decode cX10_register 61 = .ok (.goto 10, 3) := by decide +kernel
theorem dX10_register_64 : decode cX10_register 64 = .ok (.aload_n 0, 1) := by decide +kernel
theorem dX10_register_65 : decode cX10_register 65 = .ok (.getfield 57, 3) := by decide +kernel
theorem dX10_register_68 : decode cX10_register 68 = .ok (.getfield 290, 3) := by decide +kernel
theorem dX10_register_71 : decode cX10_register 71 = .ok (.ireturn, 1) := by decide +kernel
theorem dX10_will_0 : decode cX10_will 0 = .ok (.aload_n 0, 1) := by decide +kernel
theorem dX10_will_1 : decode cX10_will 1 = .ok (.iload_n 1, 1) := by decide +kernel
theorem dX10_will_2 : decode cX10_will 2 = .ok (.invokevirtual 163, 3) := by decide +kernel
theorem dX10_will_5 : decode cX10_will 5 = .ok (.aload_n 0, 1) := by decide +kernel
theorem dX10_will_6 : decode cX10_will 6 = .ok (.iload_n 2, 1) := by decide +kernel
theorem dX10_will_7 : decode cX10_will 7 = .ok (.invokevirtual 175, 3) := by decide +kernel
theorem dX10_will_10 : decode cX10_will 10 = .ok (.iload_n 3, 1) := by decide +kernel
theorem dX10_will_11 : decode cX10_will 11 = .ok (.invokestatic 209, 3) := by decide +kernel
theorem dX10_will_14 : decode cX10_will 14 = .ok (.iload 4, 2) := by decide +kernel
theorem dX10_will_16 : decode cX10_will 16 = .ok (.invokestatic 209, 3) := by decide +kernel
theorem dX10_will_19 : decode cX10_will 19 = .ok (.iload 5, 2) := by decide +kernel
theorem dX10_will_21 : decode cX10_will 21 = .ok (.iconst 2, 1) := by decide +kernel
theorem dX10_will_22 : decode cX10_will 22 = .ok (.invokestatic 152, 3) := by decide +kernel
theorem dX10_will_25 : decode cX10_will 25 = .ok (.iload_n 3, 1) := by decide +kernel
theorem dX10_will_26 : decode cX10_will 26 = .ok (.iload 4, 2) := by decide +kernel
theorem dX10_will_28 : decode cX10_will 28 = .ok (.if_icmp .le 14, 3) := by decide +kernel
theorem dX10_will_31 : decode cX10_will 31 = .ok (.new 100, 3) := by decide +kernel
theorem dX10_will_34 : decode cX10_will 34 = .ok (.dup, 1) := by decide +kernel
theorem dX10_will_35 : decode cX10_will 35 = .ok (.ldc_w 293, 3) := by decide +kernel
theorem dX10_will_38 : decode cX10_will 38 = .ok (.invokespecial 104, 3) := by decide +kernel
theorem dX10_will_41 : decode cX10_will 41 = .ok (.athrow, 1) := by decide +kernel
theorem dX10_will_42 : decode cX10_will 42 = .ok (.aload_n 0, 1) := by decide +kernel
theorem dX10_will_43 : decode cX10_will 43 = .ok (.getfield 19, 3) := by decide +kernel
theorem dX10_will_46 : decode cX10_will 46 = .ok (.iload_n 2, 1) := by decide +kernel
theorem dX10_will_47 : decode cX10_will 47 = .ok (.iload_n 1, 1) := by decide +kernel
theorem dX10_will_48 : decode cX10_will 48 = .ok (.iload_n 3, 1) := by decide +kernel
theorem dX10_will_49 : decode cX10_will 49 = .ok (.iload 4, 2) := by decide +kernel
theorem dX10_will_51 : decode cX10_will 51 = .ok (.invokevirtual 295, 3) := by decide +kernel
theorem dX10_will_54 : decode cX10_will 54 = .ok (.istore 6, 2) := by decide +kernel
theorem dX10_will_56 : decode cX10_will 56 = .ok (.iload 5, 2) := by decide +kernel
theorem dX10_will_58 : decode cX10_will 58 = .ok (.ifCond .ne 6, 3) := by decide +kernel
theorem dX10_will_61 : decode cX10_will 61 = .ok (.iload 6, 2) := by decide +kernel
theorem dX10_will_63 : decode cX10_will 63 = .ok (.ireturn, 1) := by decide +kernel
theorem dX10_will_64 : decode cX10_will 64 = .ok (.iconst 0, 1) := by decide +kernel
theorem dX10_will_65 : decode cX10_will 65 = .ok (.istore 7, 2) := by decide +kernel
theorem dX10_will_67 : decode cX10_will 67 = .ok (.iconst 0, 1) := by decide +kernel
theorem dX10_will_68 : decode cX10_will 68 = .ok (.istore 8, 2) := by decide +kernel
theorem dX10_will_70 : decode cX10_will 70 = .ok (.iload 8, 2) := by decide +kernel
theorem dX10_will_72 : decode cX10_will 72 = .ok (.aload_n 0, 1) := by decide +kernel
theorem dX10_will_73 : decode cX10_will 73 = .ok (.getfield 75, 3) := by decide +kernel
theorem dX10_will_76 : decode cX10_will 76 = .ok (.getfield 128, 3) := by decide +kernel
theorem dX10_will_79 : decode cX10_will 79 = .ok (.if_icmp .ge 27, 3) := by decide +kernel
theorem dX10_will_82 : decode cX10_will 82 = .ok (.iload 7, 2) := by decide +kernel
theorem dX10_will_84 : decode cX10_will 84 = .ok (.aload_n 0, 1) := by decide +kernel
theorem dX10_will_85 : decode cX10_will 85 = .ok (.getfield 19, 3) := by decide +kernel
theorem dX10_will_88 : decode cX10_will 88 = .ok (.iload 8, 2) := by decide +kernel
theorem dX10_will_90 : decode cX10_will 90 = .ok (.iload_n 1, 1) := by decide +kernel
theorem dX10_will_91 : decode cX10_will 91 = .ok (.iload_n 3, 1) := by decide +kernel
theorem dX10_will_92 : decode cX10_will 92 = .ok (.iload 4, 2) := by decide +kernel
theorem dX10_will_94 : decode cX10_will 94 = .ok (.invokevirtual 295, 3) := by decide +kernel
theorem dX10_will_97 : decode cX10_will 97 = .ok (.iadd, 1) := by decide +kernel
theorem dX10_will_98 : decode cX10_will 98 = .ok (.istore 7, 2) := by decide +kernel
theorem dX10_will_100 : decode cX10_will 100 = .ok (.iinc 8 1, 3) := by decide +kernel
theorem dX10_will_103 : decode cX10_will 103 = .ok (.goto (-33), 3) := by decide +kernel
theorem dX10_will_106 : decode cX10_will 106 = .ok (.iload 7, 2) := by decide +kernel
theorem dX10_will_108 : decode cX10_will 108 = .ok (.ifCond .ne 7, 3) := by decide +kernel
theorem dX10_will_111 : decode cX10_will 111 = .ok (.iconst 0, 1) := by decide +kernel
theorem dX10_will_112 : decode cX10_will 112 = .ok (.goto 12, 3) := by decide +kernel
theorem dX10_will_115 : decode cX10_will 115 = .ok (.iload 6, 2) := by decide +kernel
theorem dX10_will_117 : decode cX10_will 117 = .ok (.sipush 1000, 3) := by decide +kernel
theorem dX10_will_120 : decode cX10_will 120 = .ok (.imul, 1) := by decide +kernel
theorem dX10_will_121 : decode cX10_will 121 = .ok (.iload 7, 2) := by decide +kernel
theorem dX10_will_123 : decode cX10_will 123 = .ok (.idiv, 1) := by decide +kernel
theorem dX10_will_124 : decode cX10_will 124 = .ok (.ireturn, 1) := by decide +kernel
theorem dX10_last_0 : decode cX10_last 0 = .ok (.aload_n 0, 1) := by decide +kernel
theorem dX10_last_1 : decode cX10_last 1 = .ok (.iload_n 1, 1) := by decide +kernel
theorem dX10_last_2 : decode cX10_last 2 = .ok (.invokevirtual 163, 3) := by decide +kernel
theorem dX10_last_5 : decode cX10_last 5 = .ok (.aload_n 0, 1) := by decide +kernel
theorem dX10_last_6 : decode cX10_last 6 = .ok (.getfield 64, 3) := by decide +kernel
theorem dX10_last_9 : decode cX10_last 9 = .ok (.aload_n 0, 1) := by decide +kernel
theorem dX10_last_10 : decode cX10_last 10 = .ok (.getfield 75, 3) := by decide +kernel
theorem dX10_last_13 : decode cX10_last 13 = .ok (.aload_n 0, 1) := by decide +kernel
theorem dX10_last_14 : decode cX10_last 14 = .ok (.getfield 19, 3) := by decide +kernel
theorem dX10_last_17 : decode cX10_last 17 = .ok (.getfield 166, 3) := by decide +kernel
theorem dX10_last_20 : decode cX10_last 20 = .ok (.iload_n 1, 1) := by decide +kernel
theorem dX10_last_21 : decode cX10_last 21 = .ok (.invokevirtual 299, 3) := by decide +kernel
theorem dX10_last_24 : decode cX10_last 24 = .ok (.ireturn, 1) := by decide +kernel
theorem dX10_nobody_0 : decode cX10_nobody 0 = .ok (.aload_n 0, 1) := by decide +kernel
theorem dX10_nobody_1 : decode cX10_nobody 1 = .ok (.iload_n 1, 1) := by decide +kernel
theorem dX10_nobody_2 : decode cX10_nobody 2 = .ok (.invokevirtual 175, 3) := by decide +kernel
theorem dX10_nobody_5 : decode cX10_nobody 5 = .ok (.aload_n 0, 1) := by decide +kernel
theorem dX10_nobody_6 : decode cX10_nobody 6 = .ok (.getfield 64, 3) := by decide +kernel
theorem dX10_nobody_9 : decode cX10_nobody 9 = .ok (.aload_n 0, 1) := by decide +kernel
theorem dX10_nobody_10 : decode cX10_nobody 10 = .ok (.getfield 75, 3) := by decide +kernel
theorem dX10_nobody_13 : decode cX10_nobody 13 = .ok (.aload_n 0, 1) := by decide +kernel
theorem dX10_nobody_14 : decode cX10_nobody 14 = .ok (.getfield 19, 3) := by decide +kernel
theorem dX10_nobody_17 : decode cX10_nobody 17 = .ok (.getfield 166, 3) := by decide +kernel
theorem dX10_nobody_20 : decode cX10_nobody 20 = .ok (.iload_n 1, 1) := by decide +kernel
theorem dX10_nobody_21 : decode cX10_nobody 21 = .ok (.invokevirtual 303, 3) := by decide +kernel
theorem dX10_nobody_24 : decode cX10_nobody 24 = .ok (.ireturn, 1) := by decide +kernel
theorem dX10_behind_0 : decode cX10_behind 0 = .ok (.aload_n 0, 1) := by decide +kernel
theorem dX10_behind_1 : decode cX10_behind 1 = .ok (.iload_n 1, 1) := by decide +kernel
theorem dX10_behind_2 : decode cX10_behind 2 = .ok (.invokevirtual 175, 3) := by decide +kernel
theorem dX10_behind_5 : decode cX10_behind 5 = .ok (.iload_n 2, 1) := by decide +kernel
theorem dX10_behind_6 : decode cX10_behind 6 = .ok (.iconst (-1), 1) := by decide +kernel
theorem dX10_behind_7 : decode cX10_behind 7 = .ok (.if_icmp .eq 8, 3) := by decide +kernel
theorem dX10_behind_10 : decode cX10_behind 10 = .ok (.aload_n 0, 1) := by decide +kernel
theorem dX10_behind_11 : decode cX10_behind 11 = .ok (.iload_n 2, 1) := by decide +kernel
theorem dX10_behind_12 : decode cX10_behind 12 = .ok (.invokevirtual 163, 3) := by decide +kernel
theorem dX10_behind_15 : decode cX10_behind 15 = .ok (.iload_n 3, 1) := by decide +kernel
theorem dX10_behind_16 : decode cX10_behind 16 = .ok (.ifCond .lt 9, 3) := by decide +kernel
theorem dX10_behind_19 : decode cX10_behind 19 = .ok (.iload_n 3, 1) := by decide +kernel
theorem dX10_behind_20 : decode cX10_behind 20 = .ok (.bipush 100, 2) := by decide +kernel
theorem dX10_behind_22 : decode cX10_behind 22 = .ok (.if_icmp .le 14, 3) := by decide +kernel
theorem dX10_behind_25 : decode cX10_behind 25 = .ok (.new 100, 3) := by decide +kernel
theorem dX10_behind_28 : decode cX10_behind 28 = .ok (.dup, 1) := by decide +kernel
theorem dX10_behind_29 : decode cX10_behind 29 = .ok (.ldc_w 306, 3) := by decide +kernel
theorem dX10_behind_32 : decode cX10_behind 32 = .ok (.invokespecial 104, 3) := by decide +kernel
theorem dX10_behind_35 : decode cX10_behind 35 = .ok (.athrow, 1) := by decide +kernel
theorem dX10_behind_36 : decode cX10_behind 36 = .ok (.aload_n 0, 1) := by decide +kernel
theorem dX10_behind_37 : decode cX10_behind 37 = .ok (.getfield 29, 3) := by decide +kernel
theorem dX10_behind_40 : decode cX10_behind 40 = .ok (.aload_n 0, 1) := by decide +kernel
theorem dX10_behind_41 : decode cX10_behind 41 = .ok (.getfield 19, 3) := by decide +kernel
theorem dX10_behind_44 : decode cX10_behind 44 = .ok (.aload_n 0, 1) := by decide +kernel
theorem dX10_behind_45 : decode cX10_behind 45 = .ok (.getfield 19, 3) := by decide +kernel
theorem dX10_behind_48 : decode cX10_behind 48 = .ok (.invokevirtual 149, 3) := by decide +kernel
theorem dX10_behind_51 : decode cX10_behind 51 = .ok (.invokevirtual 212, 3) := by decide +kernel
theorem dX10_behind_54 : decode cX10_behind 54 = .ok (.iconst 0, 1) := by decide +kernel
theorem dX10_behind_55 : decode cX10_behind 55 = .ok (.istore 4, 2) := by decide +kernel
theorem dX10_behind_57 : decode cX10_behind 57 = .ok (.iload_n 2, 1) := by decide +kernel
theorem dX10_behind_58 : decode cX10_behind 58 = .ok (.iconst (-1), 1) := by decide +kernel
theorem dX10_behind_59 : decode cX10_behind 59 = .ok (.if_icmp .eq 39, 3) := by decide +kernel
theorem dX10_behind_62 : decode cX10_behind 62 = .ok (.aload_n 0, 1) := by decide +kernel
theorem dX10_behind_63 : decode cX10_behind 63 = .ok (.getfield 19, 3) := by decide +kernel
theorem dX10_behind_66 : decode cX10_behind 66 = .ok (.getfield 166, 3) := by decide +kernel
theorem dX10_behind_69 : decode cX10_behind 69 = .ok (.iload_n 2, 1) := by decide +kernel
theorem dX10_behind_70 : decode cX10_behind 70 = .ok (.invokestatic 159, 3) := by decide +kernel
theorem dX10_behind_73 : decode cX10_behind 73 = .ok (.iload_n 1, 1) := by decide +kernel
theorem dX10_behind_74 : decode cX10_behind 74 = .ok (.if_icmp .ne 24, 3) := by decide +kernel
theorem dX10_behind_77 : decode cX10_behind 77 = .ok (.aload_n 0, 1) := by decide +kernel
theorem dX10_behind_78 : decode cX10_behind 78 = .ok (.getfield 64, 3) := by decide +kernel
theorem dX10_behind_81 : decode cX10_behind 81 = .ok (.aload_n 0, 1) := by decide +kernel
theorem dX10_behind_82 : decode cX10_behind 82 = .ok (.getfield 75, 3) := by decide +kernel
theorem dX10_behind_85 : decode cX10_behind 85 = .ok (.aload_n 0, 1) := by decide +kernel
theorem dX10_behind_86 : decode cX10_behind 86 = .ok (.getfield 19, 3) := by decide +kernel
theorem dX10_behind_89 : decode cX10_behind 89 = .ok (.getfield 166, 3) := by decide +kernel
theorem dX10_behind_92 : decode cX10_behind 92 = .ok (.iload_n 2, 1) := by decide +kernel
theorem dX10_behind_93 : decode cX10_behind 93 = .ok (.invokevirtual 299, 3) := by decide +kernel
theorem dX10_behind_96 : decode cX10_behind 96 = .ok (.istore 4, 2) := by decide +kernel
theorem dX10_behind_98 : decode cX10_behind 98 = .ok (.aload_n 0, 1) := by decide +kernel
theorem dX10_behind_99 : decode cX10_behind 99 = .ok (.getfield 64, 3) := by decide +kernel
theorem dX10_behind_102 : decode cX10_behind 102 = .ok (.aload_n 0, 1) := by decide +kernel
theorem dX10_behind_103 : decode cX10_behind 103 = .ok (.getfield 75, 3) := by decide +kernel
theorem dX10_behind_106 : decode cX10_behind 106 = .ok (.aload_n 0, 1) := by decide +kernel
theorem dX10_behind_107 : decode cX10_behind 107 = .ok (.getfield 19, 3) := by decide +kernel
theorem dX10_behind_110 : decode cX10_behind 110 = .ok (.getfield 166, 3) := by decide +kernel
theorem dX10_behind_113 : decode cX10_behind 113 = .ok (.iload_n 1, 1) := by decide +kernel
theorem dX10_behind_114 : decode cX10_behind 114 = .ok (.invokevirtual 303, 3) := by decide +kernel
theorem dX10_behind_117 : decode cX10_behind 117 = .ok (.i2l, 1) := by decide +kernel
theorem dX10_behind_118 : decode cX10_behind 118 = .ok (.lstore 5, 2) := by decide +kernel
theorem dX10_behind_120 : decode cX10_behind 120 = .ok (.aload_n 0, 1) := by decide +kernel
theorem dX10_behind_121 : decode cX10_behind 121 = .ok (.getfield 29, 3) := by decide +kernel
theorem dX10_behind_124 : decode cX10_behind 124 = .ok (.aload_n 0, 1) := by decide +kernel
theorem dX10_behind_125 : decode cX10_behind 125 = .ok (.getfield 19, 3) := by decide +kernel
theorem dX10_behind_128 : decode cX10_behind 128 = .ok (.iload_n 1, 1) := by decide +kernel
theorem dX10_behind_129 : decode cX10_behind 129 = .ok (.invokevirtual 216, 3) := by decide +kernel
theorem dX10_behind_132 : decode cX10_behind 132 = .ok (.iload_n 2, 1) := by decide +kernel
theorem dX10_behind_133 : decode cX10_behind 133 = .ok (.if_icmp .ne 9, 3) := by decide +kernel
theorem dX10_behind_136 : decode cX10_behind 136 = .ok (.ldc2_w 308, 3) := by decide +kernel
theorem dX10_behind_139 : decode cX10_behind 139 = .ok (.goto 4, 3) := by decide +kernel
theorem dX10_behind_142 : decode cX10_behind 142 = .ok (.lconst 0, 1) := by decide +kernel
theorem dX10_behind_143 : decode cX10_behind 143 = .ok (.lstore 7, 2) := by decide +kernel
theorem dX10_behind_145 : decode cX10_behind 145 = .ok (.iconst 0, 1) := by decide +kernel
theorem dX10_behind_146 : decode cX10_behind 146 = .ok (.istore 9, 2) := by decide +kernel
theorem dX10_behind_148 : decode cX10_behind 148 = .ok (.iload 9, 2) := by decide +kernel
theorem dX10_behind_150 : decode cX10_behind 150 = .ok (.iload_n 3, 1) := by decide +kernel
theorem dX10_behind_151 : decode cX10_behind 151 = .ok (.if_icmp .ge 24, 3) := by decide +kernel
theorem dX10_behind_154 : decode cX10_behind 154 = .ok (.lload 7, 2) := by decide +kernel
theorem dX10_behind_156 : decode cX10_behind 156 = .ok (.lload 5, 2) := by decide +kernel
theorem dX10_behind_158 : decode cX10_behind 158 = .ok (.lmul, 1) := by decide +kernel
theorem dX10_behind_159 : decode cX10_behind 159 = .ok (.ldc2_w 308, 3) := by decide +kernel
theorem dX10_behind_162 : decode cX10_behind 162 = .ok (.ldiv, 1) := by decide +kernel
theorem dX10_behind_163 : decode cX10_behind 163 = .ok (.iload 4, 2) := by decide +kernel
theorem dX10_behind_165 : decode cX10_behind 165 = .ok (.i2l, 1) := by decide +kernel
theorem dX10_behind_166 : decode cX10_behind 166 = .ok (.ladd, 1) := by decide +kernel
theorem dX10_behind_167 : decode cX10_behind 167 = .ok (.lstore 7, 2) := by decide +kernel
theorem dX10_behind_169 : decode cX10_behind 169 = .ok (.iinc 9 1, 3) := by decide +kernel
theorem dX10_behind_172 : decode cX10_behind 172 = .ok (.goto (-24), 3) := by decide +kernel
theorem dX10_behind_175 : decode cX10_behind 175 = .ok (.lload 7, 2) := by decide +kernel
theorem dX10_behind_177 : decode cX10_behind 177 = .ok (.l2i, 1) := by decide +kernel
theorem dX10_behind_178 : decode cX10_behind 178 = .ok (.ireturn, 1) := by decide +kernel
theorem dX10_dry_0 : decode cX10_dry 0 = .ok (.iload_n 1, 1) := by decide +kernel
theorem dX10_dry_1 : decode cX10_dry 1 = .ok (.iconst 1, 1) := by decide +kernel
theorem dX10_dry_2 : decode cX10_dry 2 = .ok (.if_icmp .lt 9, 3) := by decide +kernel
theorem dX10_dry_5 : decode cX10_dry 5 = .ok (.iload_n 1, 1) := by decide +kernel
theorem dX10_dry_6 : decode cX10_dry 6 = .ok (.bipush 99, 2) := by decide +kernel
theorem dX10_dry_8 : decode cX10_dry 8 = .ok (.if_icmp .le 14, 3) := by decide +kernel
theorem dX10_dry_11 : decode cX10_dry 11 = .ok (.new 100, 3) := by decide +kernel
theorem dX10_dry_14 : decode cX10_dry 14 = .ok (.dup, 1) := by decide +kernel
theorem dX10_dry_15 : decode cX10_dry 15 = .ok (.ldc_w 310, 3) := by decide +kernel
theorem dX10_dry_18 : decode cX10_dry 18 = .ok (.invokespecial 104, 3) := by decide +kernel
theorem dX10_dry_21 : decode cX10_dry 21 = .ok (.athrow, 1) := by decide +kernel
theorem dX10_dry_22 : decode cX10_dry 22 = .ok (.iconst 1, 1) := by decide +kernel
theorem dX10_dry_23 : decode cX10_dry 23 = .ok (.aload_n 0, 1) := by decide +kernel
theorem dX10_dry_24 : decode cX10_dry 24 = .ok (.getfield 75, 3) := by decide +kernel
theorem dX10_dry_27 : decode cX10_dry 27 = .ok (.getfield 128, 3) := by decide +kernel
theorem dX10_dry_30 : decode cX10_dry 30 = .ok (.ishl, 1) := by decide +kernel
theorem dX10_dry_31 : decode cX10_dry 31 = .ok (.iconst 1, 1) := by decide +kernel
theorem dX10_dry_32 : decode cX10_dry 32 = .ok (.isub, 1) := by decide +kernel
theorem dX10_dry_33 : decode cX10_dry 33 = .ok (.aload_n 0, 1) := by decide +kernel
theorem dX10_dry_34 : decode cX10_dry 34 = .ok (.getfield 19, 3) := by decide +kernel
theorem dX10_dry_37 : decode cX10_dry 37 = .ok (.aload_n 0, 1) := by decide +kernel
theorem dX10_dry_38 : decode cX10_dry 38 = .ok (.getfield 19, 3) := by decide +kernel
theorem dX10_dry_41 : decode cX10_dry 41 = .ok (.invokevirtual 149, 3) := by decide +kernel
theorem dX10_dry_44 : decode cX10_dry 44 = .ok (.bipush 24, 2) := by decide +kernel
theorem dX10_dry_46 : decode cX10_dry 46 = .ok (.iload_n 1, 1) := by decide +kernel
theorem dX10_dry_47 : decode cX10_dry 47 = .ok (.imul, 1) := by decide +kernel
theorem dX10_dry_48 : decode cX10_dry 48 = .ok (.isub, 1) := by decide +kernel
theorem dX10_dry_49 : decode cX10_dry 49 = .ok (.invokevirtual 312, 3) := by decide +kernel
theorem dX10_dry_52 : decode cX10_dry 52 = .ok (.iconst (-1), 1) := by decide +kernel
theorem dX10_dry_53 : decode cX10_dry 53 = .ok (.ixor, 1) := by decide +kernel
theorem dX10_dry_54 : decode cX10_dry 54 = .ok (.iand, 1) := by decide +kernel
theorem dX10_dry_55 : decode cX10_dry 55 = .ok (.ireturn, 1) := by decide +kernel
theorem dX10_mourner_0 : decode cX10_mourner 0 = .ok (.aload_n 0, 1) := by decide +kernel
theorem dX10_mourner_1 : decode cX10_mourner 1 = .ok (.iload_n 1, 1) := by decide +kernel
theorem dX10_mourner_2 : decode cX10_mourner 2 = .ok (.invokevirtual 175, 3) := by decide +kernel
theorem dX10_mourner_5 : decode cX10_mourner 5 = .ok (.aload_n 0, 1) := by decide +kernel
theorem dX10_mourner_6 : decode cX10_mourner 6 = .ok (.getfield 19, 3) := by decide +kernel
theorem dX10_mourner_9 : decode cX10_mourner 9 = .ok (.invokevirtual 149, 3) := by decide +kernel
theorem dX10_mourner_12 : decode cX10_mourner 12 = .ok (.istore_n 2, 1) := by decide +kernel
theorem dX10_mourner_13 : decode cX10_mourner 13 = .ok (.aload_n 0, 1) := by decide +kernel
theorem dX10_mourner_14 : decode cX10_mourner 14 = .ok (.iload_n 1, 1) := by decide +kernel
theorem dX10_mourner_15 : decode cX10_mourner 15 = .ok (.bipush 99, 2) := by decide +kernel
theorem dX10_mourner_17 : decode cX10_mourner 17 = .ok (.iconst 0, 1) := by decide +kernel
theorem dX10_mourner_18 : decode cX10_mourner 18 = .ok (.iconst 1, 1) := by decide +kernel
theorem dX10_mourner_19 : decode cX10_mourner 19 = .ok (.iload_n 2, 1) := by decide +kernel
theorem dX10_mourner_20 : decode cX10_mourner 20 = .ok (.aload_n 0, 1) := by decide +kernel
theorem dX10_mourner_21 : decode cX10_mourner 21 = .ok (.getfield 19, 3) := by decide +kernel
theorem dX10_mourner_24 : decode cX10_mourner 24 = .ok (.iload_n 1, 1) := by decide +kernel
theorem dX10_mourner_25 : decode cX10_mourner 25 = .ok (.iload_n 2, 1) := by decide +kernel
theorem dX10_mourner_26 : decode cX10_mourner 26 = .ok (.bipush 24, 2) := by decide +kernel
theorem dX10_mourner_28 : decode cX10_mourner 28 = .ok (.idiv, 1) := by decide +kernel
theorem dX10_mourner_29 : decode cX10_mourner 29 = .ok (.invokevirtual 186, 3) := by decide +kernel
theorem dX10_mourner_32 : decode cX10_mourner 32 = .ok (.invokevirtual 189, 3) := by decide +kernel
theorem dX10_mourner_35 : decode cX10_mourner 35 = .ok (.aload_n 0, 1) := by decide +kernel
theorem dX10_mourner_36 : decode cX10_mourner 36 = .ok (.getfield 75, 3) := by decide +kernel
theorem dX10_mourner_39 : decode cX10_mourner 39 = .ok (.aload_n 0, 1) := by decide +kernel
theorem dX10_mourner_40 : decode cX10_mourner 40 = .ok (.getfield 68, 3) := by decide +kernel
theorem dX10_mourner_43 : decode cX10_mourner 43 = .ok (.invokevirtual 193, 3) := by decide +kernel
theorem dX10_mourner_46 : decode cX10_mourner 46 = .ok (.ifCond .ne 5, 3) := by decide +kernel
theorem dX10_mourner_49 : decode cX10_mourner 49 = .ok (.iconst 0, 1) := by decide +kernel
theorem dX10_mourner_50 : decode cX10_mourner 50 = .ok (.ireturn, 1) := by decide +kernel
theorem dX10_mourner_51 : decode cX10_mourner 51 = .ok (.aload_n 0, 1) := by decide +kernel
theorem dX10_mourner_52 : decode cX10_mourner 52 = .ok (.getfield 29, 3) := by decide +kernel
theorem dX10_mourner_55 : decode cX10_mourner 55 = .ok (.aload_n 0, 1) := by decide +kernel
theorem dX10_mourner_56 : decode cX10_mourner 56 = .ok (.getfield 19, 3) := by decide +kernel
theorem dX10_mourner_59 : decode cX10_mourner 59 = .ok (.iload_n 2, 1) := by decide +kernel
theorem dX10_mourner_60 : decode cX10_mourner 60 = .ok (.invokevirtual 212, 3) := by decide +kernel
theorem dX10_mourner_63 : decode cX10_mourner 63 = .ok (.iconst 0, 1) := by decide +kernel
theorem dX10_mourner_64 : decode cX10_mourner 64 = .ok (.istore_n 3, 1) := by decide +kernel
theorem dX10_mourner_65 : decode cX10_mourner 65 = .ok (.iconst 0, 1) := by decide +kernel
theorem dX10_mourner_66 : decode cX10_mourner 66 = .ok (.istore 4, 2) := by decide +kernel
theorem dX10_mourner_68 : decode cX10_mourner 68 = .ok (.iload 4, 2) := by decide +kernel
theorem dX10_mourner_70 : decode cX10_mourner 70 = .ok (.aload_n 0, 1) := by decide +kernel
theorem dX10_mourner_71 : decode cX10_mourner 71 = .ok (.getfield 75, 3) := by decide +kernel
theorem dX10_mourner_74 : decode cX10_mourner 74 = .ok (.getfield 131, 3) := by decide +kernel
theorem dX10_mourner_77 : decode cX10_mourner 77 = .ok (.if_icmp .ge 66, 3) := by decide +kernel
theorem dX10_mourner_80 : decode cX10_mourner 80 = .ok (.aload_n 0, 1) := by decide +kernel
theorem dX10_mourner_81 : decode cX10_mourner 81 = .ok (.getfield 29, 3) := by decide +kernel
theorem dX10_mourner_84 : decode cX10_mourner 84 = .ok (.aload_n 0, 1) := by decide +kernel
theorem dX10_mourner_85 : decode cX10_mourner 85 = .ok (.getfield 19, 3) := by decide +kernel
theorem dX10_mourner_88 : decode cX10_mourner 88 = .ok (.iload 4, 2) := by decide +kernel
theorem dX10_mourner_90 : decode cX10_mourner 90 = .ok (.invokevirtual 220, 3) := by decide +kernel
theorem dX10_mourner_93 : decode cX10_mourner 93 = .ok (.istore 5, 2) := by decide +kernel
theorem dX10_mourner_95 : decode cX10_mourner 95 = .ok (.iload 5, 2) := by decide +kernel
theorem dX10_mourner_97 : decode cX10_mourner 97 = .ok (.iconst 1, 1) := by decide +kernel
theorem dX10_mourner_98 : decode cX10_mourner 98 = .ok (.iload_n 1, 1) := by decide +kernel
theorem dX10_mourner_99 : decode cX10_mourner 99 = .ok (.ishl, 1) := by decide +kernel
theorem dX10_mourner_100 : decode cX10_mourner 100 = .ok (.iconst (-1), 1) := by decide +kernel
theorem dX10_mourner_101 : decode cX10_mourner 101 = .ok (.ixor, 1) := by decide +kernel
theorem dX10_mourner_102 : decode cX10_mourner 102 = .ok (.iand, 1) := by decide +kernel
theorem dX10_mourner_103 : decode cX10_mourner 103 = .ok (.istore 6, 2) := by decide +kernel
theorem dX10_mourner_105 : decode cX10_mourner 105 = .ok (.iload_n 3, 1) := by decide +kernel
theorem dX10_mourner_106 : decode cX10_mourner 106 = .ok (.iload 6, 2) := by decide +kernel
theorem dX10_mourner_108 : decode cX10_mourner 108 = .ok (.invokestatic 315, 3) := by decide +kernel
theorem dX10_mourner_111 : decode cX10_mourner 111 = .ok (.iconst 1, 1) := by decide +kernel
theorem dX10_mourner_112 : decode cX10_mourner 112 = .ok (.if_icmp .ne 7, 3) := by decide +kernel
theorem dX10_mourner_115 : decode cX10_mourner 115 = .ok (.iconst 1, 1) := by decide +kernel
theorem dX10_mourner_116 : decode cX10_mourner 116 = .ok (.goto 4, 3) := by decide +kernel
theorem dX10_mourner_119 : decode cX10_mourner 119 = .ok (.iconst 0, 1) := by decide +kernel
theorem dX10_mourner_120 : decode cX10_mourner 120 = .ok (.iload 5, 2) := by decide +kernel
theorem dX10_mourner_122 : decode cX10_mourner 122 = .ok (.invokestatic 315, 3) := by decide +kernel
theorem dX10_mourner_125 : decode cX10_mourner 125 = .ok (.iconst 1, 1) := by decide +kernel
theorem dX10_mourner_126 : decode cX10_mourner 126 = .ok (.if_icmp .ne 7, 3) := by decide +kernel
theorem dX10_mourner_129 : decode cX10_mourner 129 = .ok (.iconst 1, 1) := by decide +kernel
theorem dX10_mourner_130 : decode cX10_mourner 130 = .ok (.goto 4, 3) := by decide +kernel
theorem dX10_mourner_133 : decode cX10_mourner 133 = .ok (.iconst 0, 1) := by decide +kernel
theorem dX10_mourner_134 : decode cX10_mourner 134 = .ok (.isub, 1) := by decide +kernel
theorem dX10_mourner_135 : decode cX10_mourner 135 = .ok (.iadd, 1) := by decide +kernel
theorem dX10_mourner_136 : decode cX10_mourner 136 = .ok (.istore_n 3, 1) := by decide +kernel
theorem dX10_mourner_137 : decode cX10_mourner 137 = .ok (.iinc 4 1, 3) := by decide +kernel
theorem dX10_mourner_140 : decode cX10_mourner 140 = .ok (.goto (-72), 3) := by decide +kernel
theorem dX10_mourner_143 : decode cX10_mourner 143 = .ok (.iload_n 3, 1) := by decide +kernel
theorem dX10_mourner_144 : decode cX10_mourner 144 = .ok (.ireturn, 1) := by decide +kernel
theorem dX10_image_0 : decode cX10_image 0 = .ok (.aload_n 0, 1) := by decide +kernel
theorem dX10_image_1 : decode cX10_image 1 = .ok (.getfield 23, 3) := by decide +kernel
theorem dX10_image_4 : decode cX10_image 4 = .ok (.aload_n 0, 1) := by decide +kernel
theorem dX10_image_5 : decode cX10_image 5 = .ok (.getfield 19, 3) := by decide +kernel
theorem dX10_image_8 : decode cX10_image 8 = .ok (.invokevirtual 320, 3) := by decide +kernel
theorem dX10_image_11 : decode cX10_image 11 = .ok (.aload_n 0, 1) := by decide +kernel
theorem dX10_image_12 : decode cX10_image 12 = .ok (.iconst 1, 1) := by decide +kernel
theorem dX10_image_13 : decode cX10_image 13 = .ok (.putfield 83, 3) := by decide +kernel
theorem dX10_image_16 : decode cX10_image 16 = .ok (.return_, 1) := by decide +kernel
theorem dX10_restore_0 : decode cX10_restore 0 = .ok (.aload_n 0, 1) := by decide +kernel
theorem dX10_restore_1 : decode cX10_restore 1 = .ok (.getfield 83, 3) := by decide +kernel
theorem dX10_restore_4 : decode cX10_restore 4 = .ok (.ifCond .eq 14, 3) := by decide +kernel
theorem dX10_restore_7 : decode cX10_restore 7 = .ok (.aload_n 0, 1) := by decide +kernel
theorem dX10_restore_8 : decode cX10_restore 8 = .ok (.getfield 19, 3) := by decide +kernel
theorem dX10_restore_11 : decode cX10_restore 11 = .ok (.aload_n 0, 1) := by decide +kernel
theorem dX10_restore_12 : decode cX10_restore 12 = .ok (.getfield 23, 3) := by decide +kernel
theorem dX10_restore_15 : decode cX10_restore 15 = .ok (.invokevirtual 320, 3) := by decide +kernel
theorem dX10_restore_18 : decode cX10_restore 18 = .ok (.aload_n 0, 1) := by decide +kernel
theorem dX10_restore_19 : decode cX10_restore 19 = .ok (.getfield 83, 3) := by decide +kernel
theorem dX10_restore_22 : decode cX10_restore 22 = .ok (.ireturn, 1) := by decide +kernel
theorem dX10_needPerson_0 : decode cX10_needPerson 0 = .ok (.iload_n 1, 1) := by decide +kernel
theorem dX10_needPerson_1 : decode cX10_needPerson 1 = .ok (.ifCond .lt 14, 3) := by decide +kernel
theorem dX10_needPerson_4 : decode cX10_needPerson 4 = .ok (.iload_n 1, 1) := by decide +kernel
theorem dX10_needPerson_5 : decode cX10_needPerson 5 = .ok (.aload_n 0, 1) := by decide +kernel
theorem dX10_needPerson_6 : decode cX10_needPerson 6 = .ok (.getfield 75, 3) := by decide +kernel
theorem dX10_needPerson_9 : decode cX10_needPerson 9 = .ok (.getfield 131, 3) := by decide +kernel
theorem dX10_needPerson_12 : decode cX10_needPerson 12 = .ok (.if_icmp .lt 14, 3) := by decide +kernel
theorem dX10_needPerson_15 : decode cX10_needPerson 15 = .ok (.new 201, 3) := by decide +kernel
theorem dX10_needPerson_18 : decode cX10_needPerson 18 = .ok (.dup, 1) := by decide +kernel
theorem dX10_needPerson_19 : decode cX10_needPerson 19 = .ok (.ldc_w 324, 3) := by decide +kernel
theorem dX10_needPerson_22 : decode cX10_needPerson 22 = .ok (.invokespecial 205, 3) := by decide +kernel
theorem dX10_needPerson_25 : decode cX10_needPerson 25 = .ok (.athrow, 1) := by decide +kernel
theorem dX10_needPerson_26 : decode cX10_needPerson 26 = .ok (.return_, 1) := by decide +kernel
theorem dX10_needHouse_0 : decode cX10_needHouse 0 = .ok (.iload_n 1, 1) := by decide +kernel
theorem dX10_needHouse_1 : decode cX10_needHouse 1 = .ok (.ifCond .lt 14, 3) := by decide +kernel
theorem dX10_needHouse_4 : decode cX10_needHouse 4 = .ok (.iload_n 1, 1) := by decide +kernel
theorem dX10_needHouse_5 : decode cX10_needHouse 5 = .ok (.aload_n 0, 1) := by decide +kernel
theorem dX10_needHouse_6 : decode cX10_needHouse 6 = .ok (.getfield 75, 3) := by decide +kernel
theorem dX10_needHouse_9 : decode cX10_needHouse 9 = .ok (.getfield 128, 3) := by decide +kernel
theorem dX10_needHouse_12 : decode cX10_needHouse 12 = .ok (.if_icmp .lt 14, 3) := by decide +kernel
theorem dX10_needHouse_15 : decode cX10_needHouse 15 = .ok (.new 201, 3) := by decide +kernel
theorem dX10_needHouse_18 : decode cX10_needHouse 18 = .ok (.dup, 1) := by decide +kernel
theorem dX10_needHouse_19 : decode cX10_needHouse 19 = .ok (.ldc_w 326, 3) := by decide +kernel
theorem dX10_needHouse_22 : decode cX10_needHouse 22 = .ok (.invokespecial 205, 3) := by decide +kernel
theorem dX10_needHouse_25 : decode cX10_needHouse 25 = .ok (.athrow, 1) := by decide +kernel
theorem dX10_needHouse_26 : decode cX10_needHouse 26 = .ok (.return_, 1) := by decide +kernel
theorem dX10_needHour_0 : decode cX10_needHour 0 = .ok (.iload_n 0, 1) := by decide +kernel
theorem dX10_needHour_1 : decode cX10_needHour 1 = .ok (.ifCond .lt 10, 3) := by decide +kernel
theorem dX10_needHour_4 : decode cX10_needHour 4 = .ok (.iload_n 0, 1) := by decide +kernel
theorem dX10_needHour_5 : decode cX10_needHour 5 = .ok (.sipush 2399, 3) := by decide +kernel
theorem dX10_needHour_8 : decode cX10_needHour 8 = .ok (.if_icmp .le 14, 3) := by decide +kernel
theorem dX10_needHour_11 : decode cX10_needHour 11 = .ok (.new 201, 3) := by decide +kernel
theorem dX10_needHour_14 : decode cX10_needHour 14 = .ok (.dup, 1) := by decide +kernel
theorem dX10_needHour_15 : decode cX10_needHour 15 = .ok (.ldc_w 328, 3) := by decide +kernel
theorem dX10_needHour_18 : decode cX10_needHour 18 = .ok (.invokespecial 205, 3) := by decide +kernel
theorem dX10_needHour_21 : decode cX10_needHour 21 = .ok (.athrow, 1) := by decide +kernel
theorem dX10_needHour_22 : decode cX10_needHour 22 = .ok (.return_, 1) := by decide +kernel
theorem dX10_needWhat_0 : decode cX10_needWhat 0 = .ok (.iload_n 0, 1) := by decide +kernel
theorem dX10_needWhat_1 : decode cX10_needWhat 1 = .ok (.ifCond .lt 8, 3) := by decide +kernel
theorem dX10_needWhat_4 : decode cX10_needWhat 4 = .ok (.iload_n 0, 1) := by decide +kernel
theorem dX10_needWhat_5 : decode cX10_needWhat 5 = .ok (.iload_n 1, 1) := by decide +kernel
theorem dX10_needWhat_6 : decode cX10_needWhat 6 = .ok (.if_icmp .lt 14, 3) := by decide +kernel
theorem dX10_needWhat_9 : decode cX10_needWhat 9 = .ok (.new 201, 3) := by decide +kernel
theorem dX10_needWhat_12 : decode cX10_needWhat 12 = .ok (.dup, 1) := by decide +kernel
theorem dX10_needWhat_13 : decode cX10_needWhat 13 = .ok (.ldc_w 330, 3) := by decide +kernel
theorem dX10_needWhat_16 : decode cX10_needWhat 16 = .ok (.invokespecial 205, 3) := by decide +kernel
theorem dX10_needWhat_19 : decode cX10_needWhat 19 = .ok (.athrow, 1) := by decide +kernel
theorem dX10_needWhat_20 : decode cX10_needWhat 20 = .ok (.return_, 1) := by decide +kernel
theorem dX10_setValues_0 : decode cX10_setValues 0 = .ok (.aload_n 0, 1) := by decide +kernel
theorem dX10_setValues_1 : decode cX10_setValues 1 = .ok (.getfield 68, 3) := by decide +kernel
theorem dX10_setValues_4 : decode cX10_setValues 4 = .ok (.iconst 0, 1) := by decide +kernel
theorem dX10_setValues_5 : decode cX10_setValues 5 = .ok (.iload_n 1, 1) := by decide +kernel
theorem dX10_setValues_6 : decode cX10_setValues 6 = .ok (.invokestatic 182, 3) := by decide +kernel
theorem dX10_setValues_9 : decode cX10_setValues 9 = .ok (.aload_n 0, 1) := by decide +kernel
theorem dX10_setValues_10 : decode cX10_setValues 10 = .ok (.getfield 68, 3) := by decide +kernel
theorem dX10_setValues_13 : decode cX10_setValues 13 = .ok (.iconst 1, 1) := by decide +kernel
theorem dX10_setValues_14 : decode cX10_setValues 14 = .ok (.iload_n 2, 1) := by decide +kernel
theorem dX10_setValues_15 : decode cX10_setValues 15 = .ok (.invokestatic 182, 3) := by decide +kernel
theorem dX10_setValues_18 : decode cX10_setValues 18 = .ok (.aload_n 0, 1) := by decide +kernel
theorem dX10_setValues_19 : decode cX10_setValues 19 = .ok (.getfield 68, 3) := by decide +kernel
theorem dX10_setValues_22 : decode cX10_setValues 22 = .ok (.iconst 2, 1) := by decide +kernel
theorem dX10_setValues_23 : decode cX10_setValues 23 = .ok (.iload_n 3, 1) := by decide +kernel
theorem dX10_setValues_24 : decode cX10_setValues 24 = .ok (.invokestatic 182, 3) := by decide +kernel
theorem dX10_setValues_27 : decode cX10_setValues 27 = .ok (.aload_n 0, 1) := by decide +kernel
theorem dX10_setValues_28 : decode cX10_setValues 28 = .ok (.getfield 68, 3) := by decide +kernel
theorem dX10_setValues_31 : decode cX10_setValues 31 = .ok (.iconst 3, 1) := by decide +kernel
theorem dX10_setValues_32 : decode cX10_setValues 32 = .ok (.iload 4, 2) := by decide +kernel
theorem dX10_setValues_34 : decode cX10_setValues 34 = .ok (.invokestatic 182, 3) := by decide +kernel
theorem dX10_setValues_37 : decode cX10_setValues 37 = .ok (.aload_n 0, 1) := by decide +kernel
theorem dX10_setValues_38 : decode cX10_setValues 38 = .ok (.getfield 68, 3) := by decide +kernel
theorem dX10_setValues_41 : decode cX10_setValues 41 = .ok (.iconst 4, 1) := by decide +kernel
theorem dX10_setValues_42 : decode cX10_setValues 42 = .ok (.iload 5, 2) := by decide +kernel
theorem dX10_setValues_44 : decode cX10_setValues 44 = .ok (.bipush 24, 2) := by decide +kernel
theorem dX10_setValues_46 : decode cX10_setValues 46 = .ok (.idiv, 1) := by decide +kernel
theorem dX10_setValues_47 : decode cX10_setValues 47 = .ok (.invokestatic 182, 3) := by decide +kernel
theorem dX10_setValues_50 : decode cX10_setValues 50 = .ok (.aload_n 0, 1) := by decide +kernel
theorem dX10_setValues_51 : decode cX10_setValues 51 = .ok (.getfield 68, 3) := by decide +kernel
theorem dX10_setValues_54 : decode cX10_setValues 54 = .ok (.iconst 5, 1) := by decide +kernel
theorem dX10_setValues_55 : decode cX10_setValues 55 = .ok (.iload 5, 2) := by decide +kernel
theorem dX10_setValues_57 : decode cX10_setValues 57 = .ok (.bipush 24, 2) := by decide +kernel
theorem dX10_setValues_59 : decode cX10_setValues 59 = .ok (.irem, 1) := by decide +kernel
theorem dX10_setValues_60 : decode cX10_setValues 60 = .ok (.invokestatic 182, 3) := by decide +kernel
theorem dX10_setValues_63 : decode cX10_setValues 63 = .ok (.aload_n 0, 1) := by decide +kernel
theorem dX10_setValues_64 : decode cX10_setValues 64 = .ok (.getfield 68, 3) := by decide +kernel
theorem dX10_setValues_67 : decode cX10_setValues 67 = .ok (.bipush 6, 2) := by decide +kernel
theorem dX10_setValues_69 : decode cX10_setValues 69 = .ok (.iload 6, 2) := by decide +kernel
theorem dX10_setValues_71 : decode cX10_setValues 71 = .ok (.invokestatic 182, 3) := by decide +kernel
theorem dX10_setValues_74 : decode cX10_setValues 74 = .ok (.return_, 1) := by decide +kernel
theorem dX10_holdsNow_0 : decode cX10_holdsNow 0 = .ok (.aload_n 0, 1) := by decide +kernel
theorem dX10_holdsNow_1 : decode cX10_holdsNow 1 = .ok (.getfield 29, 3) := by decide +kernel
theorem dX10_holdsNow_4 : decode cX10_holdsNow 4 = .ok (.getfield 332, 3) := by decide +kernel
theorem dX10_holdsNow_7 : decode cX10_holdsNow 7 = .ok (.iload_n 2, 1) := by decide +kernel
theorem dX10_holdsNow_8 : decode cX10_holdsNow 8 = .ok (.invokestatic 159, 3) := by decide +kernel
theorem dX10_holdsNow_11 : decode cX10_holdsNow 11 = .ok (.istore_n 3, 1) := by decide +kernel
theorem dX10_holdsNow_12 : decode cX10_holdsNow 12 = .ok (.iload_n 3, 1) := by decide +kernel
theorem dX10_holdsNow_13 : decode cX10_holdsNow 13 = .ok (.iconst (-1), 1) := by decide +kernel
theorem dX10_holdsNow_14 : decode cX10_holdsNow 14 = .ok (.if_icmp .ne 17, 3) := by decide +kernel
theorem dX10_holdsNow_17 : decode cX10_holdsNow 17 = .ok (.aload_n 0, 1) := by decide +kernel
theorem dX10_holdsNow_18 : decode cX10_holdsNow 18 = .ok (.iload_n 2, 1) := by decide +kernel
theorem dX10_holdsNow_19 : decode cX10_holdsNow 19 = .ok (.bipush 99, 2) := by decide +kernel
theorem dX10_holdsNow_21 : decode cX10_holdsNow 21 = .ok (.iconst 0, 1) := by decide +kernel
theorem dX10_holdsNow_22 : decode cX10_holdsNow 22 = .ok (.iconst 0, 1) := by decide +kernel
theorem dX10_holdsNow_23 : decode cX10_holdsNow 23 = .ok (.iconst 0, 1) := by decide +kernel
theorem dX10_holdsNow_24 : decode cX10_holdsNow 24 = .ok (.iconst 0, 1) := by decide +kernel
theorem dX10_holdsNow_25 : decode cX10_holdsNow 25 = .ok (.invokevirtual 189, 3) := by decide +kernel
theorem dX10_holdsNow_28 : decode cX10_holdsNow 28 = .ok (.goto 60, 3) := by decide +kernel
theorem dX10_holdsNow_31 : decode cX10_holdsNow 31 = .ok (.aload_n 0, 1) := by decide +kernel
theorem dX10_holdsNow_32 : decode cX10_holdsNow 32 = .ok (.getfield 19, 3) := by decide +kernel
theorem dX10_holdsNow_35 : decode cX10_holdsNow 35 = .ok (.iload_n 3, 1) := by decide +kernel
theorem dX10_holdsNow_36 : decode cX10_holdsNow 36 = .ok (.iconst 0, 1) := by decide +kernel
theorem dX10_holdsNow_37 : decode cX10_holdsNow 37 = .ok (.invokevirtual 206, 3) := by decide +kernel
theorem dX10_holdsNow_40 : decode cX10_holdsNow 40 = .ok (.istore 4, 2) := by decide +kernel
theorem dX10_holdsNow_42 : decode cX10_holdsNow 42 = .ok (.aload_n 0, 1) := by decide +kernel
theorem dX10_holdsNow_43 : decode cX10_holdsNow 43 = .ok (.iload_n 2, 1) := by decide +kernel
theorem dX10_holdsNow_44 : decode cX10_holdsNow 44 = .ok (.iload 4, 2) := by decide +kernel
theorem dX10_holdsNow_46 : decode cX10_holdsNow 46 = .ok (.aload_n 0, 1) := by decide +kernel
theorem dX10_holdsNow_47 : decode cX10_holdsNow 47 = .ok (.getfield 19, 3) := by decide +kernel
theorem dX10_holdsNow_50 : decode cX10_holdsNow 50 = .ok (.iload_n 3, 1) := by decide +kernel
theorem dX10_holdsNow_51 : decode cX10_holdsNow 51 = .ok (.iconst 3, 1) := by decide +kernel
theorem dX10_holdsNow_52 : decode cX10_holdsNow 52 = .ok (.invokevirtual 206, 3) := by decide +kernel
theorem dX10_holdsNow_55 : decode cX10_holdsNow 55 = .ok (.aload_n 0, 1) := by decide +kernel
theorem dX10_holdsNow_56 : decode cX10_holdsNow 56 = .ok (.getfield 75, 3) := by decide +kernel
theorem dX10_holdsNow_59 : decode cX10_holdsNow 59 = .ok (.getfield 172, 3) := by decide +kernel
theorem dX10_holdsNow_62 : decode cX10_holdsNow 62 = .ok (.iload 4, 2) := by decide +kernel
theorem dX10_holdsNow_64 : decode cX10_holdsNow 64 = .ok (.invokestatic 159, 3) := by decide +kernel
theorem dX10_holdsNow_67 : decode cX10_holdsNow 67 = .ok (.aload_n 0, 1) := by decide +kernel
theorem dX10_holdsNow_68 : decode cX10_holdsNow 68 = .ok (.getfield 19, 3) := by decide +kernel
theorem dX10_holdsNow_71 : decode cX10_holdsNow 71 = .ok (.iload_n 3, 1) := by decide +kernel
theorem dX10_holdsNow_72 : decode cX10_holdsNow 72 = .ok (.iconst 2, 1) := by decide +kernel
theorem dX10_holdsNow_73 : decode cX10_holdsNow 73 = .ok (.invokevirtual 206, 3) := by decide +kernel
theorem dX10_holdsNow_76 : decode cX10_holdsNow 76 = .ok (.aload_n 0, 1) := by decide +kernel
theorem dX10_holdsNow_77 : decode cX10_holdsNow 77 = .ok (.getfield 19, 3) := by decide +kernel
theorem dX10_holdsNow_80 : decode cX10_holdsNow 80 = .ok (.iload_n 3, 1) := by decide +kernel
theorem dX10_holdsNow_81 : decode cX10_holdsNow 81 = .ok (.iconst 4, 1) := by decide +kernel
theorem dX10_holdsNow_82 : decode cX10_holdsNow 82 = .ok (.invokevirtual 206, 3) := by decide +kernel
theorem dX10_holdsNow_85 : decode cX10_holdsNow 85 = .ok (.invokevirtual 189, 3) := by decide +kernel
theorem dX10_holdsNow_88 : decode cX10_holdsNow 88 = .ok (.aload_n 0, 1) := by decide +kernel
theorem dX10_holdsNow_89 : decode cX10_holdsNow 89 = .ok (.getfield 75, 3) := by decide +kernel
theorem dX10_holdsNow_92 : decode cX10_holdsNow 92 = .ok (.iload_n 1, 1) := by decide +kernel
theorem dX10_holdsNow_93 : decode cX10_holdsNow 93 = .ok (.aload_n 0, 1) := by decide +kernel
theorem dX10_holdsNow_94 : decode cX10_holdsNow 94 = .ok (.getfield 68, 3) := by decide +kernel
theorem dX10_holdsNow_97 : decode cX10_holdsNow 97 = .ok (.invokevirtual 335, 3) := by decide +kernel
theorem dX10_holdsNow_100 : decode cX10_holdsNow 100 = .ok (.ireturn, 1) := by decide +kernel
theorem dX10_housesOfAsk_0 : decode cX10_housesOfAsk 0 = .ok (.iconst 0, 1) := by decide +kernel
theorem dX10_housesOfAsk_1 : decode cX10_housesOfAsk 1 = .ok (.istore_n 3, 1) := by decide +kernel
theorem dX10_housesOfAsk_2 : decode cX10_housesOfAsk 2 = .ok (.iconst 0, 1) := by decide +kernel
theorem dX10_housesOfAsk_3 : decode cX10_housesOfAsk 3 = .ok (.istore 4, 2) := by decide +kernel
theorem dX10_housesOfAsk_5 : decode cX10_housesOfAsk 5 = .ok (.iload 4, 2) := by decide +kernel
theorem dX10_housesOfAsk_7 : decode cX10_housesOfAsk 7 = .ok (.aload_n 0, 1) := by decide +kernel
theorem dX10_housesOfAsk_8 : decode cX10_housesOfAsk 8 = .ok (.getfield 75, 3) := by decide +kernel
theorem dX10_housesOfAsk_11 : decode cX10_housesOfAsk 11 = .ok (.getfield 128, 3) := by decide +kernel
theorem dX10_housesOfAsk_14 : decode cX10_housesOfAsk 14 = .ok (.if_icmp .ge 36, 3) := by decide +kernel
theorem dX10_housesOfAsk_17 : decode cX10_housesOfAsk 17 = .ok (.iload_n 2, 1) := by decide +kernel
theorem dX10_housesOfAsk_18 : decode cX10_housesOfAsk 18 = .ok (.iload 4, 2) := by decide +kernel
theorem dX10_housesOfAsk_20 : decode cX10_housesOfAsk 20 = .ok (.ishr, 1) := by decide +kernel
theorem dX10_housesOfAsk_21 : decode cX10_housesOfAsk 21 = .ok (.iconst 1, 1) := by decide +kernel
theorem dX10_housesOfAsk_22 : decode cX10_housesOfAsk 22 = .ok (.iand, 1) := by decide +kernel
theorem dX10_housesOfAsk_23 : decode cX10_housesOfAsk 23 = .ok (.iconst 1, 1) := by decide +kernel
theorem dX10_housesOfAsk_24 : decode cX10_housesOfAsk 24 = .ok (.if_icmp .ne 20, 3) := by decide +kernel
theorem dX10_housesOfAsk_27 : decode cX10_housesOfAsk 27 = .ok (.aload_n 0, 1) := by decide +kernel
theorem dX10_housesOfAsk_28 : decode cX10_housesOfAsk 28 = .ok (.iload_n 1, 1) := by decide +kernel
theorem dX10_housesOfAsk_29 : decode cX10_housesOfAsk 29 = .ok (.iload 4, 2) := by decide +kernel
theorem dX10_housesOfAsk_31 : decode cX10_housesOfAsk 31 = .ok (.invokevirtual 260, 3) := by decide +kernel
theorem dX10_housesOfAsk_34 : decode cX10_housesOfAsk 34 = .ok (.ifCond .eq 10, 3) := by decide +kernel
theorem dX10_housesOfAsk_37 : decode cX10_housesOfAsk 37 = .ok (.iload_n 3, 1) := by decide +kernel
theorem dX10_housesOfAsk_38 : decode cX10_housesOfAsk 38 = .ok (.iconst 1, 1) := by decide +kernel
theorem dX10_housesOfAsk_39 : decode cX10_housesOfAsk 39 = .ok (.iload 4, 2) := by decide +kernel
theorem dX10_housesOfAsk_41 : decode cX10_housesOfAsk 41 = .ok (.ishl, 1) := by decide +kernel
theorem dX10_housesOfAsk_42 : decode cX10_housesOfAsk 42 = .ok (.ior, 1) := by decide +kernel
theorem dX10_housesOfAsk_43 : decode cX10_housesOfAsk 43 = .ok (.istore_n 3, 1) := by decide +kernel
theorem dX10_housesOfAsk_44 : decode cX10_housesOfAsk 44 = .ok (.iinc 4 1, 3) := by decide +kernel
theorem dX10_housesOfAsk_47 : decode cX10_housesOfAsk 47 = .ok (.goto (-42), 3) := by decide +kernel
theorem dX10_housesOfAsk_50 : decode cX10_housesOfAsk 50 = .ok (.iload_n 3, 1) := by decide +kernel
theorem dX10_housesOfAsk_51 : decode cX10_housesOfAsk 51 = .ok (.ireturn, 1) := by decide +kernel
theorem dX10_at_0 : decode cX10_at 0 = .ok (.iload_n 1, 1) := by decide +kernel
theorem dX10_at_1 : decode cX10_at 1 = .ok (.ifCond .lt 15, 3) := by decide +kernel
theorem dX10_at_4 : decode cX10_at 4 = .ok (.iload_n 1, 1) := by decide +kernel
theorem dX10_at_5 : decode cX10_at 5 = .ok (.aload_n 0, 1) := by decide +kernel
theorem dX10_at_6 : decode cX10_at 6 = .ok (.arraylength, 1) := by decide +kernel
theorem dX10_at_7 : decode cX10_at 7 = .ok (.if_icmp .ge 9, 3) := by decide +kernel
theorem dX10_at_10 : decode cX10_at 10 = .ok (.aload_n 0, 1) := by decide +kernel
theorem dX10_at_11 : decode cX10_at 11 = .ok (.iload_n 1, 1) := by decide +kernel
theorem dX10_at_12 : decode cX10_at 12 = .ok (.iaload, 1) := by decide +kernel
theorem dX10_at_13 : decode cX10_at 13 = .ok (.goto 4, 3) := by decide +kernel
theorem dX10_at_16 : decode cX10_at 16 = .ok (.iconst 0, 1) := by decide +kernel
theorem dX10_at_17 : decode cX10_at 17 = .ok (.ireturn, 1) := by decide +kernel
theorem dX10_put_0 : decode cX10_put 0 = .ok (.iload_n 1, 1) := by decide +kernel
theorem dX10_put_1 : decode cX10_put 1 = .ok (.ifCond .lt 13, 3) := by decide +kernel
theorem dX10_put_4 : decode cX10_put 4 = .ok (.iload_n 1, 1) := by decide +kernel
theorem dX10_put_5 : decode cX10_put 5 = .ok (.aload_n 0, 1) := by decide +kernel
theorem dX10_put_6 : decode cX10_put 6 = .ok (.arraylength, 1) := by decide +kernel
theorem dX10_put_7 : decode cX10_put 7 = .ok (.if_icmp .ge 7, 3) := by decide +kernel
theorem dX10_put_10 : decode cX10_put 10 = .ok (.aload_n 0, 1) := by decide +kernel
theorem dX10_put_11 : decode cX10_put 11 = .ok (.iload_n 1, 1) := by decide +kernel
theorem dX10_put_12 : decode cX10_put 12 = .ok (.iload_n 2, 1) := by decide +kernel
theorem dX10_put_13 : decode cX10_put 13 = .ok (.iastore, 1) := by decide +kernel
theorem dX10_put_14 : decode cX10_put 14 = .ok (.return_, 1) := by decide +kernel
theorem dX10_copyRow_0 : decode cX10_copyRow 0 = .ok (.aload_n 0, 1) := by decide +kernel
theorem dX10_copyRow_1 : decode cX10_copyRow 1 = .ok (.iconst 0, 1) := by decide +kernel
theorem dX10_copyRow_2 : decode cX10_copyRow 2 = .ok (.aload_n 1, 1) := by decide +kernel
theorem dX10_copyRow_3 : decode cX10_copyRow 3 = .ok (.iconst 0, 1) := by decide +kernel
theorem dX10_copyRow_4 : decode cX10_copyRow 4 = .ok (.aload_n 0, 1) := by decide +kernel
theorem dX10_copyRow_5 : decode cX10_copyRow 5 = .ok (.arraylength, 1) := by decide +kernel
theorem dX10_copyRow_6 : decode cX10_copyRow 6 = .ok (.aload_n 1, 1) := by decide +kernel
theorem dX10_copyRow_7 : decode cX10_copyRow 7 = .ok (.arraylength, 1) := by decide +kernel
theorem dX10_copyRow_8 : decode cX10_copyRow 8 = .ok (.invokestatic 339, 3) := by decide +kernel
theorem dX10_copyRow_11 : decode cX10_copyRow 11 = .ok (.invokestatic 344, 3) := by decide +kernel
theorem dX10_copyRow_14 : decode cX10_copyRow 14 = .ok (.return_, 1) := by decide +kernel
